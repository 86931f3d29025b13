abbrev rmX11_isOpen : Room := { frames := 0, cells := 0, slots := 0, locals := 0 }
set_option maxHeartbeats 4000000 in
set_option maxRecDepth 100000 in
theorem c_X11_isOpen {l : Launch} {D : va_G} {cA : Nat → ClassId} {A : Nat → Prop} {ws : va_W} {st i : Nat} (hst : st < 64) (hi : i < 64) : Met l yX11_isOpen wsX11_isOpen rmX11_isOpen (va_Pc [.int (nI st), .int (nI i)] (Pre D cA A (ws))) (va_Qi (fun r _ => r = b2i (decide (i < 6) && st.testBit i)) (fun u t => Wd D A ((fun (_ : Unit) => ws) u) t) A) (0) (0) A := by
  refine k_ofi (S := Unit) (F := fun (_ : Unit) => ws) (cc := cX11_isOpen) (maxL := 2) (by decide) rfl (Nat.le_of_ble_eq_true rfl) ?_
  intro p e s m args below meth c Q hF hini hK hA hG hret ls hl
  have hl : lv_has ls 2 [(0, .int (nI st)), (1, .int (nI i))] := hl
  refine lv_iload_n hF.1 hF.2.1 dX11_isOpen_0 rfl (lv_at hl 1 rfl) ?_
  refine lv_if_lt (tgt := 23) hF.1 hF.2.1 dX11_isOpen_1 (by decide) (fun c_1 => ?_) (fun c_1 => ?_)
  · --
    refine lv_iconst (v := (nI 0)) hF.1 hF.2.1 dX11_isOpen_23 (by decide +kernel) ?_
    exact hret _ () _ ls _ _ _ _ (by revert c_1; apply fin2 64 64 st i hst hi; decide +kernel) (by first | rfl | exact nar_b2i _) hG (Nat.le_of_ble_eq_true rfl) (Nat.le_of_ble_eq_true rfl) dX11_isOpen_24
  · --
    refine lv_iload_n hF.1 hF.2.1 dX11_isOpen_4 rfl (lv_at hl 1 rfl) ?_
    refine lv_bipush (v := (nI 6)) hF.1 hF.2.1 dX11_isOpen_5 (by decide +kernel) ?_
    refine lv_icmp_ge (tgt := 23) hF.1 hF.2.1 dX11_isOpen_7 (by decide) (fun c_7 => ?_) (fun c_7 => ?_)
    · --
      refine lv_iconst (v := (nI 0)) hF.1 hF.2.1 dX11_isOpen_23 (by decide +kernel) ?_
      exact hret _ () _ ls _ _ _ _ (by revert c_1 c_7; apply fin2 64 64 st i hst hi; decide +kernel) (by first | rfl | exact nar_b2i _) hG (Nat.le_of_ble_eq_true rfl) (Nat.le_of_ble_eq_true rfl) dX11_isOpen_24
    · --
      refine lv_iload_n hF.1 hF.2.1 dX11_isOpen_10 rfl (lv_at hl 0 rfl) ?_
      refine lv_iload_n hF.1 hF.2.1 dX11_isOpen_11 rfl (lv_at hl 1 rfl) ?_
      refine lv_ishr hF.1 hF.2.1 dX11_isOpen_12 ?_
      refine lv_iconst (v := (nI 1)) hF.1 hF.2.1 dX11_isOpen_13 (by decide +kernel) ?_
      refine lv_iand hF.1 hF.2.1 dX11_isOpen_14 ?_
      refine lv_iconst (v := (nI 1)) hF.1 hF.2.1 dX11_isOpen_15 (by decide +kernel) ?_
      refine lv_icmp_ne (tgt := 23) hF.1 hF.2.1 dX11_isOpen_16 (by decide) (fun c_16 => ?_) (fun c_16 => ?_)
      · --
        refine lv_iconst (v := (nI 0)) hF.1 hF.2.1 dX11_isOpen_23 (by decide +kernel) ?_
        exact hret _ () _ ls _ _ _ _ (by revert c_1 c_7 c_16; apply fin2 64 64 st i hst hi; decide +kernel) (by first | rfl | exact nar_b2i _) hG (Nat.le_of_ble_eq_true rfl) (Nat.le_of_ble_eq_true rfl) dX11_isOpen_24
      · --
        refine lv_iconst (v := (nI 1)) hF.1 hF.2.1 dX11_isOpen_19 (by decide +kernel) ?_
        refine lv_goto (tgt := 24) hF.1 hF.2.1 dX11_isOpen_20 (by decide) ?_
        exact hret _ () _ ls _ _ _ _ (by revert c_1 c_7 c_16; apply fin2 64 64 st i hst hi; decide +kernel) (by first | rfl | exact nar_b2i _) hG (Nat.le_of_ble_eq_true rfl) (Nat.le_of_ble_eq_true rfl) dX11_isOpen_24

abbrev rmX11_turned : Room := { frames := 0, cells := 0, slots := 0, locals := 0 }
set_option maxHeartbeats 4000000 in
set_option maxRecDepth 100000 in
theorem c_X11_turned {l : Launch} {D : va_G} {cA : Nat → ClassId} {A : Nat → Prop} {ws : va_W} {st i : Nat} (hi : i < 6) : Met l yX11_turned wsX11_turned rmX11_turned (va_Pc [.int (nI st), .int (nI i)] (Pre D cA A (ws))) (va_Qi (fun r _ => r = nI (st ^^^ 2 ^ i)) (fun u t => Wd D A ((fun (_ : Unit) => ws) u) t) A) (0) (0) A := by
  refine k_ofi (S := Unit) (F := fun (_ : Unit) => ws) (cc := cX11_turned) (maxL := 2) (by decide) rfl (Nat.le_of_ble_eq_true rfl) ?_
  intro p e s m args below meth c Q hF hini hK hA hG hret ls hl
  have hl : lv_has ls 2 [(0, .int (nI st)), (1, .int (nI i))] := hl
  refine lv_iload_n hF.1 hF.2.1 dX11_turned_0 rfl (lv_at hl 0 rfl) ?_
  refine lv_iconst (v := (nI 1)) hF.1 hF.2.1 dX11_turned_1 (by decide +kernel) ?_
  refine lv_iload_n hF.1 hF.2.1 dX11_turned_2 rfl (lv_at hl 1 rfl) ?_
  refine lv_ishl hF.1 hF.2.1 dX11_turned_3 ?_
  rw [shl_1 (by omega)]
  refine lv_ixor hF.1 hF.2.1 dX11_turned_4 ?_
  rw [nx_xor]
  exact hret _ () _ ls _ _ _ _ (by first | rfl | (simp_all; done)) (by first | rfl | exact nar_b2i _) hG (Nat.le_of_ble_eq_true rfl) (Nat.le_of_ble_eq_true rfl) dX11_turned_5

abbrev rmX11_isShelf : Room := { frames := 0, cells := 0, slots := 0, locals := 0 }
set_option maxHeartbeats 4000000 in
set_option maxRecDepth 100000 in
theorem c_X11_isShelf {l : Launch} {D : va_G} {cA : Nat → ClassId} {A : Nat → Prop} {ws : va_W} {d : Int32} : Met l yX11_isShelf wsX11_isShelf rmX11_isShelf (va_Pc [.int d] (Pre D cA A (ws))) (va_Qi (fun r _ => r = b2i (inB 8 d)) (fun u t => Wd D A ((fun (_ : Unit) => ws) u) t) A) (0) (0) A := by
  refine k_ofi (S := Unit) (F := fun (_ : Unit) => ws) (cc := cX11_isShelf) (maxL := 1) (by decide) rfl (Nat.le_of_ble_eq_true rfl) ?_
  intro p e s m args below meth c Q hF hini hK hA hG hret ls hl
  have hl : lv_has ls 1 [(0, .int d)] := hl
  refine lv_iload_n hF.1 hF.2.1 dX11_isShelf_0 rfl (lv_at hl 0 rfl) ?_
  refine lv_if_lt (tgt := 14) hF.1 hF.2.1 dX11_isShelf_1 (by decide) (fun c_1 => ?_) (fun c_1 => ?_)
  · --
    refine lv_iconst (v := (nI 0)) hF.1 hF.2.1 dX11_isShelf_14 (by decide +kernel) ?_
    exact hret _ () _ ls _ _ _ _ (by first | (rw [inB_t c_1 c_7]; rfl) | (rw [inB_l c_1]; rfl) | (rw [inB_r c_7]; rfl)) (by first | rfl | exact nar_b2i _) hG (Nat.le_of_ble_eq_true rfl) (Nat.le_of_ble_eq_true rfl) dX11_isShelf_15
  · --
    refine lv_iload_n hF.1 hF.2.1 dX11_isShelf_4 rfl (lv_at hl 0 rfl) ?_
    refine lv_bipush (v := (nI 8)) hF.1 hF.2.1 dX11_isShelf_5 (by decide +kernel) ?_
    refine lv_icmp_ge (tgt := 14) hF.1 hF.2.1 dX11_isShelf_7 (by decide) (fun c_7 => ?_) (fun c_7 => ?_)
    · --
      refine lv_iconst (v := (nI 0)) hF.1 hF.2.1 dX11_isShelf_14 (by decide +kernel) ?_
      exact hret _ () _ ls _ _ _ _ (by first | (rw [inB_t c_1 c_7]; rfl) | (rw [inB_l c_1]; rfl) | (rw [inB_r c_7]; rfl)) (by first | rfl | exact nar_b2i _) hG (Nat.le_of_ble_eq_true rfl) (Nat.le_of_ble_eq_true rfl) dX11_isShelf_15
    · --
      refine lv_iconst (v := (nI 1)) hF.1 hF.2.1 dX11_isShelf_10 (by decide +kernel) ?_
      refine lv_goto (tgt := 15) hF.1 hF.2.1 dX11_isShelf_11 (by decide) ?_
      exact hret _ () _ ls _ _ _ _ (by first | (rw [inB_t c_1 c_7]; rfl) | (rw [inB_l c_1]; rfl) | (rw [inB_r c_7]; rfl)) (by first | rfl | exact nar_b2i _) hG (Nat.le_of_ble_eq_true rfl) (Nat.le_of_ble_eq_true rfl) dX11_isShelf_15

abbrev rmX11_isFigure : Room := { frames := 0, cells := 0, slots := 0, locals := 0 }
set_option maxHeartbeats 4000000 in
set_option maxRecDepth 100000 in
theorem c_X11_isFigure {l : Launch} {D : va_G} {cA : Nat → ClassId} {A : Nat → Prop} {ws : va_W} {d : Int32} : Met l yX11_isFigure wsX11_isFigure rmX11_isFigure (va_Pc [.int d] (Pre D cA A (ws))) (va_Qi (fun r _ => r = b2i (inB 10 d)) (fun u t => Wd D A ((fun (_ : Unit) => ws) u) t) A) (0) (0) A := by
  refine k_ofi (S := Unit) (F := fun (_ : Unit) => ws) (cc := cX11_isFigure) (maxL := 1) (by decide) rfl (Nat.le_of_ble_eq_true rfl) ?_
  intro p e s m args below meth c Q hF hini hK hA hG hret ls hl
  have hl : lv_has ls 1 [(0, .int d)] := hl
  refine lv_iload_n hF.1 hF.2.1 dX11_isFigure_0 rfl (lv_at hl 0 rfl) ?_
  refine lv_if_lt (tgt := 14) hF.1 hF.2.1 dX11_isFigure_1 (by decide) (fun c_1 => ?_) (fun c_1 => ?_)
  · --
    refine lv_iconst (v := (nI 0)) hF.1 hF.2.1 dX11_isFigure_14 (by decide +kernel) ?_
    exact hret _ () _ ls _ _ _ _ (by first | (rw [inB_t c_1 c_7]; rfl) | (rw [inB_l c_1]; rfl) | (rw [inB_r c_7]; rfl)) (by first | rfl | exact nar_b2i _) hG (Nat.le_of_ble_eq_true rfl) (Nat.le_of_ble_eq_true rfl) dX11_isFigure_15
  · --
    refine lv_iload_n hF.1 hF.2.1 dX11_isFigure_4 rfl (lv_at hl 0 rfl) ?_
    refine lv_bipush (v := (nI 10)) hF.1 hF.2.1 dX11_isFigure_5 (by decide +kernel) ?_
    refine lv_icmp_ge (tgt := 14) hF.1 hF.2.1 dX11_isFigure_7 (by decide) (fun c_7 => ?_) (fun c_7 => ?_)
    · --
      refine lv_iconst (v := (nI 0)) hF.1 hF.2.1 dX11_isFigure_14 (by decide +kernel) ?_
      exact hret _ () _ ls _ _ _ _ (by first | (rw [inB_t c_1 c_7]; rfl) | (rw [inB_l c_1]; rfl) | (rw [inB_r c_7]; rfl)) (by first | rfl | exact nar_b2i _) hG (Nat.le_of_ble_eq_true rfl) (Nat.le_of_ble_eq_true rfl) dX11_isFigure_15
    · --
      refine lv_iconst (v := (nI 1)) hF.1 hF.2.1 dX11_isFigure_10 (by decide +kernel) ?_
      refine lv_goto (tgt := 15) hF.1 hF.2.1 dX11_isFigure_11 (by decide) ?_
      exact hret _ () _ ls _ _ _ _ (by first | (rw [inB_t c_1 c_7]; rfl) | (rw [inB_l c_1]; rfl) | (rw [inB_r c_7]; rfl)) (by first | rfl | exact nar_b2i _) hG (Nat.le_of_ble_eq_true rfl) (Nat.le_of_ble_eq_true rfl) dX11_isFigure_15

abbrev rmX11_isDigit : Room := { frames := 0, cells := 0, slots := 0, locals := 0 }
set_option maxHeartbeats 4000000 in
set_option maxRecDepth 100000 in
theorem c_X11_isDigit {l : Launch} {D : va_G} {cA : Nat → ClassId} {A : Nat → Prop} {ws : va_W} {d : Int32} : Met l yX11_isDigit wsX11_isDigit rmX11_isDigit (va_Pc [.int d] (Pre D cA A (ws))) (va_Qi (fun r _ => r = b2i (dgB d)) (fun u t => Wd D A ((fun (_ : Unit) => ws) u) t) A) (0) (0) A := by
  refine k_ofi (S := Unit) (F := fun (_ : Unit) => ws) (cc := cX11_isDigit) (maxL := 1) (by decide) rfl (Nat.le_of_ble_eq_true rfl) ?_
  intro p e s m args below meth c Q hF hini hK hA hG hret ls hl
  have hl : lv_has ls 1 [(0, .int d)] := hl
  refine lv_iload_n hF.1 hF.2.1 dX11_isDigit_0 rfl (lv_at hl 0 rfl) ?_
  refine lv_bipush (v := (nI 48)) hF.1 hF.2.1 dX11_isDigit_1 (by decide +kernel) ?_
  refine lv_icmp_lt (tgt := 16) hF.1 hF.2.1 dX11_isDigit_3 (by decide) (fun c_3 => ?_) (fun c_3 => ?_)
  · --
    refine lv_iconst (v := (nI 0)) hF.1 hF.2.1 dX11_isDigit_16 (by decide +kernel) ?_
    exact hret _ () _ ls _ _ _ _ (by first | (rw [dgB_t c_3 c_9]; rfl) | (rw [dgB_l c_3]; rfl) | (rw [dgB_r c_9]; rfl)) (by first | rfl | exact nar_b2i _) hG (Nat.le_of_ble_eq_true rfl) (Nat.le_of_ble_eq_true rfl) dX11_isDigit_17
  · --
    refine lv_iload_n hF.1 hF.2.1 dX11_isDigit_6 rfl (lv_at hl 0 rfl) ?_
    refine lv_bipush (v := (nI 57)) hF.1 hF.2.1 dX11_isDigit_7 (by decide +kernel) ?_
    refine lv_icmp_gt (tgt := 16) hF.1 hF.2.1 dX11_isDigit_9 (by decide) (fun c_9 => ?_) (fun c_9 => ?_)
    · --
      refine lv_iconst (v := (nI 0)) hF.1 hF.2.1 dX11_isDigit_16 (by decide +kernel) ?_
      exact hret _ () _ ls _ _ _ _ (by first | (rw [dgB_t c_3 c_9]; rfl) | (rw [dgB_l c_3]; rfl) | (rw [dgB_r c_9]; rfl)) (by first | rfl | exact nar_b2i _) hG (Nat.le_of_ble_eq_true rfl) (Nat.le_of_ble_eq_true rfl) dX11_isDigit_17
    · --
      refine lv_iconst (v := (nI 1)) hF.1 hF.2.1 dX11_isDigit_12 (by decide +kernel) ?_
      refine lv_goto (tgt := 17) hF.1 hF.2.1 dX11_isDigit_13 (by decide) ?_
      exact hret _ () _ ls _ _ _ _ (by first | (rw [dgB_t c_3 c_9]; rfl) | (rw [dgB_l c_3]; rfl) | (rw [dgB_r c_9]; rfl)) (by first | rfl | exact nar_b2i _) hG (Nat.le_of_ble_eq_true rfl) (Nat.le_of_ble_eq_true rfl) dX11_isDigit_17

abbrev rmX11_fault : Room := { frames := 0, cells := 0, slots := 0, locals := 0 }
set_option maxHeartbeats 4000000 in
set_option maxRecDepth 100000 in
theorem c_X11_fault {l : Launch} {D : va_G} {cA : Nat → ClassId} {A : Nat → Prop} {ws : va_W} {k z : Int32} : Met l yX11_fault wsX11_fault rmX11_fault (va_Pc [.int k, .int z] (Pre D cA A (ws))) (va_Qi (fun r _ => r = (-1000) * k - z) (fun u t => Wd D A ((fun (_ : Unit) => ws) u) t) A) (0) (0) A := by
  refine k_ofi (S := Unit) (F := fun (_ : Unit) => ws) (cc := cX11_fault) (maxL := 2) (by decide) rfl (Nat.le_of_ble_eq_true rfl) ?_
  intro p e s m args below meth c Q hF hini hK hA hG hret ls hl
  have hl : lv_has ls 2 [(0, .int k), (1, .int z)] := hl
  refine lv_sipush (v := (-1000)) hF.1 hF.2.1 dX11_fault_0 (by decide +kernel) ?_
  refine lv_iload_n hF.1 hF.2.1 dX11_fault_3 rfl (lv_at hl 0 rfl) ?_
  refine lv_imul hF.1 hF.2.1 dX11_fault_4 ?_
  refine lv_iload_n hF.1 hF.2.1 dX11_fault_5 rfl (lv_at hl 1 rfl) ?_
  refine lv_isub hF.1 hF.2.1 dX11_fault_6 ?_
  exact hret _ () _ ls _ _ _ _ (by first | rfl | (simp_all; done)) (by first | rfl | exact nar_b2i _) hG (Nat.le_of_ble_eq_true rfl) (Nat.le_of_ble_eq_true rfl) dX11_fault_7

abbrev rmJ6_bitCount_0f7a4 : Room := { frames := 0, cells := 0, slots := 0, locals := 0 }
set_option maxHeartbeats 4000000 in
set_option maxRecDepth 100000 in
theorem c_J6_bitCount_0f7a4 {l : Launch} {D : va_G} {cA : Nat → ClassId} {A : Nat → Prop} {ws : va_W} {st : Nat} (hst : st < 256) : Met l yJ6_bitCount_0f7a4 wsJ6_bitCount_0f7a4 rmJ6_bitCount_0f7a4 (va_Pc [.int (nI st)] (Pre D cA A (ws))) (va_Qi (fun r _ => r = nI (cnt st)) (fun u t => Wd D A ((fun (_ : Unit) => ws) u) t) A) (0) (0) A := by
  refine k_ofi (S := Unit) (F := fun (_ : Unit) => ws) (cc := cJ6_bitCount_0f7a4) (maxL := 1) (by decide) rfl (Nat.le_of_ble_eq_true rfl) ?_
  intro p e s m args below meth c Q hF hini hK hA hG hret ls hl
  have hl : lv_has ls 1 [(0, .int (nI st))] := hl
  refine lv_iload_n hF.1 hF.2.1 dJ6_bitCount_0f7a4_0 rfl (lv_at hl 0 rfl) ?_
  refine lv_iload_n hF.1 hF.2.1 dJ6_bitCount_0f7a4_1 rfl (lv_at hl 0 rfl) ?_
  refine lv_iconst (v := (nI 1)) hF.1 hF.2.1 dJ6_bitCount_0f7a4_2 (by decide +kernel) ?_
  refine lv_iushr hF.1 hF.2.1 dJ6_bitCount_0f7a4_3 rfl ?_
  refine lv_ldcw hF.1 hF.2.1 (own := RJ6) hF.2.2.2.1 (hF.2.2.2.2 _ (List.mem_of_getElem? (i := 1) rfl)) dJ6_bitCount_0f7a4_4 ?_
  refine lv_iand hF.1 hF.2.1 dJ6_bitCount_0f7a4_7 ?_
  refine lv_isub hF.1 hF.2.1 dJ6_bitCount_0f7a4_8 ?_
  refine lv_istore_n (lv' := [(0, .int ((nI st) - (((nI st).toUInt32 >>> ((nI 1).toUInt32 &&& Int32.toUInt32 31)).toInt32 &&& (1431655765))))]) hF.1 hF.2.1 dJ6_bitCount_0f7a4_9 rfl hl (by decide) rfl (fun ls hl => ?_)
  refine lv_iload_n hF.1 hF.2.1 dJ6_bitCount_0f7a4_10 rfl (lv_at hl 0 rfl) ?_
  refine lv_ldcw hF.1 hF.2.1 (own := RJ6) hF.2.2.2.1 (hF.2.2.2.2 _ (List.mem_of_getElem? (i := 2) rfl)) dJ6_bitCount_0f7a4_11 ?_
  refine lv_iand hF.1 hF.2.1 dJ6_bitCount_0f7a4_14 ?_
  refine lv_iload_n hF.1 hF.2.1 dJ6_bitCount_0f7a4_15 rfl (lv_at hl 0 rfl) ?_
  refine lv_iconst (v := (nI 2)) hF.1 hF.2.1 dJ6_bitCount_0f7a4_16 (by decide +kernel) ?_
  refine lv_iushr hF.1 hF.2.1 dJ6_bitCount_0f7a4_17 rfl ?_
  refine lv_ldcw hF.1 hF.2.1 (own := RJ6) hF.2.2.2.1 (hF.2.2.2.2 _ (List.mem_of_getElem? (i := 2) rfl)) dJ6_bitCount_0f7a4_18 ?_
  refine lv_iand hF.1 hF.2.1 dJ6_bitCount_0f7a4_21 ?_
  refine lv_iadd hF.1 hF.2.1 dJ6_bitCount_0f7a4_22 ?_
  refine lv_istore_n (lv' := [(0, .int ((((nI st) - (((nI st).toUInt32 >>> ((nI 1).toUInt32 &&& Int32.toUInt32 31)).toInt32 &&& (1431655765))) &&& (858993459)) + ((((nI st) - (((nI st).toUInt32 >>> ((nI 1).toUInt32 &&& Int32.toUInt32 31)).toInt32 &&& (1431655765))).toUInt32 >>> ((nI 2).toUInt32 &&& Int32.toUInt32 31)).toInt32 &&& (858993459))))]) hF.1 hF.2.1 dJ6_bitCount_0f7a4_23 rfl hl (by decide) rfl (fun ls hl => ?_)
  refine lv_iload_n hF.1 hF.2.1 dJ6_bitCount_0f7a4_24 rfl (lv_at hl 0 rfl) ?_
  refine lv_iload_n hF.1 hF.2.1 dJ6_bitCount_0f7a4_25 rfl (lv_at hl 0 rfl) ?_
  refine lv_iconst (v := (nI 4)) hF.1 hF.2.1 dJ6_bitCount_0f7a4_26 (by decide +kernel) ?_
  refine lv_iushr hF.1 hF.2.1 dJ6_bitCount_0f7a4_27 rfl ?_
  refine lv_iadd hF.1 hF.2.1 dJ6_bitCount_0f7a4_28 ?_
  refine lv_ldcw hF.1 hF.2.1 (own := RJ6) hF.2.2.2.1 (hF.2.2.2.2 _ (List.mem_of_getElem? (i := 3) rfl)) dJ6_bitCount_0f7a4_29 ?_
  refine lv_iand hF.1 hF.2.1 dJ6_bitCount_0f7a4_32 ?_
  refine lv_istore_n (lv' := [(0, .int ((((((nI st) - (((nI st).toUInt32 >>> ((nI 1).toUInt32 &&& Int32.toUInt32 31)).toInt32 &&& (1431655765))) &&& (858993459)) + ((((nI st) - (((nI st).toUInt32 >>> ((nI 1).toUInt32 &&& Int32.toUInt32 31)).toInt32 &&& (1431655765))).toUInt32 >>> ((nI 2).toUInt32 &&& Int32.toUInt32 31)).toInt32 &&& (858993459))) + (((((nI st) - (((nI st).toUInt32 >>> ((nI 1).toUInt32 &&& Int32.toUInt32 31)).toInt32 &&& (1431655765))) &&& (858993459)) + ((((nI st) - (((nI st).toUInt32 >>> ((nI 1).toUInt32 &&& Int32.toUInt32 31)).toInt32 &&& (1431655765))).toUInt32 >>> ((nI 2).toUInt32 &&& Int32.toUInt32 31)).toInt32 &&& (858993459))).toUInt32 >>> ((nI 4).toUInt32 &&& Int32.toUInt32 31)).toInt32) &&& (252645135)))]) hF.1 hF.2.1 dJ6_bitCount_0f7a4_33 rfl hl (by decide) rfl (fun ls hl => ?_)
  refine lv_iload_n hF.1 hF.2.1 dJ6_bitCount_0f7a4_34 rfl (lv_at hl 0 rfl) ?_
  refine lv_iload_n hF.1 hF.2.1 dJ6_bitCount_0f7a4_35 rfl (lv_at hl 0 rfl) ?_
  refine lv_bipush (v := (nI 8)) hF.1 hF.2.1 dJ6_bitCount_0f7a4_36 (by decide +kernel) ?_
  refine lv_iushr hF.1 hF.2.1 dJ6_bitCount_0f7a4_38 rfl ?_
  refine lv_iadd hF.1 hF.2.1 dJ6_bitCount_0f7a4_39 ?_
  refine lv_istore_n (lv' := [(0, .int (((((((nI st) - (((nI st).toUInt32 >>> ((nI 1).toUInt32 &&& Int32.toUInt32 31)).toInt32 &&& (1431655765))) &&& (858993459)) + ((((nI st) - (((nI st).toUInt32 >>> ((nI 1).toUInt32 &&& Int32.toUInt32 31)).toInt32 &&& (1431655765))).toUInt32 >>> ((nI 2).toUInt32 &&& Int32.toUInt32 31)).toInt32 &&& (858993459))) + (((((nI st) - (((nI st).toUInt32 >>> ((nI 1).toUInt32 &&& Int32.toUInt32 31)).toInt32 &&& (1431655765))) &&& (858993459)) + ((((nI st) - (((nI st).toUInt32 >>> ((nI 1).toUInt32 &&& Int32.toUInt32 31)).toInt32 &&& (1431655765))).toUInt32 >>> ((nI 2).toUInt32 &&& Int32.toUInt32 31)).toInt32 &&& (858993459))).toUInt32 >>> ((nI 4).toUInt32 &&& Int32.toUInt32 31)).toInt32) &&& (252645135)) + (((((((nI st) - (((nI st).toUInt32 >>> ((nI 1).toUInt32 &&& Int32.toUInt32 31)).toInt32 &&& (1431655765))) &&& (858993459)) + ((((nI st) - (((nI st).toUInt32 >>> ((nI 1).toUInt32 &&& Int32.toUInt32 31)).toInt32 &&& (1431655765))).toUInt32 >>> ((nI 2).toUInt32 &&& Int32.toUInt32 31)).toInt32 &&& (858993459))) + (((((nI st) - (((nI st).toUInt32 >>> ((nI 1).toUInt32 &&& Int32.toUInt32 31)).toInt32 &&& (1431655765))) &&& (858993459)) + ((((nI st) - (((nI st).toUInt32 >>> ((nI 1).toUInt32 &&& Int32.toUInt32 31)).toInt32 &&& (1431655765))).toUInt32 >>> ((nI 2).toUInt32 &&& Int32.toUInt32 31)).toInt32 &&& (858993459))).toUInt32 >>> ((nI 4).toUInt32 &&& Int32.toUInt32 31)).toInt32) &&& (252645135)).toUInt32 >>> ((nI 8).toUInt32 &&& Int32.toUInt32 31)).toInt32))]) hF.1 hF.2.1 dJ6_bitCount_0f7a4_40 rfl hl (by decide) rfl (fun ls hl => ?_)
  refine lv_iload_n hF.1 hF.2.1 dJ6_bitCount_0f7a4_41 rfl (lv_at hl 0 rfl) ?_
  refine lv_iload_n hF.1 hF.2.1 dJ6_bitCount_0f7a4_42 rfl (lv_at hl 0 rfl) ?_
  refine lv_bipush (v := (nI 16)) hF.1 hF.2.1 dJ6_bitCount_0f7a4_43 (by decide +kernel) ?_
  refine lv_iushr hF.1 hF.2.1 dJ6_bitCount_0f7a4_45 rfl ?_
  refine lv_iadd hF.1 hF.2.1 dJ6_bitCount_0f7a4_46 ?_
  refine lv_istore_n (lv' := [(0, .int ((((((((nI st) - (((nI st).toUInt32 >>> ((nI 1).toUInt32 &&& Int32.toUInt32 31)).toInt32 &&& (1431655765))) &&& (858993459)) + ((((nI st) - (((nI st).toUInt32 >>> ((nI 1).toUInt32 &&& Int32.toUInt32 31)).toInt32 &&& (1431655765))).toUInt32 >>> ((nI 2).toUInt32 &&& Int32.toUInt32 31)).toInt32 &&& (858993459))) + (((((nI st) - (((nI st).toUInt32 >>> ((nI 1).toUInt32 &&& Int32.toUInt32 31)).toInt32 &&& (1431655765))) &&& (858993459)) + ((((nI st) - (((nI st).toUInt32 >>> ((nI 1).toUInt32 &&& Int32.toUInt32 31)).toInt32 &&& (1431655765))).toUInt32 >>> ((nI 2).toUInt32 &&& Int32.toUInt32 31)).toInt32 &&& (858993459))).toUInt32 >>> ((nI 4).toUInt32 &&& Int32.toUInt32 31)).toInt32) &&& (252645135)) + (((((((nI st) - (((nI st).toUInt32 >>> ((nI 1).toUInt32 &&& Int32.toUInt32 31)).toInt32 &&& (1431655765))) &&& (858993459)) + ((((nI st) - (((nI st).toUInt32 >>> ((nI 1).toUInt32 &&& Int32.toUInt32 31)).toInt32 &&& (1431655765))).toUInt32 >>> ((nI 2).toUInt32 &&& Int32.toUInt32 31)).toInt32 &&& (858993459))) + (((((nI st) - (((nI st).toUInt32 >>> ((nI 1).toUInt32 &&& Int32.toUInt32 31)).toInt32 &&& (1431655765))) &&& (858993459)) + ((((nI st) - (((nI st).toUInt32 >>> ((nI 1).toUInt32 &&& Int32.toUInt32 31)).toInt32 &&& (1431655765))).toUInt32 >>> ((nI 2).toUInt32 &&& Int32.toUInt32 31)).toInt32 &&& (858993459))).toUInt32 >>> ((nI 4).toUInt32 &&& Int32.toUInt32 31)).toInt32) &&& (252645135)).toUInt32 >>> ((nI 8).toUInt32 &&& Int32.toUInt32 31)).toInt32) + ((((((((nI st) - (((nI st).toUInt32 >>> ((nI 1).toUInt32 &&& Int32.toUInt32 31)).toInt32 &&& (1431655765))) &&& (858993459)) + ((((nI st) - (((nI st).toUInt32 >>> ((nI 1).toUInt32 &&& Int32.toUInt32 31)).toInt32 &&& (1431655765))).toUInt32 >>> ((nI 2).toUInt32 &&& Int32.toUInt32 31)).toInt32 &&& (858993459))) + (((((nI st) - (((nI st).toUInt32 >>> ((nI 1).toUInt32 &&& Int32.toUInt32 31)).toInt32 &&& (1431655765))) &&& (858993459)) + ((((nI st) - (((nI st).toUInt32 >>> ((nI 1).toUInt32 &&& Int32.toUInt32 31)).toInt32 &&& (1431655765))).toUInt32 >>> ((nI 2).toUInt32 &&& Int32.toUInt32 31)).toInt32 &&& (858993459))).toUInt32 >>> ((nI 4).toUInt32 &&& Int32.toUInt32 31)).toInt32) &&& (252645135)) + (((((((nI st) - (((nI st).toUInt32 >>> ((nI 1).toUInt32 &&& Int32.toUInt32 31)).toInt32 &&& (1431655765))) &&& (858993459)) + ((((nI st) - (((nI st).toUInt32 >>> ((nI 1).toUInt32 &&& Int32.toUInt32 31)).toInt32 &&& (1431655765))).toUInt32 >>> ((nI 2).toUInt32 &&& Int32.toUInt32 31)).toInt32 &&& (858993459))) + (((((nI st) - (((nI st).toUInt32 >>> ((nI 1).toUInt32 &&& Int32.toUInt32 31)).toInt32 &&& (1431655765))) &&& (858993459)) + ((((nI st) - (((nI st).toUInt32 >>> ((nI 1).toUInt32 &&& Int32.toUInt32 31)).toInt32 &&& (1431655765))).toUInt32 >>> ((nI 2).toUInt32 &&& Int32.toUInt32 31)).toInt32 &&& (858993459))).toUInt32 >>> ((nI 4).toUInt32 &&& Int32.toUInt32 31)).toInt32) &&& (252645135)).toUInt32 >>> ((nI 8).toUInt32 &&& Int32.toUInt32 31)).toInt32).toUInt32 >>> ((nI 16).toUInt32 &&& Int32.toUInt32 31)).toInt32))]) hF.1 hF.2.1 dJ6_bitCount_0f7a4_47 rfl hl (by decide) rfl (fun ls hl => ?_)
  refine lv_iload_n hF.1 hF.2.1 dJ6_bitCount_0f7a4_48 rfl (lv_at hl 0 rfl) ?_
  refine lv_bipush (v := (nI 63)) hF.1 hF.2.1 dJ6_bitCount_0f7a4_49 (by decide +kernel) ?_
  refine lv_iand hF.1 hF.2.1 dJ6_bitCount_0f7a4_51 ?_
  exact hret _ () _ ls _ _ _ _ (by apply fin1 256 st hst; decide +kernel) (by first | rfl | exact nar_b2i _) hG (Nat.le_of_ble_eq_true rfl) (Nat.le_of_ble_eq_true rfl) dJ6_bitCount_0f7a4_52

abbrev rmX0_kind : Room := { frames := 0, cells := 0, slots := 0, locals := 0 }
set_option maxHeartbeats 4000000 in
set_option maxRecDepth 100000 in
theorem c_X0_kind {l : Launch} {D : va_G} {cA : Nat → ClassId} {A : Nat → Prop} {ws : va_W} {w : Nat} : Met l yX0_kind wsX0_kind rmX0_kind (va_Pc [.ref w] (Pre D cA A (ws))) (va_Qi (fun r _ => r = nI 0) (fun u t => Wd D A ((fun (_ : Unit) => ws) u) t) A) (0) (0) A := by
  refine k_ofi (S := Unit) (F := fun (_ : Unit) => ws) (cc := cX0_kind) (maxL := 1) (by decide) rfl (Nat.le_of_ble_eq_true rfl) ?_
  intro p e s m args below meth c Q hF hini hK hA hG hret ls hl
  have hl : lv_has ls 1 [(0, .ref w)] := hl
  refine lv_iconst (v := (nI 0)) hF.1 hF.2.1 dX0_kind_0 (by decide +kernel) ?_
  exact hret _ () _ ls _ _ _ _ (by first | rfl | (simp_all; done)) (by first | rfl | exact nar_b2i _) hG (Nat.le_of_ble_eq_true rfl) (Nat.le_of_ble_eq_true rfl) dX0_kind_1

abbrev rmX1_kind : Room := { frames := 0, cells := 0, slots := 0, locals := 0 }
set_option maxHeartbeats 4000000 in
set_option maxRecDepth 100000 in
theorem c_X1_kind {l : Launch} {D : va_G} {cA : Nat → ClassId} {A : Nat → Prop} {ws : va_W} {w : Nat} : Met l yX1_kind wsX1_kind rmX1_kind (va_Pc [.ref w] (Pre D cA A (ws))) (va_Qi (fun r _ => r = nI 1) (fun u t => Wd D A ((fun (_ : Unit) => ws) u) t) A) (0) (0) A := by
  refine k_ofi (S := Unit) (F := fun (_ : Unit) => ws) (cc := cX1_kind) (maxL := 1) (by decide) rfl (Nat.le_of_ble_eq_true rfl) ?_
  intro p e s m args below meth c Q hF hini hK hA hG hret ls hl
  have hl : lv_has ls 1 [(0, .ref w)] := hl
  refine lv_iconst (v := (nI 1)) hF.1 hF.2.1 dX1_kind_0 (by decide +kernel) ?_
  exact hret _ () _ ls _ _ _ _ (by first | rfl | (simp_all; done)) (by first | rfl | exact nar_b2i _) hG (Nat.le_of_ble_eq_true rfl) (Nat.le_of_ble_eq_true rfl) dX1_kind_1

abbrev rmX7_kind : Room := { frames := 0, cells := 0, slots := 0, locals := 0 }
set_option maxHeartbeats 4000000 in
set_option maxRecDepth 100000 in
theorem c_X7_kind {l : Launch} {D : va_G} {cA : Nat → ClassId} {A : Nat → Prop} {ws : va_W} {w : Nat} : Met l yX7_kind wsX7_kind rmX7_kind (va_Pc [.ref w] (Pre D cA A (ws))) (va_Qi (fun r _ => r = nI 2) (fun u t => Wd D A ((fun (_ : Unit) => ws) u) t) A) (0) (0) A := by
  refine k_ofi (S := Unit) (F := fun (_ : Unit) => ws) (cc := cX7_kind) (maxL := 1) (by decide) rfl (Nat.le_of_ble_eq_true rfl) ?_
  intro p e s m args below meth c Q hF hini hK hA hG hret ls hl
  have hl : lv_has ls 1 [(0, .ref w)] := hl
  refine lv_iconst (v := (nI 2)) hF.1 hF.2.1 dX7_kind_0 (by decide +kernel) ?_
  exact hret _ () _ ls _ _ _ _ (by first | rfl | (simp_all; done)) (by first | rfl | exact nar_b2i _) hG (Nat.le_of_ble_eq_true rfl) (Nat.le_of_ble_eq_true rfl) dX7_kind_1

abbrev rmX8_kind : Room := { frames := 0, cells := 0, slots := 0, locals := 0 }
set_option maxHeartbeats 4000000 in
set_option maxRecDepth 100000 in
theorem c_X8_kind {l : Launch} {D : va_G} {cA : Nat → ClassId} {A : Nat → Prop} {ws : va_W} {w : Nat} : Met l yX8_kind wsX8_kind rmX8_kind (va_Pc [.ref w] (Pre D cA A (ws))) (va_Qi (fun r _ => r = nI 3) (fun u t => Wd D A ((fun (_ : Unit) => ws) u) t) A) (0) (0) A := by
  refine k_ofi (S := Unit) (F := fun (_ : Unit) => ws) (cc := cX8_kind) (maxL := 1) (by decide) rfl (Nat.le_of_ble_eq_true rfl) ?_
  intro p e s m args below meth c Q hF hini hK hA hG hret ls hl
  have hl : lv_has ls 1 [(0, .ref w)] := hl
  refine lv_iconst (v := (nI 3)) hF.1 hF.2.1 dX8_kind_0 (by decide +kernel) ?_
  exact hret _ () _ ls _ _ _ _ (by first | rfl | (simp_all; done)) (by first | rfl | exact nar_b2i _) hG (Nat.le_of_ble_eq_true rfl) (Nat.le_of_ble_eq_true rfl) dX8_kind_1

abbrev rmX5_kind : Room := { frames := 0, cells := 0, slots := 0, locals := 0 }
set_option maxHeartbeats 4000000 in
set_option maxRecDepth 100000 in
theorem c_X5_kind {l : Launch} {D : va_G} {cA : Nat → ClassId} {A : Nat → Prop} {ws : va_W} {w : Nat} : Met l yX5_kind wsX5_kind rmX5_kind (va_Pc [.ref w] (Pre D cA A (ws))) (va_Qi (fun r _ => r = nI 4) (fun u t => Wd D A ((fun (_ : Unit) => ws) u) t) A) (0) (0) A := by
  refine k_ofi (S := Unit) (F := fun (_ : Unit) => ws) (cc := cX5_kind) (maxL := 1) (by decide) rfl (Nat.le_of_ble_eq_true rfl) ?_
  intro p e s m args below meth c Q hF hini hK hA hG hret ls hl
  have hl : lv_has ls 1 [(0, .ref w)] := hl
  refine lv_iconst (v := (nI 4)) hF.1 hF.2.1 dX5_kind_0 (by decide +kernel) ?_
  exact hret _ () _ ls _ _ _ _ (by first | rfl | (simp_all; done)) (by first | rfl | exact nar_b2i _) hG (Nat.le_of_ble_eq_true rfl) (Nat.le_of_ble_eq_true rfl) dX5_kind_1

abbrev rmX3_kind : Room := { frames := 0, cells := 0, slots := 0, locals := 0 }
set_option maxHeartbeats 4000000 in
set_option maxRecDepth 100000 in
theorem c_X3_kind {l : Launch} {D : va_G} {cA : Nat → ClassId} {A : Nat → Prop} {ws : va_W} {w : Nat} : Met l yX3_kind wsX3_kind rmX3_kind (va_Pc [.ref w] (Pre D cA A (ws))) (va_Qi (fun r _ => r = nI 5) (fun u t => Wd D A ((fun (_ : Unit) => ws) u) t) A) (0) (0) A := by
  refine k_ofi (S := Unit) (F := fun (_ : Unit) => ws) (cc := cX3_kind) (maxL := 1) (by decide) rfl (Nat.le_of_ble_eq_true rfl) ?_
  intro p e s m args below meth c Q hF hini hK hA hG hret ls hl
  have hl : lv_has ls 1 [(0, .ref w)] := hl
  refine lv_iconst (v := (nI 5)) hF.1 hF.2.1 dX3_kind_0 (by decide +kernel) ?_
  exact hret _ () _ ls _ _ _ _ (by first | rfl | (simp_all; done)) (by first | rfl | exact nar_b2i _) hG (Nat.le_of_ble_eq_true rfl) (Nat.le_of_ble_eq_true rfl) dX3_kind_1

abbrev rmX4_kind : Room := { frames := 0, cells := 0, slots := 0, locals := 0 }
set_option maxHeartbeats 4000000 in
set_option maxRecDepth 100000 in
theorem c_X4_kind {l : Launch} {D : va_G} {cA : Nat → ClassId} {A : Nat → Prop} {ws : va_W} {w : Nat} : Met l yX4_kind wsX4_kind rmX4_kind (va_Pc [.ref w] (Pre D cA A (ws))) (va_Qi (fun r _ => r = nI 6) (fun u t => Wd D A ((fun (_ : Unit) => ws) u) t) A) (0) (0) A := by
  refine k_ofi (S := Unit) (F := fun (_ : Unit) => ws) (cc := cX4_kind) (maxL := 1) (by decide) rfl (Nat.le_of_ble_eq_true rfl) ?_
  intro p e s m args below meth c Q hF hini hK hA hG hret ls hl
  have hl : lv_has ls 1 [(0, .ref w)] := hl
  refine lv_bipush (v := (nI 6)) hF.1 hF.2.1 dX4_kind_0 (by decide +kernel) ?_
  exact hret _ () _ ls _ _ _ _ (by first | rfl | (simp_all; done)) (by first | rfl | exact nar_b2i _) hG (Nat.le_of_ble_eq_true rfl) (Nat.le_of_ble_eq_true rfl) dX4_kind_2

abbrev rmX2_kind : Room := { frames := 0, cells := 0, slots := 0, locals := 0 }
set_option maxHeartbeats 4000000 in
set_option maxRecDepth 100000 in
theorem c_X2_kind {l : Launch} {D : va_G} {cA : Nat → ClassId} {A : Nat → Prop} {ws : va_W} {w : Nat} : Met l yX2_kind wsX2_kind rmX2_kind (va_Pc [.ref w] (Pre D cA A (ws))) (va_Qi (fun r _ => r = nI 7) (fun u t => Wd D A ((fun (_ : Unit) => ws) u) t) A) (0) (0) A := by
  refine k_ofi (S := Unit) (F := fun (_ : Unit) => ws) (cc := cX2_kind) (maxL := 1) (by decide) rfl (Nat.le_of_ble_eq_true rfl) ?_
  intro p e s m args below meth c Q hF hini hK hA hG hret ls hl
  have hl : lv_has ls 1 [(0, .ref w)] := hl
  refine lv_bipush (v := (nI 7)) hF.1 hF.2.1 dX2_kind_0 (by decide +kernel) ?_
  exact hret _ () _ ls _ _ _ _ (by first | rfl | (simp_all; done)) (by first | rfl | exact nar_b2i _) hG (Nat.le_of_ble_eq_true rfl) (Nat.le_of_ble_eq_true rfl) dX2_kind_2

abbrev rmX0_moves : Room := { frames := 1, cells := 0, slots := 0, locals := 21 }
set_option maxHeartbeats 4000000 in
set_option maxRecDepth 100000 in
theorem c_X0_moves {l : Launch} {D : va_G} {cA : Nat → ClassId} {A : Nat → Prop} {ws : va_W} {w i st : Nat} (hi : i < 6) (hst : st < 64) : Met l yX0_moves wsX0_moves rmX0_moves (va_Pc [.ref w, .int (nI i), .int (nI st)] (Pre D cA A (ws))) (va_Qi (fun r _ => r = b2i (mv 0 0 i st)) (fun u t => Wd D A ((fun (_ : Unit) => ws) u) t) A) (0) (0) A := by
  refine k_ofi (S := Unit) (F := fun (_ : Unit) => ws) (cc := cX0_moves) (maxL := 4) (by decide) rfl (Nat.le_of_ble_eq_true rfl) ?_
  intro p e s m args below meth c Q hF hini hK hA hG hret ls hl
  have hl : lv_has ls 4 [(0, .ref w), (1, .int (nI i)), (2, .int (nI st))] := hl
  refine lv_iload_n hF.1 hF.2.1 dX0_moves_0 rfl (lv_at hl 1 rfl) ?_
  refine lv_if_gt (tgt := 6) hF.1 hF.2.1 dX0_moves_1 (by decide) (fun c_1 => ?_) (fun c_1 => ?_)
  · --
    have n_1 : 0 < i := (nI_ltI (a := 0) (b := i) (by omega) (by omega)).mp c_1
    refine lv_iconst (v := (nI 1)) hF.1 hF.2.1 dX0_moves_6 (by decide +kernel) ?_
    refine lv_iload_n hF.1 hF.2.1 dX0_moves_7 rfl (lv_at hl 1 rfl) ?_
    refine lv_iconst (v := (nI 1)) hF.1 hF.2.1 dX0_moves_8 (by decide +kernel) ?_
    refine lv_isub hF.1 hF.2.1 dX0_moves_9 ?_
    refine lv_ishl hF.1 hF.2.1 dX0_moves_10 ?_
    refine lv_iconst (v := (nI 1)) hF.1 hF.2.1 dX0_moves_11 (by decide +kernel) ?_
    refine lv_isub hF.1 hF.2.1 dX0_moves_12 ?_
    refine lv_istore_n (lv' := [(3, .int (((nI 1) <<< (((nI i) - (nI 1)) &&& 31)) - (nI 1))), (0, .ref w), (1, .int (nI i)), (2, .int (nI st))]) hF.1 hF.2.1 dX0_moves_13 rfl hl (by decide) rfl (fun ls hl => ?_)
    refine lv_iload_n hF.1 hF.2.1 dX0_moves_14 rfl (lv_at hl 3 rfl) ?_
    refine lv_iload_n hF.1 hF.2.1 dX0_moves_15 rfl (lv_at hl 2 rfl) ?_
    refine lv_iconst (v := (nI 1)) hF.1 hF.2.1 dX0_moves_16 (by decide +kernel) ?_
    refine lv_isub hF.1 hF.2.1 dX0_moves_17 ?_
    rw [pk_sub (show 1 ≤ i by omega)]
    refine k_ci (r_SN (As := [.int (nI st), .int (nI (i - 1))]) hF hK hA hG (c_X11_isOpen (by omega) (by omega)) ⟨(va_cnB 2 hF.2.2.2.2 gX0_moves_X11_isOpen_n15 rfl rfl rfl (hK.2.2.2.2 _ (List.mem_of_getElem? (i := 2) rfl)) (hF.2.2.2.2 _ (List.mem_of_getElem? (i := 2) rfl)) (by decide +kernel) ⟨Nat.le_of_ble_eq_true rfl, Nat.le_of_ble_eq_true rfl⟩), hF.2.2.2.2 _ (List.mem_of_getElem? (i := 1) rfl), trivial⟩ rfl hl.1 rfl (lv_room (Nat.le_of_ble_eq_true rfl)) dX0_moves_18 ⟨Nat.le_of_ble_eq_true rfl, Nat.le_of_ble_eq_true rfl⟩) hG (fun r_18 u_18 H locs hp_18 hG => ?_)
    subst hp_18
    refine lv_if_ne (tgt := 35) hF.1 hF.2.1 dX0_moves_21 (by decide) (fun c_21 => ?_) (fun c_21 => ?_)
    · --
      have n_21 : (decide (i - 1 < 6) && st.testBit (i - 1)) = true := b2i_nz.mp c_21
      refine lv_iconst (v := (nI 0)) hF.1 hF.2.1 dX0_moves_35 (by decide +kernel) ?_
      exact hret _ () _ ls _ _ _ _ (by revert c_1 c_21; apply fin2 6 64 i st hi hst; decide +kernel) (by first | rfl | exact nar_b2i _) hG (Nat.le_of_ble_eq_true rfl) (Nat.le_of_ble_eq_true rfl) dX0_moves_36
    · --
      have n_21 : (decide (i - 1 < 6) && st.testBit (i - 1)) = false := b2i_z.mp c_21
      refine lv_iload_n hF.1 hF.2.1 dX0_moves_24 rfl (lv_at hl 3 rfl) ?_
      refine lv_iload_n hF.1 hF.2.1 dX0_moves_25 rfl (lv_at hl 0 rfl) ?_
      refine lv_iand hF.1 hF.2.1 dX0_moves_26 ?_
      refine lv_iload_n hF.1 hF.2.1 dX0_moves_27 rfl (lv_at hl 0 rfl) ?_
      refine lv_icmp_ne (tgt := 35) hF.1 hF.2.1 dX0_moves_28 (by decide) (fun c_28 => ?_) (fun c_28 => ?_)
      · --
        refine lv_iconst (v := (nI 0)) hF.1 hF.2.1 dX0_moves_35 (by decide +kernel) ?_
        exact hret _ () _ ls _ _ _ _ (by revert c_1 c_21 c_28; apply fin2 6 64 i st hi hst; decide +kernel) (by first | rfl | exact nar_b2i _) hG (Nat.le_of_ble_eq_true rfl) (Nat.le_of_ble_eq_true rfl) dX0_moves_36
      · --
        refine lv_iconst (v := (nI 1)) hF.1 hF.2.1 dX0_moves_31 (by decide +kernel) ?_
        refine lv_goto (tgt := 36) hF.1 hF.2.1 dX0_moves_32 (by decide) ?_
        exact hret _ () _ ls _ _ _ _ (by revert c_1 c_21 c_28; apply fin2 6 64 i st hi hst; decide +kernel) (by first | rfl | exact nar_b2i _) hG (Nat.le_of_ble_eq_true rfl) (Nat.le_of_ble_eq_true rfl) dX0_moves_36
  · --
    have n_1 : ¬ (0 < i) := fun q => c_1 ((nI_ltI (a := 0) (b := i) (by omega) (by omega)).mpr q)
    refine lv_iconst (v := (nI 1)) hF.1 hF.2.1 dX0_moves_4 (by decide +kernel) ?_
    exact hret _ () _ ls _ _ _ _ (by revert c_1; apply fin2 6 64 i st hi hst; decide +kernel) (by first | rfl | exact nar_b2i _) hG (Nat.le_of_ble_eq_true rfl) (Nat.le_of_ble_eq_true rfl) dX0_moves_5

abbrev rmX1_moves : Room := { frames := 0, cells := 0, slots := 0, locals := 0 }
set_option maxHeartbeats 4000000 in
set_option maxRecDepth 100000 in
theorem c_X1_moves {l : Launch} {D : va_G} {cA : Nat → ClassId} {A : Nat → Prop} {ws : va_W} {w i st : Nat} (hi : i < 6) (hst : st < 64) : Met l yX1_moves wsX1_moves rmX1_moves (va_Pc [.ref w, .int (nI i), .int (nI st)] (Pre D cA A (ws))) (va_Qi (fun r _ => r = b2i (mv 1 0 i st)) (fun u t => Wd D A ((fun (_ : Unit) => ws) u) t) A) (0) (0) A := by
  refine k_ofi (S := Unit) (F := fun (_ : Unit) => ws) (cc := cX1_moves) (maxL := 3) (by decide) rfl (Nat.le_of_ble_eq_true rfl) ?_
  intro p e s m args below meth c Q hF hini hK hA hG hret ls hl
  have hl : lv_has ls 3 [(0, .ref w), (1, .int (nI i)), (2, .int (nI st))] := hl
  refine lv_iconst (v := (nI 1)) hF.1 hF.2.1 dX1_moves_0 (by decide +kernel) ?_
  exact hret _ () _ ls _ _ _ _ (by first | rfl | (simp_all; done)) (by first | rfl | exact nar_b2i _) hG (Nat.le_of_ble_eq_true rfl) (Nat.le_of_ble_eq_true rfl) dX1_moves_1

abbrev rmX7_moves : Room := { frames := 0, cells := 0, slots := 0, locals := 0 }
set_option maxHeartbeats 4000000 in
set_option maxRecDepth 100000 in
theorem c_X7_moves {l : Launch} {D : va_G} {cA : Nat → ClassId} {A : Nat → Prop} {ws : va_W} {w i st : Nat} (hi : i < 6) (hst : st < 64) : Met l yX7_moves wsX7_moves rmX7_moves (va_Pc [.ref w, .int (nI i), .int (nI st)] (Pre D cA A (ws))) (va_Qi (fun r _ => r = b2i (mv 2 0 i st)) (fun u t => Wd D A ((fun (_ : Unit) => ws) u) t) A) (0) (0) A := by
  refine k_ofi (S := Unit) (F := fun (_ : Unit) => ws) (cc := cX7_moves) (maxL := 3) (by decide) rfl (Nat.le_of_ble_eq_true rfl) ?_
  intro p e s m args below meth c Q hF hini hK hA hG hret ls hl
  have hl : lv_has ls 3 [(0, .ref w), (1, .int (nI i)), (2, .int (nI st))] := hl
  refine lv_iconst (v := (nI 0)) hF.1 hF.2.1 dX7_moves_0 (by decide +kernel) ?_
  exact hret _ () _ ls _ _ _ _ (by first | rfl | (simp_all; done)) (by first | rfl | exact nar_b2i _) hG (Nat.le_of_ble_eq_true rfl) (Nat.le_of_ble_eq_true rfl) dX7_moves_1

abbrev rmX8_moves : Room := { frames := 1, cells := 0, slots := 0, locals := 21 }
set_option maxHeartbeats 4000000 in
set_option maxRecDepth 100000 in
theorem c_X8_moves {l : Launch} {D : va_G} {cA : Nat → ClassId} {A : Nat → Prop} {ws : va_W} {w i st : Nat} (hi : i < 6) (hst : st < 64) : Met l yX8_moves wsX8_moves rmX8_moves (va_Pc [.ref w, .int (nI i), .int (nI st)] (Pre D cA A (ws))) (va_Qi (fun r _ => r = b2i (mv 3 0 i st)) (fun u t => Wd D A ((fun (_ : Unit) => ws) u) t) A) (0) (0) A := by
  refine k_ofi (S := Unit) (F := fun (_ : Unit) => ws) (cc := cX8_moves) (maxL := 3) (by decide) rfl (Nat.le_of_ble_eq_true rfl) ?_
  intro p e s m args below meth c Q hF hini hK hA hG hret ls hl
  have hl : lv_has ls 3 [(0, .ref w), (1, .int (nI i)), (2, .int (nI st))] := hl
  refine lv_iload_n hF.1 hF.2.1 dX8_moves_0 rfl (lv_at hl 1 rfl) ?_
  refine lv_if_le (tgt := 14) hF.1 hF.2.1 dX8_moves_1 (by decide) (fun c_1 => ?_) (fun c_1 => ?_)
  · --
    have n_1 : i ≤ 0 := (nI_leI (a := i) (b := 0) (by omega) (by omega)).mp c_1
    refine lv_iconst (v := (nI 1)) hF.1 hF.2.1 dX8_moves_14 (by decide +kernel) ?_
    refine lv_goto (tgt := 19) hF.1 hF.2.1 dX8_moves_15 (by decide) ?_
    exact hret _ () _ ls _ _ _ _ (by revert c_1; apply fin2 6 64 i st hi hst; decide +kernel) (by first | rfl | exact nar_b2i _) hG (Nat.le_of_ble_eq_true rfl) (Nat.le_of_ble_eq_true rfl) dX8_moves_19
  · --
    have n_1 : ¬ (i ≤ 0) := fun q => c_1 ((nI_leI (a := i) (b := 0) (by omega) (by omega)).mpr q)
    refine lv_iload_n hF.1 hF.2.1 dX8_moves_4 rfl (lv_at hl 2 rfl) ?_
    refine lv_iload_n hF.1 hF.2.1 dX8_moves_5 rfl (lv_at hl 1 rfl) ?_
    refine lv_iconst (v := (nI 1)) hF.1 hF.2.1 dX8_moves_6 (by decide +kernel) ?_
    refine lv_isub hF.1 hF.2.1 dX8_moves_7 ?_
    rw [pk_sub (show 1 ≤ i by omega)]
    refine k_ci (r_SN (As := [.int (nI st), .int (nI (i - 1))]) hF hK hA hG (c_X11_isOpen (by omega) (by omega)) ⟨(va_cnB 2 hF.2.2.2.2 gX8_moves_X11_isOpen_n9 rfl rfl rfl (hK.2.2.2.2 _ (List.mem_of_getElem? (i := 5) rfl)) (hF.2.2.2.2 _ (List.mem_of_getElem? (i := 2) rfl)) (by decide +kernel) ⟨Nat.le_of_ble_eq_true rfl, Nat.le_of_ble_eq_true rfl⟩), hF.2.2.2.2 _ (List.mem_of_getElem? (i := 1) rfl), trivial⟩ rfl hl.1 rfl (lv_room (Nat.le_of_ble_eq_true rfl)) dX8_moves_8 ⟨Nat.le_of_ble_eq_true rfl, Nat.le_of_ble_eq_true rfl⟩) hG (fun r_8 u_8 H locs hp_8 hG => ?_)
    subst hp_8
    refine lv_if_ne (tgt := 18) hF.1 hF.2.1 dX8_moves_11 (by decide) (fun c_11 => ?_) (fun c_11 => ?_)
    · --
      have n_11 : (decide (i - 1 < 6) && st.testBit (i - 1)) = true := b2i_nz.mp c_11
      refine lv_iconst (v := (nI 0)) hF.1 hF.2.1 dX8_moves_18 (by decide +kernel) ?_
      exact hret _ () _ ls _ _ _ _ (by revert c_1 c_11; apply fin2 6 64 i st hi hst; decide +kernel) (by first | rfl | exact nar_b2i _) hG (Nat.le_of_ble_eq_true rfl) (Nat.le_of_ble_eq_true rfl) dX8_moves_19
    · --
      have n_11 : (decide (i - 1 < 6) && st.testBit (i - 1)) = false := b2i_z.mp c_11
      refine lv_iconst (v := (nI 1)) hF.1 hF.2.1 dX8_moves_14 (by decide +kernel) ?_
      refine lv_goto (tgt := 19) hF.1 hF.2.1 dX8_moves_15 (by decide) ?_
      exact hret _ () _ ls _ _ _ _ (by revert c_1 c_11; apply fin2 6 64 i st hi hst; decide +kernel) (by first | rfl | exact nar_b2i _) hG (Nat.le_of_ble_eq_true rfl) (Nat.le_of_ble_eq_true rfl) dX8_moves_19

abbrev rmX5_moves : Room := { frames := 2, cells := 0, slots := 0, locals := 44 }
set_option maxHeartbeats 4000000 in
set_option maxRecDepth 100000 in
theorem c_X5_moves {l : Launch} {D : va_G} {cA : Nat → ClassId} {A : Nat → Prop} {ws : va_W} {w i st f qw : Nat} (hi : i < 6) (hst : st < 64) (hf : f < 10) (hw : ws[qw]? = some (w, .inr (5, [.int (nI f)]))) : Met l yX5_moves wsX5_moves rmX5_moves (va_Pc [.ref w, .int (nI i), .int (nI st)] (Pre D cA A (ws))) (va_Qi (fun r _ => r = b2i (mv 4 f i st)) (fun u t => Wd D A ((fun (_ : Unit) => ws) u) t) A) (0) (0) A := by
  refine k_ofi (S := Unit) (F := fun (_ : Unit) => ws) (cc := cX5_moves) (maxL := 3) (by decide) rfl (Nat.le_of_ble_eq_true rfl) ?_
  intro p e s m args below meth c Q hF hini hK hA hG hret ls hl
  have hl : lv_has ls 3 [(0, .ref w), (1, .int (nI i)), (2, .int (nI st))] := hl
  refine lv_aload_n hF.1 hF.2.1 dX5_moves_0 rfl (lv_at hl 0 rfl) ?_
  refine lv_iload_n hF.1 hF.2.1 dX5_moves_1 rfl (lv_at hl 1 rfl) ?_
  refine lv_iload_n hF.1 hF.2.1 dX5_moves_2 rfl (lv_at hl 2 rfl) ?_
  refine k_ci (r_SU (As := [.int (nI i), .int (nI st)]) hF hK hA hG (c_X0_moves hi hst) (va_cwSU 2 hF.2.2.2.2 gX5_moves_X0_moves_s9 rfl rfl rfl (by decide +kernel) ⟨Nat.le_of_ble_eq_true rfl, Nat.le_of_ble_eq_true rfl⟩) qw hw rfl rfl rfl hl.1 rfl (lv_room (Nat.le_of_ble_eq_true rfl)) dX5_moves_3 ⟨Nat.le_of_ble_eq_true rfl, Nat.le_of_ble_eq_true rfl⟩) hG (fun r_3 u_3 H locs hp_3 hG => ?_)
  subst hp_3
  refine lv_if_eq (tgt := 24) hF.1 hF.2.1 dX5_moves_6 (by decide) (fun c_6 => ?_) (fun c_6 => ?_)
  · --
    have n_6 : (mv 0 0 i st) = false := b2i_z.mp c_6
    refine lv_iconst (v := (nI 0)) hF.1 hF.2.1 dX5_moves_24 (by decide +kernel) ?_
    exact hret _ () _ ls _ _ _ _ (by revert c_6; apply fin3 10 6 64 f i st hf hi hst; decide +kernel) (by first | rfl | exact nar_b2i _) hG (Nat.le_of_ble_eq_true rfl) (Nat.le_of_ble_eq_true rfl) dX5_moves_25
  · --
    have n_6 : (mv 0 0 i st) = true := b2i_nz.mp c_6
    refine lv_iload_n hF.1 hF.2.1 dX5_moves_9 rfl (lv_at hl 2 rfl) ?_
    refine lv_aload_n hF.1 hF.2.1 dX5_moves_10 rfl (lv_at hl 0 rfl) ?_
    refine k_get (C := RX5) (T := TX5) (N := 1) hF hK hG (fun _ h => List.mem_cons_of_mem _ (List.mem_append_left _ (List.mem_append_left _ (List.mem_append_right _ h)))) qw hw rfl 0 (by decide) (List.mem_of_getElem? (i := 1) rfl) (fun x9 h9 => u_same (hF.2.2.2.2 _ (List.mem_of_getElem? (i := 2) rfl)) x9 h9) rfl dX5_moves_11 ?_
    refine k_ci (r_SN (As := [.int (nI st), .int (nI f)]) hF hK hA hG (c_X11_isOpen (by omega) (by omega)) ⟨(va_cnB 2 hF.2.2.2.2 gX5_moves_X11_isOpen_n19 rfl rfl rfl (hK.2.2.2.2 _ (List.mem_of_getElem? (i := 4) rfl)) (hF.2.2.2.2 _ (List.mem_of_getElem? (i := 10) rfl)) (by decide +kernel) ⟨Nat.le_of_ble_eq_true rfl, Nat.le_of_ble_eq_true rfl⟩), hF.2.2.2.2 _ (List.mem_of_getElem? (i := 9) rfl), trivial⟩ rfl hl.1 rfl (lv_room (Nat.le_of_ble_eq_true rfl)) dX5_moves_14 ⟨Nat.le_of_ble_eq_true rfl, Nat.le_of_ble_eq_true rfl⟩) hG (fun r_14 u_14 H locs hp_14 hG => ?_)
    subst hp_14
    refine lv_if_ne (tgt := 24) hF.1 hF.2.1 dX5_moves_17 (by decide) (fun c_17 => ?_) (fun c_17 => ?_)
    · --
      have n_17 : (decide (f < 6) && st.testBit f) = true := b2i_nz.mp c_17
      refine lv_iconst (v := (nI 0)) hF.1 hF.2.1 dX5_moves_24 (by decide +kernel) ?_
      exact hret _ () _ ls _ _ _ _ (by revert c_6 c_17; apply fin3 10 6 64 f i st hf hi hst; decide +kernel) (by first | rfl | exact nar_b2i _) hG (Nat.le_of_ble_eq_true rfl) (Nat.le_of_ble_eq_true rfl) dX5_moves_25
    · --
      have n_17 : (decide (f < 6) && st.testBit f) = false := b2i_z.mp c_17
      refine lv_iconst (v := (nI 1)) hF.1 hF.2.1 dX5_moves_20 (by decide +kernel) ?_
      refine lv_goto (tgt := 25) hF.1 hF.2.1 dX5_moves_21 (by decide) ?_
      exact hret _ () _ ls _ _ _ _ (by revert c_6 c_17; apply fin3 10 6 64 f i st hf hi hst; decide +kernel) (by first | rfl | exact nar_b2i _) hG (Nat.le_of_ble_eq_true rfl) (Nat.le_of_ble_eq_true rfl) dX5_moves_25

abbrev rmX3_moves : Room := { frames := 2, cells := 0, slots := 0, locals := 43 }
set_option maxHeartbeats 4000000 in
set_option maxRecDepth 100000 in
theorem c_X3_moves {l : Launch} {D : va_G} {cA : Nat → ClassId} {A : Nat → Prop} {ws : va_W} {w i st f qw : Nat} (hi : i < 6) (hst : st < 64) (hf : f < 10) (hw : ws[qw]? = some (w, .inr (3, [.int (nI f)]))) : Met l yX3_moves wsX3_moves rmX3_moves (va_Pc [.ref w, .int (nI i), .int (nI st)] (Pre D cA A (ws))) (va_Qi (fun r _ => r = b2i (mv 5 f i st)) (fun u t => Wd D A ((fun (_ : Unit) => ws) u) t) A) (0) (0) A := by
  refine k_ofi (S := Unit) (F := fun (_ : Unit) => ws) (cc := cX3_moves) (maxL := 3) (by decide) rfl (Nat.le_of_ble_eq_true rfl) ?_
  intro p e s m args below meth c Q hF hini hK hA hG hret ls hl
  have hl : lv_has ls 3 [(0, .ref w), (1, .int (nI i)), (2, .int (nI st))] := hl
  refine lv_aload_n hF.1 hF.2.1 dX3_moves_0 rfl (lv_at hl 0 rfl) ?_
  refine lv_iload_n hF.1 hF.2.1 dX3_moves_1 rfl (lv_at hl 1 rfl) ?_
  refine lv_iload_n hF.1 hF.2.1 dX3_moves_2 rfl (lv_at hl 2 rfl) ?_
  refine k_ci (r_SU (As := [.int (nI i), .int (nI st)]) hF hK hA hG (c_X8_moves hi hst) (va_cwSU 2 hF.2.2.2.2 gX3_moves_X8_moves_s9 rfl rfl rfl (by decide +kernel) ⟨Nat.le_of_ble_eq_true rfl, Nat.le_of_ble_eq_true rfl⟩) qw hw rfl rfl rfl hl.1 rfl (lv_room (Nat.le_of_ble_eq_true rfl)) dX3_moves_3 ⟨Nat.le_of_ble_eq_true rfl, Nat.le_of_ble_eq_true rfl⟩) hG (fun r_3 u_3 H locs hp_3 hG => ?_)
  subst hp_3
  refine lv_if_ne (tgt := 20) hF.1 hF.2.1 dX3_moves_6 (by decide) (fun c_6 => ?_) (fun c_6 => ?_)
  · --
    refine lv_iconst (v := (nI 1)) hF.1 hF.2.1 dX3_moves_20 (by decide +kernel) ?_
    refine lv_goto (tgt := 25) hF.1 hF.2.1 dX3_moves_21 (by decide) ?_
    exact hret _ () _ ls _ _ _ _ (by revert c_6; apply fin3 10 6 64 f i st hf hi hst; decide +kernel) (by first | rfl | exact nar_b2i _) hG (Nat.le_of_ble_eq_true rfl) (Nat.le_of_ble_eq_true rfl) dX3_moves_25
  · --
    refine lv_iload_n hF.1 hF.2.1 dX3_moves_9 rfl (lv_at hl 2 rfl) ?_
    refine k_ci (r_S (As := [.int (nI st)]) hF hK hA hG (c_J6_bitCount_0f7a4 (by omega)) (va_cwS 1 hF.2.2.2.2 gX3_moves_J6_bitCount_0f7a4 rfl rfl rfl (by decide +kernel) ⟨Nat.le_of_ble_eq_true rfl, Nat.le_of_ble_eq_true rfl⟩) rfl hl.1 rfl (lv_room (Nat.le_of_ble_eq_true rfl)) dX3_moves_10 ⟨Nat.le_of_ble_eq_true rfl, Nat.le_of_ble_eq_true rfl⟩) hG (fun r_10 u_10 H locs hp_10 hG => ?_)
    subst hp_10
    refine lv_aload_n hF.1 hF.2.1 dX3_moves_13 rfl (lv_at hl 0 rfl) ?_
    refine k_get (C := RX3) (T := TX3) (N := 1) hF hK hG (fun _ h => List.mem_cons_of_mem _ (List.mem_append_left _ (List.mem_append_left _ (List.mem_append_left _ (List.mem_append_left _ (List.mem_append_right _ h)))))) qw hw rfl 0 (by decide) (List.mem_of_getElem? (i := 1) rfl) (fun x9 h9 => u_same (hF.2.2.2.2 _ (List.mem_of_getElem? (i := 2) rfl)) x9 h9) rfl dX3_moves_14 ?_
    refine lv_icmp_lt (tgt := 24) hF.1 hF.2.1 dX3_moves_17 (by decide) (fun c_17 => ?_) (fun c_17 => ?_)
    · --
      refine lv_iconst (v := (nI 0)) hF.1 hF.2.1 dX3_moves_24 (by decide +kernel) ?_
      exact hret _ () _ ls _ _ _ _ (by revert c_6 c_17; apply fin3 10 6 64 f i st hf hi hst; decide +kernel) (by first | rfl | exact nar_b2i _) hG (Nat.le_of_ble_eq_true rfl) (Nat.le_of_ble_eq_true rfl) dX3_moves_25
    · --
      refine lv_iconst (v := (nI 1)) hF.1 hF.2.1 dX3_moves_20 (by decide +kernel) ?_
      refine lv_goto (tgt := 25) hF.1 hF.2.1 dX3_moves_21 (by decide) ?_
      exact hret _ () _ ls _ _ _ _ (by revert c_6 c_17; apply fin3 10 6 64 f i st hf hi hst; decide +kernel) (by first | rfl | exact nar_b2i _) hG (Nat.le_of_ble_eq_true rfl) (Nat.le_of_ble_eq_true rfl) dX3_moves_25

abbrev rmX4_moves : Room := { frames := 1, cells := 0, slots := 0, locals := 20 }
set_option maxHeartbeats 4000000 in
set_option maxRecDepth 100000 in
theorem c_X4_moves {l : Launch} {D : va_G} {cA : Nat → ClassId} {A : Nat → Prop} {ws : va_W} {w i st f qw : Nat} (hi : i < 6) (hst : st < 64) (hf : f < 10) (hw : ws[qw]? = some (w, .inr (4, [.int (nI f)]))) : Met l yX4_moves wsX4_moves rmX4_moves (va_Pc [.ref w, .int (nI i), .int (nI st)] (Pre D cA A (ws))) (va_Qi (fun r _ => r = b2i (mv 6 f i st)) (fun u t => Wd D A ((fun (_ : Unit) => ws) u) t) A) (0) (0) A := by
  refine k_ofi (S := Unit) (F := fun (_ : Unit) => ws) (cc := cX4_moves) (maxL := 4) (by decide) rfl (Nat.le_of_ble_eq_true rfl) ?_
  intro p e s m args below meth c Q hF hini hK hA hG hret ls hl
  have hl : lv_has ls 4 [(0, .ref w), (1, .int (nI i)), (2, .int (nI st))] := hl
  refine lv_iload_n hF.1 hF.2.1 dX4_moves_0 rfl (lv_at hl 2 rfl) ?_
  refine lv_iconst (v := (nI 1)) hF.1 hF.2.1 dX4_moves_1 (by decide +kernel) ?_
  refine lv_iload_n hF.1 hF.2.1 dX4_moves_2 rfl (lv_at hl 1 rfl) ?_
  refine lv_ishl hF.1 hF.2.1 dX4_moves_3 ?_
  refine lv_iconst (v := (-1)) hF.1 hF.2.1 dX4_moves_4 (by decide +kernel) ?_
  refine lv_ixor hF.1 hF.2.1 dX4_moves_5 ?_
  refine lv_iand hF.1 hF.2.1 dX4_moves_6 ?_
  rw [clr_b hst hi]
  refine lv_istore_n (lv' := [(3, .int (nI (if st.testBit i then st - 2 ^ i else st))), (0, .ref w), (1, .int (nI i)), (2, .int (nI st))]) hF.1 hF.2.1 dX4_moves_7 rfl hl (by decide) rfl (fun ls hl => ?_)
  refine lv_iload_n hF.1 hF.2.1 dX4_moves_8 rfl (lv_at hl 0 rfl) ?_
  refine k_ci (r_S (As := [.int (nI (if st.testBit i then st - 2 ^ i else st))]) hF hK hA hG (c_J6_bitCount_0f7a4 (by have := clr_lt hst hi; omega)) (va_cwS 1 hF.2.2.2.2 gX4_moves_J6_bitCount_0f7a4 rfl rfl rfl (by decide +kernel) ⟨Nat.le_of_ble_eq_true rfl, Nat.le_of_ble_eq_true rfl⟩) rfl hl.1 rfl (lv_room (Nat.le_of_ble_eq_true rfl)) dX4_moves_9 ⟨Nat.le_of_ble_eq_true rfl, Nat.le_of_ble_eq_true rfl⟩) hG (fun r_9 u_9 H locs hp_9 hG => ?_)
  subst hp_9
  refine lv_aload_n hF.1 hF.2.1 dX4_moves_12 rfl (lv_at hl 1 rfl) ?_
  refine k_get (C := RX4) (T := TX4) (N := 1) hF hK hG (fun _ h => List.mem_cons_of_mem _ (List.mem_append_left _ (List.mem_append_left _ (List.mem_append_left _ (List.mem_append_right _ h))))) qw hw rfl 0 (by decide) (List.mem_of_getElem? (i := 1) rfl) (fun x9 h9 => u_same (hF.2.2.2.2 _ (List.mem_of_getElem? (i := 2) rfl)) x9 h9) rfl dX4_moves_13 ?_
  refine lv_iadd hF.1 hF.2.1 dX4_moves_16 ?_
  refine lv_iconst (v := (nI 2)) hF.1 hF.2.1 dX4_moves_17 (by decide +kernel) ?_
  refine lv_irem hF.1 hF.2.1 dX4_moves_18 (by decide +kernel) ?_
  refine lv_if_ne (tgt := 26) hF.1 hF.2.1 dX4_moves_19 (by decide) (fun c_19 => ?_) (fun c_19 => ?_)
  · --
    refine lv_iconst (v := (nI 0)) hF.1 hF.2.1 dX4_moves_26 (by decide +kernel) ?_
    exact hret _ () _ ls _ _ _ _ (by revert c_19; apply fin3 10 6 64 f i st hf hi hst; decide +kernel) (by first | rfl | exact nar_b2i _) hG (Nat.le_of_ble_eq_true rfl) (Nat.le_of_ble_eq_true rfl) dX4_moves_27
  · --
    refine lv_iconst (v := (nI 1)) hF.1 hF.2.1 dX4_moves_22 (by decide +kernel) ?_
    refine lv_goto (tgt := 27) hF.1 hF.2.1 dX4_moves_23 (by decide) ?_
    exact hret _ () _ ls _ _ _ _ (by revert c_19; apply fin3 10 6 64 f i st hf hi hst; decide +kernel) (by first | rfl | exact nar_b2i _) hG (Nat.le_of_ble_eq_true rfl) (Nat.le_of_ble_eq_true rfl) dX4_moves_27

abbrev rmX2_moves : Room := { frames := 2, cells := 0, slots := 0, locals := 44 }
set_option maxHeartbeats 4000000 in
set_option maxRecDepth 100000 in
theorem c_X2_moves {l : Launch} {D : va_G} {cA : Nat → ClassId} {A : Nat → Prop} {ws : va_W} {w i st qw f : Nat} (hi : i < 6) (hst : st < 64) (hw : ws[qw]? = some (w, .inr (2, [.int (nI f)]))) : Met l yX2_moves wsX2_moves rmX2_moves (va_Pc [.ref w, .int (nI i), .int (nI st)] (Pre D cA A (ws))) (va_Qi (fun r _ => r = b2i (mv 7 0 i st)) (fun u t => Wd D A ((fun (_ : Unit) => ws) u) t) A) (0) (0) A := by
  refine k_ofi (S := Unit) (F := fun (_ : Unit) => ws) (cc := cX2_moves) (maxL := 3) (by decide) rfl (Nat.le_of_ble_eq_true rfl) ?_
  intro p e s m args below meth c Q hF hini hK hA hG hret ls hl
  have hl : lv_has ls 3 [(0, .ref w), (1, .int (nI i)), (2, .int (nI st))] := hl
  refine lv_iload_n hF.1 hF.2.1 dX2_moves_0 rfl (lv_at hl 2 rfl) ?_
  refine lv_iload_n hF.1 hF.2.1 dX2_moves_1 rfl (lv_at hl 1 rfl) ?_
  refine k_ci (r_SN (As := [.int (nI st), .int (nI i)]) hF hK hA hG (c_X11_isOpen (by omega) (by omega)) ⟨(va_cnB 2 hF.2.2.2.2 gX2_moves_X11_isOpen_n9 rfl rfl rfl (hK.2.2.2.2 _ (List.mem_of_getElem? (i := 3) rfl)) (hF.2.2.2.2 _ (List.mem_of_getElem? (i := 2) rfl)) (by decide +kernel) ⟨Nat.le_of_ble_eq_true rfl, Nat.le_of_ble_eq_true rfl⟩), hF.2.2.2.2 _ (List.mem_of_getElem? (i := 1) rfl), trivial⟩ rfl hl.1 rfl (lv_room (Nat.le_of_ble_eq_true rfl)) dX2_moves_2 ⟨Nat.le_of_ble_eq_true rfl, Nat.le_of_ble_eq_true rfl⟩) hG (fun r_2 u_2 H locs hp_2 hG => ?_)
  subst hp_2
  refine lv_if_ne (tgt := 17) hF.1 hF.2.1 dX2_moves_5 (by decide) (fun c_5 => ?_) (fun c_5 => ?_)
  · --
    have n_5 : (decide (i < 6) && st.testBit i) = true := b2i_nz.mp c_5
    refine lv_iconst (v := (nI 1)) hF.1 hF.2.1 dX2_moves_17 (by decide +kernel) ?_
    refine lv_goto (tgt := 22) hF.1 hF.2.1 dX2_moves_18 (by decide) ?_
    exact hret _ () _ ls _ _ _ _ (by revert c_5; apply fin2 6 64 i st hi hst; decide +kernel) (by first | rfl | exact nar_b2i _) hG (Nat.le_of_ble_eq_true rfl) (Nat.le_of_ble_eq_true rfl) dX2_moves_22
  · --
    have n_5 : (decide (i < 6) && st.testBit i) = false := b2i_z.mp c_5
    refine lv_aload_n hF.1 hF.2.1 dX2_moves_8 rfl (lv_at hl 0 rfl) ?_
    refine lv_iload_n hF.1 hF.2.1 dX2_moves_9 rfl (lv_at hl 1 rfl) ?_
    refine lv_iload_n hF.1 hF.2.1 dX2_moves_10 rfl (lv_at hl 2 rfl) ?_
    refine k_ci (r_SU (As := [.int (nI i), .int (nI st)]) hF hK hA hG (c_X0_moves hi hst) (va_cwSU 2 hF.2.2.2.2 gX2_moves_X0_moves_s13 rfl rfl rfl (by decide +kernel) ⟨Nat.le_of_ble_eq_true rfl, Nat.le_of_ble_eq_true rfl⟩) qw hw rfl rfl rfl hl.1 rfl (lv_room (Nat.le_of_ble_eq_true rfl)) dX2_moves_11 ⟨Nat.le_of_ble_eq_true rfl, Nat.le_of_ble_eq_true rfl⟩) hG (fun r_11 u_11 H locs hp_11 hG => ?_)
    subst hp_11
    refine lv_if_eq (tgt := 21) hF.1 hF.2.1 dX2_moves_14 (by decide) (fun c_14 => ?_) (fun c_14 => ?_)
    · --
      have n_14 : (mv 0 0 i st) = false := b2i_z.mp c_14
      refine lv_iconst (v := (nI 0)) hF.1 hF.2.1 dX2_moves_21 (by decide +kernel) ?_
      exact hret _ () _ ls _ _ _ _ (by revert c_5 c_14; apply fin2 6 64 i st hi hst; decide +kernel) (by first | rfl | exact nar_b2i _) hG (Nat.le_of_ble_eq_true rfl) (Nat.le_of_ble_eq_true rfl) dX2_moves_22
    · --
      have n_14 : (mv 0 0 i st) = true := b2i_nz.mp c_14
      refine lv_iconst (v := (nI 1)) hF.1 hF.2.1 dX2_moves_17 (by decide +kernel) ?_
      refine lv_goto (tgt := 22) hF.1 hF.2.1 dX2_moves_18 (by decide) ?_
      exact hret _ () _ ls _ _ _ _ (by revert c_5 c_14; apply fin2 6 64 i st hi hst; decide +kernel) (by first | rfl | exact nar_b2i _) hG (Nat.le_of_ble_eq_true rfl) (Nat.le_of_ble_eq_true rfl) dX2_moves_22

abbrev rmX0_price : Room := { frames := 0, cells := 0, slots := 0, locals := 0 }
set_option maxHeartbeats 4000000 in
set_option maxRecDepth 100000 in
theorem c_X0_price {l : Launch} {D : va_G} {cA : Nat → ClassId} {A : Nat → Prop} {ws : va_W} {w : Nat} : Met l yX0_price wsX0_price rmX0_price (va_Pc [.ref w] (Pre D cA A (ws))) (va_Qi (fun r _ => r = nI 4) (fun u t => Wd D A ((fun (_ : Unit) => ws) u) t) A) (0) (0) A := by
  refine k_ofi (S := Unit) (F := fun (_ : Unit) => ws) (cc := cX0_price) (maxL := 1) (by decide) rfl (Nat.le_of_ble_eq_true rfl) ?_
  intro p e s m args below meth c Q hF hini hK hA hG hret ls hl
  have hl : lv_has ls 1 [(0, .ref w)] := hl
  refine lv_iconst (v := (nI 4)) hF.1 hF.2.1 dX0_price_0 (by decide +kernel) ?_
  exact hret _ () _ ls _ _ _ _ (by first | rfl | (simp_all; done)) (by first | rfl | exact nar_b2i _) hG (Nat.le_of_ble_eq_true rfl) (Nat.le_of_ble_eq_true rfl) dX0_price_1

abbrev rmX1_price_X1 : Room := { frames := 1, cells := 0, slots := 0, locals := 20 }
set_option maxHeartbeats 4000000 in
set_option maxRecDepth 100000 in
theorem c_X1_price_X1 {l : Launch} {D : va_G} {cA : Nat → ClassId} {A : Nat → Prop} {ws : va_W} {w f qw : Nat} (hf : f < 10) (hw : ws[qw]? = some (w, .inr (1, [.int (nI f)]))) : Met l yX1_price wsX1_price rmX1_price_X1 (va_Pc [.ref w] (Pre D cA A (ws))) (va_Qi (fun r _ => r = pr 1 f) (fun u t => Wd D A ((fun (_ : Unit) => ws) u) t) A) (0) (0) A := by
  refine k_ofi (S := Unit) (F := fun (_ : Unit) => ws) (cc := cX1_price) (maxL := 1) (by decide) rfl (Nat.le_of_ble_eq_true rfl) ?_
  intro p e s m args below meth c Q hF hini hK hA hG hret ls hl
  have hl : lv_has ls 1 [(0, .ref w)] := hl
  refine lv_aload_n hF.1 hF.2.1 dX1_price_0 rfl (lv_at hl 0 rfl) ?_
  refine k_ci (r_SU (As := []) hF hK hA hG (c_X0_price) (va_cwSU 0 hF.2.2.2.2 gX1_price_X0_price_s9 rfl rfl rfl (by decide +kernel) ⟨Nat.le_of_ble_eq_true rfl, Nat.le_of_ble_eq_true rfl⟩) qw hw rfl rfl rfl hl.1 rfl (lv_room (Nat.le_of_ble_eq_true rfl)) dX1_price_1 ⟨Nat.le_of_ble_eq_true rfl, Nat.le_of_ble_eq_true rfl⟩) hG (fun r_1 u_1 H locs hp_1 hG => ?_)
  subst hp_1
  refine lv_iconst (v := (nI 1)) hF.1 hF.2.1 dX1_price_4 (by decide +kernel) ?_
  refine lv_isub hF.1 hF.2.1 dX1_price_5 ?_
  exact hret _ () _ ls _ _ _ _ (by apply fin1 10 f hf; decide +kernel) (by first | rfl | exact nar_b2i _) hG (Nat.le_of_ble_eq_true rfl) (Nat.le_of_ble_eq_true rfl) dX1_price_6

abbrev rmX1_price_X8 : Room := { frames := 1, cells := 0, slots := 0, locals := 20 }
set_option maxHeartbeats 4000000 in
set_option maxRecDepth 100000 in
theorem c_X1_price_X8 {l : Launch} {D : va_G} {cA : Nat → ClassId} {A : Nat → Prop} {ws : va_W} {w f qw : Nat} (hf : f < 10) (hw : ws[qw]? = some (w, .inr (8, [.int (nI f)]))) : Met l yX1_price wsX1_price rmX1_price_X8 (va_Pc [.ref w] (Pre D cA A (ws))) (va_Qi (fun r _ => r = pr 1 f) (fun u t => Wd D A ((fun (_ : Unit) => ws) u) t) A) (0) (0) A := by
  refine k_ofi (S := Unit) (F := fun (_ : Unit) => ws) (cc := cX1_price) (maxL := 1) (by decide) rfl (Nat.le_of_ble_eq_true rfl) ?_
  intro p e s m args below meth c Q hF hini hK hA hG hret ls hl
  have hl : lv_has ls 1 [(0, .ref w)] := hl
  refine lv_aload_n hF.1 hF.2.1 dX1_price_0 rfl (lv_at hl 0 rfl) ?_
  refine k_ci (r_SU (As := []) hF hK hA hG (c_X0_price) (va_cwSU 0 hF.2.2.2.2 gX1_price_X0_price_s9 rfl rfl rfl (by decide +kernel) ⟨Nat.le_of_ble_eq_true rfl, Nat.le_of_ble_eq_true rfl⟩) qw hw rfl rfl rfl hl.1 rfl (lv_room (Nat.le_of_ble_eq_true rfl)) dX1_price_1 ⟨Nat.le_of_ble_eq_true rfl, Nat.le_of_ble_eq_true rfl⟩) hG (fun r_1 u_1 H locs hp_1 hG => ?_)
  subst hp_1
  refine lv_iconst (v := (nI 1)) hF.1 hF.2.1 dX1_price_4 (by decide +kernel) ?_
  refine lv_isub hF.1 hF.2.1 dX1_price_5 ?_
  exact hret _ () _ ls _ _ _ _ (by apply fin1 10 f hf; decide +kernel) (by first | rfl | exact nar_b2i _) hG (Nat.le_of_ble_eq_true rfl) (Nat.le_of_ble_eq_true rfl) dX1_price_6

abbrev rmX1_price_X4 : Room := { frames := 1, cells := 0, slots := 0, locals := 20 }
set_option maxHeartbeats 4000000 in
set_option maxRecDepth 100000 in
theorem c_X1_price_X4 {l : Launch} {D : va_G} {cA : Nat → ClassId} {A : Nat → Prop} {ws : va_W} {w f qw : Nat} (hf : f < 10) (hw : ws[qw]? = some (w, .inr (4, [.int (nI f)]))) : Met l yX1_price wsX1_price rmX1_price_X4 (va_Pc [.ref w] (Pre D cA A (ws))) (va_Qi (fun r _ => r = pr 1 f) (fun u t => Wd D A ((fun (_ : Unit) => ws) u) t) A) (0) (0) A := by
  refine k_ofi (S := Unit) (F := fun (_ : Unit) => ws) (cc := cX1_price) (maxL := 1) (by decide) rfl (Nat.le_of_ble_eq_true rfl) ?_
  intro p e s m args below meth c Q hF hini hK hA hG hret ls hl
  have hl : lv_has ls 1 [(0, .ref w)] := hl
  refine lv_aload_n hF.1 hF.2.1 dX1_price_0 rfl (lv_at hl 0 rfl) ?_
  refine k_ci (r_SU (As := []) hF hK hA hG (c_X0_price) (va_cwSU 0 hF.2.2.2.2 gX1_price_X0_price_s9 rfl rfl rfl (by decide +kernel) ⟨Nat.le_of_ble_eq_true rfl, Nat.le_of_ble_eq_true rfl⟩) qw hw rfl rfl rfl hl.1 rfl (lv_room (Nat.le_of_ble_eq_true rfl)) dX1_price_1 ⟨Nat.le_of_ble_eq_true rfl, Nat.le_of_ble_eq_true rfl⟩) hG (fun r_1 u_1 H locs hp_1 hG => ?_)
  subst hp_1
  refine lv_iconst (v := (nI 1)) hF.1 hF.2.1 dX1_price_4 (by decide +kernel) ?_
  refine lv_isub hF.1 hF.2.1 dX1_price_5 ?_
  exact hret _ () _ ls _ _ _ _ (by apply fin1 10 f hf; decide +kernel) (by first | rfl | exact nar_b2i _) hG (Nat.le_of_ble_eq_true rfl) (Nat.le_of_ble_eq_true rfl) dX1_price_6

abbrev rmX1_price_X3 : Room := { frames := 1, cells := 0, slots := 0, locals := 20 }
set_option maxHeartbeats 4000000 in
set_option maxRecDepth 100000 in
theorem c_X1_price_X3 {l : Launch} {D : va_G} {cA : Nat → ClassId} {A : Nat → Prop} {ws : va_W} {w f qw : Nat} (hf : f < 10) (hw : ws[qw]? = some (w, .inr (3, [.int (nI f)]))) : Met l yX1_price wsX1_price rmX1_price_X3 (va_Pc [.ref w] (Pre D cA A (ws))) (va_Qi (fun r _ => r = pr 1 f) (fun u t => Wd D A ((fun (_ : Unit) => ws) u) t) A) (0) (0) A := by
  refine k_ofi (S := Unit) (F := fun (_ : Unit) => ws) (cc := cX1_price) (maxL := 1) (by decide) rfl (Nat.le_of_ble_eq_true rfl) ?_
  intro p e s m args below meth c Q hF hini hK hA hG hret ls hl
  have hl : lv_has ls 1 [(0, .ref w)] := hl
  refine lv_aload_n hF.1 hF.2.1 dX1_price_0 rfl (lv_at hl 0 rfl) ?_
  refine k_ci (r_SU (As := []) hF hK hA hG (c_X0_price) (va_cwSU 0 hF.2.2.2.2 gX1_price_X0_price_s9 rfl rfl rfl (by decide +kernel) ⟨Nat.le_of_ble_eq_true rfl, Nat.le_of_ble_eq_true rfl⟩) qw hw rfl rfl rfl hl.1 rfl (lv_room (Nat.le_of_ble_eq_true rfl)) dX1_price_1 ⟨Nat.le_of_ble_eq_true rfl, Nat.le_of_ble_eq_true rfl⟩) hG (fun r_1 u_1 H locs hp_1 hG => ?_)
  subst hp_1
  refine lv_iconst (v := (nI 1)) hF.1 hF.2.1 dX1_price_4 (by decide +kernel) ?_
  refine lv_isub hF.1 hF.2.1 dX1_price_5 ?_
  exact hret _ () _ ls _ _ _ _ (by apply fin1 10 f hf; decide +kernel) (by first | rfl | exact nar_b2i _) hG (Nat.le_of_ble_eq_true rfl) (Nat.le_of_ble_eq_true rfl) dX1_price_6

abbrev rmX8_price_X8 : Room := { frames := 2, cells := 0, slots := 0, locals := 40 }
set_option maxHeartbeats 4000000 in
set_option maxRecDepth 100000 in
theorem c_X8_price_X8 {l : Launch} {D : va_G} {cA : Nat → ClassId} {A : Nat → Prop} {ws : va_W} {w f qw : Nat} (hf : f < 10) (hw : ws[qw]? = some (w, .inr (8, [.int (nI f)]))) : Met l yX8_price wsX8_price rmX8_price_X8 (va_Pc [.ref w] (Pre D cA A (ws))) (va_Qi (fun r _ => r = pr 3 f) (fun u t => Wd D A ((fun (_ : Unit) => ws) u) t) A) (0) (0) A := by
  refine k_ofi (S := Unit) (F := fun (_ : Unit) => ws) (cc := cX8_price) (maxL := 1) (by decide) rfl (Nat.le_of_ble_eq_true rfl) ?_
  intro p e s m args below meth c Q hF hini hK hA hG hret ls hl
  have hl : lv_has ls 1 [(0, .ref w)] := hl
  refine lv_iconst (v := (nI 2)) hF.1 hF.2.1 dX8_price_0 (by decide +kernel) ?_
  refine lv_aload_n hF.1 hF.2.1 dX8_price_1 rfl (lv_at hl 0 rfl) ?_
  refine k_ci (r_SU (As := []) hF hK hA hG (c_X1_price_X8 hf hw) (va_cwSU 0 hF.2.2.2.2 gX8_price_X1_price_s13 rfl rfl rfl (by decide +kernel) ⟨Nat.le_of_ble_eq_true rfl, Nat.le_of_ble_eq_true rfl⟩) qw hw rfl rfl rfl hl.1 rfl (lv_room (Nat.le_of_ble_eq_true rfl)) dX8_price_2 ⟨Nat.le_of_ble_eq_true rfl, Nat.le_of_ble_eq_true rfl⟩) hG (fun r_2 u_2 H locs hp_2 hG => ?_)
  subst hp_2
  refine lv_imul hF.1 hF.2.1 dX8_price_5 ?_
  exact hret _ () _ ls _ _ _ _ (by apply fin1 10 f hf; decide +kernel) (by first | rfl | exact nar_b2i _) hG (Nat.le_of_ble_eq_true rfl) (Nat.le_of_ble_eq_true rfl) dX8_price_6

abbrev rmX8_price_X3 : Room := { frames := 2, cells := 0, slots := 0, locals := 40 }
set_option maxHeartbeats 4000000 in
set_option maxRecDepth 100000 in
theorem c_X8_price_X3 {l : Launch} {D : va_G} {cA : Nat → ClassId} {A : Nat → Prop} {ws : va_W} {w f qw : Nat} (hf : f < 10) (hw : ws[qw]? = some (w, .inr (3, [.int (nI f)]))) : Met l yX8_price wsX8_price rmX8_price_X3 (va_Pc [.ref w] (Pre D cA A (ws))) (va_Qi (fun r _ => r = pr 3 f) (fun u t => Wd D A ((fun (_ : Unit) => ws) u) t) A) (0) (0) A := by
  refine k_ofi (S := Unit) (F := fun (_ : Unit) => ws) (cc := cX8_price) (maxL := 1) (by decide) rfl (Nat.le_of_ble_eq_true rfl) ?_
  intro p e s m args below meth c Q hF hini hK hA hG hret ls hl
  have hl : lv_has ls 1 [(0, .ref w)] := hl
  refine lv_iconst (v := (nI 2)) hF.1 hF.2.1 dX8_price_0 (by decide +kernel) ?_
  refine lv_aload_n hF.1 hF.2.1 dX8_price_1 rfl (lv_at hl 0 rfl) ?_
  refine k_ci (r_SU (As := []) hF hK hA hG (c_X1_price_X3 hf hw) (va_cwSU 0 hF.2.2.2.2 gX8_price_X1_price_s13 rfl rfl rfl (by decide +kernel) ⟨Nat.le_of_ble_eq_true rfl, Nat.le_of_ble_eq_true rfl⟩) qw hw rfl rfl rfl hl.1 rfl (lv_room (Nat.le_of_ble_eq_true rfl)) dX8_price_2 ⟨Nat.le_of_ble_eq_true rfl, Nat.le_of_ble_eq_true rfl⟩) hG (fun r_2 u_2 H locs hp_2 hG => ?_)
  subst hp_2
  refine lv_imul hF.1 hF.2.1 dX8_price_5 ?_
  exact hret _ () _ ls _ _ _ _ (by apply fin1 10 f hf; decide +kernel) (by first | rfl | exact nar_b2i _) hG (Nat.le_of_ble_eq_true rfl) (Nat.le_of_ble_eq_true rfl) dX8_price_6

abbrev rmX4_price : Room := { frames := 2, cells := 0, slots := 0, locals := 40 }
set_option maxHeartbeats 4000000 in
set_option maxRecDepth 100000 in
theorem c_X4_price {l : Launch} {D : va_G} {cA : Nat → ClassId} {A : Nat → Prop} {ws : va_W} {w f qw : Nat} (hf : f < 10) (hw : ws[qw]? = some (w, .inr (4, [.int (nI f)]))) : Met l yX4_price wsX4_price rmX4_price (va_Pc [.ref w] (Pre D cA A (ws))) (va_Qi (fun r _ => r = pr 6 f) (fun u t => Wd D A ((fun (_ : Unit) => ws) u) t) A) (0) (0) A := by
  refine k_ofi (S := Unit) (F := fun (_ : Unit) => ws) (cc := cX4_price) (maxL := 1) (by decide) rfl (Nat.le_of_ble_eq_true rfl) ?_
  intro p e s m args below meth c Q hF hini hK hA hG hret ls hl
  have hl : lv_has ls 1 [(0, .ref w)] := hl
  refine lv_aload_n hF.1 hF.2.1 dX4_price_0 rfl (lv_at hl 0 rfl) ?_
  refine k_ci (r_SU (As := []) hF hK hA hG (c_X1_price_X4 hf hw) (va_cwSU 0 hF.2.2.2.2 gX4_price_X1_price_s21 rfl rfl rfl (by decide +kernel) ⟨Nat.le_of_ble_eq_true rfl, Nat.le_of_ble_eq_true rfl⟩) qw hw rfl rfl rfl hl.1 rfl (lv_room (Nat.le_of_ble_eq_true rfl)) dX4_price_1 ⟨Nat.le_of_ble_eq_true rfl, Nat.le_of_ble_eq_true rfl⟩) hG (fun r_1 u_1 H locs hp_1 hG => ?_)
  subst hp_1
  refine lv_iconst (v := (nI 5)) hF.1 hF.2.1 dX4_price_4 (by decide +kernel) ?_
  refine lv_iadd hF.1 hF.2.1 dX4_price_5 ?_
  exact hret _ () _ ls _ _ _ _ (by apply fin1 10 f hf; decide +kernel) (by first | rfl | exact nar_b2i _) hG (Nat.le_of_ble_eq_true rfl) (Nat.le_of_ble_eq_true rfl) dX4_price_6

abbrev rmX3_price : Room := { frames := 3, cells := 0, slots := 0, locals := 60 }
set_option maxHeartbeats 4000000 in
set_option maxRecDepth 100000 in
theorem c_X3_price {l : Launch} {D : va_G} {cA : Nat → ClassId} {A : Nat → Prop} {ws : va_W} {w f qw : Nat} (hf : f < 10) (hw : ws[qw]? = some (w, .inr (3, [.int (nI f)]))) : Met l yX3_price wsX3_price rmX3_price (va_Pc [.ref w] (Pre D cA A (ws))) (va_Qi (fun r _ => r = pr 5 f) (fun u t => Wd D A ((fun (_ : Unit) => ws) u) t) A) (0) (0) A := by
  refine k_ofi (S := Unit) (F := fun (_ : Unit) => ws) (cc := cX3_price) (maxL := 1) (by decide) rfl (Nat.le_of_ble_eq_true rfl) ?_
  intro p e s m args below meth c Q hF hini hK hA hG hret ls hl
  have hl : lv_has ls 1 [(0, .ref w)] := hl
  refine lv_aload_n hF.1 hF.2.1 dX3_price_0 rfl (lv_at hl 0 rfl) ?_
  refine k_ci (r_SU (As := []) hF hK hA hG (c_X8_price_X3 hf hw) (va_cwSU 0 hF.2.2.2.2 gX3_price_X8_price_s25 rfl rfl rfl (by decide +kernel) ⟨Nat.le_of_ble_eq_true rfl, Nat.le_of_ble_eq_true rfl⟩) qw hw rfl rfl rfl hl.1 rfl (lv_room (Nat.le_of_ble_eq_true rfl)) dX3_price_1 ⟨Nat.le_of_ble_eq_true rfl, Nat.le_of_ble_eq_true rfl⟩) hG (fun r_1 u_1 H locs hp_1 hG => ?_)
  subst hp_1
  refine lv_aload_n hF.1 hF.2.1 dX3_price_4 rfl (lv_at hl 0 rfl) ?_
  refine k_get (C := RX3) (T := TX3) (N := 1) hF hK hG (fun _ h => List.mem_cons_of_mem _ (List.mem_append_left _ (List.mem_append_left _ (List.mem_append_left _ (List.mem_append_left _ (List.mem_append_right _ h)))))) qw hw rfl 0 (by decide) (List.mem_of_getElem? (i := 1) rfl) (fun x9 h9 => u_same (hF.2.2.2.2 _ (List.mem_of_getElem? (i := 2) rfl)) x9 h9) rfl dX3_price_5 ?_
  refine lv_isub hF.1 hF.2.1 dX3_price_8 ?_
  exact hret _ () _ ls _ _ _ _ (by apply fin1 10 f hf; decide +kernel) (by first | rfl | exact nar_b2i _) hG (Nat.le_of_ble_eq_true rfl) (Nat.le_of_ble_eq_true rfl) dX3_price_9

abbrev rmX5_price : Room := { frames := 1, cells := 0, slots := 0, locals := 20 }
set_option maxHeartbeats 4000000 in
set_option maxRecDepth 100000 in
theorem c_X5_price {l : Launch} {D : va_G} {cA : Nat → ClassId} {A : Nat → Prop} {ws : va_W} {w f qw : Nat} (hf : f < 10) (hw : ws[qw]? = some (w, .inr (5, [.int (nI f)]))) : Met l yX5_price wsX5_price rmX5_price (va_Pc [.ref w] (Pre D cA A (ws))) (va_Qi (fun r _ => r = pr 4 f) (fun u t => Wd D A ((fun (_ : Unit) => ws) u) t) A) (0) (0) A := by
  refine k_ofi (S := Unit) (F := fun (_ : Unit) => ws) (cc := cX5_price) (maxL := 1) (by decide) rfl (Nat.le_of_ble_eq_true rfl) ?_
  intro p e s m args below meth c Q hF hini hK hA hG hret ls hl
  have hl : lv_has ls 1 [(0, .ref w)] := hl
  refine lv_aload_n hF.1 hF.2.1 dX5_price_0 rfl (lv_at hl 0 rfl) ?_
  refine k_ci (r_SU (As := []) hF hK hA hG (c_X0_price) (va_cwSU 0 hF.2.2.2.2 gX5_price_X0_price_s22 rfl rfl rfl (by decide +kernel) ⟨Nat.le_of_ble_eq_true rfl, Nat.le_of_ble_eq_true rfl⟩) qw hw rfl rfl rfl hl.1 rfl (lv_room (Nat.le_of_ble_eq_true rfl)) dX5_price_1 ⟨Nat.le_of_ble_eq_true rfl, Nat.le_of_ble_eq_true rfl⟩) hG (fun r_1 u_1 H locs hp_1 hG => ?_)
  subst hp_1
  refine lv_aload_n hF.1 hF.2.1 dX5_price_4 rfl (lv_at hl 0 rfl) ?_
  refine k_get (C := RX5) (T := TX5) (N := 1) hF hK hG (fun _ h => List.mem_cons_of_mem _ (List.mem_append_left _ (List.mem_append_left _ (List.mem_append_right _ h)))) qw hw rfl 0 (by decide) (List.mem_of_getElem? (i := 1) rfl) (fun x9 h9 => u_same (hF.2.2.2.2 _ (List.mem_of_getElem? (i := 2) rfl)) x9 h9) rfl dX5_price_5 ?_
  refine lv_iconst (v := (nI 1)) hF.1 hF.2.1 dX5_price_8 (by decide +kernel) ?_
  refine lv_iadd hF.1 hF.2.1 dX5_price_9 ?_
  refine lv_imul hF.1 hF.2.1 dX5_price_10 ?_
  exact hret _ () _ ls _ _ _ _ (by apply fin1 10 f hf; decide +kernel) (by first | rfl | exact nar_b2i _) hG (Nat.le_of_ble_eq_true rfl) (Nat.le_of_ble_eq_true rfl) dX5_price_11

abbrev rmX7_price : Room := { frames := 1, cells := 0, slots := 0, locals := 20 }
set_option maxHeartbeats 4000000 in
set_option maxRecDepth 100000 in
theorem c_X7_price {l : Launch} {D : va_G} {cA : Nat → ClassId} {A : Nat → Prop} {ws : va_W} {w f qw : Nat} (hf : f < 10) (hw : ws[qw]? = some (w, .inr (7, [.int (nI f)]))) : Met l yX7_price wsX7_price rmX7_price (va_Pc [.ref w] (Pre D cA A (ws))) (va_Qi (fun r _ => r = pr 2 f) (fun u t => Wd D A ((fun (_ : Unit) => ws) u) t) A) (0) (0) A := by
  refine k_ofi (S := Unit) (F := fun (_ : Unit) => ws) (cc := cX7_price) (maxL := 1) (by decide) rfl (Nat.le_of_ble_eq_true rfl) ?_
  intro p e s m args below meth c Q hF hini hK hA hG hret ls hl
  have hl : lv_has ls 1 [(0, .ref w)] := hl
  refine lv_aload_n hF.1 hF.2.1 dX7_price_0 rfl (lv_at hl 0 rfl) ?_
  refine k_ci (r_SU (As := []) hF hK hA hG (c_X0_price) (va_cwSU 0 hF.2.2.2.2 gX7_price_X0_price_s9 rfl rfl rfl (by decide +kernel) ⟨Nat.le_of_ble_eq_true rfl, Nat.le_of_ble_eq_true rfl⟩) qw hw rfl rfl rfl hl.1 rfl (lv_room (Nat.le_of_ble_eq_true rfl)) dX7_price_1 ⟨Nat.le_of_ble_eq_true rfl, Nat.le_of_ble_eq_true rfl⟩) hG (fun r_1 u_1 H locs hp_1 hG => ?_)
  subst hp_1
  refine lv_aload_n hF.1 hF.2.1 dX7_price_4 rfl (lv_at hl 0 rfl) ?_
  refine k_get (C := RX7) (T := TX7) (N := 1) hF hK hG (fun _ h => List.mem_cons_of_mem _ (List.mem_append_left _ (List.mem_append_right _ h))) qw hw rfl 0 (by decide) (List.mem_of_getElem? (i := 1) rfl) (fun x9 h9 => u_same (hF.2.2.2.2 _ (List.mem_of_getElem? (i := 2) rfl)) x9 h9) rfl dX7_price_5 ?_
  refine lv_iadd hF.1 hF.2.1 dX7_price_8 ?_
  exact hret _ () _ ls _ _ _ _ (by apply fin1 10 f hf; decide +kernel) (by first | rfl | exact nar_b2i _) hG (Nat.le_of_ble_eq_true rfl) (Nat.le_of_ble_eq_true rfl) dX7_price_9

abbrev rmX0_init_X0 : Room := { frames := 1, cells := 0, slots := 0, locals := 24 }
set_option maxHeartbeats 4000000 in
set_option maxRecDepth 100000 in
theorem c_X0_init_X0 {l : Launch} {D : va_G} {cA : Nat → ClassId} {A : Nat → Prop} {ws : va_W} {w qw : Nat} {f f0 : Int32} (hw : ws[qw]? = some (w, .inr (0, [.int f0]))) : Met l yX0_init wsX0_init rmX0_init_X0 (va_Pc [.ref w, .int f] (Pre D cA A (ws))) (va_Qv (fun _ => True) (fun u t => Wd D A ((fun (_ : Unit) => ws.set qw (w, .inr (0, [.int f]))) u) t) A) (0) (0) A := by
  refine k_ofv (S := Unit) (F := fun (_ : Unit) => ws.set qw (w, .inr (0, [.int f]))) (cc := cX0_init) (maxL := 2) (by decide) rfl (Nat.le_of_ble_eq_true rfl) ?_
  intro p e s m args below meth c Q hF hini hK hA hG hret ls hl
  have hl : lv_has ls 2 [(0, .ref w), (1, .int f)] := hl
  refine lv_aload_n hF.1 hF.2.1 dX0_init_0 rfl (lv_at hl 0 rfl) ?_
  refine W.objInit hF.1 hF.2.1 hF.2.2.2.1 (hF.2.2.2.2 _ (List.mem_of_getElem? (i := 1) rfl)) (hF.2.2.2.2 _ (List.mem_of_getElem? (i := 2) rfl)) (hF.2.2.2.2 _ (List.mem_of_getElem? (i := 3) rfl)) rfl (by rw [hF.2.2.1]; exact hl.1) rfl dX0_init_1 (Nat.le_of_ble_eq_true rfl) (Nat.le_of_ble_eq_true rfl) ?_
  refine W.eq (g2 := F0 m 4 ls []) rfl ?_
  refine lv_aload_n hF.1 hF.2.1 dX0_init_4 rfl (lv_at hl 0 rfl) ?_
  refine lv_iload_n hF.1 hF.2.1 dX0_init_5 rfl (lv_at hl 1 rfl) ?_
  refine k_putF (C := RX0) (T := TX0) (N := 1) hF hK hG (fun _ h => List.mem_cons_of_mem _ (List.mem_append_left _ (List.mem_append_left _ (List.mem_append_left _ (List.mem_append_left _ (List.mem_append_left _ (List.mem_append_left _ (List.mem_append_left _ (List.mem_append_right _ h))))))))) tyX0 tyX0_ok nmX0 qw hw rfl 0 (by decide) (List.mem_of_getElem? (i := 4) rfl) (fun _ h9 => h9) rfl hini rfl rfl rfl (Nat.le_of_ble_eq_true rfl) dX0_init_6 (fun H locs hG => ?_)
  exact hret () _ ls _ _ _ _ (by trivial) hG (Nat.le_of_ble_eq_true rfl) (Nat.le_of_ble_eq_true rfl) dX0_init_9

abbrev rmX0_init_X1 : Room := { frames := 1, cells := 0, slots := 0, locals := 24 }
set_option maxHeartbeats 4000000 in
set_option maxRecDepth 100000 in
theorem c_X0_init_X1 {l : Launch} {D : va_G} {cA : Nat → ClassId} {A : Nat → Prop} {ws : va_W} {w qw : Nat} {f f0 : Int32} (hw : ws[qw]? = some (w, .inr (1, [.int f0]))) : Met l yX0_init wsX0_init rmX0_init_X1 (va_Pc [.ref w, .int f] (Pre D cA A (ws))) (va_Qv (fun _ => True) (fun u t => Wd D A ((fun (_ : Unit) => ws.set qw (w, .inr (1, [.int f]))) u) t) A) (0) (0) A := by
  refine k_ofv (S := Unit) (F := fun (_ : Unit) => ws.set qw (w, .inr (1, [.int f]))) (cc := cX0_init) (maxL := 2) (by decide) rfl (Nat.le_of_ble_eq_true rfl) ?_
  intro p e s m args below meth c Q hF hini hK hA hG hret ls hl
  have hl : lv_has ls 2 [(0, .ref w), (1, .int f)] := hl
  refine lv_aload_n hF.1 hF.2.1 dX0_init_0 rfl (lv_at hl 0 rfl) ?_
  refine W.objInit hF.1 hF.2.1 hF.2.2.2.1 (hF.2.2.2.2 _ (List.mem_of_getElem? (i := 1) rfl)) (hF.2.2.2.2 _ (List.mem_of_getElem? (i := 2) rfl)) (hF.2.2.2.2 _ (List.mem_of_getElem? (i := 3) rfl)) rfl (by rw [hF.2.2.1]; exact hl.1) rfl dX0_init_1 (Nat.le_of_ble_eq_true rfl) (Nat.le_of_ble_eq_true rfl) ?_
  refine W.eq (g2 := F0 m 4 ls []) rfl ?_
  refine lv_aload_n hF.1 hF.2.1 dX0_init_4 rfl (lv_at hl 0 rfl) ?_
  refine lv_iload_n hF.1 hF.2.1 dX0_init_5 rfl (lv_at hl 1 rfl) ?_
  refine k_putF (C := RX1) (T := TX1) (N := 1) hF hK hG (fun _ h => List.mem_cons_of_mem _ (List.mem_append_left _ (List.mem_append_left _ (List.mem_append_left _ (List.mem_append_left _ (List.mem_append_left _ (List.mem_append_left _ (List.mem_append_right _ h)))))))) tyX1 tyX1_ok nmX1 qw hw rfl 0 (by decide) (List.mem_of_getElem? (i := 4) rfl) (fun _ h9 => h9) rfl hini rfl rfl rfl (Nat.le_of_ble_eq_true rfl) dX0_init_6 (fun H locs hG => ?_)
  exact hret () _ ls _ _ _ _ (by trivial) hG (Nat.le_of_ble_eq_true rfl) (Nat.le_of_ble_eq_true rfl) dX0_init_9

abbrev rmX0_init_X2 : Room := { frames := 1, cells := 0, slots := 0, locals := 24 }
set_option maxHeartbeats 4000000 in
set_option maxRecDepth 100000 in
theorem c_X0_init_X2 {l : Launch} {D : va_G} {cA : Nat → ClassId} {A : Nat → Prop} {ws : va_W} {w qw : Nat} {f f0 : Int32} (hw : ws[qw]? = some (w, .inr (2, [.int f0]))) : Met l yX0_init wsX0_init rmX0_init_X2 (va_Pc [.ref w, .int f] (Pre D cA A (ws))) (va_Qv (fun _ => True) (fun u t => Wd D A ((fun (_ : Unit) => ws.set qw (w, .inr (2, [.int f]))) u) t) A) (0) (0) A := by
  refine k_ofv (S := Unit) (F := fun (_ : Unit) => ws.set qw (w, .inr (2, [.int f]))) (cc := cX0_init) (maxL := 2) (by decide) rfl (Nat.le_of_ble_eq_true rfl) ?_
  intro p e s m args below meth c Q hF hini hK hA hG hret ls hl
  have hl : lv_has ls 2 [(0, .ref w), (1, .int f)] := hl
  refine lv_aload_n hF.1 hF.2.1 dX0_init_0 rfl (lv_at hl 0 rfl) ?_
  refine W.objInit hF.1 hF.2.1 hF.2.2.2.1 (hF.2.2.2.2 _ (List.mem_of_getElem? (i := 1) rfl)) (hF.2.2.2.2 _ (List.mem_of_getElem? (i := 2) rfl)) (hF.2.2.2.2 _ (List.mem_of_getElem? (i := 3) rfl)) rfl (by rw [hF.2.2.1]; exact hl.1) rfl dX0_init_1 (Nat.le_of_ble_eq_true rfl) (Nat.le_of_ble_eq_true rfl) ?_
  refine W.eq (g2 := F0 m 4 ls []) rfl ?_
  refine lv_aload_n hF.1 hF.2.1 dX0_init_4 rfl (lv_at hl 0 rfl) ?_
  refine lv_iload_n hF.1 hF.2.1 dX0_init_5 rfl (lv_at hl 1 rfl) ?_
  refine k_putF (C := RX2) (T := TX2) (N := 1) hF hK hG (fun _ h => List.mem_cons_of_mem _ (List.mem_append_left _ (List.mem_append_left _ (List.mem_append_left _ (List.mem_append_left _ (List.mem_append_left _ (List.mem_append_right _ h))))))) tyX2 tyX2_ok nmX2 qw hw rfl 0 (by decide) (List.mem_of_getElem? (i := 4) rfl) (fun _ h9 => h9) rfl hini rfl rfl rfl (Nat.le_of_ble_eq_true rfl) dX0_init_6 (fun H locs hG => ?_)
  exact hret () _ ls _ _ _ _ (by trivial) hG (Nat.le_of_ble_eq_true rfl) (Nat.le_of_ble_eq_true rfl) dX0_init_9

abbrev rmX0_init_X3 : Room := { frames := 1, cells := 0, slots := 0, locals := 24 }
set_option maxHeartbeats 4000000 in
set_option maxRecDepth 100000 in
theorem c_X0_init_X3 {l : Launch} {D : va_G} {cA : Nat → ClassId} {A : Nat → Prop} {ws : va_W} {w qw : Nat} {f f0 : Int32} (hw : ws[qw]? = some (w, .inr (3, [.int f0]))) : Met l yX0_init wsX0_init rmX0_init_X3 (va_Pc [.ref w, .int f] (Pre D cA A (ws))) (va_Qv (fun _ => True) (fun u t => Wd D A ((fun (_ : Unit) => ws.set qw (w, .inr (3, [.int f]))) u) t) A) (0) (0) A := by
  refine k_ofv (S := Unit) (F := fun (_ : Unit) => ws.set qw (w, .inr (3, [.int f]))) (cc := cX0_init) (maxL := 2) (by decide) rfl (Nat.le_of_ble_eq_true rfl) ?_
  intro p e s m args below meth c Q hF hini hK hA hG hret ls hl
  have hl : lv_has ls 2 [(0, .ref w), (1, .int f)] := hl
  refine lv_aload_n hF.1 hF.2.1 dX0_init_0 rfl (lv_at hl 0 rfl) ?_
  refine W.objInit hF.1 hF.2.1 hF.2.2.2.1 (hF.2.2.2.2 _ (List.mem_of_getElem? (i := 1) rfl)) (hF.2.2.2.2 _ (List.mem_of_getElem? (i := 2) rfl)) (hF.2.2.2.2 _ (List.mem_of_getElem? (i := 3) rfl)) rfl (by rw [hF.2.2.1]; exact hl.1) rfl dX0_init_1 (Nat.le_of_ble_eq_true rfl) (Nat.le_of_ble_eq_true rfl) ?_
  refine W.eq (g2 := F0 m 4 ls []) rfl ?_
  refine lv_aload_n hF.1 hF.2.1 dX0_init_4 rfl (lv_at hl 0 rfl) ?_
  refine lv_iload_n hF.1 hF.2.1 dX0_init_5 rfl (lv_at hl 1 rfl) ?_
  refine k_putF (C := RX3) (T := TX3) (N := 1) hF hK hG (fun _ h => List.mem_cons_of_mem _ (List.mem_append_left _ (List.mem_append_left _ (List.mem_append_left _ (List.mem_append_left _ (List.mem_append_right _ h)))))) tyX3 tyX3_ok nmX3 qw hw rfl 0 (by decide) (List.mem_of_getElem? (i := 4) rfl) (fun _ h9 => h9) rfl hini rfl rfl rfl (Nat.le_of_ble_eq_true rfl) dX0_init_6 (fun H locs hG => ?_)
  exact hret () _ ls _ _ _ _ (by trivial) hG (Nat.le_of_ble_eq_true rfl) (Nat.le_of_ble_eq_true rfl) dX0_init_9

abbrev rmX0_init_X4 : Room := { frames := 1, cells := 0, slots := 0, locals := 24 }
set_option maxHeartbeats 4000000 in
set_option maxRecDepth 100000 in
theorem c_X0_init_X4 {l : Launch} {D : va_G} {cA : Nat → ClassId} {A : Nat → Prop} {ws : va_W} {w qw : Nat} {f f0 : Int32} (hw : ws[qw]? = some (w, .inr (4, [.int f0]))) : Met l yX0_init wsX0_init rmX0_init_X4 (va_Pc [.ref w, .int f] (Pre D cA A (ws))) (va_Qv (fun _ => True) (fun u t => Wd D A ((fun (_ : Unit) => ws.set qw (w, .inr (4, [.int f]))) u) t) A) (0) (0) A := by
  refine k_ofv (S := Unit) (F := fun (_ : Unit) => ws.set qw (w, .inr (4, [.int f]))) (cc := cX0_init) (maxL := 2) (by decide) rfl (Nat.le_of_ble_eq_true rfl) ?_
  intro p e s m args below meth c Q hF hini hK hA hG hret ls hl
  have hl : lv_has ls 2 [(0, .ref w), (1, .int f)] := hl
  refine lv_aload_n hF.1 hF.2.1 dX0_init_0 rfl (lv_at hl 0 rfl) ?_
  refine W.objInit hF.1 hF.2.1 hF.2.2.2.1 (hF.2.2.2.2 _ (List.mem_of_getElem? (i := 1) rfl)) (hF.2.2.2.2 _ (List.mem_of_getElem? (i := 2) rfl)) (hF.2.2.2.2 _ (List.mem_of_getElem? (i := 3) rfl)) rfl (by rw [hF.2.2.1]; exact hl.1) rfl dX0_init_1 (Nat.le_of_ble_eq_true rfl) (Nat.le_of_ble_eq_true rfl) ?_
  refine W.eq (g2 := F0 m 4 ls []) rfl ?_
  refine lv_aload_n hF.1 hF.2.1 dX0_init_4 rfl (lv_at hl 0 rfl) ?_
  refine lv_iload_n hF.1 hF.2.1 dX0_init_5 rfl (lv_at hl 1 rfl) ?_
  refine k_putF (C := RX4) (T := TX4) (N := 1) hF hK hG (fun _ h => List.mem_cons_of_mem _ (List.mem_append_left _ (List.mem_append_left _ (List.mem_append_left _ (List.mem_append_right _ h))))) tyX4 tyX4_ok nmX4 qw hw rfl 0 (by decide) (List.mem_of_getElem? (i := 4) rfl) (fun _ h9 => h9) rfl hini rfl rfl rfl (Nat.le_of_ble_eq_true rfl) dX0_init_6 (fun H locs hG => ?_)
  exact hret () _ ls _ _ _ _ (by trivial) hG (Nat.le_of_ble_eq_true rfl) (Nat.le_of_ble_eq_true rfl) dX0_init_9

abbrev rmX0_init_X5 : Room := { frames := 1, cells := 0, slots := 0, locals := 24 }
set_option maxHeartbeats 4000000 in
set_option maxRecDepth 100000 in
theorem c_X0_init_X5 {l : Launch} {D : va_G} {cA : Nat → ClassId} {A : Nat → Prop} {ws : va_W} {w qw : Nat} {f f0 : Int32} (hw : ws[qw]? = some (w, .inr (5, [.int f0]))) : Met l yX0_init wsX0_init rmX0_init_X5 (va_Pc [.ref w, .int f] (Pre D cA A (ws))) (va_Qv (fun _ => True) (fun u t => Wd D A ((fun (_ : Unit) => ws.set qw (w, .inr (5, [.int f]))) u) t) A) (0) (0) A := by
  refine k_ofv (S := Unit) (F := fun (_ : Unit) => ws.set qw (w, .inr (5, [.int f]))) (cc := cX0_init) (maxL := 2) (by decide) rfl (Nat.le_of_ble_eq_true rfl) ?_
  intro p e s m args below meth c Q hF hini hK hA hG hret ls hl
  have hl : lv_has ls 2 [(0, .ref w), (1, .int f)] := hl
  refine lv_aload_n hF.1 hF.2.1 dX0_init_0 rfl (lv_at hl 0 rfl) ?_
  refine W.objInit hF.1 hF.2.1 hF.2.2.2.1 (hF.2.2.2.2 _ (List.mem_of_getElem? (i := 1) rfl)) (hF.2.2.2.2 _ (List.mem_of_getElem? (i := 2) rfl)) (hF.2.2.2.2 _ (List.mem_of_getElem? (i := 3) rfl)) rfl (by rw [hF.2.2.1]; exact hl.1) rfl dX0_init_1 (Nat.le_of_ble_eq_true rfl) (Nat.le_of_ble_eq_true rfl) ?_
  refine W.eq (g2 := F0 m 4 ls []) rfl ?_
  refine lv_aload_n hF.1 hF.2.1 dX0_init_4 rfl (lv_at hl 0 rfl) ?_
  refine lv_iload_n hF.1 hF.2.1 dX0_init_5 rfl (lv_at hl 1 rfl) ?_
  refine k_putF (C := RX5) (T := TX5) (N := 1) hF hK hG (fun _ h => List.mem_cons_of_mem _ (List.mem_append_left _ (List.mem_append_left _ (List.mem_append_right _ h)))) tyX5 tyX5_ok nmX5 qw hw rfl 0 (by decide) (List.mem_of_getElem? (i := 4) rfl) (fun _ h9 => h9) rfl hini rfl rfl rfl (Nat.le_of_ble_eq_true rfl) dX0_init_6 (fun H locs hG => ?_)
  exact hret () _ ls _ _ _ _ (by trivial) hG (Nat.le_of_ble_eq_true rfl) (Nat.le_of_ble_eq_true rfl) dX0_init_9

abbrev rmX0_init_X7 : Room := { frames := 1, cells := 0, slots := 0, locals := 24 }
set_option maxHeartbeats 4000000 in
set_option maxRecDepth 100000 in
theorem c_X0_init_X7 {l : Launch} {D : va_G} {cA : Nat → ClassId} {A : Nat → Prop} {ws : va_W} {w qw : Nat} {f f0 : Int32} (hw : ws[qw]? = some (w, .inr (7, [.int f0]))) : Met l yX0_init wsX0_init rmX0_init_X7 (va_Pc [.ref w, .int f] (Pre D cA A (ws))) (va_Qv (fun _ => True) (fun u t => Wd D A ((fun (_ : Unit) => ws.set qw (w, .inr (7, [.int f]))) u) t) A) (0) (0) A := by
  refine k_ofv (S := Unit) (F := fun (_ : Unit) => ws.set qw (w, .inr (7, [.int f]))) (cc := cX0_init) (maxL := 2) (by decide) rfl (Nat.le_of_ble_eq_true rfl) ?_
  intro p e s m args below meth c Q hF hini hK hA hG hret ls hl
  have hl : lv_has ls 2 [(0, .ref w), (1, .int f)] := hl
  refine lv_aload_n hF.1 hF.2.1 dX0_init_0 rfl (lv_at hl 0 rfl) ?_
  refine W.objInit hF.1 hF.2.1 hF.2.2.2.1 (hF.2.2.2.2 _ (List.mem_of_getElem? (i := 1) rfl)) (hF.2.2.2.2 _ (List.mem_of_getElem? (i := 2) rfl)) (hF.2.2.2.2 _ (List.mem_of_getElem? (i := 3) rfl)) rfl (by rw [hF.2.2.1]; exact hl.1) rfl dX0_init_1 (Nat.le_of_ble_eq_true rfl) (Nat.le_of_ble_eq_true rfl) ?_
  refine W.eq (g2 := F0 m 4 ls []) rfl ?_
  refine lv_aload_n hF.1 hF.2.1 dX0_init_4 rfl (lv_at hl 0 rfl) ?_
  refine lv_iload_n hF.1 hF.2.1 dX0_init_5 rfl (lv_at hl 1 rfl) ?_
  refine k_putF (C := RX7) (T := TX7) (N := 1) hF hK hG (fun _ h => List.mem_cons_of_mem _ (List.mem_append_left _ (List.mem_append_right _ h))) tyX7 tyX7_ok nmX7 qw hw rfl 0 (by decide) (List.mem_of_getElem? (i := 4) rfl) (fun _ h9 => h9) rfl hini rfl rfl rfl (Nat.le_of_ble_eq_true rfl) dX0_init_6 (fun H locs hG => ?_)
  exact hret () _ ls _ _ _ _ (by trivial) hG (Nat.le_of_ble_eq_true rfl) (Nat.le_of_ble_eq_true rfl) dX0_init_9

abbrev rmX0_init_X8 : Room := { frames := 1, cells := 0, slots := 0, locals := 24 }
set_option maxHeartbeats 4000000 in
set_option maxRecDepth 100000 in
theorem c_X0_init_X8 {l : Launch} {D : va_G} {cA : Nat → ClassId} {A : Nat → Prop} {ws : va_W} {w qw : Nat} {f f0 : Int32} (hw : ws[qw]? = some (w, .inr (8, [.int f0]))) : Met l yX0_init wsX0_init rmX0_init_X8 (va_Pc [.ref w, .int f] (Pre D cA A (ws))) (va_Qv (fun _ => True) (fun u t => Wd D A ((fun (_ : Unit) => ws.set qw (w, .inr (8, [.int f]))) u) t) A) (0) (0) A := by
  refine k_ofv (S := Unit) (F := fun (_ : Unit) => ws.set qw (w, .inr (8, [.int f]))) (cc := cX0_init) (maxL := 2) (by decide) rfl (Nat.le_of_ble_eq_true rfl) ?_
  intro p e s m args below meth c Q hF hini hK hA hG hret ls hl
  have hl : lv_has ls 2 [(0, .ref w), (1, .int f)] := hl
  refine lv_aload_n hF.1 hF.2.1 dX0_init_0 rfl (lv_at hl 0 rfl) ?_
  refine W.objInit hF.1 hF.2.1 hF.2.2.2.1 (hF.2.2.2.2 _ (List.mem_of_getElem? (i := 1) rfl)) (hF.2.2.2.2 _ (List.mem_of_getElem? (i := 2) rfl)) (hF.2.2.2.2 _ (List.mem_of_getElem? (i := 3) rfl)) rfl (by rw [hF.2.2.1]; exact hl.1) rfl dX0_init_1 (Nat.le_of_ble_eq_true rfl) (Nat.le_of_ble_eq_true rfl) ?_
  refine W.eq (g2 := F0 m 4 ls []) rfl ?_
  refine lv_aload_n hF.1 hF.2.1 dX0_init_4 rfl (lv_at hl 0 rfl) ?_
  refine lv_iload_n hF.1 hF.2.1 dX0_init_5 rfl (lv_at hl 1 rfl) ?_
  refine k_putF (C := RX8) (T := TX8) (N := 1) hF hK hG (fun _ h => List.mem_cons_of_mem _ (List.mem_append_right _ h)) tyX8 tyX8_ok nmX8 qw hw rfl 0 (by decide) (List.mem_of_getElem? (i := 4) rfl) (fun _ h9 => h9) rfl hini rfl rfl rfl (Nat.le_of_ble_eq_true rfl) dX0_init_6 (fun H locs hG => ?_)
  exact hret () _ ls _ _ _ _ (by trivial) hG (Nat.le_of_ble_eq_true rfl) (Nat.le_of_ble_eq_true rfl) dX0_init_9

abbrev rmX1_init_X1 : Room := { frames := 2, cells := 0, slots := 0, locals := 45 }
set_option maxHeartbeats 4000000 in
set_option maxRecDepth 100000 in
theorem c_X1_init_X1 {l : Launch} {D : va_G} {cA : Nat → ClassId} {A : Nat → Prop} {ws : va_W} {w qw : Nat} {f f0 : Int32} (hw : ws[qw]? = some (w, .inr (1, [.int f0]))) : Met l yX1_init wsX1_init rmX1_init_X1 (va_Pc [.ref w, .int f] (Pre D cA A (ws))) (va_Qv (fun _ => True) (fun u t => Wd D A ((fun (_ : Unit) => ws.set qw (w, .inr (1, [.int f]))) u) t) A) (0) (0) A := by
  refine k_ofv (S := Unit) (F := fun (_ : Unit) => ws.set qw (w, .inr (1, [.int f]))) (cc := cX1_init) (maxL := 2) (by decide) rfl (Nat.le_of_ble_eq_true rfl) ?_
  intro p e s m args below meth c Q hF hini hK hA hG hret ls hl
  have hl : lv_has ls 2 [(0, .ref w), (1, .int f)] := hl
  refine lv_aload_n hF.1 hF.2.1 dX1_init_0 rfl (lv_at hl 0 rfl) ?_
  refine lv_iload_n hF.1 hF.2.1 dX1_init_1 rfl (lv_at hl 1 rfl) ?_
  refine k_cv (r_I (As := [.int f]) hF hK hA hG (c_X0_init_X1 hw) (cwI 1 hF.2.2.2.2 gX1_init_X0_init rfl rfl rfl (hF.2.2.2.2 _ (List.mem_of_getElem? (i := 3) rfl)) (hF.2.2.2.2 _ (List.mem_of_getElem? (i := 1) rfl)) (hF.2.2.2.2 _ (List.mem_of_getElem? (i := 2) rfl)) rfl (by decide +kernel) ⟨Nat.le_of_ble_eq_true rfl, Nat.le_of_ble_eq_true rfl⟩) rfl hl.1 rfl (lv_room (Nat.le_of_ble_eq_true rfl)) dX1_init_2 ⟨Nat.le_of_ble_eq_true rfl, Nat.le_of_ble_eq_true rfl⟩) hG (fun u_2 H locs hp_2 hG => ?_)
  exact hret () _ ls _ _ _ _ (by trivial) hG (Nat.le_of_ble_eq_true rfl) (Nat.le_of_ble_eq_true rfl) dX1_init_5

abbrev rmX1_init_X3 : Room := { frames := 2, cells := 0, slots := 0, locals := 45 }
set_option maxHeartbeats 4000000 in
set_option maxRecDepth 100000 in
theorem c_X1_init_X3 {l : Launch} {D : va_G} {cA : Nat → ClassId} {A : Nat → Prop} {ws : va_W} {w qw : Nat} {f f0 : Int32} (hw : ws[qw]? = some (w, .inr (3, [.int f0]))) : Met l yX1_init wsX1_init rmX1_init_X3 (va_Pc [.ref w, .int f] (Pre D cA A (ws))) (va_Qv (fun _ => True) (fun u t => Wd D A ((fun (_ : Unit) => ws.set qw (w, .inr (3, [.int f]))) u) t) A) (0) (0) A := by
  refine k_ofv (S := Unit) (F := fun (_ : Unit) => ws.set qw (w, .inr (3, [.int f]))) (cc := cX1_init) (maxL := 2) (by decide) rfl (Nat.le_of_ble_eq_true rfl) ?_
  intro p e s m args below meth c Q hF hini hK hA hG hret ls hl
  have hl : lv_has ls 2 [(0, .ref w), (1, .int f)] := hl
  refine lv_aload_n hF.1 hF.2.1 dX1_init_0 rfl (lv_at hl 0 rfl) ?_
  refine lv_iload_n hF.1 hF.2.1 dX1_init_1 rfl (lv_at hl 1 rfl) ?_
  refine k_cv (r_I (As := [.int f]) hF hK hA hG (c_X0_init_X3 hw) (cwI 1 hF.2.2.2.2 gX1_init_X0_init rfl rfl rfl (hF.2.2.2.2 _ (List.mem_of_getElem? (i := 3) rfl)) (hF.2.2.2.2 _ (List.mem_of_getElem? (i := 1) rfl)) (hF.2.2.2.2 _ (List.mem_of_getElem? (i := 2) rfl)) rfl (by decide +kernel) ⟨Nat.le_of_ble_eq_true rfl, Nat.le_of_ble_eq_true rfl⟩) rfl hl.1 rfl (lv_room (Nat.le_of_ble_eq_true rfl)) dX1_init_2 ⟨Nat.le_of_ble_eq_true rfl, Nat.le_of_ble_eq_true rfl⟩) hG (fun u_2 H locs hp_2 hG => ?_)
  exact hret () _ ls _ _ _ _ (by trivial) hG (Nat.le_of_ble_eq_true rfl) (Nat.le_of_ble_eq_true rfl) dX1_init_5

abbrev rmX1_init_X4 : Room := { frames := 2, cells := 0, slots := 0, locals := 45 }
set_option maxHeartbeats 4000000 in
set_option maxRecDepth 100000 in
theorem c_X1_init_X4 {l : Launch} {D : va_G} {cA : Nat → ClassId} {A : Nat → Prop} {ws : va_W} {w qw : Nat} {f f0 : Int32} (hw : ws[qw]? = some (w, .inr (4, [.int f0]))) : Met l yX1_init wsX1_init rmX1_init_X4 (va_Pc [.ref w, .int f] (Pre D cA A (ws))) (va_Qv (fun _ => True) (fun u t => Wd D A ((fun (_ : Unit) => ws.set qw (w, .inr (4, [.int f]))) u) t) A) (0) (0) A := by
  refine k_ofv (S := Unit) (F := fun (_ : Unit) => ws.set qw (w, .inr (4, [.int f]))) (cc := cX1_init) (maxL := 2) (by decide) rfl (Nat.le_of_ble_eq_true rfl) ?_
  intro p e s m args below meth c Q hF hini hK hA hG hret ls hl
  have hl : lv_has ls 2 [(0, .ref w), (1, .int f)] := hl
  refine lv_aload_n hF.1 hF.2.1 dX1_init_0 rfl (lv_at hl 0 rfl) ?_
  refine lv_iload_n hF.1 hF.2.1 dX1_init_1 rfl (lv_at hl 1 rfl) ?_
  refine k_cv (r_I (As := [.int f]) hF hK hA hG (c_X0_init_X4 hw) (cwI 1 hF.2.2.2.2 gX1_init_X0_init rfl rfl rfl (hF.2.2.2.2 _ (List.mem_of_getElem? (i := 3) rfl)) (hF.2.2.2.2 _ (List.mem_of_getElem? (i := 1) rfl)) (hF.2.2.2.2 _ (List.mem_of_getElem? (i := 2) rfl)) rfl (by decide +kernel) ⟨Nat.le_of_ble_eq_true rfl, Nat.le_of_ble_eq_true rfl⟩) rfl hl.1 rfl (lv_room (Nat.le_of_ble_eq_true rfl)) dX1_init_2 ⟨Nat.le_of_ble_eq_true rfl, Nat.le_of_ble_eq_true rfl⟩) hG (fun u_2 H locs hp_2 hG => ?_)
  exact hret () _ ls _ _ _ _ (by trivial) hG (Nat.le_of_ble_eq_true rfl) (Nat.le_of_ble_eq_true rfl) dX1_init_5

abbrev rmX1_init_X8 : Room := { frames := 2, cells := 0, slots := 0, locals := 45 }
set_option maxHeartbeats 4000000 in
set_option maxRecDepth 100000 in
theorem c_X1_init_X8 {l : Launch} {D : va_G} {cA : Nat → ClassId} {A : Nat → Prop} {ws : va_W} {w qw : Nat} {f f0 : Int32} (hw : ws[qw]? = some (w, .inr (8, [.int f0]))) : Met l yX1_init wsX1_init rmX1_init_X8 (va_Pc [.ref w, .int f] (Pre D cA A (ws))) (va_Qv (fun _ => True) (fun u t => Wd D A ((fun (_ : Unit) => ws.set qw (w, .inr (8, [.int f]))) u) t) A) (0) (0) A := by
  refine k_ofv (S := Unit) (F := fun (_ : Unit) => ws.set qw (w, .inr (8, [.int f]))) (cc := cX1_init) (maxL := 2) (by decide) rfl (Nat.le_of_ble_eq_true rfl) ?_
  intro p e s m args below meth c Q hF hini hK hA hG hret ls hl
  have hl : lv_has ls 2 [(0, .ref w), (1, .int f)] := hl
  refine lv_aload_n hF.1 hF.2.1 dX1_init_0 rfl (lv_at hl 0 rfl) ?_
  refine lv_iload_n hF.1 hF.2.1 dX1_init_1 rfl (lv_at hl 1 rfl) ?_
  refine k_cv (r_I (As := [.int f]) hF hK hA hG (c_X0_init_X8 hw) (cwI 1 hF.2.2.2.2 gX1_init_X0_init rfl rfl rfl (hF.2.2.2.2 _ (List.mem_of_getElem? (i := 3) rfl)) (hF.2.2.2.2 _ (List.mem_of_getElem? (i := 1) rfl)) (hF.2.2.2.2 _ (List.mem_of_getElem? (i := 2) rfl)) rfl (by decide +kernel) ⟨Nat.le_of_ble_eq_true rfl, Nat.le_of_ble_eq_true rfl⟩) rfl hl.1 rfl (lv_room (Nat.le_of_ble_eq_true rfl)) dX1_init_2 ⟨Nat.le_of_ble_eq_true rfl, Nat.le_of_ble_eq_true rfl⟩) hG (fun u_2 H locs hp_2 hG => ?_)
  exact hret () _ ls _ _ _ _ (by trivial) hG (Nat.le_of_ble_eq_true rfl) (Nat.le_of_ble_eq_true rfl) dX1_init_5

abbrev rmX8_init_X3 : Room := { frames := 3, cells := 0, slots := 0, locals := 66 }
set_option maxHeartbeats 4000000 in
set_option maxRecDepth 100000 in
theorem c_X8_init_X3 {l : Launch} {D : va_G} {cA : Nat → ClassId} {A : Nat → Prop} {ws : va_W} {w qw : Nat} {f f0 : Int32} (hw : ws[qw]? = some (w, .inr (3, [.int f0]))) : Met l yX8_init wsX8_init rmX8_init_X3 (va_Pc [.ref w, .int f] (Pre D cA A (ws))) (va_Qv (fun _ => True) (fun u t => Wd D A ((fun (_ : Unit) => ws.set qw (w, .inr (3, [.int f]))) u) t) A) (0) (0) A := by
  refine k_ofv (S := Unit) (F := fun (_ : Unit) => ws.set qw (w, .inr (3, [.int f]))) (cc := cX8_init) (maxL := 2) (by decide) rfl (Nat.le_of_ble_eq_true rfl) ?_
  intro p e s m args below meth c Q hF hini hK hA hG hret ls hl
  have hl : lv_has ls 2 [(0, .ref w), (1, .int f)] := hl
  refine lv_aload_n hF.1 hF.2.1 dX8_init_0 rfl (lv_at hl 0 rfl) ?_
  refine lv_iload_n hF.1 hF.2.1 dX8_init_1 rfl (lv_at hl 1 rfl) ?_
  refine k_cv (r_I (As := [.int f]) hF hK hA hG (c_X1_init_X3 hw) (cwI 1 hF.2.2.2.2 gX8_init_X1_init rfl rfl rfl (hF.2.2.2.2 _ (List.mem_of_getElem? (i := 3) rfl)) (hF.2.2.2.2 _ (List.mem_of_getElem? (i := 1) rfl)) (hF.2.2.2.2 _ (List.mem_of_getElem? (i := 2) rfl)) rfl (by decide +kernel) ⟨Nat.le_of_ble_eq_true rfl, Nat.le_of_ble_eq_true rfl⟩) rfl hl.1 rfl (lv_room (Nat.le_of_ble_eq_true rfl)) dX8_init_2 ⟨Nat.le_of_ble_eq_true rfl, Nat.le_of_ble_eq_true rfl⟩) hG (fun u_2 H locs hp_2 hG => ?_)
  exact hret () _ ls _ _ _ _ (by trivial) hG (Nat.le_of_ble_eq_true rfl) (Nat.le_of_ble_eq_true rfl) dX8_init_5

abbrev rmX8_init_X8 : Room := { frames := 3, cells := 0, slots := 0, locals := 66 }
set_option maxHeartbeats 4000000 in
set_option maxRecDepth 100000 in
theorem c_X8_init_X8 {l : Launch} {D : va_G} {cA : Nat → ClassId} {A : Nat → Prop} {ws : va_W} {w qw : Nat} {f f0 : Int32} (hw : ws[qw]? = some (w, .inr (8, [.int f0]))) : Met l yX8_init wsX8_init rmX8_init_X8 (va_Pc [.ref w, .int f] (Pre D cA A (ws))) (va_Qv (fun _ => True) (fun u t => Wd D A ((fun (_ : Unit) => ws.set qw (w, .inr (8, [.int f]))) u) t) A) (0) (0) A := by
  refine k_ofv (S := Unit) (F := fun (_ : Unit) => ws.set qw (w, .inr (8, [.int f]))) (cc := cX8_init) (maxL := 2) (by decide) rfl (Nat.le_of_ble_eq_true rfl) ?_
  intro p e s m args below meth c Q hF hini hK hA hG hret ls hl
  have hl : lv_has ls 2 [(0, .ref w), (1, .int f)] := hl
  refine lv_aload_n hF.1 hF.2.1 dX8_init_0 rfl (lv_at hl 0 rfl) ?_
  refine lv_iload_n hF.1 hF.2.1 dX8_init_1 rfl (lv_at hl 1 rfl) ?_
  refine k_cv (r_I (As := [.int f]) hF hK hA hG (c_X1_init_X8 hw) (cwI 1 hF.2.2.2.2 gX8_init_X1_init rfl rfl rfl (hF.2.2.2.2 _ (List.mem_of_getElem? (i := 3) rfl)) (hF.2.2.2.2 _ (List.mem_of_getElem? (i := 1) rfl)) (hF.2.2.2.2 _ (List.mem_of_getElem? (i := 2) rfl)) rfl (by decide +kernel) ⟨Nat.le_of_ble_eq_true rfl, Nat.le_of_ble_eq_true rfl⟩) rfl hl.1 rfl (lv_room (Nat.le_of_ble_eq_true rfl)) dX8_init_2 ⟨Nat.le_of_ble_eq_true rfl, Nat.le_of_ble_eq_true rfl⟩) hG (fun u_2 H locs hp_2 hG => ?_)
  exact hret () _ ls _ _ _ _ (by trivial) hG (Nat.le_of_ble_eq_true rfl) (Nat.le_of_ble_eq_true rfl) dX8_init_5

abbrev rmX2_init : Room := { frames := 2, cells := 0, slots := 0, locals := 45 }
set_option maxHeartbeats 4000000 in
set_option maxRecDepth 100000 in
theorem c_X2_init {l : Launch} {D : va_G} {cA : Nat → ClassId} {A : Nat → Prop} {ws : va_W} {w qw : Nat} {f f0 : Int32} (hw : ws[qw]? = some (w, .inr (2, [.int f0]))) : Met l yX2_init wsX2_init rmX2_init (va_Pc [.ref w, .int f] (Pre D cA A (ws))) (va_Qv (fun _ => True) (fun u t => Wd D A ((fun (_ : Unit) => ws.set qw (w, .inr (2, [.int f]))) u) t) A) (0) (0) A := by
  refine k_ofv (S := Unit) (F := fun (_ : Unit) => ws.set qw (w, .inr (2, [.int f]))) (cc := cX2_init) (maxL := 2) (by decide) rfl (Nat.le_of_ble_eq_true rfl) ?_
  intro p e s m args below meth c Q hF hini hK hA hG hret ls hl
  have hl : lv_has ls 2 [(0, .ref w), (1, .int f)] := hl
  refine lv_aload_n hF.1 hF.2.1 dX2_init_0 rfl (lv_at hl 0 rfl) ?_
  refine lv_iload_n hF.1 hF.2.1 dX2_init_1 rfl (lv_at hl 1 rfl) ?_
  refine k_cv (r_I (As := [.int f]) hF hK hA hG (c_X0_init_X2 hw) (cwI 1 hF.2.2.2.2 gX2_init_X0_init rfl rfl rfl (hF.2.2.2.2 _ (List.mem_of_getElem? (i := 3) rfl)) (hF.2.2.2.2 _ (List.mem_of_getElem? (i := 1) rfl)) (hF.2.2.2.2 _ (List.mem_of_getElem? (i := 2) rfl)) rfl (by decide +kernel) ⟨Nat.le_of_ble_eq_true rfl, Nat.le_of_ble_eq_true rfl⟩) rfl hl.1 rfl (lv_room (Nat.le_of_ble_eq_true rfl)) dX2_init_2 ⟨Nat.le_of_ble_eq_true rfl, Nat.le_of_ble_eq_true rfl⟩) hG (fun u_2 H locs hp_2 hG => ?_)
  exact hret () _ ls _ _ _ _ (by trivial) hG (Nat.le_of_ble_eq_true rfl) (Nat.le_of_ble_eq_true rfl) dX2_init_5

abbrev rmX5_init : Room := { frames := 2, cells := 0, slots := 0, locals := 45 }
set_option maxHeartbeats 4000000 in
set_option maxRecDepth 100000 in
theorem c_X5_init {l : Launch} {D : va_G} {cA : Nat → ClassId} {A : Nat → Prop} {ws : va_W} {w qw : Nat} {f f0 : Int32} (hw : ws[qw]? = some (w, .inr (5, [.int f0]))) : Met l yX5_init wsX5_init rmX5_init (va_Pc [.ref w, .int f] (Pre D cA A (ws))) (va_Qv (fun _ => True) (fun u t => Wd D A ((fun (_ : Unit) => ws.set qw (w, .inr (5, [.int f]))) u) t) A) (0) (0) A := by
  refine k_ofv (S := Unit) (F := fun (_ : Unit) => ws.set qw (w, .inr (5, [.int f]))) (cc := cX5_init) (maxL := 2) (by decide) rfl (Nat.le_of_ble_eq_true rfl) ?_
  intro p e s m args below meth c Q hF hini hK hA hG hret ls hl
  have hl : lv_has ls 2 [(0, .ref w), (1, .int f)] := hl
  refine lv_aload_n hF.1 hF.2.1 dX5_init_0 rfl (lv_at hl 0 rfl) ?_
  refine lv_iload_n hF.1 hF.2.1 dX5_init_1 rfl (lv_at hl 1 rfl) ?_
  refine k_cv (r_I (As := [.int f]) hF hK hA hG (c_X0_init_X5 hw) (cwI 1 hF.2.2.2.2 gX5_init_X0_init rfl rfl rfl (hF.2.2.2.2 _ (List.mem_of_getElem? (i := 3) rfl)) (hF.2.2.2.2 _ (List.mem_of_getElem? (i := 1) rfl)) (hF.2.2.2.2 _ (List.mem_of_getElem? (i := 2) rfl)) rfl (by decide +kernel) ⟨Nat.le_of_ble_eq_true rfl, Nat.le_of_ble_eq_true rfl⟩) rfl hl.1 rfl (lv_room (Nat.le_of_ble_eq_true rfl)) dX5_init_2 ⟨Nat.le_of_ble_eq_true rfl, Nat.le_of_ble_eq_true rfl⟩) hG (fun u_2 H locs hp_2 hG => ?_)
  exact hret () _ ls _ _ _ _ (by trivial) hG (Nat.le_of_ble_eq_true rfl) (Nat.le_of_ble_eq_true rfl) dX5_init_5

abbrev rmX7_init : Room := { frames := 2, cells := 0, slots := 0, locals := 45 }
set_option maxHeartbeats 4000000 in
set_option maxRecDepth 100000 in
theorem c_X7_init {l : Launch} {D : va_G} {cA : Nat → ClassId} {A : Nat → Prop} {ws : va_W} {w qw : Nat} {f f0 : Int32} (hw : ws[qw]? = some (w, .inr (7, [.int f0]))) : Met l yX7_init wsX7_init rmX7_init (va_Pc [.ref w, .int f] (Pre D cA A (ws))) (va_Qv (fun _ => True) (fun u t => Wd D A ((fun (_ : Unit) => ws.set qw (w, .inr (7, [.int f]))) u) t) A) (0) (0) A := by
  refine k_ofv (S := Unit) (F := fun (_ : Unit) => ws.set qw (w, .inr (7, [.int f]))) (cc := cX7_init) (maxL := 2) (by decide) rfl (Nat.le_of_ble_eq_true rfl) ?_
  intro p e s m args below meth c Q hF hini hK hA hG hret ls hl
  have hl : lv_has ls 2 [(0, .ref w), (1, .int f)] := hl
  refine lv_aload_n hF.1 hF.2.1 dX7_init_0 rfl (lv_at hl 0 rfl) ?_
  refine lv_iload_n hF.1 hF.2.1 dX7_init_1 rfl (lv_at hl 1 rfl) ?_
  refine k_cv (r_I (As := [.int f]) hF hK hA hG (c_X0_init_X7 hw) (cwI 1 hF.2.2.2.2 gX7_init_X0_init rfl rfl rfl (hF.2.2.2.2 _ (List.mem_of_getElem? (i := 3) rfl)) (hF.2.2.2.2 _ (List.mem_of_getElem? (i := 1) rfl)) (hF.2.2.2.2 _ (List.mem_of_getElem? (i := 2) rfl)) rfl (by decide +kernel) ⟨Nat.le_of_ble_eq_true rfl, Nat.le_of_ble_eq_true rfl⟩) rfl hl.1 rfl (lv_room (Nat.le_of_ble_eq_true rfl)) dX7_init_2 ⟨Nat.le_of_ble_eq_true rfl, Nat.le_of_ble_eq_true rfl⟩) hG (fun u_2 H locs hp_2 hG => ?_)
  exact hret () _ ls _ _ _ _ (by trivial) hG (Nat.le_of_ble_eq_true rfl) (Nat.le_of_ble_eq_true rfl) dX7_init_5

abbrev rmX4_init : Room := { frames := 3, cells := 0, slots := 0, locals := 66 }
set_option maxHeartbeats 4000000 in
set_option maxRecDepth 100000 in
theorem c_X4_init {l : Launch} {D : va_G} {cA : Nat → ClassId} {A : Nat → Prop} {ws : va_W} {w qw : Nat} {f f0 : Int32} (hw : ws[qw]? = some (w, .inr (4, [.int f0]))) : Met l yX4_init wsX4_init rmX4_init (va_Pc [.ref w, .int f] (Pre D cA A (ws))) (va_Qv (fun _ => True) (fun u t => Wd D A ((fun (_ : Unit) => ws.set qw (w, .inr (4, [.int f]))) u) t) A) (0) (0) A := by
  refine k_ofv (S := Unit) (F := fun (_ : Unit) => ws.set qw (w, .inr (4, [.int f]))) (cc := cX4_init) (maxL := 2) (by decide) rfl (Nat.le_of_ble_eq_true rfl) ?_
  intro p e s m args below meth c Q hF hini hK hA hG hret ls hl
  have hl : lv_has ls 2 [(0, .ref w), (1, .int f)] := hl
  refine lv_aload_n hF.1 hF.2.1 dX4_init_0 rfl (lv_at hl 0 rfl) ?_
  refine lv_iload_n hF.1 hF.2.1 dX4_init_1 rfl (lv_at hl 1 rfl) ?_
  refine k_cv (r_I (As := [.int f]) hF hK hA hG (c_X1_init_X4 hw) (cwI 1 hF.2.2.2.2 gX4_init_X1_init rfl rfl rfl (hF.2.2.2.2 _ (List.mem_of_getElem? (i := 3) rfl)) (hF.2.2.2.2 _ (List.mem_of_getElem? (i := 1) rfl)) (hF.2.2.2.2 _ (List.mem_of_getElem? (i := 2) rfl)) rfl (by decide +kernel) ⟨Nat.le_of_ble_eq_true rfl, Nat.le_of_ble_eq_true rfl⟩) rfl hl.1 rfl (lv_room (Nat.le_of_ble_eq_true rfl)) dX4_init_2 ⟨Nat.le_of_ble_eq_true rfl, Nat.le_of_ble_eq_true rfl⟩) hG (fun u_2 H locs hp_2 hG => ?_)
  exact hret () _ ls _ _ _ _ (by trivial) hG (Nat.le_of_ble_eq_true rfl) (Nat.le_of_ble_eq_true rfl) dX4_init_5

abbrev rmX3_init : Room := { frames := 4, cells := 0, slots := 0, locals := 87 }
set_option maxHeartbeats 4000000 in
set_option maxRecDepth 100000 in
theorem c_X3_init {l : Launch} {D : va_G} {cA : Nat → ClassId} {A : Nat → Prop} {ws : va_W} {w qw : Nat} {f f0 : Int32} (hw : ws[qw]? = some (w, .inr (3, [.int f0]))) : Met l yX3_init wsX3_init rmX3_init (va_Pc [.ref w, .int f] (Pre D cA A (ws))) (va_Qv (fun _ => True) (fun u t => Wd D A ((fun (_ : Unit) => ws.set qw (w, .inr (3, [.int f]))) u) t) A) (0) (0) A := by
  refine k_ofv (S := Unit) (F := fun (_ : Unit) => ws.set qw (w, .inr (3, [.int f]))) (cc := cX3_init) (maxL := 2) (by decide) rfl (Nat.le_of_ble_eq_true rfl) ?_
  intro p e s m args below meth c Q hF hini hK hA hG hret ls hl
  have hl : lv_has ls 2 [(0, .ref w), (1, .int f)] := hl
  refine lv_aload_n hF.1 hF.2.1 dX3_init_0 rfl (lv_at hl 0 rfl) ?_
  refine lv_iload_n hF.1 hF.2.1 dX3_init_1 rfl (lv_at hl 1 rfl) ?_
  refine k_cv (r_I (As := [.int f]) hF hK hA hG (c_X8_init_X3 hw) (cwI 1 hF.2.2.2.2 gX3_init_X8_init rfl rfl rfl (hF.2.2.2.2 _ (List.mem_of_getElem? (i := 3) rfl)) (hF.2.2.2.2 _ (List.mem_of_getElem? (i := 1) rfl)) (hF.2.2.2.2 _ (List.mem_of_getElem? (i := 2) rfl)) rfl (by decide +kernel) ⟨Nat.le_of_ble_eq_true rfl, Nat.le_of_ble_eq_true rfl⟩) rfl hl.1 rfl (lv_room (Nat.le_of_ble_eq_true rfl)) dX3_init_2 ⟨Nat.le_of_ble_eq_true rfl, Nat.le_of_ble_eq_true rfl⟩) hG (fun u_2 H locs hp_2 hG => ?_)
  exact hret () _ ls _ _ _ _ (by trivial) hG (Nat.le_of_ble_eq_true rfl) (Nat.le_of_ble_eq_true rfl) dX3_init_5

abbrev rmX11_made_1 : Room := { frames := 3, cells := 1, slots := 1, locals := 66 }
set_option maxHeartbeats 4000000 in
set_option maxRecDepth 100000 in
theorem c_X11_made_1 {l : Launch} {D : va_G} {cA : Nat → ClassId} {A : Nat → Prop} {ws : va_W} {f : Int32} : Met l yX11_made wsX11_made rmX11_made_1 (va_Pc [.int (nI 1), .int f] (Pre D cA A (ws))) (va_Qq (fun r q => r = some q) (fun u t => Wd D A ((fun q => ws ++ [((q, .inr (1, [.int f])) : Nat × va_E)]) u) t) A) (1) (1) A := by
  refine k_ofq (S := Nat) (F := fun q => ws ++ [((q, .inr (1, [.int f])) : Nat × va_E)]) (cc := cX11_made) (maxL := 2) (by decide) rfl (Nat.le_of_ble_eq_true rfl) ?_
  intro p e s m args below meth c Q hF hini hK hA hG hret ls hl
  have hl : lv_has ls 2 [(0, .int (nI 1)), (1, .int f)] := hl
  refine lv_iload_n hF.1 hF.2.1 dX11_made_0 rfl (lv_at hl 0 rfl) ?_
  refine lv_tableIn (tgt := 44) hF.1 hF.2.1 dX11_made_1 (by decide +kernel) (by decide +kernel) rfl (by decide) ?_
  refine k_new (C := RX1) (T := TX1) (N := 1) (ci := 1) (fs := [.int 0]) hF hK hA hG (fun _ h => List.mem_cons_of_mem _ (List.mem_append_left _ (List.mem_append_left _ (List.mem_append_left _ (List.mem_append_left _ (List.mem_append_left _ (List.mem_append_left _ (List.mem_append_left _ (List.mem_append_right _ h))))))))) tyX1 tyX1_ok (List.mem_of_getElem? (i := 1) rfl) (List.mem_of_getElem? (i := 2) rfl) (List.mem_of_getElem? (i := 3) rfl) rfl (by decide +kernel) (Nat.le_of_ble_eq_true rfl) (Nat.le_of_ble_eq_true rfl) dX11_made_44 (fun q H hG => ?_)
  refine lv_dup hF.1 hF.2.1 dX11_made_47 rfl ?_
  refine lv_iload_n hF.1 hF.2.1 dX11_made_48 rfl (lv_at hl 1 rfl) ?_
  refine k_cv (r_I (As := [.int f]) hF hK hA hG (c_X1_init_X1 (at_last ws _)) (cwI 1 hF.2.2.2.2 gX11_made_X1_init rfl rfl rfl (hF.2.2.2.2 _ (List.mem_of_getElem? (i := 3) rfl)) (hF.2.2.2.2 _ (List.mem_of_getElem? (i := 25) rfl)) (hF.2.2.2.2 _ (List.mem_of_getElem? (i := 26) rfl)) rfl (by decide +kernel) ⟨Nat.le_of_ble_eq_true rfl, Nat.le_of_ble_eq_true rfl⟩) rfl hl.1 rfl (lv_room (Nat.le_of_ble_eq_true rfl)) dX11_made_49 ⟨Nat.le_of_ble_eq_true rfl, Nat.le_of_ble_eq_true rfl⟩) hG (fun u_49 H locs hp_49 hG => ?_)
  have hG : Gd D A (ws ++ [(q, .inr (1, [.int f]))]) s.heap H locs := by rw [set_last] at hG; exact hG
  exact hret (some q) _ q _ ls _ _ _ _ (by rfl) rfl hG (Nat.le_of_ble_eq_true rfl) (Nat.le_of_ble_eq_true rfl) dX11_made_52

abbrev rmX11_made_2 : Room := { frames := 3, cells := 1, slots := 1, locals := 66 }
set_option maxHeartbeats 4000000 in
set_option maxRecDepth 100000 in
theorem c_X11_made_2 {l : Launch} {D : va_G} {cA : Nat → ClassId} {A : Nat → Prop} {ws : va_W} {f : Int32} : Met l yX11_made wsX11_made rmX11_made_2 (va_Pc [.int (nI 2), .int f] (Pre D cA A (ws))) (va_Qq (fun r q => r = some q) (fun u t => Wd D A ((fun q => ws ++ [((q, .inr (7, [.int f])) : Nat × va_E)]) u) t) A) (1) (1) A := by
  refine k_ofq (S := Nat) (F := fun q => ws ++ [((q, .inr (7, [.int f])) : Nat × va_E)]) (cc := cX11_made) (maxL := 2) (by decide) rfl (Nat.le_of_ble_eq_true rfl) ?_
  intro p e s m args below meth c Q hF hini hK hA hG hret ls hl
  have hl : lv_has ls 2 [(0, .int (nI 2)), (1, .int f)] := hl
  refine lv_iload_n hF.1 hF.2.1 dX11_made_0 rfl (lv_at hl 0 rfl) ?_
  refine lv_tableIn (tgt := 53) hF.1 hF.2.1 dX11_made_1 (by decide +kernel) (by decide +kernel) rfl (by decide) ?_
  refine k_new (C := RX7) (T := TX7) (N := 1) (ci := 7) (fs := [.int 0]) hF hK hA hG (fun _ h => List.mem_cons_of_mem _ (List.mem_append_left _ (List.mem_append_left _ (List.mem_append_left _ (List.mem_append_left _ (List.mem_append_left _ (List.mem_append_left _ (List.mem_append_right _ h)))))))) tyX7 tyX7_ok (List.mem_of_getElem? (i := 4) rfl) (List.mem_of_getElem? (i := 5) rfl) (List.mem_of_getElem? (i := 6) rfl) rfl (by decide +kernel) (Nat.le_of_ble_eq_true rfl) (Nat.le_of_ble_eq_true rfl) dX11_made_53 (fun q H hG => ?_)
  refine lv_dup hF.1 hF.2.1 dX11_made_56 rfl ?_
  refine lv_iload_n hF.1 hF.2.1 dX11_made_57 rfl (lv_at hl 1 rfl) ?_
  refine k_cv (r_I (As := [.int f]) hF hK hA hG (c_X7_init (at_last ws _)) (cwI 1 hF.2.2.2.2 gX11_made_X7_init rfl rfl rfl (hF.2.2.2.2 _ (List.mem_of_getElem? (i := 6) rfl)) (hF.2.2.2.2 _ (List.mem_of_getElem? (i := 35) rfl)) (hF.2.2.2.2 _ (List.mem_of_getElem? (i := 36) rfl)) rfl (by decide +kernel) ⟨Nat.le_of_ble_eq_true rfl, Nat.le_of_ble_eq_true rfl⟩) rfl hl.1 rfl (lv_room (Nat.le_of_ble_eq_true rfl)) dX11_made_58 ⟨Nat.le_of_ble_eq_true rfl, Nat.le_of_ble_eq_true rfl⟩) hG (fun u_58 H locs hp_58 hG => ?_)
  have hG : Gd D A (ws ++ [(q, .inr (7, [.int f]))]) s.heap H locs := by rw [set_last] at hG; exact hG
  exact hret (some q) _ q _ ls _ _ _ _ (by rfl) rfl hG (Nat.le_of_ble_eq_true rfl) (Nat.le_of_ble_eq_true rfl) dX11_made_61

abbrev rmX11_made_3 : Room := { frames := 4, cells := 1, slots := 1, locals := 87 }
set_option maxHeartbeats 4000000 in
set_option maxRecDepth 100000 in
theorem c_X11_made_3 {l : Launch} {D : va_G} {cA : Nat → ClassId} {A : Nat → Prop} {ws : va_W} {f : Int32} : Met l yX11_made wsX11_made rmX11_made_3 (va_Pc [.int (nI 3), .int f] (Pre D cA A (ws))) (va_Qq (fun r q => r = some q) (fun u t => Wd D A ((fun q => ws ++ [((q, .inr (8, [.int f])) : Nat × va_E)]) u) t) A) (1) (1) A := by
  refine k_ofq (S := Nat) (F := fun q => ws ++ [((q, .inr (8, [.int f])) : Nat × va_E)]) (cc := cX11_made) (maxL := 2) (by decide) rfl (Nat.le_of_ble_eq_true rfl) ?_
  intro p e s m args below meth c Q hF hini hK hA hG hret ls hl
  have hl : lv_has ls 2 [(0, .int (nI 3)), (1, .int f)] := hl
  refine lv_iload_n hF.1 hF.2.1 dX11_made_0 rfl (lv_at hl 0 rfl) ?_
  refine lv_tableIn (tgt := 62) hF.1 hF.2.1 dX11_made_1 (by decide +kernel) (by decide +kernel) rfl (by decide) ?_
  refine k_new (C := RX8) (T := TX8) (N := 1) (ci := 8) (fs := [.int 0]) hF hK hA hG (fun _ h => List.mem_cons_of_mem _ (List.mem_append_left _ (List.mem_append_left _ (List.mem_append_left _ (List.mem_append_left _ (List.mem_append_left _ (List.mem_append_right _ h))))))) tyX8 tyX8_ok (List.mem_of_getElem? (i := 7) rfl) (List.mem_of_getElem? (i := 8) rfl) (List.mem_of_getElem? (i := 9) rfl) rfl (by decide +kernel) (Nat.le_of_ble_eq_true rfl) (Nat.le_of_ble_eq_true rfl) dX11_made_62 (fun q H hG => ?_)
  refine lv_dup hF.1 hF.2.1 dX11_made_65 rfl ?_
  refine lv_iload_n hF.1 hF.2.1 dX11_made_66 rfl (lv_at hl 1 rfl) ?_
  refine k_cv (r_I (As := [.int f]) hF hK hA hG (c_X8_init_X8 (at_last ws _)) (cwI 1 hF.2.2.2.2 gX11_made_X8_init rfl rfl rfl (hF.2.2.2.2 _ (List.mem_of_getElem? (i := 9) rfl)) (hF.2.2.2.2 _ (List.mem_of_getElem? (i := 39) rfl)) (hF.2.2.2.2 _ (List.mem_of_getElem? (i := 40) rfl)) rfl (by decide +kernel) ⟨Nat.le_of_ble_eq_true rfl, Nat.le_of_ble_eq_true rfl⟩) rfl hl.1 rfl (lv_room (Nat.le_of_ble_eq_true rfl)) dX11_made_67 ⟨Nat.le_of_ble_eq_true rfl, Nat.le_of_ble_eq_true rfl⟩) hG (fun u_67 H locs hp_67 hG => ?_)
  have hG : Gd D A (ws ++ [(q, .inr (8, [.int f]))]) s.heap H locs := by rw [set_last] at hG; exact hG
  exact hret (some q) _ q _ ls _ _ _ _ (by rfl) rfl hG (Nat.le_of_ble_eq_true rfl) (Nat.le_of_ble_eq_true rfl) dX11_made_70

abbrev rmX11_made_4 : Room := { frames := 3, cells := 1, slots := 1, locals := 66 }
set_option maxHeartbeats 4000000 in
set_option maxRecDepth 100000 in
theorem c_X11_made_4 {l : Launch} {D : va_G} {cA : Nat → ClassId} {A : Nat → Prop} {ws : va_W} {f : Int32} : Met l yX11_made wsX11_made rmX11_made_4 (va_Pc [.int (nI 4), .int f] (Pre D cA A (ws))) (va_Qq (fun r q => r = some q) (fun u t => Wd D A ((fun q => ws ++ [((q, .inr (5, [.int f])) : Nat × va_E)]) u) t) A) (1) (1) A := by
  refine k_ofq (S := Nat) (F := fun q => ws ++ [((q, .inr (5, [.int f])) : Nat × va_E)]) (cc := cX11_made) (maxL := 2) (by decide) rfl (Nat.le_of_ble_eq_true rfl) ?_
  intro p e s m args below meth c Q hF hini hK hA hG hret ls hl
  have hl : lv_has ls 2 [(0, .int (nI 4)), (1, .int f)] := hl
  refine lv_iload_n hF.1 hF.2.1 dX11_made_0 rfl (lv_at hl 0 rfl) ?_
  refine lv_tableIn (tgt := 71) hF.1 hF.2.1 dX11_made_1 (by decide +kernel) (by decide +kernel) rfl (by decide) ?_
  refine k_new (C := RX5) (T := TX5) (N := 1) (ci := 5) (fs := [.int 0]) hF hK hA hG (fun _ h => List.mem_cons_of_mem _ (List.mem_append_left _ (List.mem_append_left _ (List.mem_append_left _ (List.mem_append_left _ (List.mem_append_right _ h)))))) tyX5 tyX5_ok (List.mem_of_getElem? (i := 10) rfl) (List.mem_of_getElem? (i := 11) rfl) (List.mem_of_getElem? (i := 12) rfl) rfl (by decide +kernel) (Nat.le_of_ble_eq_true rfl) (Nat.le_of_ble_eq_true rfl) dX11_made_71 (fun q H hG => ?_)
  refine lv_dup hF.1 hF.2.1 dX11_made_74 rfl ?_
  refine lv_iload_n hF.1 hF.2.1 dX11_made_75 rfl (lv_at hl 1 rfl) ?_
  refine k_cv (r_I (As := [.int f]) hF hK hA hG (c_X5_init (at_last ws _)) (cwI 1 hF.2.2.2.2 gX11_made_X5_init rfl rfl rfl (hF.2.2.2.2 _ (List.mem_of_getElem? (i := 12) rfl)) (hF.2.2.2.2 _ (List.mem_of_getElem? (i := 43) rfl)) (hF.2.2.2.2 _ (List.mem_of_getElem? (i := 44) rfl)) rfl (by decide +kernel) ⟨Nat.le_of_ble_eq_true rfl, Nat.le_of_ble_eq_true rfl⟩) rfl hl.1 rfl (lv_room (Nat.le_of_ble_eq_true rfl)) dX11_made_76 ⟨Nat.le_of_ble_eq_true rfl, Nat.le_of_ble_eq_true rfl⟩) hG (fun u_76 H locs hp_76 hG => ?_)
  have hG : Gd D A (ws ++ [(q, .inr (5, [.int f]))]) s.heap H locs := by rw [set_last] at hG; exact hG
  exact hret (some q) _ q _ ls _ _ _ _ (by rfl) rfl hG (Nat.le_of_ble_eq_true rfl) (Nat.le_of_ble_eq_true rfl) dX11_made_79

abbrev rmX11_made_5 : Room := { frames := 5, cells := 1, slots := 1, locals := 108 }
set_option maxHeartbeats 4000000 in
set_option maxRecDepth 100000 in
theorem c_X11_made_5 {l : Launch} {D : va_G} {cA : Nat → ClassId} {A : Nat → Prop} {ws : va_W} {f : Int32} : Met l yX11_made wsX11_made rmX11_made_5 (va_Pc [.int (nI 5), .int f] (Pre D cA A (ws))) (va_Qq (fun r q => r = some q) (fun u t => Wd D A ((fun q => ws ++ [((q, .inr (3, [.int f])) : Nat × va_E)]) u) t) A) (1) (1) A := by
  refine k_ofq (S := Nat) (F := fun q => ws ++ [((q, .inr (3, [.int f])) : Nat × va_E)]) (cc := cX11_made) (maxL := 2) (by decide) rfl (Nat.le_of_ble_eq_true rfl) ?_
  intro p e s m args below meth c Q hF hini hK hA hG hret ls hl
  have hl : lv_has ls 2 [(0, .int (nI 5)), (1, .int f)] := hl
  refine lv_iload_n hF.1 hF.2.1 dX11_made_0 rfl (lv_at hl 0 rfl) ?_
  refine lv_tableIn (tgt := 80) hF.1 hF.2.1 dX11_made_1 (by decide +kernel) (by decide +kernel) rfl (by decide) ?_
  refine k_new (C := RX3) (T := TX3) (N := 1) (ci := 3) (fs := [.int 0]) hF hK hA hG (fun _ h => List.mem_cons_of_mem _ (List.mem_append_left _ (List.mem_append_left _ (List.mem_append_left _ (List.mem_append_right _ h))))) tyX3 tyX3_ok (List.mem_of_getElem? (i := 13) rfl) (List.mem_of_getElem? (i := 14) rfl) (List.mem_of_getElem? (i := 15) rfl) rfl (by decide +kernel) (Nat.le_of_ble_eq_true rfl) (Nat.le_of_ble_eq_true rfl) dX11_made_80 (fun q H hG => ?_)
  refine lv_dup hF.1 hF.2.1 dX11_made_83 rfl ?_
  refine lv_iload_n hF.1 hF.2.1 dX11_made_84 rfl (lv_at hl 1 rfl) ?_
  refine k_cv (r_I (As := [.int f]) hF hK hA hG (c_X3_init (at_last ws _)) (cwI 1 hF.2.2.2.2 gX11_made_X3_init rfl rfl rfl (hF.2.2.2.2 _ (List.mem_of_getElem? (i := 15) rfl)) (hF.2.2.2.2 _ (List.mem_of_getElem? (i := 47) rfl)) (hF.2.2.2.2 _ (List.mem_of_getElem? (i := 48) rfl)) rfl (by decide +kernel) ⟨Nat.le_of_ble_eq_true rfl, Nat.le_of_ble_eq_true rfl⟩) rfl hl.1 rfl (lv_room (Nat.le_of_ble_eq_true rfl)) dX11_made_85 ⟨Nat.le_of_ble_eq_true rfl, Nat.le_of_ble_eq_true rfl⟩) hG (fun u_85 H locs hp_85 hG => ?_)
  have hG : Gd D A (ws ++ [(q, .inr (3, [.int f]))]) s.heap H locs := by rw [set_last] at hG; exact hG
  exact hret (some q) _ q _ ls _ _ _ _ (by rfl) rfl hG (Nat.le_of_ble_eq_true rfl) (Nat.le_of_ble_eq_true rfl) dX11_made_88

abbrev rmX11_made_6 : Room := { frames := 4, cells := 1, slots := 1, locals := 87 }
set_option maxHeartbeats 4000000 in
set_option maxRecDepth 100000 in
theorem c_X11_made_6 {l : Launch} {D : va_G} {cA : Nat → ClassId} {A : Nat → Prop} {ws : va_W} {f : Int32} : Met l yX11_made wsX11_made rmX11_made_6 (va_Pc [.int (nI 6), .int f] (Pre D cA A (ws))) (va_Qq (fun r q => r = some q) (fun u t => Wd D A ((fun q => ws ++ [((q, .inr (4, [.int f])) : Nat × va_E)]) u) t) A) (1) (1) A := by
  refine k_ofq (S := Nat) (F := fun q => ws ++ [((q, .inr (4, [.int f])) : Nat × va_E)]) (cc := cX11_made) (maxL := 2) (by decide) rfl (Nat.le_of_ble_eq_true rfl) ?_
  intro p e s m args below meth c Q hF hini hK hA hG hret ls hl
  have hl : lv_has ls 2 [(0, .int (nI 6)), (1, .int f)] := hl
  refine lv_iload_n hF.1 hF.2.1 dX11_made_0 rfl (lv_at hl 0 rfl) ?_
  refine lv_tableIn (tgt := 89) hF.1 hF.2.1 dX11_made_1 (by decide +kernel) (by decide +kernel) rfl (by decide) ?_
  refine k_new (C := RX4) (T := TX4) (N := 1) (ci := 4) (fs := [.int 0]) hF hK hA hG (fun _ h => List.mem_cons_of_mem _ (List.mem_append_left _ (List.mem_append_left _ (List.mem_append_right _ h)))) tyX4 tyX4_ok (List.mem_of_getElem? (i := 16) rfl) (List.mem_of_getElem? (i := 17) rfl) (List.mem_of_getElem? (i := 18) rfl) rfl (by decide +kernel) (Nat.le_of_ble_eq_true rfl) (Nat.le_of_ble_eq_true rfl) dX11_made_89 (fun q H hG => ?_)
  refine lv_dup hF.1 hF.2.1 dX11_made_92 rfl ?_
  refine lv_iload_n hF.1 hF.2.1 dX11_made_93 rfl (lv_at hl 1 rfl) ?_
  refine k_cv (r_I (As := [.int f]) hF hK hA hG (c_X4_init (at_last ws _)) (cwI 1 hF.2.2.2.2 gX11_made_X4_init rfl rfl rfl (hF.2.2.2.2 _ (List.mem_of_getElem? (i := 18) rfl)) (hF.2.2.2.2 _ (List.mem_of_getElem? (i := 51) rfl)) (hF.2.2.2.2 _ (List.mem_of_getElem? (i := 52) rfl)) rfl (by decide +kernel) ⟨Nat.le_of_ble_eq_true rfl, Nat.le_of_ble_eq_true rfl⟩) rfl hl.1 rfl (lv_room (Nat.le_of_ble_eq_true rfl)) dX11_made_94 ⟨Nat.le_of_ble_eq_true rfl, Nat.le_of_ble_eq_true rfl⟩) hG (fun u_94 H locs hp_94 hG => ?_)
  have hG : Gd D A (ws ++ [(q, .inr (4, [.int f]))]) s.heap H locs := by rw [set_last] at hG; exact hG
  exact hret (some q) _ q _ ls _ _ _ _ (by rfl) rfl hG (Nat.le_of_ble_eq_true rfl) (Nat.le_of_ble_eq_true rfl) dX11_made_97

abbrev rmX11_made_7 : Room := { frames := 3, cells := 1, slots := 1, locals := 66 }
set_option maxHeartbeats 4000000 in
set_option maxRecDepth 100000 in
theorem c_X11_made_7 {l : Launch} {D : va_G} {cA : Nat → ClassId} {A : Nat → Prop} {ws : va_W} {f : Int32} : Met l yX11_made wsX11_made rmX11_made_7 (va_Pc [.int (nI 7), .int f] (Pre D cA A (ws))) (va_Qq (fun r q => r = some q) (fun u t => Wd D A ((fun q => ws ++ [((q, .inr (2, [.int f])) : Nat × va_E)]) u) t) A) (1) (1) A := by
  refine k_ofq (S := Nat) (F := fun q => ws ++ [((q, .inr (2, [.int f])) : Nat × va_E)]) (cc := cX11_made) (maxL := 2) (by decide) rfl (Nat.le_of_ble_eq_true rfl) ?_
  intro p e s m args below meth c Q hF hini hK hA hG hret ls hl
  have hl : lv_has ls 2 [(0, .int (nI 7)), (1, .int f)] := hl
  refine lv_iload_n hF.1 hF.2.1 dX11_made_0 rfl (lv_at hl 0 rfl) ?_
  refine lv_tableIn (tgt := 98) hF.1 hF.2.1 dX11_made_1 (by decide +kernel) (by decide +kernel) rfl (by decide) ?_
  refine k_new (C := RX2) (T := TX2) (N := 1) (ci := 2) (fs := [.int 0]) hF hK hA hG (fun _ h => List.mem_cons_of_mem _ (List.mem_append_left _ (List.mem_append_right _ h))) tyX2 tyX2_ok (List.mem_of_getElem? (i := 19) rfl) (List.mem_of_getElem? (i := 20) rfl) (List.mem_of_getElem? (i := 21) rfl) rfl (by decide +kernel) (Nat.le_of_ble_eq_true rfl) (Nat.le_of_ble_eq_true rfl) dX11_made_98 (fun q H hG => ?_)
  refine lv_dup hF.1 hF.2.1 dX11_made_101 rfl ?_
  refine lv_iload_n hF.1 hF.2.1 dX11_made_102 rfl (lv_at hl 1 rfl) ?_
  refine k_cv (r_I (As := [.int f]) hF hK hA hG (c_X2_init (at_last ws _)) (cwI 1 hF.2.2.2.2 gX11_made_X2_init rfl rfl rfl (hF.2.2.2.2 _ (List.mem_of_getElem? (i := 21) rfl)) (hF.2.2.2.2 _ (List.mem_of_getElem? (i := 55) rfl)) (hF.2.2.2.2 _ (List.mem_of_getElem? (i := 56) rfl)) rfl (by decide +kernel) ⟨Nat.le_of_ble_eq_true rfl, Nat.le_of_ble_eq_true rfl⟩) rfl hl.1 rfl (lv_room (Nat.le_of_ble_eq_true rfl)) dX11_made_103 ⟨Nat.le_of_ble_eq_true rfl, Nat.le_of_ble_eq_true rfl⟩) hG (fun u_103 H locs hp_103 hG => ?_)
  have hG : Gd D A (ws ++ [(q, .inr (2, [.int f]))]) s.heap H locs := by rw [set_last] at hG; exact hG
  exact hret (some q) _ q _ ls _ _ _ _ (by rfl) rfl hG (Nat.le_of_ble_eq_true rfl) (Nat.le_of_ble_eq_true rfl) dX11_made_106

abbrev rmX11_made_0 : Room := { frames := 2, cells := 1, slots := 1, locals := 45 }
set_option maxHeartbeats 4000000 in
set_option maxRecDepth 100000 in
theorem c_X11_made_0 {l : Launch} {D : va_G} {cA : Nat → ClassId} {A : Nat → Prop} {ws : va_W} {f : Int32} : Met l yX11_made wsX11_made rmX11_made_0 (va_Pc [.int (nI 0), .int f] (Pre D cA A (ws))) (va_Qq (fun r q => r = some q) (fun u t => Wd D A ((fun q => ws ++ [((q, .inr (0, [.int f])) : Nat × va_E)]) u) t) A) (1) (1) A := by
  refine k_ofq (S := Nat) (F := fun q => ws ++ [((q, .inr (0, [.int f])) : Nat × va_E)]) (cc := cX11_made) (maxL := 2) (by decide) rfl (Nat.le_of_ble_eq_true rfl) ?_
  intro p e s m args below meth c Q hF hini hK hA hG hret ls hl
  have hl : lv_has ls 2 [(0, .int (nI 0)), (1, .int f)] := hl
  refine lv_iload_n hF.1 hF.2.1 dX11_made_0 rfl (lv_at hl 0 rfl) ?_
  refine lv_tableOut (tgt := 107) hF.1 hF.2.1 dX11_made_1 (by decide +kernel) (by decide) ?_
  refine k_new (C := RX0) (T := TX0) (N := 1) (ci := 0) (fs := [.int 0]) hF hK hA hG (fun _ h => List.mem_cons_of_mem _ (List.mem_append_right _ h)) tyX0 tyX0_ok (List.mem_of_getElem? (i := 22) rfl) (List.mem_of_getElem? (i := 23) rfl) (List.mem_of_getElem? (i := 24) rfl) rfl (by decide +kernel) (Nat.le_of_ble_eq_true rfl) (Nat.le_of_ble_eq_true rfl) dX11_made_107 (fun q H hG => ?_)
  refine lv_dup hF.1 hF.2.1 dX11_made_110 rfl ?_
  refine lv_iload_n hF.1 hF.2.1 dX11_made_111 rfl (lv_at hl 1 rfl) ?_
  refine k_cv (r_I (As := [.int f]) hF hK hA hG (c_X0_init_X0 (at_last ws _)) (cwI 1 hF.2.2.2.2 gX11_made_X0_init rfl rfl rfl (hF.2.2.2.2 _ (List.mem_of_getElem? (i := 24) rfl)) (hF.2.2.2.2 _ (List.mem_of_getElem? (i := 59) rfl)) (hF.2.2.2.2 _ (List.mem_of_getElem? (i := 29) rfl)) rfl (by decide +kernel) ⟨Nat.le_of_ble_eq_true rfl, Nat.le_of_ble_eq_true rfl⟩) rfl hl.1 rfl (lv_room (Nat.le_of_ble_eq_true rfl)) dX11_made_112 ⟨Nat.le_of_ble_eq_true rfl, Nat.le_of_ble_eq_true rfl⟩) hG (fun u_112 H locs hp_112 hG => ?_)
  have hG : Gd D A (ws ++ [(q, .inr (0, [.int f]))]) s.heap H locs := by rw [set_last] at hG; exact hG
  exact hret (some q) _ q _ ls _ _ _ _ (by rfl) rfl hG (Nat.le_of_ble_eq_true rfl) (Nat.le_of_ble_eq_true rfl) dX11_made_115
