/-! ===== a kept row in the heap ===== -/
theorem pushK {ws l : va_W} {q : Nat} {x : Nat × va_E} (h : ws[q]? = some x) : (ws ++ l)[q]? = some x := by
  rw [List.getElem?_append_left (List.getElem?_eq_some_iff.mp h).1]
  exact h
theorem max_0 {n : Nat} (h : n < 101) : (if nI 0 < nI n then nI n else nI 0) = nI n := by
  apply fin1 101 n h
  decide +kernel
def RW (cA : Nat → ClassId) (ws : va_W) (r arr qr qa so n : Nat) (f : Nat → Int32) : Prop :=
  ws[qr]? = some (r, .inr (6, [.int (nI so), .int (nI n), .ref arr])) ∧ ws[qa]? = some (arr, .inl (cA 0, n, .inl f)) ∧ n ≤ 100 ∧ so < 3
def plB (n : Nat) (i m : Int32) : Bool := decide (¬ i < 0 ∧ ¬ m < 0 ∧ ¬ nI n < i ∧ ¬ nI n - i < m)
def getR (n : Nat) (f : Nat → Int32) (i : Int32) : Int32 := if inB n i = true then f i.toNatClampNeg else nI 0
theorem getR_t {n j : Nat} {f : Nat → Int32} (hn : n ≤ 100) (hj : j < n) : getR n f (nI j) = f j := by
  unfold getR
  rw [if_pos (inB_j (by omega) hj), nI_clamp (by omega)]
theorem getR_f {n : Nat} {f : Nat → Int32} {i : Int32} (h : inB n i = false) : getR n f i = nI 0 := by
  unfold getR
  rw [h]
  rfl
def narS (so : Nat) (v : Int32) : Int32 := if so = 0 then v.toInt8.toInt32 else if so = 1 then v.toInt16.toInt32 else v
theorem narS_0 {so : Nat} {v : Int32} (h : so = 0) : narS so v = v.toInt8.toInt32 := by
  unfold narS
  rw [if_pos h]
theorem narS_1 {so : Nat} {v : Int32} (h0 : ¬ so = 0) (h : so = 1) : narS so v = v.toInt16.toInt32 := by
  unfold narS
  rw [if_neg h0, if_pos h]
theorem narS_2 {so : Nat} {v : Int32} (h0 : ¬ so = 0) (h : ¬ so = 1) : narS so v = v := by
  unfold narS
  rw [if_neg h0, if_neg h]
def putR (so n : Nat) (f : Nat → Int32) (i v : Int32) : Nat → Int32 := if inB n i = true then upd f i.toNatClampNeg (narS so v) else f
theorem putR_t {so n j : Nat} {f : Nat → Int32} {v : Int32} (hn : n ≤ 100) (hj : j < n) : putR so n f (nI j) v = upd f j (narS so v) := by
  unfold putR
  rw [if_pos (inB_j (by omega) hj), nI_clamp (by omega)]
theorem putR_f {so n : Nat} {f : Nat → Int32} {i v : Int32} (h : inB n i = false) : putR so n f i v = f := by
  unfold putR
  rw [h]
  rfl
abbrev rmX6_hasPlace : Room := { frames := 0, cells := 0, slots := 0, locals := 0 }
set_option maxHeartbeats 4000000 in
set_option maxRecDepth 100000 in
theorem c_X6_hasPlace {l : Launch} {D : va_G} {cA : Nat → ClassId} {A : Nat → Prop} {ws : va_W} {r arr qr qa so n : Nat} {f : Nat → Int32} (hR : RW cA ws r arr qr qa so n f) {i : Int32} : Met l yX6_hasPlace wsX6_hasPlace rmX6_hasPlace (va_Pc [.ref r, .int i] (Pre D cA A (ws))) (va_Qi (fun r _ => r = b2i (inB n i)) (fun u t => Wd D A ((fun (_ : Unit) => ws) u) t) A) (0) (0) A := by
  refine k_ofi (S := Unit) (F := fun (_ : Unit) => ws) (cc := cX6_hasPlace) (maxL := 2) (by decide) rfl (Nat.le_of_ble_eq_true rfl) ?_
  intro p e s m args below meth c Q hF hini hK hA hG hret ls hl
  have hl : lv_has ls 2 [(0, .ref r), (1, .int i)] := hl
  have hn : n ≤ 100 := hR.2.2.1
  have hso : so < 3 := hR.2.2.2
  refine lv_iload_n hF.1 hF.2.1 dX6_hasPlace_0 rfl (lv_at hl 1 rfl) ?_
  refine lv_if_lt (tgt := 17) hF.1 hF.2.1 dX6_hasPlace_1 (by decide) (fun c_1 => ?_) (fun c_1 => ?_)
  · --
    refine lv_iconst (v := (nI 0)) hF.1 hF.2.1 dX6_hasPlace_17 (by decide +kernel) ?_
    exact hret _ () _ ls _ _ _ _ (by first | (rw [inB_t c_1 c_10]; rfl) | (rw [inB_l c_1]; rfl) | (rw [inB_r c_10]; rfl)) (by first | rfl | exact nar_b2i _) hG (Nat.le_of_ble_eq_true rfl) (Nat.le_of_ble_eq_true rfl) dX6_hasPlace_18
  · --
    refine lv_iload_n hF.1 hF.2.1 dX6_hasPlace_4 rfl (lv_at hl 1 rfl) ?_
    refine lv_aload_n hF.1 hF.2.1 dX6_hasPlace_5 rfl (lv_at hl 0 rfl) ?_
    refine k_get (C := RX6) (T := TX6) (N := 3) hF hK hG (fun _ h => List.mem_cons_of_mem _ (List.mem_append_right _ h)) qr hR.1 rfl 2 (by decide) (List.mem_of_getElem? (i := 1) rfl) (fun _ h9 => h9) rfl dX6_hasPlace_6 ?_
    refine va_alen hF.1 hF.2.1 hK.1 hG.1 qa 0 hR.2.1 rfl (v := (nI n)) rfl dX6_hasPlace_9 ?_
    refine lv_icmp_ge (tgt := 17) hF.1 hF.2.1 dX6_hasPlace_10 (by decide) (fun c_10 => ?_) (fun c_10 => ?_)
    · --
      refine lv_iconst (v := (nI 0)) hF.1 hF.2.1 dX6_hasPlace_17 (by decide +kernel) ?_
      exact hret _ () _ ls _ _ _ _ (by first | (rw [inB_t c_1 c_10]; rfl) | (rw [inB_l c_1]; rfl) | (rw [inB_r c_10]; rfl)) (by first | rfl | exact nar_b2i _) hG (Nat.le_of_ble_eq_true rfl) (Nat.le_of_ble_eq_true rfl) dX6_hasPlace_18
    · --
      refine lv_iconst (v := (nI 1)) hF.1 hF.2.1 dX6_hasPlace_13 (by decide +kernel) ?_
      refine lv_goto (tgt := 18) hF.1 hF.2.1 dX6_hasPlace_14 (by decide) ?_
      exact hret _ () _ ls _ _ _ _ (by first | (rw [inB_t c_1 c_10]; rfl) | (rw [inB_l c_1]; rfl) | (rw [inB_r c_10]; rfl)) (by first | rfl | exact nar_b2i _) hG (Nat.le_of_ble_eq_true rfl) (Nat.le_of_ble_eq_true rfl) dX6_hasPlace_18

abbrev rmX6_hasPlaces : Room := { frames := 0, cells := 0, slots := 0, locals := 0 }
set_option maxHeartbeats 4000000 in
set_option maxRecDepth 100000 in
theorem c_X6_hasPlaces {l : Launch} {D : va_G} {cA : Nat → ClassId} {A : Nat → Prop} {ws : va_W} {r arr qr qa so n : Nat} {f : Nat → Int32} (hR : RW cA ws r arr qr qa so n f) {i k : Int32} : Met l yX6_hasPlaces wsX6_hasPlaces rmX6_hasPlaces (va_Pc [.ref r, .int i, .int k] (Pre D cA A (ws))) (va_Qi (fun r _ => r = b2i (plB n i k)) (fun u t => Wd D A ((fun (_ : Unit) => ws) u) t) A) (0) (0) A := by
  refine k_ofi (S := Unit) (F := fun (_ : Unit) => ws) (cc := cX6_hasPlaces) (maxL := 3) (by decide) rfl (Nat.le_of_ble_eq_true rfl) ?_
  intro p e s m args below meth c Q hF hini hK hA hG hret ls hl
  have hl : lv_has ls 3 [(0, .ref r), (1, .int i), (2, .int k)] := hl
  have hn : n ≤ 100 := hR.2.2.1
  have hso : so < 3 := hR.2.2.2
  refine lv_iload_n hF.1 hF.2.1 dX6_hasPlaces_0 rfl (lv_at hl 1 rfl) ?_
  refine lv_if_lt (tgt := 32) hF.1 hF.2.1 dX6_hasPlaces_1 (by decide) (fun c_1 => ?_) (fun c_1 => ?_)
  · --
    refine lv_iconst (v := (nI 0)) hF.1 hF.2.1 dX6_hasPlaces_32 (by decide +kernel) ?_
    exact hret _ () _ ls _ _ _ _ (by first | (rw [show plB n i k = true from decide_eq_true ⟨c_1, c_5, c_14, c_25⟩]; rfl) | (rw [show plB n i k = false from decide_eq_false (fun h => h.1 c_1)]; rfl) | (rw [show plB n i k = false from decide_eq_false (fun h => h.2.1 c_5)]; rfl) | (rw [show plB n i k = false from decide_eq_false (fun h => h.2.2.1 c_14)]; rfl) | (rw [show plB n i k = false from decide_eq_false (fun h => h.2.2.2 c_25)]; rfl)) (by first | rfl | exact nar_b2i _) hG (Nat.le_of_ble_eq_true rfl) (Nat.le_of_ble_eq_true rfl) dX6_hasPlaces_33
  · --
    refine lv_iload_n hF.1 hF.2.1 dX6_hasPlaces_4 rfl (lv_at hl 2 rfl) ?_
    refine lv_if_lt (tgt := 32) hF.1 hF.2.1 dX6_hasPlaces_5 (by decide) (fun c_5 => ?_) (fun c_5 => ?_)
    · --
      refine lv_iconst (v := (nI 0)) hF.1 hF.2.1 dX6_hasPlaces_32 (by decide +kernel) ?_
      exact hret _ () _ ls _ _ _ _ (by first | (rw [show plB n i k = true from decide_eq_true ⟨c_1, c_5, c_14, c_25⟩]; rfl) | (rw [show plB n i k = false from decide_eq_false (fun h => h.1 c_1)]; rfl) | (rw [show plB n i k = false from decide_eq_false (fun h => h.2.1 c_5)]; rfl) | (rw [show plB n i k = false from decide_eq_false (fun h => h.2.2.1 c_14)]; rfl) | (rw [show plB n i k = false from decide_eq_false (fun h => h.2.2.2 c_25)]; rfl)) (by first | rfl | exact nar_b2i _) hG (Nat.le_of_ble_eq_true rfl) (Nat.le_of_ble_eq_true rfl) dX6_hasPlaces_33
    · --
      refine lv_iload_n hF.1 hF.2.1 dX6_hasPlaces_8 rfl (lv_at hl 1 rfl) ?_
      refine lv_aload_n hF.1 hF.2.1 dX6_hasPlaces_9 rfl (lv_at hl 0 rfl) ?_
      refine k_get (C := RX6) (T := TX6) (N := 3) hF hK hG (fun _ h => List.mem_cons_of_mem _ (List.mem_append_right _ h)) qr hR.1 rfl 2 (by decide) (List.mem_of_getElem? (i := 1) rfl) (fun _ h9 => h9) rfl dX6_hasPlaces_10 ?_
      refine va_alen hF.1 hF.2.1 hK.1 hG.1 qa 0 hR.2.1 rfl (v := (nI n)) rfl dX6_hasPlaces_13 ?_
      refine lv_icmp_gt (tgt := 32) hF.1 hF.2.1 dX6_hasPlaces_14 (by decide) (fun c_14 => ?_) (fun c_14 => ?_)
      · --
        refine lv_iconst (v := (nI 0)) hF.1 hF.2.1 dX6_hasPlaces_32 (by decide +kernel) ?_
        exact hret _ () _ ls _ _ _ _ (by first | (rw [show plB n i k = true from decide_eq_true ⟨c_1, c_5, c_14, c_25⟩]; rfl) | (rw [show plB n i k = false from decide_eq_false (fun h => h.1 c_1)]; rfl) | (rw [show plB n i k = false from decide_eq_false (fun h => h.2.1 c_5)]; rfl) | (rw [show plB n i k = false from decide_eq_false (fun h => h.2.2.1 c_14)]; rfl) | (rw [show plB n i k = false from decide_eq_false (fun h => h.2.2.2 c_25)]; rfl)) (by first | rfl | exact nar_b2i _) hG (Nat.le_of_ble_eq_true rfl) (Nat.le_of_ble_eq_true rfl) dX6_hasPlaces_33
      · --
        refine lv_iload_n hF.1 hF.2.1 dX6_hasPlaces_17 rfl (lv_at hl 2 rfl) ?_
        refine lv_aload_n hF.1 hF.2.1 dX6_hasPlaces_18 rfl (lv_at hl 0 rfl) ?_
        refine k_get (C := RX6) (T := TX6) (N := 3) hF hK hG (fun _ h => List.mem_cons_of_mem _ (List.mem_append_right _ h)) qr hR.1 rfl 2 (by decide) (List.mem_of_getElem? (i := 1) rfl) (fun _ h9 => h9) rfl dX6_hasPlaces_19 ?_
        refine va_alen hF.1 hF.2.1 hK.1 hG.1 qa 0 hR.2.1 rfl (v := (nI n)) rfl dX6_hasPlaces_22 ?_
        refine lv_iload_n hF.1 hF.2.1 dX6_hasPlaces_23 rfl (lv_at hl 1 rfl) ?_
        refine lv_isub hF.1 hF.2.1 dX6_hasPlaces_24 ?_
        refine lv_icmp_gt (tgt := 32) hF.1 hF.2.1 dX6_hasPlaces_25 (by decide) (fun c_25 => ?_) (fun c_25 => ?_)
        · --
          refine lv_iconst (v := (nI 0)) hF.1 hF.2.1 dX6_hasPlaces_32 (by decide +kernel) ?_
          exact hret _ () _ ls _ _ _ _ (by first | (rw [show plB n i k = true from decide_eq_true ⟨c_1, c_5, c_14, c_25⟩]; rfl) | (rw [show plB n i k = false from decide_eq_false (fun h => h.1 c_1)]; rfl) | (rw [show plB n i k = false from decide_eq_false (fun h => h.2.1 c_5)]; rfl) | (rw [show plB n i k = false from decide_eq_false (fun h => h.2.2.1 c_14)]; rfl) | (rw [show plB n i k = false from decide_eq_false (fun h => h.2.2.2 c_25)]; rfl)) (by first | rfl | exact nar_b2i _) hG (Nat.le_of_ble_eq_true rfl) (Nat.le_of_ble_eq_true rfl) dX6_hasPlaces_33
        · --
          refine lv_iconst (v := (nI 1)) hF.1 hF.2.1 dX6_hasPlaces_28 (by decide +kernel) ?_
          refine lv_goto (tgt := 33) hF.1 hF.2.1 dX6_hasPlaces_29 (by decide) ?_
          exact hret _ () _ ls _ _ _ _ (by first | (rw [show plB n i k = true from decide_eq_true ⟨c_1, c_5, c_14, c_25⟩]; rfl) | (rw [show plB n i k = false from decide_eq_false (fun h => h.1 c_1)]; rfl) | (rw [show plB n i k = false from decide_eq_false (fun h => h.2.1 c_5)]; rfl) | (rw [show plB n i k = false from decide_eq_false (fun h => h.2.2.1 c_14)]; rfl) | (rw [show plB n i k = false from decide_eq_false (fun h => h.2.2.2 c_25)]; rfl)) (by first | rfl | exact nar_b2i _) hG (Nat.le_of_ble_eq_true rfl) (Nat.le_of_ble_eq_true rfl) dX6_hasPlaces_33

abbrev rmX6_valueAt : Room := { frames := 1, cells := 0, slots := 0, locals := 21 }
set_option maxHeartbeats 4000000 in
set_option maxRecDepth 100000 in
theorem c_X6_valueAt {l : Launch} {D : va_G} {cA : Nat → ClassId} {A : Nat → Prop} {ws : va_W} {r arr qr qa so n : Nat} {f : Nat → Int32} (hR : RW cA ws r arr qr qa so n f) {i : Int32} : Met l yX6_valueAt wsX6_valueAt rmX6_valueAt (va_Pc [.ref r, .int i] (Pre D cA A (ws))) (va_Qi (fun r _ => r = getR n f i) (fun u t => Wd D A ((fun (_ : Unit) => ws) u) t) A) (0) (0) A := by
  refine k_ofi (S := Unit) (F := fun (_ : Unit) => ws) (cc := cX6_valueAt) (maxL := 2) (by decide) rfl (Nat.le_of_ble_eq_true rfl) ?_
  intro p e s m args below meth c Q hF hini hK hA hG hret ls hl
  have hl : lv_has ls 2 [(0, .ref r), (1, .int i)] := hl
  have hn : n ≤ 100 := hR.2.2.1
  have hso : so < 3 := hR.2.2.2
  refine lv_aload_n hF.1 hF.2.1 dX6_valueAt_0 rfl (lv_at hl 0 rfl) ?_
  refine lv_iload_n hF.1 hF.2.1 dX6_valueAt_1 rfl (lv_at hl 1 rfl) ?_
  refine k_ci (r_V (As := [.int i]) hF hK hA hG (c_X6_hasPlace hR) (cwV 1 hF.2.2.2.2 gX6_valueAt_X6_hasPlace rfl rfl rfl (by decide +kernel) ⟨Nat.le_of_ble_eq_true rfl, Nat.le_of_ble_eq_true rfl⟩) qr hR.1 rfl rfl rfl hl.1 rfl (lv_room (Nat.le_of_ble_eq_true rfl)) dX6_valueAt_2 ⟨Nat.le_of_ble_eq_true rfl, Nat.le_of_ble_eq_true rfl⟩) hG (fun r_2 u_2 H locs hp_2 hG => ?_)
  subst hp_2
  refine lv_if_eq (tgt := 17) hF.1 hF.2.1 dX6_valueAt_5 (by decide) (fun c_5 => ?_) (fun c_5 => ?_)
  · --
    have n_5 : (inB n i) = false := b2i_z.mp c_5
    refine lv_iconst (v := (nI 0)) hF.1 hF.2.1 dX6_valueAt_17 (by decide +kernel) ?_
    exact hret _ () _ ls _ _ _ _ (by first | exact (getR_f n_5).symm | exact (getR_t hn hj).symm) (by first | rfl | exact nar_b2i _) hG (Nat.le_of_ble_eq_true rfl) (Nat.le_of_ble_eq_true rfl) dX6_valueAt_18
  · --
    have n_5 : (inB n i) = true := b2i_nz.mp c_5
    obtain ⟨j, hj, rfl⟩ := inB_ex (by omega) n_5
    refine lv_aload_n hF.1 hF.2.1 dX6_valueAt_8 rfl (lv_at hl 0 rfl) ?_
    refine k_get (C := RX6) (T := TX6) (N := 3) hF hK hG (fun _ h => List.mem_cons_of_mem _ (List.mem_append_right _ h)) qr hR.1 rfl 2 (by decide) (List.mem_of_getElem? (i := 1) rfl) (fun _ h9 => h9) rfl dX6_valueAt_9 ?_
    refine lv_iload_n hF.1 hF.2.1 dX6_valueAt_12 rfl (lv_at hl 1 rfl) ?_
    refine k_ialdN hF hK hG qa hR.2.1 (j) rfl (by omega) (by omega) dX6_valueAt_13 ?_
    refine lv_goto (tgt := 18) hF.1 hF.2.1 dX6_valueAt_14 (by decide) ?_
    exact hret _ () _ ls _ _ _ _ (by first | exact (getR_f n_5).symm | exact (getR_t hn hj).symm) (by first | rfl | exact nar_b2i _) hG (Nat.le_of_ble_eq_true rfl) (Nat.le_of_ble_eq_true rfl) dX6_valueAt_18

abbrev rmX6_lowestBits : Room := { frames := 0, cells := 0, slots := 0, locals := 0 }
set_option maxHeartbeats 4000000 in
set_option maxRecDepth 100000 in
theorem c_X6_lowestBits {l : Launch} {D : va_G} {cA : Nat → ClassId} {A : Nat → Prop} {ws : va_W} {r arr qr qa so n : Nat} {f : Nat → Int32} (hR : RW cA ws r arr qr qa so n f) {v : Int32} : Met l yX6_lowestBits wsX6_lowestBits rmX6_lowestBits (va_Pc [.ref r, .int v] (Pre D cA A (ws))) (va_Qi (fun r _ => r = narS so v) (fun u t => Wd D A ((fun (_ : Unit) => ws) u) t) A) (0) (0) A := by
  refine k_ofi (S := Unit) (F := fun (_ : Unit) => ws) (cc := cX6_lowestBits) (maxL := 2) (by decide) rfl (Nat.le_of_ble_eq_true rfl) ?_
  intro p e s m args below meth c Q hF hini hK hA hG hret ls hl
  have hl : lv_has ls 2 [(0, .ref r), (1, .int v)] := hl
  have hn : n ≤ 100 := hR.2.2.1
  have hso : so < 3 := hR.2.2.2
  refine lv_aload_n hF.1 hF.2.1 dX6_lowestBits_0 rfl (lv_at hl 0 rfl) ?_
  refine k_get (C := RX6) (T := TX6) (N := 3) hF hK hG (fun _ h => List.mem_cons_of_mem _ (List.mem_append_right _ h)) qr hR.1 rfl 0 (by decide) (List.mem_of_getElem? (i := 1) rfl) (fun _ h9 => h9) rfl dX6_lowestBits_1 ?_
  refine lv_if_ne (tgt := 10) hF.1 hF.2.1 dX6_lowestBits_4 (by decide) (fun c_4 => ?_) (fun c_4 => ?_)
  · --
    have n_4 : ¬ (so = 0) := fun q => c_4 ((nI_eq (a := so) (b := 0) (by omega) (by omega)).mpr q)
    refine lv_aload_n hF.1 hF.2.1 dX6_lowestBits_10 rfl (lv_at hl 0 rfl) ?_
    refine k_get (C := RX6) (T := TX6) (N := 3) hF hK hG (fun _ h => List.mem_cons_of_mem _ (List.mem_append_right _ h)) qr hR.1 rfl 0 (by decide) (List.mem_of_getElem? (i := 1) rfl) (fun _ h9 => h9) rfl dX6_lowestBits_11 ?_
    refine lv_iconst (v := (nI 1)) hF.1 hF.2.1 dX6_lowestBits_14 (by decide +kernel) ?_
    refine lv_icmp_ne (tgt := 23) hF.1 hF.2.1 dX6_lowestBits_15 (by decide) (fun c_15 => ?_) (fun c_15 => ?_)
    · --
      have n_15 : ¬ (so = 1) := fun q => c_15 ((nI_eq (a := so) (b := 1) (by omega) (by omega)).mpr q)
      refine lv_iload_n hF.1 hF.2.1 dX6_lowestBits_23 rfl (lv_at hl 1 rfl) ?_
      exact hret _ () _ ls _ _ _ _ (by first | exact (narS_0 n_4).symm | exact (narS_1 n_4 n_15).symm | exact (narS_2 n_4 n_15).symm) (by first | rfl | exact nar_b2i _) hG (Nat.le_of_ble_eq_true rfl) (Nat.le_of_ble_eq_true rfl) dX6_lowestBits_24
    · --
      have n_15 : so = 1 := (nI_eq (a := so) (b := 1) (by omega) (by omega)).mp c_15
      refine lv_iload_n hF.1 hF.2.1 dX6_lowestBits_18 rfl (lv_at hl 1 rfl) ?_
      refine lv_i2s hF.1 hF.2.1 dX6_lowestBits_19 rfl ?_
      refine lv_goto (tgt := 24) hF.1 hF.2.1 dX6_lowestBits_20 (by decide) ?_
      exact hret _ () _ ls _ _ _ _ (by first | exact (narS_0 n_4).symm | exact (narS_1 n_4 n_15).symm | exact (narS_2 n_4 n_15).symm) (by first | rfl | exact nar_b2i _) hG (Nat.le_of_ble_eq_true rfl) (Nat.le_of_ble_eq_true rfl) dX6_lowestBits_24
  · --
    have n_4 : so = 0 := (nI_eq (a := so) (b := 0) (by omega) (by omega)).mp c_4
    refine lv_iload_n hF.1 hF.2.1 dX6_lowestBits_7 rfl (lv_at hl 1 rfl) ?_
    refine lv_i2b hF.1 hF.2.1 dX6_lowestBits_8 rfl ?_
    exact hret _ () _ ls _ _ _ _ (by first | exact (narS_0 n_4).symm | exact (narS_1 n_4 n_15).symm | exact (narS_2 n_4 n_15).symm) (by first | rfl | exact nar_b2i _) hG (Nat.le_of_ble_eq_true rfl) (Nat.le_of_ble_eq_true rfl) dX6_lowestBits_9

abbrev rmX6_become : Room := { frames := 1, cells := 0, slots := 0, locals := 21 }
set_option maxHeartbeats 4000000 in
set_option maxRecDepth 100000 in
theorem c_X6_become {l : Launch} {D : va_G} {cA : Nat → ClassId} {A : Nat → Prop} {ws : va_W} {r arr qr qa so n : Nat} {f : Nat → Int32} (hR : RW cA ws r arr qr qa so n f) {i v : Int32} : Met l yX6_become wsX6_become rmX6_become (va_Pc [.ref r, .int i, .int v] (Pre D cA A (ws))) (va_Qv (fun _ => True) (fun u t => Wd D A ((fun (_ : Unit) => ws.set qa (arr, .inl (cA 0, n, .inl (putR so n f i v)))) u) t) A) (0) (0) A := by
  refine k_ofv (S := Unit) (F := fun (_ : Unit) => ws.set qa (arr, .inl (cA 0, n, .inl (putR so n f i v)))) (cc := cX6_become) (maxL := 3) (by decide) rfl (Nat.le_of_ble_eq_true rfl) ?_
  intro p e s m args below meth c Q hF hini hK hA hG hret ls hl
  have hl : lv_has ls 3 [(0, .ref r), (1, .int i), (2, .int v)] := hl
  have hn : n ≤ 100 := hR.2.2.1
  have hso : so < 3 := hR.2.2.2
  refine lv_aload_n hF.1 hF.2.1 dX6_become_0 rfl (lv_at hl 0 rfl) ?_
  refine lv_iload_n hF.1 hF.2.1 dX6_become_1 rfl (lv_at hl 1 rfl) ?_
  refine k_ci (r_V (As := [.int i]) hF hK hA hG (c_X6_hasPlace hR) (cwV 1 hF.2.2.2.2 gX6_become_X6_hasPlace rfl rfl rfl (by decide +kernel) ⟨Nat.le_of_ble_eq_true rfl, Nat.le_of_ble_eq_true rfl⟩) qr hR.1 rfl rfl rfl hl.1 rfl (lv_room (Nat.le_of_ble_eq_true rfl)) dX6_become_2 ⟨Nat.le_of_ble_eq_true rfl, Nat.le_of_ble_eq_true rfl⟩) hG (fun r_2 u_2 H locs hp_2 hG => ?_)
  subst hp_2
  refine lv_if_eq (tgt := 19) hF.1 hF.2.1 dX6_become_5 (by decide) (fun c_5 => ?_) (fun c_5 => ?_)
  · --
    have n_5 : (inB n i) = false := b2i_z.mp c_5
    exact hret () _ ls _ _ _ _ (by trivial) (by first | (rw [putR_t hn hj]; exact hG) | (rw [putR_f n_5, set_same hR.2.1]; exact hG)) (Nat.le_of_ble_eq_true rfl) (Nat.le_of_ble_eq_true rfl) dX6_become_19
  · --
    have n_5 : (inB n i) = true := b2i_nz.mp c_5
    obtain ⟨j, hj, rfl⟩ := inB_ex (by omega) n_5
    refine lv_aload_n hF.1 hF.2.1 dX6_become_8 rfl (lv_at hl 0 rfl) ?_
    refine k_get (C := RX6) (T := TX6) (N := 3) hF hK hG (fun _ h => List.mem_cons_of_mem _ (List.mem_append_right _ h)) qr hR.1 rfl 2 (by decide) (List.mem_of_getElem? (i := 1) rfl) (fun _ h9 => h9) rfl dX6_become_9 ?_
    refine lv_iload_n hF.1 hF.2.1 dX6_become_12 rfl (lv_at hl 1 rfl) ?_
    refine lv_aload_n hF.1 hF.2.1 dX6_become_13 rfl (lv_at hl 0 rfl) ?_
    refine lv_iload_n hF.1 hF.2.1 dX6_become_14 rfl (lv_at hl 2 rfl) ?_
    refine k_ci (r_V (As := [.int v]) hF hK hA hG (c_X6_lowestBits hR) (cwV 1 hF.2.2.2.2 gX6_become_X6_lowestBits rfl rfl rfl (by decide +kernel) ⟨Nat.le_of_ble_eq_true rfl, Nat.le_of_ble_eq_true rfl⟩) qr hR.1 rfl rfl rfl hl.1 rfl (lv_room (Nat.le_of_ble_eq_true rfl)) dX6_become_15 ⟨Nat.le_of_ble_eq_true rfl, Nat.le_of_ble_eq_true rfl⟩) hG (fun r_15 u_15 H locs hp_15 hG => ?_)
    subst hp_15
    refine k_iastN hF hK hG qa hR.2.1 (j) rfl (by omega) (by omega) dX6_become_18 (fun H locs hG => ?_)
    exact hret () _ ls _ _ _ _ (by trivial) (by first | (rw [putR_t hn hj]; exact hG) | (rw [putR_f n_5, set_same hR.2.1]; exact hG)) (Nat.le_of_ble_eq_true rfl) (Nat.le_of_ble_eq_true rfl) dX6_become_19

abbrev rmX6_init : Room := { frames := 1, cells := 1, slots := 100, locals := 24 }
set_option maxHeartbeats 4000000 in
set_option maxRecDepth 100000 in
theorem c_X6_init {l : Launch} {D : va_G} {cA : Nat → ClassId} {A : Nat → Prop} {ws : va_W} {r qr so n : Nat} (hn : n < 101) (h1 : ws[qr]? = some (r, .inr (6, [.int 0, .int 0, .null]))) : Met l yX6_init wsX6_init rmX6_init (va_Pc [.ref r, .int (nI so), .int (nI n)] (Pre D cA A (ws))) (va_Qv (fun _ => True) (fun u t => Wd D A ((fun q => ((ws.set qr (r, .inr (6, [.int (nI so), .int (nI n), .null]))) ++ [((q, .inl (cA 0, n, .inl (fun _ => 0))) : Nat × va_E)]).set qr (r, .inr (6, [.int (nI so), .int (nI n), .ref q]))) u) t) A) (1) (100) A := by
  refine k_ofv (S := Nat) (F := fun q => ((ws.set qr (r, .inr (6, [.int (nI so), .int (nI n), .null]))) ++ [((q, .inl (cA 0, n, .inl (fun _ => 0))) : Nat × va_E)]).set qr (r, .inr (6, [.int (nI so), .int (nI n), .ref q]))) (cc := cX6_init) (maxL := 3) (by decide) rfl (Nat.le_of_ble_eq_true rfl) ?_
  intro p e s m args below meth c Q hF hini hK hA hG hret ls hl
  have hl : lv_has ls 3 [(0, .ref r), (1, .int (nI so)), (2, .int (nI n))] := hl
  refine lv_aload_n hF.1 hF.2.1 dX6_init_0 rfl (lv_at hl 0 rfl) ?_
  refine W.objInit hF.1 hF.2.1 hF.2.2.2.1 (hF.2.2.2.2 _ (List.mem_of_getElem? (i := 1) rfl)) (hF.2.2.2.2 _ (List.mem_of_getElem? (i := 2) rfl)) (hF.2.2.2.2 _ (List.mem_of_getElem? (i := 3) rfl)) rfl (by rw [hF.2.2.1]; exact hl.1) rfl dX6_init_1 (Nat.le_of_ble_eq_true rfl) (Nat.le_of_ble_eq_true rfl) ?_
  refine W.eq (g2 := F0 m 4 ls []) rfl ?_
  refine lv_aload_n hF.1 hF.2.1 dX6_init_4 rfl (lv_at hl 0 rfl) ?_
  refine lv_iload_n hF.1 hF.2.1 dX6_init_5 rfl (lv_at hl 1 rfl) ?_
  refine k_putF (C := RX6) (T := TX6) (N := 3) hF hK hG (fun _ h => List.mem_cons_of_mem _ (List.mem_append_right _ h)) tyX6 tyX6_ok nmX6 qr h1 rfl 0 (by decide) (List.mem_of_getElem? (i := 4) rfl) (fun _ h9 => h9) rfl hini rfl rfl rfl (Nat.le_of_ble_eq_true rfl) dX6_init_6 (fun H locs hG => ?_)
  refine lv_aload_n hF.1 hF.2.1 dX6_init_9 rfl (lv_at hl 0 rfl) ?_
  refine lv_iconst (v := (nI 0)) hF.1 hF.2.1 dX6_init_10 (by decide +kernel) ?_
  refine lv_iload_n hF.1 hF.2.1 dX6_init_11 rfl (lv_at hl 2 rfl) ?_
  refine va_mmax hF.1 hF.2.1 (hF.2.2.1.trans hl.1.symm) hF.2.2.2.1 (hF.2.2.2.2 _ (List.mem_of_getElem? (i := 5) rfl)) (hF.2.2.2.2 _ (List.mem_of_getElem? (i := 6) rfl)) (hF.2.2.2.2 _ (List.mem_of_getElem? (i := 7) rfl)) (hF.2.2.2.2 _ (List.mem_of_getElem? (i := 8) rfl)) (Nat.le_of_ble_eq_true rfl) (Nat.le_of_ble_eq_true rfl) (Nat.le_of_ble_eq_true rfl) (Nat.le_of_ble_eq_true rfl) dX6_init_12 ?_
  rw [max_0 hn]
  refine k_putF (C := RX6) (T := TX6) (N := 3) hF hK hG (fun _ h => List.mem_cons_of_mem _ (List.mem_append_right _ h)) tyX6 tyX6_ok nmX6 qr (hit h1) rfl 1 (by decide) (List.mem_of_getElem? (i := 9) rfl) (fun _ h9 => h9) rfl hini rfl rfl rfl (Nat.le_of_ble_eq_true rfl) dX6_init_15 (fun H locs hG => ?_)
  rw [List.set_set] at hG
  refine lv_aload_n hF.1 hF.2.1 dX6_init_18 rfl (lv_at hl 0 rfl) ?_
  refine lv_iconst (v := (nI 0)) hF.1 hF.2.1 dX6_init_19 (by decide +kernel) ?_
  refine lv_iload_n hF.1 hF.2.1 dX6_init_20 rfl (lv_at hl 2 rfl) ?_
  refine va_mmax hF.1 hF.2.1 (hF.2.2.1.trans hl.1.symm) hF.2.2.2.1 (hF.2.2.2.2 _ (List.mem_of_getElem? (i := 5) rfl)) (hF.2.2.2.2 _ (List.mem_of_getElem? (i := 6) rfl)) (hF.2.2.2.2 _ (List.mem_of_getElem? (i := 7) rfl)) (hF.2.2.2.2 _ (List.mem_of_getElem? (i := 8) rfl)) (Nat.le_of_ble_eq_true rfl) (Nat.le_of_ble_eq_true rfl) (Nat.le_of_ble_eq_true rfl) (Nat.le_of_ble_eq_true rfl) dX6_init_21 ?_
  rw [max_0 hn]
  refine k_newi hF hK hA hG (List.mem_of_getElem? (i := 10) rfl) (N' := n) rfl (by omega) (Nat.le_of_ble_eq_true rfl) (by show 0 + n ≤ 100; omega) dX6_init_24 (fun q H hG => ?_)
  refine k_putF (C := RX6) (T := TX6) (N := 3) hF hK hG (fun _ h => List.mem_cons_of_mem _ (List.mem_append_right _ h)) tyX6 tyX6_ok nmX6 qr (pushK (hit h1)) rfl 2 (by decide) (List.mem_of_getElem? (i := 11) rfl) (fun _ h9 => h9) rfl hini rfl rfl rfl (Nat.le_of_ble_eq_true rfl) dX6_init_26 (fun H locs hG => ?_)
  exact hret q _ ls _ _ _ _ (by trivial) hG (Nat.le_of_ble_eq_true rfl) (by omega) dX6_init_29
