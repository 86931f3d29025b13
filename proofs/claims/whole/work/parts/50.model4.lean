abbrev rmX12_wrongRow_0 : Room := { frames := 2, cells := 0, slots := 0, locals := 45 }
set_option maxHeartbeats 4000000 in
set_option maxRecDepth 100000 in
theorem c_X12_wrongRow_0 {l : Launch} {D : va_G} {cA : Nat → ClassId} {A : Nat → Prop}  {ob : Nat → Nat} {aS aI aR aM aK aT aZ aE aD aF aN aP aH : Nat → Int32} {vH vT vP vB vE vS : Int32} {x : Nat → Sf} (hXF : ∀ d, d < 8 → SF aK aT aZ aE aD aF d (x d)) {d : Int32} : Met l yX12_wrongRow wsX12_wrongRow rmX12_wrongRow_0 (va_Pc [.ref (ob 0), .int d, .int (nI 0)] (Pre D cA A (MW cA ob aS aI aR aM aK aT aZ aE aD aF aN aP aH vH vT vP vB vE vS))) (va_Qi (fun r _ => r = wr0 (sfA x d)) (fun u t => Wd D A ((fun (_ : Unit) => MW cA ob aS aI aR aM aK aT aZ aE aD aF aN aP aH vH vT vP vB vE vS) u) t) A) (0) (0) A := by
  refine k_ofi (S := Unit) (F := fun (_ : Unit) => MW cA ob aS aI aR aM aK aT aZ aE aD aF aN aP aH vH vT vP vB vE vS) (cc := cX12_wrongRow) (maxL := 3) (by decide) rfl (Nat.le_of_ble_eq_true rfl) ?_
  intro p e s m args below meth c Q hF hini hK hA hG hret ls hl
  have hl : lv_has ls 3 [(0, .ref (ob 0)), (1, .int d), (2, .int (nI 0))] := hl
  refine lv_iload_n hF.1 hF.2.1 dX12_wrongRow_0 rfl (lv_at hl 1 rfl) ?_
  refine k_ci (r_S (As := [.int d]) hF hK hA hG (c_X12_isShelf) (cwS 1 hF.2.2.2.2 gX12_wrongRow_X12_isShelf rfl rfl rfl (by decide +kernel) ⟨Nat.le_of_ble_eq_true rfl, Nat.le_of_ble_eq_true rfl⟩) rfl hl.1 rfl (lv_room (Nat.le_of_ble_eq_true rfl)) dX12_wrongRow_1 ⟨Nat.le_of_ble_eq_true rfl, Nat.le_of_ble_eq_true rfl⟩) hG (fun r_1 u_1 H locs hp_1 hG => ?_)
  subst hp_1
  refine lv_if_ne (tgt := 11) hF.1 hF.2.1 dX12_wrongRow_4 (by decide) (fun c_4 => ?_) (fun c_4 => ?_)
  · --
    have n_4 : (inB 8 d) = true := b2i_nz.mp c_4
    obtain ⟨j, hj, rfl⟩ := inB_ex (by omega) n_4
    have hfj := hXF j hj
    refine lv_aload_n hF.1 hF.2.1 dX12_wrongRow_11 rfl (lv_at hl 0 rfl) ?_
    refine k_get (C := RX12) (T := TX12) (N := 19) hF hK hG (fun _ h => List.mem_cons_of_mem _ (List.mem_append_right _ h)) 0 rfl rfl 4 (by decide) (List.mem_of_getElem? (i := 1) rfl) (fun _ h9 => h9) rfl dX12_wrongRow_12 ?_
    refine lv_iload_n hF.1 hF.2.1 dX12_wrongRow_15 rfl (lv_at hl 1 rfl) ?_
    refine k_ialdN hF hK hG 5 rfl (j) rfl (by omega) (by omega) dX12_wrongRow_16 ?_
    refine lv_if_ne (tgt := 25) hF.1 hF.2.1 dX12_wrongRow_17 (by decide) (fun c_17 => ?_) (fun c_17 => ?_)
    · --
      refine lv_aload_n hF.1 hF.2.1 dX12_wrongRow_25 rfl (lv_at hl 0 rfl) ?_
      refine k_get (C := RX12) (T := TX12) (N := 19) hF hK hG (fun _ h => List.mem_cons_of_mem _ (List.mem_append_right _ h)) 0 rfl rfl 4 (by decide) (List.mem_of_getElem? (i := 1) rfl) (fun _ h9 => h9) rfl dX12_wrongRow_26 ?_
      refine lv_iload_n hF.1 hF.2.1 dX12_wrongRow_29 rfl (lv_at hl 1 rfl) ?_
      refine k_ialdN hF hK hG 5 rfl (j) rfl (by omega) (by omega) dX12_wrongRow_30 ?_
      refine lv_iconst (v := (nI 2)) hF.1 hF.2.1 dX12_wrongRow_31 (by decide +kernel) ?_
      refine lv_icmp_ne (tgt := 49) hF.1 hF.2.1 dX12_wrongRow_32 (by decide) (fun c_32 => ?_) (fun c_32 => ?_)
      · --
        refine lv_bipush (v := (-12)) hF.1 hF.2.1 dX12_wrongRow_49 (by decide +kernel) ?_
        refine lv_goto (tgt := 55) hF.1 hF.2.1 dX12_wrongRow_51 (by decide) ?_
        exact hret _ () _ ls _ _ _ _ (by first | (rw [sfA_f x n_4]; rfl) | exact absurd n_36 (Nat.lt_irrefl 0) | exact wr_l0 hj hfj c_17 | exact wr_l1 hj hfj c_17 c_32 | exact wr_l2 hj hfj c_32 c_46 | exact wr_l3 hj hfj c_32 c_46) (by first | rfl | exact nar_b2i _) hG (Nat.le_of_ble_eq_true rfl) (Nat.le_of_ble_eq_true rfl) dX12_wrongRow_55
      · --
        refine lv_iload_n hF.1 hF.2.1 dX12_wrongRow_35 rfl (lv_at hl 2 rfl) ?_
        refine lv_if_lt (tgt := 54) hF.1 hF.2.1 dX12_wrongRow_36 (by decide) (fun c_36 => ?_) (fun c_36 => ?_)
        · --
          have n_36 : 0 < 0 := (nI_ltI (a := 0) (b := 0) (by omega) (by omega)).mp c_36
          refine lv_iconst (v := (nI 0)) hF.1 hF.2.1 dX12_wrongRow_54 (by decide +kernel) ?_
          exact hret _ () _ ls _ _ _ _ (by first | (rw [sfA_f x n_4]; rfl) | exact absurd n_36 (Nat.lt_irrefl 0) | exact wr_l0 hj hfj c_17 | exact wr_l1 hj hfj c_17 c_32 | exact wr_l2 hj hfj c_32 c_46 | exact wr_l3 hj hfj c_32 c_46) (by first | rfl | exact nar_b2i _) hG (Nat.le_of_ble_eq_true rfl) (Nat.le_of_ble_eq_true rfl) dX12_wrongRow_55
        · --
          have n_36 : ¬ (0 < 0) := fun zz9 => c_36 ((nI_ltI (a := 0) (b := 0) (by omega) (by omega)).mpr zz9)
          refine lv_aload_n hF.1 hF.2.1 dX12_wrongRow_39 rfl (lv_at hl 0 rfl) ?_
          refine k_get (C := RX12) (T := TX12) (N := 19) hF hK hG (fun _ h => List.mem_cons_of_mem _ (List.mem_append_right _ h)) 0 rfl rfl 5 (by decide) (List.mem_of_getElem? (i := 2) rfl) (fun _ h9 => h9) rfl dX12_wrongRow_40 ?_
          refine lv_iload_n hF.1 hF.2.1 dX12_wrongRow_43 rfl (lv_at hl 1 rfl) ?_
          refine k_ialdN hF hK hG 6 rfl (j) rfl (by omega) (by omega) dX12_wrongRow_44 ?_
          refine lv_iload_n hF.1 hF.2.1 dX12_wrongRow_45 rfl (lv_at hl 2 rfl) ?_
          refine lv_icmp_eq (tgt := 54) hF.1 hF.2.1 dX12_wrongRow_46 (by decide) (fun c_46 => ?_) (fun c_46 => ?_)
          · --
            refine lv_iconst (v := (nI 0)) hF.1 hF.2.1 dX12_wrongRow_54 (by decide +kernel) ?_
            exact hret _ () _ ls _ _ _ _ (by first | (rw [sfA_f x n_4]; rfl) | exact absurd n_36 (Nat.lt_irrefl 0) | exact wr_l0 hj hfj c_17 | exact wr_l1 hj hfj c_17 c_32 | exact wr_l2 hj hfj c_32 c_46 | exact wr_l3 hj hfj c_32 c_46) (by first | rfl | exact nar_b2i _) hG (Nat.le_of_ble_eq_true rfl) (Nat.le_of_ble_eq_true rfl) dX12_wrongRow_55
          · --
            refine lv_bipush (v := (-12)) hF.1 hF.2.1 dX12_wrongRow_49 (by decide +kernel) ?_
            refine lv_goto (tgt := 55) hF.1 hF.2.1 dX12_wrongRow_51 (by decide) ?_
            exact hret _ () _ ls _ _ _ _ (by first | (rw [sfA_f x n_4]; rfl) | exact absurd n_36 (Nat.lt_irrefl 0) | exact wr_l0 hj hfj c_17 | exact wr_l1 hj hfj c_17 c_32 | exact wr_l2 hj hfj c_32 c_46 | exact wr_l3 hj hfj c_32 c_46) (by first | rfl | exact nar_b2i _) hG (Nat.le_of_ble_eq_true rfl) (Nat.le_of_ble_eq_true rfl) dX12_wrongRow_55
    · --
      refine lv_bipush (v := (-11)) hF.1 hF.2.1 dX12_wrongRow_20 (by decide +kernel) ?_
      refine lv_goto (tgt := 55) hF.1 hF.2.1 dX12_wrongRow_22 (by decide) ?_
      exact hret _ () _ ls _ _ _ _ (by first | (rw [sfA_f x n_4]; rfl) | exact absurd n_36 (Nat.lt_irrefl 0) | exact wr_l0 hj hfj c_17 | exact wr_l1 hj hfj c_17 c_32 | exact wr_l2 hj hfj c_32 c_46 | exact wr_l3 hj hfj c_32 c_46) (by first | rfl | exact nar_b2i _) hG (Nat.le_of_ble_eq_true rfl) (Nat.le_of_ble_eq_true rfl) dX12_wrongRow_55
  · --
    have n_4 : (inB 8 d) = false := b2i_z.mp c_4
    refine lv_iconst (v := (-1)) hF.1 hF.2.1 dX12_wrongRow_7 (by decide +kernel) ?_
    refine lv_goto (tgt := 55) hF.1 hF.2.1 dX12_wrongRow_8 (by decide) ?_
    exact hret _ () _ ls _ _ _ _ (by first | (rw [sfA_f x n_4]; rfl) | exact absurd n_36 (Nat.lt_irrefl 0) | exact wr_l0 hj hfj c_17 | exact wr_l1 hj hfj c_17 c_32 | exact wr_l2 hj hfj c_32 c_46 | exact wr_l3 hj hfj c_32 c_46) (by first | rfl | exact nar_b2i _) hG (Nat.le_of_ble_eq_true rfl) (Nat.le_of_ble_eq_true rfl) dX12_wrongRow_55

abbrev rmX12_wrongRow_A : Room := { frames := 2, cells := 0, slots := 0, locals := 45 }
set_option maxHeartbeats 4000000 in
set_option maxRecDepth 100000 in
theorem c_X12_wrongRow_A {l : Launch} {D : va_G} {cA : Nat → ClassId} {A : Nat → Prop}  {ob : Nat → Nat} {aS aI aR aM aK aT aZ aE aD aF aN aP aH : Nat → Int32} {vH vT vP vB vE vS : Int32} {x : Nat → Sf} (hXF : ∀ d, d < 8 → SF aK aT aZ aE aD aF d (x d)) {d : Int32} : Met l yX12_wrongRow wsX12_wrongRow rmX12_wrongRow_A (va_Pc [.ref (ob 0), .int d, .int (-1)] (Pre D cA A (MW cA ob aS aI aR aM aK aT aZ aE aD aF aN aP aH vH vT vP vB vE vS))) (va_Qi (fun r _ => r = wrA (sfA x d)) (fun u t => Wd D A ((fun (_ : Unit) => MW cA ob aS aI aR aM aK aT aZ aE aD aF aN aP aH vH vT vP vB vE vS) u) t) A) (0) (0) A := by
  refine k_ofi (S := Unit) (F := fun (_ : Unit) => MW cA ob aS aI aR aM aK aT aZ aE aD aF aN aP aH vH vT vP vB vE vS) (cc := cX12_wrongRow) (maxL := 3) (by decide) rfl (Nat.le_of_ble_eq_true rfl) ?_
  intro p e s m args below meth c Q hF hini hK hA hG hret ls hl
  have hl : lv_has ls 3 [(0, .ref (ob 0)), (1, .int d), (2, .int (-1))] := hl
  refine lv_iload_n hF.1 hF.2.1 dX12_wrongRow_0 rfl (lv_at hl 1 rfl) ?_
  refine k_ci (r_S (As := [.int d]) hF hK hA hG (c_X12_isShelf) (cwS 1 hF.2.2.2.2 gX12_wrongRow_X12_isShelf rfl rfl rfl (by decide +kernel) ⟨Nat.le_of_ble_eq_true rfl, Nat.le_of_ble_eq_true rfl⟩) rfl hl.1 rfl (lv_room (Nat.le_of_ble_eq_true rfl)) dX12_wrongRow_1 ⟨Nat.le_of_ble_eq_true rfl, Nat.le_of_ble_eq_true rfl⟩) hG (fun r_1 u_1 H locs hp_1 hG => ?_)
  subst hp_1
  refine lv_if_ne (tgt := 11) hF.1 hF.2.1 dX12_wrongRow_4 (by decide) (fun c_4 => ?_) (fun c_4 => ?_)
  · --
    have n_4 : (inB 8 d) = true := b2i_nz.mp c_4
    obtain ⟨j, hj, rfl⟩ := inB_ex (by omega) n_4
    have hfj := hXF j hj
    refine lv_aload_n hF.1 hF.2.1 dX12_wrongRow_11 rfl (lv_at hl 0 rfl) ?_
    refine k_get (C := RX12) (T := TX12) (N := 19) hF hK hG (fun _ h => List.mem_cons_of_mem _ (List.mem_append_right _ h)) 0 rfl rfl 4 (by decide) (List.mem_of_getElem? (i := 1) rfl) (fun _ h9 => h9) rfl dX12_wrongRow_12 ?_
    refine lv_iload_n hF.1 hF.2.1 dX12_wrongRow_15 rfl (lv_at hl 1 rfl) ?_
    refine k_ialdN hF hK hG 5 rfl (j) rfl (by omega) (by omega) dX12_wrongRow_16 ?_
    refine lv_if_ne (tgt := 25) hF.1 hF.2.1 dX12_wrongRow_17 (by decide) (fun c_17 => ?_) (fun c_17 => ?_)
    · --
      refine lv_aload_n hF.1 hF.2.1 dX12_wrongRow_25 rfl (lv_at hl 0 rfl) ?_
      refine k_get (C := RX12) (T := TX12) (N := 19) hF hK hG (fun _ h => List.mem_cons_of_mem _ (List.mem_append_right _ h)) 0 rfl rfl 4 (by decide) (List.mem_of_getElem? (i := 1) rfl) (fun _ h9 => h9) rfl dX12_wrongRow_26 ?_
      refine lv_iload_n hF.1 hF.2.1 dX12_wrongRow_29 rfl (lv_at hl 1 rfl) ?_
      refine k_ialdN hF hK hG 5 rfl (j) rfl (by omega) (by omega) dX12_wrongRow_30 ?_
      refine lv_iconst (v := (nI 2)) hF.1 hF.2.1 dX12_wrongRow_31 (by decide +kernel) ?_
      refine lv_icmp_ne (tgt := 49) hF.1 hF.2.1 dX12_wrongRow_32 (by decide) (fun c_32 => ?_) (fun c_32 => ?_)
      · --
        refine lv_bipush (v := (-12)) hF.1 hF.2.1 dX12_wrongRow_49 (by decide +kernel) ?_
        refine lv_goto (tgt := 55) hF.1 hF.2.1 dX12_wrongRow_51 (by decide) ?_
        exact hret _ () _ ls _ _ _ _ (by first | (rw [sfA_f x n_4]; rfl) | exact absurd (by decide +kernel : (-1 : Int32) < 0) c_36 | exact wa_l0 hj hfj c_17 | exact wa_l1 hj hfj c_17 c_32 | exact wa_l2 hj hfj c_32) (by first | rfl | exact nar_b2i _) hG (Nat.le_of_ble_eq_true rfl) (Nat.le_of_ble_eq_true rfl) dX12_wrongRow_55
      · --
        refine lv_iload_n hF.1 hF.2.1 dX12_wrongRow_35 rfl (lv_at hl 2 rfl) ?_
        refine lv_if_lt (tgt := 54) hF.1 hF.2.1 dX12_wrongRow_36 (by decide) (fun c_36 => ?_) (fun c_36 => ?_)
        · --
          refine lv_iconst (v := (nI 0)) hF.1 hF.2.1 dX12_wrongRow_54 (by decide +kernel) ?_
          exact hret _ () _ ls _ _ _ _ (by first | (rw [sfA_f x n_4]; rfl) | exact absurd (by decide +kernel : (-1 : Int32) < 0) c_36 | exact wa_l0 hj hfj c_17 | exact wa_l1 hj hfj c_17 c_32 | exact wa_l2 hj hfj c_32) (by first | rfl | exact nar_b2i _) hG (Nat.le_of_ble_eq_true rfl) (Nat.le_of_ble_eq_true rfl) dX12_wrongRow_55
        · --
          refine lv_aload_n hF.1 hF.2.1 dX12_wrongRow_39 rfl (lv_at hl 0 rfl) ?_
          refine k_get (C := RX12) (T := TX12) (N := 19) hF hK hG (fun _ h => List.mem_cons_of_mem _ (List.mem_append_right _ h)) 0 rfl rfl 5 (by decide) (List.mem_of_getElem? (i := 2) rfl) (fun _ h9 => h9) rfl dX12_wrongRow_40 ?_
          refine lv_iload_n hF.1 hF.2.1 dX12_wrongRow_43 rfl (lv_at hl 1 rfl) ?_
          refine k_ialdN hF hK hG 6 rfl (j) rfl (by omega) (by omega) dX12_wrongRow_44 ?_
          refine lv_iload_n hF.1 hF.2.1 dX12_wrongRow_45 rfl (lv_at hl 2 rfl) ?_
          refine lv_icmp_eq (tgt := 54) hF.1 hF.2.1 dX12_wrongRow_46 (by decide) (fun c_46 => ?_) (fun c_46 => ?_)
          · --
            refine lv_iconst (v := (nI 0)) hF.1 hF.2.1 dX12_wrongRow_54 (by decide +kernel) ?_
            exact hret _ () _ ls _ _ _ _ (by first | (rw [sfA_f x n_4]; rfl) | exact absurd (by decide +kernel : (-1 : Int32) < 0) c_36 | exact wa_l0 hj hfj c_17 | exact wa_l1 hj hfj c_17 c_32 | exact wa_l2 hj hfj c_32) (by first | rfl | exact nar_b2i _) hG (Nat.le_of_ble_eq_true rfl) (Nat.le_of_ble_eq_true rfl) dX12_wrongRow_55
          · --
            refine lv_bipush (v := (-12)) hF.1 hF.2.1 dX12_wrongRow_49 (by decide +kernel) ?_
            refine lv_goto (tgt := 55) hF.1 hF.2.1 dX12_wrongRow_51 (by decide) ?_
            exact hret _ () _ ls _ _ _ _ (by first | (rw [sfA_f x n_4]; rfl) | exact absurd (by decide +kernel : (-1 : Int32) < 0) c_36 | exact wa_l0 hj hfj c_17 | exact wa_l1 hj hfj c_17 c_32 | exact wa_l2 hj hfj c_32) (by first | rfl | exact nar_b2i _) hG (Nat.le_of_ble_eq_true rfl) (Nat.le_of_ble_eq_true rfl) dX12_wrongRow_55
    · --
      refine lv_bipush (v := (-11)) hF.1 hF.2.1 dX12_wrongRow_20 (by decide +kernel) ?_
      refine lv_goto (tgt := 55) hF.1 hF.2.1 dX12_wrongRow_22 (by decide) ?_
      exact hret _ () _ ls _ _ _ _ (by first | (rw [sfA_f x n_4]; rfl) | exact absurd (by decide +kernel : (-1 : Int32) < 0) c_36 | exact wa_l0 hj hfj c_17 | exact wa_l1 hj hfj c_17 c_32 | exact wa_l2 hj hfj c_32) (by first | rfl | exact nar_b2i _) hG (Nat.le_of_ble_eq_true rfl) (Nat.le_of_ble_eq_true rfl) dX12_wrongRow_55
  · --
    have n_4 : (inB 8 d) = false := b2i_z.mp c_4
    refine lv_iconst (v := (-1)) hF.1 hF.2.1 dX12_wrongRow_7 (by decide +kernel) ?_
    refine lv_goto (tgt := 55) hF.1 hF.2.1 dX12_wrongRow_8 (by decide) ?_
    exact hret _ () _ ls _ _ _ _ (by first | (rw [sfA_f x n_4]; rfl) | exact absurd (by decide +kernel : (-1 : Int32) < 0) c_36 | exact wa_l0 hj hfj c_17 | exact wa_l1 hj hfj c_17 c_32 | exact wa_l2 hj hfj c_32) (by first | rfl | exact nar_b2i _) hG (Nat.le_of_ble_eq_true rfl) (Nat.le_of_ble_eq_true rfl) dX12_wrongRow_55

abbrev rmX12_wrongKept : Room := { frames := 2, cells := 0, slots := 0, locals := 45 }
set_option maxHeartbeats 4000000 in
set_option maxRecDepth 100000 in
theorem c_X12_wrongKept {l : Launch} {D : va_G} {cA : Nat → ClassId} {A : Nat → Prop}  {ob : Nat → Nat} {aS aI aR aM aK aT aZ aE aD aF aN aP aH : Nat → Int32} {vH vT vP vB vE vS : Int32} {x : Nat → Sf} (hXF : ∀ d, d < 8 → SF aK aT aZ aE aD aF d (x d)) {d : Int32} : Met l yX12_wrongKept wsX12_wrongKept rmX12_wrongKept (va_Pc [.ref (ob 0), .int d] (Pre D cA A (MW cA ob aS aI aR aM aK aT aZ aE aD aF aN aP aH vH vT vP vB vE vS))) (va_Qi (fun r _ => r = wkI (sfA x d)) (fun u t => Wd D A ((fun (_ : Unit) => MW cA ob aS aI aR aM aK aT aZ aE aD aF aN aP aH vH vT vP vB vE vS) u) t) A) (0) (0) A := by
  refine k_ofi (S := Unit) (F := fun (_ : Unit) => MW cA ob aS aI aR aM aK aT aZ aE aD aF aN aP aH vH vT vP vB vE vS) (cc := cX12_wrongKept) (maxL := 2) (by decide) rfl (Nat.le_of_ble_eq_true rfl) ?_
  intro p e s m args below meth c Q hF hini hK hA hG hret ls hl
  have hl : lv_has ls 2 [(0, .ref (ob 0)), (1, .int d)] := hl
  refine lv_iload_n hF.1 hF.2.1 dX12_wrongKept_0 rfl (lv_at hl 1 rfl) ?_
  refine k_ci (r_S (As := [.int d]) hF hK hA hG (c_X12_isShelf) (cwS 1 hF.2.2.2.2 gX12_wrongKept_X12_isShelf rfl rfl rfl (by decide +kernel) ⟨Nat.le_of_ble_eq_true rfl, Nat.le_of_ble_eq_true rfl⟩) rfl hl.1 rfl (lv_room (Nat.le_of_ble_eq_true rfl)) dX12_wrongKept_1 ⟨Nat.le_of_ble_eq_true rfl, Nat.le_of_ble_eq_true rfl⟩) hG (fun r_1 u_1 H locs hp_1 hG => ?_)
  subst hp_1
  refine lv_if_ne (tgt := 11) hF.1 hF.2.1 dX12_wrongKept_4 (by decide) (fun c_4 => ?_) (fun c_4 => ?_)
  · --
    have n_4 : (inB 8 d) = true := b2i_nz.mp c_4
    obtain ⟨j, hj, rfl⟩ := inB_ex (by omega) n_4
    have hfj := hXF j hj
    refine lv_aload_n hF.1 hF.2.1 dX12_wrongKept_11 rfl (lv_at hl 0 rfl) ?_
    refine k_get (C := RX12) (T := TX12) (N := 19) hF hK hG (fun _ h => List.mem_cons_of_mem _ (List.mem_append_right _ h)) 0 rfl rfl 4 (by decide) (List.mem_of_getElem? (i := 1) rfl) (fun _ h9 => h9) rfl dX12_wrongKept_12 ?_
    refine lv_iload_n hF.1 hF.2.1 dX12_wrongKept_15 rfl (lv_at hl 1 rfl) ?_
    refine k_ialdN hF hK hG 5 rfl (j) rfl (by omega) (by omega) dX12_wrongKept_16 ?_
    refine lv_if_ne (tgt := 25) hF.1 hF.2.1 dX12_wrongKept_17 (by decide) (fun c_17 => ?_) (fun c_17 => ?_)
    · --
      refine lv_aload_n hF.1 hF.2.1 dX12_wrongKept_25 rfl (lv_at hl 0 rfl) ?_
      refine k_get (C := RX12) (T := TX12) (N := 19) hF hK hG (fun _ h => List.mem_cons_of_mem _ (List.mem_append_right _ h)) 0 rfl rfl 4 (by decide) (List.mem_of_getElem? (i := 1) rfl) (fun _ h9 => h9) rfl dX12_wrongKept_26 ?_
      refine lv_iload_n hF.1 hF.2.1 dX12_wrongKept_29 rfl (lv_at hl 1 rfl) ?_
      refine k_ialdN hF hK hG 5 rfl (j) rfl (by omega) (by omega) dX12_wrongKept_30 ?_
      refine lv_iconst (v := (nI 1)) hF.1 hF.2.1 dX12_wrongKept_31 (by decide +kernel) ?_
      refine lv_icmp_ne (tgt := 39) hF.1 hF.2.1 dX12_wrongKept_32 (by decide) (fun c_32 => ?_) (fun c_32 => ?_)
      · --
        refine lv_bipush (v := (-12)) hF.1 hF.2.1 dX12_wrongKept_39 (by decide +kernel) ?_
        exact hret _ () _ ls _ _ _ _ (by first | (rw [sfA_f x n_4]; rfl) | exact wk_l0 hj hfj c_17 | exact wk_l1 hj hfj c_32 | exact wk_l2 hj hfj c_17 c_32) (by first | rfl | exact nar_b2i _) hG (Nat.le_of_ble_eq_true rfl) (Nat.le_of_ble_eq_true rfl) dX12_wrongKept_41
      · --
        refine lv_iconst (v := (nI 0)) hF.1 hF.2.1 dX12_wrongKept_35 (by decide +kernel) ?_
        refine lv_goto (tgt := 41) hF.1 hF.2.1 dX12_wrongKept_36 (by decide) ?_
        exact hret _ () _ ls _ _ _ _ (by first | (rw [sfA_f x n_4]; rfl) | exact wk_l0 hj hfj c_17 | exact wk_l1 hj hfj c_32 | exact wk_l2 hj hfj c_17 c_32) (by first | rfl | exact nar_b2i _) hG (Nat.le_of_ble_eq_true rfl) (Nat.le_of_ble_eq_true rfl) dX12_wrongKept_41
    · --
      refine lv_bipush (v := (-11)) hF.1 hF.2.1 dX12_wrongKept_20 (by decide +kernel) ?_
      refine lv_goto (tgt := 41) hF.1 hF.2.1 dX12_wrongKept_22 (by decide) ?_
      exact hret _ () _ ls _ _ _ _ (by first | (rw [sfA_f x n_4]; rfl) | exact wk_l0 hj hfj c_17 | exact wk_l1 hj hfj c_32 | exact wk_l2 hj hfj c_17 c_32) (by first | rfl | exact nar_b2i _) hG (Nat.le_of_ble_eq_true rfl) (Nat.le_of_ble_eq_true rfl) dX12_wrongKept_41
  · --
    have n_4 : (inB 8 d) = false := b2i_z.mp c_4
    refine lv_iconst (v := (-1)) hF.1 hF.2.1 dX12_wrongKept_7 (by decide +kernel) ?_
    refine lv_goto (tgt := 41) hF.1 hF.2.1 dX12_wrongKept_8 (by decide) ?_
    exact hret _ () _ ls _ _ _ _ (by first | (rw [sfA_f x n_4]; rfl) | exact wk_l0 hj hfj c_17 | exact wk_l1 hj hfj c_32 | exact wk_l2 hj hfj c_17 c_32) (by first | rfl | exact nar_b2i _) hG (Nat.le_of_ble_eq_true rfl) (Nat.le_of_ble_eq_true rfl) dX12_wrongKept_41

abbrev rmX12_told : Room := { frames := 0, cells := 0, slots := 0, locals := 0 }
set_option maxHeartbeats 4000000 in
set_option maxRecDepth 100000 in
theorem c_X12_told {l : Launch} {D : va_G} {cA : Nat → ClassId} {A : Nat → Prop}  {ob : Nat → Nat} {aS aI aR aM aK aT aZ aE aD aF aN aP aH : Nat → Int32} {vH vT vP vB vE vS : Int32} {d i : Nat} (hd : d < 8) (hi : i < 100) : Met l yX12_told wsX12_told rmX12_told (va_Pc [.ref (ob 0), .int (nI d), .int (nI i)] (Pre D cA A (MW cA ob aS aI aR aM aK aT aZ aE aD aF aN aP aH vH vT vP vB vE vS))) (va_Qi (fun r _ => r = aE (100 * d + i)) (fun u t => Wd D A ((fun (_ : Unit) => MW cA ob aS aI aR aM aK aT aZ aE aD aF aN aP aH vH vT vP vB vE vS) u) t) A) (0) (0) A := by
  refine k_ofi (S := Unit) (F := fun (_ : Unit) => MW cA ob aS aI aR aM aK aT aZ aE aD aF aN aP aH vH vT vP vB vE vS) (cc := cX12_told) (maxL := 3) (by decide) rfl (Nat.le_of_ble_eq_true rfl) ?_
  intro p e s m args below meth c Q hF hini hK hA hG hret ls hl
  have hl : lv_has ls 3 [(0, .ref (ob 0)), (1, .int (nI d)), (2, .int (nI i))] := hl
  refine lv_aload_n hF.1 hF.2.1 dX12_told_0 rfl (lv_at hl 0 rfl) ?_
  refine k_get (C := RX12) (T := TX12) (N := 19) hF hK hG (fun _ h => List.mem_cons_of_mem _ (List.mem_append_right _ h)) 0 rfl rfl 7 (by decide) (List.mem_of_getElem? (i := 1) rfl) (fun _ h9 => h9) rfl dX12_told_1 ?_
  refine lv_bipush (v := (nI 100)) hF.1 hF.2.1 dX12_told_4 (by decide +kernel) ?_
  refine lv_iload_n hF.1 hF.2.1 dX12_told_6 rfl (lv_at hl 1 rfl) ?_
  refine lv_imul hF.1 hF.2.1 dX12_told_7 ?_
  rw [pk_mul]
  refine lv_iload_n hF.1 hF.2.1 dX12_told_8 rfl (lv_at hl 2 rfl) ?_
  refine lv_iadd hF.1 hF.2.1 dX12_told_9 ?_
  rw [nI_add]
  refine k_ialdN hF hK hG 8 rfl ((100) * (d) + i) rfl (by omega) (by omega) dX12_told_10 ?_
  exact hret _ () _ ls _ _ _ _ (by first | rfl | (simp_all; done)) (by first | rfl | exact nar_b2i _) hG (Nat.le_of_ble_eq_true rfl) (Nat.le_of_ble_eq_true rfl) dX12_told_11

abbrev rmX12_drawer : Room := { frames := 2, cells := 0, slots := 0, locals := 46 }
set_option maxHeartbeats 4000000 in
set_option maxRecDepth 100000 in
theorem c_X12_drawer {l : Launch} {D : va_G} {cA : Nat → ClassId} {A : Nat → Prop}  {ob : Nat → Nat} {aS aI aR aM aK aT aZ aE aD aF aN aP aH : Nat → Int32} {vH vT vP vB vE vS : Int32} {n o : Nat} {kd fg : Nat → Nat} (hS : SR aS n o kd fg) {i what : Int32} : Met l yX12_drawer wsX12_drawer rmX12_drawer (va_Pc [.ref (ob 0), .int i, .int what] (Pre D cA A (MW cA ob aS aI aR aM aK aT aZ aE aD aF aN aP aH vH vT vP vB vE vS))) (va_Qi (fun r _ => r = spDrawer n o kd fg i what) (fun u t => Wd D A ((fun (_ : Unit) => MW cA ob aS aI aR aM aK aT aZ aE aD aF aN aP aH vH vT vP vB vE vS) u) t) A) (0) (0) A := by
  refine k_ofi (S := Unit) (F := fun (_ : Unit) => MW cA ob aS aI aR aM aK aT aZ aE aD aF aN aP aH vH vT vP vB vE vS) (cc := cX12_drawer) (maxL := 3) (by decide) rfl (Nat.le_of_ble_eq_true rfl) ?_
  intro p e s m args below meth c Q hF hini hK hA hG hret ls hl
  have hl : lv_has ls 3 [(0, .ref (ob 0)), (1, .int i), (2, .int what)] := hl
  have hn : n ≤ 6 := hS.2.2.1
  have ho : o < 64 := hS.o64
  refine lv_aload_n hF.1 hF.2.1 dX12_drawer_0 rfl (lv_at hl 0 rfl) ?_
  refine lv_iload_n hF.1 hF.2.1 dX12_drawer_1 rfl (lv_at hl 1 rfl) ?_
  refine k_ci (r_V (As := [.int i]) hF hK hA hG (c_X12_isDrawer hS) (cwV 1 hF.2.2.2.2 gX12_drawer_X12_isDrawer rfl rfl rfl (by decide +kernel) ⟨Nat.le_of_ble_eq_true rfl, Nat.le_of_ble_eq_true rfl⟩) 0 rfl rfl rfl rfl hl.1 rfl (lv_room (Nat.le_of_ble_eq_true rfl)) dX12_drawer_2 ⟨Nat.le_of_ble_eq_true rfl, Nat.le_of_ble_eq_true rfl⟩) hG (fun r_2 u_2 H locs hp_2 hG => ?_)
  subst hp_2
  refine lv_if_ne (tgt := 10) hF.1 hF.2.1 dX12_drawer_5 (by decide) (fun c_5 => ?_) (fun c_5 => ?_)
  · --
    have n_5 : (inB n i) = true := b2i_nz.mp c_5
    obtain ⟨j, hj, rfl⟩ := inB_ex (by omega) n_5
    refine lv_iload_n hF.1 hF.2.1 dX12_drawer_10 rfl (lv_at hl 2 rfl) ?_
    refine sw_by (nI 0) (fun e11_0 => ?_) (fun e11_0 => ?_)
    · --
      refine lv_tableIn (tgt := 40) hF.1 hF.2.1 dX12_drawer_11 (by decide +kernel) (by decide +kernel) rfl (by decide) ?_
      refine lv_aload_n hF.1 hF.2.1 dX12_drawer_40 rfl (lv_at hl 0 rfl) ?_
      refine lv_iload_n hF.1 hF.2.1 dX12_drawer_41 rfl (lv_at hl 1 rfl) ?_
      refine k_ci (r_V (As := [.int (nI j)]) hF hK hA hG (c_X12_kind hS hj) (cwV 1 hF.2.2.2.2 gX12_drawer_X12_kind rfl rfl rfl (by decide +kernel) ⟨Nat.le_of_ble_eq_true rfl, Nat.le_of_ble_eq_true rfl⟩) 0 rfl rfl rfl rfl hl.1 rfl (lv_room (Nat.le_of_ble_eq_true rfl)) dX12_drawer_42 ⟨Nat.le_of_ble_eq_true rfl, Nat.le_of_ble_eq_true rfl⟩) hG (fun r_42 u_42 H locs hp_42 hG => ?_)
      subst hp_42
      exact hret _ () _ ls _ _ _ _ (by first | (unfold spDrawer; rw [n_5]; rfl) | (unfold spDrawer; rw [if_pos (inB_j (by omega) hj), nI_clamp (by omega)]; first | rw [if_pos e11_0] | rw [if_neg e11_0, if_pos e11_1] | rw [if_neg e11_0, if_neg e11_1, if_pos e11_2] | (rw [if_neg e11_0, if_neg e11_1, if_neg e11_2, if_pos e11_3, n_74]; rfl) | rw [if_neg e11_0, if_neg e11_1, if_neg e11_2, if_neg e11_3])) (by first | rfl | exact nar_b2i _) hG (Nat.le_of_ble_eq_true rfl) (Nat.le_of_ble_eq_true rfl) dX12_drawer_45
    refine sw_by (nI 1) (fun e11_1 => ?_) (fun e11_1 => ?_)
    · --
      refine lv_tableIn (tgt := 46) hF.1 hF.2.1 dX12_drawer_11 (by decide +kernel) (by decide +kernel) rfl (by decide) ?_
      refine lv_aload_n hF.1 hF.2.1 dX12_drawer_46 rfl (lv_at hl 0 rfl) ?_
      refine lv_iload_n hF.1 hF.2.1 dX12_drawer_47 rfl (lv_at hl 1 rfl) ?_
      refine k_ci (r_V (As := [.int (nI j)]) hF hK hA hG (c_X12_figure hS hj) (cwV 1 hF.2.2.2.2 gX12_drawer_X12_figure rfl rfl rfl (by decide +kernel) ⟨Nat.le_of_ble_eq_true rfl, Nat.le_of_ble_eq_true rfl⟩) 0 rfl rfl rfl rfl hl.1 rfl (lv_room (Nat.le_of_ble_eq_true rfl)) dX12_drawer_48 ⟨Nat.le_of_ble_eq_true rfl, Nat.le_of_ble_eq_true rfl⟩) hG (fun r_48 u_48 H locs hp_48 hG => ?_)
      subst hp_48
      exact hret _ () _ ls _ _ _ _ (by first | (unfold spDrawer; rw [n_5]; rfl) | (unfold spDrawer; rw [if_pos (inB_j (by omega) hj), nI_clamp (by omega)]; first | rw [if_pos e11_0] | rw [if_neg e11_0, if_pos e11_1] | rw [if_neg e11_0, if_neg e11_1, if_pos e11_2] | (rw [if_neg e11_0, if_neg e11_1, if_neg e11_2, if_pos e11_3, n_74]; rfl) | rw [if_neg e11_0, if_neg e11_1, if_neg e11_2, if_neg e11_3])) (by first | rfl | exact nar_b2i _) hG (Nat.le_of_ble_eq_true rfl) (Nat.le_of_ble_eq_true rfl) dX12_drawer_51
    refine sw_by (nI 2) (fun e11_2 => ?_) (fun e11_2 => ?_)
    · --
      refine lv_tableIn (tgt := 52) hF.1 hF.2.1 dX12_drawer_11 (by decide +kernel) (by decide +kernel) rfl (by decide) ?_
      refine lv_aload_n hF.1 hF.2.1 dX12_drawer_52 rfl (lv_at hl 0 rfl) ?_
      refine k_get (C := RX12) (T := TX12) (N := 19) hF hK hG (fun _ h => List.mem_cons_of_mem _ (List.mem_append_right _ h)) 0 rfl rfl 0 (by decide) (List.mem_of_getElem? (i := 1) rfl) (fun _ h9 => h9) rfl dX12_drawer_53 ?_
      refine lv_iconst (v := (nI 1)) hF.1 hF.2.1 dX12_drawer_56 (by decide +kernel) ?_
      refine k_ialdN hF hK hG 1 rfl (1) rfl (by omega) (by omega) dX12_drawer_57 ?_
      rw [hS.2.1]
      refine lv_iload_n hF.1 hF.2.1 dX12_drawer_58 rfl (lv_at hl 1 rfl) ?_
      refine lv_ishr hF.1 hF.2.1 dX12_drawer_59 ?_
      refine lv_iconst (v := (nI 1)) hF.1 hF.2.1 dX12_drawer_60 (by decide +kernel) ?_
      refine lv_iand hF.1 hF.2.1 dX12_drawer_61 ?_
      rw [bit_sh ho (by omega)]
      exact hret _ () _ ls _ _ _ _ (by first | (unfold spDrawer; rw [n_5]; rfl) | (unfold spDrawer; rw [if_pos (inB_j (by omega) hj), nI_clamp (by omega)]; first | rw [if_pos e11_0] | rw [if_neg e11_0, if_pos e11_1] | rw [if_neg e11_0, if_neg e11_1, if_pos e11_2] | (rw [if_neg e11_0, if_neg e11_1, if_neg e11_2, if_pos e11_3, n_74]; rfl) | rw [if_neg e11_0, if_neg e11_1, if_neg e11_2, if_neg e11_3])) (by first | rfl | exact nar_b2i _) hG (Nat.le_of_ble_eq_true rfl) (Nat.le_of_ble_eq_true rfl) dX12_drawer_62
    refine sw_by (nI 3) (fun e11_3 => ?_) (fun e11_3 => ?_)
    · --
      refine lv_tableIn (tgt := 63) hF.1 hF.2.1 dX12_drawer_11 (by decide +kernel) (by decide +kernel) rfl (by decide) ?_
      refine lv_aload_n hF.1 hF.2.1 dX12_drawer_63 rfl (lv_at hl 0 rfl) ?_
      refine lv_iload_n hF.1 hF.2.1 dX12_drawer_64 rfl (lv_at hl 1 rfl) ?_
      refine lv_aload_n hF.1 hF.2.1 dX12_drawer_65 rfl (lv_at hl 0 rfl) ?_
      refine k_get (C := RX12) (T := TX12) (N := 19) hF hK hG (fun _ h => List.mem_cons_of_mem _ (List.mem_append_right _ h)) 0 rfl rfl 0 (by decide) (List.mem_of_getElem? (i := 1) rfl) (fun _ h9 => h9) rfl dX12_drawer_66 ?_
      refine lv_iconst (v := (nI 1)) hF.1 hF.2.1 dX12_drawer_69 (by decide +kernel) ?_
      refine k_ialdN hF hK hG 1 rfl (1) rfl (by omega) (by omega) dX12_drawer_70 ?_
      rw [hS.2.1]
      refine k_ci (r_V (As := [.int (nI j), .int (nI o)]) hF hK hA hG (c_X12_may hS hj ho) (cwV 2 hF.2.2.2.2 gX12_drawer_X12_may rfl rfl rfl (by decide +kernel) ⟨Nat.le_of_ble_eq_true rfl, Nat.le_of_ble_eq_true rfl⟩) 0 rfl rfl rfl rfl hl.1 rfl (lv_room (Nat.le_of_ble_eq_true rfl)) dX12_drawer_71 ⟨Nat.le_of_ble_eq_true rfl, Nat.le_of_ble_eq_true rfl⟩) hG (fun r_71 u_71 H locs hp_71 hG => ?_)
      subst hp_71
      refine lv_if_eq (tgt := 81) hF.1 hF.2.1 dX12_drawer_74 (by decide) (fun c_74 => ?_) (fun c_74 => ?_)
      · --
        have n_74 : (mv (kd j) (fg j) j o) = false := b2i_z.mp c_74
        refine lv_iconst (v := (nI 0)) hF.1 hF.2.1 dX12_drawer_81 (by decide +kernel) ?_
        exact hret _ () _ ls _ _ _ _ (by first | (unfold spDrawer; rw [n_5]; rfl) | (unfold spDrawer; rw [if_pos (inB_j (by omega) hj), nI_clamp (by omega)]; first | rw [if_pos e11_0] | rw [if_neg e11_0, if_pos e11_1] | rw [if_neg e11_0, if_neg e11_1, if_pos e11_2] | (rw [if_neg e11_0, if_neg e11_1, if_neg e11_2, if_pos e11_3, n_74]; rfl) | rw [if_neg e11_0, if_neg e11_1, if_neg e11_2, if_neg e11_3])) (by first | rfl | exact nar_b2i _) hG (Nat.le_of_ble_eq_true rfl) (Nat.le_of_ble_eq_true rfl) dX12_drawer_82
      · --
        have n_74 : (mv (kd j) (fg j) j o) = true := b2i_nz.mp c_74
        refine lv_iconst (v := (nI 1)) hF.1 hF.2.1 dX12_drawer_77 (by decide +kernel) ?_
        refine lv_goto (tgt := 82) hF.1 hF.2.1 dX12_drawer_78 (by decide) ?_
        exact hret _ () _ ls _ _ _ _ (by first | (unfold spDrawer; rw [n_5]; rfl) | (unfold spDrawer; rw [if_pos (inB_j (by omega) hj), nI_clamp (by omega)]; first | rw [if_pos e11_0] | rw [if_neg e11_0, if_pos e11_1] | rw [if_neg e11_0, if_neg e11_1, if_pos e11_2] | (rw [if_neg e11_0, if_neg e11_1, if_neg e11_2, if_pos e11_3, n_74]; rfl) | rw [if_neg e11_0, if_neg e11_1, if_neg e11_2, if_neg e11_3])) (by first | rfl | exact nar_b2i _) hG (Nat.le_of_ble_eq_true rfl) (Nat.le_of_ble_eq_true rfl) dX12_drawer_82
    refine lv_tableOut (tgt := 83) hF.1 hF.2.1 dX12_drawer_11 (by have q_0 := lv_neT e11_0 (a := 0) (by decide +kernel); have q_1 := lv_neT e11_1 (a := 1) (by decide +kernel); have q_2 := lv_neT e11_2 (a := 2) (by decide +kernel); have q_3 := lv_neT e11_3 (a := 3) (by decide +kernel); omega) (by decide) ?_
    refine lv_iconst (v := (-1)) hF.1 hF.2.1 dX12_drawer_83 (by decide +kernel) ?_
    exact hret _ () _ ls _ _ _ _ (by first | (unfold spDrawer; rw [n_5]; rfl) | (unfold spDrawer; rw [if_pos (inB_j (by omega) hj), nI_clamp (by omega)]; first | rw [if_pos e11_0] | rw [if_neg e11_0, if_pos e11_1] | rw [if_neg e11_0, if_neg e11_1, if_pos e11_2] | (rw [if_neg e11_0, if_neg e11_1, if_neg e11_2, if_pos e11_3, n_74]; rfl) | rw [if_neg e11_0, if_neg e11_1, if_neg e11_2, if_neg e11_3])) (by first | rfl | exact nar_b2i _) hG (Nat.le_of_ble_eq_true rfl) (Nat.le_of_ble_eq_true rfl) dX12_drawer_84
  · --
    have n_5 : (inB n i) = false := b2i_z.mp c_5
    refine lv_iconst (v := (-1)) hF.1 hF.2.1 dX12_drawer_8 (by decide +kernel) ?_
    exact hret _ () _ ls _ _ _ _ (by first | (unfold spDrawer; rw [n_5]; rfl) | (unfold spDrawer; rw [if_pos (inB_j (by omega) hj), nI_clamp (by omega)]; first | rw [if_pos e11_0] | rw [if_neg e11_0, if_pos e11_1] | rw [if_neg e11_0, if_neg e11_1, if_pos e11_2] | (rw [if_neg e11_0, if_neg e11_1, if_neg e11_2, if_pos e11_3, n_74]; rfl) | rw [if_neg e11_0, if_neg e11_1, if_neg e11_2, if_neg e11_3])) (by first | rfl | exact nar_b2i _) hG (Nat.le_of_ble_eq_true rfl) (Nat.le_of_ble_eq_true rfl) dX12_drawer_9

abbrev rmX12_comes : Room := { frames := 3, cells := 0, slots := 0, locals := 66 }
set_option maxHeartbeats 4000000 in
set_option maxRecDepth 100000 in
theorem c_X12_comes {l : Launch} {D : va_G} {cA : Nat → ClassId} {A : Nat → Prop}  {ob : Nat → Nat} {aS aI aR aM aK aT aZ aE aD aF aN aP aH : Nat → Int32} {vH vT vP vB vE vS : Int32} {n o : Nat} {kd fg : Nat → Nat} (hS : SR aS n o kd fg) {x : Nat → Sf} (hXF : ∀ d, d < 8 → SF aK aT aZ aE aD aF d (x d)) {d : Int32} : Met l yX12_comes wsX12_comes rmX12_comes (va_Pc [.ref (ob 0), .int d] (Pre D cA A (MW cA ob aS aI aR aM aK aT aZ aE aD aF aN aP aH vH vT vP vB vE vS))) (va_Qi (fun r (u : Nat → Int32) => r = (spComes n o kd fg (sfA x d)).1 ∧ SRW u (spComes n o kd fg (sfA x d)).2) (fun u t => Wd D A ((fun (u : Nat → Int32) => MW cA ob u aI aR aM aK aT aZ aE aD aF aN aP aH vH vT vP vB vE vS) u) t) A) (0) (0) A := by
  refine k_ofi (S := Nat → Int32) (F := fun (u : Nat → Int32) => MW cA ob u aI aR aM aK aT aZ aE aD aF aN aP aH vH vT vP vB vE vS) (cc := cX12_comes) (maxL := 3) (by decide) rfl (Nat.le_of_ble_eq_true rfl) ?_
  intro p e s m args below meth c Q hF hini hK hA hG hret ls hl
  have hl : lv_has ls 3 [(0, .ref (ob 0)), (1, .int d)] := hl
  have hn : n ≤ 6 := hS.2.2.1
  have ho : o < 64 := hS.o64
  refine lv_aload_n hF.1 hF.2.1 dX12_comes_0 rfl (lv_at hl 0 rfl) ?_
  refine lv_iload_n hF.1 hF.2.1 dX12_comes_1 rfl (lv_at hl 1 rfl) ?_
  refine k_ci (r_V (As := [.int d]) hF hK hA hG (c_X12_wrongKept hXF) (cwV 1 hF.2.2.2.2 gX12_comes_X12_wrongKept rfl rfl rfl (by decide +kernel) ⟨Nat.le_of_ble_eq_true rfl, Nat.le_of_ble_eq_true rfl⟩) 0 rfl rfl rfl rfl hl.1 rfl (lv_room (Nat.le_of_ble_eq_true rfl)) dX12_comes_2 ⟨Nat.le_of_ble_eq_true rfl, Nat.le_of_ble_eq_true rfl⟩) hG (fun r_2 u_2 H locs hp_2 hG => ?_)
  subst hp_2
  refine lv_istore_n (lv' := [(2, .int (wkI (sfA x d))), (0, .ref (ob 0)), (1, .int d)]) hF.1 hF.2.1 dX12_comes_5 rfl hl (by decide) rfl (fun ls hl => ?_)
  refine lv_iload_n hF.1 hF.2.1 dX12_comes_6 rfl (lv_at hl 0 rfl) ?_
  refine lv_if_eq (tgt := 12) hF.1 hF.2.1 dX12_comes_7 (by decide) (fun c_7 => ?_) (fun c_7 => ?_)
  · --
    obtain ⟨j, z, hj, rfl, hx⟩ := wk_0 c_7
    obtain ⟨f1, f2, f3, hz8, hz10⟩ := sf_l (hXF j hj) hx
    refine lv_aload_n hF.1 hF.2.1 dX12_comes_12 rfl (lv_at hl 1 rfl) ?_
    refine lv_aload_n hF.1 hF.2.1 dX12_comes_13 rfl (lv_at hl 1 rfl) ?_
    refine k_get (C := RX12) (T := TX12) (N := 19) hF hK hG (fun _ h => List.mem_cons_of_mem _ (List.mem_append_right _ h)) 0 rfl rfl 8 (by decide) (List.mem_of_getElem? (i := 1) rfl) (fun _ h9 => h9) rfl dX12_comes_14 ?_
    refine lv_iload_n hF.1 hF.2.1 dX12_comes_17 rfl (lv_at hl 2 rfl) ?_
    refine k_ialdN hF hK hG 9 rfl (j) rfl (by omega) (by omega) dX12_comes_18 ?_
    rw [f2]
    refine lv_aload_n hF.1 hF.2.1 dX12_comes_19 rfl (lv_at hl 1 rfl) ?_
    refine k_get (C := RX12) (T := TX12) (N := 19) hF hK hG (fun _ h => List.mem_cons_of_mem _ (List.mem_append_right _ h)) 0 rfl rfl 9 (by decide) (List.mem_of_getElem? (i := 2) rfl) (fun _ h9 => h9) rfl dX12_comes_20 ?_
    refine lv_iload_n hF.1 hF.2.1 dX12_comes_23 rfl (lv_at hl 2 rfl) ?_
    refine k_ialdN hF hK hG 10 rfl (j) rfl (by omega) (by omega) dX12_comes_24 ?_
    rw [f3]
    refine k_ci (r_V (As := [.int (nI (z.1)), .int (nI (z.2))]) hF hK hA hG (c_X12_adds hS hz8 hz10) (cwV 2 hF.2.2.2.2 gX12_comes_X12_adds rfl rfl rfl (by decide +kernel) ⟨Nat.le_of_ble_eq_true rfl, Nat.le_of_ble_eq_true rfl⟩) 0 rfl rfl rfl rfl hl.1 rfl (lv_room (Nat.le_of_ble_eq_true rfl)) dX12_comes_25 ⟨Nat.le_of_ble_eq_true rfl, Nat.le_of_ble_eq_true rfl⟩) hG (fun r_25 u_25 H locs hp_25 hG => ?_)
    refine lv_if_eq (tgt := 42) hF.1 hF.2.1 dX12_comes_28 (by decide) (fun c_28 => ?_) (fun c_28 => ?_)
    · --
      refine lv_bipush (v := (-2)) hF.1 hF.2.1 dX12_comes_42 (by decide +kernel) ?_
      exact hret _ u_25 _ ls _ _ _ _ (by rw [sfA_j x hj, hx]; first | (have h6 : n < 6 := Nat.lt_of_not_le (fun q => c_28 (by rw [(hp_25.1 (by omega)).1]; rfl)); rw [spComes_t h6]; refine ⟨?_, (hp_25.2 h6).2⟩; rw [(hp_25.2 h6).2.1]; exact nI_pred n) | (have h6 : ¬ n < 6 := fun q => absurd c_28 (by rw [(hp_25.2 q).1]; decide +kernel); rw [spComes_f h6]; refine ⟨rfl, ?_⟩; rw [(hp_25.1 (by omega)).2]; exact hS)) (by first | rfl | exact nar_b2i _) hG (Nat.le_of_ble_eq_true rfl) (Nat.le_of_ble_eq_true rfl) dX12_comes_44
    · --
      refine lv_aload_n hF.1 hF.2.1 dX12_comes_31 rfl (lv_at hl 1 rfl) ?_
      refine k_get (C := RX12) (T := TX12) (N := 19) hF hK hG (fun _ h => List.mem_cons_of_mem _ (List.mem_append_right _ h)) 0 rfl rfl 0 (by decide) (List.mem_of_getElem? (i := 3) rfl) (fun _ h9 => h9) rfl dX12_comes_32 ?_
      refine lv_iconst (v := (nI 0)) hF.1 hF.2.1 dX12_comes_35 (by decide +kernel) ?_
      refine k_ialdN hF hK hG 1 rfl (0) rfl (by omega) (by omega) dX12_comes_36 ?_
      refine lv_iconst (v := (nI 1)) hF.1 hF.2.1 dX12_comes_37 (by decide +kernel) ?_
      refine lv_isub hF.1 hF.2.1 dX12_comes_38 ?_
      refine lv_goto (tgt := 44) hF.1 hF.2.1 dX12_comes_39 (by decide) ?_
      exact hret _ u_25 _ ls _ _ _ _ (by rw [sfA_j x hj, hx]; first | (have h6 : n < 6 := Nat.lt_of_not_le (fun q => c_28 (by rw [(hp_25.1 (by omega)).1]; rfl)); rw [spComes_t h6]; refine ⟨?_, (hp_25.2 h6).2⟩; rw [(hp_25.2 h6).2.1]; exact nI_pred n) | (have h6 : ¬ n < 6 := fun q => absurd c_28 (by rw [(hp_25.2 q).1]; decide +kernel); rw [spComes_f h6]; refine ⟨rfl, ?_⟩; rw [(hp_25.1 (by omega)).2]; exact hS)) (by first | rfl | exact nar_b2i _) hG (Nat.le_of_ble_eq_true rfl) (Nat.le_of_ble_eq_true rfl) dX12_comes_44
  · --
    refine lv_iload_n hF.1 hF.2.1 dX12_comes_10 rfl (lv_at hl 0 rfl) ?_
    exact hret _ aS _ ls _ _ _ _ (by rw [spComes_n c_7]; exact ⟨rfl, hS⟩) (by first | rfl | exact nar_b2i _) hG (Nat.le_of_ble_eq_true rfl) (Nat.le_of_ble_eq_true rfl) dX12_comes_11

abbrev rmX12_changes : Room := { frames := 3, cells := 0, slots := 0, locals := 66 }
set_option maxHeartbeats 4000000 in
set_option maxRecDepth 100000 in
theorem c_X12_changes {l : Launch} {D : va_G} {cA : Nat → ClassId} {A : Nat → Prop}  {ob : Nat → Nat} {aS aI aR aM aK aT aZ aE aD aF aN aP aH : Nat → Int32} {vH vT vP vB vE vS : Int32} {n o : Nat} {kd fg : Nat → Nat} (hS : SR aS n o kd fg) {x : Nat → Sf} (hXF : ∀ d, d < 8 → SF aK aT aZ aE aD aF d (x d)) {d i : Int32} : Met l yX12_changes wsX12_changes rmX12_changes (va_Pc [.ref (ob 0), .int d, .int i] (Pre D cA A (MW cA ob aS aI aR aM aK aT aZ aE aD aF aN aP aH vH vT vP vB vE vS))) (va_Qi (fun r (u : Nat → Int32) => r = (spChanges n o kd fg (sfA x d) i).1 ∧ SRW u (spChanges n o kd fg (sfA x d) i).2) (fun u t => Wd D A ((fun (u : Nat → Int32) => MW cA ob u aI aR aM aK aT aZ aE aD aF aN aP aH vH vT vP vB vE vS) u) t) A) (0) (0) A := by
  refine k_ofi (S := Nat → Int32) (F := fun (u : Nat → Int32) => MW cA ob u aI aR aM aK aT aZ aE aD aF aN aP aH vH vT vP vB vE vS) (cc := cX12_changes) (maxL := 5) (by decide) rfl (Nat.le_of_ble_eq_true rfl) ?_
  intro p e s m args below meth c Q hF hini hK hA hG hret ls hl
  have hl : lv_has ls 5 [(0, .ref (ob 0)), (1, .int d), (2, .int i)] := hl
  have hn : n ≤ 6 := hS.2.2.1
  have ho : o < 64 := hS.o64
  refine lv_aload_n hF.1 hF.2.1 dX12_changes_0 rfl (lv_at hl 0 rfl) ?_
  refine lv_iload_n hF.1 hF.2.1 dX12_changes_1 rfl (lv_at hl 2 rfl) ?_
  refine k_ci (r_V (As := [.int i]) hF hK hA hG (c_X12_isDrawer hS) (cwV 1 hF.2.2.2.2 gX12_changes_X12_isDrawer rfl rfl rfl (by decide +kernel) ⟨Nat.le_of_ble_eq_true rfl, Nat.le_of_ble_eq_true rfl⟩) 0 rfl rfl rfl rfl hl.1 rfl (lv_room (Nat.le_of_ble_eq_true rfl)) dX12_changes_2 ⟨Nat.le_of_ble_eq_true rfl, Nat.le_of_ble_eq_true rfl⟩) hG (fun r_2 u_2 H locs hp_2 hG => ?_)
  subst hp_2
  refine lv_if_ne (tgt := 12) hF.1 hF.2.1 dX12_changes_5 (by decide) (fun c_5 => ?_) (fun c_5 => ?_)
  · --
    have n_5 : (inB n i) = true := b2i_nz.mp c_5
    obtain ⟨k, hk, rfl⟩ := inB_ex (by omega) n_5
    refine lv_aload_n hF.1 hF.2.1 dX12_changes_12 rfl (lv_at hl 0 rfl) ?_
    refine lv_iload_n hF.1 hF.2.1 dX12_changes_13 rfl (lv_at hl 1 rfl) ?_
    refine k_ci (r_V (As := [.int d]) hF hK hA hG (c_X12_wrongKept hXF) (cwV 1 hF.2.2.2.2 gX12_changes_X12_wrongKept rfl rfl rfl (by decide +kernel) ⟨Nat.le_of_ble_eq_true rfl, Nat.le_of_ble_eq_true rfl⟩) 0 rfl rfl rfl rfl hl.1 rfl (lv_room (Nat.le_of_ble_eq_true rfl)) dX12_changes_14 ⟨Nat.le_of_ble_eq_true rfl, Nat.le_of_ble_eq_true rfl⟩) hG (fun r_14 u_14 H locs hp_14 hG => ?_)
    subst hp_14
    refine lv_istore_n (lv' := [(3, .int (wkI (sfA x d))), (0, .ref (ob 0)), (1, .int d), (2, .int (nI k))]) hF.1 hF.2.1 dX12_changes_17 rfl hl (by decide) rfl (fun ls hl => ?_)
    refine lv_iload_n hF.1 hF.2.1 dX12_changes_18 rfl (lv_at hl 0 rfl) ?_
    refine lv_if_eq (tgt := 24) hF.1 hF.2.1 dX12_changes_19 (by decide) (fun c_19 => ?_) (fun c_19 => ?_)
    · --
      obtain ⟨j, z, hj, rfl, hx⟩ := wk_0 c_19
      obtain ⟨f1, f2, f3, hz8, hz10⟩ := sf_l (hXF j hj) hx
      refine lv_aload_n hF.1 hF.2.1 dX12_changes_24 rfl (lv_at hl 1 rfl) ?_
      refine lv_iload_n hF.1 hF.2.1 dX12_changes_25 rfl (lv_at hl 3 rfl) ?_
      refine k_ci (r_V (As := [.int (nI k)]) hF hK hA hG (c_X12_kind hS hk) (cwV 1 hF.2.2.2.2 gX12_changes_X12_kind rfl rfl rfl (by decide +kernel) ⟨Nat.le_of_ble_eq_true rfl, Nat.le_of_ble_eq_true rfl⟩) 0 rfl rfl rfl rfl hl.1 rfl (lv_room (Nat.le_of_ble_eq_true rfl)) dX12_changes_26 ⟨Nat.le_of_ble_eq_true rfl, Nat.le_of_ble_eq_true rfl⟩) hG (fun r_26 u_26 H locs hp_26 hG => ?_)
      subst hp_26
      refine lv_istore (lv' := [(4, .int (nI (kd k))), (3, .int (wkI (sfA x (nI j)))), (0, .ref (ob 0)), (1, .int (nI j)), (2, .int (nI k))]) hF.1 hF.2.1 dX12_changes_29 hl (by decide) rfl (fun ls hl => ?_)
      refine lv_aload_n hF.1 hF.2.1 dX12_changes_31 rfl (lv_at hl 2 rfl) ?_
      refine lv_iload_n hF.1 hF.2.1 dX12_changes_32 rfl (lv_at hl 4 rfl) ?_
      refine lv_aload_n hF.1 hF.2.1 dX12_changes_33 rfl (lv_at hl 2 rfl) ?_
      refine k_get (C := RX12) (T := TX12) (N := 19) hF hK hG (fun _ h => List.mem_cons_of_mem _ (List.mem_append_right _ h)) 0 rfl rfl 8 (by decide) (List.mem_of_getElem? (i := 1) rfl) (fun _ h9 => h9) rfl dX12_changes_34 ?_
      refine lv_iload_n hF.1 hF.2.1 dX12_changes_37 rfl (lv_at hl 3 rfl) ?_
      refine k_ialdN hF hK hG 9 rfl (j) rfl (by omega) (by omega) dX12_changes_38 ?_
      rw [f2]
      refine lv_aload_n hF.1 hF.2.1 dX12_changes_39 rfl (lv_at hl 2 rfl) ?_
      refine k_get (C := RX12) (T := TX12) (N := 19) hF hK hG (fun _ h => List.mem_cons_of_mem _ (List.mem_append_right _ h)) 0 rfl rfl 9 (by decide) (List.mem_of_getElem? (i := 2) rfl) (fun _ h9 => h9) rfl dX12_changes_40 ?_
      refine lv_iload_n hF.1 hF.2.1 dX12_changes_43 rfl (lv_at hl 3 rfl) ?_
      refine k_ialdN hF hK hG 10 rfl (j) rfl (by omega) (by omega) dX12_changes_44 ?_
      rw [f3]
      refine k_cv (r_V (As := [.int (nI k), .int (nI (z.1)), .int (nI (z.2))]) hF hK hA hG (c_X12_setDrawer (show k < 6 by omega)) (cwV 3 hF.2.2.2.2 gX12_changes_X12_setDrawer rfl rfl rfl (by decide +kernel) ⟨Nat.le_of_ble_eq_true rfl, Nat.le_of_ble_eq_true rfl⟩) 0 rfl rfl rfl rfl hl.1 rfl (lv_room (Nat.le_of_ble_eq_true rfl)) dX12_changes_45 ⟨Nat.le_of_ble_eq_true rfl, Nat.le_of_ble_eq_true rfl⟩) hG (fun u_45 H locs hp_45 hG => ?_)
      refine lv_iload hF.1 hF.2.1 dX12_changes_48 (lv_at hl 0 rfl) ?_
      exact hret _ (upd (upd aS (2 + 2 * k) (nI z.1)) (2 + 2 * k + 1) (nI z.2)) _ ls _ _ _ _ (by rw [sfA_j x hj, hx, spChanges_t hn hk]; exact ⟨rfl, hS.setD hz8 hz10⟩) (by first | rfl | exact nar_b2i _) hG (Nat.le_of_ble_eq_true rfl) (Nat.le_of_ble_eq_true rfl) dX12_changes_50
    · --
      refine lv_iload_n hF.1 hF.2.1 dX12_changes_22 rfl (lv_at hl 0 rfl) ?_
      exact hret _ aS _ ls _ _ _ _ (by first | (rw [spChanges_f n_5]; exact ⟨rfl, hS⟩) | (rw [spChanges_n hn hk c_19]; exact ⟨rfl, hS⟩)) (by first | rfl | exact nar_b2i _) hG (Nat.le_of_ble_eq_true rfl) (Nat.le_of_ble_eq_true rfl) dX12_changes_23
  · --
    have n_5 : (inB n i) = false := b2i_z.mp c_5
    refine lv_iconst (v := (-1)) hF.1 hF.2.1 dX12_changes_8 (by decide +kernel) ?_
    refine lv_goto (tgt := 17) hF.1 hF.2.1 dX12_changes_9 (by decide) ?_
    refine lv_istore_n (lv' := [(3, .int (-1)), (0, .ref (ob 0)), (1, .int d), (2, .int i)]) hF.1 hF.2.1 dX12_changes_17 rfl hl (by decide) rfl (fun ls hl => ?_)
    refine lv_iload_n hF.1 hF.2.1 dX12_changes_18 rfl (lv_at hl 0 rfl) ?_
    refine lv_if_eq (tgt := 24) hF.1 hF.2.1 dX12_changes_19 (by decide) (fun c_19 => ?_) (fun c_19 => ?_)
    · --
      exact absurd c_19 m1_0
    · --
      refine lv_iload_n hF.1 hF.2.1 dX12_changes_22 rfl (lv_at hl 0 rfl) ?_
      exact hret _ aS _ ls _ _ _ _ (by first | (rw [spChanges_f n_5]; exact ⟨rfl, hS⟩) | (rw [spChanges_n hn hk c_19]; exact ⟨rfl, hS⟩)) (by first | rfl | exact nar_b2i _) hG (Nat.le_of_ble_eq_true rfl) (Nat.le_of_ble_eq_true rfl) dX12_changes_23

abbrev rmX12_pull : Room := { frames := 3, cells := 0, slots := 0, locals := 67 }
set_option maxHeartbeats 4000000 in
set_option maxRecDepth 100000 in
theorem c_X12_pull {l : Launch} {D : va_G} {cA : Nat → ClassId} {A : Nat → Prop}  {ob : Nat → Nat} {aS aI aR aM aK aT aZ aE aD aF aN aP aH : Nat → Int32} {vH vT vP vB vE vS : Int32} {n o : Nat} {kd fg : Nat → Nat} (hS : SR aS n o kd fg) {i : Int32} : Met l yX12_pull wsX12_pull rmX12_pull (va_Pc [.ref (ob 0), .int i] (Pre D cA A (MW cA ob aS aI aR aM aK aT aZ aE aD aF aN aP aH vH vT vP vB vE vS))) (va_Qi (fun r (u : Nat → Int32) => r = spPull n o kd fg i ∧ SR u n (pullO n kd fg i o) kd fg) (fun u t => Wd D A ((fun (u : Nat → Int32) => MW cA ob u aI aR aM aK aT aZ aE aD aF aN aP aH vH vT vP vB vE vS) u) t) A) (0) (0) A := by
  refine k_ofi (S := Nat → Int32) (F := fun (u : Nat → Int32) => MW cA ob u aI aR aM aK aT aZ aE aD aF aN aP aH vH vT vP vB vE vS) (cc := cX12_pull) (maxL := 2) (by decide) rfl (Nat.le_of_ble_eq_true rfl) ?_
  intro p e s m args below meth c Q hF hini hK hA hG hret ls hl
  have hl : lv_has ls 2 [(0, .ref (ob 0)), (1, .int i)] := hl
  have hn : n ≤ 6 := hS.2.2.1
  have ho : o < 64 := hS.o64
  refine lv_aload_n hF.1 hF.2.1 dX12_pull_0 rfl (lv_at hl 0 rfl) ?_
  refine lv_iload_n hF.1 hF.2.1 dX12_pull_1 rfl (lv_at hl 1 rfl) ?_
  refine k_ci (r_V (As := [.int i]) hF hK hA hG (c_X12_isDrawer hS) (cwV 1 hF.2.2.2.2 gX12_pull_X12_isDrawer rfl rfl rfl (by decide +kernel) ⟨Nat.le_of_ble_eq_true rfl, Nat.le_of_ble_eq_true rfl⟩) 0 rfl rfl rfl rfl hl.1 rfl (lv_room (Nat.le_of_ble_eq_true rfl)) dX12_pull_2 ⟨Nat.le_of_ble_eq_true rfl, Nat.le_of_ble_eq_true rfl⟩) hG (fun r_2 u_2 H locs hp_2 hG => ?_)
  subst hp_2
  refine lv_if_ne (tgt := 12) hF.1 hF.2.1 dX12_pull_5 (by decide) (fun c_5 => ?_) (fun c_5 => ?_)
  · --
    have n_5 : (inB n i) = true := b2i_nz.mp c_5
    obtain ⟨j, hj, rfl⟩ := inB_ex (by omega) n_5
    refine lv_aload_n hF.1 hF.2.1 dX12_pull_12 rfl (lv_at hl 0 rfl) ?_
    refine lv_iload_n hF.1 hF.2.1 dX12_pull_13 rfl (lv_at hl 1 rfl) ?_
    refine k_ci (r_V (As := [.int (nI j)]) hF hK hA hG (c_X12_pulls hS hj) (cwV 1 hF.2.2.2.2 gX12_pull_X12_pulls rfl rfl rfl (by decide +kernel) ⟨Nat.le_of_ble_eq_true rfl, Nat.le_of_ble_eq_true rfl⟩) 0 rfl rfl rfl rfl hl.1 rfl (lv_room (Nat.le_of_ble_eq_true rfl)) dX12_pull_14 ⟨Nat.le_of_ble_eq_true rfl, Nat.le_of_ble_eq_true rfl⟩) hG (fun r_14 u_14 H locs hp_14 hG => ?_)
    obtain ⟨hp1, hp2⟩ := hp_14
    subst hp1
    refine lv_if_eq (tgt := 29) hF.1 hF.2.1 dX12_pull_17 (by decide) (fun c_17 => ?_) (fun c_17 => ?_)
    · --
      have n_17 : (mayZ n kd fg (nI j) o) = false := b2i_z.mp c_17
      refine lv_bipush (v := (-3)) hF.1 hF.2.1 dX12_pull_29 (by decide +kernel) ?_
      exact hret _ _ _ ls _ _ _ _ (by first | (refine ⟨?_, hp2⟩; unfold spPull; rw [if_pos (inB_j (by omega) hj), n_17]; first | (rw [if_pos rfl, hp2.2.1]) | rfl) | (refine ⟨by rw [spPull, n_5]; rfl, ?_⟩; rw [pullO_f (mayZ_f n_5)]; exact hS)) (by first | rfl | exact nar_b2i _) hG (Nat.le_of_ble_eq_true rfl) (Nat.le_of_ble_eq_true rfl) dX12_pull_31
    · --
      have n_17 : (mayZ n kd fg (nI j) o) = true := b2i_nz.mp c_17
      refine lv_aload_n hF.1 hF.2.1 dX12_pull_20 rfl (lv_at hl 0 rfl) ?_
      refine k_get (C := RX12) (T := TX12) (N := 19) hF hK hG (fun _ h => List.mem_cons_of_mem _ (List.mem_append_right _ h)) 0 rfl rfl 0 (by decide) (List.mem_of_getElem? (i := 1) rfl) (fun _ h9 => h9) rfl dX12_pull_21 ?_
      refine lv_iconst (v := (nI 1)) hF.1 hF.2.1 dX12_pull_24 (by decide +kernel) ?_
      refine k_ialdN hF hK hG 1 rfl (1) rfl (by omega) (by omega) dX12_pull_25 ?_
      refine lv_goto (tgt := 31) hF.1 hF.2.1 dX12_pull_26 (by decide) ?_
      exact hret _ _ _ ls _ _ _ _ (by first | (refine ⟨?_, hp2⟩; unfold spPull; rw [if_pos (inB_j (by omega) hj), n_17]; first | (rw [if_pos rfl, hp2.2.1]) | rfl) | (refine ⟨by rw [spPull, n_5]; rfl, ?_⟩; rw [pullO_f (mayZ_f n_5)]; exact hS)) (by first | rfl | exact nar_b2i _) hG (Nat.le_of_ble_eq_true rfl) (Nat.le_of_ble_eq_true rfl) dX12_pull_31
  · --
    have n_5 : (inB n i) = false := b2i_z.mp c_5
    refine lv_iconst (v := (-1)) hF.1 hF.2.1 dX12_pull_8 (by decide +kernel) ?_
    refine lv_goto (tgt := 31) hF.1 hF.2.1 dX12_pull_9 (by decide) ?_
    exact hret _ _ _ ls _ _ _ _ (by first | (refine ⟨?_, hp2⟩; unfold spPull; rw [if_pos (inB_j (by omega) hj), n_17]; first | (rw [if_pos rfl, hp2.2.1]) | rfl) | (refine ⟨by rw [spPull, n_5]; rfl, ?_⟩; rw [pullO_f (mayZ_f n_5)]; exact hS)) (by first | rfl | exact nar_b2i _) hG (Nat.le_of_ble_eq_true rfl) (Nat.le_of_ble_eq_true rfl) dX12_pull_31

abbrev rmX12_standing : Room := { frames := 3, cells := 0, slots := 0, locals := 69 }
set_option maxHeartbeats 4000000 in
set_option maxRecDepth 100000 in
theorem c_X12_standing {l : Launch} {D : va_G} {cA : Nat → ClassId} {A : Nat → Prop}  {ob : Nat → Nat} {aS aI aR aM aK aT aZ aE aD aF aN aP aH : Nat → Int32} {vH vT vP vB vE vS : Int32} {n o : Nat} {kd fg : Nat → Nat} (hS : SR aS n o kd fg) {what : Int32} : Met l yX12_standing wsX12_standing rmX12_standing (va_Pc [.ref (ob 0), .int what] (Pre D cA A (MW cA ob aS aI aR aM aK aT aZ aE aD aF aN aP aH vH vT vP vB vE vS))) (va_Qi (fun r _ => r = spStanding n o kd fg what) (fun u t => Wd D A ((fun (_ : Unit) => MW cA ob aS aI aR aM aK aT aZ aE aD aF aN aP aH vH vT vP vB vE vS) u) t) A) (0) (0) A := by
  refine k_ofi (S := Unit) (F := fun (_ : Unit) => MW cA ob aS aI aR aM aK aT aZ aE aD aF aN aP aH vH vT vP vB vE vS) (cc := cX12_standing) (maxL := 2) (by decide) rfl (Nat.le_of_ble_eq_true rfl) ?_
  intro p e s m args below meth c Q hF hini hK hA hG hret ls hl
  have hl : lv_has ls 2 [(0, .ref (ob 0)), (1, .int what)] := hl
  have hn : n ≤ 6 := hS.2.2.1
  have ho : o < 64 := hS.o64
  refine lv_iload_n hF.1 hF.2.1 dX12_standing_0 rfl (lv_at hl 1 rfl) ?_
  refine lv_if_ne (tgt := 13) hF.1 hF.2.1 dX12_standing_1 (by decide) (fun c_1 => ?_) (fun c_1 => ?_)
  · --
    replace c_1 : ¬ what = nI 0 := c_1
    refine lv_iload_n hF.1 hF.2.1 dX12_standing_13 rfl (lv_at hl 1 rfl) ?_
    refine lv_iconst (v := (nI 1)) hF.1 hF.2.1 dX12_standing_14 (by decide +kernel) ?_
    refine lv_icmp_ne (tgt := 31) hF.1 hF.2.1 dX12_standing_15 (by decide) (fun c_15 => ?_) (fun c_15 => ?_)
    · --
      refine lv_iconst (v := (-1)) hF.1 hF.2.1 dX12_standing_31 (by decide +kernel) ?_
      exact hret _ () _ ls _ _ _ _ (by unfold spStanding; first | rw [if_pos c_1] | rw [if_neg c_1, if_pos c_15] | rw [if_neg c_1, if_neg c_15]) (by first | rfl | exact nar_b2i _) hG (Nat.le_of_ble_eq_true rfl) (Nat.le_of_ble_eq_true rfl) dX12_standing_32
    · --
      refine lv_aload_n hF.1 hF.2.1 dX12_standing_18 rfl (lv_at hl 0 rfl) ?_
      refine lv_aload_n hF.1 hF.2.1 dX12_standing_19 rfl (lv_at hl 0 rfl) ?_
      refine k_get (C := RX12) (T := TX12) (N := 19) hF hK hG (fun _ h => List.mem_cons_of_mem _ (List.mem_append_right _ h)) 0 rfl rfl 0 (by decide) (List.mem_of_getElem? (i := 1) rfl) (fun _ h9 => h9) rfl dX12_standing_20 ?_
      refine lv_iconst (v := (nI 1)) hF.1 hF.2.1 dX12_standing_23 (by decide +kernel) ?_
      refine k_ialdN hF hK hG 1 rfl (1) rfl (by omega) (by omega) dX12_standing_24 ?_
      rw [hS.2.1]
      refine k_ci (r_V (As := [.int (nI o)]) hF hK hA hG (c_X12_allMay hS ho) (cwV 1 hF.2.2.2.2 gX12_standing_X12_allMay rfl rfl rfl (by decide +kernel) ⟨Nat.le_of_ble_eq_true rfl, Nat.le_of_ble_eq_true rfl⟩) 0 rfl rfl rfl rfl hl.1 rfl (lv_room (Nat.le_of_ble_eq_true rfl)) dX12_standing_25 ⟨Nat.le_of_ble_eq_true rfl, Nat.le_of_ble_eq_true rfl⟩) hG (fun r_25 u_25 H locs hp_25 hG => ?_)
      subst hp_25
      refine lv_goto (tgt := 32) hF.1 hF.2.1 dX12_standing_28 (by decide) ?_
      exact hret _ () _ ls _ _ _ _ (by unfold spStanding; first | rw [if_pos c_1] | rw [if_neg c_1, if_pos c_15] | rw [if_neg c_1, if_neg c_15]) (by first | rfl | exact nar_b2i _) hG (Nat.le_of_ble_eq_true rfl) (Nat.le_of_ble_eq_true rfl) dX12_standing_32
  · --
    replace c_1 : what = nI 0 := c_1
    refine lv_aload_n hF.1 hF.2.1 dX12_standing_4 rfl (lv_at hl 0 rfl) ?_
    refine k_get (C := RX12) (T := TX12) (N := 19) hF hK hG (fun _ h => List.mem_cons_of_mem _ (List.mem_append_right _ h)) 0 rfl rfl 0 (by decide) (List.mem_of_getElem? (i := 1) rfl) (fun _ h9 => h9) rfl dX12_standing_5 ?_
    refine lv_iconst (v := (nI 1)) hF.1 hF.2.1 dX12_standing_8 (by decide +kernel) ?_
    refine k_ialdN hF hK hG 1 rfl (1) rfl (by omega) (by omega) dX12_standing_9 ?_
    rw [hS.2.1]
    refine lv_goto (tgt := 32) hF.1 hF.2.1 dX12_standing_10 (by decide) ?_
    exact hret _ () _ ls _ _ _ _ (by unfold spStanding; first | rw [if_pos c_1] | rw [if_neg c_1, if_pos c_15] | rw [if_neg c_1, if_neg c_15]) (by first | rfl | exact nar_b2i _) hG (Nat.le_of_ble_eq_true rfl) (Nat.le_of_ble_eq_true rfl) dX12_standing_32

abbrev rmX12_stand : Room := { frames := 2, cells := 0, slots := 0, locals := 46 }
set_option maxHeartbeats 4000000 in
set_option maxRecDepth 100000 in
theorem c_X12_stand {l : Launch} {D : va_G} {cA : Nat → ClassId} {A : Nat → Prop}  {ob : Nat → Nat} {aS aI aR aM aK aT aZ aE aD aF aN aP aH : Nat → Int32} {vH vT vP vB vE vS : Int32} {n o : Nat} {kd fg : Nat → Nat} (hS : SR aS n o kd fg) {st : Int32} : Met l yX12_stand wsX12_stand rmX12_stand (va_Pc [.ref (ob 0), .int st] (Pre D cA A (MW cA ob aS aI aR aM aK aT aZ aE aD aF aN aP aH vH vT vP vB vE vS))) (va_Qi (fun r (u : Nat → Int32) => r = (spStand n o st).1 ∧ SR u n (spStand n o st).2 kd fg) (fun u t => Wd D A ((fun (u : Nat → Int32) => MW cA ob u aI aR aM aK aT aZ aE aD aF aN aP aH vH vT vP vB vE vS) u) t) A) (0) (0) A := by
  refine k_ofi (S := Nat → Int32) (F := fun (u : Nat → Int32) => MW cA ob u aI aR aM aK aT aZ aE aD aF aN aP aH vH vT vP vB vE vS) (cc := cX12_stand) (maxL := 3) (by decide) rfl (Nat.le_of_ble_eq_true rfl) ?_
  intro p e s m args below meth c Q hF hini hK hA hG hret ls hl
  have hl : lv_has ls 3 [(0, .ref (ob 0)), (1, .int st)] := hl
  have hn : n ≤ 6 := hS.2.2.1
  have ho : o < 64 := hS.o64
  have hp2 : 2 ^ n ≤ 64 := Nat.pow_le_pow_right (by decide) hn
  have hp1 : 1 ≤ 2 ^ n := Nat.one_le_two_pow
  refine lv_aload_n hF.1 hF.2.1 dX12_stand_0 rfl (lv_at hl 0 rfl) ?_
  refine lv_iload_n hF.1 hF.2.1 dX12_stand_1 rfl (lv_at hl 1 rfl) ?_
  refine k_ci (r_V (As := [.int st]) hF hK hA hG (c_X12_areDrawers hS) (cwV 1 hF.2.2.2.2 gX12_stand_X12_areDrawers rfl rfl rfl (by decide +kernel) ⟨Nat.le_of_ble_eq_true rfl, Nat.le_of_ble_eq_true rfl⟩) 0 rfl rfl rfl rfl hl.1 rfl (lv_room (Nat.le_of_ble_eq_true rfl)) dX12_stand_2 ⟨Nat.le_of_ble_eq_true rfl, Nat.le_of_ble_eq_true rfl⟩) hG (fun r_2 u_2 H locs hp_2 hG => ?_)
  subst hp_2
  refine lv_if_ne (tgt := 10) hF.1 hF.2.1 dX12_stand_5 (by decide) (fun c_5 => ?_) (fun c_5 => ?_)
  · --
    have n_5 : (inB (2 ^ n) st) = true := b2i_nz.mp c_5
    obtain ⟨j, hj, rfl⟩ := inB_ex (by omega) n_5
    refine lv_aload_n hF.1 hF.2.1 dX12_stand_10 rfl (lv_at hl 0 rfl) ?_
    refine k_get (C := RX12) (T := TX12) (N := 19) hF hK hG (fun _ h => List.mem_cons_of_mem _ (List.mem_append_right _ h)) 0 rfl rfl 0 (by decide) (List.mem_of_getElem? (i := 1) rfl) (fun _ h9 => h9) rfl dX12_stand_11 ?_
    refine lv_iconst (v := (nI 1)) hF.1 hF.2.1 dX12_stand_14 (by decide +kernel) ?_
    refine k_ialdN hF hK hG 1 rfl (1) rfl (by omega) (by omega) dX12_stand_15 ?_
    rw [hS.2.1]
    refine lv_istore_n (lv' := [(2, .int (nI o)), (0, .ref (ob 0)), (1, .int (nI j))]) hF.1 hF.2.1 dX12_stand_16 rfl hl (by decide) rfl (fun ls hl => ?_)
    refine lv_aload_n hF.1 hF.2.1 dX12_stand_17 rfl (lv_at hl 1 rfl) ?_
    refine k_get (C := RX12) (T := TX12) (N := 19) hF hK hG (fun _ h => List.mem_cons_of_mem _ (List.mem_append_right _ h)) 0 rfl rfl 0 (by decide) (List.mem_of_getElem? (i := 1) rfl) (fun _ h9 => h9) rfl dX12_stand_18 ?_
    refine lv_iconst (v := (nI 1)) hF.1 hF.2.1 dX12_stand_21 (by decide +kernel) ?_
    refine lv_iload_n hF.1 hF.2.1 dX12_stand_22 rfl (lv_at hl 2 rfl) ?_
    refine k_iastN hF hK hG 1 rfl (1) rfl (by omega) (by omega) dX12_stand_23 (fun H locs hG => ?_)
    refine lv_iload_n hF.1 hF.2.1 dX12_stand_24 rfl (lv_at hl 0 rfl) ?_
    exact hret _ _ _ ls _ _ _ _ (by rw [spStand_t hn hj]; exact ⟨rfl, hS.setO hj⟩) (by first | rfl | exact nar_b2i _) hG (Nat.le_of_ble_eq_true rfl) (Nat.le_of_ble_eq_true rfl) dX12_stand_25
  · --
    have n_5 : (inB (2 ^ n) st) = false := b2i_z.mp c_5
    refine lv_iconst (v := (-1)) hF.1 hF.2.1 dX12_stand_8 (by decide +kernel) ?_
    exact hret _ aS _ ls _ _ _ _ (by rw [spStand_f n_5]; exact ⟨rfl, hS⟩) (by first | rfl | exact nar_b2i _) hG (Nat.le_of_ble_eq_true rfl) (Nat.le_of_ble_eq_true rfl) dX12_stand_9

abbrev rmX12_had : Room := { frames := 3, cells := 0, slots := 0, locals := 73 }
set_option maxHeartbeats 4000000 in
set_option maxRecDepth 100000 in
theorem c_X12_had {l : Launch} {D : va_G} {cA : Nat → ClassId} {A : Nat → Prop}  {ob : Nat → Nat} {aS aI aR aM aK aT aZ aE aD aF aN aP aH : Nat → Int32} {vH vT vP vB vE vS : Int32} {n o : Nat} {kd fg : Nat → Nat} (hS : SR aS n o kd fg) {t : Int32} : Met l yX12_had wsX12_had rmX12_had (va_Pc [.ref (ob 0), .int t] (Pre D cA A (MW cA ob aS aI aR aM aK aT aZ aE aD aF aN aP aH vH vT vP vB vE vS))) (va_Qi (fun r (_ : Nat → Int32) => spHad n o kd fg t r) (fun u t => Wd D A ((fun (u : Nat → Int32) => MW cA ob aS aI aR aM aK aT aZ aE aD aF aN aP u vH vT vP vB vE vS) u) t) A) (0) (0) A := by
  refine k_ofi (S := Nat → Int32) (F := fun (u : Nat → Int32) => MW cA ob aS aI aR aM aK aT aZ aE aD aF aN aP u vH vT vP vB vE vS) (cc := cX12_had) (maxL := 2) (by decide) rfl (Nat.le_of_ble_eq_true rfl) ?_
  intro p e s m args below meth c Q hF hini hK hA hG hret ls hl
  have hl : lv_has ls 2 [(0, .ref (ob 0)), (1, .int t)] := hl
  have hn : n ≤ 6 := hS.2.2.1
  have ho : o < 64 := hS.o64
  have hp2 : 2 ^ n ≤ 64 := Nat.pow_le_pow_right (by decide) hn
  have hp1 : 1 ≤ 2 ^ n := Nat.one_le_two_pow
  refine lv_aload_n hF.1 hF.2.1 dX12_had_0 rfl (lv_at hl 0 rfl) ?_
  refine lv_iload_n hF.1 hF.2.1 dX12_had_1 rfl (lv_at hl 1 rfl) ?_
  refine k_ci (r_V (As := [.int t]) hF hK hA hG (c_X12_areDrawers hS) (cwV 1 hF.2.2.2.2 gX12_had_X12_areDrawers rfl rfl rfl (by decide +kernel) ⟨Nat.le_of_ble_eq_true rfl, Nat.le_of_ble_eq_true rfl⟩) 0 rfl rfl rfl rfl hl.1 rfl (lv_room (Nat.le_of_ble_eq_true rfl)) dX12_had_2 ⟨Nat.le_of_ble_eq_true rfl, Nat.le_of_ble_eq_true rfl⟩) hG (fun r_2 u_2 H locs hp_2 hG => ?_)
  subst hp_2
  refine lv_if_eq (tgt := 16) hF.1 hF.2.1 dX12_had_5 (by decide) (fun c_5 => ?_) (fun c_5 => ?_)
  · --
    have n_5 : (inB (2 ^ n) t) = false := b2i_z.mp c_5
    refine lv_iconst (v := (-1)) hF.1 hF.2.1 dX12_had_16 (by decide +kernel) ?_
    exact hret _ _ _ ls _ _ _ _ (by first | exact spHad_t hn hj hp_10 | exact spHad_f n_5) (by first | rfl | exact nar_b2i _) hG (Nat.le_of_ble_eq_true rfl) (Nat.le_of_ble_eq_true rfl) dX12_had_17
  · --
    have n_5 : (inB (2 ^ n) t) = true := b2i_nz.mp c_5
    obtain ⟨j, hj, rfl⟩ := inB_ex (by omega) n_5
    refine lv_aload_n hF.1 hF.2.1 dX12_had_8 rfl (lv_at hl 0 rfl) ?_
    refine lv_iload_n hF.1 hF.2.1 dX12_had_9 rfl (lv_at hl 1 rfl) ?_
    refine k_ci (r_V (As := [.int (nI j)]) hF hK hA hG (c_X12_hadOf hS (by omega)) (cwV 1 hF.2.2.2.2 gX12_had_X12_hadOf rfl rfl rfl (by decide +kernel) ⟨Nat.le_of_ble_eq_true rfl, Nat.le_of_ble_eq_true rfl⟩) 0 rfl rfl rfl rfl hl.1 rfl (lv_room (Nat.le_of_ble_eq_true rfl)) dX12_had_10 ⟨Nat.le_of_ble_eq_true rfl, Nat.le_of_ble_eq_true rfl⟩) hG (fun r_10 u_10 H locs hp_10 hG => ?_)
    refine lv_goto (tgt := 17) hF.1 hF.2.1 dX12_had_13 (by decide) ?_
    exact hret _ _ _ ls _ _ _ _ (by first | exact spHad_t hn hj hp_10 | exact spHad_f n_5) (by first | rfl | exact nar_b2i _) hG (Nat.le_of_ble_eq_true rfl) (Nat.le_of_ble_eq_true rfl) dX12_had_17

abbrev rmX12_isJoiners : Room := { frames := 1, cells := 0, slots := 0, locals := 21 }
set_option maxHeartbeats 4000000 in
set_option maxRecDepth 100000 in
theorem c_X12_isJoiners {l : Launch} {D : va_G} {cA : Nat → ClassId} {A : Nat → Prop}  {ob : Nat → Nat} {aS aI aR aM aK aT aZ aE aD aF aN aP aH : Nat → Int32} {vH vT vP vB vE vS : Int32} {n o : Nat} {kd fg : Nat → Nat} (hS : SR aS n o kd fg) : Met l yX12_isJoiners wsX12_isJoiners rmX12_isJoiners (va_Pc [.ref (ob 0)] (Pre D cA A (MW cA ob aS aI aR aM aK aT aZ aE aD aF aN aP aH vH vT vP vB vE vS))) (va_Qi (fun r _ => r = b2i (joi n kd)) (fun u t => Wd D A ((fun (_ : Unit) => MW cA ob aS aI aR aM aK aT aZ aE aD aF aN aP aH vH vT vP vB vE vS) u) t) A) (0) (0) A := by
  refine k_ofi (S := Unit) (F := fun (_ : Unit) => MW cA ob aS aI aR aM aK aT aZ aE aD aF aN aP aH vH vT vP vB vE vS) (cc := cX12_isJoiners) (maxL := 2) (by decide) rfl (Nat.le_of_ble_eq_true rfl) ?_
  intro p e s m args below meth c Q hF hini hK hA hG hret ls hl
  have hl : lv_has ls 2 [(0, .ref (ob 0))] := hl
  have hn : n ≤ 6 := hS.2.2.1
  have ho : o < 64 := hS.o64
  refine lv_iconst (v := (nI 0)) hF.1 hF.2.1 dX12_isJoiners_0 (by decide +kernel) ?_
  refine lv_istore_n (lv' := [(1, .int (nI 0)), (0, .ref (ob 0))]) hF.1 hF.2.1 dX12_isJoiners_1 rfl hl (by decide) rfl (fun ls hl => ?_)
  have lp2 : ∀ (fuel : Nat), ∀ (j : Nat), (hj : j ≤ n) → (hz : ∀ i, i < j → kd i = 0) → (n - j) < fuel → ∀ (H : Heap) (locs : List Loc), Gd D A (MW cA ob aS aI aR aM aK aT aZ aE aD aF aN aP aH vH vT vP vB vE vS) s.heap H locs → ∀ ls : Array Slot, lv_has ls 2 [(0, .ref (ob 0)), (1, .int (nI j))] → W p l e rmX12_isJoiners s m args below meth c H locs (0) (0) Q (F0 m 2 ls []) := by
    intro fuel
    induction fuel with
    | zero => intro j hj hz hmu; exact absurd hmu (Nat.not_lt_zero _)
    | succ fuel ih2 =>
      intro j hj hz hmu H locs hG ls hl
      refine lv_iload_n hF.1 hF.2.1 dX12_isJoiners_2 rfl (lv_at hl 1 rfl) ?_
      refine lv_aload_n hF.1 hF.2.1 dX12_isJoiners_3 rfl (lv_at hl 0 rfl) ?_
      refine k_get (C := RX12) (T := TX12) (N := 19) hF hK hG (fun _ h => List.mem_cons_of_mem _ (List.mem_append_right _ h)) 0 rfl rfl 0 (by decide) (List.mem_of_getElem? (i := 1) rfl) (fun _ h9 => h9) rfl dX12_isJoiners_4 ?_
      refine lv_iconst (v := (nI 0)) hF.1 hF.2.1 dX12_isJoiners_7 (by decide +kernel) ?_
      refine k_ialdN hF hK hG 1 rfl (0) rfl (by omega) (by omega) dX12_isJoiners_8 ?_
      rw [hS.1]
      refine lv_icmp_ge (tgt := 28) hF.1 hF.2.1 dX12_isJoiners_9 (by decide) (fun c_9 => ?_) (fun c_9 => ?_)
      · --
        have n_9 : n ≤ j := (nI_leI (a := n) (b := j) (by omega) (by omega)).mp c_9
        refine lv_iconst (v := (nI 1)) hF.1 hF.2.1 dX12_isJoiners_28 (by decide +kernel) ?_
        exact hret _ () _ ls _ _ _ _ (by rw [joi_t (fun i h => hz i (by omega))]; rfl) (by first | rfl | exact nar_b2i _) hG (Nat.le_of_ble_eq_true rfl) (Nat.le_of_ble_eq_true rfl) dX12_isJoiners_29
      · --
        have n_9 : ¬ (n ≤ j) := fun zz9 => c_9 ((nI_leI (a := n) (b := j) (by omega) (by omega)).mpr zz9)
        refine lv_aload_n hF.1 hF.2.1 dX12_isJoiners_12 rfl (lv_at hl 0 rfl) ?_
        refine lv_iload_n hF.1 hF.2.1 dX12_isJoiners_13 rfl (lv_at hl 1 rfl) ?_
        refine k_ci (r_V (As := [.int (nI j)]) hF hK hA hG (c_X12_kind hS (by omega)) (cwV 1 hF.2.2.2.2 gX12_isJoiners_X12_kind rfl rfl rfl (by decide +kernel) ⟨Nat.le_of_ble_eq_true rfl, Nat.le_of_ble_eq_true rfl⟩) 0 rfl rfl rfl rfl hl.1 rfl (lv_room (Nat.le_of_ble_eq_true rfl)) dX12_isJoiners_14 ⟨Nat.le_of_ble_eq_true rfl, Nat.le_of_ble_eq_true rfl⟩) hG (fun r_14 u_14 H locs hp_14 hG => ?_)
        subst hp_14
        have hk8 := (hS.2.2.2.2 j (by omega)).2.2.1
        refine lv_if_eq (tgt := 22) hF.1 hF.2.1 dX12_isJoiners_17 (by decide) (fun c_17 => ?_) (fun c_17 => ?_)
        · --
          have n_17 : kd j = 0 := (nI_eq (a := kd j) (b := 0) (by omega) (by omega)).mp c_17
          refine lv_iinc (v := (nI (j + 1))) (lv' := [(1, .int (nI (j + 1))), (0, .ref (ob 0))]) hF.1 hF.2.1 dX12_isJoiners_22 hl (k := 1) rfl (nI_inc _ _) (by decide) rfl (fun ls hl => ?_)
          refine lv_goto (tgt := 2) hF.1 hF.2.1 dX12_isJoiners_25 (by decide) ?_
          exact ih2 (j + 1) (by omega) (lt_s hz n_17) (by omega) _ _ hG ls (lv_sub hl [1, 0] rfl)
        · --
          have n_17 : ¬ (kd j = 0) := fun zz9 => c_17 ((nI_eq (a := kd j) (b := 0) (by omega) (by omega)).mpr zz9)
          refine lv_iconst (v := (nI 0)) hF.1 hF.2.1 dX12_isJoiners_20 (by decide +kernel) ?_
          exact hret _ () _ ls _ _ _ _ (by rw [joi_f (show j < n by omega) n_17]; rfl) (by first | rfl | exact nar_b2i _) hG (Nat.le_of_ble_eq_true rfl) (Nat.le_of_ble_eq_true rfl) dX12_isJoiners_21
  exact lp2 _ (0) (by omega) (fun i h => absurd h (Nat.not_lt_zero i)) (Nat.lt_succ_self _) _ _ hG ls (lv_sub hl [1, 0] rfl)

abbrev rmX12_fewest : Room := { frames := 3, cells := 0, slots := 0, locals := 71 }
set_option maxHeartbeats 4000000 in
set_option maxRecDepth 100000 in
theorem c_X12_fewest {l : Launch} {D : va_G} {cA : Nat → ClassId} {A : Nat → Prop}  {ob : Nat → Nat} {aS aI aR aM aK aT aZ aE aD aF aN aP aH : Nat → Int32} {vH vT vP vB vE vS : Int32} {n o : Nat} {kd fg : Nat → Nat} (hS : SR aS n o kd fg) {f t : Int32} : Met l yX12_fewest wsX12_fewest rmX12_fewest (va_Pc [.ref (ob 0), .int f, .int t] (Pre D cA A (MW cA ob aS aI aR aM aK aT aZ aE aD aF aN aP aH vH vT vP vB vE vS))) (va_Qi (fun r (_ : Nat → Int32) => spFewest n kd fg f t r) (fun u t => Wd D A ((fun (u : Nat → Int32) => MW cA ob aS aI aR aM aK aT aZ aE aD aF aN u aH vH vT vP vB vE vS) u) t) A) (0) (0) A := by
  refine k_ofi (S := Nat → Int32) (F := fun (u : Nat → Int32) => MW cA ob aS aI aR aM aK aT aZ aE aD aF aN u aH vH vT vP vB vE vS) (cc := cX12_fewest) (maxL := 3) (by decide) rfl (Nat.le_of_ble_eq_true rfl) ?_
  intro p e s m args below meth c Q hF hini hK hA hG hret ls hl
  have hl : lv_has ls 3 [(0, .ref (ob 0)), (1, .int f), (2, .int t)] := hl
  have hn : n ≤ 6 := hS.2.2.1
  have ho : o < 64 := hS.o64
  have hp2 : 2 ^ n ≤ 64 := Nat.pow_le_pow_right (by decide) hn
  have hp1 : 1 ≤ 2 ^ n := Nat.one_le_two_pow
  refine lv_aload_n hF.1 hF.2.1 dX12_fewest_0 rfl (lv_at hl 0 rfl) ?_
  refine lv_iload_n hF.1 hF.2.1 dX12_fewest_1 rfl (lv_at hl 1 rfl) ?_
  refine k_ci (r_V (As := [.int f]) hF hK hA hG (c_X12_areDrawers hS) (cwV 1 hF.2.2.2.2 gX12_fewest_X12_areDrawers rfl rfl rfl (by decide +kernel) ⟨Nat.le_of_ble_eq_true rfl, Nat.le_of_ble_eq_true rfl⟩) 0 rfl rfl rfl rfl hl.1 rfl (lv_room (Nat.le_of_ble_eq_true rfl)) dX12_fewest_2 ⟨Nat.le_of_ble_eq_true rfl, Nat.le_of_ble_eq_true rfl⟩) hG (fun r_2 u_2 H locs hp_2 hG => ?_)
  subst hp_2
  refine lv_if_eq (tgt := 16) hF.1 hF.2.1 dX12_fewest_5 (by decide) (fun c_5 => ?_) (fun c_5 => ?_)
  · --
    have n_5 : (inB (2 ^ n) f) = false := b2i_z.mp c_5
    refine lv_iconst (v := (-1)) hF.1 hF.2.1 dX12_fewest_16 (by decide +kernel) ?_
    exact hret _ aP _ ls _ _ _ _ (by first | exact spFewest_f (Or.inl n_5) | exact spFewest_f (Or.inr n_13)) (by first | rfl | exact nar_b2i _) hG (Nat.le_of_ble_eq_true rfl) (Nat.le_of_ble_eq_true rfl) dX12_fewest_17
  · --
    have n_5 : (inB (2 ^ n) f) = true := b2i_nz.mp c_5
    obtain ⟨i, hi, rfl⟩ := inB_ex (by omega) n_5
    refine lv_aload_n hF.1 hF.2.1 dX12_fewest_8 rfl (lv_at hl 0 rfl) ?_
    refine lv_iload_n hF.1 hF.2.1 dX12_fewest_9 rfl (lv_at hl 2 rfl) ?_
    refine k_ci (r_V (As := [.int t]) hF hK hA hG (c_X12_areDrawers hS) (cwV 1 hF.2.2.2.2 gX12_fewest_X12_areDrawers rfl rfl rfl (by decide +kernel) ⟨Nat.le_of_ble_eq_true rfl, Nat.le_of_ble_eq_true rfl⟩) 0 rfl rfl rfl rfl hl.1 rfl (lv_room (Nat.le_of_ble_eq_true rfl)) dX12_fewest_10 ⟨Nat.le_of_ble_eq_true rfl, Nat.le_of_ble_eq_true rfl⟩) hG (fun r_10 u_10 H locs hp_10 hG => ?_)
    subst hp_10
    refine lv_if_ne (tgt := 18) hF.1 hF.2.1 dX12_fewest_13 (by decide) (fun c_13 => ?_) (fun c_13 => ?_)
    · --
      have n_13 : (inB (2 ^ n) t) = true := b2i_nz.mp c_13
      obtain ⟨j, hj, rfl⟩ := inB_ex (by omega) n_13
      refine lv_aload_n hF.1 hF.2.1 dX12_fewest_18 rfl (lv_at hl 0 rfl) ?_
      refine lv_iload_n hF.1 hF.2.1 dX12_fewest_19 rfl (lv_at hl 1 rfl) ?_
      refine k_cv (r_V (As := [.int (nI i)]) hF hK hA hG (c_X12_findsPulls hS hi) (cwV 1 hF.2.2.2.2 gX12_fewest_X12_findsPulls rfl rfl rfl (by decide +kernel) ⟨Nat.le_of_ble_eq_true rfl, Nat.le_of_ble_eq_true rfl⟩) 0 rfl rfl rfl rfl hl.1 rfl (lv_room (Nat.le_of_ble_eq_true rfl)) dX12_fewest_20 ⟨Nat.le_of_ble_eq_true rfl, Nat.le_of_ble_eq_true rfl⟩) hG (fun u_20 H locs hp_20 hG => ?_)
      refine lv_aload_n hF.1 hF.2.1 dX12_fewest_23 rfl (lv_at hl 0 rfl) ?_
      refine k_get (C := RX12) (T := TX12) (N := 19) hF hK hG (fun _ h => List.mem_cons_of_mem _ (List.mem_append_right _ h)) 0 rfl rfl 16 (by decide) (List.mem_of_getElem? (i := 1) rfl) (fun _ h9 => h9) rfl dX12_fewest_24 ?_
      refine lv_iload_n hF.1 hF.2.1 dX12_fewest_27 rfl (lv_at hl 2 rfl) ?_
      refine k_ialdN hF hK hG 12 rfl (j) rfl (by omega) (by omega) dX12_fewest_28 ?_
      exact hret _ u_20 _ ls _ _ _ _ (by exact spFewest_t hn hi hj (hp_20 j hj)) (by first | rfl | exact nar_b2i _) hG (Nat.le_of_ble_eq_true rfl) (Nat.le_of_ble_eq_true rfl) dX12_fewest_29
    · --
      have n_13 : (inB (2 ^ n) t) = false := b2i_z.mp c_13
      refine lv_iconst (v := (-1)) hF.1 hF.2.1 dX12_fewest_16 (by decide +kernel) ?_
      exact hret _ aP _ ls _ _ _ _ (by first | exact spFewest_f (Or.inl n_5) | exact spFewest_f (Or.inr n_13)) (by first | rfl | exact nar_b2i _) hG (Nat.le_of_ble_eq_true rfl) (Nat.le_of_ble_eq_true rfl) dX12_fewest_17

abbrev rmX12_place : Room := { frames := 3, cells := 0, slots := 0, locals := 71 }
set_option maxHeartbeats 4000000 in
set_option maxRecDepth 100000 in
theorem c_X12_place {l : Launch} {D : va_G} {cA : Nat → ClassId} {A : Nat → Prop}  {ob : Nat → Nat} {aS aI aR aM aK aT aZ aE aD aF aN aP aH : Nat → Int32} {vH vT vP vB vE vS : Int32} {n o : Nat} {kd fg : Nat → Nat} (hS : SR aS n o kd fg) {t : Int32} : Met l yX12_place wsX12_place rmX12_place (va_Pc [.ref (ob 0), .int t] (Pre D cA A (MW cA ob aS aI aR aM aK aT aZ aE aD aF aN aP aH vH vT vP vB vE vS))) (va_Qi (fun r (_ : Nat → Int32) => spPlace n kd fg t r) (fun u t => Wd D A ((fun (u : Nat → Int32) => MW cA ob aS aI aR aM aK aT aZ aE aD aF aN u aH vH vT vP vB vE vS) u) t) A) (0) (0) A := by
  refine k_ofi (S := Nat → Int32) (F := fun (u : Nat → Int32) => MW cA ob aS aI aR aM aK aT aZ aE aD aF aN u aH vH vT vP vB vE vS) (cc := cX12_place) (maxL := 2) (by decide) rfl (Nat.le_of_ble_eq_true rfl) ?_
  intro p e s m args below meth c Q hF hini hK hA hG hret ls hl
  have hl : lv_has ls 2 [(0, .ref (ob 0)), (1, .int t)] := hl
  have hn : n ≤ 6 := hS.2.2.1
  have ho : o < 64 := hS.o64
  have hp2 : 2 ^ n ≤ 64 := Nat.pow_le_pow_right (by decide) hn
  have hp1 : 1 ≤ 2 ^ n := Nat.one_le_two_pow
  refine lv_aload_n hF.1 hF.2.1 dX12_place_0 rfl (lv_at hl 0 rfl) ?_
  refine lv_iload_n hF.1 hF.2.1 dX12_place_1 rfl (lv_at hl 1 rfl) ?_
  refine k_ci (r_V (As := [.int t]) hF hK hA hG (c_X12_areDrawers hS) (cwV 1 hF.2.2.2.2 gX12_place_X12_areDrawers rfl rfl rfl (by decide +kernel) ⟨Nat.le_of_ble_eq_true rfl, Nat.le_of_ble_eq_true rfl⟩) 0 rfl rfl rfl rfl hl.1 rfl (lv_room (Nat.le_of_ble_eq_true rfl)) dX12_place_2 ⟨Nat.le_of_ble_eq_true rfl, Nat.le_of_ble_eq_true rfl⟩) hG (fun r_2 u_2 H locs hp_2 hG => ?_)
  subst hp_2
  refine lv_if_ne (tgt := 10) hF.1 hF.2.1 dX12_place_5 (by decide) (fun c_5 => ?_) (fun c_5 => ?_)
  · --
    have n_5 : (inB (2 ^ n) t) = true := b2i_nz.mp c_5
    obtain ⟨j, hj, rfl⟩ := inB_ex (by omega) n_5
    refine lv_aload_n hF.1 hF.2.1 dX12_place_10 rfl (lv_at hl 0 rfl) ?_
    refine k_ci (r_V (As := []) hF hK hA hG (c_X12_isJoiners hS) (cwV 0 hF.2.2.2.2 gX12_place_X12_isJoiners rfl rfl rfl (by decide +kernel) ⟨Nat.le_of_ble_eq_true rfl, Nat.le_of_ble_eq_true rfl⟩) 0 rfl rfl rfl rfl hl.1 rfl (lv_room (Nat.le_of_ble_eq_true rfl)) dX12_place_11 ⟨Nat.le_of_ble_eq_true rfl, Nat.le_of_ble_eq_true rfl⟩) hG (fun r_11 u_11 H locs hp_11 hG => ?_)
    subst hp_11
    refine lv_if_ne (tgt := 20) hF.1 hF.2.1 dX12_place_14 (by decide) (fun c_14 => ?_) (fun c_14 => ?_)
    · --
      have n_14 : (joi n kd) = true := b2i_nz.mp c_14
      refine lv_aload_n hF.1 hF.2.1 dX12_place_20 rfl (lv_at hl 0 rfl) ?_
      refine lv_aload_n hF.1 hF.2.1 dX12_place_21 rfl (lv_at hl 0 rfl) ?_
      refine k_ci (r_V (As := []) hF hK hA hG (c_X12_everything hS) (cwV 0 hF.2.2.2.2 gX12_place_X12_everything rfl rfl rfl (by decide +kernel) ⟨Nat.le_of_ble_eq_true rfl, Nat.le_of_ble_eq_true rfl⟩) 0 rfl rfl rfl rfl hl.1 rfl (lv_room (Nat.le_of_ble_eq_true rfl)) dX12_place_22 ⟨Nat.le_of_ble_eq_true rfl, Nat.le_of_ble_eq_true rfl⟩) hG (fun r_22 u_22 H locs hp_22 hG => ?_)
      subst hp_22
      refine k_cv (r_V (As := [.int (nI (2 ^ n - 1))]) hF hK hA hG (c_X12_findsPulls hS (show 2 ^ n - 1 < 2 ^ n by omega)) (cwV 1 hF.2.2.2.2 gX12_place_X12_findsPulls rfl rfl rfl (by decide +kernel) ⟨Nat.le_of_ble_eq_true rfl, Nat.le_of_ble_eq_true rfl⟩) 0 rfl rfl rfl rfl hl.1 rfl (lv_room (Nat.le_of_ble_eq_true rfl)) dX12_place_25 ⟨Nat.le_of_ble_eq_true rfl, Nat.le_of_ble_eq_true rfl⟩) hG (fun u_25 H locs hp_25 hG => ?_)
      refine lv_aload_n hF.1 hF.2.1 dX12_place_28 rfl (lv_at hl 0 rfl) ?_
      refine k_get (C := RX12) (T := TX12) (N := 19) hF hK hG (fun _ h => List.mem_cons_of_mem _ (List.mem_append_right _ h)) 0 rfl rfl 16 (by decide) (List.mem_of_getElem? (i := 1) rfl) (fun _ h9 => h9) rfl dX12_place_29 ?_
      refine lv_iload_n hF.1 hF.2.1 dX12_place_32 rfl (lv_at hl 1 rfl) ?_
      refine k_ialdN hF hK hG 12 rfl (j) rfl (by omega) (by omega) dX12_place_33 ?_
      exact hret _ u_25 _ ls _ _ _ _ (by unfold spPlace; rw [if_pos (inB_j (by omega) hj), if_pos n_14, nI_clamp (by omega)]; exact hp_25 j hj) (by first | rfl | exact nar_b2i _) hG (Nat.le_of_ble_eq_true rfl) (Nat.le_of_ble_eq_true rfl) dX12_place_34
    · --
      have n_14 : (joi n kd) = false := b2i_z.mp c_14
      refine lv_bipush (v := (-3)) hF.1 hF.2.1 dX12_place_17 (by decide +kernel) ?_
      exact hret _ aP _ ls _ _ _ _ (by unfold spPlace; rw [if_pos (inB_j (by omega) hj), n_14]; rfl) (by first | rfl | exact nar_b2i _) hG (Nat.le_of_ble_eq_true rfl) (Nat.le_of_ble_eq_true rfl) dX12_place_19
  · --
    have n_5 : (inB (2 ^ n) t) = false := b2i_z.mp c_5
    refine lv_iconst (v := (-1)) hF.1 hF.2.1 dX12_place_8 (by decide +kernel) ?_
    exact hret _ aP _ ls _ _ _ _ (by unfold spPlace; rw [n_5]; rfl) (by first | rfl | exact nar_b2i _) hG (Nat.le_of_ble_eq_true rfl) (Nat.le_of_ble_eq_true rfl) dX12_place_9
