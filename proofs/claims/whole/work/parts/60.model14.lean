abbrev rmX12_element : Room := { frames := 2, cells := 0, slots := 0, locals := 45 }
set_option maxHeartbeats 4000000 in
set_option maxRecDepth 100000 in
theorem c_X12_element {l : Launch} {D : va_G} {cA : Nat → ClassId} {A : Nat → Prop}  {ob : Nat → Nat} {aS aI aR aM aK aT aZ aE aD aF aN aP aH : Nat → Int32} {vH vT vP vB vE vS : Int32} {x : Nat → Sf} (hXF : ∀ d, d < 8 → SF aK aT aZ aE aD aF d (x d)) {d i : Int32} : Met l yX12_element wsX12_element rmX12_element (va_Pc [.ref (ob 0), .int d, .int i] (Pre D cA A (MW cA ob aS aI aR aM aK aT aZ aE aD aF aN aP aH vH vT vP vB vE vS))) (va_Ql (fun r (u : Int32) => (u = nI 1 ∧ sfA x d = none) ∨ (u = nI 2 ∧ ∃ y, sfA x d = some y ∧ ∀ z, y = some (.inr z) → inB z.2.1 i = false) ∨ (u = nI 0 ∧ ∃ (z : Nat × Nat × (Nat → Int32)) (k : Nat), sfA x d = some (some (.inr z)) ∧ k < z.2.1 ∧ i = nI k ∧ r = (z.2.2 k).toInt64)) (fun u t => Wd D A ((fun (u : Int32) => MW cA ob aS aI aR aM aK aT aZ aE aD aF aN aP aH vH u vP vB vE vS) u) t) A) (0) (0) A := by
  refine k_ofl (S := Int32) (F := fun (u : Int32) => MW cA ob aS aI aR aM aK aT aZ aE aD aF aN aP aH vH u vP vB vE vS) (cc := cX12_element) (maxL := 3) (by decide) rfl (Nat.le_of_ble_eq_true rfl) ?_
  intro p e s m args below meth c Q hF hini hK hA hG hret ls hl
  have hl : lv_has ls 3 [(0, .ref (ob 0)), (1, .int d), (2, .int i)] := hl
  refine lv_aload_n hF.1 hF.2.1 dX12_element_0 rfl (lv_at hl 0 rfl) ?_
  refine lv_iload_n hF.1 hF.2.1 dX12_element_1 rfl (lv_at hl 1 rfl) ?_
  refine k_ci (r_S (As := [.int d]) hF hK hA hG (c_X12_isShelf) (cwS 1 hF.2.2.2.2 gX12_element_X12_isShelf rfl rfl rfl (by decide +kernel) ⟨Nat.le_of_ble_eq_true rfl, Nat.le_of_ble_eq_true rfl⟩) rfl hl.1 rfl (lv_room (Nat.le_of_ble_eq_true rfl)) dX12_element_2 ⟨Nat.le_of_ble_eq_true rfl, Nat.le_of_ble_eq_true rfl⟩) hG (fun r_2 u_2 H locs hp_2 hG => ?_)
  subst hp_2
  refine lv_if_ne (tgt := 12) hF.1 hF.2.1 dX12_element_5 (by decide) (fun c_5 => ?_) (fun c_5 => ?_)
  · --
    have n_5 : (inB 8 d) = true := b2i_nz.mp c_5
    obtain ⟨j, hj, rfl⟩ := inB_ex (by omega) n_5
    refine lv_aload_n hF.1 hF.2.1 dX12_element_12 rfl (lv_at hl 0 rfl) ?_
    refine k_get (C := RX12) (T := TX12) (N := 19) hF hK hG (fun _ h => List.mem_cons_of_mem _ (List.mem_append_right _ h)) 0 rfl rfl 4 (by decide) (List.mem_of_getElem? (i := 1) rfl) (fun _ h9 => h9) rfl dX12_element_13 ?_
    refine lv_iload_n hF.1 hF.2.1 dX12_element_16 rfl (lv_at hl 1 rfl) ?_
    refine k_ialdN hF hK hG 5 rfl (j) rfl (by omega) (by omega) dX12_element_17 ?_
    refine lv_iconst (v := (nI 2)) hF.1 hF.2.1 dX12_element_18 (by decide +kernel) ?_
    refine lv_icmp_ne (tgt := 40) hF.1 hF.2.1 dX12_element_19 (by decide) (fun c_19 => ?_) (fun c_19 => ?_)
    · --
      refine lv_iconst (v := (nI 2)) hF.1 hF.2.1 dX12_element_40 (by decide +kernel) ?_
      refine lv_goto (tgt := 45) hF.1 hF.2.1 dX12_element_41 (by decide) ?_
      refine k_put (C := RX12) (T := TX12) (N := 19) hF hK hG (fun _ h => List.mem_cons_of_mem _ (List.mem_append_right _ h)) tyX12 tyX12_ok nmX12 0 rfl rfl 11 (by decide) (List.mem_of_getElem? (i := 3) rfl) (fun _ h9 => h9) rfl rfl rfl (Nat.le_of_ble_eq_true rfl) dX12_element_45 (fun H locs hG => ?_)
      refine lv_aload_n hF.1 hF.2.1 dX12_element_48 rfl (lv_at hl 0 rfl) ?_
      refine k_get (C := RX12) (T := TX12) (N := 19) hF hK hG (fun _ h => List.mem_cons_of_mem _ (List.mem_append_right _ h)) 0 rfl rfl 11 (by decide) (List.mem_of_getElem? (i := 3) rfl) (fun _ h9 => h9) rfl dX12_element_49 ?_
      refine lv_if_ne (tgt := 70) hF.1 hF.2.1 dX12_element_52 (by decide) (fun c_52 => ?_) (fun c_52 => ?_)
      · --
        have n_52 : ¬ (2 = 0) := fun zz9 => c_52 ((nI_eq (a := 2) (b := 0) (by omega) (by omega)).mpr zz9)
        refine lv_lconst (v := 0) hF.1 hF.2.1 dX12_element_70 (by decide +kernel) ?_
        exact hret _ _ _ ls _ _ _ _ (by first | exact Or.inl ⟨rfl, sfA_f x n_5⟩ | exact Or.inr (Or.inl ⟨rfl, x j, sfA_j x hj, fun z hz => absurd (sf_r (hXF j hj) hz).1 c_19⟩) | exact Or.inr (Or.inl ⟨rfl, x j, sfA_j x hj, fun y hy => by rw [hx] at hy; cases hy; exact n_37⟩) | exact Or.inr (Or.inr ⟨rfl, z, k, by rw [sfA_j x hj, hx], hk, rfl, rfl⟩)) hG (Nat.le_of_ble_eq_true rfl) (Nat.le_of_ble_eq_true rfl) dX12_element_71
      · --
        have n_52 : 2 = 0 := (nI_eq (a := 2) (b := 0) (by omega) (by omega)).mp c_52
        exact absurd n_52 (by decide)
    · --
      obtain ⟨z, hx, -, -⟩ := sf_2 (hXF j hj) c_19
      obtain ⟨f1, f2, f3, f4, f5, f6⟩ := sf_r (hXF j hj) hx
      refine lv_iload_n hF.1 hF.2.1 dX12_element_22 rfl (lv_at hl 2 rfl) ?_
      refine lv_i2l hF.1 hF.2.1 dX12_element_23 rfl ?_
      refine lv_lconst (v := 0) hF.1 hF.2.1 dX12_element_24 (by decide +kernel) ?_
      refine lv_aload_n hF.1 hF.2.1 dX12_element_25 rfl (lv_at hl 0 rfl) ?_
      refine k_get (C := RX12) (T := TX12) (N := 19) hF hK hG (fun _ h => List.mem_cons_of_mem _ (List.mem_append_right _ h)) 0 rfl rfl 6 (by decide) (List.mem_of_getElem? (i := 2) rfl) (fun _ h9 => h9) rfl dX12_element_26 ?_
      refine lv_iload_n hF.1 hF.2.1 dX12_element_29 rfl (lv_at hl 1 rfl) ?_
      refine k_ialdN hF hK hG 7 rfl (j) rfl (by omega) (by omega) dX12_element_30 ?_
      rw [f3]
      refine lv_iconst (v := (nI 1)) hF.1 hF.2.1 dX12_element_31 (by decide +kernel) ?_
      refine lv_isub hF.1 hF.2.1 dX12_element_32 ?_
      refine lv_i2l hF.1 hF.2.1 dX12_element_33 rfl ?_
      refine k_ci (r_S (As := [.long (i.toInt64), .long (0), .long (((nI (z.2.1)) - (nI 1)).toInt64)]) hF hK hA hG (c_X12_isIn) (cwS 3 hF.2.2.2.2 gX12_element_X12_isIn rfl rfl rfl (by decide +kernel) ⟨Nat.le_of_ble_eq_true rfl, Nat.le_of_ble_eq_true rfl⟩) rfl hl.1 rfl (lv_room (Nat.le_of_ble_eq_true rfl)) dX12_element_34 ⟨Nat.le_of_ble_eq_true rfl, Nat.le_of_ble_eq_true rfl⟩) hG (fun r_34 u_34 H locs hp_34 hG => ?_)
      rw [inL (n := z.2.1) (by omega) (m1_100 (by omega))] at hp_34
      subst hp_34
      refine lv_if_ne (tgt := 44) hF.1 hF.2.1 dX12_element_37 (by decide) (fun c_37 => ?_) (fun c_37 => ?_)
      · --
        have n_37 := b2i_nz.mp c_37
        obtain ⟨k, hk, rfl⟩ := inB_ex (by omega) n_37
        refine lv_iconst (v := (nI 0)) hF.1 hF.2.1 dX12_element_44 (by decide +kernel) ?_
        refine k_put (C := RX12) (T := TX12) (N := 19) hF hK hG (fun _ h => List.mem_cons_of_mem _ (List.mem_append_right _ h)) tyX12 tyX12_ok nmX12 0 rfl rfl 11 (by decide) (List.mem_of_getElem? (i := 3) rfl) (fun _ h9 => h9) rfl rfl rfl (Nat.le_of_ble_eq_true rfl) dX12_element_45 (fun H locs hG => ?_)
        refine lv_aload_n hF.1 hF.2.1 dX12_element_48 rfl (lv_at hl 0 rfl) ?_
        refine k_get (C := RX12) (T := TX12) (N := 19) hF hK hG (fun _ h => List.mem_cons_of_mem _ (List.mem_append_right _ h)) 0 rfl rfl 11 (by decide) (List.mem_of_getElem? (i := 3) rfl) (fun _ h9 => h9) rfl dX12_element_49 ?_
        refine lv_if_ne (tgt := 70) hF.1 hF.2.1 dX12_element_52 (by decide) (fun c_52 => ?_) (fun c_52 => ?_)
        · --
          have n_52 : ¬ (0 = 0) := fun zz9 => c_52 ((nI_eq (a := 0) (b := 0) (by omega) (by omega)).mpr zz9)
          exact absurd rfl n_52
        · --
          have n_52 : 0 = 0 := (nI_eq (a := 0) (b := 0) (by omega) (by omega)).mp c_52
          refine lv_aload_n hF.1 hF.2.1 dX12_element_55 rfl (lv_at hl 0 rfl) ?_
          refine k_get (C := RX12) (T := TX12) (N := 19) hF hK hG (fun _ h => List.mem_cons_of_mem _ (List.mem_append_right _ h)) 0 rfl rfl 7 (by decide) (List.mem_of_getElem? (i := 4) rfl) (fun _ h9 => h9) rfl dX12_element_56 ?_
          refine lv_bipush (v := (nI 100)) hF.1 hF.2.1 dX12_element_59 (by decide +kernel) ?_
          refine lv_iload_n hF.1 hF.2.1 dX12_element_61 rfl (lv_at hl 1 rfl) ?_
          refine lv_imul hF.1 hF.2.1 dX12_element_62 ?_
          rw [pk_mul]
          refine lv_iload_n hF.1 hF.2.1 dX12_element_63 rfl (lv_at hl 2 rfl) ?_
          refine lv_iadd hF.1 hF.2.1 dX12_element_64 ?_
          rw [nI_add]
          refine k_ialdN hF hK hG 8 rfl ((100) * (j) + k) rfl (by omega) (by omega) dX12_element_65 ?_
          rw [f6 k hk]
          refine lv_i2l hF.1 hF.2.1 dX12_element_66 rfl ?_
          refine lv_goto (tgt := 71) hF.1 hF.2.1 dX12_element_67 (by decide) ?_
          exact hret _ _ _ ls _ _ _ _ (by first | exact Or.inl ⟨rfl, sfA_f x n_5⟩ | exact Or.inr (Or.inl ⟨rfl, x j, sfA_j x hj, fun z hz => absurd (sf_r (hXF j hj) hz).1 c_19⟩) | exact Or.inr (Or.inl ⟨rfl, x j, sfA_j x hj, fun y hy => by rw [hx] at hy; cases hy; exact n_37⟩) | exact Or.inr (Or.inr ⟨rfl, z, k, by rw [sfA_j x hj, hx], hk, rfl, rfl⟩)) hG (Nat.le_of_ble_eq_true rfl) (Nat.le_of_ble_eq_true rfl) dX12_element_71
      · --
        have n_37 := b2i_z.mp c_37
        refine lv_iconst (v := (nI 2)) hF.1 hF.2.1 dX12_element_40 (by decide +kernel) ?_
        refine lv_goto (tgt := 45) hF.1 hF.2.1 dX12_element_41 (by decide) ?_
        refine k_put (C := RX12) (T := TX12) (N := 19) hF hK hG (fun _ h => List.mem_cons_of_mem _ (List.mem_append_right _ h)) tyX12 tyX12_ok nmX12 0 rfl rfl 11 (by decide) (List.mem_of_getElem? (i := 3) rfl) (fun _ h9 => h9) rfl rfl rfl (Nat.le_of_ble_eq_true rfl) dX12_element_45 (fun H locs hG => ?_)
        refine lv_aload_n hF.1 hF.2.1 dX12_element_48 rfl (lv_at hl 0 rfl) ?_
        refine k_get (C := RX12) (T := TX12) (N := 19) hF hK hG (fun _ h => List.mem_cons_of_mem _ (List.mem_append_right _ h)) 0 rfl rfl 11 (by decide) (List.mem_of_getElem? (i := 3) rfl) (fun _ h9 => h9) rfl dX12_element_49 ?_
        refine lv_if_ne (tgt := 70) hF.1 hF.2.1 dX12_element_52 (by decide) (fun c_52 => ?_) (fun c_52 => ?_)
        · --
          have n_52 : ¬ (2 = 0) := fun zz9 => c_52 ((nI_eq (a := 2) (b := 0) (by omega) (by omega)).mpr zz9)
          refine lv_lconst (v := 0) hF.1 hF.2.1 dX12_element_70 (by decide +kernel) ?_
          exact hret _ _ _ ls _ _ _ _ (by first | exact Or.inl ⟨rfl, sfA_f x n_5⟩ | exact Or.inr (Or.inl ⟨rfl, x j, sfA_j x hj, fun z hz => absurd (sf_r (hXF j hj) hz).1 c_19⟩) | exact Or.inr (Or.inl ⟨rfl, x j, sfA_j x hj, fun y hy => by rw [hx] at hy; cases hy; exact n_37⟩) | exact Or.inr (Or.inr ⟨rfl, z, k, by rw [sfA_j x hj, hx], hk, rfl, rfl⟩)) hG (Nat.le_of_ble_eq_true rfl) (Nat.le_of_ble_eq_true rfl) dX12_element_71
        · --
          have n_52 : 2 = 0 := (nI_eq (a := 2) (b := 0) (by omega) (by omega)).mp c_52
          exact absurd n_52 (by decide)
  · --
    have n_5 : (inB 8 d) = false := b2i_z.mp c_5
    refine lv_iconst (v := (nI 1)) hF.1 hF.2.1 dX12_element_8 (by decide +kernel) ?_
    refine lv_goto (tgt := 45) hF.1 hF.2.1 dX12_element_9 (by decide) ?_
    refine k_put (C := RX12) (T := TX12) (N := 19) hF hK hG (fun _ h => List.mem_cons_of_mem _ (List.mem_append_right _ h)) tyX12 tyX12_ok nmX12 0 rfl rfl 11 (by decide) (List.mem_of_getElem? (i := 3) rfl) (fun _ h9 => h9) rfl rfl rfl (Nat.le_of_ble_eq_true rfl) dX12_element_45 (fun H locs hG => ?_)
    refine lv_aload_n hF.1 hF.2.1 dX12_element_48 rfl (lv_at hl 0 rfl) ?_
    refine k_get (C := RX12) (T := TX12) (N := 19) hF hK hG (fun _ h => List.mem_cons_of_mem _ (List.mem_append_right _ h)) 0 rfl rfl 11 (by decide) (List.mem_of_getElem? (i := 3) rfl) (fun _ h9 => h9) rfl dX12_element_49 ?_
    refine lv_if_ne (tgt := 70) hF.1 hF.2.1 dX12_element_52 (by decide) (fun c_52 => ?_) (fun c_52 => ?_)
    · --
      have n_52 : ¬ (1 = 0) := fun zz9 => c_52 ((nI_eq (a := 1) (b := 0) (by omega) (by omega)).mpr zz9)
      refine lv_lconst (v := 0) hF.1 hF.2.1 dX12_element_70 (by decide +kernel) ?_
      exact hret _ _ _ ls _ _ _ _ (by first | exact Or.inl ⟨rfl, sfA_f x n_5⟩ | exact Or.inr (Or.inl ⟨rfl, x j, sfA_j x hj, fun z hz => absurd (sf_r (hXF j hj) hz).1 c_19⟩) | exact Or.inr (Or.inl ⟨rfl, x j, sfA_j x hj, fun y hy => by rw [hx] at hy; cases hy; exact n_37⟩) | exact Or.inr (Or.inr ⟨rfl, z, k, by rw [sfA_j x hj, hx], hk, rfl, rfl⟩)) hG (Nat.le_of_ble_eq_true rfl) (Nat.le_of_ble_eq_true rfl) dX12_element_71
    · --
      have n_52 : 1 = 0 := (nI_eq (a := 1) (b := 0) (by omega) (by omega)).mp c_52
      exact absurd n_52 (by decide)
