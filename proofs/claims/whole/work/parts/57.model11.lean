abbrev rmX12_game : Room := { frames := 7, cells := 0, slots := 0, locals := 176 }
set_option maxHeartbeats 4000000 in
set_option maxRecDepth 100000 in
theorem c_X12_game {l : Launch} {D : va_G} {cA : Nat → ClassId} {A : Nat → Prop}  {ob : Nat → Nat} {aS aI aR aM aK aT aZ aE aD aF aN aP aH : Nat → Int32} {vH vT vP vB vE vS : Int32} {n o : Nat} {kd fg : Nat → Nat} (hS : SR aS n o kd fg) {d t : Int32} : Met l yX12_game wsX12_game rmX12_game (va_Pc [.ref (ob 0), .int d, .int t] (Pre D cA A (MW cA ob aS aI aR aM aK aT aZ aE aD aF aN aP aH vH vT vP vB vE vS))) (va_Qi (fun r _ => r = spGame n o kd fg d t) (fun u t => Wd D A ((fun (_ : Unit) => MW cA ob aS aI aR aM aK aT aZ aE aD aF aN aP aH vH vT vP vB vE vS) u) t) A) (0) (0) A := by
  refine k_ofi (S := Unit) (F := fun (_ : Unit) => MW cA ob aS aI aR aM aK aT aZ aE aD aF aN aP aH vH vT vP vB vE vS) (cc := cX12_game) (maxL := 3) (by decide) rfl (Nat.le_of_ble_eq_true rfl) ?_
  intro p e s m args below meth c Q hF hini hK hA hG hret ls hl
  have hl : lv_has ls 3 [(0, .ref (ob 0)), (1, .int d), (2, .int t)] := hl
  have hn : n ≤ 6 := hS.2.2.1
  have ho : o < 64 := hS.o64
  have hp2 : 2 ^ n ≤ 64 := Nat.pow_le_pow_right (by decide) hn
  have hp1 : 1 ≤ 2 ^ n := Nat.one_le_two_pow
  refine lv_aload_n hF.1 hF.2.1 dX12_game_0 rfl (lv_at hl 0 rfl) ?_
  refine lv_iload_n hF.1 hF.2.1 dX12_game_1 rfl (lv_at hl 1 rfl) ?_
  refine k_ci (r_V (As := [.int d]) hF hK hA hG (c_X12_isDrawer hS) (cwV 1 hF.2.2.2.2 gX12_game_X12_isDrawer rfl rfl rfl (by decide +kernel) ⟨Nat.le_of_ble_eq_true rfl, Nat.le_of_ble_eq_true rfl⟩) 0 rfl rfl rfl rfl hl.1 rfl (lv_room (Nat.le_of_ble_eq_true rfl)) dX12_game_2 ⟨Nat.le_of_ble_eq_true rfl, Nat.le_of_ble_eq_true rfl⟩) hG (fun r_2 u_2 H locs hp_2 hG => ?_)
  subst hp_2
  refine lv_if_eq (tgt := 20) hF.1 hF.2.1 dX12_game_5 (by decide) (fun c_5 => ?_) (fun c_5 => ?_)
  · --
    have n_5 : (inB n d) = false := b2i_z.mp c_5
    refine lv_iconst (v := (-1)) hF.1 hF.2.1 dX12_game_20 (by decide +kernel) ?_
    refine lv_goto (tgt := 45) hF.1 hF.2.1 dX12_game_21 (by decide) ?_
    exact hret _ () _ ls _ _ _ _ (by first | (unfold spGame; rw [n_5]; rfl) | (unfold spGame; rw [n_17, Bool.and_false]; rfl) | (unfold spGame; rw [inB_j (by omega) hj, inB_j (by omega) hk, nI_clamp (by omega), nI_clamp (by omega), n_37]; rfl)) (by first | rfl | exact nar_b2i _) hG (Nat.le_of_ble_eq_true rfl) (Nat.le_of_ble_eq_true rfl) dX12_game_45
  · --
    have n_5 : (inB n d) = true := b2i_nz.mp c_5
    obtain ⟨j, hj, rfl⟩ := inB_ex (by omega) n_5
    refine lv_iload_n hF.1 hF.2.1 dX12_game_8 rfl (lv_at hl 2 rfl) ?_
    refine lv_i2l hF.1 hF.2.1 dX12_game_9 rfl ?_
    refine lv_lconst (v := 0) hF.1 hF.2.1 dX12_game_10 (by decide +kernel) ?_
    refine lv_ldc2 hF.1 hF.2.1 (own := RX12) hF.2.2.2.1 (hF.2.2.2.2 _ (List.mem_of_getElem? (i := 1) rfl)) dX12_game_11 ?_
    refine k_ci (r_S (As := [.long (t.toInt64), .long (0), .long (5)]) hF hK hA hG (c_X12_isIn) (cwS 3 hF.2.2.2.2 gX12_game_X12_isIn rfl rfl rfl (by decide +kernel) ⟨Nat.le_of_ble_eq_true rfl, Nat.le_of_ble_eq_true rfl⟩) rfl hl.1 rfl (lv_room (Nat.le_of_ble_eq_true rfl)) dX12_game_14 ⟨Nat.le_of_ble_eq_true rfl, Nat.le_of_ble_eq_true rfl⟩) hG (fun r_14 u_14 H locs hp_14 hG => ?_)
    rw [inL (n := 6) (by omega) (by decide +kernel)] at hp_14
    subst hp_14
    refine lv_if_ne (tgt := 24) hF.1 hF.2.1 dX12_game_17 (by decide) (fun c_17 => ?_) (fun c_17 => ?_)
    · --
      have n_17 := b2i_nz.mp c_17
      obtain ⟨k, hk, rfl⟩ := inB_ex (by omega) n_17
      rcases (show k = 0 ∨ k = 1 ∨ k = 2 ∨ k = 3 ∨ k = 4 ∨ k = 5 by omega) with rfl | rfl | rfl | rfl | rfl | rfl
      · --
        refine lv_aload_n hF.1 hF.2.1 dX12_game_24 rfl (lv_at hl 0 rfl) ?_
        refine lv_iload_n hF.1 hF.2.1 dX12_game_25 rfl (lv_at hl 1 rfl) ?_
        refine lv_aload_n hF.1 hF.2.1 dX12_game_26 rfl (lv_at hl 0 rfl) ?_
        refine k_get (C := RX12) (T := TX12) (N := 19) hF hK hG (fun _ h => List.mem_cons_of_mem _ (List.mem_append_right _ h)) 0 rfl rfl 0 (by decide) (List.mem_of_getElem? (i := 2) rfl) (fun _ h9 => h9) rfl dX12_game_27 ?_
        refine lv_iconst (v := (nI 1)) hF.1 hF.2.1 dX12_game_30 (by decide +kernel) ?_
        refine k_ialdN hF hK hG 1 rfl (1) rfl (by omega) (by omega) dX12_game_31 ?_
        rw [hS.2.1]
        refine lv_iload_n hF.1 hF.2.1 dX12_game_32 rfl (lv_at hl 2 rfl) ?_
        refine lv_iconst (v := (nI 1)) hF.1 hF.2.1 dX12_game_33 (by decide +kernel) ?_
        refine k_ci (r_V (As := [.int (nI j), .int (nI o), .int (nI 0), .int (nI 1)]) hF hK hA hG (c_X12_canHave_0 (mine := true) hS hj hS.2.2.2.1) (cwV 4 hF.2.2.2.2 gX12_game_X12_canHave rfl rfl rfl (by decide +kernel) ⟨Nat.le_of_ble_eq_true rfl, Nat.le_of_ble_eq_true rfl⟩) 0 rfl rfl rfl rfl hl.1 rfl (lv_room (Nat.le_of_ble_eq_true rfl)) dX12_game_34 ⟨Nat.le_of_ble_eq_true rfl, Nat.le_of_ble_eq_true rfl⟩) hG (fun r_34 u_34 H locs hp_34 hG => ?_)
        subst hp_34
        refine lv_if_eq (tgt := 44) hF.1 hF.2.1 dX12_game_37 (by decide) (fun c_37 => ?_) (fun c_37 => ?_)
        · --
          have n_37 : (canU n kd fg j 0 o true) = false := b2i_z.mp c_37
          refine lv_iconst (v := (nI 0)) hF.1 hF.2.1 dX12_game_44 (by decide +kernel) ?_
          exact hret _ () _ ls _ _ _ _ (by first | (unfold spGame; rw [n_5]; rfl) | (unfold spGame; rw [n_17, Bool.and_false]; rfl) | (unfold spGame; rw [inB_j (by omega) hj, inB_j (by omega) hk, nI_clamp (by omega), nI_clamp (by omega), n_37]; rfl)) (by first | rfl | exact nar_b2i _) hG (Nat.le_of_ble_eq_true rfl) (Nat.le_of_ble_eq_true rfl) dX12_game_45
        · --
          have n_37 : (canU n kd fg j 0 o true) = true := b2i_nz.mp c_37
          refine lv_iconst (v := (nI 1)) hF.1 hF.2.1 dX12_game_40 (by decide +kernel) ?_
          refine lv_goto (tgt := 45) hF.1 hF.2.1 dX12_game_41 (by decide) ?_
          exact hret _ () _ ls _ _ _ _ (by first | (unfold spGame; rw [n_5]; rfl) | (unfold spGame; rw [n_17, Bool.and_false]; rfl) | (unfold spGame; rw [inB_j (by omega) hj, inB_j (by omega) hk, nI_clamp (by omega), nI_clamp (by omega), n_37]; rfl)) (by first | rfl | exact nar_b2i _) hG (Nat.le_of_ble_eq_true rfl) (Nat.le_of_ble_eq_true rfl) dX12_game_45
      · --
        refine lv_aload_n hF.1 hF.2.1 dX12_game_24 rfl (lv_at hl 0 rfl) ?_
        refine lv_iload_n hF.1 hF.2.1 dX12_game_25 rfl (lv_at hl 1 rfl) ?_
        refine lv_aload_n hF.1 hF.2.1 dX12_game_26 rfl (lv_at hl 0 rfl) ?_
        refine k_get (C := RX12) (T := TX12) (N := 19) hF hK hG (fun _ h => List.mem_cons_of_mem _ (List.mem_append_right _ h)) 0 rfl rfl 0 (by decide) (List.mem_of_getElem? (i := 2) rfl) (fun _ h9 => h9) rfl dX12_game_27 ?_
        refine lv_iconst (v := (nI 1)) hF.1 hF.2.1 dX12_game_30 (by decide +kernel) ?_
        refine k_ialdN hF hK hG 1 rfl (1) rfl (by omega) (by omega) dX12_game_31 ?_
        rw [hS.2.1]
        refine lv_iload_n hF.1 hF.2.1 dX12_game_32 rfl (lv_at hl 2 rfl) ?_
        refine lv_iconst (v := (nI 1)) hF.1 hF.2.1 dX12_game_33 (by decide +kernel) ?_
        refine k_ci (r_V (As := [.int (nI j), .int (nI o), .int (nI 1), .int (nI 1)]) hF hK hA hG (c_X12_canHave_1 (mine := true) hS hj hS.2.2.2.1) (cwV 4 hF.2.2.2.2 gX12_game_X12_canHave rfl rfl rfl (by decide +kernel) ⟨Nat.le_of_ble_eq_true rfl, Nat.le_of_ble_eq_true rfl⟩) 0 rfl rfl rfl rfl hl.1 rfl (lv_room (Nat.le_of_ble_eq_true rfl)) dX12_game_34 ⟨Nat.le_of_ble_eq_true rfl, Nat.le_of_ble_eq_true rfl⟩) hG (fun r_34 u_34 H locs hp_34 hG => ?_)
        subst hp_34
        refine lv_if_eq (tgt := 44) hF.1 hF.2.1 dX12_game_37 (by decide) (fun c_37 => ?_) (fun c_37 => ?_)
        · --
          have n_37 : (canU n kd fg j 1 o true) = false := b2i_z.mp c_37
          refine lv_iconst (v := (nI 0)) hF.1 hF.2.1 dX12_game_44 (by decide +kernel) ?_
          exact hret _ () _ ls _ _ _ _ (by first | (unfold spGame; rw [n_5]; rfl) | (unfold spGame; rw [n_17, Bool.and_false]; rfl) | (unfold spGame; rw [inB_j (by omega) hj, inB_j (by omega) hk, nI_clamp (by omega), nI_clamp (by omega), n_37]; rfl)) (by first | rfl | exact nar_b2i _) hG (Nat.le_of_ble_eq_true rfl) (Nat.le_of_ble_eq_true rfl) dX12_game_45
        · --
          have n_37 : (canU n kd fg j 1 o true) = true := b2i_nz.mp c_37
          refine lv_iconst (v := (nI 1)) hF.1 hF.2.1 dX12_game_40 (by decide +kernel) ?_
          refine lv_goto (tgt := 45) hF.1 hF.2.1 dX12_game_41 (by decide) ?_
          exact hret _ () _ ls _ _ _ _ (by first | (unfold spGame; rw [n_5]; rfl) | (unfold spGame; rw [n_17, Bool.and_false]; rfl) | (unfold spGame; rw [inB_j (by omega) hj, inB_j (by omega) hk, nI_clamp (by omega), nI_clamp (by omega), n_37]; rfl)) (by first | rfl | exact nar_b2i _) hG (Nat.le_of_ble_eq_true rfl) (Nat.le_of_ble_eq_true rfl) dX12_game_45
      · --
        refine lv_aload_n hF.1 hF.2.1 dX12_game_24 rfl (lv_at hl 0 rfl) ?_
        refine lv_iload_n hF.1 hF.2.1 dX12_game_25 rfl (lv_at hl 1 rfl) ?_
        refine lv_aload_n hF.1 hF.2.1 dX12_game_26 rfl (lv_at hl 0 rfl) ?_
        refine k_get (C := RX12) (T := TX12) (N := 19) hF hK hG (fun _ h => List.mem_cons_of_mem _ (List.mem_append_right _ h)) 0 rfl rfl 0 (by decide) (List.mem_of_getElem? (i := 2) rfl) (fun _ h9 => h9) rfl dX12_game_27 ?_
        refine lv_iconst (v := (nI 1)) hF.1 hF.2.1 dX12_game_30 (by decide +kernel) ?_
        refine k_ialdN hF hK hG 1 rfl (1) rfl (by omega) (by omega) dX12_game_31 ?_
        rw [hS.2.1]
        refine lv_iload_n hF.1 hF.2.1 dX12_game_32 rfl (lv_at hl 2 rfl) ?_
        refine lv_iconst (v := (nI 1)) hF.1 hF.2.1 dX12_game_33 (by decide +kernel) ?_
        refine k_ci (r_V (As := [.int (nI j), .int (nI o), .int (nI 2), .int (nI 1)]) hF hK hA hG (c_X12_canHave_2 (mine := true) hS hj hS.2.2.2.1) (cwV 4 hF.2.2.2.2 gX12_game_X12_canHave rfl rfl rfl (by decide +kernel) ⟨Nat.le_of_ble_eq_true rfl, Nat.le_of_ble_eq_true rfl⟩) 0 rfl rfl rfl rfl hl.1 rfl (lv_room (Nat.le_of_ble_eq_true rfl)) dX12_game_34 ⟨Nat.le_of_ble_eq_true rfl, Nat.le_of_ble_eq_true rfl⟩) hG (fun r_34 u_34 H locs hp_34 hG => ?_)
        subst hp_34
        refine lv_if_eq (tgt := 44) hF.1 hF.2.1 dX12_game_37 (by decide) (fun c_37 => ?_) (fun c_37 => ?_)
        · --
          have n_37 : (canU n kd fg j 2 o true) = false := b2i_z.mp c_37
          refine lv_iconst (v := (nI 0)) hF.1 hF.2.1 dX12_game_44 (by decide +kernel) ?_
          exact hret _ () _ ls _ _ _ _ (by first | (unfold spGame; rw [n_5]; rfl) | (unfold spGame; rw [n_17, Bool.and_false]; rfl) | (unfold spGame; rw [inB_j (by omega) hj, inB_j (by omega) hk, nI_clamp (by omega), nI_clamp (by omega), n_37]; rfl)) (by first | rfl | exact nar_b2i _) hG (Nat.le_of_ble_eq_true rfl) (Nat.le_of_ble_eq_true rfl) dX12_game_45
        · --
          have n_37 : (canU n kd fg j 2 o true) = true := b2i_nz.mp c_37
          refine lv_iconst (v := (nI 1)) hF.1 hF.2.1 dX12_game_40 (by decide +kernel) ?_
          refine lv_goto (tgt := 45) hF.1 hF.2.1 dX12_game_41 (by decide) ?_
          exact hret _ () _ ls _ _ _ _ (by first | (unfold spGame; rw [n_5]; rfl) | (unfold spGame; rw [n_17, Bool.and_false]; rfl) | (unfold spGame; rw [inB_j (by omega) hj, inB_j (by omega) hk, nI_clamp (by omega), nI_clamp (by omega), n_37]; rfl)) (by first | rfl | exact nar_b2i _) hG (Nat.le_of_ble_eq_true rfl) (Nat.le_of_ble_eq_true rfl) dX12_game_45
      · --
        refine lv_aload_n hF.1 hF.2.1 dX12_game_24 rfl (lv_at hl 0 rfl) ?_
        refine lv_iload_n hF.1 hF.2.1 dX12_game_25 rfl (lv_at hl 1 rfl) ?_
        refine lv_aload_n hF.1 hF.2.1 dX12_game_26 rfl (lv_at hl 0 rfl) ?_
        refine k_get (C := RX12) (T := TX12) (N := 19) hF hK hG (fun _ h => List.mem_cons_of_mem _ (List.mem_append_right _ h)) 0 rfl rfl 0 (by decide) (List.mem_of_getElem? (i := 2) rfl) (fun _ h9 => h9) rfl dX12_game_27 ?_
        refine lv_iconst (v := (nI 1)) hF.1 hF.2.1 dX12_game_30 (by decide +kernel) ?_
        refine k_ialdN hF hK hG 1 rfl (1) rfl (by omega) (by omega) dX12_game_31 ?_
        rw [hS.2.1]
        refine lv_iload_n hF.1 hF.2.1 dX12_game_32 rfl (lv_at hl 2 rfl) ?_
        refine lv_iconst (v := (nI 1)) hF.1 hF.2.1 dX12_game_33 (by decide +kernel) ?_
        refine k_ci (r_V (As := [.int (nI j), .int (nI o), .int (nI 3), .int (nI 1)]) hF hK hA hG (c_X12_canHave_3 (mine := true) hS hj hS.2.2.2.1) (cwV 4 hF.2.2.2.2 gX12_game_X12_canHave rfl rfl rfl (by decide +kernel) ⟨Nat.le_of_ble_eq_true rfl, Nat.le_of_ble_eq_true rfl⟩) 0 rfl rfl rfl rfl hl.1 rfl (lv_room (Nat.le_of_ble_eq_true rfl)) dX12_game_34 ⟨Nat.le_of_ble_eq_true rfl, Nat.le_of_ble_eq_true rfl⟩) hG (fun r_34 u_34 H locs hp_34 hG => ?_)
        subst hp_34
        refine lv_if_eq (tgt := 44) hF.1 hF.2.1 dX12_game_37 (by decide) (fun c_37 => ?_) (fun c_37 => ?_)
        · --
          have n_37 : (canU n kd fg j 3 o true) = false := b2i_z.mp c_37
          refine lv_iconst (v := (nI 0)) hF.1 hF.2.1 dX12_game_44 (by decide +kernel) ?_
          exact hret _ () _ ls _ _ _ _ (by first | (unfold spGame; rw [n_5]; rfl) | (unfold spGame; rw [n_17, Bool.and_false]; rfl) | (unfold spGame; rw [inB_j (by omega) hj, inB_j (by omega) hk, nI_clamp (by omega), nI_clamp (by omega), n_37]; rfl)) (by first | rfl | exact nar_b2i _) hG (Nat.le_of_ble_eq_true rfl) (Nat.le_of_ble_eq_true rfl) dX12_game_45
        · --
          have n_37 : (canU n kd fg j 3 o true) = true := b2i_nz.mp c_37
          refine lv_iconst (v := (nI 1)) hF.1 hF.2.1 dX12_game_40 (by decide +kernel) ?_
          refine lv_goto (tgt := 45) hF.1 hF.2.1 dX12_game_41 (by decide) ?_
          exact hret _ () _ ls _ _ _ _ (by first | (unfold spGame; rw [n_5]; rfl) | (unfold spGame; rw [n_17, Bool.and_false]; rfl) | (unfold spGame; rw [inB_j (by omega) hj, inB_j (by omega) hk, nI_clamp (by omega), nI_clamp (by omega), n_37]; rfl)) (by first | rfl | exact nar_b2i _) hG (Nat.le_of_ble_eq_true rfl) (Nat.le_of_ble_eq_true rfl) dX12_game_45
      · --
        refine lv_aload_n hF.1 hF.2.1 dX12_game_24 rfl (lv_at hl 0 rfl) ?_
        refine lv_iload_n hF.1 hF.2.1 dX12_game_25 rfl (lv_at hl 1 rfl) ?_
        refine lv_aload_n hF.1 hF.2.1 dX12_game_26 rfl (lv_at hl 0 rfl) ?_
        refine k_get (C := RX12) (T := TX12) (N := 19) hF hK hG (fun _ h => List.mem_cons_of_mem _ (List.mem_append_right _ h)) 0 rfl rfl 0 (by decide) (List.mem_of_getElem? (i := 2) rfl) (fun _ h9 => h9) rfl dX12_game_27 ?_
        refine lv_iconst (v := (nI 1)) hF.1 hF.2.1 dX12_game_30 (by decide +kernel) ?_
        refine k_ialdN hF hK hG 1 rfl (1) rfl (by omega) (by omega) dX12_game_31 ?_
        rw [hS.2.1]
        refine lv_iload_n hF.1 hF.2.1 dX12_game_32 rfl (lv_at hl 2 rfl) ?_
        refine lv_iconst (v := (nI 1)) hF.1 hF.2.1 dX12_game_33 (by decide +kernel) ?_
        refine k_ci (r_V (As := [.int (nI j), .int (nI o), .int (nI 4), .int (nI 1)]) hF hK hA hG (c_X12_canHave_4 (mine := true) hS hj hS.2.2.2.1) (cwV 4 hF.2.2.2.2 gX12_game_X12_canHave rfl rfl rfl (by decide +kernel) ⟨Nat.le_of_ble_eq_true rfl, Nat.le_of_ble_eq_true rfl⟩) 0 rfl rfl rfl rfl hl.1 rfl (lv_room (Nat.le_of_ble_eq_true rfl)) dX12_game_34 ⟨Nat.le_of_ble_eq_true rfl, Nat.le_of_ble_eq_true rfl⟩) hG (fun r_34 u_34 H locs hp_34 hG => ?_)
        subst hp_34
        refine lv_if_eq (tgt := 44) hF.1 hF.2.1 dX12_game_37 (by decide) (fun c_37 => ?_) (fun c_37 => ?_)
        · --
          have n_37 : (canU n kd fg j 4 o true) = false := b2i_z.mp c_37
          refine lv_iconst (v := (nI 0)) hF.1 hF.2.1 dX12_game_44 (by decide +kernel) ?_
          exact hret _ () _ ls _ _ _ _ (by first | (unfold spGame; rw [n_5]; rfl) | (unfold spGame; rw [n_17, Bool.and_false]; rfl) | (unfold spGame; rw [inB_j (by omega) hj, inB_j (by omega) hk, nI_clamp (by omega), nI_clamp (by omega), n_37]; rfl)) (by first | rfl | exact nar_b2i _) hG (Nat.le_of_ble_eq_true rfl) (Nat.le_of_ble_eq_true rfl) dX12_game_45
        · --
          have n_37 : (canU n kd fg j 4 o true) = true := b2i_nz.mp c_37
          refine lv_iconst (v := (nI 1)) hF.1 hF.2.1 dX12_game_40 (by decide +kernel) ?_
          refine lv_goto (tgt := 45) hF.1 hF.2.1 dX12_game_41 (by decide) ?_
          exact hret _ () _ ls _ _ _ _ (by first | (unfold spGame; rw [n_5]; rfl) | (unfold spGame; rw [n_17, Bool.and_false]; rfl) | (unfold spGame; rw [inB_j (by omega) hj, inB_j (by omega) hk, nI_clamp (by omega), nI_clamp (by omega), n_37]; rfl)) (by first | rfl | exact nar_b2i _) hG (Nat.le_of_ble_eq_true rfl) (Nat.le_of_ble_eq_true rfl) dX12_game_45
      · --
        refine lv_aload_n hF.1 hF.2.1 dX12_game_24 rfl (lv_at hl 0 rfl) ?_
        refine lv_iload_n hF.1 hF.2.1 dX12_game_25 rfl (lv_at hl 1 rfl) ?_
        refine lv_aload_n hF.1 hF.2.1 dX12_game_26 rfl (lv_at hl 0 rfl) ?_
        refine k_get (C := RX12) (T := TX12) (N := 19) hF hK hG (fun _ h => List.mem_cons_of_mem _ (List.mem_append_right _ h)) 0 rfl rfl 0 (by decide) (List.mem_of_getElem? (i := 2) rfl) (fun _ h9 => h9) rfl dX12_game_27 ?_
        refine lv_iconst (v := (nI 1)) hF.1 hF.2.1 dX12_game_30 (by decide +kernel) ?_
        refine k_ialdN hF hK hG 1 rfl (1) rfl (by omega) (by omega) dX12_game_31 ?_
        rw [hS.2.1]
        refine lv_iload_n hF.1 hF.2.1 dX12_game_32 rfl (lv_at hl 2 rfl) ?_
        refine lv_iconst (v := (nI 1)) hF.1 hF.2.1 dX12_game_33 (by decide +kernel) ?_
        refine k_ci (r_V (As := [.int (nI j), .int (nI o), .int (nI 5), .int (nI 1)]) hF hK hA hG (c_X12_canHave_5 (mine := true) hS hj hS.2.2.2.1) (cwV 4 hF.2.2.2.2 gX12_game_X12_canHave rfl rfl rfl (by decide +kernel) ⟨Nat.le_of_ble_eq_true rfl, Nat.le_of_ble_eq_true rfl⟩) 0 rfl rfl rfl rfl hl.1 rfl (lv_room (Nat.le_of_ble_eq_true rfl)) dX12_game_34 ⟨Nat.le_of_ble_eq_true rfl, Nat.le_of_ble_eq_true rfl⟩) hG (fun r_34 u_34 H locs hp_34 hG => ?_)
        subst hp_34
        refine lv_if_eq (tgt := 44) hF.1 hF.2.1 dX12_game_37 (by decide) (fun c_37 => ?_) (fun c_37 => ?_)
        · --
          have n_37 : (canU n kd fg j 5 o true) = false := b2i_z.mp c_37
          refine lv_iconst (v := (nI 0)) hF.1 hF.2.1 dX12_game_44 (by decide +kernel) ?_
          exact hret _ () _ ls _ _ _ _ (by first | (unfold spGame; rw [n_5]; rfl) | (unfold spGame; rw [n_17, Bool.and_false]; rfl) | (unfold spGame; rw [inB_j (by omega) hj, inB_j (by omega) hk, nI_clamp (by omega), nI_clamp (by omega), n_37]; rfl)) (by first | rfl | exact nar_b2i _) hG (Nat.le_of_ble_eq_true rfl) (Nat.le_of_ble_eq_true rfl) dX12_game_45
        · --
          have n_37 : (canU n kd fg j 5 o true) = true := b2i_nz.mp c_37
          refine lv_iconst (v := (nI 1)) hF.1 hF.2.1 dX12_game_40 (by decide +kernel) ?_
          refine lv_goto (tgt := 45) hF.1 hF.2.1 dX12_game_41 (by decide) ?_
          exact hret _ () _ ls _ _ _ _ (by first | (unfold spGame; rw [n_5]; rfl) | (unfold spGame; rw [n_17, Bool.and_false]; rfl) | (unfold spGame; rw [inB_j (by omega) hj, inB_j (by omega) hk, nI_clamp (by omega), nI_clamp (by omega), n_37]; rfl)) (by first | rfl | exact nar_b2i _) hG (Nat.le_of_ble_eq_true rfl) (Nat.le_of_ble_eq_true rfl) dX12_game_45
    · --
      have n_17 := b2i_z.mp c_17
      refine lv_iconst (v := (-1)) hF.1 hF.2.1 dX12_game_20 (by decide +kernel) ?_
      refine lv_goto (tgt := 45) hF.1 hF.2.1 dX12_game_21 (by decide) ?_
      exact hret _ () _ ls _ _ _ _ (by first | (unfold spGame; rw [n_5]; rfl) | (unfold spGame; rw [n_17, Bool.and_false]; rfl) | (unfold spGame; rw [inB_j (by omega) hj, inB_j (by omega) hk, nI_clamp (by omega), nI_clamp (by omega), n_37]; rfl)) (by first | rfl | exact nar_b2i _) hG (Nat.le_of_ble_eq_true rfl) (Nat.le_of_ble_eq_true rfl) dX12_game_45
