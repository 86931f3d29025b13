/-! ===== the class's calls ===== -/
theorem in2_t {d : Int32} (h0 : ¬ d < 0) (h : d ≤ nI 1) : inB 2 d = true := inB_p (by omega) (by omega) h0 (Int32.not_lt.mpr h)
theorem in2_f {d : Int32} (h : ¬ d ≤ nI 1) : inB 2 d = false := inB_q (m := 2) (by omega) (by omega) (Int32.not_le.mp h)
theorem inM_t {m : Nat} {d : Int32} (hm : m < 1000) (h0 : ¬ d < 0) (h : d ≤ nI m) : inB (m + 1) d = true := inB_p (by omega) (by omega) h0 (Int32.not_lt.mpr h)
theorem inM_f {m : Nat} {d : Int32} (hm : m < 1000) (h : ¬ d ≤ nI m) : inB (m + 1) d = false := inB_q (m := m + 1) (by omega) (by omega) (Int32.not_le.mp h)
theorem spPut_g {x : Nat → Sf} {j : Nat} {z : Nat × Nat × (Nat → Int32)} {i v : Int32} (hj : j < 8) (hx : x j = some (.inr z)) (h : inB z.2.1 i = true) : spPut x (nI j) i v = (nI 0, va_up x j (some (.inr (z.1, z.2.1, putR z.1 z.2.1 z.2.2 i v)))) := by
  unfold spPut
  rw [sfA_j x hj, hx]
  show (if inB z.2.1 i = true then _ else _) = _
  rw [if_pos h, nI_clamp (by omega)]
theorem xw_row {pool : va_W} {x y y2 z : Nat × va_E} : ((((pool ++ [x]).set pool.length y) ++ [z]).set pool.length y2) = pool ++ [y2, z] := by
  rw [set_last, List.append_assoc]
  rw [List.set_append_right _ _ (Nat.le_refl _), Nat.sub_self]
  rfl
theorem SX.same {cA : Nat → ClassId} {pool : va_W} {dk rk : Nat → Option Nat} {x : Nat → Sf} {P : Nat → Nat} (h : SX cA pool dk rk x P) : ∃ P, SX cA pool dk rk x P := ⟨P, h⟩
abbrev rmX11_made : Room := { frames := 5, cells := 1, slots := 1, locals := 108 }
set_option maxHeartbeats 4000000 in
set_option maxRecDepth 100000 in
theorem c_X11_made {l : Launch} {D : va_G} {cA : Nat → ClassId} {A : Nat → Prop}  {ws : va_W} {f : Int32} {k : Nat} (hk8 : k < 8) : Met l yX11_made wsX11_made rmX11_made (va_Pc [.int (nI k), .int f] (Pre D cA A (ws))) (va_Qq (fun r q => r = some q) (fun u t => Wd D A ((fun q => ws ++ [((q, .inr (kcI k, [.int f])) : Nat × va_E)]) u) t) A) (1) (1) A := by
  refine k_ofq (S := Nat) (F := fun q => ws ++ [((q, .inr (kcI k, [.int f])) : Nat × va_E)]) (cc := cX11_made) (maxL := 2) (by decide) rfl (Nat.le_of_ble_eq_true rfl) ?_
  intro p e s m args below meth c Q hF hini hK hA hG hret ls hl
  have hl : lv_has ls 2 [(0, .int (nI k)), (1, .int f)] := hl
  refine lv_iload_n hF.1 hF.2.1 dX11_made_0 rfl (lv_at hl 0 rfl) ?_
  rcases (show k = 0 ∨ k = 1 ∨ k = 2 ∨ k = 3 ∨ k = 4 ∨ k = 5 ∨ k = 6 ∨ k = 7 by omega) with ek | ek | ek | ek | ek | ek | ek | ek
  · --
    rw [ek]
    refine lv_tableOut (tgt := 107) hF.1 hF.2.1 dX11_made_1 (by decide +kernel) (by decide) ?_
    refine k_new (C := RX0) (T := TX0) (N := 1) (ci := 0) (fs := [.int 0]) hF hK hA hG (fun _ h => List.mem_cons_of_mem _ (List.mem_append_right _ h)) tyX0 tyX0_ok (List.mem_of_getElem? (i := 22) rfl) (List.mem_of_getElem? (i := 23) rfl) (List.mem_of_getElem? (i := 24) rfl) rfl (by decide +kernel) (Nat.le_of_ble_eq_true rfl) (Nat.le_of_ble_eq_true rfl) dX11_made_107 (fun q H hG => ?_)
    refine lv_dup hF.1 hF.2.1 dX11_made_110 rfl ?_
    refine lv_iload_n hF.1 hF.2.1 dX11_made_111 rfl (lv_at hl 1 rfl) ?_
    refine k_cv (r_I (As := [.int f]) hF hK hA hG (c_X0_init_X0 (at_last ws _)) (cwI 1 hF.2.2.2.2 gX11_made_X0_init rfl rfl rfl (hF.2.2.2.2 _ (List.mem_of_getElem? (i := 24) rfl)) (hF.2.2.2.2 _ (List.mem_of_getElem? (i := 59) rfl)) (hF.2.2.2.2 _ (List.mem_of_getElem? (i := 29) rfl)) rfl (by decide +kernel) ⟨Nat.le_of_ble_eq_true rfl, Nat.le_of_ble_eq_true rfl⟩) rfl hl.1 rfl (lv_room (Nat.le_of_ble_eq_true rfl)) dX11_made_112 ⟨Nat.le_of_ble_eq_true rfl, Nat.le_of_ble_eq_true rfl⟩) hG (fun u_112 H locs hp_112 hG => ?_)
    have hG : Gd D A (ws ++ [(q, .inr (kcI k, [.int f]))]) s.heap H locs := by rw [ek]; rw [set_last] at hG; exact hG
    exact hret (some q) _ q _ ls _ _ _ _ (by rfl) rfl hG (Nat.le_of_ble_eq_true rfl) (Nat.le_of_ble_eq_true rfl) dX11_made_115
  · --
    rw [ek]
    refine lv_tableIn (tgt := 44) hF.1 hF.2.1 dX11_made_1 (by decide +kernel) (by decide +kernel) rfl (by decide) ?_
    refine k_new (C := RX1) (T := TX1) (N := 1) (ci := 1) (fs := [.int 0]) hF hK hA hG (fun _ h => List.mem_cons_of_mem _ (List.mem_append_left _ (List.mem_append_left _ (List.mem_append_left _ (List.mem_append_left _ (List.mem_append_left _ (List.mem_append_left _ (List.mem_append_left _ (List.mem_append_right _ h))))))))) tyX1 tyX1_ok (List.mem_of_getElem? (i := 1) rfl) (List.mem_of_getElem? (i := 2) rfl) (List.mem_of_getElem? (i := 3) rfl) rfl (by decide +kernel) (Nat.le_of_ble_eq_true rfl) (Nat.le_of_ble_eq_true rfl) dX11_made_44 (fun q H hG => ?_)
    refine lv_dup hF.1 hF.2.1 dX11_made_47 rfl ?_
    refine lv_iload_n hF.1 hF.2.1 dX11_made_48 rfl (lv_at hl 1 rfl) ?_
    refine k_cv (r_I (As := [.int f]) hF hK hA hG (c_X1_init_X1 (at_last ws _)) (cwI 1 hF.2.2.2.2 gX11_made_X1_init rfl rfl rfl (hF.2.2.2.2 _ (List.mem_of_getElem? (i := 3) rfl)) (hF.2.2.2.2 _ (List.mem_of_getElem? (i := 25) rfl)) (hF.2.2.2.2 _ (List.mem_of_getElem? (i := 26) rfl)) rfl (by decide +kernel) ⟨Nat.le_of_ble_eq_true rfl, Nat.le_of_ble_eq_true rfl⟩) rfl hl.1 rfl (lv_room (Nat.le_of_ble_eq_true rfl)) dX11_made_49 ⟨Nat.le_of_ble_eq_true rfl, Nat.le_of_ble_eq_true rfl⟩) hG (fun u_49 H locs hp_49 hG => ?_)
    have hG : Gd D A (ws ++ [(q, .inr (kcI k, [.int f]))]) s.heap H locs := by rw [ek]; rw [set_last] at hG; exact hG
    exact hret (some q) _ q _ ls _ _ _ _ (by rfl) rfl hG (Nat.le_of_ble_eq_true rfl) (Nat.le_of_ble_eq_true rfl) dX11_made_52
  · --
    rw [ek]
    refine lv_tableIn (tgt := 53) hF.1 hF.2.1 dX11_made_1 (by decide +kernel) (by decide +kernel) rfl (by decide) ?_
    refine k_new (C := RX7) (T := TX7) (N := 1) (ci := 7) (fs := [.int 0]) hF hK hA hG (fun _ h => List.mem_cons_of_mem _ (List.mem_append_left _ (List.mem_append_left _ (List.mem_append_left _ (List.mem_append_left _ (List.mem_append_left _ (List.mem_append_left _ (List.mem_append_right _ h)))))))) tyX7 tyX7_ok (List.mem_of_getElem? (i := 4) rfl) (List.mem_of_getElem? (i := 5) rfl) (List.mem_of_getElem? (i := 6) rfl) rfl (by decide +kernel) (Nat.le_of_ble_eq_true rfl) (Nat.le_of_ble_eq_true rfl) dX11_made_53 (fun q H hG => ?_)
    refine lv_dup hF.1 hF.2.1 dX11_made_56 rfl ?_
    refine lv_iload_n hF.1 hF.2.1 dX11_made_57 rfl (lv_at hl 1 rfl) ?_
    refine k_cv (r_I (As := [.int f]) hF hK hA hG (c_X7_init (at_last ws _)) (cwI 1 hF.2.2.2.2 gX11_made_X7_init rfl rfl rfl (hF.2.2.2.2 _ (List.mem_of_getElem? (i := 6) rfl)) (hF.2.2.2.2 _ (List.mem_of_getElem? (i := 35) rfl)) (hF.2.2.2.2 _ (List.mem_of_getElem? (i := 36) rfl)) rfl (by decide +kernel) ⟨Nat.le_of_ble_eq_true rfl, Nat.le_of_ble_eq_true rfl⟩) rfl hl.1 rfl (lv_room (Nat.le_of_ble_eq_true rfl)) dX11_made_58 ⟨Nat.le_of_ble_eq_true rfl, Nat.le_of_ble_eq_true rfl⟩) hG (fun u_58 H locs hp_58 hG => ?_)
    have hG : Gd D A (ws ++ [(q, .inr (kcI k, [.int f]))]) s.heap H locs := by rw [ek]; rw [set_last] at hG; exact hG
    exact hret (some q) _ q _ ls _ _ _ _ (by rfl) rfl hG (Nat.le_of_ble_eq_true rfl) (Nat.le_of_ble_eq_true rfl) dX11_made_61
  · --
    rw [ek]
    refine lv_tableIn (tgt := 62) hF.1 hF.2.1 dX11_made_1 (by decide +kernel) (by decide +kernel) rfl (by decide) ?_
    refine k_new (C := RX8) (T := TX8) (N := 1) (ci := 8) (fs := [.int 0]) hF hK hA hG (fun _ h => List.mem_cons_of_mem _ (List.mem_append_left _ (List.mem_append_left _ (List.mem_append_left _ (List.mem_append_left _ (List.mem_append_left _ (List.mem_append_right _ h))))))) tyX8 tyX8_ok (List.mem_of_getElem? (i := 7) rfl) (List.mem_of_getElem? (i := 8) rfl) (List.mem_of_getElem? (i := 9) rfl) rfl (by decide +kernel) (Nat.le_of_ble_eq_true rfl) (Nat.le_of_ble_eq_true rfl) dX11_made_62 (fun q H hG => ?_)
    refine lv_dup hF.1 hF.2.1 dX11_made_65 rfl ?_
    refine lv_iload_n hF.1 hF.2.1 dX11_made_66 rfl (lv_at hl 1 rfl) ?_
    refine k_cv (r_I (As := [.int f]) hF hK hA hG (c_X8_init_X8 (at_last ws _)) (cwI 1 hF.2.2.2.2 gX11_made_X8_init rfl rfl rfl (hF.2.2.2.2 _ (List.mem_of_getElem? (i := 9) rfl)) (hF.2.2.2.2 _ (List.mem_of_getElem? (i := 39) rfl)) (hF.2.2.2.2 _ (List.mem_of_getElem? (i := 40) rfl)) rfl (by decide +kernel) ⟨Nat.le_of_ble_eq_true rfl, Nat.le_of_ble_eq_true rfl⟩) rfl hl.1 rfl (lv_room (Nat.le_of_ble_eq_true rfl)) dX11_made_67 ⟨Nat.le_of_ble_eq_true rfl, Nat.le_of_ble_eq_true rfl⟩) hG (fun u_67 H locs hp_67 hG => ?_)
    have hG : Gd D A (ws ++ [(q, .inr (kcI k, [.int f]))]) s.heap H locs := by rw [ek]; rw [set_last] at hG; exact hG
    exact hret (some q) _ q _ ls _ _ _ _ (by rfl) rfl hG (Nat.le_of_ble_eq_true rfl) (Nat.le_of_ble_eq_true rfl) dX11_made_70
  · --
    rw [ek]
    refine lv_tableIn (tgt := 71) hF.1 hF.2.1 dX11_made_1 (by decide +kernel) (by decide +kernel) rfl (by decide) ?_
    refine k_new (C := RX5) (T := TX5) (N := 1) (ci := 5) (fs := [.int 0]) hF hK hA hG (fun _ h => List.mem_cons_of_mem _ (List.mem_append_left _ (List.mem_append_left _ (List.mem_append_left _ (List.mem_append_left _ (List.mem_append_right _ h)))))) tyX5 tyX5_ok (List.mem_of_getElem? (i := 10) rfl) (List.mem_of_getElem? (i := 11) rfl) (List.mem_of_getElem? (i := 12) rfl) rfl (by decide +kernel) (Nat.le_of_ble_eq_true rfl) (Nat.le_of_ble_eq_true rfl) dX11_made_71 (fun q H hG => ?_)
    refine lv_dup hF.1 hF.2.1 dX11_made_74 rfl ?_
    refine lv_iload_n hF.1 hF.2.1 dX11_made_75 rfl (lv_at hl 1 rfl) ?_
    refine k_cv (r_I (As := [.int f]) hF hK hA hG (c_X5_init (at_last ws _)) (cwI 1 hF.2.2.2.2 gX11_made_X5_init rfl rfl rfl (hF.2.2.2.2 _ (List.mem_of_getElem? (i := 12) rfl)) (hF.2.2.2.2 _ (List.mem_of_getElem? (i := 43) rfl)) (hF.2.2.2.2 _ (List.mem_of_getElem? (i := 44) rfl)) rfl (by decide +kernel) ⟨Nat.le_of_ble_eq_true rfl, Nat.le_of_ble_eq_true rfl⟩) rfl hl.1 rfl (lv_room (Nat.le_of_ble_eq_true rfl)) dX11_made_76 ⟨Nat.le_of_ble_eq_true rfl, Nat.le_of_ble_eq_true rfl⟩) hG (fun u_76 H locs hp_76 hG => ?_)
    have hG : Gd D A (ws ++ [(q, .inr (kcI k, [.int f]))]) s.heap H locs := by rw [ek]; rw [set_last] at hG; exact hG
    exact hret (some q) _ q _ ls _ _ _ _ (by rfl) rfl hG (Nat.le_of_ble_eq_true rfl) (Nat.le_of_ble_eq_true rfl) dX11_made_79
  · --
    rw [ek]
    refine lv_tableIn (tgt := 80) hF.1 hF.2.1 dX11_made_1 (by decide +kernel) (by decide +kernel) rfl (by decide) ?_
    refine k_new (C := RX3) (T := TX3) (N := 1) (ci := 3) (fs := [.int 0]) hF hK hA hG (fun _ h => List.mem_cons_of_mem _ (List.mem_append_left _ (List.mem_append_left _ (List.mem_append_left _ (List.mem_append_right _ h))))) tyX3 tyX3_ok (List.mem_of_getElem? (i := 13) rfl) (List.mem_of_getElem? (i := 14) rfl) (List.mem_of_getElem? (i := 15) rfl) rfl (by decide +kernel) (Nat.le_of_ble_eq_true rfl) (Nat.le_of_ble_eq_true rfl) dX11_made_80 (fun q H hG => ?_)
    refine lv_dup hF.1 hF.2.1 dX11_made_83 rfl ?_
    refine lv_iload_n hF.1 hF.2.1 dX11_made_84 rfl (lv_at hl 1 rfl) ?_
    refine k_cv (r_I (As := [.int f]) hF hK hA hG (c_X3_init (at_last ws _)) (cwI 1 hF.2.2.2.2 gX11_made_X3_init rfl rfl rfl (hF.2.2.2.2 _ (List.mem_of_getElem? (i := 15) rfl)) (hF.2.2.2.2 _ (List.mem_of_getElem? (i := 47) rfl)) (hF.2.2.2.2 _ (List.mem_of_getElem? (i := 48) rfl)) rfl (by decide +kernel) ⟨Nat.le_of_ble_eq_true rfl, Nat.le_of_ble_eq_true rfl⟩) rfl hl.1 rfl (lv_room (Nat.le_of_ble_eq_true rfl)) dX11_made_85 ⟨Nat.le_of_ble_eq_true rfl, Nat.le_of_ble_eq_true rfl⟩) hG (fun u_85 H locs hp_85 hG => ?_)
    have hG : Gd D A (ws ++ [(q, .inr (kcI k, [.int f]))]) s.heap H locs := by rw [ek]; rw [set_last] at hG; exact hG
    exact hret (some q) _ q _ ls _ _ _ _ (by rfl) rfl hG (Nat.le_of_ble_eq_true rfl) (Nat.le_of_ble_eq_true rfl) dX11_made_88
  · --
    rw [ek]
    refine lv_tableIn (tgt := 89) hF.1 hF.2.1 dX11_made_1 (by decide +kernel) (by decide +kernel) rfl (by decide) ?_
    refine k_new (C := RX4) (T := TX4) (N := 1) (ci := 4) (fs := [.int 0]) hF hK hA hG (fun _ h => List.mem_cons_of_mem _ (List.mem_append_left _ (List.mem_append_left _ (List.mem_append_right _ h)))) tyX4 tyX4_ok (List.mem_of_getElem? (i := 16) rfl) (List.mem_of_getElem? (i := 17) rfl) (List.mem_of_getElem? (i := 18) rfl) rfl (by decide +kernel) (Nat.le_of_ble_eq_true rfl) (Nat.le_of_ble_eq_true rfl) dX11_made_89 (fun q H hG => ?_)
    refine lv_dup hF.1 hF.2.1 dX11_made_92 rfl ?_
    refine lv_iload_n hF.1 hF.2.1 dX11_made_93 rfl (lv_at hl 1 rfl) ?_
    refine k_cv (r_I (As := [.int f]) hF hK hA hG (c_X4_init (at_last ws _)) (cwI 1 hF.2.2.2.2 gX11_made_X4_init rfl rfl rfl (hF.2.2.2.2 _ (List.mem_of_getElem? (i := 18) rfl)) (hF.2.2.2.2 _ (List.mem_of_getElem? (i := 51) rfl)) (hF.2.2.2.2 _ (List.mem_of_getElem? (i := 52) rfl)) rfl (by decide +kernel) ⟨Nat.le_of_ble_eq_true rfl, Nat.le_of_ble_eq_true rfl⟩) rfl hl.1 rfl (lv_room (Nat.le_of_ble_eq_true rfl)) dX11_made_94 ⟨Nat.le_of_ble_eq_true rfl, Nat.le_of_ble_eq_true rfl⟩) hG (fun u_94 H locs hp_94 hG => ?_)
    have hG : Gd D A (ws ++ [(q, .inr (kcI k, [.int f]))]) s.heap H locs := by rw [ek]; rw [set_last] at hG; exact hG
    exact hret (some q) _ q _ ls _ _ _ _ (by rfl) rfl hG (Nat.le_of_ble_eq_true rfl) (Nat.le_of_ble_eq_true rfl) dX11_made_97
  · --
    rw [ek]
    refine lv_tableIn (tgt := 98) hF.1 hF.2.1 dX11_made_1 (by decide +kernel) (by decide +kernel) rfl (by decide) ?_
    refine k_new (C := RX2) (T := TX2) (N := 1) (ci := 2) (fs := [.int 0]) hF hK hA hG (fun _ h => List.mem_cons_of_mem _ (List.mem_append_left _ (List.mem_append_right _ h))) tyX2 tyX2_ok (List.mem_of_getElem? (i := 19) rfl) (List.mem_of_getElem? (i := 20) rfl) (List.mem_of_getElem? (i := 21) rfl) rfl (by decide +kernel) (Nat.le_of_ble_eq_true rfl) (Nat.le_of_ble_eq_true rfl) dX11_made_98 (fun q H hG => ?_)
    refine lv_dup hF.1 hF.2.1 dX11_made_101 rfl ?_
    refine lv_iload_n hF.1 hF.2.1 dX11_made_102 rfl (lv_at hl 1 rfl) ?_
    refine k_cv (r_I (As := [.int f]) hF hK hA hG (c_X2_init (at_last ws _)) (cwI 1 hF.2.2.2.2 gX11_made_X2_init rfl rfl rfl (hF.2.2.2.2 _ (List.mem_of_getElem? (i := 21) rfl)) (hF.2.2.2.2 _ (List.mem_of_getElem? (i := 55) rfl)) (hF.2.2.2.2 _ (List.mem_of_getElem? (i := 56) rfl)) rfl (by decide +kernel) ⟨Nat.le_of_ble_eq_true rfl, Nat.le_of_ble_eq_true rfl⟩) rfl hl.1 rfl (lv_room (Nat.le_of_ble_eq_true rfl)) dX11_made_103 ⟨Nat.le_of_ble_eq_true rfl, Nat.le_of_ble_eq_true rfl⟩) hG (fun u_103 H locs hp_103 hG => ?_)
    have hG : Gd D A (ws ++ [(q, .inr (kcI k, [.int f]))]) s.heap H locs := by rw [ek]; rw [set_last] at hG; exact hG
    exact hret (some q) _ q _ ls _ _ _ _ (by rfl) rfl hG (Nat.le_of_ble_eq_true rfl) (Nat.le_of_ble_eq_true rfl) dX11_made_106

abbrev rmX11_drawer : Room := { frames := 4, cells := 0, slots := 0, locals := 89 }
set_option maxHeartbeats 4000000 in
set_option maxRecDepth 100000 in
theorem c_X11_drawer {l : Launch} {D : va_G} {cA : Nat → ClassId} {A : Nat → Prop}  {ob : Nat → Nat} {mb ss sh sp : Nat → Int32} {mt : Nat → Int64} {rc n o : Nat} {dr : Nat → Option Nat} {n1 o1 : Nat} {dr1 : Nat → Option Nat} {n2 o2 : Nat} {dr2 dk rk : Nat → Option Nat} {kt : Nat → Int32} {tk : Int32} {pool : va_W} {kd fg : Nat → Nat} (hI : WI pool n o dr kd fg) {kd1 fg1 : Nat → Nat} (hJ : WI pool n1 o1 dr1 kd1 fg1) {kd2 fg2 : Nat → Nat} (hM : WI pool n2 o2 dr2 kd2 fg2) {x : Nat → Sf} {P : Nat → Nat} (hX : SX cA pool dk rk x P) {tkb : Bool} (htk : tk = b2i tkb) {i what : Int32} : Met l yX11_drawer wsX11_drawer rmX11_drawer (va_Pc [.ref (ob 6), .int i, .int what] (Pre D cA A (XW cA ob mb ss sh sp mt rc n o dr n1 o1 dr1 n2 o2 dr2 dk rk kt tk pool))) (va_Qi (fun r (u : XS) => (r = spDrawer n o kd fg i what) ∧ XI cA u (n, o, kd, fg) (n1, o1, kd1, fg1) tkb x) (fun u t => Wd D A ((fun (u : XS) => XV cA ob u) u) t) A) (0) (0) A := by
  refine k_ofi (S := XS) (F := fun (u : XS) => XV cA ob u) (cc := cX11_drawer) (maxL := 4) (by decide) rfl (Nat.le_of_ble_eq_true rfl) ?_
  intro p e s m args below meth c Q hF hini hK hA hG hret ls hl
  have hl : lv_has ls 4 [(0, .ref (ob 6)), (1, .int i), (2, .int what)] := hl
  have hn : n ≤ 6 := hI.1
  have ho : o < 64 := hI.o64
  have hp2 : 2 ^ n ≤ 64 := Nat.pow_le_pow_right (by decide) hn
  have hp1 : 1 ≤ 2 ^ n := Nat.one_le_two_pow
  refine lv_aload_n hF.1 hF.2.1 dX11_drawer_0 rfl (lv_at hl 0 rfl) ?_
  refine k_get (C := RX11) (T := TX11) (N := 8) hF hK hG (fun _ h => List.mem_cons_of_mem _ (List.mem_append_left _ (List.mem_append_left _ (List.mem_append_left _ (List.mem_append_left _ (List.mem_append_left _ (List.mem_append_left _ (List.mem_append_left _ (List.mem_append_left _ (List.mem_append_left _ (List.mem_append_right _ h))))))))))) 6 rfl rfl 0 (by decide) (List.mem_of_getElem? (i := 1) rfl) (fun _ h9 => h9) rfl dX11_drawer_1 ?_
  refine lv_iload_n hF.1 hF.2.1 dX11_drawer_4 rfl (lv_at hl 1 rfl) ?_
  refine k_cq (r_V (As := [.int i]) hF hK hA hG (c_X9_drawerAt hI.w0) (cwV 1 hF.2.2.2.2 gX11_drawer_X9_drawerAt rfl rfl rfl (by decide +kernel) ⟨Nat.le_of_ble_eq_true rfl, Nat.le_of_ble_eq_true rfl⟩) 7 rfl rfl rfl rfl hl.1 rfl (lv_room (Nat.le_of_ble_eq_true rfl)) dX11_drawer_5 ⟨Nat.le_of_ble_eq_true rfl, Nat.le_of_ble_eq_true rfl⟩) hG (fun r_5 u_5 H locs hp_5 hG => ?_)
  cases r_5 with
  | none =>
    have hz := drA_none hI.1 (hI.w0 (cA := cA) (ob := ob) (mb := mb) (ss := ss) (sh := sh) (sp := sp) (mt := mt) (rc := rc) (n1 := n1) (o1 := o1) (dr1 := dr1) (n2 := n2) (o2 := o2) (dr2 := dr2) (dk := dk) (rk := rk) (kt := kt) (tk := tk)).2.2.2.2 hp_5
    show W p l e rmX11_drawer s m args below meth c _ _ _ _ Q (F0 m 8 ls (.null :: []))
    refine lv_astore_nN (lv' := [(3, .null), (0, .ref (ob 6)), (1, .int i), (2, .int what)]) hF.1 hF.2.1 dX11_drawer_8 rfl hl (by decide) rfl (fun ls hl => ?_)
    refine lv_aload_nN hF.1 hF.2.1 dX11_drawer_9 rfl (lv_at hl 0 rfl) ?_
    refine lv_ifnonnullN hF.1 hF.2.1 dX11_drawer_10 ?_
    refine lv_iconst (v := (-1)) hF.1 hF.2.1 dX11_drawer_13 (by decide +kernel) ?_
    exact hret _ (_, _, _, _, _, _, _, _, _, _, _, _, _, _, _, _, _, _, _, _) _ ls _ _ _ _ (by refine ⟨?_, ⟨⟨rfl, rfl⟩, ⟨rfl, rfl⟩, htk, hI, hJ, ⟨_, _, hM⟩, ⟨_, hX⟩⟩⟩; unfold spDrawer; rw [hz]; rfl) (by first | rfl | exact nar_b2i _) hG (Nat.le_of_ble_eq_true rfl) (Nat.le_of_ble_eq_true rfl) dX11_drawer_14
  | some b =>
    obtain ⟨j, hj, rfl, ej⟩ := drA_some hI.1 hp_5
    obtain ⟨b, e1, hd⟩ := hI.2.2.1 j hj
    obtain rfl := Option.some.inj (ej.symm.trans e1)
    have hk8 := hd.1
    have hf10 := hd.2.1
    show W p l e rmX11_drawer s m args below meth c _ _ _ _ Q (F0 m 8 ls (.ref b :: []))
    refine lv_astore_n (lv' := [(3, .ref b), (0, .ref (ob 6)), (1, .int (nI j)), (2, .int what)]) hF.1 hF.2.1 dX11_drawer_8 rfl hl (by decide) rfl (fun ls hl => ?_)
    refine lv_aload_n hF.1 hF.2.1 dX11_drawer_9 rfl (lv_at hl 0 rfl) ?_
    refine lv_ifnonnull (tgt := 15) hF.1 hF.2.1 dX11_drawer_10 (by decide) ?_
    refine lv_iload_n hF.1 hF.2.1 dX11_drawer_15 rfl (lv_at hl 3 rfl) ?_
    refine sw_by (nI 0) (fun e16_0 => ?_) (fun e16_0 => ?_)
    · --
      refine lv_tableIn (tgt := 48) hF.1 hF.2.1 dX11_drawer_16 (by decide +kernel) (by decide +kernel) rfl (by decide) ?_
      refine lv_aload_n hF.1 hF.2.1 dX11_drawer_48 rfl (lv_at hl 0 rfl) ?_
      have k49 : ∀ (H : Heap) (locs : List Loc), Gd D A (XW cA ob mb ss sh sp mt rc n o dr n1 o1 dr1 n2 o2 dr2 dk rk kt tk pool) s.heap H locs → W p l e rmX11_drawer s m args below meth c H locs 0 0 Q (F0 m 52 ls (.int (nI (kd j)) :: [])) := by
        intro H locs hG
        exact hret _ (_, _, _, _, _, _, _, _, _, _, _, _, _, _, _, _, _, _, _, _) _ ls _ _ _ _ (by refine ⟨?_, ⟨⟨rfl, rfl⟩, ⟨rfl, rfl⟩, htk, hI, hJ, ⟨_, _, hM⟩, ⟨_, hX⟩⟩⟩; unfold spDrawer; rw [if_pos (inB_j (by omega) hj), nI_clamp (by omega), if_pos e16_0]) (by first | rfl | exact nar_b2i _) hG (Nat.le_of_ble_eq_true rfl) (Nat.le_of_ble_eq_true rfl) dX11_drawer_52
      rcases (show kd j = 0 ∨ kd j = 1 ∨ kd j = 2 ∨ kd j = 3 ∨ kd j = 4 ∨ kd j = 5 ∨ kd j = 6 ∨ kd j = 7 by omega) with ek | ek | ek | ek | ek | ek | ek | ek
      · --
        obtain ⟨-, -, q, hb⟩ := (hd.c16 : DR (XW cA ob mb ss sh sp mt rc n o dr n1 o1 dr1 n2 o2 dr2 dk rk kt tk pool) b (kd j) (fg j))
        rw [ek] at hb
        have hb : (XW cA ob mb ss sh sp mt rc n o dr n1 o1 dr1 n2 o2 dr2 dk rk kt tk pool)[q]? = some (b, .inr (0, [.int (nI (fg j))])) := hb
        refine k_ci (r_V (As := []) hF hK hA hG (c_X0_kind) (cwV 0 hF.2.2.2.2 gX11_drawer_X0_kind rfl rfl rfl (by decide +kernel) ⟨Nat.le_of_ble_eq_true rfl, Nat.le_of_ble_eq_true rfl⟩) q hb rfl rfl rfl hl.1 rfl (lv_room (Nat.le_of_ble_eq_true rfl)) dX11_drawer_49 ⟨Nat.le_of_ble_eq_true rfl, Nat.le_of_ble_eq_true rfl⟩) hG (fun r_49 u_49 H locs hp_49 hG => ?_)
        subst hp_49
        have k := k49 _ _ hG
        rw [ek] at k
        exact k
      · --
        obtain ⟨-, -, q, hb⟩ := (hd.c16 : DR (XW cA ob mb ss sh sp mt rc n o dr n1 o1 dr1 n2 o2 dr2 dk rk kt tk pool) b (kd j) (fg j))
        rw [ek] at hb
        have hb : (XW cA ob mb ss sh sp mt rc n o dr n1 o1 dr1 n2 o2 dr2 dk rk kt tk pool)[q]? = some (b, .inr (1, [.int (nI (fg j))])) := hb
        refine k_ci (r_U (As := []) hF hK hA hG (c_X1_kind) (va_cwO 0 hF.2.2.2.2 gX11_drawer_X1_kind_u84X1 rfl rfl rfl (List.mem_of_getElem? (i := 19) rfl) (by decide +kernel) ⟨Nat.le_of_ble_eq_true rfl, Nat.le_of_ble_eq_true rfl⟩) q hb rfl rfl rfl hl.1 rfl (lv_room (Nat.le_of_ble_eq_true rfl)) dX11_drawer_49 ⟨Nat.le_of_ble_eq_true rfl, Nat.le_of_ble_eq_true rfl⟩) hG (fun r_49 u_49 H locs hp_49 hG => ?_)
        subst hp_49
        have k := k49 _ _ hG
        rw [ek] at k
        exact k
      · --
        obtain ⟨-, -, q, hb⟩ := (hd.c16 : DR (XW cA ob mb ss sh sp mt rc n o dr n1 o1 dr1 n2 o2 dr2 dk rk kt tk pool) b (kd j) (fg j))
        rw [ek] at hb
        have hb : (XW cA ob mb ss sh sp mt rc n o dr n1 o1 dr1 n2 o2 dr2 dk rk kt tk pool)[q]? = some (b, .inr (7, [.int (nI (fg j))])) := hb
        refine k_ci (r_U (As := []) hF hK hA hG (c_X7_kind) (va_cwO 0 hF.2.2.2.2 gX11_drawer_X7_kind_u84X7 rfl rfl rfl (List.mem_of_getElem? (i := 19) rfl) (by decide +kernel) ⟨Nat.le_of_ble_eq_true rfl, Nat.le_of_ble_eq_true rfl⟩) q hb rfl rfl rfl hl.1 rfl (lv_room (Nat.le_of_ble_eq_true rfl)) dX11_drawer_49 ⟨Nat.le_of_ble_eq_true rfl, Nat.le_of_ble_eq_true rfl⟩) hG (fun r_49 u_49 H locs hp_49 hG => ?_)
        subst hp_49
        have k := k49 _ _ hG
        rw [ek] at k
        exact k
      · --
        obtain ⟨-, -, q, hb⟩ := (hd.c16 : DR (XW cA ob mb ss sh sp mt rc n o dr n1 o1 dr1 n2 o2 dr2 dk rk kt tk pool) b (kd j) (fg j))
        rw [ek] at hb
        have hb : (XW cA ob mb ss sh sp mt rc n o dr n1 o1 dr1 n2 o2 dr2 dk rk kt tk pool)[q]? = some (b, .inr (8, [.int (nI (fg j))])) := hb
        refine k_ci (r_U (As := []) hF hK hA hG (c_X8_kind) (va_cwO 0 hF.2.2.2.2 gX11_drawer_X8_kind_u84X8 rfl rfl rfl (List.mem_of_getElem? (i := 19) rfl) (by decide +kernel) ⟨Nat.le_of_ble_eq_true rfl, Nat.le_of_ble_eq_true rfl⟩) q hb rfl rfl rfl hl.1 rfl (lv_room (Nat.le_of_ble_eq_true rfl)) dX11_drawer_49 ⟨Nat.le_of_ble_eq_true rfl, Nat.le_of_ble_eq_true rfl⟩) hG (fun r_49 u_49 H locs hp_49 hG => ?_)
        subst hp_49
        have k := k49 _ _ hG
        rw [ek] at k
        exact k
      · --
        obtain ⟨-, -, q, hb⟩ := (hd.c16 : DR (XW cA ob mb ss sh sp mt rc n o dr n1 o1 dr1 n2 o2 dr2 dk rk kt tk pool) b (kd j) (fg j))
        rw [ek] at hb
        have hb : (XW cA ob mb ss sh sp mt rc n o dr n1 o1 dr1 n2 o2 dr2 dk rk kt tk pool)[q]? = some (b, .inr (5, [.int (nI (fg j))])) := hb
        refine k_ci (r_U (As := []) hF hK hA hG (c_X5_kind) (va_cwO 0 hF.2.2.2.2 gX11_drawer_X5_kind_u84X5 rfl rfl rfl (List.mem_of_getElem? (i := 19) rfl) (by decide +kernel) ⟨Nat.le_of_ble_eq_true rfl, Nat.le_of_ble_eq_true rfl⟩) q hb rfl rfl rfl hl.1 rfl (lv_room (Nat.le_of_ble_eq_true rfl)) dX11_drawer_49 ⟨Nat.le_of_ble_eq_true rfl, Nat.le_of_ble_eq_true rfl⟩) hG (fun r_49 u_49 H locs hp_49 hG => ?_)
        subst hp_49
        have k := k49 _ _ hG
        rw [ek] at k
        exact k
      · --
        obtain ⟨-, -, q, hb⟩ := (hd.c16 : DR (XW cA ob mb ss sh sp mt rc n o dr n1 o1 dr1 n2 o2 dr2 dk rk kt tk pool) b (kd j) (fg j))
        rw [ek] at hb
        have hb : (XW cA ob mb ss sh sp mt rc n o dr n1 o1 dr1 n2 o2 dr2 dk rk kt tk pool)[q]? = some (b, .inr (3, [.int (nI (fg j))])) := hb
        refine k_ci (r_U (As := []) hF hK hA hG (c_X3_kind) (va_cwO 0 hF.2.2.2.2 gX11_drawer_X3_kind_u84X3 rfl rfl rfl (List.mem_of_getElem? (i := 19) rfl) (by decide +kernel) ⟨Nat.le_of_ble_eq_true rfl, Nat.le_of_ble_eq_true rfl⟩) q hb rfl rfl rfl hl.1 rfl (lv_room (Nat.le_of_ble_eq_true rfl)) dX11_drawer_49 ⟨Nat.le_of_ble_eq_true rfl, Nat.le_of_ble_eq_true rfl⟩) hG (fun r_49 u_49 H locs hp_49 hG => ?_)
        subst hp_49
        have k := k49 _ _ hG
        rw [ek] at k
        exact k
      · --
        obtain ⟨-, -, q, hb⟩ := (hd.c16 : DR (XW cA ob mb ss sh sp mt rc n o dr n1 o1 dr1 n2 o2 dr2 dk rk kt tk pool) b (kd j) (fg j))
        rw [ek] at hb
        have hb : (XW cA ob mb ss sh sp mt rc n o dr n1 o1 dr1 n2 o2 dr2 dk rk kt tk pool)[q]? = some (b, .inr (4, [.int (nI (fg j))])) := hb
        refine k_ci (r_U (As := []) hF hK hA hG (c_X4_kind) (va_cwO 0 hF.2.2.2.2 gX11_drawer_X4_kind_u84X4 rfl rfl rfl (List.mem_of_getElem? (i := 19) rfl) (by decide +kernel) ⟨Nat.le_of_ble_eq_true rfl, Nat.le_of_ble_eq_true rfl⟩) q hb rfl rfl rfl hl.1 rfl (lv_room (Nat.le_of_ble_eq_true rfl)) dX11_drawer_49 ⟨Nat.le_of_ble_eq_true rfl, Nat.le_of_ble_eq_true rfl⟩) hG (fun r_49 u_49 H locs hp_49 hG => ?_)
        subst hp_49
        have k := k49 _ _ hG
        rw [ek] at k
        exact k
      · --
        obtain ⟨-, -, q, hb⟩ := (hd.c16 : DR (XW cA ob mb ss sh sp mt rc n o dr n1 o1 dr1 n2 o2 dr2 dk rk kt tk pool) b (kd j) (fg j))
        rw [ek] at hb
        have hb : (XW cA ob mb ss sh sp mt rc n o dr n1 o1 dr1 n2 o2 dr2 dk rk kt tk pool)[q]? = some (b, .inr (2, [.int (nI (fg j))])) := hb
        refine k_ci (r_U (As := []) hF hK hA hG (c_X2_kind) (va_cwO 0 hF.2.2.2.2 gX11_drawer_X2_kind_u84X2 rfl rfl rfl (List.mem_of_getElem? (i := 19) rfl) (by decide +kernel) ⟨Nat.le_of_ble_eq_true rfl, Nat.le_of_ble_eq_true rfl⟩) q hb rfl rfl rfl hl.1 rfl (lv_room (Nat.le_of_ble_eq_true rfl)) dX11_drawer_49 ⟨Nat.le_of_ble_eq_true rfl, Nat.le_of_ble_eq_true rfl⟩) hG (fun r_49 u_49 H locs hp_49 hG => ?_)
        subst hp_49
        have k := k49 _ _ hG
        rw [ek] at k
        exact k
    refine sw_by (nI 1) (fun e16_1 => ?_) (fun e16_1 => ?_)
    · --
      refine lv_tableIn (tgt := 53) hF.1 hF.2.1 dX11_drawer_16 (by decide +kernel) (by decide +kernel) rfl (by decide) ?_
      rcases (show kd j = 0 ∨ kd j = 1 ∨ kd j = 2 ∨ kd j = 3 ∨ kd j = 4 ∨ kd j = 5 ∨ kd j = 6 ∨ kd j = 7 by omega) with ek | ek | ek | ek | ek | ek | ek | ek
      · --
        obtain ⟨-, -, q, hb⟩ := (hd.c16 : DR (XW cA ob mb ss sh sp mt rc n o dr n1 o1 dr1 n2 o2 dr2 dk rk kt tk pool) b (kd j) (fg j))
        rw [ek] at hb
        have hb : (XW cA ob mb ss sh sp mt rc n o dr n1 o1 dr1 n2 o2 dr2 dk rk kt tk pool)[q]? = some (b, .inr (0, [.int (nI (fg j))])) := hb
        refine lv_aload_n hF.1 hF.2.1 dX11_drawer_53 rfl (lv_at hl 0 rfl) ?_
        refine k_get (C := RX0) (T := TX0) (N := 1) hF hK hG (fun _ h => List.mem_cons_of_mem _ (List.mem_append_left _ (List.mem_append_left _ (List.mem_append_left _ (List.mem_append_left _ (List.mem_append_left _ (List.mem_append_left _ (List.mem_append_left _ (List.mem_append_left _ (List.mem_append_right _ h)))))))))) q hb rfl 0 (by decide) (List.mem_of_getElem? (i := 2) rfl) (fun _ h9 => h9) rfl dX11_drawer_54 ?_
        exact hret _ (_, _, _, _, _, _, _, _, _, _, _, _, _, _, _, _, _, _, _, _) _ ls _ _ _ _ (by refine ⟨?_, ⟨⟨rfl, rfl⟩, ⟨rfl, rfl⟩, htk, hI, hJ, ⟨_, _, hM⟩, ⟨_, hX⟩⟩⟩; unfold spDrawer; rw [if_pos (inB_j (by omega) hj), nI_clamp (by omega), if_neg e16_0, if_pos e16_1]) (by first | rfl | exact nar_b2i _) hG (Nat.le_of_ble_eq_true rfl) (Nat.le_of_ble_eq_true rfl) dX11_drawer_57
      · --
        obtain ⟨-, -, q, hb⟩ := (hd.c16 : DR (XW cA ob mb ss sh sp mt rc n o dr n1 o1 dr1 n2 o2 dr2 dk rk kt tk pool) b (kd j) (fg j))
        rw [ek] at hb
        have hb : (XW cA ob mb ss sh sp mt rc n o dr n1 o1 dr1 n2 o2 dr2 dk rk kt tk pool)[q]? = some (b, .inr (1, [.int (nI (fg j))])) := hb
        refine lv_aload_n hF.1 hF.2.1 dX11_drawer_53 rfl (lv_at hl 0 rfl) ?_
        refine k_get (C := RX1) (T := TX1) (N := 1) hF hK hG (fun _ h => List.mem_cons_of_mem _ (List.mem_append_left _ (List.mem_append_left _ (List.mem_append_left _ (List.mem_append_left _ (List.mem_append_left _ (List.mem_append_left _ (List.mem_append_left _ (List.mem_append_right _ h))))))))) q hb rfl 0 (by decide) (List.mem_of_getElem? (i := 2) rfl) (fun _ h9 => h9) rfl dX11_drawer_54 ?_
        exact hret _ (_, _, _, _, _, _, _, _, _, _, _, _, _, _, _, _, _, _, _, _) _ ls _ _ _ _ (by refine ⟨?_, ⟨⟨rfl, rfl⟩, ⟨rfl, rfl⟩, htk, hI, hJ, ⟨_, _, hM⟩, ⟨_, hX⟩⟩⟩; unfold spDrawer; rw [if_pos (inB_j (by omega) hj), nI_clamp (by omega), if_neg e16_0, if_pos e16_1]) (by first | rfl | exact nar_b2i _) hG (Nat.le_of_ble_eq_true rfl) (Nat.le_of_ble_eq_true rfl) dX11_drawer_57
      · --
        obtain ⟨-, -, q, hb⟩ := (hd.c16 : DR (XW cA ob mb ss sh sp mt rc n o dr n1 o1 dr1 n2 o2 dr2 dk rk kt tk pool) b (kd j) (fg j))
        rw [ek] at hb
        have hb : (XW cA ob mb ss sh sp mt rc n o dr n1 o1 dr1 n2 o2 dr2 dk rk kt tk pool)[q]? = some (b, .inr (7, [.int (nI (fg j))])) := hb
        refine lv_aload_n hF.1 hF.2.1 dX11_drawer_53 rfl (lv_at hl 0 rfl) ?_
        refine k_get (C := RX7) (T := TX7) (N := 1) hF hK hG (fun _ h => List.mem_cons_of_mem _ (List.mem_append_left _ (List.mem_append_left _ (List.mem_append_right _ h)))) q hb rfl 0 (by decide) (List.mem_of_getElem? (i := 2) rfl) (fun _ h9 => h9) rfl dX11_drawer_54 ?_
        exact hret _ (_, _, _, _, _, _, _, _, _, _, _, _, _, _, _, _, _, _, _, _) _ ls _ _ _ _ (by refine ⟨?_, ⟨⟨rfl, rfl⟩, ⟨rfl, rfl⟩, htk, hI, hJ, ⟨_, _, hM⟩, ⟨_, hX⟩⟩⟩; unfold spDrawer; rw [if_pos (inB_j (by omega) hj), nI_clamp (by omega), if_neg e16_0, if_pos e16_1]) (by first | rfl | exact nar_b2i _) hG (Nat.le_of_ble_eq_true rfl) (Nat.le_of_ble_eq_true rfl) dX11_drawer_57
      · --
        obtain ⟨-, -, q, hb⟩ := (hd.c16 : DR (XW cA ob mb ss sh sp mt rc n o dr n1 o1 dr1 n2 o2 dr2 dk rk kt tk pool) b (kd j) (fg j))
        rw [ek] at hb
        have hb : (XW cA ob mb ss sh sp mt rc n o dr n1 o1 dr1 n2 o2 dr2 dk rk kt tk pool)[q]? = some (b, .inr (8, [.int (nI (fg j))])) := hb
        refine lv_aload_n hF.1 hF.2.1 dX11_drawer_53 rfl (lv_at hl 0 rfl) ?_
        refine k_get (C := RX8) (T := TX8) (N := 1) hF hK hG (fun _ h => List.mem_cons_of_mem _ (List.mem_append_left _ (List.mem_append_right _ h))) q hb rfl 0 (by decide) (List.mem_of_getElem? (i := 2) rfl) (fun _ h9 => h9) rfl dX11_drawer_54 ?_
        exact hret _ (_, _, _, _, _, _, _, _, _, _, _, _, _, _, _, _, _, _, _, _) _ ls _ _ _ _ (by refine ⟨?_, ⟨⟨rfl, rfl⟩, ⟨rfl, rfl⟩, htk, hI, hJ, ⟨_, _, hM⟩, ⟨_, hX⟩⟩⟩; unfold spDrawer; rw [if_pos (inB_j (by omega) hj), nI_clamp (by omega), if_neg e16_0, if_pos e16_1]) (by first | rfl | exact nar_b2i _) hG (Nat.le_of_ble_eq_true rfl) (Nat.le_of_ble_eq_true rfl) dX11_drawer_57
      · --
        obtain ⟨-, -, q, hb⟩ := (hd.c16 : DR (XW cA ob mb ss sh sp mt rc n o dr n1 o1 dr1 n2 o2 dr2 dk rk kt tk pool) b (kd j) (fg j))
        rw [ek] at hb
        have hb : (XW cA ob mb ss sh sp mt rc n o dr n1 o1 dr1 n2 o2 dr2 dk rk kt tk pool)[q]? = some (b, .inr (5, [.int (nI (fg j))])) := hb
        refine lv_aload_n hF.1 hF.2.1 dX11_drawer_53 rfl (lv_at hl 0 rfl) ?_
        refine k_get (C := RX5) (T := TX5) (N := 1) hF hK hG (fun _ h => List.mem_cons_of_mem _ (List.mem_append_left _ (List.mem_append_left _ (List.mem_append_left _ (List.mem_append_right _ h))))) q hb rfl 0 (by decide) (List.mem_of_getElem? (i := 2) rfl) (fun _ h9 => h9) rfl dX11_drawer_54 ?_
        exact hret _ (_, _, _, _, _, _, _, _, _, _, _, _, _, _, _, _, _, _, _, _) _ ls _ _ _ _ (by refine ⟨?_, ⟨⟨rfl, rfl⟩, ⟨rfl, rfl⟩, htk, hI, hJ, ⟨_, _, hM⟩, ⟨_, hX⟩⟩⟩; unfold spDrawer; rw [if_pos (inB_j (by omega) hj), nI_clamp (by omega), if_neg e16_0, if_pos e16_1]) (by first | rfl | exact nar_b2i _) hG (Nat.le_of_ble_eq_true rfl) (Nat.le_of_ble_eq_true rfl) dX11_drawer_57
      · --
        obtain ⟨-, -, q, hb⟩ := (hd.c16 : DR (XW cA ob mb ss sh sp mt rc n o dr n1 o1 dr1 n2 o2 dr2 dk rk kt tk pool) b (kd j) (fg j))
        rw [ek] at hb
        have hb : (XW cA ob mb ss sh sp mt rc n o dr n1 o1 dr1 n2 o2 dr2 dk rk kt tk pool)[q]? = some (b, .inr (3, [.int (nI (fg j))])) := hb
        refine lv_aload_n hF.1 hF.2.1 dX11_drawer_53 rfl (lv_at hl 0 rfl) ?_
        refine k_get (C := RX3) (T := TX3) (N := 1) hF hK hG (fun _ h => List.mem_cons_of_mem _ (List.mem_append_left _ (List.mem_append_left _ (List.mem_append_left _ (List.mem_append_left _ (List.mem_append_left _ (List.mem_append_right _ h))))))) q hb rfl 0 (by decide) (List.mem_of_getElem? (i := 2) rfl) (fun _ h9 => h9) rfl dX11_drawer_54 ?_
        exact hret _ (_, _, _, _, _, _, _, _, _, _, _, _, _, _, _, _, _, _, _, _) _ ls _ _ _ _ (by refine ⟨?_, ⟨⟨rfl, rfl⟩, ⟨rfl, rfl⟩, htk, hI, hJ, ⟨_, _, hM⟩, ⟨_, hX⟩⟩⟩; unfold spDrawer; rw [if_pos (inB_j (by omega) hj), nI_clamp (by omega), if_neg e16_0, if_pos e16_1]) (by first | rfl | exact nar_b2i _) hG (Nat.le_of_ble_eq_true rfl) (Nat.le_of_ble_eq_true rfl) dX11_drawer_57
      · --
        obtain ⟨-, -, q, hb⟩ := (hd.c16 : DR (XW cA ob mb ss sh sp mt rc n o dr n1 o1 dr1 n2 o2 dr2 dk rk kt tk pool) b (kd j) (fg j))
        rw [ek] at hb
        have hb : (XW cA ob mb ss sh sp mt rc n o dr n1 o1 dr1 n2 o2 dr2 dk rk kt tk pool)[q]? = some (b, .inr (4, [.int (nI (fg j))])) := hb
        refine lv_aload_n hF.1 hF.2.1 dX11_drawer_53 rfl (lv_at hl 0 rfl) ?_
        refine k_get (C := RX4) (T := TX4) (N := 1) hF hK hG (fun _ h => List.mem_cons_of_mem _ (List.mem_append_left _ (List.mem_append_left _ (List.mem_append_left _ (List.mem_append_left _ (List.mem_append_right _ h)))))) q hb rfl 0 (by decide) (List.mem_of_getElem? (i := 2) rfl) (fun _ h9 => h9) rfl dX11_drawer_54 ?_
        exact hret _ (_, _, _, _, _, _, _, _, _, _, _, _, _, _, _, _, _, _, _, _) _ ls _ _ _ _ (by refine ⟨?_, ⟨⟨rfl, rfl⟩, ⟨rfl, rfl⟩, htk, hI, hJ, ⟨_, _, hM⟩, ⟨_, hX⟩⟩⟩; unfold spDrawer; rw [if_pos (inB_j (by omega) hj), nI_clamp (by omega), if_neg e16_0, if_pos e16_1]) (by first | rfl | exact nar_b2i _) hG (Nat.le_of_ble_eq_true rfl) (Nat.le_of_ble_eq_true rfl) dX11_drawer_57
      · --
        obtain ⟨-, -, q, hb⟩ := (hd.c16 : DR (XW cA ob mb ss sh sp mt rc n o dr n1 o1 dr1 n2 o2 dr2 dk rk kt tk pool) b (kd j) (fg j))
        rw [ek] at hb
        have hb : (XW cA ob mb ss sh sp mt rc n o dr n1 o1 dr1 n2 o2 dr2 dk rk kt tk pool)[q]? = some (b, .inr (2, [.int (nI (fg j))])) := hb
        refine lv_aload_n hF.1 hF.2.1 dX11_drawer_53 rfl (lv_at hl 0 rfl) ?_
        refine k_get (C := RX2) (T := TX2) (N := 1) hF hK hG (fun _ h => List.mem_cons_of_mem _ (List.mem_append_left _ (List.mem_append_left _ (List.mem_append_left _ (List.mem_append_left _ (List.mem_append_left _ (List.mem_append_left _ (List.mem_append_right _ h)))))))) q hb rfl 0 (by decide) (List.mem_of_getElem? (i := 2) rfl) (fun _ h9 => h9) rfl dX11_drawer_54 ?_
        exact hret _ (_, _, _, _, _, _, _, _, _, _, _, _, _, _, _, _, _, _, _, _) _ ls _ _ _ _ (by refine ⟨?_, ⟨⟨rfl, rfl⟩, ⟨rfl, rfl⟩, htk, hI, hJ, ⟨_, _, hM⟩, ⟨_, hX⟩⟩⟩; unfold spDrawer; rw [if_pos (inB_j (by omega) hj), nI_clamp (by omega), if_neg e16_0, if_pos e16_1]) (by first | rfl | exact nar_b2i _) hG (Nat.le_of_ble_eq_true rfl) (Nat.le_of_ble_eq_true rfl) dX11_drawer_57
    refine sw_by (nI 2) (fun e16_2 => ?_) (fun e16_2 => ?_)
    · --
      refine lv_tableIn (tgt := 58) hF.1 hF.2.1 dX11_drawer_16 (by decide +kernel) (by decide +kernel) rfl (by decide) ?_
      refine lv_aload_n hF.1 hF.2.1 dX11_drawer_58 rfl (lv_at hl 1 rfl) ?_
      refine k_get (C := RX11) (T := TX11) (N := 8) hF hK hG (fun _ h => List.mem_cons_of_mem _ (List.mem_append_left _ (List.mem_append_left _ (List.mem_append_left _ (List.mem_append_left _ (List.mem_append_left _ (List.mem_append_left _ (List.mem_append_left _ (List.mem_append_left _ (List.mem_append_left _ (List.mem_append_right _ h))))))))))) 6 rfl rfl 0 (by decide) (List.mem_of_getElem? (i := 1) rfl) (fun _ h9 => h9) rfl dX11_drawer_59 ?_
      refine k_get (C := RX9) (T := TX9) (N := 3) hF hK hG (fun _ h => List.mem_cons_of_mem _ (List.mem_append_right _ h)) 7 rfl rfl 2 (by decide) (List.mem_of_getElem? (i := 3) rfl) (fun _ h9 => h9) rfl dX11_drawer_62 ?_
      refine lv_iload_n hF.1 hF.2.1 dX11_drawer_65 rfl (lv_at hl 2 rfl) ?_
      refine k_ci (r_S (As := [.int (nI o), .int (nI j)]) hF hK hA hG (c_X11_isOpen ho (show j < 64 by omega)) (cwS 2 hF.2.2.2.2 gX11_drawer_X11_isOpen rfl rfl rfl (by decide +kernel) ⟨Nat.le_of_ble_eq_true rfl, Nat.le_of_ble_eq_true rfl⟩) rfl hl.1 rfl (lv_room (Nat.le_of_ble_eq_true rfl)) dX11_drawer_66 ⟨Nat.le_of_ble_eq_true rfl, Nat.le_of_ble_eq_true rfl⟩) hG (fun r_66 u_66 H locs hp_66 hG => ?_)
      subst hp_66
      refine lv_if_eq (tgt := 76) hF.1 hF.2.1 dX11_drawer_69 (by decide) (fun c_69 => ?_) (fun c_69 => ?_)
      · --
        have n_69 : ((decide (j < 6) && o.testBit j)) = false := b2i_z.mp c_69
        rw [decide_eq_true (show j < 6 by omega), Bool.true_and] at n_69
        refine lv_iconst (v := (nI 0)) hF.1 hF.2.1 dX11_drawer_76 (by decide +kernel) ?_
        exact hret _ (_, _, _, _, _, _, _, _, _, _, _, _, _, _, _, _, _, _, _, _) _ ls _ _ _ _ (by refine ⟨?_, ⟨⟨rfl, rfl⟩, ⟨rfl, rfl⟩, htk, hI, hJ, ⟨_, _, hM⟩, ⟨_, hX⟩⟩⟩; unfold spDrawer; rw [if_pos (inB_j (by omega) hj), nI_clamp (by omega), if_neg e16_0, if_neg e16_1, if_pos e16_2, n_69]; rfl) (by first | rfl | exact nar_b2i _) hG (Nat.le_of_ble_eq_true rfl) (Nat.le_of_ble_eq_true rfl) dX11_drawer_77
      · --
        have n_69 : ((decide (j < 6) && o.testBit j)) = true := b2i_nz.mp c_69
        rw [decide_eq_true (show j < 6 by omega), Bool.true_and] at n_69
        refine lv_iconst (v := (nI 1)) hF.1 hF.2.1 dX11_drawer_72 (by decide +kernel) ?_
        refine lv_goto (tgt := 77) hF.1 hF.2.1 dX11_drawer_73 (by decide) ?_
        exact hret _ (_, _, _, _, _, _, _, _, _, _, _, _, _, _, _, _, _, _, _, _) _ ls _ _ _ _ (by refine ⟨?_, ⟨⟨rfl, rfl⟩, ⟨rfl, rfl⟩, htk, hI, hJ, ⟨_, _, hM⟩, ⟨_, hX⟩⟩⟩; unfold spDrawer; rw [if_pos (inB_j (by omega) hj), nI_clamp (by omega), if_neg e16_0, if_neg e16_1, if_pos e16_2, n_69]; rfl) (by first | rfl | exact nar_b2i _) hG (Nat.le_of_ble_eq_true rfl) (Nat.le_of_ble_eq_true rfl) dX11_drawer_77
    refine sw_by (nI 3) (fun e16_3 => ?_) (fun e16_3 => ?_)
    · --
      refine lv_tableIn (tgt := 78) hF.1 hF.2.1 dX11_drawer_16 (by decide +kernel) (by decide +kernel) rfl (by decide) ?_
      refine lv_aload_n hF.1 hF.2.1 dX11_drawer_78 rfl (lv_at hl 1 rfl) ?_
      refine k_get (C := RX11) (T := TX11) (N := 8) hF hK hG (fun _ h => List.mem_cons_of_mem _ (List.mem_append_left _ (List.mem_append_left _ (List.mem_append_left _ (List.mem_append_left _ (List.mem_append_left _ (List.mem_append_left _ (List.mem_append_left _ (List.mem_append_left _ (List.mem_append_left _ (List.mem_append_right _ h))))))))))) 6 rfl rfl 0 (by decide) (List.mem_of_getElem? (i := 1) rfl) (fun _ h9 => h9) rfl dX11_drawer_79 ?_
      refine lv_iload_n hF.1 hF.2.1 dX11_drawer_82 rfl (lv_at hl 2 rfl) ?_
      refine lv_aload_n hF.1 hF.2.1 dX11_drawer_83 rfl (lv_at hl 1 rfl) ?_
      refine k_get (C := RX11) (T := TX11) (N := 8) hF hK hG (fun _ h => List.mem_cons_of_mem _ (List.mem_append_left _ (List.mem_append_left _ (List.mem_append_left _ (List.mem_append_left _ (List.mem_append_left _ (List.mem_append_left _ (List.mem_append_left _ (List.mem_append_left _ (List.mem_append_left _ (List.mem_append_right _ h))))))))))) 6 rfl rfl 0 (by decide) (List.mem_of_getElem? (i := 1) rfl) (fun _ h9 => h9) rfl dX11_drawer_84 ?_
      refine k_get (C := RX9) (T := TX9) (N := 3) hF hK hG (fun _ h => List.mem_cons_of_mem _ (List.mem_append_right _ h)) 7 rfl rfl 2 (by decide) (List.mem_of_getElem? (i := 3) rfl) (fun _ h9 => h9) rfl dX11_drawer_87 ?_
      refine k_ci (r_V (As := [.int (nI j), .int (nI o)]) hF hK hA hG (c_X9_may hI.w0 ho) (cwV 2 hF.2.2.2.2 gX11_drawer_X9_may rfl rfl rfl (by decide +kernel) ⟨Nat.le_of_ble_eq_true rfl, Nat.le_of_ble_eq_true rfl⟩) 7 rfl rfl rfl rfl hl.1 rfl (lv_room (Nat.le_of_ble_eq_true rfl)) dX11_drawer_90 ⟨Nat.le_of_ble_eq_true rfl, Nat.le_of_ble_eq_true rfl⟩) hG (fun r_90 u_90 H locs hp_90 hG => ?_)
      subst hp_90
      refine lv_if_eq (tgt := 100) hF.1 hF.2.1 dX11_drawer_93 (by decide) (fun c_93 => ?_) (fun c_93 => ?_)
      · --
        have n_93 : (mayZ n kd fg (nI j) o) = false := b2i_z.mp c_93
        rw [mayZ_t hn hj] at n_93
        refine lv_iconst (v := (nI 0)) hF.1 hF.2.1 dX11_drawer_100 (by decide +kernel) ?_
        exact hret _ (_, _, _, _, _, _, _, _, _, _, _, _, _, _, _, _, _, _, _, _) _ ls _ _ _ _ (by refine ⟨?_, ⟨⟨rfl, rfl⟩, ⟨rfl, rfl⟩, htk, hI, hJ, ⟨_, _, hM⟩, ⟨_, hX⟩⟩⟩; unfold spDrawer; rw [if_pos (inB_j (by omega) hj), nI_clamp (by omega), if_neg e16_0, if_neg e16_1, if_neg e16_2, if_pos e16_3, n_93]; rfl) (by first | rfl | exact nar_b2i _) hG (Nat.le_of_ble_eq_true rfl) (Nat.le_of_ble_eq_true rfl) dX11_drawer_101
      · --
        have n_93 : (mayZ n kd fg (nI j) o) = true := b2i_nz.mp c_93
        rw [mayZ_t hn hj] at n_93
        refine lv_iconst (v := (nI 1)) hF.1 hF.2.1 dX11_drawer_96 (by decide +kernel) ?_
        refine lv_goto (tgt := 101) hF.1 hF.2.1 dX11_drawer_97 (by decide) ?_
        exact hret _ (_, _, _, _, _, _, _, _, _, _, _, _, _, _, _, _, _, _, _, _) _ ls _ _ _ _ (by refine ⟨?_, ⟨⟨rfl, rfl⟩, ⟨rfl, rfl⟩, htk, hI, hJ, ⟨_, _, hM⟩, ⟨_, hX⟩⟩⟩; unfold spDrawer; rw [if_pos (inB_j (by omega) hj), nI_clamp (by omega), if_neg e16_0, if_neg e16_1, if_neg e16_2, if_pos e16_3, n_93]; rfl) (by first | rfl | exact nar_b2i _) hG (Nat.le_of_ble_eq_true rfl) (Nat.le_of_ble_eq_true rfl) dX11_drawer_101
    refine lv_tableOut (tgt := 102) hF.1 hF.2.1 dX11_drawer_16 (by have q_0 := lv_neT e16_0 (a := 0) (by decide +kernel); have q_1 := lv_neT e16_1 (a := 1) (by decide +kernel); have q_2 := lv_neT e16_2 (a := 2) (by decide +kernel); have q_3 := lv_neT e16_3 (a := 3) (by decide +kernel); omega) (by decide) ?_
    refine lv_iconst (v := (-1)) hF.1 hF.2.1 dX11_drawer_102 (by decide +kernel) ?_
    exact hret _ (_, _, _, _, _, _, _, _, _, _, _, _, _, _, _, _, _, _, _, _) _ ls _ _ _ _ (by refine ⟨?_, ⟨⟨rfl, rfl⟩, ⟨rfl, rfl⟩, htk, hI, hJ, ⟨_, _, hM⟩, ⟨_, hX⟩⟩⟩; unfold spDrawer; rw [if_pos (inB_j (by omega) hj), nI_clamp (by omega), if_neg e16_0, if_neg e16_1, if_neg e16_2, if_neg e16_3]) (by first | rfl | exact nar_b2i _) hG (Nat.le_of_ble_eq_true rfl) (Nat.le_of_ble_eq_true rfl) dX11_drawer_103

abbrev rmX11_comes : Room := { frames := 4, cells := 0, slots := 0, locals := 83 }
set_option maxHeartbeats 4000000 in
set_option maxRecDepth 100000 in
theorem c_X11_comes {l : Launch} {D : va_G} {cA : Nat → ClassId} {A : Nat → Prop}  {ob : Nat → Nat} {mb ss sh sp : Nat → Int32} {mt : Nat → Int64} {rc n o : Nat} {dr : Nat → Option Nat} {n1 o1 : Nat} {dr1 : Nat → Option Nat} {n2 o2 : Nat} {dr2 dk rk : Nat → Option Nat} {kt : Nat → Int32} {tk : Int32} {pool : va_W} {kd fg : Nat → Nat} (hI : WI pool n o dr kd fg) {kd1 fg1 : Nat → Nat} (hJ : WI pool n1 o1 dr1 kd1 fg1) {kd2 fg2 : Nat → Nat} (hM : WI pool n2 o2 dr2 kd2 fg2) {x : Nat → Sf} {P : Nat → Nat} (hX : SX cA pool dk rk x P) {tkb : Bool} (htk : tk = b2i tkb) {d : Int32} : Met l yX11_comes wsX11_comes rmX11_comes (va_Pc [.ref (ob 6), .int d] (Pre D cA A (XW cA ob mb ss sh sp mt rc n o dr n1 o1 dr1 n2 o2 dr2 dk rk kt tk pool))) (va_Qi (fun r (u : XS) => (r = (spComes n o kd fg (sfA x d)).1) ∧ XI cA u (spComes n o kd fg (sfA x d)).2 (n1, o1, kd1, fg1) tkb x) (fun u t => Wd D A ((fun (u : XS) => XV cA ob u) u) t) A) (0) (0) A := by
  refine k_ofi (S := XS) (F := fun (u : XS) => XV cA ob u) (cc := cX11_comes) (maxL := 4) (by decide) rfl (Nat.le_of_ble_eq_true rfl) ?_
  intro p e s m args below meth c Q hF hini hK hA hG hret ls hl
  have hl : lv_has ls 4 [(0, .ref (ob 6)), (1, .int d)] := hl
  have hn : n ≤ 6 := hI.1
  have ho : o < 64 := hI.o64
  have hp2 : 2 ^ n ≤ 64 := Nat.pow_le_pow_right (by decide) hn
  have hp1 : 1 ≤ 2 ^ n := Nat.one_le_two_pow
  refine lv_aload_n hF.1 hF.2.1 dX11_comes_0 rfl (lv_at hl 0 rfl) ?_
  refine lv_iload_n hF.1 hF.2.1 dX11_comes_1 rfl (lv_at hl 1 rfl) ?_
  refine k_cq (r_V (As := [.int d]) hF hK hA hG (c_X11_drawerOn) (cwV 1 hF.2.2.2.2 gX11_comes_X11_drawerOn rfl rfl rfl (by decide +kernel) ⟨Nat.le_of_ble_eq_true rfl, Nat.le_of_ble_eq_true rfl⟩) 6 rfl rfl rfl rfl hl.1 rfl (lv_room (Nat.le_of_ble_eq_true rfl)) dX11_comes_2 ⟨Nat.le_of_ble_eq_true rfl, Nat.le_of_ble_eq_true rfl⟩) hG (fun r_2 u_2 H locs hp_2 hG => ?_)
  cases r_2 with
  | none =>
    show W p l e rmX11_comes s m args below meth c _ _ _ _ Q (F0 m 5 ls (.null :: []))
    refine lv_astore_nN (lv' := [(2, .null), (0, .ref (ob 6)), (1, .int d)]) hF.1 hF.2.1 dX11_comes_5 rfl hl (by decide) rfl (fun ls hl => ?_)
    refine lv_aload_nN hF.1 hF.2.1 dX11_comes_6 rfl (lv_at hl 0 rfl) ?_
    refine lv_ifnonnullN hF.1 hF.2.1 dX11_comes_7 ?_
    refine lv_aload_n hF.1 hF.2.1 dX11_comes_10 rfl (lv_at hl 1 rfl) ?_
    refine lv_iload_n hF.1 hF.2.1 dX11_comes_11 rfl (lv_at hl 2 rfl) ?_
    refine k_ci (r_V (As := [.int d]) hF hK hA hG (c_X11_lacking hX) (cwV 1 hF.2.2.2.2 gX11_comes_X11_lacking rfl rfl rfl (by decide +kernel) ⟨Nat.le_of_ble_eq_true rfl, Nat.le_of_ble_eq_true rfl⟩) 6 rfl rfl rfl rfl hl.1 rfl (lv_room (Nat.le_of_ble_eq_true rfl)) dX11_comes_12 ⟨Nat.le_of_ble_eq_true rfl, Nat.le_of_ble_eq_true rfl⟩) hG (fun r_12 u_12 H locs hp_12 hG => ?_)
    subst hp_12
    exact hret _ (_, _, _, _, _, _, _, _, _, _, _, _, _, _, _, _, _, _, _, _) _ ls _ _ _ _ (by rw [spComes_n (shA_n hX hp_2).2]; exact ⟨(shA_n hX hp_2).1, ⟨⟨rfl, rfl⟩, ⟨rfl, rfl⟩, htk, hI, hJ, ⟨_, _, hM⟩, ⟨_, hX⟩⟩⟩) (by first | rfl | exact nar_b2i _) hG (Nat.le_of_ble_eq_true rfl) (Nat.le_of_ble_eq_true rfl) dX11_comes_15
  | some b =>
    obtain ⟨jd, z, hjd, rfl, hx, hds⟩ := shA_s hX hp_2
    show W p l e rmX11_comes s m args below meth c _ _ _ _ Q (F0 m 5 ls (.ref b :: []))
    refine lv_astore_n (lv' := [(2, .ref b), (0, .ref (ob 6)), (1, .int (nI jd))]) hF.1 hF.2.1 dX11_comes_5 rfl hl (by decide) rfl (fun ls hl => ?_)
    refine lv_aload_n hF.1 hF.2.1 dX11_comes_6 rfl (lv_at hl 0 rfl) ?_
    refine lv_ifnonnull (tgt := 16) hF.1 hF.2.1 dX11_comes_7 (by decide) ?_
    refine lv_aload_n hF.1 hF.2.1 dX11_comes_16 rfl (lv_at hl 1 rfl) ?_
    refine k_get (C := RX11) (T := TX11) (N := 8) hF hK hG (fun _ h => List.mem_cons_of_mem _ (List.mem_append_left _ (List.mem_append_right _ h))) 6 rfl rfl 0 (by decide) (List.mem_of_getElem? (i := 1) rfl) (fun _ h9 => h9) rfl dX11_comes_17 ?_
    refine k_get (C := RX9) (T := TX9) (N := 3) hF hK hG (fun _ h => List.mem_cons_of_mem _ (List.mem_append_right _ h)) 7 rfl rfl 1 (by decide) (List.mem_of_getElem? (i := 2) rfl) (fun _ h9 => h9) rfl dX11_comes_20 ?_
    refine lv_istore_n (lv' := [(3, .int (nI n)), (2, .ref b), (0, .ref (ob 6)), (1, .int (nI jd))]) hF.1 hF.2.1 dX11_comes_23 rfl hl (by decide) rfl (fun ls hl => ?_)
    rcases Nat.lt_or_ge n 6 with h6 | h6
    · --
      refine lv_aload_n hF.1 hF.2.1 dX11_comes_24 rfl (lv_at hl 2 rfl) ?_
      refine k_get (C := RX11) (T := TX11) (N := 8) hF hK hG (fun _ h => List.mem_cons_of_mem _ (List.mem_append_left _ (List.mem_append_right _ h))) 6 rfl rfl 0 (by decide) (List.mem_of_getElem? (i := 1) rfl) (fun _ h9 => h9) rfl dX11_comes_25 ?_
      refine lv_aload_n hF.1 hF.2.1 dX11_comes_28 rfl (lv_at hl 1 rfl) ?_
      refine k_ci (r_V (As := [.ref b]) hF hK hA hG (c_X9_add_t hI.w0 hds.c16 h6) (cwV 1 hF.2.2.2.2 gX11_comes_X9_add rfl rfl rfl (by decide +kernel) ⟨Nat.le_of_ble_eq_true rfl, Nat.le_of_ble_eq_true rfl⟩) 7 rfl rfl rfl rfl hl.1 rfl (lv_room (Nat.le_of_ble_eq_true rfl)) dX11_comes_29 ⟨Nat.le_of_ble_eq_true rfl, Nat.le_of_ble_eq_true rfl⟩) hG (fun r_29 u_29 H locs hp_29 hG => ?_)
      subst hp_29
      have hG : Gd D A (XW cA ob mb ss sh sp mt rc (n + 1) o (va_up dr n (some b)) n1 o1 dr1 n2 o2 dr2 dk rk kt tk pool) s.heap H locs := hG
      refine lv_if_eq (tgt := 39) hF.1 hF.2.1 dX11_comes_32 (by decide) (fun c_32 => absurd c_32 (by decide +kernel)) (fun c_32 => ?_)
      refine lv_iload_n hF.1 hF.2.1 dX11_comes_35 rfl (lv_at hl 0 rfl) ?_
      refine lv_goto (tgt := 41) hF.1 hF.2.1 dX11_comes_36 (by decide) ?_
      exact hret _ (_, _, _, _, _, _, _, _, _, _, _, _, _, _, _, _, _, _, _, _) _ ls _ _ _ _ (by rw [sfA_j x hjd, hx]; first | (rw [spComes_t h6]; exact ⟨rfl, ⟨⟨rfl, rfl⟩, ⟨rfl, rfl⟩, htk, hI.add h6 hds, hJ, ⟨_, _, hM⟩, ⟨_, hX⟩⟩⟩) | (rw [spComes_f (by omega)]; exact ⟨rfl, ⟨⟨rfl, rfl⟩, ⟨rfl, rfl⟩, htk, hI, hJ, ⟨_, _, hM⟩, ⟨_, hX⟩⟩⟩)) (by first | rfl | exact nar_b2i _) hG (Nat.le_of_ble_eq_true rfl) (Nat.le_of_ble_eq_true rfl) dX11_comes_41
    · --
      refine lv_aload_n hF.1 hF.2.1 dX11_comes_24 rfl (lv_at hl 2 rfl) ?_
      refine k_get (C := RX11) (T := TX11) (N := 8) hF hK hG (fun _ h => List.mem_cons_of_mem _ (List.mem_append_left _ (List.mem_append_right _ h))) 6 rfl rfl 0 (by decide) (List.mem_of_getElem? (i := 1) rfl) (fun _ h9 => h9) rfl dX11_comes_25 ?_
      refine lv_aload_n hF.1 hF.2.1 dX11_comes_28 rfl (lv_at hl 1 rfl) ?_
      refine k_ci (r_V (As := [.ref b]) hF hK hA hG (c_X9_add_f hI.w0 (by omega)) (cwV 1 hF.2.2.2.2 gX11_comes_X9_add rfl rfl rfl (by decide +kernel) ⟨Nat.le_of_ble_eq_true rfl, Nat.le_of_ble_eq_true rfl⟩) 7 rfl rfl rfl rfl hl.1 rfl (lv_room (Nat.le_of_ble_eq_true rfl)) dX11_comes_29 ⟨Nat.le_of_ble_eq_true rfl, Nat.le_of_ble_eq_true rfl⟩) hG (fun r_29 u_29 H locs hp_29 hG => ?_)
      subst hp_29
      refine lv_if_eq (tgt := 39) hF.1 hF.2.1 dX11_comes_32 (by decide) (fun c_32 => ?_) (fun c_32 => absurd rfl c_32)
      refine lv_bipush (v := (-2)) hF.1 hF.2.1 dX11_comes_39 (by decide +kernel) ?_
      exact hret _ (_, _, _, _, _, _, _, _, _, _, _, _, _, _, _, _, _, _, _, _) _ ls _ _ _ _ (by rw [sfA_j x hjd, hx]; first | (rw [spComes_t h6]; exact ⟨rfl, ⟨⟨rfl, rfl⟩, ⟨rfl, rfl⟩, htk, hI.add h6 hds, hJ, ⟨_, _, hM⟩, ⟨_, hX⟩⟩⟩) | (rw [spComes_f (by omega)]; exact ⟨rfl, ⟨⟨rfl, rfl⟩, ⟨rfl, rfl⟩, htk, hI, hJ, ⟨_, _, hM⟩, ⟨_, hX⟩⟩⟩)) (by first | rfl | exact nar_b2i _) hG (Nat.le_of_ble_eq_true rfl) (Nat.le_of_ble_eq_true rfl) dX11_comes_41

abbrev rmX11_changes : Room := { frames := 4, cells := 0, slots := 0, locals := 83 }
set_option maxHeartbeats 4000000 in
set_option maxRecDepth 100000 in
theorem c_X11_changes {l : Launch} {D : va_G} {cA : Nat → ClassId} {A : Nat → Prop}  {ob : Nat → Nat} {mb ss sh sp : Nat → Int32} {mt : Nat → Int64} {rc n o : Nat} {dr : Nat → Option Nat} {n1 o1 : Nat} {dr1 : Nat → Option Nat} {n2 o2 : Nat} {dr2 dk rk : Nat → Option Nat} {kt : Nat → Int32} {tk : Int32} {pool : va_W} {kd fg : Nat → Nat} (hI : WI pool n o dr kd fg) {kd1 fg1 : Nat → Nat} (hJ : WI pool n1 o1 dr1 kd1 fg1) {kd2 fg2 : Nat → Nat} (hM : WI pool n2 o2 dr2 kd2 fg2) {x : Nat → Sf} {P : Nat → Nat} (hX : SX cA pool dk rk x P) {tkb : Bool} (htk : tk = b2i tkb) {d i : Int32} : Met l yX11_changes wsX11_changes rmX11_changes (va_Pc [.ref (ob 6), .int d, .int i] (Pre D cA A (XW cA ob mb ss sh sp mt rc n o dr n1 o1 dr1 n2 o2 dr2 dk rk kt tk pool))) (va_Qi (fun r (u : XS) => (r = (spChanges n o kd fg (sfA x d) i).1) ∧ XI cA u (spChanges n o kd fg (sfA x d) i).2 (n1, o1, kd1, fg1) tkb x) (fun u t => Wd D A ((fun (u : XS) => XV cA ob u) u) t) A) (0) (0) A := by
  refine k_ofi (S := XS) (F := fun (u : XS) => XV cA ob u) (cc := cX11_changes) (maxL := 5) (by decide) rfl (Nat.le_of_ble_eq_true rfl) ?_
  intro p e s m args below meth c Q hF hini hK hA hG hret ls hl
  have hl : lv_has ls 5 [(0, .ref (ob 6)), (1, .int d), (2, .int i)] := hl
  have hn : n ≤ 6 := hI.1
  have ho : o < 64 := hI.o64
  have hp2 : 2 ^ n ≤ 64 := Nat.pow_le_pow_right (by decide) hn
  have hp1 : 1 ≤ 2 ^ n := Nat.one_le_two_pow
  refine lv_aload_n hF.1 hF.2.1 dX11_changes_0 rfl (lv_at hl 0 rfl) ?_
  refine k_get (C := RX11) (T := TX11) (N := 8) hF hK hG (fun _ h => List.mem_cons_of_mem _ (List.mem_append_left _ (List.mem_append_right _ h))) 6 rfl rfl 0 (by decide) (List.mem_of_getElem? (i := 1) rfl) (fun _ h9 => h9) rfl dX11_changes_1 ?_
  refine lv_iload_n hF.1 hF.2.1 dX11_changes_4 rfl (lv_at hl 2 rfl) ?_
  refine k_cq (r_V (As := [.int i]) hF hK hA hG (c_X9_drawerAt hI.w0) (cwV 1 hF.2.2.2.2 gX11_changes_X9_drawerAt rfl rfl rfl (by decide +kernel) ⟨Nat.le_of_ble_eq_true rfl, Nat.le_of_ble_eq_true rfl⟩) 7 rfl rfl rfl rfl hl.1 rfl (lv_room (Nat.le_of_ble_eq_true rfl)) dX11_changes_5 ⟨Nat.le_of_ble_eq_true rfl, Nat.le_of_ble_eq_true rfl⟩) hG (fun r_5 u_5 H locs hp_5 hG => ?_)
  cases r_5 with
  | none =>
    have hz := drA_none hI.1 (hI.w0 (cA := cA) (ob := ob) (mb := mb) (ss := ss) (sh := sh) (sp := sp) (mt := mt) (rc := rc) (n1 := n1) (o1 := o1) (dr1 := dr1) (n2 := n2) (o2 := o2) (dr2 := dr2) (dk := dk) (rk := rk) (kt := kt) (tk := tk)).2.2.2.2 hp_5
    show W p l e rmX11_changes s m args below meth c _ _ _ _ Q (F0 m 8 ls (.null :: []))
    refine lv_astore_nN (lv' := [(3, .null), (0, .ref (ob 6)), (1, .int d), (2, .int i)]) hF.1 hF.2.1 dX11_changes_8 rfl hl (by decide) rfl (fun ls hl => ?_)
    refine lv_aload_nN hF.1 hF.2.1 dX11_changes_9 rfl (lv_at hl 0 rfl) ?_
    refine lv_ifnonnullN hF.1 hF.2.1 dX11_changes_10 ?_
    refine lv_iconst (v := (-1)) hF.1 hF.2.1 dX11_changes_13 (by decide +kernel) ?_
    exact hret _ (_, _, _, _, _, _, _, _, _, _, _, _, _, _, _, _, _, _, _, _) _ ls _ _ _ _ (by rw [spChanges_f hz]; exact ⟨rfl, ⟨⟨rfl, rfl⟩, ⟨rfl, rfl⟩, htk, hI, hJ, ⟨_, _, hM⟩, ⟨_, hX⟩⟩⟩) (by first | rfl | exact nar_b2i _) hG (Nat.le_of_ble_eq_true rfl) (Nat.le_of_ble_eq_true rfl) dX11_changes_14
  | some b =>
    obtain ⟨j, hj, rfl, ej⟩ := drA_some hI.1 hp_5
    obtain ⟨b, e1, hd⟩ := hI.2.2.1 j hj
    obtain rfl := Option.some.inj (ej.symm.trans e1)
    have hk8 := hd.1
    have hf10 := hd.2.1
    show W p l e rmX11_changes s m args below meth c _ _ _ _ Q (F0 m 8 ls (.ref b :: []))
    refine lv_astore_n (lv' := [(3, .ref b), (0, .ref (ob 6)), (1, .int d), (2, .int (nI j))]) hF.1 hF.2.1 dX11_changes_8 rfl hl (by decide) rfl (fun ls hl => ?_)
    refine lv_aload_n hF.1 hF.2.1 dX11_changes_9 rfl (lv_at hl 0 rfl) ?_
    refine lv_ifnonnull (tgt := 15) hF.1 hF.2.1 dX11_changes_10 (by decide) ?_
    refine lv_aload_n hF.1 hF.2.1 dX11_changes_15 rfl (lv_at hl 1 rfl) ?_
    refine lv_iload_n hF.1 hF.2.1 dX11_changes_16 rfl (lv_at hl 2 rfl) ?_
    refine k_cq (r_V (As := [.int d]) hF hK hA hG (c_X11_drawerOn) (cwV 1 hF.2.2.2.2 gX11_changes_X11_drawerOn rfl rfl rfl (by decide +kernel) ⟨Nat.le_of_ble_eq_true rfl, Nat.le_of_ble_eq_true rfl⟩) 6 rfl rfl rfl rfl hl.1 rfl (lv_room (Nat.le_of_ble_eq_true rfl)) dX11_changes_17 ⟨Nat.le_of_ble_eq_true rfl, Nat.le_of_ble_eq_true rfl⟩) hG (fun r_17 u_17 H locs hp_17 hG => ?_)
    cases r_17 with
    | none =>
      show W p l e rmX11_changes s m args below meth c _ _ _ _ Q (F0 m 20 ls (.null :: []))
      refine lv_astoreN (lv' := [(4, .null), (3, .ref b), (0, .ref (ob 6)), (1, .int d), (2, .int (nI j))]) hF.1 hF.2.1 dX11_changes_20 hl (by decide) rfl (fun ls hl => ?_)
      refine lv_aloadN hF.1 hF.2.1 dX11_changes_22 (lv_at hl 0 rfl) ?_
      refine lv_ifnonnullN hF.1 hF.2.1 dX11_changes_24 ?_
      refine lv_aload_n hF.1 hF.2.1 dX11_changes_27 rfl (lv_at hl 2 rfl) ?_
      refine lv_iload_n hF.1 hF.2.1 dX11_changes_28 rfl (lv_at hl 3 rfl) ?_
      refine k_ci (r_V (As := [.int d]) hF hK hA hG (c_X11_lacking hX) (cwV 1 hF.2.2.2.2 gX11_changes_X11_lacking rfl rfl rfl (by decide +kernel) ⟨Nat.le_of_ble_eq_true rfl, Nat.le_of_ble_eq_true rfl⟩) 6 rfl rfl rfl rfl hl.1 rfl (lv_room (Nat.le_of_ble_eq_true rfl)) dX11_changes_29 ⟨Nat.le_of_ble_eq_true rfl, Nat.le_of_ble_eq_true rfl⟩) hG (fun r_29 u_29 H locs hp_29 hG => ?_)
      subst hp_29
      exact hret _ (_, _, _, _, _, _, _, _, _, _, _, _, _, _, _, _, _, _, _, _) _ ls _ _ _ _ (by rw [spChanges_n hn hj (shA_n hX hp_17).2]; exact ⟨(shA_n hX hp_17).1, ⟨⟨rfl, rfl⟩, ⟨rfl, rfl⟩, htk, hI, hJ, ⟨_, _, hM⟩, ⟨_, hX⟩⟩⟩) (by first | rfl | exact nar_b2i _) hG (Nat.le_of_ble_eq_true rfl) (Nat.le_of_ble_eq_true rfl) dX11_changes_32
    | some b2 =>
      obtain ⟨jd, z, hjd, rfl, hx, hds⟩ := shA_s hX hp_17
      show W p l e rmX11_changes s m args below meth c _ _ _ _ Q (F0 m 20 ls (.ref b2 :: []))
      refine lv_astore (lv' := [(4, .ref b2), (3, .ref b), (0, .ref (ob 6)), (1, .int (nI jd)), (2, .int (nI j))]) hF.1 hF.2.1 dX11_changes_20 hl (by decide) rfl (fun ls hl => ?_)
      refine lv_aload hF.1 hF.2.1 dX11_changes_22 (lv_at hl 0 rfl) ?_
      refine lv_ifnonnull (tgt := 33) hF.1 hF.2.1 dX11_changes_24 (by decide) ?_
      refine lv_aload_n hF.1 hF.2.1 dX11_changes_33 rfl (lv_at hl 2 rfl) ?_
      refine k_get (C := RX11) (T := TX11) (N := 8) hF hK hG (fun _ h => List.mem_cons_of_mem _ (List.mem_append_left _ (List.mem_append_right _ h))) 6 rfl rfl 0 (by decide) (List.mem_of_getElem? (i := 1) rfl) (fun _ h9 => h9) rfl dX11_changes_34 ?_
      refine lv_iload_n hF.1 hF.2.1 dX11_changes_37 rfl (lv_at hl 4 rfl) ?_
      refine lv_aload hF.1 hF.2.1 dX11_changes_38 (lv_at hl 0 rfl) ?_
      refine k_cv (r_V (As := [.int (nI j), .ref b2]) hF hK hA hG (c_X9_replace hI.w0 hds.c16 hj) (cwV 2 hF.2.2.2.2 gX11_changes_X9_replace rfl rfl rfl (by decide +kernel) ⟨Nat.le_of_ble_eq_true rfl, Nat.le_of_ble_eq_true rfl⟩) 7 rfl rfl rfl rfl hl.1 rfl (lv_room (Nat.le_of_ble_eq_true rfl)) dX11_changes_40 ⟨Nat.le_of_ble_eq_true rfl, Nat.le_of_ble_eq_true rfl⟩) hG (fun u_40 H locs hp_40 hG => ?_)
      have hG : Gd D A (XW cA ob mb ss sh sp mt rc n o (va_up dr j (some b2)) n1 o1 dr1 n2 o2 dr2 dk rk kt tk pool) s.heap H locs := hG
      refine lv_aload_n hF.1 hF.2.1 dX11_changes_43 rfl (lv_at hl 1 rfl) ?_
      have k44 : ∀ (H : Heap) (locs : List Loc), Gd D A (XW cA ob mb ss sh sp mt rc n o (va_up dr j (some b2)) n1 o1 dr1 n2 o2 dr2 dk rk kt tk pool) s.heap H locs → W p l e rmX11_changes s m args below meth c H locs 0 0 Q (F0 m 47 ls (.int (nI (kd j)) :: [])) := by
        intro H locs hG
        exact hret _ (_, _, _, _, _, _, _, _, _, _, _, _, _, _, _, _, _, _, _, _) _ ls _ _ _ _ (by rw [sfA_j x hjd, hx, spChanges_t hn hj]; exact ⟨rfl, ⟨⟨rfl, rfl⟩, ⟨rfl, rfl⟩, htk, hI.rep hj hds, hJ, ⟨_, _, hM⟩, ⟨_, hX⟩⟩⟩) (by first | rfl | exact nar_b2i _) hG (Nat.le_of_ble_eq_true rfl) (Nat.le_of_ble_eq_true rfl) dX11_changes_47
      rcases (show kd j = 0 ∨ kd j = 1 ∨ kd j = 2 ∨ kd j = 3 ∨ kd j = 4 ∨ kd j = 5 ∨ kd j = 6 ∨ kd j = 7 by omega) with ek | ek | ek | ek | ek | ek | ek | ek
      · --
        obtain ⟨-, -, q, hb⟩ := (hd.c16 : DR (XW cA ob mb ss sh sp mt rc n o (va_up dr j (some b2)) n1 o1 dr1 n2 o2 dr2 dk rk kt tk pool) b (kd j) (fg j))
        rw [ek] at hb
        have hb : (XW cA ob mb ss sh sp mt rc n o (va_up dr j (some b2)) n1 o1 dr1 n2 o2 dr2 dk rk kt tk pool)[q]? = some (b, .inr (0, [.int (nI (fg j))])) := hb
        refine k_ci (r_V (As := []) hF hK hA hG (c_X0_kind) (cwV 0 hF.2.2.2.2 gX11_changes_X0_kind rfl rfl rfl (by decide +kernel) ⟨Nat.le_of_ble_eq_true rfl, Nat.le_of_ble_eq_true rfl⟩) q hb rfl rfl rfl hl.1 rfl (lv_room (Nat.le_of_ble_eq_true rfl)) dX11_changes_44 ⟨Nat.le_of_ble_eq_true rfl, Nat.le_of_ble_eq_true rfl⟩) hG (fun r_44 u_44 H locs hp_44 hG => ?_)
        subst hp_44
        have k := k44 _ _ hG
        rw [ek] at k
        exact k
      · --
        obtain ⟨-, -, q, hb⟩ := (hd.c16 : DR (XW cA ob mb ss sh sp mt rc n o (va_up dr j (some b2)) n1 o1 dr1 n2 o2 dr2 dk rk kt tk pool) b (kd j) (fg j))
        rw [ek] at hb
        have hb : (XW cA ob mb ss sh sp mt rc n o (va_up dr j (some b2)) n1 o1 dr1 n2 o2 dr2 dk rk kt tk pool)[q]? = some (b, .inr (1, [.int (nI (fg j))])) := hb
        refine k_ci (r_U (As := []) hF hK hA hG (c_X1_kind) (va_cwO 0 hF.2.2.2.2 gX11_changes_X1_kind_u84X1 rfl rfl rfl (List.mem_of_getElem? (i := 43) rfl) (by decide +kernel) ⟨Nat.le_of_ble_eq_true rfl, Nat.le_of_ble_eq_true rfl⟩) q hb rfl rfl rfl hl.1 rfl (lv_room (Nat.le_of_ble_eq_true rfl)) dX11_changes_44 ⟨Nat.le_of_ble_eq_true rfl, Nat.le_of_ble_eq_true rfl⟩) hG (fun r_44 u_44 H locs hp_44 hG => ?_)
        subst hp_44
        have k := k44 _ _ hG
        rw [ek] at k
        exact k
      · --
        obtain ⟨-, -, q, hb⟩ := (hd.c16 : DR (XW cA ob mb ss sh sp mt rc n o (va_up dr j (some b2)) n1 o1 dr1 n2 o2 dr2 dk rk kt tk pool) b (kd j) (fg j))
        rw [ek] at hb
        have hb : (XW cA ob mb ss sh sp mt rc n o (va_up dr j (some b2)) n1 o1 dr1 n2 o2 dr2 dk rk kt tk pool)[q]? = some (b, .inr (7, [.int (nI (fg j))])) := hb
        refine k_ci (r_U (As := []) hF hK hA hG (c_X7_kind) (va_cwO 0 hF.2.2.2.2 gX11_changes_X7_kind_u84X7 rfl rfl rfl (List.mem_of_getElem? (i := 43) rfl) (by decide +kernel) ⟨Nat.le_of_ble_eq_true rfl, Nat.le_of_ble_eq_true rfl⟩) q hb rfl rfl rfl hl.1 rfl (lv_room (Nat.le_of_ble_eq_true rfl)) dX11_changes_44 ⟨Nat.le_of_ble_eq_true rfl, Nat.le_of_ble_eq_true rfl⟩) hG (fun r_44 u_44 H locs hp_44 hG => ?_)
        subst hp_44
        have k := k44 _ _ hG
        rw [ek] at k
        exact k
      · --
        obtain ⟨-, -, q, hb⟩ := (hd.c16 : DR (XW cA ob mb ss sh sp mt rc n o (va_up dr j (some b2)) n1 o1 dr1 n2 o2 dr2 dk rk kt tk pool) b (kd j) (fg j))
        rw [ek] at hb
        have hb : (XW cA ob mb ss sh sp mt rc n o (va_up dr j (some b2)) n1 o1 dr1 n2 o2 dr2 dk rk kt tk pool)[q]? = some (b, .inr (8, [.int (nI (fg j))])) := hb
        refine k_ci (r_U (As := []) hF hK hA hG (c_X8_kind) (va_cwO 0 hF.2.2.2.2 gX11_changes_X8_kind_u84X8 rfl rfl rfl (List.mem_of_getElem? (i := 43) rfl) (by decide +kernel) ⟨Nat.le_of_ble_eq_true rfl, Nat.le_of_ble_eq_true rfl⟩) q hb rfl rfl rfl hl.1 rfl (lv_room (Nat.le_of_ble_eq_true rfl)) dX11_changes_44 ⟨Nat.le_of_ble_eq_true rfl, Nat.le_of_ble_eq_true rfl⟩) hG (fun r_44 u_44 H locs hp_44 hG => ?_)
        subst hp_44
        have k := k44 _ _ hG
        rw [ek] at k
        exact k
      · --
        obtain ⟨-, -, q, hb⟩ := (hd.c16 : DR (XW cA ob mb ss sh sp mt rc n o (va_up dr j (some b2)) n1 o1 dr1 n2 o2 dr2 dk rk kt tk pool) b (kd j) (fg j))
        rw [ek] at hb
        have hb : (XW cA ob mb ss sh sp mt rc n o (va_up dr j (some b2)) n1 o1 dr1 n2 o2 dr2 dk rk kt tk pool)[q]? = some (b, .inr (5, [.int (nI (fg j))])) := hb
        refine k_ci (r_U (As := []) hF hK hA hG (c_X5_kind) (va_cwO 0 hF.2.2.2.2 gX11_changes_X5_kind_u84X5 rfl rfl rfl (List.mem_of_getElem? (i := 43) rfl) (by decide +kernel) ⟨Nat.le_of_ble_eq_true rfl, Nat.le_of_ble_eq_true rfl⟩) q hb rfl rfl rfl hl.1 rfl (lv_room (Nat.le_of_ble_eq_true rfl)) dX11_changes_44 ⟨Nat.le_of_ble_eq_true rfl, Nat.le_of_ble_eq_true rfl⟩) hG (fun r_44 u_44 H locs hp_44 hG => ?_)
        subst hp_44
        have k := k44 _ _ hG
        rw [ek] at k
        exact k
      · --
        obtain ⟨-, -, q, hb⟩ := (hd.c16 : DR (XW cA ob mb ss sh sp mt rc n o (va_up dr j (some b2)) n1 o1 dr1 n2 o2 dr2 dk rk kt tk pool) b (kd j) (fg j))
        rw [ek] at hb
        have hb : (XW cA ob mb ss sh sp mt rc n o (va_up dr j (some b2)) n1 o1 dr1 n2 o2 dr2 dk rk kt tk pool)[q]? = some (b, .inr (3, [.int (nI (fg j))])) := hb
        refine k_ci (r_U (As := []) hF hK hA hG (c_X3_kind) (va_cwO 0 hF.2.2.2.2 gX11_changes_X3_kind_u84X3 rfl rfl rfl (List.mem_of_getElem? (i := 43) rfl) (by decide +kernel) ⟨Nat.le_of_ble_eq_true rfl, Nat.le_of_ble_eq_true rfl⟩) q hb rfl rfl rfl hl.1 rfl (lv_room (Nat.le_of_ble_eq_true rfl)) dX11_changes_44 ⟨Nat.le_of_ble_eq_true rfl, Nat.le_of_ble_eq_true rfl⟩) hG (fun r_44 u_44 H locs hp_44 hG => ?_)
        subst hp_44
        have k := k44 _ _ hG
        rw [ek] at k
        exact k
      · --
        obtain ⟨-, -, q, hb⟩ := (hd.c16 : DR (XW cA ob mb ss sh sp mt rc n o (va_up dr j (some b2)) n1 o1 dr1 n2 o2 dr2 dk rk kt tk pool) b (kd j) (fg j))
        rw [ek] at hb
        have hb : (XW cA ob mb ss sh sp mt rc n o (va_up dr j (some b2)) n1 o1 dr1 n2 o2 dr2 dk rk kt tk pool)[q]? = some (b, .inr (4, [.int (nI (fg j))])) := hb
        refine k_ci (r_U (As := []) hF hK hA hG (c_X4_kind) (va_cwO 0 hF.2.2.2.2 gX11_changes_X4_kind_u84X4 rfl rfl rfl (List.mem_of_getElem? (i := 43) rfl) (by decide +kernel) ⟨Nat.le_of_ble_eq_true rfl, Nat.le_of_ble_eq_true rfl⟩) q hb rfl rfl rfl hl.1 rfl (lv_room (Nat.le_of_ble_eq_true rfl)) dX11_changes_44 ⟨Nat.le_of_ble_eq_true rfl, Nat.le_of_ble_eq_true rfl⟩) hG (fun r_44 u_44 H locs hp_44 hG => ?_)
        subst hp_44
        have k := k44 _ _ hG
        rw [ek] at k
        exact k
      · --
        obtain ⟨-, -, q, hb⟩ := (hd.c16 : DR (XW cA ob mb ss sh sp mt rc n o (va_up dr j (some b2)) n1 o1 dr1 n2 o2 dr2 dk rk kt tk pool) b (kd j) (fg j))
        rw [ek] at hb
        have hb : (XW cA ob mb ss sh sp mt rc n o (va_up dr j (some b2)) n1 o1 dr1 n2 o2 dr2 dk rk kt tk pool)[q]? = some (b, .inr (2, [.int (nI (fg j))])) := hb
        refine k_ci (r_U (As := []) hF hK hA hG (c_X2_kind) (va_cwO 0 hF.2.2.2.2 gX11_changes_X2_kind_u84X2 rfl rfl rfl (List.mem_of_getElem? (i := 43) rfl) (by decide +kernel) ⟨Nat.le_of_ble_eq_true rfl, Nat.le_of_ble_eq_true rfl⟩) q hb rfl rfl rfl hl.1 rfl (lv_room (Nat.le_of_ble_eq_true rfl)) dX11_changes_44 ⟨Nat.le_of_ble_eq_true rfl, Nat.le_of_ble_eq_true rfl⟩) hG (fun r_44 u_44 H locs hp_44 hG => ?_)
        subst hp_44
        have k := k44 _ _ hG
        rw [ek] at k
        exact k

abbrev rmX11_pull : Room := { frames := 5, cells := 0, slots := 0, locals := 110 }
set_option maxHeartbeats 4000000 in
set_option maxRecDepth 100000 in
theorem c_X11_pull {l : Launch} {D : va_G} {cA : Nat → ClassId} {A : Nat → Prop}  {ob : Nat → Nat} {mb ss sh sp : Nat → Int32} {mt : Nat → Int64} {rc n o : Nat} {dr : Nat → Option Nat} {n1 o1 : Nat} {dr1 : Nat → Option Nat} {n2 o2 : Nat} {dr2 dk rk : Nat → Option Nat} {kt : Nat → Int32} {tk : Int32} {pool : va_W} {kd fg : Nat → Nat} (hI : WI pool n o dr kd fg) {kd1 fg1 : Nat → Nat} (hJ : WI pool n1 o1 dr1 kd1 fg1) {kd2 fg2 : Nat → Nat} (hM : WI pool n2 o2 dr2 kd2 fg2) {x : Nat → Sf} {P : Nat → Nat} (hX : SX cA pool dk rk x P) {tkb : Bool} (htk : tk = b2i tkb) {i : Int32} : Met l yX11_pull wsX11_pull rmX11_pull (va_Pc [.ref (ob 6), .int i] (Pre D cA A (XW cA ob mb ss sh sp mt rc n o dr n1 o1 dr1 n2 o2 dr2 dk rk kt tk pool))) (va_Qi (fun r (u : XS) => (r = spPull n o kd fg i) ∧ XI cA u (n, (pullO n kd fg i o), kd, fg) (n1, o1, kd1, fg1) tkb x) (fun u t => Wd D A ((fun (u : XS) => XV cA ob u) u) t) A) (0) (0) A := by
  refine k_ofi (S := XS) (F := fun (u : XS) => XV cA ob u) (cc := cX11_pull) (maxL := 2) (by decide) rfl (Nat.le_of_ble_eq_true rfl) ?_
  intro p e s m args below meth c Q hF hini hK hA hG hret ls hl
  have hl : lv_has ls 2 [(0, .ref (ob 6)), (1, .int i)] := hl
  have hn : n ≤ 6 := hI.1
  have ho : o < 64 := hI.o64
  have hp2 : 2 ^ n ≤ 64 := Nat.pow_le_pow_right (by decide) hn
  have hp1 : 1 ≤ 2 ^ n := Nat.one_le_two_pow
  refine lv_aload_n hF.1 hF.2.1 dX11_pull_0 rfl (lv_at hl 0 rfl) ?_
  refine k_get (C := RX11) (T := TX11) (N := 8) hF hK hG (fun _ h => List.mem_cons_of_mem _ (List.mem_append_left _ (List.mem_append_left _ (List.mem_append_left _ (List.mem_append_left _ (List.mem_append_left _ (List.mem_append_left _ (List.mem_append_left _ (List.mem_append_left _ (List.mem_append_left _ (List.mem_append_right _ h))))))))))) 6 rfl rfl 0 (by decide) (List.mem_of_getElem? (i := 1) rfl) (fun _ h9 => h9) rfl dX11_pull_1 ?_
  refine lv_iload_n hF.1 hF.2.1 dX11_pull_4 rfl (lv_at hl 1 rfl) ?_
  refine k_cq (r_V (As := [.int i]) hF hK hA hG (c_X9_drawerAt hI.w0) (cwV 1 hF.2.2.2.2 gX11_pull_X9_drawerAt rfl rfl rfl (by decide +kernel) ⟨Nat.le_of_ble_eq_true rfl, Nat.le_of_ble_eq_true rfl⟩) 7 rfl rfl rfl rfl hl.1 rfl (lv_room (Nat.le_of_ble_eq_true rfl)) dX11_pull_5 ⟨Nat.le_of_ble_eq_true rfl, Nat.le_of_ble_eq_true rfl⟩) hG (fun r_5 u_5 H locs hp_5 hG => ?_)
  cases r_5 with
  | none =>
    have hz := drA_none hI.1 (hI.w0 (cA := cA) (ob := ob) (mb := mb) (ss := ss) (sh := sh) (sp := sp) (mt := mt) (rc := rc) (n1 := n1) (o1 := o1) (dr1 := dr1) (n2 := n2) (o2 := o2) (dr2 := dr2) (dk := dk) (rk := rk) (kt := kt) (tk := tk)).2.2.2.2 hp_5
    show W p l e rmX11_pull s m args below meth c _ _ _ _ Q (F0 m 8 ls (.null :: []))
    refine lv_ifnonnullN hF.1 hF.2.1 dX11_pull_8 ?_
    refine lv_iconst (v := (-1)) hF.1 hF.2.1 dX11_pull_11 (by decide +kernel) ?_
    exact hret _ (_, _, _, _, _, _, _, _, _, _, _, _, _, _, _, _, _, _, _, _) _ ls _ _ _ _ (by refine ⟨by unfold spPull; rw [hz]; rfl, ?_⟩; rw [pullO_f (mayZ_f hz)]; exact ⟨⟨rfl, rfl⟩, ⟨rfl, rfl⟩, htk, hI, hJ, ⟨_, _, hM⟩, ⟨_, hX⟩⟩) (by first | rfl | exact nar_b2i _) hG (Nat.le_of_ble_eq_true rfl) (Nat.le_of_ble_eq_true rfl) dX11_pull_12
  | some b =>
    obtain ⟨j, hj, rfl, ej⟩ := drA_some hI.1 hp_5
    obtain ⟨b, e1, hd⟩ := hI.2.2.1 j hj
    obtain rfl := Option.some.inj (ej.symm.trans e1)
    have hk8 := hd.1
    have hf10 := hd.2.1
    show W p l e rmX11_pull s m args below meth c _ _ _ _ Q (F0 m 8 ls (.ref b :: []))
    refine lv_ifnonnull (tgt := 13) hF.1 hF.2.1 dX11_pull_8 (by decide) ?_
    refine lv_aload_n hF.1 hF.2.1 dX11_pull_13 rfl (lv_at hl 0 rfl) ?_
    refine k_get (C := RX11) (T := TX11) (N := 8) hF hK hG (fun _ h => List.mem_cons_of_mem _ (List.mem_append_left _ (List.mem_append_left _ (List.mem_append_left _ (List.mem_append_left _ (List.mem_append_left _ (List.mem_append_left _ (List.mem_append_left _ (List.mem_append_left _ (List.mem_append_left _ (List.mem_append_right _ h))))))))))) 6 rfl rfl 0 (by decide) (List.mem_of_getElem? (i := 1) rfl) (fun _ h9 => h9) rfl dX11_pull_14 ?_
    refine lv_iload_n hF.1 hF.2.1 dX11_pull_17 rfl (lv_at hl 1 rfl) ?_
    refine k_ci (r_V (As := [.int (nI j)]) hF hK hA hG (c_X9_pulled hI.w0) (cwV 1 hF.2.2.2.2 gX11_pull_X9_pulled rfl rfl rfl (by decide +kernel) ⟨Nat.le_of_ble_eq_true rfl, Nat.le_of_ble_eq_true rfl⟩) 7 rfl rfl rfl rfl hl.1 rfl (lv_room (Nat.le_of_ble_eq_true rfl)) dX11_pull_18 ⟨Nat.le_of_ble_eq_true rfl, Nat.le_of_ble_eq_true rfl⟩) hG (fun r_18 u_18 H locs hp_18 hG => ?_)
    subst hp_18
    have hG : Gd D A (XW cA ob mb ss sh sp mt rc n (pullO n kd fg (nI j) o) dr n1 o1 dr1 n2 o2 dr2 dk rk kt tk pool) s.heap H locs := hG
    refine lv_if_eq (tgt := 34) hF.1 hF.2.1 dX11_pull_21 (by decide) (fun c_21 => ?_) (fun c_21 => ?_)
    · --
      have n_21 : (mayZ n kd fg (nI j) o) = false := b2i_z.mp c_21
      refine lv_bipush (v := (-3)) hF.1 hF.2.1 dX11_pull_34 (by decide +kernel) ?_
      exact hret _ (_, _, _, _, _, _, _, _, _, _, _, _, _, _, _, _, _, _, _, _) _ ls _ _ _ _ (by refine ⟨?_, ⟨⟨rfl, rfl⟩, ⟨rfl, rfl⟩, htk, hI.setO (pullO_lt hn hI.2.1), hJ, ⟨_, _, hM⟩, ⟨_, hX⟩⟩⟩; unfold spPull; rw [if_pos (inB_j (by omega) hj), n_21]; rfl) (by first | rfl | exact nar_b2i _) hG (Nat.le_of_ble_eq_true rfl) (Nat.le_of_ble_eq_true rfl) dX11_pull_36
    · --
      have n_21 : (mayZ n kd fg (nI j) o) = true := b2i_nz.mp c_21
      refine lv_aload_n hF.1 hF.2.1 dX11_pull_24 rfl (lv_at hl 0 rfl) ?_
      refine k_get (C := RX11) (T := TX11) (N := 8) hF hK hG (fun _ h => List.mem_cons_of_mem _ (List.mem_append_left _ (List.mem_append_left _ (List.mem_append_left _ (List.mem_append_left _ (List.mem_append_left _ (List.mem_append_left _ (List.mem_append_left _ (List.mem_append_left _ (List.mem_append_left _ (List.mem_append_right _ h))))))))))) 6 rfl rfl 0 (by decide) (List.mem_of_getElem? (i := 1) rfl) (fun _ h9 => h9) rfl dX11_pull_25 ?_
      refine k_get (C := RX9) (T := TX9) (N := 3) hF hK hG (fun _ h => List.mem_cons_of_mem _ (List.mem_append_left _ (List.mem_append_left _ (List.mem_append_left _ (List.mem_append_left _ (List.mem_append_left _ (List.mem_append_left _ (List.mem_append_left _ (List.mem_append_left _ (List.mem_append_right _ h)))))))))) 7 rfl rfl 2 (by decide) (List.mem_of_getElem? (i := 2) rfl) (fun _ h9 => h9) rfl dX11_pull_28 ?_
      refine lv_goto (tgt := 36) hF.1 hF.2.1 dX11_pull_31 (by decide) ?_
      exact hret _ (_, _, _, _, _, _, _, _, _, _, _, _, _, _, _, _, _, _, _, _) _ ls _ _ _ _ (by refine ⟨?_, ⟨⟨rfl, rfl⟩, ⟨rfl, rfl⟩, htk, hI.setO (pullO_lt hn hI.2.1), hJ, ⟨_, _, hM⟩, ⟨_, hX⟩⟩⟩; unfold spPull; rw [if_pos (inB_j (by omega) hj), n_21]; rfl) (by first | rfl | exact nar_b2i _) hG (Nat.le_of_ble_eq_true rfl) (Nat.le_of_ble_eq_true rfl) dX11_pull_36

abbrev rmX11_standing : Room := { frames := 5, cells := 0, slots := 0, locals := 112 }
set_option maxHeartbeats 4000000 in
set_option maxRecDepth 100000 in
theorem c_X11_standing {l : Launch} {D : va_G} {cA : Nat → ClassId} {A : Nat → Prop}  {ob : Nat → Nat} {mb ss sh sp : Nat → Int32} {mt : Nat → Int64} {rc n o : Nat} {dr : Nat → Option Nat} {n1 o1 : Nat} {dr1 : Nat → Option Nat} {n2 o2 : Nat} {dr2 dk rk : Nat → Option Nat} {kt : Nat → Int32} {tk : Int32} {pool : va_W} {kd fg : Nat → Nat} (hI : WI pool n o dr kd fg) {kd1 fg1 : Nat → Nat} (hJ : WI pool n1 o1 dr1 kd1 fg1) {kd2 fg2 : Nat → Nat} (hM : WI pool n2 o2 dr2 kd2 fg2) {x : Nat → Sf} {P : Nat → Nat} (hX : SX cA pool dk rk x P) {tkb : Bool} (htk : tk = b2i tkb) {what : Int32} : Met l yX11_standing wsX11_standing rmX11_standing (va_Pc [.ref (ob 6), .int what] (Pre D cA A (XW cA ob mb ss sh sp mt rc n o dr n1 o1 dr1 n2 o2 dr2 dk rk kt tk pool))) (va_Qi (fun r (u : XS) => (r = spStanding n o kd fg what) ∧ XI cA u (n, o, kd, fg) (n1, o1, kd1, fg1) tkb x) (fun u t => Wd D A ((fun (u : XS) => XV cA ob u) u) t) A) (0) (0) A := by
  refine k_ofi (S := XS) (F := fun (u : XS) => XV cA ob u) (cc := cX11_standing) (maxL := 2) (by decide) rfl (Nat.le_of_ble_eq_true rfl) ?_
  intro p e s m args below meth c Q hF hini hK hA hG hret ls hl
  have hl : lv_has ls 2 [(0, .ref (ob 6)), (1, .int what)] := hl
  have hn : n ≤ 6 := hI.1
  have ho : o < 64 := hI.o64
  have hp2 : 2 ^ n ≤ 64 := Nat.pow_le_pow_right (by decide) hn
  have hp1 : 1 ≤ 2 ^ n := Nat.one_le_two_pow
  refine lv_iload_n hF.1 hF.2.1 dX11_standing_0 rfl (lv_at hl 1 rfl) ?_
  refine sw_by (nI 0) (fun e1_0 => ?_) (fun e1_0 => ?_)
  · --
    refine lv_lookup (tgt := 28) hF.1 hF.2.1 dX11_standing_1 (by decide +kernel) rfl (by decide) ?_
    refine lv_aload_n hF.1 hF.2.1 dX11_standing_28 rfl (lv_at hl 0 rfl) ?_
    refine k_get (C := RX11) (T := TX11) (N := 8) hF hK hG (fun _ h => List.mem_cons_of_mem _ (List.mem_append_left _ (List.mem_append_left _ (List.mem_append_left _ (List.mem_append_left _ (List.mem_append_left _ (List.mem_append_left _ (List.mem_append_left _ (List.mem_append_left _ (List.mem_append_left _ (List.mem_append_right _ h))))))))))) 6 rfl rfl 0 (by decide) (List.mem_of_getElem? (i := 1) rfl) (fun _ h9 => h9) rfl dX11_standing_29 ?_
    refine k_get (C := RX9) (T := TX9) (N := 3) hF hK hG (fun _ h => List.mem_cons_of_mem _ (List.mem_append_left _ (List.mem_append_left _ (List.mem_append_left _ (List.mem_append_left _ (List.mem_append_left _ (List.mem_append_left _ (List.mem_append_left _ (List.mem_append_left _ (List.mem_append_right _ h)))))))))) 7 rfl rfl 2 (by decide) (List.mem_of_getElem? (i := 2) rfl) (fun _ h9 => h9) rfl dX11_standing_32 ?_
    exact hret _ (_, _, _, _, _, _, _, _, _, _, _, _, _, _, _, _, _, _, _, _) _ ls _ _ _ _ (by refine ⟨?_, ⟨⟨rfl, rfl⟩, ⟨rfl, rfl⟩, htk, hI, hJ, ⟨_, _, hM⟩, ⟨_, hX⟩⟩⟩; unfold spStanding; rw [if_pos e1_0]) (by first | rfl | exact nar_b2i _) hG (Nat.le_of_ble_eq_true rfl) (Nat.le_of_ble_eq_true rfl) dX11_standing_35
  refine sw_by (nI 1) (fun e1_1 => ?_) (fun e1_1 => ?_)
  · --
    refine lv_lookup (tgt := 36) hF.1 hF.2.1 dX11_standing_1 (by decide +kernel) rfl (by decide) ?_
    refine lv_aload_n hF.1 hF.2.1 dX11_standing_36 rfl (lv_at hl 0 rfl) ?_
    refine k_get (C := RX11) (T := TX11) (N := 8) hF hK hG (fun _ h => List.mem_cons_of_mem _ (List.mem_append_left _ (List.mem_append_left _ (List.mem_append_left _ (List.mem_append_left _ (List.mem_append_left _ (List.mem_append_left _ (List.mem_append_left _ (List.mem_append_left _ (List.mem_append_left _ (List.mem_append_right _ h))))))))))) 6 rfl rfl 0 (by decide) (List.mem_of_getElem? (i := 1) rfl) (fun _ h9 => h9) rfl dX11_standing_37 ?_
    refine lv_aload_n hF.1 hF.2.1 dX11_standing_40 rfl (lv_at hl 0 rfl) ?_
    refine k_get (C := RX11) (T := TX11) (N := 8) hF hK hG (fun _ h => List.mem_cons_of_mem _ (List.mem_append_left _ (List.mem_append_left _ (List.mem_append_left _ (List.mem_append_left _ (List.mem_append_left _ (List.mem_append_left _ (List.mem_append_left _ (List.mem_append_left _ (List.mem_append_left _ (List.mem_append_right _ h))))))))))) 6 rfl rfl 0 (by decide) (List.mem_of_getElem? (i := 1) rfl) (fun _ h9 => h9) rfl dX11_standing_41 ?_
    refine k_get (C := RX9) (T := TX9) (N := 3) hF hK hG (fun _ h => List.mem_cons_of_mem _ (List.mem_append_left _ (List.mem_append_left _ (List.mem_append_left _ (List.mem_append_left _ (List.mem_append_left _ (List.mem_append_left _ (List.mem_append_left _ (List.mem_append_left _ (List.mem_append_right _ h)))))))))) 7 rfl rfl 2 (by decide) (List.mem_of_getElem? (i := 2) rfl) (fun _ h9 => h9) rfl dX11_standing_44 ?_
    refine k_ci (r_V (As := [.int (nI o)]) hF hK hA hG (c_X9_mayBits hI.w0 ho) (cwV 1 hF.2.2.2.2 gX11_standing_X9_mayBits rfl rfl rfl (by decide +kernel) ⟨Nat.le_of_ble_eq_true rfl, Nat.le_of_ble_eq_true rfl⟩) 7 rfl rfl rfl rfl hl.1 rfl (lv_room (Nat.le_of_ble_eq_true rfl)) dX11_standing_47 ⟨Nat.le_of_ble_eq_true rfl, Nat.le_of_ble_eq_true rfl⟩) hG (fun r_47 u_47 H locs hp_47 hG => ?_)
    subst hp_47
    exact hret _ (_, _, _, _, _, _, _, _, _, _, _, _, _, _, _, _, _, _, _, _) _ ls _ _ _ _ (by refine ⟨?_, ⟨⟨rfl, rfl⟩, ⟨rfl, rfl⟩, htk, hI, hJ, ⟨_, _, hM⟩, ⟨_, hX⟩⟩⟩; unfold spStanding; rw [if_neg e1_0, if_pos e1_1]) (by first | rfl | exact nar_b2i _) hG (Nat.le_of_ble_eq_true rfl) (Nat.le_of_ble_eq_true rfl) dX11_standing_50
  refine lv_lookup (off := 50) (tgt := 51) hF.1 hF.2.1 dX11_standing_1 (by decide +kernel) ((lv_osw e1_0 (by decide +kernel)).trans ((lv_osw e1_1 (by decide +kernel)).trans rfl)) (by decide) ?_
  refine lv_iconst (v := (-1)) hF.1 hF.2.1 dX11_standing_51 (by decide +kernel) ?_
  exact hret _ (_, _, _, _, _, _, _, _, _, _, _, _, _, _, _, _, _, _, _, _) _ ls _ _ _ _ (by refine ⟨?_, ⟨⟨rfl, rfl⟩, ⟨rfl, rfl⟩, htk, hI, hJ, ⟨_, _, hM⟩, ⟨_, hX⟩⟩⟩; unfold spStanding; rw [if_neg e1_0, if_neg e1_1]) (by first | rfl | exact nar_b2i _) hG (Nat.le_of_ble_eq_true rfl) (Nat.le_of_ble_eq_true rfl) dX11_standing_52

abbrev rmX11_stand : Room := { frames := 2, cells := 0, slots := 0, locals := 41 }
set_option maxHeartbeats 4000000 in
set_option maxRecDepth 100000 in
theorem c_X11_stand {l : Launch} {D : va_G} {cA : Nat → ClassId} {A : Nat → Prop}  {ob : Nat → Nat} {mb ss sh sp : Nat → Int32} {mt : Nat → Int64} {rc n o : Nat} {dr : Nat → Option Nat} {n1 o1 : Nat} {dr1 : Nat → Option Nat} {n2 o2 : Nat} {dr2 dk rk : Nat → Option Nat} {kt : Nat → Int32} {tk : Int32} {pool : va_W} {kd fg : Nat → Nat} (hI : WI pool n o dr kd fg) {kd1 fg1 : Nat → Nat} (hJ : WI pool n1 o1 dr1 kd1 fg1) {kd2 fg2 : Nat → Nat} (hM : WI pool n2 o2 dr2 kd2 fg2) {x : Nat → Sf} {P : Nat → Nat} (hX : SX cA pool dk rk x P) {tkb : Bool} (htk : tk = b2i tkb) {st : Int32} : Met l yX11_stand wsX11_stand rmX11_stand (va_Pc [.ref (ob 6), .int st] (Pre D cA A (XW cA ob mb ss sh sp mt rc n o dr n1 o1 dr1 n2 o2 dr2 dk rk kt tk pool))) (va_Qi (fun r (u : XS) => (r = (spStand n o st).1) ∧ XI cA u (n, (spStand n o st).2, kd, fg) (n1, o1, kd1, fg1) tkb x) (fun u t => Wd D A ((fun (u : XS) => XV cA ob u) u) t) A) (0) (0) A := by
  refine k_ofi (S := XS) (F := fun (u : XS) => XV cA ob u) (cc := cX11_stand) (maxL := 3) (by decide) rfl (Nat.le_of_ble_eq_true rfl) ?_
  intro p e s m args below meth c Q hF hini hK hA hG hret ls hl
  have hl : lv_has ls 3 [(0, .ref (ob 6)), (1, .int st)] := hl
  have hn : n ≤ 6 := hI.1
  have ho : o < 64 := hI.o64
  have hp2 : 2 ^ n ≤ 64 := Nat.pow_le_pow_right (by decide) hn
  have hp1 : 1 ≤ 2 ^ n := Nat.one_le_two_pow
  refine lv_aload_n hF.1 hF.2.1 dX11_stand_0 rfl (lv_at hl 0 rfl) ?_
  refine k_get (C := RX11) (T := TX11) (N := 8) hF hK hG (fun _ h => List.mem_cons_of_mem _ (List.mem_append_left _ (List.mem_append_right _ h))) 6 rfl rfl 0 (by decide) (List.mem_of_getElem? (i := 1) rfl) (fun _ h9 => h9) rfl dX11_stand_1 ?_
  refine lv_iload_n hF.1 hF.2.1 dX11_stand_4 rfl (lv_at hl 1 rfl) ?_
  refine k_ci (r_V (As := [.int st]) hF hK hA hG (c_X9_canStand hI.w0) (cwV 1 hF.2.2.2.2 gX11_stand_X9_canStand rfl rfl rfl (by decide +kernel) ⟨Nat.le_of_ble_eq_true rfl, Nat.le_of_ble_eq_true rfl⟩) 7 rfl rfl rfl rfl hl.1 rfl (lv_room (Nat.le_of_ble_eq_true rfl)) dX11_stand_5 ⟨Nat.le_of_ble_eq_true rfl, Nat.le_of_ble_eq_true rfl⟩) hG (fun r_5 u_5 H locs hp_5 hG => ?_)
  subst hp_5
  refine lv_if_ne (tgt := 13) hF.1 hF.2.1 dX11_stand_8 (by decide) (fun c_8 => ?_) (fun c_8 => ?_)
  · --
    have n_8 : (inB (2 ^ n) st) = true := b2i_nz.mp c_8
    obtain ⟨j, hj, rfl⟩ := inB_ex (by omega) n_8
    refine lv_aload_n hF.1 hF.2.1 dX11_stand_13 rfl (lv_at hl 0 rfl) ?_
    refine k_get (C := RX11) (T := TX11) (N := 8) hF hK hG (fun _ h => List.mem_cons_of_mem _ (List.mem_append_left _ (List.mem_append_right _ h))) 6 rfl rfl 0 (by decide) (List.mem_of_getElem? (i := 1) rfl) (fun _ h9 => h9) rfl dX11_stand_14 ?_
    refine k_get (C := RX9) (T := TX9) (N := 3) hF hK hG (fun _ h => List.mem_cons_of_mem _ (List.mem_append_right _ h)) 7 rfl rfl 2 (by decide) (List.mem_of_getElem? (i := 2) rfl) (fun _ h9 => h9) rfl dX11_stand_17 ?_
    refine lv_istore_n (lv' := [(2, .int (nI o)), (0, .ref (ob 6)), (1, .int (nI j))]) hF.1 hF.2.1 dX11_stand_20 rfl hl (by decide) rfl (fun ls hl => ?_)
    refine lv_aload_n hF.1 hF.2.1 dX11_stand_21 rfl (lv_at hl 1 rfl) ?_
    refine k_get (C := RX11) (T := TX11) (N := 8) hF hK hG (fun _ h => List.mem_cons_of_mem _ (List.mem_append_left _ (List.mem_append_right _ h))) 6 rfl rfl 0 (by decide) (List.mem_of_getElem? (i := 1) rfl) (fun _ h9 => h9) rfl dX11_stand_22 ?_
    refine lv_iload_n hF.1 hF.2.1 dX11_stand_25 rfl (lv_at hl 2 rfl) ?_
    refine k_put (C := RX9) (T := TX9) (N := 3) hF hK hG (fun _ h => List.mem_cons_of_mem _ (List.mem_append_right _ h)) tyX9 tyX9_ok nmX9 7 rfl rfl 2 (by decide) (List.mem_of_getElem? (i := 2) rfl) (fun _ h9 => h9) rfl rfl rfl (Nat.le_of_ble_eq_true rfl) dX11_stand_26 (fun H locs hG => ?_)
    have hG : Gd D A (XW cA ob mb ss sh sp mt rc n j dr n1 o1 dr1 n2 o2 dr2 dk rk kt tk pool) s.heap H locs := hG
    refine lv_iload_n hF.1 hF.2.1 dX11_stand_29 rfl (lv_at hl 0 rfl) ?_
    exact hret _ (_, _, _, _, _, _, _, _, _, _, _, _, _, _, _, _, _, _, _, _) _ ls _ _ _ _ (by rw [spStand_t hn hj]; exact ⟨rfl, ⟨⟨rfl, rfl⟩, ⟨rfl, rfl⟩, htk, hI.setO hj, hJ, ⟨_, _, hM⟩, ⟨_, hX⟩⟩⟩) (by first | rfl | exact nar_b2i _) hG (Nat.le_of_ble_eq_true rfl) (Nat.le_of_ble_eq_true rfl) dX11_stand_30
  · --
    have n_8 : (inB (2 ^ n) st) = false := b2i_z.mp c_8
    refine lv_iconst (v := (-1)) hF.1 hF.2.1 dX11_stand_11 (by decide +kernel) ?_
    exact hret _ (_, _, _, _, _, _, _, _, _, _, _, _, _, _, _, _, _, _, _, _) _ ls _ _ _ _ (by rw [spStand_f n_8]; exact ⟨rfl, ⟨⟨rfl, rfl⟩, ⟨rfl, rfl⟩, htk, hI, hJ, ⟨_, _, hM⟩, ⟨_, hX⟩⟩⟩) (by first | rfl | exact nar_b2i _) hG (Nat.le_of_ble_eq_true rfl) (Nat.le_of_ble_eq_true rfl) dX11_stand_12

abbrev rmX11_image : Room := { frames := 1, cells := 0, slots := 0, locals := 22 }
set_option maxHeartbeats 4000000 in
set_option maxRecDepth 100000 in
theorem c_X11_image {l : Launch} {D : va_G} {cA : Nat → ClassId} {A : Nat → Prop}  {ob : Nat → Nat} {mb ss sh sp : Nat → Int32} {mt : Nat → Int64} {rc n o : Nat} {dr : Nat → Option Nat} {n1 o1 : Nat} {dr1 : Nat → Option Nat} {n2 o2 : Nat} {dr2 dk rk : Nat → Option Nat} {kt : Nat → Int32} {tk : Int32} {pool : va_W} {kd fg : Nat → Nat} (hI : WI pool n o dr kd fg) {kd1 fg1 : Nat → Nat} (hJ : WI pool n1 o1 dr1 kd1 fg1) {kd2 fg2 : Nat → Nat} (hM : WI pool n2 o2 dr2 kd2 fg2) {x : Nat → Sf} {P : Nat → Nat} (hX : SX cA pool dk rk x P) {tkb : Bool} (htk : tk = b2i tkb) : Met l yX11_image wsX11_image rmX11_image (va_Pc [.ref (ob 6)] (Pre D cA A (XW cA ob mb ss sh sp mt rc n o dr n1 o1 dr1 n2 o2 dr2 dk rk kt tk pool))) (va_Qi (fun r (u : XS) => (r = nI o) ∧ XI cA u (n, o, kd, fg) (n, o, kd, fg) true x) (fun u t => Wd D A ((fun (u : XS) => XV cA ob u) u) t) A) (0) (0) A := by
  refine k_ofi (S := XS) (F := fun (u : XS) => XV cA ob u) (cc := cX11_image) (maxL := 1) (by decide) rfl (Nat.le_of_ble_eq_true rfl) ?_
  intro p e s m args below meth c Q hF hini hK hA hG hret ls hl
  have hl : lv_has ls 1 [(0, .ref (ob 6))] := hl
  have hn : n ≤ 6 := hI.1
  have ho : o < 64 := hI.o64
  have hp2 : 2 ^ n ≤ 64 := Nat.pow_le_pow_right (by decide) hn
  have hp1 : 1 ≤ 2 ^ n := Nat.one_le_two_pow
  refine lv_aload_n hF.1 hF.2.1 dX11_image_0 rfl (lv_at hl 0 rfl) ?_
  refine k_get (C := RX11) (T := TX11) (N := 8) hF hK hG (fun _ h => List.mem_cons_of_mem _ (List.mem_append_left _ (List.mem_append_right _ h))) 6 rfl rfl 1 (by decide) (List.mem_of_getElem? (i := 1) rfl) (fun _ h9 => h9) rfl dX11_image_1 ?_
  refine lv_aload_n hF.1 hF.2.1 dX11_image_4 rfl (lv_at hl 0 rfl) ?_
  refine k_get (C := RX11) (T := TX11) (N := 8) hF hK hG (fun _ h => List.mem_cons_of_mem _ (List.mem_append_left _ (List.mem_append_right _ h))) 6 rfl rfl 0 (by decide) (List.mem_of_getElem? (i := 2) rfl) (fun _ h9 => h9) rfl dX11_image_5 ?_
  refine k_cv (r_V (As := [.ref (ob 7)]) hF hK hA hG (c_X9_takeFrom hJ.w1 hI.w0 (fun h => absurd (hG.2.1.1 8 7 _ _ rfl rfl h) (by decide)) (fun h => absurd (hG.2.1.1 11 10 _ _ rfl rfl h) (by decide))) (cwV 1 hF.2.2.2.2 gX11_image_X9_takeFrom rfl rfl rfl (by decide +kernel) ⟨Nat.le_of_ble_eq_true rfl, Nat.le_of_ble_eq_true rfl⟩) 8 rfl rfl rfl rfl hl.1 rfl (lv_room (Nat.le_of_ble_eq_true rfl)) dX11_image_8 ⟨Nat.le_of_ble_eq_true rfl, Nat.le_of_ble_eq_true rfl⟩) hG (fun u_8 H locs hp_8 hG => ?_)
  have hG : Gd D A (XW cA ob mb ss sh sp mt rc n o dr n o dr n2 o2 dr2 dk rk kt tk pool) s.heap H locs := hG
  refine lv_aload_n hF.1 hF.2.1 dX11_image_11 rfl (lv_at hl 0 rfl) ?_
  refine lv_iconst (v := (nI 1)) hF.1 hF.2.1 dX11_image_12 (by decide +kernel) ?_
  refine k_put (C := RX11) (T := TX11) (N := 8) hF hK hG (fun _ h => List.mem_cons_of_mem _ (List.mem_append_left _ (List.mem_append_right _ h))) tyX11 tyX11_ok nmX11 6 rfl rfl 7 (by decide) (List.mem_of_getElem? (i := 3) rfl) (fun _ h9 => h9) rfl rfl rfl (Nat.le_of_ble_eq_true rfl) dX11_image_13 (fun H locs hG => ?_)
  have hG : Gd D A (XW cA ob mb ss sh sp mt rc n o dr n o dr n2 o2 dr2 dk rk kt (nI 1) pool) s.heap H locs := hG
  refine lv_aload_n hF.1 hF.2.1 dX11_image_16 rfl (lv_at hl 0 rfl) ?_
  refine k_get (C := RX11) (T := TX11) (N := 8) hF hK hG (fun _ h => List.mem_cons_of_mem _ (List.mem_append_left _ (List.mem_append_right _ h))) 6 rfl rfl 0 (by decide) (List.mem_of_getElem? (i := 2) rfl) (fun _ h9 => h9) rfl dX11_image_17 ?_
  refine k_get (C := RX9) (T := TX9) (N := 3) hF hK hG (fun _ h => List.mem_cons_of_mem _ (List.mem_append_right _ h)) 7 rfl rfl 2 (by decide) (List.mem_of_getElem? (i := 4) rfl) (fun _ h9 => h9) rfl dX11_image_20 ?_
  exact hret _ (_, _, _, _, _, _, _, _, _, _, _, _, _, _, _, _, _, _, _, _) _ ls _ _ _ _ (by exact ⟨rfl, ⟨⟨rfl, rfl⟩, ⟨rfl, rfl⟩, rfl, hI, hI, ⟨_, _, hM⟩, ⟨_, hX⟩⟩⟩) (by first | rfl | exact nar_b2i _) hG (Nat.le_of_ble_eq_true rfl) (Nat.le_of_ble_eq_true rfl) dX11_image_23

abbrev rmX11_restore : Room := { frames := 1, cells := 0, slots := 0, locals := 22 }
set_option maxHeartbeats 4000000 in
set_option maxRecDepth 100000 in
theorem c_X11_restore {l : Launch} {D : va_G} {cA : Nat → ClassId} {A : Nat → Prop}  {ob : Nat → Nat} {mb ss sh sp : Nat → Int32} {mt : Nat → Int64} {rc n o : Nat} {dr : Nat → Option Nat} {n1 o1 : Nat} {dr1 : Nat → Option Nat} {n2 o2 : Nat} {dr2 dk rk : Nat → Option Nat} {kt : Nat → Int32} {tk : Int32} {pool : va_W} {kd fg : Nat → Nat} (hI : WI pool n o dr kd fg) {kd1 fg1 : Nat → Nat} (hJ : WI pool n1 o1 dr1 kd1 fg1) {kd2 fg2 : Nat → Nat} (hM : WI pool n2 o2 dr2 kd2 fg2) {x : Nat → Sf} {P : Nat → Nat} (hX : SX cA pool dk rk x P) {tkb : Bool} (htk : tk = b2i tkb) : Met l yX11_restore wsX11_restore rmX11_restore (va_Pc [.ref (ob 6)] (Pre D cA A (XW cA ob mb ss sh sp mt rc n o dr n1 o1 dr1 n2 o2 dr2 dk rk kt tk pool))) (va_Qi (fun r (u : XS) => (r = if tkb = true then nI o1 else -3) ∧ XI cA u (if tkb = true then (n1, o1, kd1, fg1) else (n, o, kd, fg)) (n1, o1, kd1, fg1) tkb x) (fun u t => Wd D A ((fun (u : XS) => XV cA ob u) u) t) A) (0) (0) A := by
  refine k_ofi (S := XS) (F := fun (u : XS) => XV cA ob u) (cc := cX11_restore) (maxL := 1) (by decide) rfl (Nat.le_of_ble_eq_true rfl) ?_
  intro p e s m args below meth c Q hF hini hK hA hG hret ls hl
  have hl : lv_has ls 1 [(0, .ref (ob 6))] := hl
  have hn : n ≤ 6 := hI.1
  have ho : o < 64 := hI.o64
  have hp2 : 2 ^ n ≤ 64 := Nat.pow_le_pow_right (by decide) hn
  have hp1 : 1 ≤ 2 ^ n := Nat.one_le_two_pow
  refine lv_aload_n hF.1 hF.2.1 dX11_restore_0 rfl (lv_at hl 0 rfl) ?_
  refine k_get (C := RX11) (T := TX11) (N := 8) hF hK hG (fun _ h => List.mem_cons_of_mem _ (List.mem_append_left _ (List.mem_append_right _ h))) 6 rfl rfl 7 (by decide) (List.mem_of_getElem? (i := 1) rfl) (fun _ h9 => h9) rfl dX11_restore_1 ?_
  rw [htk]
  refine lv_if_ne (tgt := 10) hF.1 hF.2.1 dX11_restore_4 (by decide) (fun c_4 => ?_) (fun c_4 => ?_)
  · --
    have n_4 : (tkb) = true := b2i_nz.mp c_4
    refine lv_aload_n hF.1 hF.2.1 dX11_restore_10 rfl (lv_at hl 0 rfl) ?_
    refine k_get (C := RX11) (T := TX11) (N := 8) hF hK hG (fun _ h => List.mem_cons_of_mem _ (List.mem_append_left _ (List.mem_append_right _ h))) 6 rfl rfl 0 (by decide) (List.mem_of_getElem? (i := 2) rfl) (fun _ h9 => h9) rfl dX11_restore_11 ?_
    refine lv_aload_n hF.1 hF.2.1 dX11_restore_14 rfl (lv_at hl 0 rfl) ?_
    refine k_get (C := RX11) (T := TX11) (N := 8) hF hK hG (fun _ h => List.mem_cons_of_mem _ (List.mem_append_left _ (List.mem_append_right _ h))) 6 rfl rfl 1 (by decide) (List.mem_of_getElem? (i := 3) rfl) (fun _ h9 => h9) rfl dX11_restore_15 ?_
    refine k_cv (r_V (As := [.ref (ob 8)]) hF hK hA hG (c_X9_takeFrom hI.w0 hJ.w1 (fun h => absurd (hG.2.1.1 7 8 _ _ rfl rfl h) (by decide)) (fun h => absurd (hG.2.1.1 10 11 _ _ rfl rfl h) (by decide))) (cwV 1 hF.2.2.2.2 gX11_restore_X9_takeFrom rfl rfl rfl (by decide +kernel) ⟨Nat.le_of_ble_eq_true rfl, Nat.le_of_ble_eq_true rfl⟩) 7 rfl rfl rfl rfl hl.1 rfl (lv_room (Nat.le_of_ble_eq_true rfl)) dX11_restore_18 ⟨Nat.le_of_ble_eq_true rfl, Nat.le_of_ble_eq_true rfl⟩) hG (fun u_18 H locs hp_18 hG => ?_)
    have hG : Gd D A (XW cA ob mb ss sh sp mt rc n1 o1 dr1 n1 o1 dr1 n2 o2 dr2 dk rk kt tk pool) s.heap H locs := hG
    refine lv_aload_n hF.1 hF.2.1 dX11_restore_21 rfl (lv_at hl 0 rfl) ?_
    refine k_get (C := RX11) (T := TX11) (N := 8) hF hK hG (fun _ h => List.mem_cons_of_mem _ (List.mem_append_left _ (List.mem_append_right _ h))) 6 rfl rfl 0 (by decide) (List.mem_of_getElem? (i := 2) rfl) (fun _ h9 => h9) rfl dX11_restore_22 ?_
    refine k_get (C := RX9) (T := TX9) (N := 3) hF hK hG (fun _ h => List.mem_cons_of_mem _ (List.mem_append_right _ h)) 7 rfl rfl 2 (by decide) (List.mem_of_getElem? (i := 4) rfl) (fun _ h9 => h9) rfl dX11_restore_25 ?_
    exact hret _ (_, _, _, _, _, _, _, _, _, _, _, _, _, _, _, _, _, _, _, _) _ ls _ _ _ _ (by rw [n_4]; exact ⟨rfl, ⟨⟨rfl, rfl⟩, ⟨rfl, rfl⟩, htk.trans (by rw [n_4]), hJ, hJ, ⟨_, _, hM⟩, ⟨_, hX⟩⟩⟩) (by first | rfl | exact nar_b2i _) hG (Nat.le_of_ble_eq_true rfl) (Nat.le_of_ble_eq_true rfl) dX11_restore_28
  · --
    have n_4 : (tkb) = false := b2i_z.mp c_4
    refine lv_bipush (v := (-3)) hF.1 hF.2.1 dX11_restore_7 (by decide +kernel) ?_
    exact hret _ (_, _, _, _, _, _, _, _, _, _, _, _, _, _, _, _, _, _, _, _) _ ls _ _ _ _ (by rw [n_4]; exact ⟨rfl, ⟨⟨rfl, rfl⟩, ⟨rfl, rfl⟩, htk.trans (by rw [n_4]), hI, hJ, ⟨_, _, hM⟩, ⟨_, hX⟩⟩⟩) (by first | rfl | exact nar_b2i _) hG (Nat.le_of_ble_eq_true rfl) (Nat.le_of_ble_eq_true rfl) dX11_restore_9

abbrev rmX11_count : Room := { frames := 5, cells := 0, slots := 0, locals := 112 }
set_option maxHeartbeats 4000000 in
set_option maxRecDepth 100000 in
theorem c_X11_count {l : Launch} {D : va_G} {cA : Nat → ClassId} {A : Nat → Prop}  {ob : Nat → Nat} {mb ss sh sp : Nat → Int32} {mt : Nat → Int64} {rc n o : Nat} {dr : Nat → Option Nat} {n1 o1 : Nat} {dr1 : Nat → Option Nat} {n2 o2 : Nat} {dr2 dk rk : Nat → Option Nat} {kt : Nat → Int32} {tk : Int32} {pool : va_W} {kd fg : Nat → Nat} (hI : WI pool n o dr kd fg) {kd1 fg1 : Nat → Nat} (hJ : WI pool n1 o1 dr1 kd1 fg1) {kd2 fg2 : Nat → Nat} (hM : WI pool n2 o2 dr2 kd2 fg2) {x : Nat → Sf} {P : Nat → Nat} (hX : SX cA pool dk rk x P) {tkb : Bool} (htk : tk = b2i tkb) {what : Int32} : Met l yX11_count wsX11_count rmX11_count (va_Pc [.ref (ob 6), .int what] (Pre D cA A (XW cA ob mb ss sh sp mt rc n o dr n1 o1 dr1 n2 o2 dr2 dk rk kt tk pool))) (va_Qi (fun r (u : XS) => (r = spCount n o kd fg what) ∧ XI cA u (n, o, kd, fg) (n1, o1, kd1, fg1) tkb x) (fun u t => Wd D A ((fun (u : XS) => XV cA ob u) u) t) A) (0) (0) A := by
  refine k_ofi (S := XS) (F := fun (u : XS) => XV cA ob u) (cc := cX11_count) (maxL := 2) (by decide) rfl (Nat.le_of_ble_eq_true rfl) ?_
  intro p e s m args below meth c Q hF hini hK hA hG hret ls hl
  have hl : lv_has ls 2 [(0, .ref (ob 6)), (1, .int what)] := hl
  have hn : n ≤ 6 := hI.1
  have ho : o < 64 := hI.o64
  have hp2 : 2 ^ n ≤ 64 := Nat.pow_le_pow_right (by decide) hn
  have hp1 : 1 ≤ 2 ^ n := Nat.one_le_two_pow
  refine lv_iload_n hF.1 hF.2.1 dX11_count_0 rfl (lv_at hl 1 rfl) ?_
  refine sw_by (nI 0) (fun e1_0 => ?_) (fun e1_0 => ?_)
  · --
    refine lv_tableIn (tgt := 32) hF.1 hF.2.1 dX11_count_1 (by decide +kernel) (by decide +kernel) rfl (by decide) ?_
    refine lv_aload_n hF.1 hF.2.1 dX11_count_32 rfl (lv_at hl 0 rfl) ?_
    refine k_get (C := RX11) (T := TX11) (N := 8) hF hK hG (fun _ h => List.mem_cons_of_mem _ (List.mem_append_left _ (List.mem_append_left _ (List.mem_append_left _ (List.mem_append_left _ (List.mem_append_left _ (List.mem_append_left _ (List.mem_append_left _ (List.mem_append_left _ (List.mem_append_left _ (List.mem_append_right _ h))))))))))) 6 rfl rfl 0 (by decide) (List.mem_of_getElem? (i := 1) rfl) (fun _ h9 => h9) rfl dX11_count_33 ?_
    refine k_get (C := RX9) (T := TX9) (N := 3) hF hK hG (fun _ h => List.mem_cons_of_mem _ (List.mem_append_left _ (List.mem_append_left _ (List.mem_append_left _ (List.mem_append_left _ (List.mem_append_left _ (List.mem_append_left _ (List.mem_append_left _ (List.mem_append_left _ (List.mem_append_right _ h)))))))))) 7 rfl rfl 1 (by decide) (List.mem_of_getElem? (i := 2) rfl) (fun _ h9 => h9) rfl dX11_count_36 ?_
    exact hret _ (_, _, _, _, _, _, _, _, _, _, _, _, _, _, _, _, _, _, _, _) _ ls _ _ _ _ (by refine ⟨?_, ⟨⟨rfl, rfl⟩, ⟨rfl, rfl⟩, htk, hI, hJ, ⟨_, _, hM⟩, ⟨_, hX⟩⟩⟩; unfold spCount; rw [if_pos e1_0]) (by first | rfl | exact nar_b2i _) hG (Nat.le_of_ble_eq_true rfl) (Nat.le_of_ble_eq_true rfl) dX11_count_39
  refine sw_by (nI 1) (fun e1_1 => ?_) (fun e1_1 => ?_)
  · --
    refine lv_tableIn (tgt := 40) hF.1 hF.2.1 dX11_count_1 (by decide +kernel) (by decide +kernel) rfl (by decide) ?_
    refine lv_aload_n hF.1 hF.2.1 dX11_count_40 rfl (lv_at hl 0 rfl) ?_
    refine k_get (C := RX11) (T := TX11) (N := 8) hF hK hG (fun _ h => List.mem_cons_of_mem _ (List.mem_append_left _ (List.mem_append_left _ (List.mem_append_left _ (List.mem_append_left _ (List.mem_append_left _ (List.mem_append_left _ (List.mem_append_left _ (List.mem_append_left _ (List.mem_append_left _ (List.mem_append_right _ h))))))))))) 6 rfl rfl 0 (by decide) (List.mem_of_getElem? (i := 1) rfl) (fun _ h9 => h9) rfl dX11_count_41 ?_
    refine k_get (C := RX9) (T := TX9) (N := 3) hF hK hG (fun _ h => List.mem_cons_of_mem _ (List.mem_append_left _ (List.mem_append_left _ (List.mem_append_left _ (List.mem_append_left _ (List.mem_append_left _ (List.mem_append_left _ (List.mem_append_left _ (List.mem_append_left _ (List.mem_append_right _ h)))))))))) 7 rfl rfl 2 (by decide) (List.mem_of_getElem? (i := 3) rfl) (fun _ h9 => h9) rfl dX11_count_44 ?_
    refine k_ci (r_S (As := [.int (nI o)]) hF hK hA hG (c_J6_bitCount_0f7a4 (by omega)) (va_cwS 1 hF.2.2.2.2 gX11_count_J6_bitCount_0f7a4 rfl rfl rfl (by decide +kernel) ⟨Nat.le_of_ble_eq_true rfl, Nat.le_of_ble_eq_true rfl⟩) rfl hl.1 rfl (lv_room (Nat.le_of_ble_eq_true rfl)) dX11_count_47 ⟨Nat.le_of_ble_eq_true rfl, Nat.le_of_ble_eq_true rfl⟩) hG (fun r_47 u_47 H locs hp_47 hG => ?_)
    subst hp_47
    exact hret _ (_, _, _, _, _, _, _, _, _, _, _, _, _, _, _, _, _, _, _, _) _ ls _ _ _ _ (by refine ⟨?_, ⟨⟨rfl, rfl⟩, ⟨rfl, rfl⟩, htk, hI, hJ, ⟨_, _, hM⟩, ⟨_, hX⟩⟩⟩; unfold spCount; rw [if_neg e1_0, if_pos e1_1]) (by first | rfl | exact nar_b2i _) hG (Nat.le_of_ble_eq_true rfl) (Nat.le_of_ble_eq_true rfl) dX11_count_50
  refine sw_by (nI 2) (fun e1_2 => ?_) (fun e1_2 => ?_)
  · --
    refine lv_tableIn (tgt := 51) hF.1 hF.2.1 dX11_count_1 (by decide +kernel) (by decide +kernel) rfl (by decide) ?_
    refine lv_aload_n hF.1 hF.2.1 dX11_count_51 rfl (lv_at hl 0 rfl) ?_
    refine k_get (C := RX11) (T := TX11) (N := 8) hF hK hG (fun _ h => List.mem_cons_of_mem _ (List.mem_append_left _ (List.mem_append_left _ (List.mem_append_left _ (List.mem_append_left _ (List.mem_append_left _ (List.mem_append_left _ (List.mem_append_left _ (List.mem_append_left _ (List.mem_append_left _ (List.mem_append_right _ h))))))))))) 6 rfl rfl 0 (by decide) (List.mem_of_getElem? (i := 1) rfl) (fun _ h9 => h9) rfl dX11_count_52 ?_
    refine lv_aload_n hF.1 hF.2.1 dX11_count_55 rfl (lv_at hl 0 rfl) ?_
    refine k_get (C := RX11) (T := TX11) (N := 8) hF hK hG (fun _ h => List.mem_cons_of_mem _ (List.mem_append_left _ (List.mem_append_left _ (List.mem_append_left _ (List.mem_append_left _ (List.mem_append_left _ (List.mem_append_left _ (List.mem_append_left _ (List.mem_append_left _ (List.mem_append_left _ (List.mem_append_right _ h))))))))))) 6 rfl rfl 0 (by decide) (List.mem_of_getElem? (i := 1) rfl) (fun _ h9 => h9) rfl dX11_count_56 ?_
    refine k_get (C := RX9) (T := TX9) (N := 3) hF hK hG (fun _ h => List.mem_cons_of_mem _ (List.mem_append_left _ (List.mem_append_left _ (List.mem_append_left _ (List.mem_append_left _ (List.mem_append_left _ (List.mem_append_left _ (List.mem_append_left _ (List.mem_append_left _ (List.mem_append_right _ h)))))))))) 7 rfl rfl 2 (by decide) (List.mem_of_getElem? (i := 3) rfl) (fun _ h9 => h9) rfl dX11_count_59 ?_
    refine k_ci (r_V (As := [.int (nI o)]) hF hK hA hG (c_X9_mayBits hI.w0 ho) (cwV 1 hF.2.2.2.2 gX11_count_X9_mayBits rfl rfl rfl (by decide +kernel) ⟨Nat.le_of_ble_eq_true rfl, Nat.le_of_ble_eq_true rfl⟩) 7 rfl rfl rfl rfl hl.1 rfl (lv_room (Nat.le_of_ble_eq_true rfl)) dX11_count_62 ⟨Nat.le_of_ble_eq_true rfl, Nat.le_of_ble_eq_true rfl⟩) hG (fun r_62 u_62 H locs hp_62 hG => ?_)
    subst hp_62
    refine k_ci (r_S (As := [.int (nI (mayU kd fg o n))]) hF hK hA hG (c_J6_bitCount_0f7a4 (Nat.lt_of_lt_of_le (mayU_lt kd fg o n) (show 2 ^ n ≤ 2 ^ 8 from Nat.pow_le_pow_right (by decide) (by omega)))) (va_cwS 1 hF.2.2.2.2 gX11_count_J6_bitCount_0f7a4 rfl rfl rfl (by decide +kernel) ⟨Nat.le_of_ble_eq_true rfl, Nat.le_of_ble_eq_true rfl⟩) rfl hl.1 rfl (lv_room (Nat.le_of_ble_eq_true rfl)) dX11_count_65 ⟨Nat.le_of_ble_eq_true rfl, Nat.le_of_ble_eq_true rfl⟩) hG (fun r_65 u_65 H locs hp_65 hG => ?_)
    subst hp_65
    exact hret _ (_, _, _, _, _, _, _, _, _, _, _, _, _, _, _, _, _, _, _, _) _ ls _ _ _ _ (by refine ⟨?_, ⟨⟨rfl, rfl⟩, ⟨rfl, rfl⟩, htk, hI, hJ, ⟨_, _, hM⟩, ⟨_, hX⟩⟩⟩; unfold spCount; rw [if_neg e1_0, if_neg e1_1, if_pos e1_2]) (by first | rfl | exact nar_b2i _) hG (Nat.le_of_ble_eq_true rfl) (Nat.le_of_ble_eq_true rfl) dX11_count_68
  refine sw_by (nI 3) (fun e1_3 => ?_) (fun e1_3 => ?_)
  · --
    refine lv_tableIn (tgt := 69) hF.1 hF.2.1 dX11_count_1 (by decide +kernel) (by decide +kernel) rfl (by decide) ?_
    refine lv_aload_n hF.1 hF.2.1 dX11_count_69 rfl (lv_at hl 0 rfl) ?_
    refine k_get (C := RX11) (T := TX11) (N := 8) hF hK hG (fun _ h => List.mem_cons_of_mem _ (List.mem_append_left _ (List.mem_append_left _ (List.mem_append_left _ (List.mem_append_left _ (List.mem_append_left _ (List.mem_append_left _ (List.mem_append_left _ (List.mem_append_left _ (List.mem_append_left _ (List.mem_append_right _ h))))))))))) 6 rfl rfl 0 (by decide) (List.mem_of_getElem? (i := 1) rfl) (fun _ h9 => h9) rfl dX11_count_70 ?_
    refine lv_iconst (v := (nI 2)) hF.1 hF.2.1 dX11_count_73 (by decide +kernel) ?_
    refine k_ci (r_V (As := [.int (nI 2)]) hF hK hA hG (c_X9_howManyOf hI.w0 (show 2 < 8 by decide)) (cwV 1 hF.2.2.2.2 gX11_count_X9_howManyOf rfl rfl rfl (by decide +kernel) ⟨Nat.le_of_ble_eq_true rfl, Nat.le_of_ble_eq_true rfl⟩) 7 rfl rfl rfl rfl hl.1 rfl (lv_room (Nat.le_of_ble_eq_true rfl)) dX11_count_74 ⟨Nat.le_of_ble_eq_true rfl, Nat.le_of_ble_eq_true rfl⟩) hG (fun r_74 u_74 H locs hp_74 hG => ?_)
    subst hp_74
    exact hret _ (_, _, _, _, _, _, _, _, _, _, _, _, _, _, _, _, _, _, _, _) _ ls _ _ _ _ (by refine ⟨?_, ⟨⟨rfl, rfl⟩, ⟨rfl, rfl⟩, htk, hI, hJ, ⟨_, _, hM⟩, ⟨_, hX⟩⟩⟩; unfold spCount; rw [if_neg e1_0, if_neg e1_1, if_neg e1_2, if_pos e1_3]) (by first | rfl | exact nar_b2i _) hG (Nat.le_of_ble_eq_true rfl) (Nat.le_of_ble_eq_true rfl) dX11_count_77
  refine lv_tableOut (tgt := 78) hF.1 hF.2.1 dX11_count_1 (by have q_0 := lv_neT e1_0 (a := 0) (by decide +kernel); have q_1 := lv_neT e1_1 (a := 1) (by decide +kernel); have q_2 := lv_neT e1_2 (a := 2) (by decide +kernel); have q_3 := lv_neT e1_3 (a := 3) (by decide +kernel); omega) (by decide) ?_
  refine lv_iconst (v := (-1)) hF.1 hF.2.1 dX11_count_78 (by decide +kernel) ?_
  exact hret _ (_, _, _, _, _, _, _, _, _, _, _, _, _, _, _, _, _, _, _, _) _ ls _ _ _ _ (by refine ⟨?_, ⟨⟨rfl, rfl⟩, ⟨rfl, rfl⟩, htk, hI, hJ, ⟨_, _, hM⟩, ⟨_, hX⟩⟩⟩; unfold spCount; rw [if_neg e1_0, if_neg e1_1, if_neg e1_2, if_neg e1_3]) (by first | rfl | exact nar_b2i _) hG (Nat.le_of_ble_eq_true rfl) (Nat.le_of_ble_eq_true rfl) dX11_count_79

abbrev rmX11_keep : Room := { frames := 6, cells := 1, slots := 1, locals := 129 }
set_option maxHeartbeats 4000000 in
set_option maxRecDepth 100000 in
theorem c_X11_keep {l : Launch} {D : va_G} {cA : Nat → ClassId} {A : Nat → Prop}  {ob : Nat → Nat} {mb ss sh sp : Nat → Int32} {mt : Nat → Int64} {rc n o : Nat} {dr : Nat → Option Nat} {n1 o1 : Nat} {dr1 : Nat → Option Nat} {n2 o2 : Nat} {dr2 dk rk : Nat → Option Nat} {kt : Nat → Int32} {tk : Int32} {pool : va_W} {kd fg : Nat → Nat} (hI : WI pool n o dr kd fg) {kd1 fg1 : Nat → Nat} (hJ : WI pool n1 o1 dr1 kd1 fg1) {kd2 fg2 : Nat → Nat} (hM : WI pool n2 o2 dr2 kd2 fg2) {x : Nat → Sf} {P : Nat → Nat} (hX : SX cA pool dk rk x P) {tkb : Bool} (htk : tk = b2i tkb) {d what k f : Int32} : Met l yX11_keep wsX11_keep rmX11_keep (va_Pc [.ref (ob 6), .int d, .int what, .int k, .int f] (Pre D cA A (XW cA ob mb ss sh sp mt rc n o dr n1 o1 dr1 n2 o2 dr2 dk rk kt tk pool))) (va_Qi (fun r (u : XS) => (r = (spKeep x d what k f).1) ∧ XI cA u (n, o, kd, fg) (n1, o1, kd1, fg1) tkb (spKeep x d what k f).2) (fun u t => Wd D A ((fun (u : XS) => XV cA ob u) u) t) A) (1) (1) A := by
  refine k_ofi (S := XS) (F := fun (u : XS) => XV cA ob u) (cc := cX11_keep) (maxL := 5) (by decide) rfl (Nat.le_of_ble_eq_true rfl) ?_
  intro p e s m args below meth c Q hF hini hK hA hG hret ls hl
  have hl : lv_has ls 5 [(0, .ref (ob 6)), (1, .int d), (2, .int what), (3, .int k), (4, .int f)] := hl
  have hn : n ≤ 6 := hI.1
  have ho : o < 64 := hI.o64
  have hp2 : 2 ^ n ≤ 64 := Nat.pow_le_pow_right (by decide) hn
  have hp1 : 1 ≤ 2 ^ n := Nat.one_le_two_pow
  refine lv_iload_n hF.1 hF.2.1 dX11_keep_0 rfl (lv_at hl 1 rfl) ?_
  refine k_ci (r_S (As := [.int d]) hF hK hA hG (c_X11_isShelf) (cwS 1 hF.2.2.2.2 gX11_keep_X11_isShelf rfl rfl rfl (by decide +kernel) ⟨Nat.le_of_ble_eq_true rfl, Nat.le_of_ble_eq_true rfl⟩) rfl hl.1 rfl (lv_room (Nat.le_of_ble_eq_true rfl)) dX11_keep_1 ⟨Nat.le_of_ble_eq_true rfl, Nat.le_of_ble_eq_true rfl⟩) hG (fun r_1 u_1 H locs hp_1 hG => ?_)
  subst hp_1
  refine lv_if_eq (tgt := 16) hF.1 hF.2.1 dX11_keep_4 (by decide) (fun c_4 => ?_) (fun c_4 => ?_)
  · --
    have n_4 : (inB 8 d) = false := b2i_z.mp c_4
    refine lv_iconst (v := (-1)) hF.1 hF.2.1 dX11_keep_16 (by decide +kernel) ?_
    exact hret _ (_, _, _, _, _, _, _, _, _, _, _, _, _, _, _, _, _, _, _, _) _ ls _ _ _ _ (by first | (rw [spKeep_f (keepOk_1 n_4)]; exact ⟨rfl, ⟨⟨rfl, rfl⟩, ⟨rfl, rfl⟩, htk, hI, hJ, ⟨_, _, hM⟩, ⟨_, hX⟩⟩⟩) | (rw [spKeep_f (keepOk_2 (inB_l c_8))]; exact ⟨rfl, ⟨⟨rfl, rfl⟩, ⟨rfl, rfl⟩, htk, hI, hJ, ⟨_, _, hM⟩, ⟨_, hX⟩⟩⟩) | (rw [spKeep_f (keepOk_2 (in2_f c_13))]; exact ⟨rfl, ⟨⟨rfl, rfl⟩, ⟨rfl, rfl⟩, htk, hI, hJ, ⟨_, _, hM⟩, ⟨_, hX⟩⟩⟩)) (by first | rfl | exact nar_b2i _) hG (Nat.le_of_ble_eq_true rfl) (Nat.le_of_ble_eq_true rfl) dX11_keep_17
  · --
    have n_4 : (inB 8 d) = true := b2i_nz.mp c_4
    refine lv_iload_n hF.1 hF.2.1 dX11_keep_7 rfl (lv_at hl 2 rfl) ?_
    refine lv_if_lt (tgt := 16) hF.1 hF.2.1 dX11_keep_8 (by decide) (fun c_8 => ?_) (fun c_8 => ?_)
    · --
      refine lv_iconst (v := (-1)) hF.1 hF.2.1 dX11_keep_16 (by decide +kernel) ?_
      exact hret _ (_, _, _, _, _, _, _, _, _, _, _, _, _, _, _, _, _, _, _, _) _ ls _ _ _ _ (by first | (rw [spKeep_f (keepOk_1 n_4)]; exact ⟨rfl, ⟨⟨rfl, rfl⟩, ⟨rfl, rfl⟩, htk, hI, hJ, ⟨_, _, hM⟩, ⟨_, hX⟩⟩⟩) | (rw [spKeep_f (keepOk_2 (inB_l c_8))]; exact ⟨rfl, ⟨⟨rfl, rfl⟩, ⟨rfl, rfl⟩, htk, hI, hJ, ⟨_, _, hM⟩, ⟨_, hX⟩⟩⟩) | (rw [spKeep_f (keepOk_2 (in2_f c_13))]; exact ⟨rfl, ⟨⟨rfl, rfl⟩, ⟨rfl, rfl⟩, htk, hI, hJ, ⟨_, _, hM⟩, ⟨_, hX⟩⟩⟩)) (by first | rfl | exact nar_b2i _) hG (Nat.le_of_ble_eq_true rfl) (Nat.le_of_ble_eq_true rfl) dX11_keep_17
    · --
      refine lv_iload_n hF.1 hF.2.1 dX11_keep_11 rfl (lv_at hl 2 rfl) ?_
      refine lv_iconst (v := (nI 1)) hF.1 hF.2.1 dX11_keep_12 (by decide +kernel) ?_
      refine lv_icmp_le (tgt := 18) hF.1 hF.2.1 dX11_keep_13 (by decide) (fun c_13 => ?_) (fun c_13 => ?_)
      · --
        have hw2 := in2_t c_8 c_13
        refine lv_iload_n hF.1 hF.2.1 dX11_keep_18 rfl (lv_at hl 2 rfl) ?_
        refine lv_iconst (v := (nI 1)) hF.1 hF.2.1 dX11_keep_19 (by decide +kernel) ?_
        refine lv_icmp_ne (tgt := 43) hF.1 hF.2.1 dX11_keep_20 (by decide) (fun c_20 => ?_) (fun c_20 => ?_)
        · --
          obtain ⟨j, hj, rfl⟩ := inB_ex (by omega) n_4
          refine lv_aload_n hF.1 hF.2.1 dX11_keep_43 rfl (lv_at hl 0 rfl) ?_
          refine k_get (C := RX11) (T := TX11) (N := 8) hF hK hG (fun _ h => List.mem_cons_of_mem _ (List.mem_append_left _ (List.mem_append_left _ (List.mem_append_left _ (List.mem_append_left _ (List.mem_append_left _ (List.mem_append_left _ (List.mem_append_left _ (List.mem_append_left _ (List.mem_append_right _ h)))))))))) 6 rfl rfl 4 (by decide) (List.mem_of_getElem? (i := 1) rfl) (fun _ h9 => h9) rfl dX11_keep_44 ?_
          refine lv_iload_n hF.1 hF.2.1 dX11_keep_47 rfl (lv_at hl 1 rfl) ?_
          refine lv_iload_n hF.1 hF.2.1 dX11_keep_48 rfl (lv_at hl 2 rfl) ?_
          refine lv_iconst (v := (nI 1)) hF.1 hF.2.1 dX11_keep_49 (by decide +kernel) ?_
          refine lv_icmp_ne (tgt := 62) hF.1 hF.2.1 dX11_keep_50 (by decide) (fun c_50 => ?_) (fun c_50 => ?_)
          · --
            refine lv_null hF.1 hF.2.1 dX11_keep_62 ?_
            refine k_astZ hF hK hG 13 2 rfl rfl (j) rfl (by omega) (by omega) dX11_keep_63 (fun H locs hG => ?_)
            have hG : Gd D A (XW cA ob mb ss sh sp mt rc n o dr n1 o1 dr1 n2 o2 dr2 (va_up dk j none) rk kt tk pool) s.heap H locs := hG
            refine lv_aload_n hF.1 hF.2.1 dX11_keep_64 rfl (lv_at hl 0 rfl) ?_
            refine k_get (C := RX11) (T := TX11) (N := 8) hF hK hG (fun _ h => List.mem_cons_of_mem _ (List.mem_append_left _ (List.mem_append_left _ (List.mem_append_left _ (List.mem_append_left _ (List.mem_append_left _ (List.mem_append_left _ (List.mem_append_left _ (List.mem_append_left _ (List.mem_append_right _ h)))))))))) 6 rfl rfl 5 (by decide) (List.mem_of_getElem? (i := 2) rfl) (fun _ h9 => h9) rfl dX11_keep_65 ?_
            refine lv_iload_n hF.1 hF.2.1 dX11_keep_68 rfl (lv_at hl 1 rfl) ?_
            refine lv_null hF.1 hF.2.1 dX11_keep_69 ?_
            refine k_astZ hF hK hG 14 3 rfl rfl (j) rfl (by omega) (by omega) dX11_keep_70 (fun H locs hG => ?_)
            have hG : Gd D A (XW cA ob mb ss sh sp mt rc n o dr n1 o1 dr1 n2 o2 dr2 (va_up dk j none) (va_up rk j none) kt tk pool) s.heap H locs := hG
            refine lv_iconst (v := (nI 0)) hF.1 hF.2.1 dX11_keep_71 (by decide +kernel) ?_
            exact hret _ (_, _, _, _, _, _, _, _, _, _, _, _, _, _, _, _, _, _, _, _) _ ls _ _ _ _ (by first | (rw [c_20, spKeep_1 hj ha hb]; exact ⟨rfl, ⟨⟨rfl, rfl⟩, ⟨rfl, rfl⟩, htk, hI.push, hJ.push, ⟨_, _, hM.push⟩, ⟨_, hX.setD hj ha hb⟩⟩⟩) | (rw [spKeep_0 hj hw2 c_20]; exact ⟨rfl, ⟨⟨rfl, rfl⟩, ⟨rfl, rfl⟩, htk, hI, hJ, ⟨_, _, hM⟩, ⟨_, hX.setN hj⟩⟩⟩)) (by first | rfl | exact nar_b2i _) hG (Nat.le_of_ble_eq_true rfl) (Nat.le_of_ble_eq_true rfl) dX11_keep_72
          · --
            exact absurd c_50 c_20
        · --
          refine lv_iload_n hF.1 hF.2.1 dX11_keep_23 rfl (lv_at hl 3 rfl) ?_
          refine lv_if_lt (tgt := 41) hF.1 hF.2.1 dX11_keep_24 (by decide) (fun c_24 => ?_) (fun c_24 => ?_)
          · --
            refine lv_iconst (v := (-1)) hF.1 hF.2.1 dX11_keep_41 (by decide +kernel) ?_
            exact hret _ (_, _, _, _, _, _, _, _, _, _, _, _, _, _, _, _, _, _, _, _) _ ls _ _ _ _ (by first | (rw [spKeep_f (keepOk_3 c_20 (inB_l c_24))]; exact ⟨rfl, ⟨⟨rfl, rfl⟩, ⟨rfl, rfl⟩, htk, hI, hJ, ⟨_, _, hM⟩, ⟨_, hX⟩⟩⟩) | (rw [spKeep_f (keepOk_3 c_20 (inB_r c_30))]; exact ⟨rfl, ⟨⟨rfl, rfl⟩, ⟨rfl, rfl⟩, htk, hI, hJ, ⟨_, _, hM⟩, ⟨_, hX⟩⟩⟩) | (rw [spKeep_f (keepOk_4 c_20 n_38)]; exact ⟨rfl, ⟨⟨rfl, rfl⟩, ⟨rfl, rfl⟩, htk, hI, hJ, ⟨_, _, hM⟩, ⟨_, hX⟩⟩⟩)) (by first | rfl | exact nar_b2i _) hG (Nat.le_of_ble_eq_true rfl) (Nat.le_of_ble_eq_true rfl) dX11_keep_42
          · --
            refine lv_iload_n hF.1 hF.2.1 dX11_keep_27 rfl (lv_at hl 3 rfl) ?_
            refine lv_bipush (v := (nI 8)) hF.1 hF.2.1 dX11_keep_28 (by decide +kernel) ?_
            refine lv_icmp_ge (tgt := 41) hF.1 hF.2.1 dX11_keep_30 (by decide) (fun c_30 => ?_) (fun c_30 => ?_)
            · --
              refine lv_iconst (v := (-1)) hF.1 hF.2.1 dX11_keep_41 (by decide +kernel) ?_
              exact hret _ (_, _, _, _, _, _, _, _, _, _, _, _, _, _, _, _, _, _, _, _) _ ls _ _ _ _ (by first | (rw [spKeep_f (keepOk_3 c_20 (inB_l c_24))]; exact ⟨rfl, ⟨⟨rfl, rfl⟩, ⟨rfl, rfl⟩, htk, hI, hJ, ⟨_, _, hM⟩, ⟨_, hX⟩⟩⟩) | (rw [spKeep_f (keepOk_3 c_20 (inB_r c_30))]; exact ⟨rfl, ⟨⟨rfl, rfl⟩, ⟨rfl, rfl⟩, htk, hI, hJ, ⟨_, _, hM⟩, ⟨_, hX⟩⟩⟩) | (rw [spKeep_f (keepOk_4 c_20 n_38)]; exact ⟨rfl, ⟨⟨rfl, rfl⟩, ⟨rfl, rfl⟩, htk, hI, hJ, ⟨_, _, hM⟩, ⟨_, hX⟩⟩⟩)) (by first | rfl | exact nar_b2i _) hG (Nat.le_of_ble_eq_true rfl) (Nat.le_of_ble_eq_true rfl) dX11_keep_42
            · --
              have hk8 := inB_t c_24 c_30
              refine lv_iload hF.1 hF.2.1 dX11_keep_33 (lv_at hl 4 rfl) ?_
              refine k_ci (r_S (As := [.int f]) hF hK hA hG (c_X11_isFigure) (cwS 1 hF.2.2.2.2 gX11_keep_X11_isFigure rfl rfl rfl (by decide +kernel) ⟨Nat.le_of_ble_eq_true rfl, Nat.le_of_ble_eq_true rfl⟩) rfl hl.1 rfl (lv_room (Nat.le_of_ble_eq_true rfl)) dX11_keep_35 ⟨Nat.le_of_ble_eq_true rfl, Nat.le_of_ble_eq_true rfl⟩) hG (fun r_35 u_35 H locs hp_35 hG => ?_)
              subst hp_35
              refine lv_if_ne (tgt := 43) hF.1 hF.2.1 dX11_keep_38 (by decide) (fun c_38 => ?_) (fun c_38 => ?_)
              · --
                have n_38 : (inB 10 f) = true := b2i_nz.mp c_38
                obtain ⟨a, ha, rfl⟩ := inB_ex (by omega) hk8
                obtain ⟨b, hb, rfl⟩ := inB_ex (by omega) n_38
                obtain ⟨j, hj, rfl⟩ := inB_ex (by omega) n_4
                refine lv_aload_n hF.1 hF.2.1 dX11_keep_43 rfl (lv_at hl 0 rfl) ?_
                refine k_get (C := RX11) (T := TX11) (N := 8) hF hK hG (fun _ h => List.mem_cons_of_mem _ (List.mem_append_left _ (List.mem_append_left _ (List.mem_append_left _ (List.mem_append_left _ (List.mem_append_left _ (List.mem_append_left _ (List.mem_append_left _ (List.mem_append_left _ (List.mem_append_right _ h)))))))))) 6 rfl rfl 4 (by decide) (List.mem_of_getElem? (i := 1) rfl) (fun _ h9 => h9) rfl dX11_keep_44 ?_
                refine lv_iload_n hF.1 hF.2.1 dX11_keep_47 rfl (lv_at hl 1 rfl) ?_
                refine lv_iload_n hF.1 hF.2.1 dX11_keep_48 rfl (lv_at hl 2 rfl) ?_
                refine lv_iconst (v := (nI 1)) hF.1 hF.2.1 dX11_keep_49 (by decide +kernel) ?_
                refine lv_icmp_ne (tgt := 62) hF.1 hF.2.1 dX11_keep_50 (by decide) (fun c_50 => ?_) (fun c_50 => ?_)
                · --
                  exact absurd c_20 c_50
                · --
                  refine lv_iload_n hF.1 hF.2.1 dX11_keep_53 rfl (lv_at hl 3 rfl) ?_
                  refine lv_iload hF.1 hF.2.1 dX11_keep_54 (lv_at hl 4 rfl) ?_
                  refine k_cq (r_S (As := [.int (nI a), .int (nI b)]) hF hK hA hG (c_X11_made ha) (cwS 2 hF.2.2.2.2 gX11_keep_X11_made rfl rfl rfl (by decide +kernel) ⟨Nat.le_of_ble_eq_true rfl, Nat.le_of_ble_eq_true rfl⟩) rfl hl.1 rfl (lv_room (Nat.le_of_ble_eq_true rfl)) dX11_keep_56 ⟨Nat.le_of_ble_eq_true rfl, Nat.le_of_ble_eq_true rfl⟩) hG (fun r_56 u_56 H locs hp_56 hG => ?_)
                  obtain rfl := hp_56
                  have hG : Gd D A (XW cA ob mb ss sh sp mt rc n o dr n1 o1 dr1 n2 o2 dr2 dk rk kt tk (pool ++ [(u_56, .inr (kcI a, [.int (nI b)]))])) s.heap H locs := hG
                  have hd : DR (pool ++ [(u_56, .inr (kcI a, [.int (nI b)]))]) u_56 a b := ⟨ha, hb, pool.length, at_last pool _⟩
                  obtain ⟨-, -, qk, hqk⟩ := (hd.c16 : DR (XW cA ob mb ss sh sp mt rc n o dr n1 o1 dr1 n2 o2 dr2 dk rk kt tk (pool ++ [(u_56, .inr (kcI a, [.int (nI b)]))])) u_56 a b)
                  show W p l e rmX11_keep s m args below meth c _ _ _ _ Q (F0 m 59 ls (.ref u_56 :: [.int (nI j), .ref (ob 13)]))
                  refine lv_goto (tgt := 63) hF.1 hF.2.1 dX11_keep_59 (by decide) ?_
                  refine k_astD hF hK hG 13 qk rfl ha hqk (j) rfl (by omega) (by omega) dX11_keep_63 (fun H locs hG => ?_)
                  have hG : Gd D A (XW cA ob mb ss sh sp mt rc n o dr n1 o1 dr1 n2 o2 dr2 (va_up dk j (some u_56)) rk kt tk (pool ++ [(u_56, .inr (kcI a, [.int (nI b)]))])) s.heap H locs := hG
                  refine lv_aload_n hF.1 hF.2.1 dX11_keep_64 rfl (lv_at hl 0 rfl) ?_
                  refine k_get (C := RX11) (T := TX11) (N := 8) hF hK hG (fun _ h => List.mem_cons_of_mem _ (List.mem_append_left _ (List.mem_append_left _ (List.mem_append_left _ (List.mem_append_left _ (List.mem_append_left _ (List.mem_append_left _ (List.mem_append_left _ (List.mem_append_left _ (List.mem_append_right _ h)))))))))) 6 rfl rfl 5 (by decide) (List.mem_of_getElem? (i := 2) rfl) (fun _ h9 => h9) rfl dX11_keep_65 ?_
                  refine lv_iload_n hF.1 hF.2.1 dX11_keep_68 rfl (lv_at hl 1 rfl) ?_
                  refine lv_null hF.1 hF.2.1 dX11_keep_69 ?_
                  refine k_astZ hF hK hG 14 3 rfl rfl (j) rfl (by omega) (by omega) dX11_keep_70 (fun H locs hG => ?_)
                  have hG : Gd D A (XW cA ob mb ss sh sp mt rc n o dr n1 o1 dr1 n2 o2 dr2 (va_up dk j (some u_56)) (va_up rk j none) kt tk (pool ++ [(u_56, .inr (kcI a, [.int (nI b)]))])) s.heap H locs := hG
                  refine lv_iconst (v := (nI 0)) hF.1 hF.2.1 dX11_keep_71 (by decide +kernel) ?_
                  exact hret _ (_, _, _, _, _, _, _, _, _, _, _, _, _, _, _, _, _, _, _, _) _ ls _ _ _ _ (by first | (rw [c_20, spKeep_1 hj ha hb]; exact ⟨rfl, ⟨⟨rfl, rfl⟩, ⟨rfl, rfl⟩, htk, hI.push, hJ.push, ⟨_, _, hM.push⟩, ⟨_, hX.setD hj ha hb⟩⟩⟩) | (rw [spKeep_0 hj hw2 c_20]; exact ⟨rfl, ⟨⟨rfl, rfl⟩, ⟨rfl, rfl⟩, htk, hI, hJ, ⟨_, _, hM⟩, ⟨_, hX.setN hj⟩⟩⟩)) (by first | rfl | exact nar_b2i _) hG (Nat.le_of_ble_eq_true rfl) (Nat.le_of_ble_eq_true rfl) dX11_keep_72
              · --
                have n_38 : (inB 10 f) = false := b2i_z.mp c_38
                refine lv_iconst (v := (-1)) hF.1 hF.2.1 dX11_keep_41 (by decide +kernel) ?_
                exact hret _ (_, _, _, _, _, _, _, _, _, _, _, _, _, _, _, _, _, _, _, _) _ ls _ _ _ _ (by first | (rw [spKeep_f (keepOk_3 c_20 (inB_l c_24))]; exact ⟨rfl, ⟨⟨rfl, rfl⟩, ⟨rfl, rfl⟩, htk, hI, hJ, ⟨_, _, hM⟩, ⟨_, hX⟩⟩⟩) | (rw [spKeep_f (keepOk_3 c_20 (inB_r c_30))]; exact ⟨rfl, ⟨⟨rfl, rfl⟩, ⟨rfl, rfl⟩, htk, hI, hJ, ⟨_, _, hM⟩, ⟨_, hX⟩⟩⟩) | (rw [spKeep_f (keepOk_4 c_20 n_38)]; exact ⟨rfl, ⟨⟨rfl, rfl⟩, ⟨rfl, rfl⟩, htk, hI, hJ, ⟨_, _, hM⟩, ⟨_, hX⟩⟩⟩)) (by first | rfl | exact nar_b2i _) hG (Nat.le_of_ble_eq_true rfl) (Nat.le_of_ble_eq_true rfl) dX11_keep_42
      · --
        refine lv_iconst (v := (-1)) hF.1 hF.2.1 dX11_keep_16 (by decide +kernel) ?_
        exact hret _ (_, _, _, _, _, _, _, _, _, _, _, _, _, _, _, _, _, _, _, _) _ ls _ _ _ _ (by first | (rw [spKeep_f (keepOk_1 n_4)]; exact ⟨rfl, ⟨⟨rfl, rfl⟩, ⟨rfl, rfl⟩, htk, hI, hJ, ⟨_, _, hM⟩, ⟨_, hX⟩⟩⟩) | (rw [spKeep_f (keepOk_2 (inB_l c_8))]; exact ⟨rfl, ⟨⟨rfl, rfl⟩, ⟨rfl, rfl⟩, htk, hI, hJ, ⟨_, _, hM⟩, ⟨_, hX⟩⟩⟩) | (rw [spKeep_f (keepOk_2 (in2_f c_13))]; exact ⟨rfl, ⟨⟨rfl, rfl⟩, ⟨rfl, rfl⟩, htk, hI, hJ, ⟨_, _, hM⟩, ⟨_, hX⟩⟩⟩)) (by first | rfl | exact nar_b2i _) hG (Nat.le_of_ble_eq_true rfl) (Nat.le_of_ble_eq_true rfl) dX11_keep_17

abbrev rmX11_row : Room := { frames := 2, cells := 2, slots := 103, locals := 46 }
set_option maxHeartbeats 4000000 in
set_option maxRecDepth 100000 in
theorem c_X11_row {l : Launch} {D : va_G} {cA : Nat → ClassId} {A : Nat → Prop}  {ob : Nat → Nat} {mb ss sh sp : Nat → Int32} {mt : Nat → Int64} {rc n o : Nat} {dr : Nat → Option Nat} {n1 o1 : Nat} {dr1 : Nat → Option Nat} {n2 o2 : Nat} {dr2 dk rk : Nat → Option Nat} {kt : Nat → Int32} {tk : Int32} {pool : va_W} {kd fg : Nat → Nat} (hI : WI pool n o dr kd fg) {kd1 fg1 : Nat → Nat} (hJ : WI pool n1 o1 dr1 kd1 fg1) {kd2 fg2 : Nat → Nat} (hM : WI pool n2 o2 dr2 kd2 fg2) {x : Nat → Sf} {P : Nat → Nat} (hX : SX cA pool dk rk x P) {tkb : Bool} (htk : tk = b2i tkb) {d so sz : Int32} : Met l yX11_row wsX11_row rmX11_row (va_Pc [.ref (ob 6), .int d, .int so, .int sz] (Pre D cA A (XW cA ob mb ss sh sp mt rc n o dr n1 o1 dr1 n2 o2 dr2 dk rk kt tk pool))) (va_Qi (fun r (u : XS) => (r = (spRow x d so sz).1) ∧ XI cA u (n, o, kd, fg) (n1, o1, kd1, fg1) tkb (spRow x d so sz).2) (fun u t => Wd D A ((fun (u : XS) => XV cA ob u) u) t) A) (2) (103) A := by
  refine k_ofi (S := XS) (F := fun (u : XS) => XV cA ob u) (cc := cX11_row) (maxL := 4) (by decide) rfl (Nat.le_of_ble_eq_true rfl) ?_
  intro p e s m args below meth c Q hF hini hK hA hG hret ls hl
  have hl : lv_has ls 4 [(0, .ref (ob 6)), (1, .int d), (2, .int so), (3, .int sz)] := hl
  have hn : n ≤ 6 := hI.1
  have ho : o < 64 := hI.o64
  have hp2 : 2 ^ n ≤ 64 := Nat.pow_le_pow_right (by decide) hn
  have hp1 : 1 ≤ 2 ^ n := Nat.one_le_two_pow
  refine lv_iload_n hF.1 hF.2.1 dX11_row_0 rfl (lv_at hl 1 rfl) ?_
  refine k_ci (r_S (As := [.int d]) hF hK hA hG (c_X11_isShelf) (cwS 1 hF.2.2.2.2 gX11_row_X11_isShelf rfl rfl rfl (by decide +kernel) ⟨Nat.le_of_ble_eq_true rfl, Nat.le_of_ble_eq_true rfl⟩) rfl hl.1 rfl (lv_room (Nat.le_of_ble_eq_true rfl)) dX11_row_1 ⟨Nat.le_of_ble_eq_true rfl, Nat.le_of_ble_eq_true rfl⟩) hG (fun r_1 u_1 H locs hp_1 hG => ?_)
  subst hp_1
  refine lv_if_eq (tgt := 22) hF.1 hF.2.1 dX11_row_4 (by decide) (fun c_4 => ?_) (fun c_4 => ?_)
  · --
    have n_4 : (inB 8 d) = false := b2i_z.mp c_4
    refine lv_iconst (v := (-1)) hF.1 hF.2.1 dX11_row_22 (by decide +kernel) ?_
    exact hret _ (_, _, _, _, _, _, _, _, _, _, _, _, _, _, _, _, _, _, _, _) _ ls _ _ _ _ (by first | (rw [spRow_f (rowOk_1 n_4)]; exact ⟨rfl, ⟨⟨rfl, rfl⟩, ⟨rfl, rfl⟩, htk, hI, hJ, ⟨_, _, hM⟩, ⟨_, hX⟩⟩⟩) | (rw [spRow_f (rowOk_2 (inB_l c_8))]; exact ⟨rfl, ⟨⟨rfl, rfl⟩, ⟨rfl, rfl⟩, htk, hI, hJ, ⟨_, _, hM⟩, ⟨_, hX⟩⟩⟩) | (rw [spRow_f (rowOk_2 (inB_r c_13))]; exact ⟨rfl, ⟨⟨rfl, rfl⟩, ⟨rfl, rfl⟩, htk, hI, hJ, ⟨_, _, hM⟩, ⟨_, hX⟩⟩⟩) | (rw [spRow_f (rowOk_3 c_19)]; exact ⟨rfl, ⟨⟨rfl, rfl⟩, ⟨rfl, rfl⟩, htk, hI, hJ, ⟨_, _, hM⟩, ⟨_, hX⟩⟩⟩)) (by first | rfl | exact nar_b2i _) hG (Nat.le_of_ble_eq_true rfl) (Nat.le_of_ble_eq_true rfl) dX11_row_23
  · --
    have n_4 : (inB 8 d) = true := b2i_nz.mp c_4
    refine lv_iload_n hF.1 hF.2.1 dX11_row_7 rfl (lv_at hl 2 rfl) ?_
    refine lv_if_lt (tgt := 22) hF.1 hF.2.1 dX11_row_8 (by decide) (fun c_8 => ?_) (fun c_8 => ?_)
    · --
      refine lv_iconst (v := (-1)) hF.1 hF.2.1 dX11_row_22 (by decide +kernel) ?_
      exact hret _ (_, _, _, _, _, _, _, _, _, _, _, _, _, _, _, _, _, _, _, _) _ ls _ _ _ _ (by first | (rw [spRow_f (rowOk_1 n_4)]; exact ⟨rfl, ⟨⟨rfl, rfl⟩, ⟨rfl, rfl⟩, htk, hI, hJ, ⟨_, _, hM⟩, ⟨_, hX⟩⟩⟩) | (rw [spRow_f (rowOk_2 (inB_l c_8))]; exact ⟨rfl, ⟨⟨rfl, rfl⟩, ⟨rfl, rfl⟩, htk, hI, hJ, ⟨_, _, hM⟩, ⟨_, hX⟩⟩⟩) | (rw [spRow_f (rowOk_2 (inB_r c_13))]; exact ⟨rfl, ⟨⟨rfl, rfl⟩, ⟨rfl, rfl⟩, htk, hI, hJ, ⟨_, _, hM⟩, ⟨_, hX⟩⟩⟩) | (rw [spRow_f (rowOk_3 c_19)]; exact ⟨rfl, ⟨⟨rfl, rfl⟩, ⟨rfl, rfl⟩, htk, hI, hJ, ⟨_, _, hM⟩, ⟨_, hX⟩⟩⟩)) (by first | rfl | exact nar_b2i _) hG (Nat.le_of_ble_eq_true rfl) (Nat.le_of_ble_eq_true rfl) dX11_row_23
    · --
      refine lv_iload_n hF.1 hF.2.1 dX11_row_11 rfl (lv_at hl 2 rfl) ?_
      refine lv_iconst (v := (nI 3)) hF.1 hF.2.1 dX11_row_12 (by decide +kernel) ?_
      refine lv_icmp_ge (tgt := 22) hF.1 hF.2.1 dX11_row_13 (by decide) (fun c_13 => ?_) (fun c_13 => ?_)
      · --
        refine lv_iconst (v := (-1)) hF.1 hF.2.1 dX11_row_22 (by decide +kernel) ?_
        exact hret _ (_, _, _, _, _, _, _, _, _, _, _, _, _, _, _, _, _, _, _, _) _ ls _ _ _ _ (by first | (rw [spRow_f (rowOk_1 n_4)]; exact ⟨rfl, ⟨⟨rfl, rfl⟩, ⟨rfl, rfl⟩, htk, hI, hJ, ⟨_, _, hM⟩, ⟨_, hX⟩⟩⟩) | (rw [spRow_f (rowOk_2 (inB_l c_8))]; exact ⟨rfl, ⟨⟨rfl, rfl⟩, ⟨rfl, rfl⟩, htk, hI, hJ, ⟨_, _, hM⟩, ⟨_, hX⟩⟩⟩) | (rw [spRow_f (rowOk_2 (inB_r c_13))]; exact ⟨rfl, ⟨⟨rfl, rfl⟩, ⟨rfl, rfl⟩, htk, hI, hJ, ⟨_, _, hM⟩, ⟨_, hX⟩⟩⟩) | (rw [spRow_f (rowOk_3 c_19)]; exact ⟨rfl, ⟨⟨rfl, rfl⟩, ⟨rfl, rfl⟩, htk, hI, hJ, ⟨_, _, hM⟩, ⟨_, hX⟩⟩⟩)) (by first | rfl | exact nar_b2i _) hG (Nat.le_of_ble_eq_true rfl) (Nat.le_of_ble_eq_true rfl) dX11_row_23
      · --
        have ha3 := inB_t c_8 c_13
        refine lv_iload_n hF.1 hF.2.1 dX11_row_16 rfl (lv_at hl 3 rfl) ?_
        refine lv_bipush (v := (nI 100)) hF.1 hF.2.1 dX11_row_17 (by decide +kernel) ?_
        refine lv_icmp_le (tgt := 24) hF.1 hF.2.1 dX11_row_19 (by decide) (fun c_19 => ?_) (fun c_19 => ?_)
        · --
          refine lv_iload_n hF.1 hF.2.1 dX11_row_24 rfl (lv_at hl 3 rfl) ?_
          refine lv_if_ge (tgt := 31) hF.1 hF.2.1 dX11_row_25 (by decide) (fun c_25 => ?_) (fun c_25 => ?_)
          · --
            obtain ⟨j, hj, rfl⟩ := inB_ex (by omega) n_4
            obtain ⟨a, ha, rfl⟩ := inB_ex (by omega) ha3
            obtain ⟨k, hk, rfl⟩ := nI_of2 (n := 100) (M := nI 100) (by decide +kernel) (Int32.not_lt.mpr c_25) c_19
            refine lv_aload_n hF.1 hF.2.1 dX11_row_31 rfl (lv_at hl 0 rfl) ?_
            refine k_get (C := RX11) (T := TX11) (N := 8) hF hK hG (fun _ h => List.mem_cons_of_mem _ (List.mem_append_left _ (List.mem_append_right _ h))) 6 rfl rfl 5 (by decide) (List.mem_of_getElem? (i := 1) rfl) (fun _ h9 => h9) rfl dX11_row_32 ?_
            refine lv_iload_n hF.1 hF.2.1 dX11_row_35 rfl (lv_at hl 1 rfl) ?_
            refine k_new (C := RX6) (T := TX6) (N := 3) (ci := 6) (fs := [.int 0, .int 0, .null]) hF hK hA hG (fun _ h => List.mem_cons_of_mem _ (List.mem_append_right _ h)) tyX6 tyX6_ok (List.mem_of_getElem? (i := 2) rfl) (List.mem_of_getElem? (i := 3) rfl) (List.mem_of_getElem? (i := 4) rfl) rfl (by decide +kernel) (Nat.le_of_ble_eq_true rfl) (Nat.le_of_ble_eq_true rfl) dX11_row_36 (fun r H hG => ?_)
            have hG : Gd D A (XW cA ob mb ss sh sp mt rc n o dr n1 o1 dr1 n2 o2 dr2 dk rk kt tk (pool ++ [(r, .inr (6, [.int 0, .int 0, .null]))])) s.heap H locs := hG
            have hr0 : (XW cA ob mb ss sh sp mt rc n o dr n1 o1 dr1 n2 o2 dr2 dk rk kt tk (pool ++ [(r, .inr (6, [.int 0, .int 0, .null]))]))[pool.length + 16]? = some (r, .inr (6, [.int 0, .int 0, .null])) := at_last pool _
            refine lv_dup hF.1 hF.2.1 dX11_row_39 rfl ?_
            refine lv_iload_n hF.1 hF.2.1 dX11_row_40 rfl (lv_at hl 2 rfl) ?_
            refine lv_iload_n hF.1 hF.2.1 dX11_row_41 rfl (lv_at hl 3 rfl) ?_
            refine k_cv (r_I (As := [.int (nI a), .int (nI k)]) hF hK hA hG (c_X6_init (qr := pool.length + 16) (show k < 101 by omega) hr0) (cwI 2 hF.2.2.2.2 gX11_row_X6_init rfl rfl rfl (hF.2.2.2.2 _ (List.mem_of_getElem? (i := 4) rfl)) (hF.2.2.2.2 _ (List.mem_of_getElem? (i := 10) rfl)) (hF.2.2.2.2 _ (List.mem_of_getElem? (i := 11) rfl)) rfl (by decide +kernel) ⟨Nat.le_of_ble_eq_true rfl, Nat.le_of_ble_eq_true rfl⟩) rfl hl.1 rfl (lv_room (Nat.le_of_ble_eq_true rfl)) dX11_row_42 ⟨Nat.le_of_ble_eq_true rfl, by show 0 + 3 + 100 ≤ 103; omega⟩) hG (fun arr H locs hp_42 hG => ?_)
            have hG : Gd D A (XW cA ob mb ss sh sp mt rc n o dr n1 o1 dr1 n2 o2 dr2 dk rk kt tk ((((pool ++ ([(r, .inr (6, [.int 0, .int 0, .null]))] : va_W)).set pool.length (r, .inr (6, [.int (nI a), .int (nI k), .null]))) ++ ([(arr, .inl (cA 0, k, .inl (fun _ => 0)))] : va_W)).set pool.length (r, .inr (6, [.int (nI a), .int (nI k), .ref arr])))) s.heap H locs := hG
            rw [xw_row] at hG
            have hRn : RW cA (pool ++ ([(r, .inr (6, [.int (nI a), .int (nI k), .ref arr])), (arr, .inl (cA 0, k, .inl (fun _ => 0)))] : va_W)) r arr pool.length (pool.length + 1) a k (fun _ => 0) := ⟨by simp, by simp, hk, ha⟩
            have hr1 : (XW cA ob mb ss sh sp mt rc n o dr n1 o1 dr1 n2 o2 dr2 dk rk kt tk (pool ++ ([(r, .inr (6, [.int (nI a), .int (nI k), .ref arr])), (arr, .inl (cA 0, k, .inl (fun _ => 0)))] : va_W)))[pool.length + 16]? = some (r, .inr (6, [.int (nI a), .int (nI k), .ref arr])) := hRn.c16.1
            refine k_astR hF hK hG 14 (pool.length + 16) rfl hr1 (j) rfl (by omega) (by omega) dX11_row_45 (fun H locs hG => ?_)
            have hG : Gd D A (XW cA ob mb ss sh sp mt rc n o dr n1 o1 dr1 n2 o2 dr2 dk (va_up rk j (some r)) kt tk (pool ++ ([(r, .inr (6, [.int (nI a), .int (nI k), .ref arr])), (arr, .inl (cA 0, k, .inl (fun _ => 0)))] : va_W))) s.heap H locs := hG
            refine lv_aload_n hF.1 hF.2.1 dX11_row_46 rfl (lv_at hl 0 rfl) ?_
            refine k_get (C := RX11) (T := TX11) (N := 8) hF hK hG (fun _ h => List.mem_cons_of_mem _ (List.mem_append_left _ (List.mem_append_right _ h))) 6 rfl rfl 4 (by decide) (List.mem_of_getElem? (i := 5) rfl) (fun _ h9 => h9) rfl dX11_row_47 ?_
            refine lv_iload_n hF.1 hF.2.1 dX11_row_50 rfl (lv_at hl 1 rfl) ?_
            refine lv_null hF.1 hF.2.1 dX11_row_51 ?_
            refine k_astZ hF hK hG 13 2 rfl rfl (j) rfl (by omega) (by omega) dX11_row_52 (fun H locs hG => ?_)
            have hG : Gd D A (XW cA ob mb ss sh sp mt rc n o dr n1 o1 dr1 n2 o2 dr2 (va_up dk j none) (va_up rk j (some r)) kt tk (pool ++ ([(r, .inr (6, [.int (nI a), .int (nI k), .ref arr])), (arr, .inl (cA 0, k, .inl (fun _ => 0)))] : va_W))) s.heap H locs := hG
            refine lv_iconst (v := (nI 0)) hF.1 hF.2.1 dX11_row_53 (by decide +kernel) ?_
            exact hret _ (_, _, _, _, _, _, _, _, _, _, _, _, _, _, _, _, _, _, _, _) _ ls _ _ _ _ (by rw [spRow_t hj ha hk]; exact ⟨rfl, ⟨⟨rfl, rfl⟩, ⟨rfl, rfl⟩, htk, hI.push, hJ.push, ⟨_, _, hM.push⟩, ⟨_, hX.setR hj ha hk⟩⟩⟩) (by first | rfl | exact nar_b2i _) hG (Nat.le_of_ble_eq_true rfl) (Nat.le_of_ble_eq_true rfl) dX11_row_54
          · --
            obtain ⟨j, hj, rfl⟩ := inB_ex (by omega) n_4
            obtain ⟨a, ha, rfl⟩ := inB_ex (by omega) ha3
            refine lv_bipush (v := (-14)) hF.1 hF.2.1 dX11_row_28 (by decide +kernel) ?_
            exact hret _ (_, _, _, _, _, _, _, _, _, _, _, _, _, _, _, _, _, _, _, _) _ ls _ _ _ _ (by rw [spRow_n hj ha c_19 (Int32.not_le.mp c_25)]; exact ⟨rfl, ⟨⟨rfl, rfl⟩, ⟨rfl, rfl⟩, htk, hI, hJ, ⟨_, _, hM⟩, ⟨_, hX⟩⟩⟩) (by first | rfl | exact nar_b2i _) hG (Nat.le_of_ble_eq_true rfl) (Nat.le_of_ble_eq_true rfl) dX11_row_30
        · --
          refine lv_iconst (v := (-1)) hF.1 hF.2.1 dX11_row_22 (by decide +kernel) ?_
          exact hret _ (_, _, _, _, _, _, _, _, _, _, _, _, _, _, _, _, _, _, _, _) _ ls _ _ _ _ (by first | (rw [spRow_f (rowOk_1 n_4)]; exact ⟨rfl, ⟨⟨rfl, rfl⟩, ⟨rfl, rfl⟩, htk, hI, hJ, ⟨_, _, hM⟩, ⟨_, hX⟩⟩⟩) | (rw [spRow_f (rowOk_2 (inB_l c_8))]; exact ⟨rfl, ⟨⟨rfl, rfl⟩, ⟨rfl, rfl⟩, htk, hI, hJ, ⟨_, _, hM⟩, ⟨_, hX⟩⟩⟩) | (rw [spRow_f (rowOk_2 (inB_r c_13))]; exact ⟨rfl, ⟨⟨rfl, rfl⟩, ⟨rfl, rfl⟩, htk, hI, hJ, ⟨_, _, hM⟩, ⟨_, hX⟩⟩⟩) | (rw [spRow_f (rowOk_3 c_19)]; exact ⟨rfl, ⟨⟨rfl, rfl⟩, ⟨rfl, rfl⟩, htk, hI, hJ, ⟨_, _, hM⟩, ⟨_, hX⟩⟩⟩)) (by first | rfl | exact nar_b2i _) hG (Nat.le_of_ble_eq_true rfl) (Nat.le_of_ble_eq_true rfl) dX11_row_23

abbrev rmX11_put : Room := { frames := 4, cells := 0, slots := 0, locals := 83 }
set_option maxHeartbeats 4000000 in
set_option maxRecDepth 100000 in
theorem c_X11_put {l : Launch} {D : va_G} {cA : Nat → ClassId} {A : Nat → Prop}  {ob : Nat → Nat} {mb ss sh sp : Nat → Int32} {mt : Nat → Int64} {rc n o : Nat} {dr : Nat → Option Nat} {n1 o1 : Nat} {dr1 : Nat → Option Nat} {n2 o2 : Nat} {dr2 dk rk : Nat → Option Nat} {kt : Nat → Int32} {tk : Int32} {pool : va_W} {kd fg : Nat → Nat} (hI : WI pool n o dr kd fg) {kd1 fg1 : Nat → Nat} (hJ : WI pool n1 o1 dr1 kd1 fg1) {kd2 fg2 : Nat → Nat} (hM : WI pool n2 o2 dr2 kd2 fg2) {x : Nat → Sf} {P : Nat → Nat} (hX : SX cA pool dk rk x P) {tkb : Bool} (htk : tk = b2i tkb) {d i v : Int32} : Met l yX11_put wsX11_put rmX11_put (va_Pc [.ref (ob 6), .int d, .int i, .int v] (Pre D cA A (XW cA ob mb ss sh sp mt rc n o dr n1 o1 dr1 n2 o2 dr2 dk rk kt tk pool))) (va_Qi (fun r (u : XS) => (r = (spPut x d i v).1) ∧ XI cA u (n, o, kd, fg) (n1, o1, kd1, fg1) tkb (spPut x d i v).2) (fun u t => Wd D A ((fun (u : XS) => XV cA ob u) u) t) A) (0) (0) A := by
  refine k_ofi (S := XS) (F := fun (u : XS) => XV cA ob u) (cc := cX11_put) (maxL := 5) (by decide) rfl (Nat.le_of_ble_eq_true rfl) ?_
  intro p e s m args below meth c Q hF hini hK hA hG hret ls hl
  have hl : lv_has ls 5 [(0, .ref (ob 6)), (1, .int d), (2, .int i), (3, .int v)] := hl
  have hn : n ≤ 6 := hI.1
  have ho : o < 64 := hI.o64
  have hp2 : 2 ^ n ≤ 64 := Nat.pow_le_pow_right (by decide) hn
  have hp1 : 1 ≤ 2 ^ n := Nat.one_le_two_pow
  refine lv_aload_n hF.1 hF.2.1 dX11_put_0 rfl (lv_at hl 0 rfl) ?_
  refine lv_iload_n hF.1 hF.2.1 dX11_put_1 rfl (lv_at hl 1 rfl) ?_
  refine k_cq (r_V (As := [.int d]) hF hK hA hG (c_X11_rowOn) (cwV 1 hF.2.2.2.2 gX11_put_X11_rowOn rfl rfl rfl (by decide +kernel) ⟨Nat.le_of_ble_eq_true rfl, Nat.le_of_ble_eq_true rfl⟩) 6 rfl rfl rfl rfl hl.1 rfl (lv_room (Nat.le_of_ble_eq_true rfl)) dX11_put_2 ⟨Nat.le_of_ble_eq_true rfl, Nat.le_of_ble_eq_true rfl⟩) hG (fun r_2 u_2 H locs hp_2 hG => ?_)
  cases r_2 with
  | none =>
    show W p l e rmX11_put s m args below meth c _ _ _ _ Q (F0 m 5 ls (.null :: []))
    refine lv_astoreN (lv' := [(4, .null), (0, .ref (ob 6)), (1, .int d), (2, .int i), (3, .int v)]) hF.1 hF.2.1 dX11_put_5 hl (by decide) rfl (fun ls hl => ?_)
    refine lv_aloadN hF.1 hF.2.1 dX11_put_7 (lv_at hl 0 rfl) ?_
    refine lv_ifnonnullN hF.1 hF.2.1 dX11_put_9 ?_
    refine lv_aload_n hF.1 hF.2.1 dX11_put_12 rfl (lv_at hl 1 rfl) ?_
    refine lv_iload_n hF.1 hF.2.1 dX11_put_13 rfl (lv_at hl 2 rfl) ?_
    refine k_ci (r_V (As := [.int d]) hF hK hA hG (c_X11_lacking hX) (cwV 1 hF.2.2.2.2 gX11_put_X11_lacking rfl rfl rfl (by decide +kernel) ⟨Nat.le_of_ble_eq_true rfl, Nat.le_of_ble_eq_true rfl⟩) 6 rfl rfl rfl rfl hl.1 rfl (lv_room (Nat.le_of_ble_eq_true rfl)) dX11_put_14 ⟨Nat.le_of_ble_eq_true rfl, Nat.le_of_ble_eq_true rfl⟩) hG (fun r_14 u_14 H locs hp_14 hG => ?_)
    subst hp_14
    exact hret _ (_, _, _, _, _, _, _, _, _, _, _, _, _, _, _, _, _, _, _, _) _ ls _ _ _ _ (by rw [spPut_n (shR_n hX hp_2).2]; exact ⟨(shR_n hX hp_2).1, ⟨⟨rfl, rfl⟩, ⟨rfl, rfl⟩, htk, hI, hJ, ⟨_, _, hM⟩, ⟨_, hX⟩⟩⟩) (by first | rfl | exact nar_b2i _) hG (Nat.le_of_ble_eq_true rfl) (Nat.le_of_ble_eq_true rfl) dX11_put_17
  | some b =>
    obtain ⟨j, z, arr, qr, hj, rfl, hx, hR⟩ := shR_s hX hp_2
    have hbk := hp_2.trans (shA_j rk hj)
    show W p l e rmX11_put s m args below meth c _ _ _ _ Q (F0 m 5 ls (.ref b :: []))
    refine lv_astore (lv' := [(4, .ref b), (0, .ref (ob 6)), (1, .int (nI j)), (2, .int i), (3, .int v)]) hF.1 hF.2.1 dX11_put_5 hl (by decide) rfl (fun ls hl => ?_)
    refine lv_aload hF.1 hF.2.1 dX11_put_7 (lv_at hl 0 rfl) ?_
    refine lv_ifnonnull (tgt := 18) hF.1 hF.2.1 dX11_put_9 (by decide) ?_
    refine lv_aload hF.1 hF.2.1 dX11_put_18 (lv_at hl 0 rfl) ?_
    refine lv_iload_n hF.1 hF.2.1 dX11_put_20 rfl (lv_at hl 3 rfl) ?_
    refine k_ci (r_V (As := [.int i]) hF hK hA hG (c_X6_hasPlace hR.c16) (cwV 1 hF.2.2.2.2 gX11_put_X6_hasPlace rfl rfl rfl (by decide +kernel) ⟨Nat.le_of_ble_eq_true rfl, Nat.le_of_ble_eq_true rfl⟩) (qr + 16) hR.c16.1 rfl rfl rfl hl.1 rfl (lv_room (Nat.le_of_ble_eq_true rfl)) dX11_put_21 ⟨Nat.le_of_ble_eq_true rfl, Nat.le_of_ble_eq_true rfl⟩) hG (fun r_21 u_21 H locs hp_21 hG => ?_)
    subst hp_21
    refine lv_if_ne (tgt := 30) hF.1 hF.2.1 dX11_put_24 (by decide) (fun c_24 => ?_) (fun c_24 => ?_)
    · --
      have n_24 : (inB z.2.1 i) = true := b2i_nz.mp c_24
      refine lv_aload hF.1 hF.2.1 dX11_put_30 (lv_at hl 0 rfl) ?_
      refine lv_iload_n hF.1 hF.2.1 dX11_put_32 rfl (lv_at hl 3 rfl) ?_
      refine lv_iload_n hF.1 hF.2.1 dX11_put_33 rfl (lv_at hl 4 rfl) ?_
      refine k_cv (r_V (As := [.int i, .int v]) hF hK hA hG (c_X6_become hR.c16) (cwV 2 hF.2.2.2.2 gX11_put_X6_become rfl rfl rfl (by decide +kernel) ⟨Nat.le_of_ble_eq_true rfl, Nat.le_of_ble_eq_true rfl⟩) (qr + 16) hR.c16.1 rfl rfl rfl hl.1 rfl (lv_room (Nat.le_of_ble_eq_true rfl)) dX11_put_34 ⟨Nat.le_of_ble_eq_true rfl, Nat.le_of_ble_eq_true rfl⟩) hG (fun u_34 H locs hp_34 hG => ?_)
      have hG : Gd D A (XW cA ob mb ss sh sp mt rc n o dr n1 o1 dr1 n2 o2 dr2 dk rk kt tk (pool.set (P j) (arr, .inl (cA 0, z.2.1, .inl (putR z.1 z.2.1 z.2.2 i v))))) s.heap H locs := hG
      refine lv_iconst (v := (nI 0)) hF.1 hF.2.1 dX11_put_37 (by decide +kernel) ?_
      exact hret _ (_, _, _, _, _, _, _, _, _, _, _, _, _, _, _, _, _, _, _, _) _ ls _ _ _ _ (by rw [spPut_g hj hx n_24]; exact ⟨rfl, ⟨⟨rfl, rfl⟩, ⟨rfl, rfl⟩, htk, hI.keepA hR.2.1, hJ.keepA hR.2.1, ⟨_, _, hM.keepA hR.2.1⟩, ⟨_, hX.put hj hx hR hbk⟩⟩⟩) (by first | rfl | exact nar_b2i _) hG (Nat.le_of_ble_eq_true rfl) (Nat.le_of_ble_eq_true rfl) dX11_put_38
    · --
      have n_24 : (inB z.2.1 i) = false := b2i_z.mp c_24
      refine lv_bipush (v := (-13)) hF.1 hF.2.1 dX11_put_27 (by decide +kernel) ?_
      exact hret _ (_, _, _, _, _, _, _, _, _, _, _, _, _, _, _, _, _, _, _, _) _ ls _ _ _ _ (by rw [spPut_f hj hx n_24]; exact ⟨rfl, ⟨⟨rfl, rfl⟩, ⟨rfl, rfl⟩, htk, hI, hJ, ⟨_, _, hM⟩, ⟨_, hX⟩⟩⟩) (by first | rfl | exact nar_b2i _) hG (Nat.le_of_ble_eq_true rfl) (Nat.le_of_ble_eq_true rfl) dX11_put_29

abbrev rmX11_cost : Room := { frames := 4, cells := 0, slots := 0, locals := 83 }
set_option maxHeartbeats 4000000 in
set_option maxRecDepth 100000 in
theorem c_X11_cost {l : Launch} {D : va_G} {cA : Nat → ClassId} {A : Nat → Prop}  {ob : Nat → Nat} {mb ss sh sp : Nat → Int32} {mt : Nat → Int64} {rc n o : Nat} {dr : Nat → Option Nat} {n1 o1 : Nat} {dr1 : Nat → Option Nat} {n2 o2 : Nat} {dr2 dk rk : Nat → Option Nat} {kt : Nat → Int32} {tk : Int32} {pool : va_W} {kd fg : Nat → Nat} (hI : WI pool n o dr kd fg) {kd1 fg1 : Nat → Nat} (hJ : WI pool n1 o1 dr1 kd1 fg1) {kd2 fg2 : Nat → Nat} (hM : WI pool n2 o2 dr2 kd2 fg2) {x : Nat → Sf} {P : Nat → Nat} (hX : SX cA pool dk rk x P) {tkb : Bool} (htk : tk = b2i tkb) {d : Int32} : Met l yX11_cost wsX11_cost rmX11_cost (va_Pc [.ref (ob 6), .int d] (Pre D cA A (XW cA ob mb ss sh sp mt rc n o dr n1 o1 dr1 n2 o2 dr2 dk rk kt tk pool))) (va_Qi (fun r (u : XS) => (r = spCost (sfA x d)) ∧ XI cA u (n, o, kd, fg) (n1, o1, kd1, fg1) tkb x) (fun u t => Wd D A ((fun (u : XS) => XV cA ob u) u) t) A) (0) (0) A := by
  refine k_ofi (S := XS) (F := fun (u : XS) => XV cA ob u) (cc := cX11_cost) (maxL := 3) (by decide) rfl (Nat.le_of_ble_eq_true rfl) ?_
  intro p e s m args below meth c Q hF hini hK hA hG hret ls hl
  have hl : lv_has ls 3 [(0, .ref (ob 6)), (1, .int d)] := hl
  have hn : n ≤ 6 := hI.1
  have ho : o < 64 := hI.o64
  have hp2 : 2 ^ n ≤ 64 := Nat.pow_le_pow_right (by decide) hn
  have hp1 : 1 ≤ 2 ^ n := Nat.one_le_two_pow
  refine lv_aload_n hF.1 hF.2.1 dX11_cost_0 rfl (lv_at hl 0 rfl) ?_
  refine lv_iload_n hF.1 hF.2.1 dX11_cost_1 rfl (lv_at hl 1 rfl) ?_
  refine k_cq (r_V (As := [.int d]) hF hK hA hG (c_X11_drawerOn) (cwV 1 hF.2.2.2.2 gX11_cost_X11_drawerOn rfl rfl rfl (by decide +kernel) ⟨Nat.le_of_ble_eq_true rfl, Nat.le_of_ble_eq_true rfl⟩) 6 rfl rfl rfl rfl hl.1 rfl (lv_room (Nat.le_of_ble_eq_true rfl)) dX11_cost_2 ⟨Nat.le_of_ble_eq_true rfl, Nat.le_of_ble_eq_true rfl⟩) hG (fun r_2 u_2 H locs hp_2 hG => ?_)
  cases r_2 with
  | none =>
    show W p l e rmX11_cost s m args below meth c _ _ _ _ Q (F0 m 5 ls (.null :: []))
    refine lv_astore_nN (lv' := [(2, .null), (0, .ref (ob 6)), (1, .int d)]) hF.1 hF.2.1 dX11_cost_5 rfl hl (by decide) rfl (fun ls hl => ?_)
    refine lv_aload_nN hF.1 hF.2.1 dX11_cost_6 rfl (lv_at hl 0 rfl) ?_
    refine lv_ifnonnullN hF.1 hF.2.1 dX11_cost_7 ?_
    refine lv_aload_n hF.1 hF.2.1 dX11_cost_10 rfl (lv_at hl 1 rfl) ?_
    refine lv_iload_n hF.1 hF.2.1 dX11_cost_11 rfl (lv_at hl 2 rfl) ?_
    refine k_ci (r_V (As := [.int d]) hF hK hA hG (c_X11_lacking hX) (cwV 1 hF.2.2.2.2 gX11_cost_X11_lacking rfl rfl rfl (by decide +kernel) ⟨Nat.le_of_ble_eq_true rfl, Nat.le_of_ble_eq_true rfl⟩) 6 rfl rfl rfl rfl hl.1 rfl (lv_room (Nat.le_of_ble_eq_true rfl)) dX11_cost_12 ⟨Nat.le_of_ble_eq_true rfl, Nat.le_of_ble_eq_true rfl⟩) hG (fun r_12 u_12 H locs hp_12 hG => ?_)
    subst hp_12
    refine lv_goto (tgt := 22) hF.1 hF.2.1 dX11_cost_15 (by decide) ?_
    exact hret _ (_, _, _, _, _, _, _, _, _, _, _, _, _, _, _, _, _, _, _, _) _ ls _ _ _ _ (by first | (rw [spCost_n (shA_n hX hp_2).2]; exact ⟨(shA_n hX hp_2).1, ⟨⟨rfl, rfl⟩, ⟨rfl, rfl⟩, htk, hI, hJ, ⟨_, _, hM⟩, ⟨_, hX⟩⟩⟩) | (rw [sfA_j x hjd, hx]; exact ⟨rfl, ⟨⟨rfl, rfl⟩, ⟨rfl, rfl⟩, htk, hI, hJ, ⟨_, _, hM⟩, ⟨_, hX⟩⟩⟩)) (by first | rfl | exact nar_b2i _) hG (Nat.le_of_ble_eq_true rfl) (Nat.le_of_ble_eq_true rfl) dX11_cost_22
  | some b =>
    obtain ⟨jd, z, hjd, rfl, hx, hds⟩ := shA_s hX hp_2
    show W p l e rmX11_cost s m args below meth c _ _ _ _ Q (F0 m 5 ls (.ref b :: []))
    refine lv_astore_n (lv' := [(2, .ref b), (0, .ref (ob 6)), (1, .int (nI jd))]) hF.1 hF.2.1 dX11_cost_5 rfl hl (by decide) rfl (fun ls hl => ?_)
    refine lv_aload_n hF.1 hF.2.1 dX11_cost_6 rfl (lv_at hl 0 rfl) ?_
    refine lv_ifnonnull (tgt := 18) hF.1 hF.2.1 dX11_cost_7 (by decide) ?_
    have hz8 := hds.1
    refine lv_aload_n hF.1 hF.2.1 dX11_cost_18 rfl (lv_at hl 0 rfl) ?_
    have k19 : ∀ (H : Heap) (locs : List Loc), Gd D A (XW cA ob mb ss sh sp mt rc n o dr n1 o1 dr1 n2 o2 dr2 dk rk kt tk pool) s.heap H locs → W p l e rmX11_cost s m args below meth c H locs 0 0 Q (F0 m 22 ls (.int (pr z.1 z.2) :: [])) := by
      intro H locs hG
      exact hret _ (_, _, _, _, _, _, _, _, _, _, _, _, _, _, _, _, _, _, _, _) _ ls _ _ _ _ (by first | (rw [spCost_n (shA_n hX hp_2).2]; exact ⟨(shA_n hX hp_2).1, ⟨⟨rfl, rfl⟩, ⟨rfl, rfl⟩, htk, hI, hJ, ⟨_, _, hM⟩, ⟨_, hX⟩⟩⟩) | (rw [sfA_j x hjd, hx]; exact ⟨rfl, ⟨⟨rfl, rfl⟩, ⟨rfl, rfl⟩, htk, hI, hJ, ⟨_, _, hM⟩, ⟨_, hX⟩⟩⟩)) (by first | rfl | exact nar_b2i _) hG (Nat.le_of_ble_eq_true rfl) (Nat.le_of_ble_eq_true rfl) dX11_cost_22
    rcases (show z.1 = 0 ∨ z.1 = 1 ∨ z.1 = 2 ∨ z.1 = 3 ∨ z.1 = 4 ∨ z.1 = 5 ∨ z.1 = 6 ∨ z.1 = 7 by omega) with ek | ek | ek | ek | ek | ek | ek | ek
    · --
      obtain ⟨-, -, q, hb⟩ := (hds.c16 : DR (XW cA ob mb ss sh sp mt rc n o dr n1 o1 dr1 n2 o2 dr2 dk rk kt tk pool) b (z.1) (z.2))
      rw [ek] at hb
      have hb : (XW cA ob mb ss sh sp mt rc n o dr n1 o1 dr1 n2 o2 dr2 dk rk kt tk pool)[q]? = some (b, .inr (0, [.int (nI (z.2))])) := hb
      refine k_ci (r_V (As := []) hF hK hA hG (c_X0_price) (cwV 0 hF.2.2.2.2 gX11_cost_X0_price rfl rfl rfl (by decide +kernel) ⟨Nat.le_of_ble_eq_true rfl, Nat.le_of_ble_eq_true rfl⟩) q hb rfl rfl rfl hl.1 rfl (lv_room (Nat.le_of_ble_eq_true rfl)) dX11_cost_19 ⟨Nat.le_of_ble_eq_true rfl, Nat.le_of_ble_eq_true rfl⟩) hG (fun r_19 u_19 H locs hp_19 hG => ?_)
      subst hp_19
      have k := k19 _ _ hG
      rw [ek] at k
      exact k
    · --
      obtain ⟨-, -, q, hb⟩ := (hds.c16 : DR (XW cA ob mb ss sh sp mt rc n o dr n1 o1 dr1 n2 o2 dr2 dk rk kt tk pool) b (z.1) (z.2))
      rw [ek] at hb
      have hb : (XW cA ob mb ss sh sp mt rc n o dr n1 o1 dr1 n2 o2 dr2 dk rk kt tk pool)[q]? = some (b, .inr (1, [.int (nI (z.2))])) := hb
      refine k_ci (r_U (As := []) hF hK hA hG (c_X1_price_X1 hds.2.1 hb) (va_cwO 0 hF.2.2.2.2 gX11_cost_X1_price_u256X1 rfl rfl rfl (List.mem_of_getElem? (i := 27) rfl) (by decide +kernel) ⟨Nat.le_of_ble_eq_true rfl, Nat.le_of_ble_eq_true rfl⟩) q hb rfl rfl rfl hl.1 rfl (lv_room (Nat.le_of_ble_eq_true rfl)) dX11_cost_19 ⟨Nat.le_of_ble_eq_true rfl, Nat.le_of_ble_eq_true rfl⟩) hG (fun r_19 u_19 H locs hp_19 hG => ?_)
      subst hp_19
      have k := k19 _ _ hG
      rw [ek] at k
      exact k
    · --
      obtain ⟨-, -, q, hb⟩ := (hds.c16 : DR (XW cA ob mb ss sh sp mt rc n o dr n1 o1 dr1 n2 o2 dr2 dk rk kt tk pool) b (z.1) (z.2))
      rw [ek] at hb
      have hb : (XW cA ob mb ss sh sp mt rc n o dr n1 o1 dr1 n2 o2 dr2 dk rk kt tk pool)[q]? = some (b, .inr (7, [.int (nI (z.2))])) := hb
      refine k_ci (r_U (As := []) hF hK hA hG (c_X7_price hds.2.1 hb) (va_cwO 0 hF.2.2.2.2 gX11_cost_X7_price_u256X7 rfl rfl rfl (List.mem_of_getElem? (i := 27) rfl) (by decide +kernel) ⟨Nat.le_of_ble_eq_true rfl, Nat.le_of_ble_eq_true rfl⟩) q hb rfl rfl rfl hl.1 rfl (lv_room (Nat.le_of_ble_eq_true rfl)) dX11_cost_19 ⟨Nat.le_of_ble_eq_true rfl, Nat.le_of_ble_eq_true rfl⟩) hG (fun r_19 u_19 H locs hp_19 hG => ?_)
      subst hp_19
      have k := k19 _ _ hG
      rw [ek] at k
      exact k
    · --
      obtain ⟨-, -, q, hb⟩ := (hds.c16 : DR (XW cA ob mb ss sh sp mt rc n o dr n1 o1 dr1 n2 o2 dr2 dk rk kt tk pool) b (z.1) (z.2))
      rw [ek] at hb
      have hb : (XW cA ob mb ss sh sp mt rc n o dr n1 o1 dr1 n2 o2 dr2 dk rk kt tk pool)[q]? = some (b, .inr (8, [.int (nI (z.2))])) := hb
      refine k_ci (r_U (As := []) hF hK hA hG (c_X8_price_X8 hds.2.1 hb) (va_cwO 0 hF.2.2.2.2 gX11_cost_X8_price_u256X8 rfl rfl rfl (List.mem_of_getElem? (i := 27) rfl) (by decide +kernel) ⟨Nat.le_of_ble_eq_true rfl, Nat.le_of_ble_eq_true rfl⟩) q hb rfl rfl rfl hl.1 rfl (lv_room (Nat.le_of_ble_eq_true rfl)) dX11_cost_19 ⟨Nat.le_of_ble_eq_true rfl, Nat.le_of_ble_eq_true rfl⟩) hG (fun r_19 u_19 H locs hp_19 hG => ?_)
      subst hp_19
      have k := k19 _ _ hG
      rw [ek] at k
      exact k
    · --
      obtain ⟨-, -, q, hb⟩ := (hds.c16 : DR (XW cA ob mb ss sh sp mt rc n o dr n1 o1 dr1 n2 o2 dr2 dk rk kt tk pool) b (z.1) (z.2))
      rw [ek] at hb
      have hb : (XW cA ob mb ss sh sp mt rc n o dr n1 o1 dr1 n2 o2 dr2 dk rk kt tk pool)[q]? = some (b, .inr (5, [.int (nI (z.2))])) := hb
      refine k_ci (r_U (As := []) hF hK hA hG (c_X5_price hds.2.1 hb) (va_cwO 0 hF.2.2.2.2 gX11_cost_X5_price_u256X5 rfl rfl rfl (List.mem_of_getElem? (i := 27) rfl) (by decide +kernel) ⟨Nat.le_of_ble_eq_true rfl, Nat.le_of_ble_eq_true rfl⟩) q hb rfl rfl rfl hl.1 rfl (lv_room (Nat.le_of_ble_eq_true rfl)) dX11_cost_19 ⟨Nat.le_of_ble_eq_true rfl, Nat.le_of_ble_eq_true rfl⟩) hG (fun r_19 u_19 H locs hp_19 hG => ?_)
      subst hp_19
      have k := k19 _ _ hG
      rw [ek] at k
      exact k
    · --
      obtain ⟨-, -, q, hb⟩ := (hds.c16 : DR (XW cA ob mb ss sh sp mt rc n o dr n1 o1 dr1 n2 o2 dr2 dk rk kt tk pool) b (z.1) (z.2))
      rw [ek] at hb
      have hb : (XW cA ob mb ss sh sp mt rc n o dr n1 o1 dr1 n2 o2 dr2 dk rk kt tk pool)[q]? = some (b, .inr (3, [.int (nI (z.2))])) := hb
      refine k_ci (r_U (As := []) hF hK hA hG (c_X3_price hds.2.1 hb) (va_cwO 0 hF.2.2.2.2 gX11_cost_X3_price_u256X3 rfl rfl rfl (List.mem_of_getElem? (i := 27) rfl) (by decide +kernel) ⟨Nat.le_of_ble_eq_true rfl, Nat.le_of_ble_eq_true rfl⟩) q hb rfl rfl rfl hl.1 rfl (lv_room (Nat.le_of_ble_eq_true rfl)) dX11_cost_19 ⟨Nat.le_of_ble_eq_true rfl, Nat.le_of_ble_eq_true rfl⟩) hG (fun r_19 u_19 H locs hp_19 hG => ?_)
      subst hp_19
      have k := k19 _ _ hG
      rw [ek] at k
      exact k
    · --
      obtain ⟨-, -, q, hb⟩ := (hds.c16 : DR (XW cA ob mb ss sh sp mt rc n o dr n1 o1 dr1 n2 o2 dr2 dk rk kt tk pool) b (z.1) (z.2))
      rw [ek] at hb
      have hb : (XW cA ob mb ss sh sp mt rc n o dr n1 o1 dr1 n2 o2 dr2 dk rk kt tk pool)[q]? = some (b, .inr (4, [.int (nI (z.2))])) := hb
      refine k_ci (r_U (As := []) hF hK hA hG (c_X4_price hds.2.1 hb) (va_cwO 0 hF.2.2.2.2 gX11_cost_X4_price_u256X4 rfl rfl rfl (List.mem_of_getElem? (i := 27) rfl) (by decide +kernel) ⟨Nat.le_of_ble_eq_true rfl, Nat.le_of_ble_eq_true rfl⟩) q hb rfl rfl rfl hl.1 rfl (lv_room (Nat.le_of_ble_eq_true rfl)) dX11_cost_19 ⟨Nat.le_of_ble_eq_true rfl, Nat.le_of_ble_eq_true rfl⟩) hG (fun r_19 u_19 H locs hp_19 hG => ?_)
      subst hp_19
      have k := k19 _ _ hG
      rw [ek] at k
      exact k
    · --
      obtain ⟨-, -, q, hb⟩ := (hds.c16 : DR (XW cA ob mb ss sh sp mt rc n o dr n1 o1 dr1 n2 o2 dr2 dk rk kt tk pool) b (z.1) (z.2))
      rw [ek] at hb
      have hb : (XW cA ob mb ss sh sp mt rc n o dr n1 o1 dr1 n2 o2 dr2 dk rk kt tk pool)[q]? = some (b, .inr (2, [.int (nI (z.2))])) := hb
      refine k_ci (r_U (As := []) hF hK hA hG (c_X0_price) (va_cwU 0 hF.2.2.2.2 gX11_cost_X0_price_u256X2 rfl rfl rfl rfl (by decide +kernel) ⟨Nat.le_of_ble_eq_true rfl, Nat.le_of_ble_eq_true rfl⟩) q hb rfl rfl rfl hl.1 rfl (lv_room (Nat.le_of_ble_eq_true rfl)) dX11_cost_19 ⟨Nat.le_of_ble_eq_true rfl, Nat.le_of_ble_eq_true rfl⟩) hG (fun r_19 u_19 H locs hp_19 hG => ?_)
      subst hp_19
      have k := k19 _ _ hG
      rw [ek] at k
      exact k
