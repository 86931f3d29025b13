/-! ===== the class's ways: what is found is what the reference finds ===== -/
def lngI (V : Nat → Int32) (k : Nat) : Prop := ((lngU V k).1 = -4 ∧ (lngU V k).2 = -4) ∨ (¬ (lngU V k).1 < 0 ∧ ¬ (lngU V k).2 < 0)
theorem lng_m4 : (-4 : Int32) < 0 := by decide +kernel
theorem lng_lt {a b : Int32} (h : ¬ a < 0) (h2 : b < 0) : ¬ a ≤ b := by
  rw [Int32.lt_iff_toInt_lt] at h h2
  rw [Int32.le_iff_toInt_le]
  omega
theorem lng_lt2 {a b : Int32} (h : ¬ a < 0) (h2 : b < 0) : b ≤ a := by
  rw [Int32.lt_iff_toInt_lt] at h h2
  rw [Int32.le_iff_toInt_le]
  omega
theorem lngU_skip {V : Nat → Int32} {k : Nat} (hV : V k = -4 ∨ ¬ V k < 0) (hl : lngI V k) (h : V k ≤ (lngU V k).2) : lngU V (k + 1) = lngU V k := by
  rcases hV with hV | hV
  · exact lngU_a (by rw [hV]; exact lng_m4)
  · rcases hl with hl | hl
    · rw [hl.2] at h
      exact absurd h (lng_lt hV lng_m4)
    · exact lngU_d hV hl.1 (Int32.not_lt.mpr h)
theorem lngU_take {V : Nat → Int32} {k : Nat} (hV : V k = -4 ∨ ¬ V k < 0) (hl : lngI V k) (h : ¬ V k ≤ (lngU V k).2) : ¬ V k < 0 ∧ lngU V (k + 1) = (nI k, V k) := by
  have hV2 : ¬ V k < 0 := by
    rcases hV with hV | hV
    · rcases hl with hl | hl
      · rw [hV, hl.2] at h
        exact absurd (Int32.le_refl _) h
      · rw [hV] at h
        exact absurd (lng_lt2 hl.2 lng_m4) h
    · exact hV
  refine ⟨hV2, ?_⟩
  rcases hl with hl | hl
  · exact lngU_b hV2 (by rw [hl.1]; exact lng_m4)
  · exact lngU_c hV2 hl.1 (Int32.not_le.mp h)
theorem HAD_v {n o told : Nat} {kd fg : Nat → Nat} {r : Int32} (h : HAD n o kd fg told r) : r = -4 ∨ ¬ r < 0 := by
  rcases h with ⟨h, -⟩ | ⟨m, h0, h, -, -⟩
  · exact Or.inl h
  · rw [h]
    exact Or.inr (nI_pos (by omega))
theorem cnt_full {n : Nat} (hn : n < 7) : cnt (2 ^ n - 1) = n := by
  apply fin1 7 n hn
  decide +kernel
theorem FRD.found {n o told s : Nat} {kd fg : Nat → Nat} (hs : s < 2 ^ n) (hr : REA n o kd fg told s) (h1 : ∀ t, t < 2 ^ n → cnt t < cnt s → ¬ REA n o kd fg told t) (h2 : ∀ t, t < s → cnt t = cnt s → ¬ REA n o kd fg told t) : FRD n o kd fg told (2 ^ n) s := by
  refine ⟨hs, hr, fun t ht hrt => ?_⟩
  by_cases c : cnt t < cnt s
  · exact absurd hrt (h1 t ht c)
  · by_cases e : cnt t = cnt s
    · refine Or.inr ⟨e.symm, Nat.le_of_not_lt (fun q => h2 t q e hrt)⟩
    · exact Or.inl (by omega)
abbrev rmX11_fewest : Room := { frames := 6, cells := 0, slots := 0, locals := 134 }
set_option maxHeartbeats 4000000 in
set_option maxRecDepth 100000 in
theorem c_X11_fewest {l : Launch} {D : va_G} {cA : Nat → ClassId} {A : Nat → Prop}  {ob : Nat → Nat} {mb ss sh sp : Nat → Int32} {mt : Nat → Int64} {rc n o : Nat} {dr : Nat → Option Nat} {n1 o1 : Nat} {dr1 : Nat → Option Nat} {n2 o2 : Nat} {dr2 dk rk : Nat → Option Nat} {kt : Nat → Int32} {tk : Int32} {pool : va_W} {kd fg : Nat → Nat} (hI : WI pool n o dr kd fg) {kd1 fg1 : Nat → Nat} (hJ : WI pool n1 o1 dr1 kd1 fg1) {kd2 fg2 : Nat → Nat} (hM : WI pool n2 o2 dr2 kd2 fg2) {x : Nat → Sf} {P : Nat → Nat} (hX : SX cA pool dk rk x P) {tkb : Bool} (htk : tk = b2i tkb) {f t : Int32} : Met l yX11_fewest wsX11_fewest rmX11_fewest (va_Pc [.ref (ob 6), .int f, .int t] (Pre D cA A (XW cA ob mb ss sh sp mt rc n o dr n1 o1 dr1 n2 o2 dr2 dk rk kt tk pool))) (va_Qi (fun r (u : XS) => (spFewest n kd fg f t r) ∧ XI cA u (n, o, kd, fg) (n1, o1, kd1, fg1) tkb x) (fun u t => Wd D A ((fun (u : XS) => XV cA ob u) u) t) A) (0) (0) A := by
  refine k_ofi (S := XS) (F := fun (u : XS) => XV cA ob u) (cc := cX11_fewest) (maxL := 3) (by decide) rfl (Nat.le_of_ble_eq_true rfl) ?_
  intro p e s m args below meth c Q hF hini hK hA hG hret ls hl
  have hl : lv_has ls 3 [(0, .ref (ob 6)), (1, .int f), (2, .int t)] := hl
  have hn : n ≤ 6 := hI.1
  have ho : o < 64 := hI.o64
  have hp2 : 2 ^ n ≤ 64 := Nat.pow_le_pow_right (by decide) hn
  have hp1 : 1 ≤ 2 ^ n := Nat.one_le_two_pow
  refine lv_aload_n hF.1 hF.2.1 dX11_fewest_0 rfl (lv_at hl 0 rfl) ?_
  refine k_get (C := RX11) (T := TX11) (N := 8) hF hK hG (fun _ h => List.mem_cons_of_mem _ (List.mem_append_left _ (List.mem_append_left _ (List.mem_append_left _ (List.mem_append_left _ (List.mem_append_left _ (List.mem_append_left _ (List.mem_append_left _ (List.mem_append_left _ (List.mem_append_left _ (List.mem_append_left _ (List.mem_append_right _ h)))))))))))) 6 rfl rfl 0 (by decide) (List.mem_of_getElem? (i := 1) rfl) (fun _ h9 => h9) rfl dX11_fewest_1 ?_
  refine lv_iload_n hF.1 hF.2.1 dX11_fewest_4 rfl (lv_at hl 1 rfl) ?_
  refine k_ci (r_V (As := [.int f]) hF hK hA hG (c_X9_canStand hI.w0) (cwV 1 hF.2.2.2.2 gX11_fewest_X9_canStand rfl rfl rfl (by decide +kernel) ⟨Nat.le_of_ble_eq_true rfl, Nat.le_of_ble_eq_true rfl⟩) 7 rfl rfl rfl rfl hl.1 rfl (lv_room (Nat.le_of_ble_eq_true rfl)) dX11_fewest_5 ⟨Nat.le_of_ble_eq_true rfl, Nat.le_of_ble_eq_true rfl⟩) hG (fun r_5 u_5 H locs hp_5 hG => ?_)
  subst hp_5
  refine lv_if_eq (tgt := 22) hF.1 hF.2.1 dX11_fewest_8 (by decide) (fun c_8 => ?_) (fun c_8 => ?_)
  · --
    have n_8 : (inB (2 ^ n) f) = false := b2i_z.mp c_8
    refine lv_iconst (v := (-1)) hF.1 hF.2.1 dX11_fewest_22 (by decide +kernel) ?_
    exact hret _ (_, _, _, _, _, _, _, _, _, _, _, _, _, _, _, _, _, _, _, _) _ ls _ _ _ _ (by first | exact ⟨spFewest_f (Or.inl n_8), ⟨⟨rfl, rfl⟩, ⟨rfl, rfl⟩, htk, hI, hJ, ⟨_, _, hM⟩, ⟨_, hX⟩⟩⟩ | exact ⟨spFewest_f (Or.inr n_19), ⟨⟨rfl, rfl⟩, ⟨rfl, rfl⟩, htk, hI, hJ, ⟨_, _, hM⟩, ⟨_, hX⟩⟩⟩) (by first | rfl | exact nar_b2i _) hG (Nat.le_of_ble_eq_true rfl) (Nat.le_of_ble_eq_true rfl) dX11_fewest_23
  · --
    have n_8 : (inB (2 ^ n) f) = true := b2i_nz.mp c_8
    obtain ⟨i, hi, rfl⟩ := inB_ex (by omega) n_8
    refine lv_aload_n hF.1 hF.2.1 dX11_fewest_11 rfl (lv_at hl 0 rfl) ?_
    refine k_get (C := RX11) (T := TX11) (N := 8) hF hK hG (fun _ h => List.mem_cons_of_mem _ (List.mem_append_left _ (List.mem_append_left _ (List.mem_append_left _ (List.mem_append_left _ (List.mem_append_left _ (List.mem_append_left _ (List.mem_append_left _ (List.mem_append_left _ (List.mem_append_left _ (List.mem_append_left _ (List.mem_append_right _ h)))))))))))) 6 rfl rfl 0 (by decide) (List.mem_of_getElem? (i := 1) rfl) (fun _ h9 => h9) rfl dX11_fewest_12 ?_
    refine lv_iload_n hF.1 hF.2.1 dX11_fewest_15 rfl (lv_at hl 2 rfl) ?_
    refine k_ci (r_V (As := [.int t]) hF hK hA hG (c_X9_canStand hI.w0) (cwV 1 hF.2.2.2.2 gX11_fewest_X9_canStand rfl rfl rfl (by decide +kernel) ⟨Nat.le_of_ble_eq_true rfl, Nat.le_of_ble_eq_true rfl⟩) 7 rfl rfl rfl rfl hl.1 rfl (lv_room (Nat.le_of_ble_eq_true rfl)) dX11_fewest_16 ⟨Nat.le_of_ble_eq_true rfl, Nat.le_of_ble_eq_true rfl⟩) hG (fun r_16 u_16 H locs hp_16 hG => ?_)
    subst hp_16
    refine lv_if_ne (tgt := 24) hF.1 hF.2.1 dX11_fewest_19 (by decide) (fun c_19 => ?_) (fun c_19 => ?_)
    · --
      have n_19 : (inB (2 ^ n) t) = true := b2i_nz.mp c_19
      obtain ⟨j, hj, rfl⟩ := inB_ex (by omega) n_19
      refine lv_aload_n hF.1 hF.2.1 dX11_fewest_24 rfl (lv_at hl 0 rfl) ?_
      refine k_get (C := RX11) (T := TX11) (N := 8) hF hK hG (fun _ h => List.mem_cons_of_mem _ (List.mem_append_left _ (List.mem_append_left _ (List.mem_append_left _ (List.mem_append_left _ (List.mem_append_left _ (List.mem_append_left _ (List.mem_append_left _ (List.mem_append_left _ (List.mem_append_left _ (List.mem_append_left _ (List.mem_append_right _ h)))))))))))) 6 rfl rfl 3 (by decide) (List.mem_of_getElem? (i := 2) rfl) (fun _ h9 => h9) rfl dX11_fewest_25 ?_
      refine lv_aload_n hF.1 hF.2.1 dX11_fewest_28 rfl (lv_at hl 0 rfl) ?_
      refine k_get (C := RX11) (T := TX11) (N := 8) hF hK hG (fun _ h => List.mem_cons_of_mem _ (List.mem_append_left _ (List.mem_append_left _ (List.mem_append_left _ (List.mem_append_left _ (List.mem_append_left _ (List.mem_append_left _ (List.mem_append_left _ (List.mem_append_left _ (List.mem_append_left _ (List.mem_append_left _ (List.mem_append_right _ h)))))))))))) 6 rfl rfl 0 (by decide) (List.mem_of_getElem? (i := 1) rfl) (fun _ h9 => h9) rfl dX11_fewest_29 ?_
      refine k_cv (r_V (As := [.ref (ob 7)]) hF hK hA hG (c_X10_learn hI.w0) (cwV 1 hF.2.2.2.2 gX11_fewest_X10_learn rfl rfl rfl (by decide +kernel) ⟨Nat.le_of_ble_eq_true rfl, Nat.le_of_ble_eq_true rfl⟩) 0 rfl rfl rfl rfl hl.1 rfl (lv_room (Nat.le_of_ble_eq_true rfl)) dX11_fewest_32 ⟨Nat.le_of_ble_eq_true rfl, Nat.le_of_ble_eq_true rfl⟩) hG (fun u_32 H locs hp_32 hG => ?_)
      have hG : Gd D A (XW cA ob u_32 ss sh sp mt rc n o dr n1 o1 dr1 n2 o2 dr2 dk rk kt tk pool) s.heap H locs := hG
      have hma : ∀ z, z < 64 → u_32 z = nI (maW n kd fg z) ∧ maW n kd fg z < 64 := fun z hz => ⟨hp_32 z hz, maW_lt hn⟩
      refine lv_aload_n hF.1 hF.2.1 dX11_fewest_35 rfl (lv_at hl 0 rfl) ?_
      refine k_get (C := RX11) (T := TX11) (N := 8) hF hK hG (fun _ h => List.mem_cons_of_mem _ (List.mem_append_left _ (List.mem_append_left _ (List.mem_append_left _ (List.mem_append_left _ (List.mem_append_left _ (List.mem_append_left _ (List.mem_append_left _ (List.mem_append_left _ (List.mem_append_left _ (List.mem_append_left _ (List.mem_append_right _ h)))))))))))) 6 rfl rfl 3 (by decide) (List.mem_of_getElem? (i := 2) rfl) (fun _ h9 => h9) rfl dX11_fewest_36 ?_
      refine lv_iload_n hF.1 hF.2.1 dX11_fewest_39 rfl (lv_at hl 1 rfl) ?_
      refine lv_iload_n hF.1 hF.2.1 dX11_fewest_40 rfl (lv_at hl 2 rfl) ?_
      refine k_ci (r_V (As := [.int (nI i), .int (nI j)]) hF hK hA hG (c_X10_pullsTo hma (by omega) (by omega)) (cwV 2 hF.2.2.2.2 gX11_fewest_X10_pullsTo rfl rfl rfl (by decide +kernel) ⟨Nat.le_of_ble_eq_true rfl, Nat.le_of_ble_eq_true rfl⟩) 0 rfl rfl rfl rfl hl.1 rfl (lv_room (Nat.le_of_ble_eq_true rfl)) dX11_fewest_41 ⟨Nat.le_of_ble_eq_true rfl, Nat.le_of_ble_eq_true rfl⟩) hG (fun r_41 u_41 H locs hp_41 hG => ?_)
      have hG : Gd D A (XW cA ob u_32 u_41.1 u_41.2.1 u_41.2.2.1 u_41.2.2.2.1 u_41.2.2.2.2 n o dr n1 o1 dr1 n2 o2 dr2 dk rk kt tk pool) s.heap H locs := hG
      exact hret _ (_, _, _, _, _, _, _, _, _, _, _, _, _, _, _, _, _, _, _, _) _ ls _ _ _ _ (by exact ⟨spFewest_t hn hi hj (by rw [hp_41]; exact find_to hn hi), ⟨⟨rfl, rfl⟩, ⟨rfl, rfl⟩, htk, hI, hJ, ⟨_, _, hM⟩, ⟨_, hX⟩⟩⟩) (by first | rfl | exact nar_b2i _) hG (Nat.le_of_ble_eq_true rfl) (Nat.le_of_ble_eq_true rfl) dX11_fewest_44
    · --
      have n_19 : (inB (2 ^ n) t) = false := b2i_z.mp c_19
      refine lv_iconst (v := (-1)) hF.1 hF.2.1 dX11_fewest_22 (by decide +kernel) ?_
      exact hret _ (_, _, _, _, _, _, _, _, _, _, _, _, _, _, _, _, _, _, _, _) _ ls _ _ _ _ (by first | exact ⟨spFewest_f (Or.inl n_8), ⟨⟨rfl, rfl⟩, ⟨rfl, rfl⟩, htk, hI, hJ, ⟨_, _, hM⟩, ⟨_, hX⟩⟩⟩ | exact ⟨spFewest_f (Or.inr n_19), ⟨⟨rfl, rfl⟩, ⟨rfl, rfl⟩, htk, hI, hJ, ⟨_, _, hM⟩, ⟨_, hX⟩⟩⟩) (by first | rfl | exact nar_b2i _) hG (Nat.le_of_ble_eq_true rfl) (Nat.le_of_ble_eq_true rfl) dX11_fewest_23

abbrev rmX11_first : Room := { frames := 6, cells := 0, slots := 0, locals := 134 }
set_option maxHeartbeats 4000000 in
set_option maxRecDepth 100000 in
theorem c_X11_first {l : Launch} {D : va_G} {cA : Nat → ClassId} {A : Nat → Prop}  {ob : Nat → Nat} {mb ss sh sp : Nat → Int32} {mt : Nat → Int64} {rc n o : Nat} {dr : Nat → Option Nat} {n1 o1 : Nat} {dr1 : Nat → Option Nat} {n2 o2 : Nat} {dr2 dk rk : Nat → Option Nat} {kt : Nat → Int32} {tk : Int32} {pool : va_W} {kd fg : Nat → Nat} (hI : WI pool n o dr kd fg) {kd1 fg1 : Nat → Nat} (hJ : WI pool n1 o1 dr1 kd1 fg1) {kd2 fg2 : Nat → Nat} (hM : WI pool n2 o2 dr2 kd2 fg2) {x : Nat → Sf} {P : Nat → Nat} (hX : SX cA pool dk rk x P) {tkb : Bool} (htk : tk = b2i tkb) {f t : Int32} : Met l yX11_first wsX11_first rmX11_first (va_Pc [.ref (ob 6), .int f, .int t] (Pre D cA A (XW cA ob mb ss sh sp mt rc n o dr n1 o1 dr1 n2 o2 dr2 dk rk kt tk pool))) (va_Qi (fun r (u : XS) => (spFirst n kd fg f t r) ∧ XI cA u (n, o, kd, fg) (n1, o1, kd1, fg1) tkb x) (fun u t => Wd D A ((fun (u : XS) => XV cA ob u) u) t) A) (0) (0) A := by
  refine k_ofi (S := XS) (F := fun (u : XS) => XV cA ob u) (cc := cX11_first) (maxL := 5) (by decide) rfl (Nat.le_of_ble_eq_true rfl) ?_
  intro p e s m args below meth c Q hF hini hK hA hG hret ls hl
  have hl : lv_has ls 5 [(0, .ref (ob 6)), (1, .int f), (2, .int t)] := hl
  have hn : n ≤ 6 := hI.1
  have ho : o < 64 := hI.o64
  have hp2 : 2 ^ n ≤ 64 := Nat.pow_le_pow_right (by decide) hn
  have hp1 : 1 ≤ 2 ^ n := Nat.one_le_two_pow
  refine lv_aload_n hF.1 hF.2.1 dX11_first_0 rfl (lv_at hl 0 rfl) ?_
  refine k_get (C := RX11) (T := TX11) (N := 8) hF hK hG (fun _ h => List.mem_cons_of_mem _ (List.mem_append_left _ (List.mem_append_left _ (List.mem_append_left _ (List.mem_append_left _ (List.mem_append_left _ (List.mem_append_left _ (List.mem_append_left _ (List.mem_append_left _ (List.mem_append_left _ (List.mem_append_left _ (List.mem_append_right _ h)))))))))))) 6 rfl rfl 0 (by decide) (List.mem_of_getElem? (i := 1) rfl) (fun _ h9 => h9) rfl dX11_first_1 ?_
  refine lv_iload_n hF.1 hF.2.1 dX11_first_4 rfl (lv_at hl 1 rfl) ?_
  refine k_ci (r_V (As := [.int f]) hF hK hA hG (c_X9_canStand hI.w0) (cwV 1 hF.2.2.2.2 gX11_first_X9_canStand rfl rfl rfl (by decide +kernel) ⟨Nat.le_of_ble_eq_true rfl, Nat.le_of_ble_eq_true rfl⟩) 7 rfl rfl rfl rfl hl.1 rfl (lv_room (Nat.le_of_ble_eq_true rfl)) dX11_first_5 ⟨Nat.le_of_ble_eq_true rfl, Nat.le_of_ble_eq_true rfl⟩) hG (fun r_5 u_5 H locs hp_5 hG => ?_)
  subst hp_5
  refine lv_if_eq (tgt := 22) hF.1 hF.2.1 dX11_first_8 (by decide) (fun c_8 => ?_) (fun c_8 => ?_)
  · --
    have n_8 : (inB (2 ^ n) f) = false := b2i_z.mp c_8
    refine lv_iconst (v := (-1)) hF.1 hF.2.1 dX11_first_22 (by decide +kernel) ?_
    exact hret _ (_, _, _, _, _, _, _, _, _, _, _, _, _, _, _, _, _, _, _, _) _ ls _ _ _ _ (by first | exact ⟨spFirst_f (Or.inl n_8), ⟨⟨rfl, rfl⟩, ⟨rfl, rfl⟩, htk, hI, hJ, ⟨_, _, hM⟩, ⟨_, hX⟩⟩⟩ | exact ⟨spFirst_f (Or.inr n_19), ⟨⟨rfl, rfl⟩, ⟨rfl, rfl⟩, htk, hI, hJ, ⟨_, _, hM⟩, ⟨_, hX⟩⟩⟩) (by first | rfl | exact nar_b2i _) hG (Nat.le_of_ble_eq_true rfl) (Nat.le_of_ble_eq_true rfl) dX11_first_23
  · --
    have n_8 : (inB (2 ^ n) f) = true := b2i_nz.mp c_8
    obtain ⟨i, hi, rfl⟩ := inB_ex (by omega) n_8
    refine lv_aload_n hF.1 hF.2.1 dX11_first_11 rfl (lv_at hl 0 rfl) ?_
    refine k_get (C := RX11) (T := TX11) (N := 8) hF hK hG (fun _ h => List.mem_cons_of_mem _ (List.mem_append_left _ (List.mem_append_left _ (List.mem_append_left _ (List.mem_append_left _ (List.mem_append_left _ (List.mem_append_left _ (List.mem_append_left _ (List.mem_append_left _ (List.mem_append_left _ (List.mem_append_left _ (List.mem_append_right _ h)))))))))))) 6 rfl rfl 0 (by decide) (List.mem_of_getElem? (i := 1) rfl) (fun _ h9 => h9) rfl dX11_first_12 ?_
    refine lv_iload_n hF.1 hF.2.1 dX11_first_15 rfl (lv_at hl 2 rfl) ?_
    refine k_ci (r_V (As := [.int t]) hF hK hA hG (c_X9_canStand hI.w0) (cwV 1 hF.2.2.2.2 gX11_first_X9_canStand rfl rfl rfl (by decide +kernel) ⟨Nat.le_of_ble_eq_true rfl, Nat.le_of_ble_eq_true rfl⟩) 7 rfl rfl rfl rfl hl.1 rfl (lv_room (Nat.le_of_ble_eq_true rfl)) dX11_first_16 ⟨Nat.le_of_ble_eq_true rfl, Nat.le_of_ble_eq_true rfl⟩) hG (fun r_16 u_16 H locs hp_16 hG => ?_)
    subst hp_16
    refine lv_if_ne (tgt := 24) hF.1 hF.2.1 dX11_first_19 (by decide) (fun c_19 => ?_) (fun c_19 => ?_)
    · --
      have n_19 : (inB (2 ^ n) t) = true := b2i_nz.mp c_19
      obtain ⟨j, hj, rfl⟩ := inB_ex (by omega) n_19
      refine lv_aload_n hF.1 hF.2.1 dX11_first_24 rfl (lv_at hl 0 rfl) ?_
      refine k_get (C := RX11) (T := TX11) (N := 8) hF hK hG (fun _ h => List.mem_cons_of_mem _ (List.mem_append_left _ (List.mem_append_left _ (List.mem_append_left _ (List.mem_append_left _ (List.mem_append_left _ (List.mem_append_left _ (List.mem_append_left _ (List.mem_append_left _ (List.mem_append_left _ (List.mem_append_left _ (List.mem_append_right _ h)))))))))))) 6 rfl rfl 3 (by decide) (List.mem_of_getElem? (i := 2) rfl) (fun _ h9 => h9) rfl dX11_first_25 ?_
      refine lv_aload_n hF.1 hF.2.1 dX11_first_28 rfl (lv_at hl 0 rfl) ?_
      refine k_get (C := RX11) (T := TX11) (N := 8) hF hK hG (fun _ h => List.mem_cons_of_mem _ (List.mem_append_left _ (List.mem_append_left _ (List.mem_append_left _ (List.mem_append_left _ (List.mem_append_left _ (List.mem_append_left _ (List.mem_append_left _ (List.mem_append_left _ (List.mem_append_left _ (List.mem_append_left _ (List.mem_append_right _ h)))))))))))) 6 rfl rfl 0 (by decide) (List.mem_of_getElem? (i := 1) rfl) (fun _ h9 => h9) rfl dX11_first_29 ?_
      refine k_cv (r_V (As := [.ref (ob 7)]) hF hK hA hG (c_X10_learn hI.w0) (cwV 1 hF.2.2.2.2 gX11_first_X10_learn rfl rfl rfl (by decide +kernel) ⟨Nat.le_of_ble_eq_true rfl, Nat.le_of_ble_eq_true rfl⟩) 0 rfl rfl rfl rfl hl.1 rfl (lv_room (Nat.le_of_ble_eq_true rfl)) dX11_first_32 ⟨Nat.le_of_ble_eq_true rfl, Nat.le_of_ble_eq_true rfl⟩) hG (fun u_32 H locs hp_32 hG => ?_)
      have hG : Gd D A (XW cA ob u_32 ss sh sp mt rc n o dr n1 o1 dr1 n2 o2 dr2 dk rk kt tk pool) s.heap H locs := hG
      have hma : ∀ z, z < 64 → u_32 z = nI (maW n kd fg z) ∧ maW n kd fg z < 64 := fun z hz => ⟨hp_32 z hz, maW_lt hn⟩
      refine lv_aload_n hF.1 hF.2.1 dX11_first_35 rfl (lv_at hl 0 rfl) ?_
      refine k_get (C := RX11) (T := TX11) (N := 8) hF hK hG (fun _ h => List.mem_cons_of_mem _ (List.mem_append_left _ (List.mem_append_left _ (List.mem_append_left _ (List.mem_append_left _ (List.mem_append_left _ (List.mem_append_left _ (List.mem_append_left _ (List.mem_append_left _ (List.mem_append_left _ (List.mem_append_left _ (List.mem_append_right _ h)))))))))))) 6 rfl rfl 3 (by decide) (List.mem_of_getElem? (i := 2) rfl) (fun _ h9 => h9) rfl dX11_first_36 ?_
      refine lv_iload_n hF.1 hF.2.1 dX11_first_39 rfl (lv_at hl 1 rfl) ?_
      refine lv_iload_n hF.1 hF.2.1 dX11_first_40 rfl (lv_at hl 2 rfl) ?_
      refine k_ci (r_V (As := [.int (nI i), .int (nI j)]) hF hK hA hG (c_X10_pullsTo hma (show i < 64 by omega) (show j < 64 by omega)) (cwV 2 hF.2.2.2.2 gX11_first_X10_pullsTo rfl rfl rfl (by decide +kernel) ⟨Nat.le_of_ble_eq_true rfl, Nat.le_of_ble_eq_true rfl⟩) 0 rfl rfl rfl rfl hl.1 rfl (lv_room (Nat.le_of_ble_eq_true rfl)) dX11_first_41 ⟨Nat.le_of_ble_eq_true rfl, Nat.le_of_ble_eq_true rfl⟩) hG (fun r_41 u_41 H locs hp_41 hG => ?_)
      have hG : Gd D A (XW cA ob u_32 u_41.1 u_41.2.1 u_41.2.2.1 u_41.2.2.2.1 u_41.2.2.2.2 n o dr n1 o1 dr1 n2 o2 dr2 dk rk kt tk pool) s.heap H locs := hG
      have hg : DS n kd fg i j r_41 := by rw [hp_41]; exact find_to hn hi
      refine lv_istore_n (lv' := [(3, .int r_41), (0, .ref (ob 6)), (1, .int (nI i)), (2, .int (nI j))]) hF.1 hF.2.1 dX11_first_44 rfl hl (by decide) rfl (fun ls hl => ?_)
      refine lv_iload_n hF.1 hF.2.1 dX11_first_45 rfl (lv_at hl 0 rfl) ?_
      refine lv_if_gt (tgt := 52) hF.1 hF.2.1 dX11_first_46 (by decide) (fun c_46 => ?_) (fun c_46 => ?_)
      · --
        refine lv_iconst (v := (nI 0)) hF.1 hF.2.1 dX11_first_52 (by decide +kernel) ?_
        refine lv_istore (lv' := [(4, .int (nI 0)), (3, .int r_41), (0, .ref (ob 6)), (1, .int (nI i)), (2, .int (nI j))]) hF.1 hF.2.1 dX11_first_53 hl (by decide) rfl (fun ls hl => ?_)
        have lp55 : ∀ (fuel : Nat), ∀ (k : Nat) (s1 s2 s3 : Nat → Int32) (s4 : Nat → Int64) (s5 : Nat), (hk : k ≤ n) → (hno : ∀ q, q < k → mv (kd q) (fg q) q i = true → ¬ DS n kd fg (i ^^^ 2 ^ q) j (r_41 - nI 1)) → (n - k) < fuel → ∀ (H : Heap) (locs : List Loc), Gd D A (XW cA ob u_32 s1 s2 s3 s4 s5 n o dr n1 o1 dr1 n2 o2 dr2 dk rk kt tk pool) s.heap H locs → ∀ ls : Array Slot, lv_has ls 5 [(0, .ref (ob 6)), (1, .int (nI i)), (2, .int (nI j)), (3, .int r_41), (4, .int (nI k))] → W p l e rmX11_first s m args below meth c H locs (0) (0) Q (F0 m 55 ls []) := by
          intro fuel
          induction fuel with
          | zero => intro k s1 s2 s3 s4 s5 hk hno hmu; exact absurd hmu (Nat.not_lt_zero _)
          | succ fuel ih55 =>
            intro k s1 s2 s3 s4 s5 hk hno hmu H locs hG ls hl
            refine lv_iload hF.1 hF.2.1 dX11_first_55 (lv_at hl 4 rfl) ?_
            refine lv_aload_n hF.1 hF.2.1 dX11_first_57 rfl (lv_at hl 0 rfl) ?_
            refine k_get (C := RX11) (T := TX11) (N := 8) hF hK hG (fun _ h => List.mem_cons_of_mem _ (List.mem_append_left _ (List.mem_append_left _ (List.mem_append_left _ (List.mem_append_left _ (List.mem_append_left _ (List.mem_append_left _ (List.mem_append_left _ (List.mem_append_left _ (List.mem_append_left _ (List.mem_append_left _ (List.mem_append_right _ h)))))))))))) 6 rfl rfl 0 (by decide) (List.mem_of_getElem? (i := 1) rfl) (fun _ h9 => h9) rfl dX11_first_58 ?_
            refine k_get (C := RX9) (T := TX9) (N := 3) hF hK hG (fun _ h => List.mem_cons_of_mem _ (List.mem_append_left _ (List.mem_append_left _ (List.mem_append_left _ (List.mem_append_left _ (List.mem_append_left _ (List.mem_append_left _ (List.mem_append_left _ (List.mem_append_left _ (List.mem_append_left _ (List.mem_append_right _ h))))))))))) 7 rfl rfl 1 (by decide) (List.mem_of_getElem? (i := 3) rfl) (fun _ h9 => h9) rfl dX11_first_61 ?_
            refine lv_icmp_ge (tgt := 109) hF.1 hF.2.1 dX11_first_64 (by decide) (fun c_64 => ?_) (fun c_64 => ?_)
            · --
              have n_64 : n ≤ k := (nI_leI (a := n) (b := k) (by omega) (by omega)).mp c_64
              refine lv_bipush (v := (-4)) hF.1 hF.2.1 dX11_first_109 (by decide +kernel) ?_
              exact hret _ (_, _, _, _, _, _, _, _, _, _, _, _, _, _, _, _, _, _, _, _) _ ls _ _ _ _ (by exact ⟨spFirst_t hn hi hj hg (Or.inl ⟨rfl, Or.inr (fun q hq => hno q (by omega))⟩), ⟨⟨rfl, rfl⟩, ⟨rfl, rfl⟩, htk, hI, hJ, ⟨_, _, hM⟩, ⟨_, hX⟩⟩⟩) (by first | rfl | exact nar_b2i _) hG (Nat.le_of_ble_eq_true rfl) (Nat.le_of_ble_eq_true rfl) dX11_first_111
            · --
              have n_64 : ¬ (n ≤ k) := fun zz9 => c_64 ((nI_leI (a := n) (b := k) (by omega) (by omega)).mpr zz9)
              refine lv_aload_n hF.1 hF.2.1 dX11_first_67 rfl (lv_at hl 0 rfl) ?_
              refine k_get (C := RX11) (T := TX11) (N := 8) hF hK hG (fun _ h => List.mem_cons_of_mem _ (List.mem_append_left _ (List.mem_append_left _ (List.mem_append_left _ (List.mem_append_left _ (List.mem_append_left _ (List.mem_append_left _ (List.mem_append_left _ (List.mem_append_left _ (List.mem_append_left _ (List.mem_append_left _ (List.mem_append_right _ h)))))))))))) 6 rfl rfl 0 (by decide) (List.mem_of_getElem? (i := 1) rfl) (fun _ h9 => h9) rfl dX11_first_68 ?_
              refine lv_iload hF.1 hF.2.1 dX11_first_71 (lv_at hl 4 rfl) ?_
              refine lv_iload_n hF.1 hF.2.1 dX11_first_73 rfl (lv_at hl 1 rfl) ?_
              refine k_ci (r_V (As := [.int (nI k), .int (nI i)]) hF hK hA hG (c_X9_may hI.w0 (show i < 64 by omega)) (cwV 2 hF.2.2.2.2 gX11_first_X9_may rfl rfl rfl (by decide +kernel) ⟨Nat.le_of_ble_eq_true rfl, Nat.le_of_ble_eq_true rfl⟩) 7 rfl rfl rfl rfl hl.1 rfl (lv_room (Nat.le_of_ble_eq_true rfl)) dX11_first_74 ⟨Nat.le_of_ble_eq_true rfl, Nat.le_of_ble_eq_true rfl⟩) hG (fun r_74 u_74 H locs hp_74 hG => ?_)
              subst hp_74
              refine lv_if_eq (tgt := 103) hF.1 hF.2.1 dX11_first_77 (by decide) (fun c_77 => ?_) (fun c_77 => ?_)
              · --
                have n_77 : (mayZ n kd fg (nI k) i) = false := b2i_z.mp c_77
                rw [mayZ_t hn (show k < n by omega)] at n_77
                have hk2 : mv (kd k) (fg k) k i = true → ¬ DS n kd fg (i ^^^ 2 ^ k) j (r_41 - nI 1) := fun a => by rw [n_77] at a; cases a
                refine lv_iinc (v := (nI (k + 1))) (lv' := [(4, .int (nI (k + 1))), (0, .ref (ob 6)), (1, .int (nI i)), (2, .int (nI j)), (3, .int r_41)]) hF.1 hF.2.1 dX11_first_103 hl (k := 4) rfl (nI_inc _ _) (by decide) rfl (fun ls hl => ?_)
                refine lv_goto (tgt := 55) hF.1 hF.2.1 dX11_first_106 (by decide) ?_
                exact ih55 (k + 1) (_) (_) (_) (_) (_) (by omega) (lt_s hno hk2) (by omega) _ _ hG ls (lv_sub hl [1, 2, 3, 4, 0] rfl)
              · --
                have n_77 : (mayZ n kd fg (nI k) i) = true := b2i_nz.mp c_77
                rw [mayZ_t hn (show k < n by omega)] at n_77
                have hxi : i ^^^ 2 ^ k < 2 ^ n := xor_ltn hi (show k < n by omega)
                refine lv_aload_n hF.1 hF.2.1 dX11_first_80 rfl (lv_at hl 0 rfl) ?_
                refine k_get (C := RX11) (T := TX11) (N := 8) hF hK hG (fun _ h => List.mem_cons_of_mem _ (List.mem_append_left _ (List.mem_append_left _ (List.mem_append_left _ (List.mem_append_left _ (List.mem_append_left _ (List.mem_append_left _ (List.mem_append_left _ (List.mem_append_left _ (List.mem_append_left _ (List.mem_append_left _ (List.mem_append_right _ h)))))))))))) 6 rfl rfl 3 (by decide) (List.mem_of_getElem? (i := 2) rfl) (fun _ h9 => h9) rfl dX11_first_81 ?_
                refine lv_iload_n hF.1 hF.2.1 dX11_first_84 rfl (lv_at hl 1 rfl) ?_
                refine lv_iload hF.1 hF.2.1 dX11_first_85 (lv_at hl 4 rfl) ?_
                refine k_ci (r_S (As := [.int (nI i), .int (nI k)]) hF hK hA hG (c_X11_turned (show k < 6 by omega)) (cwS 2 hF.2.2.2.2 gX11_first_X11_turned rfl rfl rfl (by decide +kernel) ⟨Nat.le_of_ble_eq_true rfl, Nat.le_of_ble_eq_true rfl⟩) rfl hl.1 rfl (lv_room (Nat.le_of_ble_eq_true rfl)) dX11_first_87 ⟨Nat.le_of_ble_eq_true rfl, Nat.le_of_ble_eq_true rfl⟩) hG (fun r_87 u_87 H locs hp_87 hG => ?_)
                subst hp_87
                refine lv_iload_n hF.1 hF.2.1 dX11_first_90 rfl (lv_at hl 2 rfl) ?_
                refine k_ci (r_V (As := [.int (nI (i ^^^ 2 ^ k)), .int (nI j)]) hF hK hA hG (c_X10_pullsTo hma (Nat.lt_of_lt_of_le hxi hp2) (show j < 64 by omega)) (cwV 2 hF.2.2.2.2 gX11_first_X10_pullsTo rfl rfl rfl (by decide +kernel) ⟨Nat.le_of_ble_eq_true rfl, Nat.le_of_ble_eq_true rfl⟩) 0 rfl rfl rfl rfl hl.1 rfl (lv_room (Nat.le_of_ble_eq_true rfl)) dX11_first_91 ⟨Nat.le_of_ble_eq_true rfl, Nat.le_of_ble_eq_true rfl⟩) hG (fun r_91 u_91 H locs hp_91 hG => ?_)
                have hG : Gd D A (XW cA ob u_32 u_91.1 u_91.2.1 u_91.2.2.1 u_91.2.2.2.1 u_91.2.2.2.2 n o dr n1 o1 dr1 n2 o2 dr2 dk rk kt tk pool) s.heap H locs := hG
                refine lv_iload_n hF.1 hF.2.1 dX11_first_94 rfl (lv_at hl 3 rfl) ?_
                refine lv_iconst (v := (nI 1)) hF.1 hF.2.1 dX11_first_95 (by decide +kernel) ?_
                refine lv_isub hF.1 hF.2.1 dX11_first_96 ?_
                refine lv_icmp_ne (tgt := 103) hF.1 hF.2.1 dX11_first_97 (by decide) (fun c_97 => ?_) (fun c_97 => ?_)
                · --
                  have hk2 : mv (kd k) (fg k) k i = true → ¬ DS n kd fg (i ^^^ 2 ^ k) j (r_41 - nI 1) := fun _ a => c_97 (IsW.one (by rw [hp_91]; exact find_to hn hxi) a)
                  refine lv_iinc (v := (nI (k + 1))) (lv' := [(4, .int (nI (k + 1))), (0, .ref (ob 6)), (1, .int (nI i)), (2, .int (nI j)), (3, .int r_41)]) hF.1 hF.2.1 dX11_first_103 hl (k := 4) rfl (nI_inc _ _) (by decide) rfl (fun ls hl => ?_)
                  refine lv_goto (tgt := 55) hF.1 hF.2.1 dX11_first_106 (by decide) ?_
                  exact ih55 (k + 1) (_) (_) (_) (_) (_) (by omega) (lt_s hno hk2) (by omega) _ _ hG ls (lv_sub hl [1, 2, 3, 4, 0] rfl)
                · --
                  refine lv_iload hF.1 hF.2.1 dX11_first_100 (lv_at hl 4 rfl) ?_
                  exact hret _ (_, _, _, _, _, _, _, _, _, _, _, _, _, _, _, _, _, _, _, _) _ ls _ _ _ _ (by exact ⟨spFirst_t hn hi hj hg (Or.inr ⟨k, by omega, rfl, Int32.not_le.mpr c_46, n_77, by rw [← c_97, hp_91]; exact find_to hn hxi, hno⟩), ⟨⟨rfl, rfl⟩, ⟨rfl, rfl⟩, htk, hI, hJ, ⟨_, _, hM⟩, ⟨_, hX⟩⟩⟩) (by first | rfl | exact nar_b2i _) hG (Nat.le_of_ble_eq_true rfl) (Nat.le_of_ble_eq_true rfl) dX11_first_102
        exact lp55 _ (0) (u_41.1) (u_41.2.1) (u_41.2.2.1) (u_41.2.2.2.1) (u_41.2.2.2.2) (by omega) (fun q h => absurd h (Nat.not_lt_zero q)) (Nat.lt_succ_self _) _ _ hG ls (lv_sub hl [2, 3, 4, 1, 0] rfl)
      · --
        refine lv_bipush (v := (-4)) hF.1 hF.2.1 dX11_first_49 (by decide +kernel) ?_
        exact hret _ (_, _, _, _, _, _, _, _, _, _, _, _, _, _, _, _, _, _, _, _) _ ls _ _ _ _ (by exact ⟨spFirst_t hn hi hj hg (Or.inl ⟨rfl, Or.inl (Int32.not_lt.mp c_46)⟩), ⟨⟨rfl, rfl⟩, ⟨rfl, rfl⟩, htk, hI, hJ, ⟨_, _, hM⟩, ⟨_, hX⟩⟩⟩) (by first | rfl | exact nar_b2i _) hG (Nat.le_of_ble_eq_true rfl) (Nat.le_of_ble_eq_true rfl) dX11_first_51
    · --
      have n_19 : (inB (2 ^ n) t) = false := b2i_z.mp c_19
      refine lv_iconst (v := (-1)) hF.1 hF.2.1 dX11_first_22 (by decide +kernel) ?_
      exact hret _ (_, _, _, _, _, _, _, _, _, _, _, _, _, _, _, _, _, _, _, _) _ ls _ _ _ _ (by first | exact ⟨spFirst_f (Or.inl n_8), ⟨⟨rfl, rfl⟩, ⟨rfl, rfl⟩, htk, hI, hJ, ⟨_, _, hM⟩, ⟨_, hX⟩⟩⟩ | exact ⟨spFirst_f (Or.inr n_19), ⟨⟨rfl, rfl⟩, ⟨rfl, rfl⟩, htk, hI, hJ, ⟨_, _, hM⟩, ⟨_, hX⟩⟩⟩) (by first | rfl | exact nar_b2i _) hG (Nat.le_of_ble_eq_true rfl) (Nat.le_of_ble_eq_true rfl) dX11_first_23

abbrev rmX11_place : Room := { frames := 6, cells := 0, slots := 0, locals := 134 }
set_option maxHeartbeats 4000000 in
set_option maxRecDepth 100000 in
theorem c_X11_place {l : Launch} {D : va_G} {cA : Nat → ClassId} {A : Nat → Prop}  {ob : Nat → Nat} {mb ss sh sp : Nat → Int32} {mt : Nat → Int64} {rc n o : Nat} {dr : Nat → Option Nat} {n1 o1 : Nat} {dr1 : Nat → Option Nat} {n2 o2 : Nat} {dr2 dk rk : Nat → Option Nat} {kt : Nat → Int32} {tk : Int32} {pool : va_W} {kd fg : Nat → Nat} (hI : WI pool n o dr kd fg) {kd1 fg1 : Nat → Nat} (hJ : WI pool n1 o1 dr1 kd1 fg1) {kd2 fg2 : Nat → Nat} (hM : WI pool n2 o2 dr2 kd2 fg2) {x : Nat → Sf} {P : Nat → Nat} (hX : SX cA pool dk rk x P) {tkb : Bool} (htk : tk = b2i tkb) {t : Int32} : Met l yX11_place wsX11_place rmX11_place (va_Pc [.ref (ob 6), .int t] (Pre D cA A (XW cA ob mb ss sh sp mt rc n o dr n1 o1 dr1 n2 o2 dr2 dk rk kt tk pool))) (va_Qi (fun r (u : XS) => (spPlace n kd fg t r) ∧ XI cA u (n, o, kd, fg) (n1, o1, kd1, fg1) tkb x) (fun u t => Wd D A ((fun (u : XS) => XV cA ob u) u) t) A) (0) (0) A := by
  refine k_ofi (S := XS) (F := fun (u : XS) => XV cA ob u) (cc := cX11_place) (maxL := 2) (by decide) rfl (Nat.le_of_ble_eq_true rfl) ?_
  intro p e s m args below meth c Q hF hini hK hA hG hret ls hl
  have hl : lv_has ls 2 [(0, .ref (ob 6)), (1, .int t)] := hl
  have hn : n ≤ 6 := hI.1
  have ho : o < 64 := hI.o64
  have hp2 : 2 ^ n ≤ 64 := Nat.pow_le_pow_right (by decide) hn
  have hp1 : 1 ≤ 2 ^ n := Nat.one_le_two_pow
  refine lv_aload_n hF.1 hF.2.1 dX11_place_0 rfl (lv_at hl 0 rfl) ?_
  refine k_get (C := RX11) (T := TX11) (N := 8) hF hK hG (fun _ h => List.mem_cons_of_mem _ (List.mem_append_left _ (List.mem_append_left _ (List.mem_append_left _ (List.mem_append_left _ (List.mem_append_left _ (List.mem_append_left _ (List.mem_append_left _ (List.mem_append_left _ (List.mem_append_left _ (List.mem_append_left _ (List.mem_append_right _ h)))))))))))) 6 rfl rfl 0 (by decide) (List.mem_of_getElem? (i := 1) rfl) (fun _ h9 => h9) rfl dX11_place_1 ?_
  refine lv_iload_n hF.1 hF.2.1 dX11_place_4 rfl (lv_at hl 1 rfl) ?_
  refine k_ci (r_V (As := [.int t]) hF hK hA hG (c_X9_canStand hI.w0) (cwV 1 hF.2.2.2.2 gX11_place_X9_canStand rfl rfl rfl (by decide +kernel) ⟨Nat.le_of_ble_eq_true rfl, Nat.le_of_ble_eq_true rfl⟩) 7 rfl rfl rfl rfl hl.1 rfl (lv_room (Nat.le_of_ble_eq_true rfl)) dX11_place_5 ⟨Nat.le_of_ble_eq_true rfl, Nat.le_of_ble_eq_true rfl⟩) hG (fun r_5 u_5 H locs hp_5 hG => ?_)
  subst hp_5
  refine lv_if_ne (tgt := 13) hF.1 hF.2.1 dX11_place_8 (by decide) (fun c_8 => ?_) (fun c_8 => ?_)
  · --
    have n_8 : (inB (2 ^ n) t) = true := b2i_nz.mp c_8
    obtain ⟨j, hj, rfl⟩ := inB_ex (by omega) n_8
    refine lv_aload_n hF.1 hF.2.1 dX11_place_13 rfl (lv_at hl 0 rfl) ?_
    refine k_get (C := RX11) (T := TX11) (N := 8) hF hK hG (fun _ h => List.mem_cons_of_mem _ (List.mem_append_left _ (List.mem_append_left _ (List.mem_append_left _ (List.mem_append_left _ (List.mem_append_left _ (List.mem_append_left _ (List.mem_append_left _ (List.mem_append_left _ (List.mem_append_left _ (List.mem_append_left _ (List.mem_append_right _ h)))))))))))) 6 rfl rfl 0 (by decide) (List.mem_of_getElem? (i := 1) rfl) (fun _ h9 => h9) rfl dX11_place_14 ?_
    refine k_ci (r_V (As := []) hF hK hA hG (c_X9_isJoiners hI.w0) (cwV 0 hF.2.2.2.2 gX11_place_X9_isJoiners rfl rfl rfl (by decide +kernel) ⟨Nat.le_of_ble_eq_true rfl, Nat.le_of_ble_eq_true rfl⟩) 7 rfl rfl rfl rfl hl.1 rfl (lv_room (Nat.le_of_ble_eq_true rfl)) dX11_place_17 ⟨Nat.le_of_ble_eq_true rfl, Nat.le_of_ble_eq_true rfl⟩) hG (fun r_17 u_17 H locs hp_17 hG => ?_)
    subst hp_17
    refine lv_if_ne (tgt := 26) hF.1 hF.2.1 dX11_place_20 (by decide) (fun c_20 => ?_) (fun c_20 => ?_)
    · --
      have n_20 : (joi n kd) = true := b2i_nz.mp c_20
      refine lv_aload_n hF.1 hF.2.1 dX11_place_26 rfl (lv_at hl 0 rfl) ?_
      refine k_get (C := RX11) (T := TX11) (N := 8) hF hK hG (fun _ h => List.mem_cons_of_mem _ (List.mem_append_left _ (List.mem_append_left _ (List.mem_append_left _ (List.mem_append_left _ (List.mem_append_left _ (List.mem_append_left _ (List.mem_append_left _ (List.mem_append_left _ (List.mem_append_left _ (List.mem_append_left _ (List.mem_append_right _ h)))))))))))) 6 rfl rfl 3 (by decide) (List.mem_of_getElem? (i := 2) rfl) (fun _ h9 => h9) rfl dX11_place_27 ?_
      refine lv_aload_n hF.1 hF.2.1 dX11_place_30 rfl (lv_at hl 0 rfl) ?_
      refine k_get (C := RX11) (T := TX11) (N := 8) hF hK hG (fun _ h => List.mem_cons_of_mem _ (List.mem_append_left _ (List.mem_append_left _ (List.mem_append_left _ (List.mem_append_left _ (List.mem_append_left _ (List.mem_append_left _ (List.mem_append_left _ (List.mem_append_left _ (List.mem_append_left _ (List.mem_append_left _ (List.mem_append_right _ h)))))))))))) 6 rfl rfl 0 (by decide) (List.mem_of_getElem? (i := 1) rfl) (fun _ h9 => h9) rfl dX11_place_31 ?_
      refine k_cv (r_V (As := [.ref (ob 7)]) hF hK hA hG (c_X10_learn hI.w0) (cwV 1 hF.2.2.2.2 gX11_place_X10_learn rfl rfl rfl (by decide +kernel) ⟨Nat.le_of_ble_eq_true rfl, Nat.le_of_ble_eq_true rfl⟩) 0 rfl rfl rfl rfl hl.1 rfl (lv_room (Nat.le_of_ble_eq_true rfl)) dX11_place_34 ⟨Nat.le_of_ble_eq_true rfl, Nat.le_of_ble_eq_true rfl⟩) hG (fun u_34 H locs hp_34 hG => ?_)
      have hG : Gd D A (XW cA ob u_34 ss sh sp mt rc n o dr n1 o1 dr1 n2 o2 dr2 dk rk kt tk pool) s.heap H locs := hG
      have hma : ∀ z, z < 64 → u_34 z = nI (maW n kd fg z) ∧ maW n kd fg z < 64 := fun z hz => ⟨hp_34 z hz, maW_lt hn⟩
      refine lv_aload_n hF.1 hF.2.1 dX11_place_37 rfl (lv_at hl 0 rfl) ?_
      refine k_get (C := RX11) (T := TX11) (N := 8) hF hK hG (fun _ h => List.mem_cons_of_mem _ (List.mem_append_left _ (List.mem_append_left _ (List.mem_append_left _ (List.mem_append_left _ (List.mem_append_left _ (List.mem_append_left _ (List.mem_append_left _ (List.mem_append_left _ (List.mem_append_left _ (List.mem_append_left _ (List.mem_append_right _ h)))))))))))) 6 rfl rfl 3 (by decide) (List.mem_of_getElem? (i := 2) rfl) (fun _ h9 => h9) rfl dX11_place_38 ?_
      refine lv_aload_n hF.1 hF.2.1 dX11_place_41 rfl (lv_at hl 0 rfl) ?_
      refine k_get (C := RX11) (T := TX11) (N := 8) hF hK hG (fun _ h => List.mem_cons_of_mem _ (List.mem_append_left _ (List.mem_append_left _ (List.mem_append_left _ (List.mem_append_left _ (List.mem_append_left _ (List.mem_append_left _ (List.mem_append_left _ (List.mem_append_left _ (List.mem_append_left _ (List.mem_append_left _ (List.mem_append_right _ h)))))))))))) 6 rfl rfl 0 (by decide) (List.mem_of_getElem? (i := 1) rfl) (fun _ h9 => h9) rfl dX11_place_42 ?_
      refine k_ci (r_V (As := []) hF hK hA hG (c_X9_allBits hI.w0) (cwV 0 hF.2.2.2.2 gX11_place_X9_allBits rfl rfl rfl (by decide +kernel) ⟨Nat.le_of_ble_eq_true rfl, Nat.le_of_ble_eq_true rfl⟩) 7 rfl rfl rfl rfl hl.1 rfl (lv_room (Nat.le_of_ble_eq_true rfl)) dX11_place_45 ⟨Nat.le_of_ble_eq_true rfl, Nat.le_of_ble_eq_true rfl⟩) hG (fun r_45 u_45 H locs hp_45 hG => ?_)
      subst hp_45
      refine lv_iload_n hF.1 hF.2.1 dX11_place_48 rfl (lv_at hl 1 rfl) ?_
      refine k_ci (r_V (As := [.int (nI (2 ^ n - 1)), .int (nI j)]) hF hK hA hG (c_X10_pullsTo hma (show 2 ^ n - 1 < 64 by omega) (show j < 64 by omega)) (cwV 2 hF.2.2.2.2 gX11_place_X10_pullsTo rfl rfl rfl (by decide +kernel) ⟨Nat.le_of_ble_eq_true rfl, Nat.le_of_ble_eq_true rfl⟩) 0 rfl rfl rfl rfl hl.1 rfl (lv_room (Nat.le_of_ble_eq_true rfl)) dX11_place_49 ⟨Nat.le_of_ble_eq_true rfl, Nat.le_of_ble_eq_true rfl⟩) hG (fun r_49 u_49 H locs hp_49 hG => ?_)
      have hG : Gd D A (XW cA ob u_34 u_49.1 u_49.2.1 u_49.2.2.1 u_49.2.2.2.1 u_49.2.2.2.2 n o dr n1 o1 dr1 n2 o2 dr2 dk rk kt tk pool) s.heap H locs := hG
      exact hret _ (_, _, _, _, _, _, _, _, _, _, _, _, _, _, _, _, _, _, _, _) _ ls _ _ _ _ (by refine ⟨?_, ⟨⟨rfl, rfl⟩, ⟨rfl, rfl⟩, htk, hI, hJ, ⟨_, _, hM⟩, ⟨_, hX⟩⟩⟩; unfold spPlace; rw [if_pos (inB_j (by omega) hj), if_pos n_20, nI_clamp (by omega), hp_49]; exact find_to hn (by omega)) (by first | rfl | exact nar_b2i _) hG (Nat.le_of_ble_eq_true rfl) (Nat.le_of_ble_eq_true rfl) dX11_place_52
    · --
      have n_20 : (joi n kd) = false := b2i_z.mp c_20
      refine lv_bipush (v := (-3)) hF.1 hF.2.1 dX11_place_23 (by decide +kernel) ?_
      exact hret _ (_, _, _, _, _, _, _, _, _, _, _, _, _, _, _, _, _, _, _, _) _ ls _ _ _ _ (by refine ⟨?_, ⟨⟨rfl, rfl⟩, ⟨rfl, rfl⟩, htk, hI, hJ, ⟨_, _, hM⟩, ⟨_, hX⟩⟩⟩; unfold spPlace; rw [if_pos (inB_j (by omega) hj), n_20]; rfl) (by first | rfl | exact nar_b2i _) hG (Nat.le_of_ble_eq_true rfl) (Nat.le_of_ble_eq_true rfl) dX11_place_25
  · --
    have n_8 : (inB (2 ^ n) t) = false := b2i_z.mp c_8
    refine lv_iconst (v := (-1)) hF.1 hF.2.1 dX11_place_11 (by decide +kernel) ?_
    exact hret _ (_, _, _, _, _, _, _, _, _, _, _, _, _, _, _, _, _, _, _, _) _ ls _ _ _ _ (by refine ⟨?_, ⟨⟨rfl, rfl⟩, ⟨rfl, rfl⟩, htk, hI, hJ, ⟨_, _, hM⟩, ⟨_, hX⟩⟩⟩; unfold spPlace; rw [n_8]; rfl) (by first | rfl | exact nar_b2i _) hG (Nat.le_of_ble_eq_true rfl) (Nat.le_of_ble_eq_true rfl) dX11_place_12

abbrev rmX11_had : Room := { frames := 6, cells := 0, slots := 0, locals := 134 }
set_option maxHeartbeats 4000000 in
set_option maxRecDepth 100000 in
theorem c_X11_had {l : Launch} {D : va_G} {cA : Nat → ClassId} {A : Nat → Prop}  {ob : Nat → Nat} {mb ss sh sp : Nat → Int32} {mt : Nat → Int64} {rc n o : Nat} {dr : Nat → Option Nat} {n1 o1 : Nat} {dr1 : Nat → Option Nat} {n2 o2 : Nat} {dr2 dk rk : Nat → Option Nat} {kt : Nat → Int32} {tk : Int32} {pool : va_W} {kd fg : Nat → Nat} (hI : WI pool n o dr kd fg) {kd1 fg1 : Nat → Nat} (hJ : WI pool n1 o1 dr1 kd1 fg1) {kd2 fg2 : Nat → Nat} (hM : WI pool n2 o2 dr2 kd2 fg2) {x : Nat → Sf} {P : Nat → Nat} (hX : SX cA pool dk rk x P) {tkb : Bool} (htk : tk = b2i tkb) {t : Int32} : Met l yX11_had wsX11_had rmX11_had (va_Pc [.ref (ob 6), .int t] (Pre D cA A (XW cA ob mb ss sh sp mt rc n o dr n1 o1 dr1 n2 o2 dr2 dk rk kt tk pool))) (va_Qi (fun r (u : XS) => (spHad n o kd fg t r) ∧ XI cA u (n, o, kd, fg) (n1, o1, kd1, fg1) tkb x) (fun u t => Wd D A ((fun (u : XS) => XV cA ob u) u) t) A) (0) (0) A := by
  refine k_ofi (S := XS) (F := fun (u : XS) => XV cA ob u) (cc := cX11_had) (maxL := 2) (by decide) rfl (Nat.le_of_ble_eq_true rfl) ?_
  intro p e s m args below meth c Q hF hini hK hA hG hret ls hl
  have hl : lv_has ls 2 [(0, .ref (ob 6)), (1, .int t)] := hl
  have hn : n ≤ 6 := hI.1
  have ho : o < 64 := hI.o64
  have hp2 : 2 ^ n ≤ 64 := Nat.pow_le_pow_right (by decide) hn
  have hp1 : 1 ≤ 2 ^ n := Nat.one_le_two_pow
  refine lv_aload_n hF.1 hF.2.1 dX11_had_0 rfl (lv_at hl 0 rfl) ?_
  refine k_get (C := RX11) (T := TX11) (N := 8) hF hK hG (fun _ h => List.mem_cons_of_mem _ (List.mem_append_left _ (List.mem_append_left _ (List.mem_append_left _ (List.mem_append_left _ (List.mem_append_left _ (List.mem_append_left _ (List.mem_append_left _ (List.mem_append_left _ (List.mem_append_left _ (List.mem_append_left _ (List.mem_append_right _ h)))))))))))) 6 rfl rfl 0 (by decide) (List.mem_of_getElem? (i := 1) rfl) (fun _ h9 => h9) rfl dX11_had_1 ?_
  refine lv_iload_n hF.1 hF.2.1 dX11_had_4 rfl (lv_at hl 1 rfl) ?_
  refine k_ci (r_V (As := [.int t]) hF hK hA hG (c_X9_canStand hI.w0) (cwV 1 hF.2.2.2.2 gX11_had_X9_canStand rfl rfl rfl (by decide +kernel) ⟨Nat.le_of_ble_eq_true rfl, Nat.le_of_ble_eq_true rfl⟩) 7 rfl rfl rfl rfl hl.1 rfl (lv_room (Nat.le_of_ble_eq_true rfl)) dX11_had_5 ⟨Nat.le_of_ble_eq_true rfl, Nat.le_of_ble_eq_true rfl⟩) hG (fun r_5 u_5 H locs hp_5 hG => ?_)
  subst hp_5
  refine lv_if_ne (tgt := 13) hF.1 hF.2.1 dX11_had_8 (by decide) (fun c_8 => ?_) (fun c_8 => ?_)
  · --
    have n_8 : (inB (2 ^ n) t) = true := b2i_nz.mp c_8
    obtain ⟨j, hj, rfl⟩ := inB_ex (by omega) n_8
    refine lv_aload_n hF.1 hF.2.1 dX11_had_13 rfl (lv_at hl 0 rfl) ?_
    refine k_get (C := RX11) (T := TX11) (N := 8) hF hK hG (fun _ h => List.mem_cons_of_mem _ (List.mem_append_left _ (List.mem_append_left _ (List.mem_append_left _ (List.mem_append_left _ (List.mem_append_left _ (List.mem_append_left _ (List.mem_append_left _ (List.mem_append_left _ (List.mem_append_left _ (List.mem_append_left _ (List.mem_append_right _ h)))))))))))) 6 rfl rfl 3 (by decide) (List.mem_of_getElem? (i := 2) rfl) (fun _ h9 => h9) rfl dX11_had_14 ?_
    refine lv_aload_n hF.1 hF.2.1 dX11_had_17 rfl (lv_at hl 0 rfl) ?_
    refine k_get (C := RX11) (T := TX11) (N := 8) hF hK hG (fun _ h => List.mem_cons_of_mem _ (List.mem_append_left _ (List.mem_append_left _ (List.mem_append_left _ (List.mem_append_left _ (List.mem_append_left _ (List.mem_append_left _ (List.mem_append_left _ (List.mem_append_left _ (List.mem_append_left _ (List.mem_append_left _ (List.mem_append_right _ h)))))))))))) 6 rfl rfl 0 (by decide) (List.mem_of_getElem? (i := 1) rfl) (fun _ h9 => h9) rfl dX11_had_18 ?_
    refine k_cv (r_V (As := [.ref (ob 7)]) hF hK hA hG (c_X10_learn hI.w0) (cwV 1 hF.2.2.2.2 gX11_had_X10_learn rfl rfl rfl (by decide +kernel) ⟨Nat.le_of_ble_eq_true rfl, Nat.le_of_ble_eq_true rfl⟩) 0 rfl rfl rfl rfl hl.1 rfl (lv_room (Nat.le_of_ble_eq_true rfl)) dX11_had_21 ⟨Nat.le_of_ble_eq_true rfl, Nat.le_of_ble_eq_true rfl⟩) hG (fun u_21 H locs hp_21 hG => ?_)
    have hG : Gd D A (XW cA ob u_21 ss sh sp mt rc n o dr n1 o1 dr1 n2 o2 dr2 dk rk kt tk pool) s.heap H locs := hG
    have hma : ∀ z, z < 64 → u_21 z = nI (maW n kd fg z) ∧ maW n kd fg z < 64 := fun z hz => ⟨hp_21 z hz, maW_lt hn⟩
    refine lv_aload_n hF.1 hF.2.1 dX11_had_24 rfl (lv_at hl 0 rfl) ?_
    refine k_get (C := RX11) (T := TX11) (N := 8) hF hK hG (fun _ h => List.mem_cons_of_mem _ (List.mem_append_left _ (List.mem_append_left _ (List.mem_append_left _ (List.mem_append_left _ (List.mem_append_left _ (List.mem_append_left _ (List.mem_append_left _ (List.mem_append_left _ (List.mem_append_left _ (List.mem_append_left _ (List.mem_append_right _ h)))))))))))) 6 rfl rfl 3 (by decide) (List.mem_of_getElem? (i := 2) rfl) (fun _ h9 => h9) rfl dX11_had_25 ?_
    refine lv_aload_n hF.1 hF.2.1 dX11_had_28 rfl (lv_at hl 0 rfl) ?_
    refine k_get (C := RX11) (T := TX11) (N := 8) hF hK hG (fun _ h => List.mem_cons_of_mem _ (List.mem_append_left _ (List.mem_append_left _ (List.mem_append_left _ (List.mem_append_left _ (List.mem_append_left _ (List.mem_append_left _ (List.mem_append_left _ (List.mem_append_left _ (List.mem_append_left _ (List.mem_append_left _ (List.mem_append_right _ h)))))))))))) 6 rfl rfl 0 (by decide) (List.mem_of_getElem? (i := 1) rfl) (fun _ h9 => h9) rfl dX11_had_29 ?_
    refine k_get (C := RX9) (T := TX9) (N := 3) hF hK hG (fun _ h => List.mem_cons_of_mem _ (List.mem_append_left _ (List.mem_append_left _ (List.mem_append_left _ (List.mem_append_left _ (List.mem_append_left _ (List.mem_append_left _ (List.mem_append_left _ (List.mem_append_left _ (List.mem_append_left _ (List.mem_append_right _ h))))))))))) 7 rfl rfl 2 (by decide) (List.mem_of_getElem? (i := 3) rfl) (fun _ h9 => h9) rfl dX11_had_32 ?_
    refine lv_iload_n hF.1 hF.2.1 dX11_had_35 rfl (lv_at hl 1 rfl) ?_
    refine k_ci (r_V (As := [.int (nI o), .int (nI j)]) hF hK hA hG (c_X10_pullsToHave hma ho (show j < 64 by omega)) (cwV 2 hF.2.2.2.2 gX11_had_X10_pullsToHave rfl rfl rfl (by decide +kernel) ⟨Nat.le_of_ble_eq_true rfl, Nat.le_of_ble_eq_true rfl⟩) 0 rfl rfl rfl rfl hl.1 rfl (lv_room (Nat.le_of_ble_eq_true rfl)) dX11_had_36 ⟨Nat.le_of_ble_eq_true rfl, Nat.le_of_ble_eq_true rfl⟩) hG (fun r_36 u_36 H locs hp_36 hG => ?_)
    have hG : Gd D A (XW cA ob u_21 u_36.1 u_36.2.1 u_36.2.2.1 u_36.2.2.2.1 u_36.2.2.2.2 n o dr n1 o1 dr1 n2 o2 dr2 dk rk kt tk pool) s.heap H locs := hG
    exact hret _ (_, _, _, _, _, _, _, _, _, _, _, _, _, _, _, _, _, _, _, _) _ ls _ _ _ _ (by exact ⟨spHad_t hn hj (by rw [hp_36]; exact find_had hn hI.2.1 (by omega)), ⟨⟨rfl, rfl⟩, ⟨rfl, rfl⟩, htk, hI, hJ, ⟨_, _, hM⟩, ⟨_, hX⟩⟩⟩) (by first | rfl | exact nar_b2i _) hG (Nat.le_of_ble_eq_true rfl) (Nat.le_of_ble_eq_true rfl) dX11_had_39
  · --
    have n_8 : (inB (2 ^ n) t) = false := b2i_z.mp c_8
    refine lv_iconst (v := (-1)) hF.1 hF.2.1 dX11_had_11 (by decide +kernel) ?_
    exact hret _ (_, _, _, _, _, _, _, _, _, _, _, _, _, _, _, _, _, _, _, _) _ ls _ _ _ _ (by exact ⟨spHad_f n_8, ⟨⟨rfl, rfl⟩, ⟨rfl, rfl⟩, htk, hI, hJ, ⟨_, _, hM⟩, ⟨_, hX⟩⟩⟩) (by first | rfl | exact nar_b2i _) hG (Nat.le_of_ble_eq_true rfl) (Nat.le_of_ble_eq_true rfl) dX11_had_12

abbrev rmX11_longest : Room := { frames := 6, cells := 8, slots := 8, locals := 134 }
set_option maxHeartbeats 4000000 in
set_option maxRecDepth 100000 in
theorem c_X11_longest {l : Launch} {D : va_G} {cA : Nat → ClassId} {A : Nat → Prop}  {ob : Nat → Nat} {mb ss sh sp : Nat → Int32} {mt : Nat → Int64} {rc n o : Nat} {dr : Nat → Option Nat} {n1 o1 : Nat} {dr1 : Nat → Option Nat} {n2 o2 : Nat} {dr2 dk rk : Nat → Option Nat} {kt : Nat → Int32} {tk : Int32} {pool : va_W} {kd fg : Nat → Nat} (hI : WI pool n o dr kd fg) {kd1 fg1 : Nat → Nat} (hJ : WI pool n1 o1 dr1 kd1 fg1) {kd2 fg2 : Nat → Nat} (hM : WI pool n2 o2 dr2 kd2 fg2) {x : Nat → Sf} {P : Nat → Nat} (hX : SX cA pool dk rk x P) {tkb : Bool} (htk : tk = b2i tkb) {d f y what : Int32} : Met l yX11_longest wsX11_longest rmX11_longest (va_Pc [.ref (ob 6), .int d, .int f, .int y, .int what] (Pre D cA A (XW cA ob mb ss sh sp mt rc n o dr n1 o1 dr1 n2 o2 dr2 dk rk kt tk pool))) (va_Qi (fun r (u : XS) => (spLongest n o kd fg d f y what r) ∧ XI cA u (n, o, kd, fg) (n1, o1, kd1, fg1) tkb x) (fun u t => Wd D A ((fun (u : XS) => XV cA ob u) u) t) A) (8) (8) A := by
  refine k_ofi (S := XS) (F := fun (u : XS) => XV cA ob u) (cc := cX11_longest) (maxL := 9) (by decide) rfl (Nat.le_of_ble_eq_true rfl) ?_
  intro p e s m args below meth c Q hF hini hK hA hG hret ls hl
  have hl : lv_has ls 9 [(0, .ref (ob 6)), (1, .int d), (2, .int f), (3, .int y), (4, .int what)] := hl
  have hn : n ≤ 6 := hI.1
  have ho : o < 64 := hI.o64
  have hp2 : 2 ^ n ≤ 64 := Nat.pow_le_pow_right (by decide) hn
  have hp1 : 1 ≤ 2 ^ n := Nat.one_le_two_pow
  refine lv_aload_n hF.1 hF.2.1 dX11_longest_0 rfl (lv_at hl 0 rfl) ?_
  refine k_get (C := RX11) (T := TX11) (N := 8) hF hK hG (fun _ h => List.mem_cons_of_mem _ (List.mem_append_left _ (List.mem_append_left _ (List.mem_append_left _ (List.mem_append_left _ (List.mem_append_left _ (List.mem_append_left _ (List.mem_append_left _ (List.mem_append_left _ (List.mem_append_left _ (List.mem_append_left _ (List.mem_append_right _ h)))))))))))) 6 rfl rfl 0 (by decide) (List.mem_of_getElem? (i := 1) rfl) (fun _ h9 => h9) rfl dX11_longest_1 ?_
  refine lv_iload_n hF.1 hF.2.1 dX11_longest_4 rfl (lv_at hl 1 rfl) ?_
  refine k_ci (r_V (As := [.int d]) hF hK hA hG (c_X9_has hI.w0) (cwV 1 hF.2.2.2.2 gX11_longest_X9_has rfl rfl rfl (by decide +kernel) ⟨Nat.le_of_ble_eq_true rfl, Nat.le_of_ble_eq_true rfl⟩) 7 rfl rfl rfl rfl hl.1 rfl (lv_room (Nat.le_of_ble_eq_true rfl)) dX11_longest_5 ⟨Nat.le_of_ble_eq_true rfl, Nat.le_of_ble_eq_true rfl⟩) hG (fun r_5 u_5 H locs hp_5 hG => ?_)
  subst hp_5
  refine lv_if_eq (tgt := 40) hF.1 hF.2.1 dX11_longest_8 (by decide) (fun c_8 => ?_) (fun c_8 => ?_)
  · --
    have n_8 : (inB n d) = false := b2i_z.mp c_8
    refine lv_iconst (v := (-1)) hF.1 hF.2.1 dX11_longest_40 (by decide +kernel) ?_
    exact hret _ (_, _, _, _, _, _, _, _, _, _, _, _, _, _, _, _, _, _, _, _) _ ls _ _ _ _ (by refine ⟨?_, ⟨⟨rfl, rfl⟩, ⟨rfl, rfl⟩, htk, hI, hJ, ⟨_, _, hM⟩, ⟨_, hX⟩⟩⟩; first | exact spLongest_f (lngOk_1 n_8) | exact spLongest_f (lngOk_2 n_15) | exact spLongest_f (lngOk_3 n_26) | exact spLongest_f (lngOk_4 (inB_l c_31)) | exact spLongest_f (lngOk_4 (in2_f c_37))) (by first | rfl | exact nar_b2i _) hG (Nat.le_of_ble_eq_true rfl) (Nat.le_of_ble_eq_true rfl) dX11_longest_41
  · --
    have n_8 : (inB n d) = true := b2i_nz.mp c_8
    refine lv_iload_n hF.1 hF.2.1 dX11_longest_11 rfl (lv_at hl 2 rfl) ?_
    refine k_ci (r_S (As := [.int f]) hF hK hA hG (c_X11_isFigure) (cwS 1 hF.2.2.2.2 gX11_longest_X11_isFigure rfl rfl rfl (by decide +kernel) ⟨Nat.le_of_ble_eq_true rfl, Nat.le_of_ble_eq_true rfl⟩) rfl hl.1 rfl (lv_room (Nat.le_of_ble_eq_true rfl)) dX11_longest_12 ⟨Nat.le_of_ble_eq_true rfl, Nat.le_of_ble_eq_true rfl⟩) hG (fun r_12 u_12 H locs hp_12 hG => ?_)
    subst hp_12
    refine lv_if_eq (tgt := 40) hF.1 hF.2.1 dX11_longest_15 (by decide) (fun c_15 => ?_) (fun c_15 => ?_)
    · --
      have n_15 : (inB 10 f) = false := b2i_z.mp c_15
      refine lv_iconst (v := (-1)) hF.1 hF.2.1 dX11_longest_40 (by decide +kernel) ?_
      exact hret _ (_, _, _, _, _, _, _, _, _, _, _, _, _, _, _, _, _, _, _, _) _ ls _ _ _ _ (by refine ⟨?_, ⟨⟨rfl, rfl⟩, ⟨rfl, rfl⟩, htk, hI, hJ, ⟨_, _, hM⟩, ⟨_, hX⟩⟩⟩; first | exact spLongest_f (lngOk_1 n_8) | exact spLongest_f (lngOk_2 n_15) | exact spLongest_f (lngOk_3 n_26) | exact spLongest_f (lngOk_4 (inB_l c_31)) | exact spLongest_f (lngOk_4 (in2_f c_37))) (by first | rfl | exact nar_b2i _) hG (Nat.le_of_ble_eq_true rfl) (Nat.le_of_ble_eq_true rfl) dX11_longest_41
    · --
      have n_15 : (inB 10 f) = true := b2i_nz.mp c_15
      refine lv_aload_n hF.1 hF.2.1 dX11_longest_18 rfl (lv_at hl 0 rfl) ?_
      refine k_get (C := RX11) (T := TX11) (N := 8) hF hK hG (fun _ h => List.mem_cons_of_mem _ (List.mem_append_left _ (List.mem_append_left _ (List.mem_append_left _ (List.mem_append_left _ (List.mem_append_left _ (List.mem_append_left _ (List.mem_append_left _ (List.mem_append_left _ (List.mem_append_left _ (List.mem_append_left _ (List.mem_append_right _ h)))))))))))) 6 rfl rfl 0 (by decide) (List.mem_of_getElem? (i := 1) rfl) (fun _ h9 => h9) rfl dX11_longest_19 ?_
      refine lv_iload_n hF.1 hF.2.1 dX11_longest_22 rfl (lv_at hl 3 rfl) ?_
      refine k_ci (r_V (As := [.int y]) hF hK hA hG (c_X9_has hI.w0) (cwV 1 hF.2.2.2.2 gX11_longest_X9_has rfl rfl rfl (by decide +kernel) ⟨Nat.le_of_ble_eq_true rfl, Nat.le_of_ble_eq_true rfl⟩) 7 rfl rfl rfl rfl hl.1 rfl (lv_room (Nat.le_of_ble_eq_true rfl)) dX11_longest_23 ⟨Nat.le_of_ble_eq_true rfl, Nat.le_of_ble_eq_true rfl⟩) hG (fun r_23 u_23 H locs hp_23 hG => ?_)
      subst hp_23
      refine lv_if_eq (tgt := 40) hF.1 hF.2.1 dX11_longest_26 (by decide) (fun c_26 => ?_) (fun c_26 => ?_)
      · --
        have n_26 : (inB n y) = false := b2i_z.mp c_26
        refine lv_iconst (v := (-1)) hF.1 hF.2.1 dX11_longest_40 (by decide +kernel) ?_
        exact hret _ (_, _, _, _, _, _, _, _, _, _, _, _, _, _, _, _, _, _, _, _) _ ls _ _ _ _ (by refine ⟨?_, ⟨⟨rfl, rfl⟩, ⟨rfl, rfl⟩, htk, hI, hJ, ⟨_, _, hM⟩, ⟨_, hX⟩⟩⟩; first | exact spLongest_f (lngOk_1 n_8) | exact spLongest_f (lngOk_2 n_15) | exact spLongest_f (lngOk_3 n_26) | exact spLongest_f (lngOk_4 (inB_l c_31)) | exact spLongest_f (lngOk_4 (in2_f c_37))) (by first | rfl | exact nar_b2i _) hG (Nat.le_of_ble_eq_true rfl) (Nat.le_of_ble_eq_true rfl) dX11_longest_41
      · --
        have n_26 : (inB n y) = true := b2i_nz.mp c_26
        refine lv_iload hF.1 hF.2.1 dX11_longest_29 (lv_at hl 4 rfl) ?_
        refine lv_if_lt (tgt := 40) hF.1 hF.2.1 dX11_longest_31 (by decide) (fun c_31 => ?_) (fun c_31 => ?_)
        · --
          refine lv_iconst (v := (-1)) hF.1 hF.2.1 dX11_longest_40 (by decide +kernel) ?_
          exact hret _ (_, _, _, _, _, _, _, _, _, _, _, _, _, _, _, _, _, _, _, _) _ ls _ _ _ _ (by refine ⟨?_, ⟨⟨rfl, rfl⟩, ⟨rfl, rfl⟩, htk, hI, hJ, ⟨_, _, hM⟩, ⟨_, hX⟩⟩⟩; first | exact spLongest_f (lngOk_1 n_8) | exact spLongest_f (lngOk_2 n_15) | exact spLongest_f (lngOk_3 n_26) | exact spLongest_f (lngOk_4 (inB_l c_31)) | exact spLongest_f (lngOk_4 (in2_f c_37))) (by first | rfl | exact nar_b2i _) hG (Nat.le_of_ble_eq_true rfl) (Nat.le_of_ble_eq_true rfl) dX11_longest_41
        · --
          refine lv_iload hF.1 hF.2.1 dX11_longest_34 (lv_at hl 4 rfl) ?_
          refine lv_iconst (v := (nI 1)) hF.1 hF.2.1 dX11_longest_36 (by decide +kernel) ?_
          refine lv_icmp_le (tgt := 42) hF.1 hF.2.1 dX11_longest_37 (by decide) (fun c_37 => ?_) (fun c_37 => ?_)
          · --
            have hw2 := in2_t c_31 c_37
            obtain ⟨i, hi, rfl⟩ := inB_ex (by omega) n_8
            obtain ⟨g, hg, rfl⟩ := inB_ex (by omega) n_15
            obtain ⟨j, hj, rfl⟩ := inB_ex (by omega) n_26
            have h2j : 2 ^ j < 64 := Nat.lt_of_lt_of_le (Nat.pow_lt_pow_right (by decide) hj) hp2
            refine lv_bipush (v := (-4)) hF.1 hF.2.1 dX11_longest_42 (by decide +kernel) ?_
            refine lv_istore (lv' := [(5, .int (-4)), (0, .ref (ob 6)), (1, .int (nI i)), (2, .int (nI g)), (3, .int (nI j)), (4, .int what)]) hF.1 hF.2.1 dX11_longest_44 hl (by decide) rfl (fun ls hl => ?_)
            refine lv_bipush (v := (-4)) hF.1 hF.2.1 dX11_longest_46 (by decide +kernel) ?_
            refine lv_istore (lv' := [(6, .int (-4)), (5, .int (-4)), (0, .ref (ob 6)), (1, .int (nI i)), (2, .int (nI g)), (3, .int (nI j)), (4, .int what)]) hF.1 hF.2.1 dX11_longest_48 hl (by decide) rfl (fun ls hl => ?_)
            refine lv_iconst (v := (nI 0)) hF.1 hF.2.1 dX11_longest_50 (by decide +kernel) ?_
            refine lv_istore (lv' := [(7, .int (nI 0)), (6, .int (-4)), (5, .int (-4)), (0, .ref (ob 6)), (1, .int (nI i)), (2, .int (nI g)), (3, .int (nI j)), (4, .int what)]) hF.1 hF.2.1 dX11_longest_51 hl (by decide) rfl (fun ls hl => ?_)
            have lp53 : ∀ (fuel : Nat), ∀ (k : Nat) (V : Nat → Int32) (nm om : Nat) (dm : Nat → Option Nat) (pl : va_W) (s0 s1 s2 s3 : Nat → Int32) (s4 : Nat → Int64) (s5 : Nat), (hk : k ≤ 8) → (hV : ∀ q, q < k → HAD n o (va_up kd i q) (va_up fg i g) (2 ^ j) (V q)) → (hlg : lngI V k) → (hIl : WI pl n o dr kd fg) → (hJl : WI pl n1 o1 dr1 kd1 fg1) → (hMl : ∃ k3 f3, WI pl nm om dm k3 f3) → (hXl : SX cA pl dk rk x P) → (8 - k) < fuel → ∀ (H : Heap) (locs : List Loc), Gd D A (XW cA ob s0 s1 s2 s3 s4 s5 n o dr n1 o1 dr1 nm om dm dk rk kt tk pl) s.heap H locs → ∀ ls : Array Slot, lv_has ls 9 [(0, .ref (ob 6)), (1, .int (nI i)), (2, .int (nI g)), (3, .int (nI j)), (4, .int what), (5, .int (lngU V k).1), (6, .int (lngU V k).2), (7, .int (nI k))] → W p l e rmX11_longest s m args below meth c H locs (k) (k) Q (F0 m 53 ls []) := by
              intro fuel
              induction fuel with
              | zero => intro k V nm om dm pl s0 s1 s2 s3 s4 s5 hk hV hlg hIl hJl hMl hXl hmu; exact absurd hmu (Nat.not_lt_zero _)
              | succ fuel ih53 =>
                intro k V nm om dm pl s0 s1 s2 s3 s4 s5 hk hV hlg hIl hJl hMl hXl hmu H locs hG ls hl
                refine lv_iload hF.1 hF.2.1 dX11_longest_53 (lv_at hl 7 rfl) ?_
                refine lv_bipush (v := (nI 8)) hF.1 hF.2.1 dX11_longest_55 (by decide +kernel) ?_
                refine lv_icmp_ge (tgt := 136) hF.1 hF.2.1 dX11_longest_57 (by decide) (fun c_57 => ?_) (fun c_57 => ?_)
                · --
                  have n_57 : 8 ≤ k := (nI_leI (a := 8) (b := k) (by omega) (by omega)).mp c_57
                  refine lv_iload hF.1 hF.2.1 dX11_longest_136 (lv_at hl 4 rfl) ?_
                  refine lv_if_ne (tgt := 146) hF.1 hF.2.1 dX11_longest_138 (by decide) (fun c_138 => ?_) (fun c_138 => ?_)
                  · --
                    replace c_138 : ¬ what = nI 0 := c_138
                    refine lv_iload hF.1 hF.2.1 dX11_longest_146 (lv_at hl 6 rfl) ?_
                    exact hret _ (_, _, _, _, _, _, _, _, _, _, _, _, _, _, _, _, _, _, _, _) _ ls _ _ _ _ (by obtain ⟨k3, f3, hMl⟩ := hMl; obtain rfl : k = 8 := (by omega); exact ⟨spLongest_t hn hi hg hj hw2 hV (by first | rw [if_pos c_138] | rw [if_neg c_138]), ⟨⟨rfl, rfl⟩, ⟨rfl, rfl⟩, htk, hIl, hJl, ⟨_, _, hMl⟩, ⟨_, hXl⟩⟩⟩) (by first | rfl | exact nar_b2i _) hG (by omega) (by omega) dX11_longest_148
                  · --
                    replace c_138 : what = nI 0 := c_138
                    refine lv_iload hF.1 hF.2.1 dX11_longest_141 (lv_at hl 5 rfl) ?_
                    refine lv_goto (tgt := 148) hF.1 hF.2.1 dX11_longest_143 (by decide) ?_
                    exact hret _ (_, _, _, _, _, _, _, _, _, _, _, _, _, _, _, _, _, _, _, _) _ ls _ _ _ _ (by obtain ⟨k3, f3, hMl⟩ := hMl; obtain rfl : k = 8 := (by omega); exact ⟨spLongest_t hn hi hg hj hw2 hV (by first | rw [if_pos c_138] | rw [if_neg c_138]), ⟨⟨rfl, rfl⟩, ⟨rfl, rfl⟩, htk, hIl, hJl, ⟨_, _, hMl⟩, ⟨_, hXl⟩⟩⟩) (by first | rfl | exact nar_b2i _) hG (by omega) (by omega) dX11_longest_148
                · --
                  have n_57 : ¬ (8 ≤ k) := fun zz9 => c_57 ((nI_leI (a := 8) (b := k) (by omega) (by omega)).mpr zz9)
                  obtain ⟨k3, f3, hMl⟩ := hMl
                  refine lv_aload_n hF.1 hF.2.1 dX11_longest_60 rfl (lv_at hl 0 rfl) ?_
                  refine k_get (C := RX11) (T := TX11) (N := 8) hF hK hG (fun _ h => List.mem_cons_of_mem _ (List.mem_append_left _ (List.mem_append_left _ (List.mem_append_left _ (List.mem_append_left _ (List.mem_append_left _ (List.mem_append_left _ (List.mem_append_left _ (List.mem_append_left _ (List.mem_append_left _ (List.mem_append_left _ (List.mem_append_right _ h)))))))))))) 6 rfl rfl 2 (by decide) (List.mem_of_getElem? (i := 2) rfl) (fun _ h9 => h9) rfl dX11_longest_61 ?_
                  refine lv_aload_n hF.1 hF.2.1 dX11_longest_64 rfl (lv_at hl 0 rfl) ?_
                  refine k_get (C := RX11) (T := TX11) (N := 8) hF hK hG (fun _ h => List.mem_cons_of_mem _ (List.mem_append_left _ (List.mem_append_left _ (List.mem_append_left _ (List.mem_append_left _ (List.mem_append_left _ (List.mem_append_left _ (List.mem_append_left _ (List.mem_append_left _ (List.mem_append_left _ (List.mem_append_left _ (List.mem_append_right _ h)))))))))))) 6 rfl rfl 0 (by decide) (List.mem_of_getElem? (i := 1) rfl) (fun _ h9 => h9) rfl dX11_longest_65 ?_
                  refine k_cv (r_V (As := [.ref (ob 7)]) hF hK hA hG (c_X9_takeFrom hMl.w2 hIl.w0 (fun h => absurd (hG.2.1.1 9 7 _ _ rfl rfl h) (by decide)) (fun h => absurd (hG.2.1.1 12 10 _ _ rfl rfl h) (by decide))) (cwV 1 hF.2.2.2.2 gX11_longest_X9_takeFrom rfl rfl rfl (by decide +kernel) ⟨Nat.le_of_ble_eq_true rfl, Nat.le_of_ble_eq_true rfl⟩) 9 rfl rfl rfl rfl hl.1 rfl (lv_room (Nat.le_of_ble_eq_true rfl)) dX11_longest_68 ⟨by show _ ≤ 8; omega, by show _ ≤ 8; omega⟩) hG (fun u_68 H locs hp_68 hG => ?_)
                  have hG : Gd D A (XW cA ob s0 s1 s2 s3 s4 s5 n o dr n1 o1 dr1 n o dr dk rk kt tk pl) s.heap H locs := hG
                  refine lv_aload_n hF.1 hF.2.1 dX11_longest_71 rfl (lv_at hl 0 rfl) ?_
                  refine k_get (C := RX11) (T := TX11) (N := 8) hF hK hG (fun _ h => List.mem_cons_of_mem _ (List.mem_append_left _ (List.mem_append_left _ (List.mem_append_left _ (List.mem_append_left _ (List.mem_append_left _ (List.mem_append_left _ (List.mem_append_left _ (List.mem_append_left _ (List.mem_append_left _ (List.mem_append_left _ (List.mem_append_right _ h)))))))))))) 6 rfl rfl 2 (by decide) (List.mem_of_getElem? (i := 2) rfl) (fun _ h9 => h9) rfl dX11_longest_72 ?_
                  refine lv_iload_n hF.1 hF.2.1 dX11_longest_75 rfl (lv_at hl 1 rfl) ?_
                  refine lv_iload hF.1 hF.2.1 dX11_longest_76 (lv_at hl 7 rfl) ?_
                  refine lv_iload_n hF.1 hF.2.1 dX11_longest_78 rfl (lv_at hl 2 rfl) ?_
                  refine k_cq (r_S (As := [.int (nI k), .int (nI g)]) hF hK hA hG (c_X11_made (show k < 8 by omega)) (cwS 2 hF.2.2.2.2 gX11_longest_X11_made rfl rfl rfl (by decide +kernel) ⟨Nat.le_of_ble_eq_true rfl, Nat.le_of_ble_eq_true rfl⟩) rfl hl.1 rfl (lv_room (Nat.le_of_ble_eq_true rfl)) dX11_longest_79 ⟨by show _ ≤ 8; omega, by show _ ≤ 8; omega⟩) hG (fun r_79 u_79 H locs hp_79 hG => ?_)
                  obtain rfl := hp_79
                  have hG : Gd D A (XW cA ob s0 s1 s2 s3 s4 s5 n o dr n1 o1 dr1 n o dr dk rk kt tk (pl ++ [(u_79, .inr (kcI k, [.int (nI g)]))])) s.heap H locs := hG
                  have hdn : DR (pl ++ [(u_79, .inr (kcI k, [.int (nI g)]))]) u_79 k g := ⟨by omega, hg, pl.length, at_last pl _⟩
                  show W p l e rmX11_longest s m args below meth c _ _ _ _ Q (F0 m 82 ls (.ref u_79 :: [.int (nI i), .ref (ob 9)]))
                  refine k_cv (r_V (As := [.int (nI i), .ref u_79]) hF hK hA hG (c_X9_replace hIl.push.w2 hdn.c16 hi) (cwV 2 hF.2.2.2.2 gX11_longest_X9_replace rfl rfl rfl (by decide +kernel) ⟨Nat.le_of_ble_eq_true rfl, Nat.le_of_ble_eq_true rfl⟩) 9 rfl rfl rfl rfl hl.1 rfl (lv_room (Nat.le_of_ble_eq_true rfl)) dX11_longest_82 ⟨by show _ ≤ 8; omega, by show _ ≤ 8; omega⟩) hG (fun u_82 H locs hp_82 hG => ?_)
                  have hG : Gd D A (XW cA ob s0 s1 s2 s3 s4 s5 n o dr n1 o1 dr1 n o (va_up dr i (some u_79)) dk rk kt tk (pl ++ [(u_79, .inr (kcI k, [.int (nI g)]))])) s.heap H locs := hG
                  have hMr := (hIl.push (l := [(u_79, .inr (kcI k, [.int (nI g)]))])).rep hi hdn
                  refine lv_aload_n hF.1 hF.2.1 dX11_longest_85 rfl (lv_at hl 0 rfl) ?_
                  refine k_get (C := RX11) (T := TX11) (N := 8) hF hK hG (fun _ h => List.mem_cons_of_mem _ (List.mem_append_left _ (List.mem_append_left _ (List.mem_append_left _ (List.mem_append_left _ (List.mem_append_left _ (List.mem_append_left _ (List.mem_append_left _ (List.mem_append_left _ (List.mem_append_left _ (List.mem_append_left _ (List.mem_append_right _ h)))))))))))) 6 rfl rfl 3 (by decide) (List.mem_of_getElem? (i := 3) rfl) (fun _ h9 => h9) rfl dX11_longest_86 ?_
                  refine lv_aload_n hF.1 hF.2.1 dX11_longest_89 rfl (lv_at hl 0 rfl) ?_
                  refine k_get (C := RX11) (T := TX11) (N := 8) hF hK hG (fun _ h => List.mem_cons_of_mem _ (List.mem_append_left _ (List.mem_append_left _ (List.mem_append_left _ (List.mem_append_left _ (List.mem_append_left _ (List.mem_append_left _ (List.mem_append_left _ (List.mem_append_left _ (List.mem_append_left _ (List.mem_append_left _ (List.mem_append_right _ h)))))))))))) 6 rfl rfl 2 (by decide) (List.mem_of_getElem? (i := 2) rfl) (fun _ h9 => h9) rfl dX11_longest_90 ?_
                  refine k_cv (r_V (As := [.ref (ob 9)]) hF hK hA hG (c_X10_learn hMr.w2) (cwV 1 hF.2.2.2.2 gX11_longest_X10_learn rfl rfl rfl (by decide +kernel) ⟨Nat.le_of_ble_eq_true rfl, Nat.le_of_ble_eq_true rfl⟩) 0 rfl rfl rfl rfl hl.1 rfl (lv_room (Nat.le_of_ble_eq_true rfl)) dX11_longest_93 ⟨by show _ ≤ 8; omega, by show _ ≤ 8; omega⟩) hG (fun u_93 H locs hp_93 hG => ?_)
                  have hG : Gd D A (XW cA ob u_93 s1 s2 s3 s4 s5 n o dr n1 o1 dr1 n o (va_up dr i (some u_79)) dk rk kt tk (pl ++ [(u_79, .inr (kcI k, [.int (nI g)]))])) s.heap H locs := hG
                  have hma : ∀ z, z < 64 → u_93 z = nI (maW n (va_up kd i k) (va_up fg i g) z) ∧ maW n (va_up kd i k) (va_up fg i g) z < 64 := fun z hz => ⟨hp_93 z hz, maW_lt hn⟩
                  refine lv_aload_n hF.1 hF.2.1 dX11_longest_96 rfl (lv_at hl 0 rfl) ?_
                  refine k_get (C := RX11) (T := TX11) (N := 8) hF hK hG (fun _ h => List.mem_cons_of_mem _ (List.mem_append_left _ (List.mem_append_left _ (List.mem_append_left _ (List.mem_append_left _ (List.mem_append_left _ (List.mem_append_left _ (List.mem_append_left _ (List.mem_append_left _ (List.mem_append_left _ (List.mem_append_left _ (List.mem_append_right _ h)))))))))))) 6 rfl rfl 3 (by decide) (List.mem_of_getElem? (i := 3) rfl) (fun _ h9 => h9) rfl dX11_longest_97 ?_
                  refine lv_aload_n hF.1 hF.2.1 dX11_longest_100 rfl (lv_at hl 0 rfl) ?_
                  refine k_get (C := RX11) (T := TX11) (N := 8) hF hK hG (fun _ h => List.mem_cons_of_mem _ (List.mem_append_left _ (List.mem_append_left _ (List.mem_append_left _ (List.mem_append_left _ (List.mem_append_left _ (List.mem_append_left _ (List.mem_append_left _ (List.mem_append_left _ (List.mem_append_left _ (List.mem_append_left _ (List.mem_append_right _ h)))))))))))) 6 rfl rfl 2 (by decide) (List.mem_of_getElem? (i := 2) rfl) (fun _ h9 => h9) rfl dX11_longest_101 ?_
                  refine k_get (C := RX9) (T := TX9) (N := 3) hF hK hG (fun _ h => List.mem_cons_of_mem _ (List.mem_append_left _ (List.mem_append_left _ (List.mem_append_left _ (List.mem_append_left _ (List.mem_append_left _ (List.mem_append_left _ (List.mem_append_left _ (List.mem_append_left _ (List.mem_append_left _ (List.mem_append_right _ h))))))))))) 9 rfl rfl 2 (by decide) (List.mem_of_getElem? (i := 4) rfl) (fun _ h9 => h9) rfl dX11_longest_104 ?_
                  refine lv_iconst (v := (nI 1)) hF.1 hF.2.1 dX11_longest_107 (by decide +kernel) ?_
                  refine lv_iload_n hF.1 hF.2.1 dX11_longest_108 rfl (lv_at hl 3 rfl) ?_
                  refine lv_ishl hF.1 hF.2.1 dX11_longest_109 ?_
                  rw [shl_1 (by omega)]
                  refine k_ci (r_V (As := [.int (nI o), .int (nI (2 ^ j))]) hF hK hA hG (c_X10_pullsToHave hma ho h2j) (cwV 2 hF.2.2.2.2 gX11_longest_X10_pullsToHave rfl rfl rfl (by decide +kernel) ⟨Nat.le_of_ble_eq_true rfl, Nat.le_of_ble_eq_true rfl⟩) 0 rfl rfl rfl rfl hl.1 rfl (lv_room (Nat.le_of_ble_eq_true rfl)) dX11_longest_110 ⟨by show _ ≤ 8; omega, by show _ ≤ 8; omega⟩) hG (fun r_110 u_110 H locs hp_110 hG => ?_)
                  have hG : Gd D A (XW cA ob u_93 u_110.1 u_110.2.1 u_110.2.2.1 u_110.2.2.2.1 u_110.2.2.2.2 n o dr n1 o1 dr1 n o (va_up dr i (some u_79)) dk rk kt tk (pl ++ [(u_79, .inr (kcI k, [.int (nI g)]))])) s.heap H locs := hG
                  have hv : HAD n o (va_up kd i k) (va_up fg i g) (2 ^ j) r_110 := by rw [hp_110]; exact find_had hn hI.2.1 h2j
                  have e0 : upd V k r_110 k = r_110 := pk_us
                  have e1 := lngU_up (V := V) (m := k) (v := r_110) k (Nat.le_refl k)
                  refine lv_istore (lv' := [(8, .int r_110), (0, .ref (ob 6)), (1, .int (nI i)), (2, .int (nI g)), (3, .int (nI j)), (4, .int what), (5, .int (lngU V k).1), (6, .int (lngU V k).2), (7, .int (nI k))]) hF.1 hF.2.1 dX11_longest_113 hl (by decide) rfl (fun ls hl => ?_)
                  refine lv_iload hF.1 hF.2.1 dX11_longest_115 (lv_at hl 0 rfl) ?_
                  refine lv_iload hF.1 hF.2.1 dX11_longest_117 (lv_at hl 7 rfl) ?_
                  refine lv_icmp_le (tgt := 130) hF.1 hF.2.1 dX11_longest_119 (by decide) (fun c_119 => ?_) (fun c_119 => ?_)
                  · --
                    have hst := lngU_skip (V := upd V k r_110) (k := k) (by rw [e0]; exact HAD_v hv) (by rw [lngI, e1]; exact hlg) (by rw [e0, e1]; exact c_119)
                    have hlg2 : lngI (upd V k r_110) (k + 1) := by unfold lngI; rw [hst, e1]; exact hlg
                    refine lv_iinc (v := (nI (k + 1))) (lv' := [(7, .int (nI (k + 1))), (8, .int r_110), (0, .ref (ob 6)), (1, .int (nI i)), (2, .int (nI g)), (3, .int (nI j)), (4, .int what), (5, .int (lngU V k).1), (6, .int (lngU V k).2)]) hF.1 hF.2.1 dX11_longest_130 hl (k := 8) rfl (nI_inc _ _) (by decide) rfl (fun ls hl => ?_)
                    refine lv_goto (tgt := 53) hF.1 hF.2.1 dX11_longest_133 (by decide) ?_
                    exact ih53 (k + 1) (upd V k r_110) (_) (_) (_) (_) (_) (_) (_) (_) (_) (_) (by omega) (lt_s (fun q h => by rw [pk_un (Nat.ne_of_lt h)]; exact hV q h) (by rw [pk_us]; exact hv)) hlg2 hIl.push hJl.push ⟨_, _, hMr⟩ hXl.push (by omega) _ _ hG ls (lv_sub hl [2, 3, 4, 5, 6, 7, 8, 0] (by first | (rw [hst, e1]; rfl) | (rw [hst.2, e0]; rfl)))
                  · --
                    have hst := lngU_take (V := upd V k r_110) (k := k) (by rw [e0]; exact HAD_v hv) (by rw [lngI, e1]; exact hlg) (by rw [e0, e1]; exact c_119)
                    have hlg2 : lngI (upd V k r_110) (k + 1) := by unfold lngI; rw [hst.2]; exact Or.inr ⟨nI_pos (by omega), hst.1⟩
                    refine lv_iload hF.1 hF.2.1 dX11_longest_122 (lv_at hl 0 rfl) ?_
                    refine lv_istore (lv' := [(6, .int r_110), (8, .int r_110), (0, .ref (ob 6)), (1, .int (nI i)), (2, .int (nI g)), (3, .int (nI j)), (4, .int what), (5, .int (lngU V k).1), (7, .int (nI k))]) hF.1 hF.2.1 dX11_longest_124 hl (by decide) rfl (fun ls hl => ?_)
                    refine lv_iload hF.1 hF.2.1 dX11_longest_126 (lv_at hl 8 rfl) ?_
                    refine lv_istore (lv' := [(5, .int (nI k)), (6, .int r_110), (8, .int r_110), (0, .ref (ob 6)), (1, .int (nI i)), (2, .int (nI g)), (3, .int (nI j)), (4, .int what), (7, .int (nI k))]) hF.1 hF.2.1 dX11_longest_128 hl (by decide) rfl (fun ls hl => ?_)
                    refine lv_iinc (v := (nI (k + 1))) (lv' := [(7, .int (nI (k + 1))), (5, .int (nI k)), (6, .int r_110), (8, .int r_110), (0, .ref (ob 6)), (1, .int (nI i)), (2, .int (nI g)), (3, .int (nI j)), (4, .int what)]) hF.1 hF.2.1 dX11_longest_130 hl (k := 8) rfl (nI_inc _ _) (by decide) rfl (fun ls hl => ?_)
                    refine lv_goto (tgt := 53) hF.1 hF.2.1 dX11_longest_133 (by decide) ?_
                    exact ih53 (k + 1) (upd V k r_110) (_) (_) (_) (_) (_) (_) (_) (_) (_) (_) (by omega) (lt_s (fun q h => by rw [pk_un (Nat.ne_of_lt h)]; exact hV q h) (by rw [pk_us]; exact hv)) hlg2 hIl.push hJl.push ⟨_, _, hMr⟩ hXl.push (by omega) _ _ hG ls (lv_sub hl [4, 5, 6, 7, 8, 1, 2, 0] (by first | (rw [hst, e1]; rfl) | (rw [hst.2, e0]; rfl)))
            exact lp53 _ (0) (fun _ => 0) (_) (_) (_) (_) (_) (_) (_) (_) (_) (_) (by omega) (fun q h => absurd h (Nat.not_lt_zero q)) (Or.inl ⟨rfl, rfl⟩) hI hJ ⟨_, _, hM⟩ hX (Nat.lt_succ_self _) _ _ hG ls (lv_sub hl [3, 4, 5, 6, 7, 2, 1, 0] rfl)
          · --
            refine lv_iconst (v := (-1)) hF.1 hF.2.1 dX11_longest_40 (by decide +kernel) ?_
            exact hret _ (_, _, _, _, _, _, _, _, _, _, _, _, _, _, _, _, _, _, _, _) _ ls _ _ _ _ (by refine ⟨?_, ⟨⟨rfl, rfl⟩, ⟨rfl, rfl⟩, htk, hI, hJ, ⟨_, _, hM⟩, ⟨_, hX⟩⟩⟩; first | exact spLongest_f (lngOk_1 n_8) | exact spLongest_f (lngOk_2 n_15) | exact spLongest_f (lngOk_3 n_26) | exact spLongest_f (lngOk_4 (inB_l c_31)) | exact spLongest_f (lngOk_4 (in2_f c_37))) (by first | rfl | exact nar_b2i _) hG (Nat.le_of_ble_eq_true rfl) (Nat.le_of_ble_eq_true rfl) dX11_longest_41

abbrev rmX11_freeInMind : Room := { frames := 2, cells := 0, slots := 0, locals := 43 }
set_option maxHeartbeats 4000000 in
set_option maxRecDepth 100000 in
theorem c_X11_freeInMind {l : Launch} {D : va_G} {cA : Nat → ClassId} {A : Nat → Prop}  {ob : Nat → Nat} {mb ss sh sp : Nat → Int32} {mt : Nat → Int64} {rc n o : Nat} {dr : Nat → Option Nat} {n1 o1 : Nat} {dr1 : Nat → Option Nat} {n2 o2 : Nat} {dr2 dk rk : Nat → Option Nat} {kt : Nat → Int32} {tk : Int32} {pool : va_W} {kd fg : Nat → Nat} (hI : WI pool n o dr kd fg) {kd2 fg2 : Nat → Nat} (hM : WI pool n2 o2 dr2 kd2 fg2) {b s_ : Nat} (hd : DR pool b 1 0) (hs : s_ < 64) : Met l yX11_freeInMind wsX11_freeInMind rmX11_freeInMind (va_Pc [.ref (ob 6), .int (nI s_), .ref b] (Pre D cA A (XW cA ob mb ss sh sp mt rc n o dr n1 o1 dr1 n2 o2 dr2 dk rk kt tk pool))) (va_Qv (fun (u : Nat → Option Nat) => WI pool n o u (frK kd s_ n) (frF fg s_ n)) (fun u t => Wd D A ((fun (u : Nat → Option Nat) => XW cA ob mb ss sh sp mt rc n o dr n1 o1 dr1 n o u dk rk kt tk pool) u) t) A) (0) (0) A := by
  refine k_ofv (S := Nat → Option Nat) (F := fun (u : Nat → Option Nat) => XW cA ob mb ss sh sp mt rc n o dr n1 o1 dr1 n o u dk rk kt tk pool) (cc := cX11_freeInMind) (maxL := 4) (by decide) rfl (Nat.le_of_ble_eq_true rfl) ?_
  intro p e s m args below meth c Q hF hini hK hA hG hret ls hl
  have hl : lv_has ls 4 [(0, .ref (ob 6)), (1, .int (nI s_)), (2, .ref b)] := hl
  have hn : n ≤ 6 := hI.1
  have ho : o < 64 := hI.o64
  have hp2 : 2 ^ n ≤ 64 := Nat.pow_le_pow_right (by decide) hn
  have hp1 : 1 ≤ 2 ^ n := Nat.one_le_two_pow
  refine lv_aload_n hF.1 hF.2.1 dX11_freeInMind_0 rfl (lv_at hl 0 rfl) ?_
  refine k_get (C := RX11) (T := TX11) (N := 8) hF hK hG (fun _ h => List.mem_cons_of_mem _ (List.mem_append_left _ (List.mem_append_right _ h))) 6 rfl rfl 2 (by decide) (List.mem_of_getElem? (i := 1) rfl) (fun _ h9 => h9) rfl dX11_freeInMind_1 ?_
  refine lv_aload_n hF.1 hF.2.1 dX11_freeInMind_4 rfl (lv_at hl 0 rfl) ?_
  refine k_get (C := RX11) (T := TX11) (N := 8) hF hK hG (fun _ h => List.mem_cons_of_mem _ (List.mem_append_left _ (List.mem_append_right _ h))) 6 rfl rfl 0 (by decide) (List.mem_of_getElem? (i := 2) rfl) (fun _ h9 => h9) rfl dX11_freeInMind_5 ?_
  refine k_cv (r_V (As := [.ref (ob 7)]) hF hK hA hG (c_X9_takeFrom hM.w2 hI.w0 (fun h => absurd (hG.2.1.1 9 7 _ _ rfl rfl h) (by decide)) (fun h => absurd (hG.2.1.1 12 10 _ _ rfl rfl h) (by decide))) (cwV 1 hF.2.2.2.2 gX11_freeInMind_X9_takeFrom rfl rfl rfl (by decide +kernel) ⟨Nat.le_of_ble_eq_true rfl, Nat.le_of_ble_eq_true rfl⟩) 9 rfl rfl rfl rfl hl.1 rfl (lv_room (Nat.le_of_ble_eq_true rfl)) dX11_freeInMind_8 ⟨Nat.le_of_ble_eq_true rfl, Nat.le_of_ble_eq_true rfl⟩) hG (fun u_8 H locs hp_8 hG => ?_)
  have hG : Gd D A (XW cA ob mb ss sh sp mt rc n o dr n1 o1 dr1 n o dr dk rk kt tk pool) s.heap H locs := hG
  refine lv_iconst (v := (nI 0)) hF.1 hF.2.1 dX11_freeInMind_11 (by decide +kernel) ?_
  refine lv_istore_n (lv' := [(3, .int (nI 0)), (0, .ref (ob 6)), (1, .int (nI s_)), (2, .ref b)]) hF.1 hF.2.1 dX11_freeInMind_12 rfl hl (by decide) rfl (fun ls hl => ?_)
  have lp13 : ∀ (fuel : Nat), ∀ (i : Nat) (dm : Nat → Option Nat), (hi : i ≤ n) → (hMi : WI pool n o dm (frK kd s_ i) (frF fg s_ i)) → (n - i) < fuel → ∀ (H : Heap) (locs : List Loc), Gd D A (XW cA ob mb ss sh sp mt rc n o dr n1 o1 dr1 n o dm dk rk kt tk pool) s.heap H locs → ∀ ls : Array Slot, lv_has ls 4 [(0, .ref (ob 6)), (1, .int (nI s_)), (2, .ref b), (3, .int (nI i))] → W p l e rmX11_freeInMind s m args below meth c H locs (0) (0) Q (F0 m 13 ls []) := by
    intro fuel
    induction fuel with
    | zero => intro i dm hi hMi hmu; exact absurd hmu (Nat.not_lt_zero _)
    | succ fuel ih13 =>
      intro i dm hi hMi hmu H locs hG ls hl
      refine lv_iload_n hF.1 hF.2.1 dX11_freeInMind_13 rfl (lv_at hl 3 rfl) ?_
      refine lv_aload_n hF.1 hF.2.1 dX11_freeInMind_14 rfl (lv_at hl 0 rfl) ?_
      refine k_get (C := RX11) (T := TX11) (N := 8) hF hK hG (fun _ h => List.mem_cons_of_mem _ (List.mem_append_left _ (List.mem_append_right _ h))) 6 rfl rfl 0 (by decide) (List.mem_of_getElem? (i := 2) rfl) (fun _ h9 => h9) rfl dX11_freeInMind_15 ?_
      refine k_get (C := RX9) (T := TX9) (N := 3) hF hK hG (fun _ h => List.mem_cons_of_mem _ (List.mem_append_right _ h)) 7 rfl rfl 1 (by decide) (List.mem_of_getElem? (i := 3) rfl) (fun _ h9 => h9) rfl dX11_freeInMind_18 ?_
      refine lv_icmp_ge (tgt := 47) hF.1 hF.2.1 dX11_freeInMind_21 (by decide) (fun c_21 => ?_) (fun c_21 => ?_)
      · --
        have n_21 : n ≤ i := (nI_leI (a := n) (b := i) (by omega) (by omega)).mp c_21
        exact hret dm _ ls _ _ _ _ (by obtain rfl : i = n := (by omega); exact hMi) hG (Nat.le_of_ble_eq_true rfl) (Nat.le_of_ble_eq_true rfl) dX11_freeInMind_47
      · --
        have n_21 : ¬ (n ≤ i) := fun zz9 => c_21 ((nI_leI (a := n) (b := i) (by omega) (by omega)).mpr zz9)
        refine lv_iload_n hF.1 hF.2.1 dX11_freeInMind_24 rfl (lv_at hl 1 rfl) ?_
        refine lv_iload_n hF.1 hF.2.1 dX11_freeInMind_25 rfl (lv_at hl 3 rfl) ?_
        refine k_ci (r_S (As := [.int (nI s_), .int (nI i)]) hF hK hA hG (c_X11_isOpen hs (show i < 64 by omega)) (cwS 2 hF.2.2.2.2 gX11_freeInMind_X11_isOpen rfl rfl rfl (by decide +kernel) ⟨Nat.le_of_ble_eq_true rfl, Nat.le_of_ble_eq_true rfl⟩) rfl hl.1 rfl (lv_room (Nat.le_of_ble_eq_true rfl)) dX11_freeInMind_26 ⟨Nat.le_of_ble_eq_true rfl, Nat.le_of_ble_eq_true rfl⟩) hG (fun r_26 u_26 H locs hp_26 hG => ?_)
        subst hp_26
        refine lv_if_eq (tgt := 41) hF.1 hF.2.1 dX11_freeInMind_29 (by decide) (fun c_29 => ?_) (fun c_29 => ?_)
        · --
          have n_29 : ((decide (i < 6) && s_.testBit i)) = false := b2i_z.mp c_29
          rw [decide_eq_true (show i < 6 by omega), Bool.true_and] at n_29
          refine lv_iinc (v := (nI (i + 1))) (lv' := [(3, .int (nI (i + 1))), (0, .ref (ob 6)), (1, .int (nI s_)), (2, .ref b)]) hF.1 hF.2.1 dX11_freeInMind_41 hl (k := 3) rfl (nI_inc _ _) (by decide) rfl (fun ls hl => ?_)
          refine lv_goto (tgt := 13) hF.1 hF.2.1 dX11_freeInMind_44 (by decide) ?_
          exact ih13 (i + 1) (_) (by omega) (by first | (rw [← frK_t n_29, ← frF_t n_29]; exact hMi.rep (by omega) hd) | (rw [← frK_f n_29, ← frF_f n_29]; exact hMi)) (by omega) _ _ hG ls (lv_sub hl [1, 2, 3, 0] rfl)
        · --
          have n_29 : ((decide (i < 6) && s_.testBit i)) = true := b2i_nz.mp c_29
          rw [decide_eq_true (show i < 6 by omega), Bool.true_and] at n_29
          refine lv_aload_n hF.1 hF.2.1 dX11_freeInMind_32 rfl (lv_at hl 0 rfl) ?_
          refine k_get (C := RX11) (T := TX11) (N := 8) hF hK hG (fun _ h => List.mem_cons_of_mem _ (List.mem_append_left _ (List.mem_append_right _ h))) 6 rfl rfl 2 (by decide) (List.mem_of_getElem? (i := 1) rfl) (fun _ h9 => h9) rfl dX11_freeInMind_33 ?_
          refine lv_iload_n hF.1 hF.2.1 dX11_freeInMind_36 rfl (lv_at hl 3 rfl) ?_
          refine lv_aload_n hF.1 hF.2.1 dX11_freeInMind_37 rfl (lv_at hl 2 rfl) ?_
          refine k_cv (r_V (As := [.int (nI i), .ref b]) hF hK hA hG (c_X9_replace hMi.w2 hd.c16 (show i < n by omega)) (cwV 2 hF.2.2.2.2 gX11_freeInMind_X9_replace rfl rfl rfl (by decide +kernel) ⟨Nat.le_of_ble_eq_true rfl, Nat.le_of_ble_eq_true rfl⟩) 9 rfl rfl rfl rfl hl.1 rfl (lv_room (Nat.le_of_ble_eq_true rfl)) dX11_freeInMind_38 ⟨Nat.le_of_ble_eq_true rfl, Nat.le_of_ble_eq_true rfl⟩) hG (fun u_38 H locs hp_38 hG => ?_)
          have hG : Gd D A (XW cA ob mb ss sh sp mt rc n o dr n1 o1 dr1 n o (va_up dm i (some b)) dk rk kt tk pool) s.heap H locs := hG
          refine lv_iinc (v := (nI (i + 1))) (lv' := [(3, .int (nI (i + 1))), (0, .ref (ob 6)), (1, .int (nI s_)), (2, .ref b)]) hF.1 hF.2.1 dX11_freeInMind_41 hl (k := 3) rfl (nI_inc _ _) (by decide) rfl (fun ls hl => ?_)
          refine lv_goto (tgt := 13) hF.1 hF.2.1 dX11_freeInMind_44 (by decide) ?_
          exact ih13 (i + 1) (_) (by omega) (by first | (rw [← frK_t n_29, ← frF_t n_29]; exact hMi.rep (by omega) hd) | (rw [← frK_f n_29, ← frF_f n_29]; exact hMi)) (by omega) _ _ hG ls (lv_sub hl [1, 2, 3, 0] rfl)
  exact lp13 _ (0) (_) (by omega) (by rw [fr_0, fr_0F]; exact hI) (Nat.lt_succ_self _) _ _ hG ls (lv_sub hl [1, 2, 3, 0] rfl)

abbrev rmX11_freed : Room := { frames := 6, cells := 1, slots := 1, locals := 134 }
set_option maxHeartbeats 4000000 in
set_option maxRecDepth 100000 in
theorem c_X11_freed {l : Launch} {D : va_G} {cA : Nat → ClassId} {A : Nat → Prop}  {ob : Nat → Nat} {mb ss sh sp : Nat → Int32} {mt : Nat → Int64} {rc n o : Nat} {dr : Nat → Option Nat} {n1 o1 : Nat} {dr1 : Nat → Option Nat} {n2 o2 : Nat} {dr2 dk rk : Nat → Option Nat} {kt : Nat → Int32} {tk : Int32} {pool : va_W} {kd fg : Nat → Nat} (hI : WI pool n o dr kd fg) {kd1 fg1 : Nat → Nat} (hJ : WI pool n1 o1 dr1 kd1 fg1) {kd2 fg2 : Nat → Nat} (hM : WI pool n2 o2 dr2 kd2 fg2) {x : Nat → Sf} {P : Nat → Nat} (hX : SX cA pool dk rk x P) {tkb : Bool} (htk : tk = b2i tkb) {t : Int32} : Met l yX11_freed wsX11_freed rmX11_freed (va_Pc [.ref (ob 6), .int t] (Pre D cA A (XW cA ob mb ss sh sp mt rc n o dr n1 o1 dr1 n2 o2 dr2 dk rk kt tk pool))) (va_Qi (fun r (u : XS) => (spFreed n o kd fg t r) ∧ XI cA u (n, o, kd, fg) (n1, o1, kd1, fg1) tkb x) (fun u t => Wd D A ((fun (u : XS) => XV cA ob u) u) t) A) (1) (1) A := by
  refine k_ofi (S := XS) (F := fun (u : XS) => XV cA ob u) (cc := cX11_freed) (maxL := 5) (by decide) rfl (Nat.le_of_ble_eq_true rfl) ?_
  intro p e s m args below meth c Q hF hini hK hA hG hret ls hl
  have hl : lv_has ls 5 [(0, .ref (ob 6)), (1, .int t)] := hl
  have hn : n ≤ 6 := hI.1
  have ho : o < 64 := hI.o64
  have hp2 : 2 ^ n ≤ 64 := Nat.pow_le_pow_right (by decide) hn
  have hp1 : 1 ≤ 2 ^ n := Nat.one_le_two_pow
  refine lv_aload_n hF.1 hF.2.1 dX11_freed_0 rfl (lv_at hl 0 rfl) ?_
  refine k_get (C := RX11) (T := TX11) (N := 8) hF hK hG (fun _ h => List.mem_cons_of_mem _ (List.mem_append_left _ (List.mem_append_left _ (List.mem_append_left _ (List.mem_append_left _ (List.mem_append_left _ (List.mem_append_left _ (List.mem_append_left _ (List.mem_append_left _ (List.mem_append_left _ (List.mem_append_left _ (List.mem_append_right _ h)))))))))))) 6 rfl rfl 0 (by decide) (List.mem_of_getElem? (i := 1) rfl) (fun _ h9 => h9) rfl dX11_freed_1 ?_
  refine lv_iload_n hF.1 hF.2.1 dX11_freed_4 rfl (lv_at hl 1 rfl) ?_
  refine k_ci (r_V (As := [.int t]) hF hK hA hG (c_X9_canStand hI.w0) (cwV 1 hF.2.2.2.2 gX11_freed_X9_canStand rfl rfl rfl (by decide +kernel) ⟨Nat.le_of_ble_eq_true rfl, Nat.le_of_ble_eq_true rfl⟩) 7 rfl rfl rfl rfl hl.1 rfl (lv_room (Nat.le_of_ble_eq_true rfl)) dX11_freed_5 ⟨Nat.le_of_ble_eq_true rfl, Nat.le_of_ble_eq_true rfl⟩) hG (fun r_5 u_5 H locs hp_5 hG => ?_)
  subst hp_5
  refine lv_if_ne (tgt := 13) hF.1 hF.2.1 dX11_freed_8 (by decide) (fun c_8 => ?_) (fun c_8 => ?_)
  · --
    have n_8 : (inB (2 ^ n) t) = true := b2i_nz.mp c_8
    obtain ⟨j, hj, rfl⟩ := inB_ex (by omega) n_8
    refine lv_iconst (v := (nI 1)) hF.1 hF.2.1 dX11_freed_13 (by decide +kernel) ?_
    refine lv_iconst (v := (nI 0)) hF.1 hF.2.1 dX11_freed_14 (by decide +kernel) ?_
    refine k_cq (r_S (As := [.int (nI 1), .int (nI 0)]) hF hK hA hG (c_X11_made (show 1 < 8 by decide)) (cwS 2 hF.2.2.2.2 gX11_freed_X11_made rfl rfl rfl (by decide +kernel) ⟨Nat.le_of_ble_eq_true rfl, Nat.le_of_ble_eq_true rfl⟩) rfl hl.1 rfl (lv_room (Nat.le_of_ble_eq_true rfl)) dX11_freed_15 ⟨Nat.le_of_ble_eq_true rfl, Nat.le_of_ble_eq_true rfl⟩) hG (fun r_15 u_15 H locs hp_15 hG => ?_)
    obtain rfl := hp_15
    have hG : Gd D A (XW cA ob mb ss sh sp mt rc n o dr n1 o1 dr1 n2 o2 dr2 dk rk kt tk (pool ++ [(u_15, .inr (kcI 1, [.int (nI 0)]))])) s.heap H locs := hG
    have hdf : DR (pool ++ [(u_15, .inr (kcI 1, [.int (nI 0)]))]) u_15 1 0 := ⟨by decide, by decide, pool.length, at_last pool _⟩
    have hIp : WI (pool ++ [(u_15, .inr (kcI 1, [.int (nI 0)]))]) n o dr kd fg := hI.push
    show W p l e rmX11_freed s m args below meth c _ _ _ _ Q (F0 m 18 ls (.ref u_15 :: []))
    refine lv_astore_n (lv' := [(2, .ref u_15), (0, .ref (ob 6)), (1, .int (nI j))]) hF.1 hF.2.1 dX11_freed_18 rfl hl (by decide) rfl (fun ls hl => ?_)
    refine lv_iconst (v := (nI 0)) hF.1 hF.2.1 dX11_freed_19 (by decide +kernel) ?_
    refine lv_istore_n (lv' := [(3, .int (nI 0)), (2, .ref u_15), (0, .ref (ob 6)), (1, .int (nI j))]) hF.1 hF.2.1 dX11_freed_20 rfl hl (by decide) rfl (fun ls hl => ?_)
    have lp21 : ∀ (fuel : Nat), ∀ (many : Nat) (nm om : Nat) (dm : Nat → Option Nat) (s0 s1 s2 s3 : Nat → Int32) (s4 : Nat → Int64) (s5 : Nat), (hmany : many ≤ n + 1) → (hno : ∀ s, s < 2 ^ n → cnt s < many → ¬ REA n o kd fg j s) → (hMf : ∃ k3 f3, WI (pool ++ [(u_15, .inr (kcI 1, [.int (nI 0)]))]) nm om dm k3 f3) → (n + 1 - many) < fuel → ∀ (H : Heap) (locs : List Loc), Gd D A (XW cA ob s0 s1 s2 s3 s4 s5 n o dr n1 o1 dr1 nm om dm dk rk kt tk (pool ++ [(u_15, .inr (kcI 1, [.int (nI 0)]))])) s.heap H locs → ∀ ls : Array Slot, lv_has ls 5 [(0, .ref (ob 6)), (1, .int (nI j)), (2, .ref u_15), (3, .int (nI many))] → W p l e rmX11_freed s m args below meth c H locs (1) (1) Q (F0 m 21 ls []) := by
      intro fuel
      induction fuel with
      | zero => intro many nm om dm s0 s1 s2 s3 s4 s5 hmany hno hMf hmu; exact absurd hmu (Nat.not_lt_zero _)
      | succ fuel ih21 =>
        intro many nm om dm s0 s1 s2 s3 s4 s5 hmany hno hMf hmu H locs hG ls hl
        refine lv_iload_n hF.1 hF.2.1 dX11_freed_21 rfl (lv_at hl 3 rfl) ?_
        refine lv_aload_n hF.1 hF.2.1 dX11_freed_22 rfl (lv_at hl 0 rfl) ?_
        refine k_get (C := RX11) (T := TX11) (N := 8) hF hK hG (fun _ h => List.mem_cons_of_mem _ (List.mem_append_left _ (List.mem_append_left _ (List.mem_append_left _ (List.mem_append_left _ (List.mem_append_left _ (List.mem_append_left _ (List.mem_append_left _ (List.mem_append_left _ (List.mem_append_left _ (List.mem_append_left _ (List.mem_append_right _ h)))))))))))) 6 rfl rfl 0 (by decide) (List.mem_of_getElem? (i := 1) rfl) (fun _ h9 => h9) rfl dX11_freed_23 ?_
        refine k_get (C := RX9) (T := TX9) (N := 3) hF hK hG (fun _ h => List.mem_cons_of_mem _ (List.mem_append_left _ (List.mem_append_left _ (List.mem_append_left _ (List.mem_append_left _ (List.mem_append_left _ (List.mem_append_left _ (List.mem_append_left _ (List.mem_append_left _ (List.mem_append_left _ (List.mem_append_right _ h))))))))))) 7 rfl rfl 1 (by decide) (List.mem_of_getElem? (i := 2) rfl) (fun _ h9 => h9) rfl dX11_freed_26 ?_
        refine lv_icmp_gt (tgt := 107) hF.1 hF.2.1 dX11_freed_29 (by decide) (fun c_29 => ?_) (fun c_29 => ?_)
        · --
          have n_29 : n < many := (nI_ltI (a := n) (b := many) (by omega) (by omega)).mp c_29
          exact absurd (REA_all (kd := kd) (fg := fg) hn hI.2.1 hj) (hno _ (show 2 ^ n - 1 < 2 ^ n by omega) (by rw [cnt_full (by omega)]; omega))
        · --
          have n_29 : ¬ (n < many) := fun zz9 => c_29 ((nI_ltI (a := n) (b := many) (by omega) (by omega)).mpr zz9)
          refine lv_iconst (v := (nI 0)) hF.1 hF.2.1 dX11_freed_32 (by decide +kernel) ?_
          refine lv_istore (lv' := [(4, .int (nI 0)), (0, .ref (ob 6)), (1, .int (nI j)), (2, .ref u_15), (3, .int (nI many))]) hF.1 hF.2.1 dX11_freed_33 hl (by decide) rfl (fun ls hl => ?_)
          have lp35 : ∀ (fuel : Nat), ∀ (s_ : Nat) (nm om : Nat) (dm : Nat → Option Nat) (s0 s1 s2 s3 : Nat → Int32) (s4 : Nat → Int64) (s5 : Nat), (hs : s_ ≤ 2 ^ n) → (hin : ∀ t, t < s_ → cnt t = many → ¬ REA n o kd fg j t) → (hMf : ∃ k3 f3, WI (pool ++ [(u_15, .inr (kcI 1, [.int (nI 0)]))]) nm om dm k3 f3) → (2 ^ n - s_) < fuel → ∀ (H : Heap) (locs : List Loc), Gd D A (XW cA ob s0 s1 s2 s3 s4 s5 n o dr n1 o1 dr1 nm om dm dk rk kt tk (pool ++ [(u_15, .inr (kcI 1, [.int (nI 0)]))])) s.heap H locs → ∀ ls : Array Slot, lv_has ls 5 [(0, .ref (ob 6)), (1, .int (nI j)), (2, .ref u_15), (3, .int (nI many)), (4, .int (nI s_))] → W p l e rmX11_freed s m args below meth c H locs (1) (1) Q (F0 m 35 ls []) := by
            intro fuel
            induction fuel with
            | zero => intro s_ nm om dm s0 s1 s2 s3 s4 s5 hs hin hMf hmu; exact absurd hmu (Nat.not_lt_zero _)
            | succ fuel ih35 =>
              intro s_ nm om dm s0 s1 s2 s3 s4 s5 hs hin hMf hmu H locs hG ls hl
              refine lv_iload hF.1 hF.2.1 dX11_freed_35 (lv_at hl 4 rfl) ?_
              refine lv_aload_n hF.1 hF.2.1 dX11_freed_37 rfl (lv_at hl 0 rfl) ?_
              refine k_get (C := RX11) (T := TX11) (N := 8) hF hK hG (fun _ h => List.mem_cons_of_mem _ (List.mem_append_left _ (List.mem_append_left _ (List.mem_append_left _ (List.mem_append_left _ (List.mem_append_left _ (List.mem_append_left _ (List.mem_append_left _ (List.mem_append_left _ (List.mem_append_left _ (List.mem_append_left _ (List.mem_append_right _ h)))))))))))) 6 rfl rfl 0 (by decide) (List.mem_of_getElem? (i := 1) rfl) (fun _ h9 => h9) rfl dX11_freed_38 ?_
              refine k_ci (r_V (As := []) hF hK hA hG (c_X9_allBits hIp.w0) (cwV 0 hF.2.2.2.2 gX11_freed_X9_allBits rfl rfl rfl (by decide +kernel) ⟨Nat.le_of_ble_eq_true rfl, Nat.le_of_ble_eq_true rfl⟩) 7 rfl rfl rfl rfl hl.1 rfl (lv_room (Nat.le_of_ble_eq_true rfl)) dX11_freed_41 ⟨Nat.le_of_ble_eq_true rfl, Nat.le_of_ble_eq_true rfl⟩) hG (fun r_41 u_41 H locs hp_41 hG => ?_)
              subst hp_41
              refine lv_icmp_gt (tgt := 101) hF.1 hF.2.1 dX11_freed_44 (by decide) (fun c_44 => ?_) (fun c_44 => ?_)
              · --
                have n_44 : 2 ^ n - 1 < s_ := (nI_ltI (a := 2 ^ n - 1) (b := s_) (by omega) (by omega)).mp c_44
                refine lv_iinc (v := (nI (many + 1))) (lv' := [(3, .int (nI (many + 1))), (0, .ref (ob 6)), (1, .int (nI j)), (2, .ref u_15), (4, .int (nI s_))]) hF.1 hF.2.1 dX11_freed_101 hl (k := 3) rfl (nI_inc _ _) (by decide) rfl (fun ls hl => ?_)
                refine lv_goto (tgt := 21) hF.1 hF.2.1 dX11_freed_104 (by decide) ?_
                exact ih21 (many + 1) (_) (_) (_) (_) (_) (_) (_) (_) (_) (by omega) (fun s h1 h2 => by by_cases q : cnt s < many; exact hno s h1 q; exact hin s (by omega) (by omega)) hMf (by omega) _ _ hG ls (lv_sub hl [1, 2, 3, 0] rfl)
              · --
                have n_44 : ¬ (2 ^ n - 1 < s_) := fun zz9 => c_44 ((nI_ltI (a := 2 ^ n - 1) (b := s_) (by omega) (by omega)).mpr zz9)
                refine lv_iload hF.1 hF.2.1 dX11_freed_47 (lv_at hl 4 rfl) ?_
                refine k_ci (r_S (As := [.int (nI s_)]) hF hK hA hG (c_J6_bitCount_0f7a4 (show s_ < 256 by omega)) (va_cwS 1 hF.2.2.2.2 gX11_freed_J6_bitCount_0f7a4 rfl rfl rfl (by decide +kernel) ⟨Nat.le_of_ble_eq_true rfl, Nat.le_of_ble_eq_true rfl⟩) rfl hl.1 rfl (lv_room (Nat.le_of_ble_eq_true rfl)) dX11_freed_49 ⟨Nat.le_of_ble_eq_true rfl, Nat.le_of_ble_eq_true rfl⟩) hG (fun r_49 u_49 H locs hp_49 hG => ?_)
                subst hp_49
                refine lv_iload_n hF.1 hF.2.1 dX11_freed_52 rfl (lv_at hl 3 rfl) ?_
                have hcs := cnt_lt (st := s_) (by omega)
                refine lv_icmp_ne (tgt := 95) hF.1 hF.2.1 dX11_freed_53 (by decide) (fun c_53 => ?_) (fun c_53 => ?_)
                · --
                  have n_53 : ¬ (cnt s_ = many) := fun zz9 => c_53 ((nI_eq (a := cnt s_) (b := many) (by omega) (by omega)).mpr zz9)
                  have hnx : cnt s_ = many → ¬ REA n o kd fg j s_ := fun a => absurd a n_53
                  refine lv_iinc (v := (nI (s_ + 1))) (lv' := [(4, .int (nI (s_ + 1))), (0, .ref (ob 6)), (1, .int (nI j)), (2, .ref u_15), (3, .int (nI many))]) hF.1 hF.2.1 dX11_freed_95 hl (k := 4) rfl (nI_inc _ _) (by decide) rfl (fun ls hl => ?_)
                  refine lv_goto (tgt := 35) hF.1 hF.2.1 dX11_freed_98 (by decide) ?_
                  exact ih35 (s_ + 1) (_) (_) (_) (_) (_) (_) (_) (_) (_) (by omega) (lt_s hin hnx) (by first | exact hMf | exact ⟨_, _, hp_60⟩) (by omega) _ _ hG ls (lv_sub hl [1, 2, 3, 4, 0] rfl)
                · --
                  have n_53 : cnt s_ = many := (nI_eq (a := cnt s_) (b := many) (by omega) (by omega)).mp c_53
                  obtain ⟨k3, f3, hMf⟩ := hMf
                  refine lv_aload_n hF.1 hF.2.1 dX11_freed_56 rfl (lv_at hl 0 rfl) ?_
                  refine lv_iload hF.1 hF.2.1 dX11_freed_57 (lv_at hl 4 rfl) ?_
                  refine lv_aload_n hF.1 hF.2.1 dX11_freed_59 rfl (lv_at hl 2 rfl) ?_
                  refine k_cv (r_V (As := [.int (nI s_), .ref u_15]) hF hK hA hG (c_X11_freeInMind hIp hMf hdf (show s_ < 64 by omega)) (cwV 2 hF.2.2.2.2 gX11_freed_X11_freeInMind rfl rfl rfl (by decide +kernel) ⟨Nat.le_of_ble_eq_true rfl, Nat.le_of_ble_eq_true rfl⟩) 6 rfl rfl rfl rfl hl.1 rfl (lv_room (Nat.le_of_ble_eq_true rfl)) dX11_freed_60 ⟨Nat.le_of_ble_eq_true rfl, Nat.le_of_ble_eq_true rfl⟩) hG (fun u_60 H locs hp_60 hG => ?_)
                  have hG : Gd D A (XW cA ob s0 s1 s2 s3 s4 s5 n o dr n1 o1 dr1 n o u_60 dk rk kt tk (pool ++ [(u_15, .inr (kcI 1, [.int (nI 0)]))])) s.heap H locs := hG
                  refine lv_aload_n hF.1 hF.2.1 dX11_freed_63 rfl (lv_at hl 0 rfl) ?_
                  refine k_get (C := RX11) (T := TX11) (N := 8) hF hK hG (fun _ h => List.mem_cons_of_mem _ (List.mem_append_left _ (List.mem_append_left _ (List.mem_append_left _ (List.mem_append_left _ (List.mem_append_left _ (List.mem_append_left _ (List.mem_append_left _ (List.mem_append_left _ (List.mem_append_left _ (List.mem_append_left _ (List.mem_append_right _ h)))))))))))) 6 rfl rfl 3 (by decide) (List.mem_of_getElem? (i := 3) rfl) (fun _ h9 => h9) rfl dX11_freed_64 ?_
                  refine lv_aload_n hF.1 hF.2.1 dX11_freed_67 rfl (lv_at hl 0 rfl) ?_
                  refine k_get (C := RX11) (T := TX11) (N := 8) hF hK hG (fun _ h => List.mem_cons_of_mem _ (List.mem_append_left _ (List.mem_append_left _ (List.mem_append_left _ (List.mem_append_left _ (List.mem_append_left _ (List.mem_append_left _ (List.mem_append_left _ (List.mem_append_left _ (List.mem_append_left _ (List.mem_append_left _ (List.mem_append_right _ h)))))))))))) 6 rfl rfl 2 (by decide) (List.mem_of_getElem? (i := 4) rfl) (fun _ h9 => h9) rfl dX11_freed_68 ?_
                  refine k_cv (r_V (As := [.ref (ob 9)]) hF hK hA hG (c_X10_learn hp_60.w2) (cwV 1 hF.2.2.2.2 gX11_freed_X10_learn rfl rfl rfl (by decide +kernel) ⟨Nat.le_of_ble_eq_true rfl, Nat.le_of_ble_eq_true rfl⟩) 0 rfl rfl rfl rfl hl.1 rfl (lv_room (Nat.le_of_ble_eq_true rfl)) dX11_freed_71 ⟨Nat.le_of_ble_eq_true rfl, Nat.le_of_ble_eq_true rfl⟩) hG (fun u_71 H locs hp_71 hG => ?_)
                  have hG : Gd D A (XW cA ob u_71 s1 s2 s3 s4 s5 n o dr n1 o1 dr1 n o u_60 dk rk kt tk (pool ++ [(u_15, .inr (kcI 1, [.int (nI 0)]))])) s.heap H locs := hG
                  have hma : ∀ z, z < 64 → u_71 z = nI (maW n (frK kd s_ n) (frF fg s_ n) z) ∧ maW n (frK kd s_ n) (frF fg s_ n) z < 64 := fun z hz => ⟨hp_71 z hz, maW_lt hn⟩
                  refine lv_aload_n hF.1 hF.2.1 dX11_freed_74 rfl (lv_at hl 0 rfl) ?_
                  refine k_get (C := RX11) (T := TX11) (N := 8) hF hK hG (fun _ h => List.mem_cons_of_mem _ (List.mem_append_left _ (List.mem_append_left _ (List.mem_append_left _ (List.mem_append_left _ (List.mem_append_left _ (List.mem_append_left _ (List.mem_append_left _ (List.mem_append_left _ (List.mem_append_left _ (List.mem_append_left _ (List.mem_append_right _ h)))))))))))) 6 rfl rfl 3 (by decide) (List.mem_of_getElem? (i := 3) rfl) (fun _ h9 => h9) rfl dX11_freed_75 ?_
                  refine lv_aload_n hF.1 hF.2.1 dX11_freed_78 rfl (lv_at hl 0 rfl) ?_
                  refine k_get (C := RX11) (T := TX11) (N := 8) hF hK hG (fun _ h => List.mem_cons_of_mem _ (List.mem_append_left _ (List.mem_append_left _ (List.mem_append_left _ (List.mem_append_left _ (List.mem_append_left _ (List.mem_append_left _ (List.mem_append_left _ (List.mem_append_left _ (List.mem_append_left _ (List.mem_append_left _ (List.mem_append_right _ h)))))))))))) 6 rfl rfl 2 (by decide) (List.mem_of_getElem? (i := 4) rfl) (fun _ h9 => h9) rfl dX11_freed_79 ?_
                  refine k_get (C := RX9) (T := TX9) (N := 3) hF hK hG (fun _ h => List.mem_cons_of_mem _ (List.mem_append_left _ (List.mem_append_left _ (List.mem_append_left _ (List.mem_append_left _ (List.mem_append_left _ (List.mem_append_left _ (List.mem_append_left _ (List.mem_append_left _ (List.mem_append_left _ (List.mem_append_right _ h))))))))))) 9 rfl rfl 2 (by decide) (List.mem_of_getElem? (i := 5) rfl) (fun _ h9 => h9) rfl dX11_freed_82 ?_
                  refine lv_iload_n hF.1 hF.2.1 dX11_freed_85 rfl (lv_at hl 1 rfl) ?_
                  refine k_ci (r_V (As := [.int (nI o), .int (nI j)]) hF hK hA hG (c_X10_pullsToHave hma ho (show j < 64 by omega)) (cwV 2 hF.2.2.2.2 gX11_freed_X10_pullsToHave rfl rfl rfl (by decide +kernel) ⟨Nat.le_of_ble_eq_true rfl, Nat.le_of_ble_eq_true rfl⟩) 0 rfl rfl rfl rfl hl.1 rfl (lv_room (Nat.le_of_ble_eq_true rfl)) dX11_freed_86 ⟨Nat.le_of_ble_eq_true rfl, Nat.le_of_ble_eq_true rfl⟩) hG (fun r_86 u_86 H locs hp_86 hG => ?_)
                  have hG : Gd D A (XW cA ob u_71 u_86.1 u_86.2.1 u_86.2.2.1 u_86.2.2.2.1 u_86.2.2.2.2 n o dr n1 o1 dr1 n o u_60 dk rk kt tk (pool ++ [(u_15, .inr (kcI 1, [.int (nI 0)]))])) s.heap H locs := hG
                  have hv : HAD n o (frK kd s_ n) (frF fg s_ n) j r_86 := by rw [hp_86]; exact find_had hn hI.2.1 (by omega)
                  refine lv_if_lt (tgt := 95) hF.1 hF.2.1 dX11_freed_89 (by decide) (fun c_89 => ?_) (fun c_89 => ?_)
                  · --
                    have hnx : cnt s_ = many → ¬ REA n o kd fg j s_ := fun _ => REA_f hv c_89
                    refine lv_iinc (v := (nI (s_ + 1))) (lv' := [(4, .int (nI (s_ + 1))), (0, .ref (ob 6)), (1, .int (nI j)), (2, .ref u_15), (3, .int (nI many))]) hF.1 hF.2.1 dX11_freed_95 hl (k := 4) rfl (nI_inc _ _) (by decide) rfl (fun ls hl => ?_)
                    refine lv_goto (tgt := 35) hF.1 hF.2.1 dX11_freed_98 (by decide) ?_
                    exact ih35 (s_ + 1) (_) (_) (_) (_) (_) (_) (_) (_) (_) (by omega) (lt_s hin hnx) (by first | exact hMf | exact ⟨_, _, hp_60⟩) (by omega) _ _ hG ls (lv_sub hl [1, 2, 3, 4, 0] rfl)
                  · --
                    refine lv_iload hF.1 hF.2.1 dX11_freed_92 (lv_at hl 4 rfl) ?_
                    exact hret _ (_, _, _, _, _, _, _, _, _, _, _, _, _, _, _, _, _, _, _, _) _ ls _ _ _ _ (by exact ⟨spFreed_t hn hj (FRD.found (by omega) (REA_t hv c_89) (fun t h1 h2 => hno t h1 (by omega)) (fun t h1 h2 => hin t h1 (by omega))), ⟨⟨rfl, rfl⟩, ⟨rfl, rfl⟩, htk, hIp, hJ.push, ⟨_, _, hp_60⟩, ⟨_, hX.push⟩⟩⟩) (by first | rfl | exact nar_b2i _) hG (Nat.le_of_ble_eq_true rfl) (Nat.le_of_ble_eq_true rfl) dX11_freed_94
          exact lp35 _ (0) (_) (_) (_) (_) (_) (_) (_) (_) (_) (by omega) (fun t h => absurd h (Nat.not_lt_zero t)) hMf (Nat.lt_succ_self _) _ _ hG ls (lv_sub hl [1, 2, 3, 4, 0] rfl)
    exact lp21 _ (0) (_) (_) (_) (_) (_) (_) (_) (_) (_) (by omega) (fun _ _ h => absurd h (Nat.not_lt_zero _)) ⟨_, _, hM.push⟩ (Nat.lt_succ_self _) _ _ hG ls (lv_sub hl [2, 3, 1, 0] rfl)
  · --
    have n_8 : (inB (2 ^ n) t) = false := b2i_z.mp c_8
    refine lv_iconst (v := (-1)) hF.1 hF.2.1 dX11_freed_11 (by decide +kernel) ?_
    exact hret _ (_, _, _, _, _, _, _, _, _, _, _, _, _, _, _, _, _, _, _, _) _ ls _ _ _ _ (by exact ⟨spFreed_f n_8, ⟨⟨rfl, rfl⟩, ⟨rfl, rfl⟩, htk, hI, hJ, ⟨_, _, hM⟩, ⟨_, hX⟩⟩⟩) (by first | rfl | exact nar_b2i _) hG (Nat.le_of_ble_eq_true rfl) (Nat.le_of_ble_eq_true rfl) dX11_freed_12
