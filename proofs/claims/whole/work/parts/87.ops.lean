
theorem cmp_self (v : Int64) : lg_cmp v v = 0 := Int32.le_antisymm ((lg_cmp_le v v).mpr (Int64.le_refl v)) ((lg_cmp_ge v v).mpr (Int64.le_refl v))
theorem el_big {x : Nat → Sf} {d : Int32} {aK aT aZ aE aD aF : Nat → Int32} (hXF : ∀ d, d < 8 → SF aK aT aZ aE aD aF d (x d)) {z : Nat × Nat × (Nat → Int32)} (h : sfA x d = some (some (.inr z))) : z.2.1 ≤ 100 := by
  unfold sfA at h
  by_cases e : inB 8 d = true
  · rw [if_pos e] at h
    obtain ⟨j, hj, rfl⟩ := inB_ex (by decide) e
    rw [nI_clamp (by omega)] at h
    have h1 := hXF j hj
    rw [Option.some.inj h] at h1
    exact h1.2.2.2.2.1
  · rw [if_neg e] at h
    exact absurd h (by simp)
theorem el_one {x : Nat → Sf} {d i r1 v : Int32} {g r2 : Int64} (hb : ∀ z : Nat × Nat × (Nat → Int32), sfA x d = some (some (.inr z)) → z.2.1 ≤ 100) (h : (r1 = 1 ∧ elX x d i EA) ∨ (r1 = 2 ∧ elX x d i EI) ∨ (r1 = 0 ∧ elR x d i g)) (k : (v = nI 1 ∧ sfA x d = none) ∨ (v = nI 2 ∧ ∃ y, sfA x d = some y ∧ ∀ z, y = some (.inr z) → inB z.2.1 i = false) ∨ (v = nI 0 ∧ ∃ (z : Nat × Nat × (Nat → Int32)) (j : Nat), sfA x d = some (some (.inr z)) ∧ j < z.2.1 ∧ i = nI j ∧ r2 = (z.2.2 j).toInt64)) : v = r1 ∧ (r1 = 0 → g = r2) := by
  have out : ∀ (y : Sf) (z : Nat × Nat × (Nat → Int32)) (j : Nat), sfA x d = some y → (∀ z, y = some (.inr z) → inB z.2.1 i = false) → sfA x d = some (some (.inr z)) → j < z.2.1 → i = nI j → False := fun y z j h1 h2 h3 h4 h5 => by
    have e : y = some (.inr z) := Option.some.inj (h1.symm.trans h3)
    have h6 := h2 z e
    have h7 := hb z h3
    rw [h5, inB_nI (by omega) (by omega), decide_eq_false_iff_not] at h6
    exact h6 h4
  rcases h with ⟨a, b⟩ | ⟨a, b⟩ | ⟨a, b⟩
  · have hn : sfA x d = none := b.elim (fun q => q.2) (fun q => absurd q.1 (by decide))
    rcases k with ⟨a2, b2⟩ | ⟨a2, y, b2, b3⟩ | ⟨a2, z, j, b2, b3⟩
    · exact ⟨a2.trans a.symm, fun q => absurd (a.symm.trans q) (by decide)⟩
    · rw [hn] at b2; cases b2
    · rw [hn] at b2; cases b2
  · obtain ⟨y0, c1, c2⟩ : ∃ y, sfA x d = some y ∧ ∀ z, y = some (.inr z) → inB z.2.1 i = false := b.elim (fun q => absurd q.1 (by decide)) (fun q => q.2)
    rcases k with ⟨a2, b2⟩ | ⟨a2, y, b2, b3⟩ | ⟨a2, z, j, b2, b3, b4, b5⟩
    · rw [b2] at c1; cases c1
    · exact ⟨a2.trans a.symm, fun q => absurd (a.symm.trans q) (by decide)⟩
    · exact (out y0 z j c1 c2 b2 b3 b4).elim
  · obtain ⟨z0, j0, c1, c2, c3, c4⟩ := b
    rcases k with ⟨a2, b2⟩ | ⟨a2, y, b2, b3⟩ | ⟨a2, z, j, b2, b3, b4, b5⟩
    · rw [b2] at c1; cases c1
    · exact (out y z0 j0 b2 b3 c1 c2 c3).elim
    · refine ⟨a2.trans a.symm, fun _ => ?_⟩
      have e : z0 = z := Sum.inr.inj (Option.some.inj (Option.some.inj (c1.symm.trans b2)))
      subst e
      have h7 := hb z0 b2
      have e2 : j0 = j := by
        have e3 := c3.symm.trans b4
        rw [← nI_clamp (n := j0) (by omega), ← nI_clamp (n := j) (by omega), e3]
      rw [c4, b5, e2]
theorem gd_nil {D : va_G} {A : Nat → Prop} {w0 w1 : va_W} {H0 H : Heap} {locs : List Loc} (h : Gd D A (w0 ++ w1) H0 H locs) : Gd D A (w0 ++ (w1 ++ [])) H0 H locs := by rw [List.append_nil]; exact h
theorem gd_lin {D : va_G} {A : Nat → Prop} {w0 w1 : va_W} {H0 H : Heap} {locs : List Loc} (h : Gd D A (w0 ++ (w1 ++ [])) H0 H locs) : Gd D A (w0 ++ w1) H0 H locs := by rw [List.append_nil] at h; exact h

section OPS
variable {p : Program} {l : Launch} {e : Env} {s : State} {m : MethodId} {args : Array Value} {below : List Frame} {meth : Method} {c : Code} {Q : State → Prop}
variable {D : va_G} {cA : Nat → ClassId} {A : Nat → Prop} {b out L t kc ks : Nat} {xs : Nat → Int32} {ob om : Nat → Nat} {fo : Nat → Int64}
variable {mb ss sh sp : Nat → Int32} {mt : Nat → Int64} {rc n o : Nat} {dr : Nat → Option Nat} {n1 o1 : Nat} {dr1 : Nat → Option Nat} {n2 o2 : Nat} {dr2 dk rk : Nat → Option Nat} {kt : Nat → Int32} {tk : Int32} {pool : va_W}
variable {aS aI aR aM aK aT aZ aE aD aF aN aP aH : Nat → Int32} {vH vT vP vB vE vS : Int32} {kd fg kd1 fg1 kd2 fg2 : Nat → Nat} {x : Nat → Sf} {P : Nat → Nat} {tkb : Bool} {H : Heap} {locs : List Loc} {ls : Array Slot}
set_option maxHeartbeats 4000000 in
set_option maxRecDepth 100000 in
theorem op_count (hfl : l.stackTraces = false) (hLA : LA p s m args c D cA A b L xs) (hL6 : 6 * t + 6 ≤ L) (hkc : kc + 40 ≤ 601024) (hks : ks + 110 ≤ 7293034) (hI : WI pool n o dr kd fg) (hJ : WI pool n1 o1 dr1 kd1 fg1) (hM : WI pool n2 o2 dr2 kd2 fg2) (hX : SX cA pool dk rk x P) (htk : tk = b2i tkb) (hS : SR aS n o kd fg) (hSI : SR aI n1 o1 kd1 fg1) (hH : vH = b2i tkb) (hXF : ∀ d, d < 8 → SF aK aT aZ aE aD aF d (x d)) (hl : lv_has ls 8 [(4, .int (nI (6 * t))), (3, .ref out), (2, .ref (om 0)), (1, .ref (ob 6)), (0, .ref b)]) (hG : Gd D A (MW cA om aS aI aR aM aK aT aZ aE aD aF aN aP aH vH vT vP vB vE vS ++ (XW cA ob mb ss sh sp mt rc n o dr n1 o1 dr1 n2 o2 dr2 dk rk kt tk pool ++ [((out, .inl (cA 1, 1, .inr (.inl fo))) : Nat × va_E)])) s.heap H locs) (hk : LK p l e s m args below meth c Q D cA A b out t ob om (kc + 40) (ks + 110)) : W p l e room_1 s m args below meth c H locs kc ks Q (F0 m 940 ls []) := by
  obtain ⟨hF, hK, hXX, hA, hXs, hbl, hbA, hL⟩ := hLA
  refine lv_aload_n hF.1 hF.2.1 dL_law_940 rfl (lv_at hl 3 rfl) ?_
  refine law_arg (k := 1) hF.1 hF.2.1 hXs hbl hbA hG.2.2 hL (by omega) (lv_at hl 4 rfl) (lv_at hl 0 rfl) (by decide +kernel) dL_law_941 dL_law_942 dL_law_944 dL_law_945 dL_law_946 ?_
  refine j_ci hA (j_V (As := [.int (xs (6 * t + 1))]) (w0 := MW cA om aS aI aR aM aK aT aZ aE aD aF aN aP aH vH vT vP vB vE vS) (w1 := XW cA ob mb ss sh sp mt rc n o dr n1 o1 dr1 n2 o2 dr2 dk rk kt tk pool) (w2 := [((out, .inl (cA 1, 1, .inr (.inl fo))) : Nat × va_E)]) hF hK hG (c_X11_count hI hJ hM hX htk) (cwV 1 hF.2.2.2.2 gL_law_X11_count rfl rfl rfl (by decide +kernel) ⟨(Nat.le_of_ble_eq_true rfl), (Nat.le_of_ble_eq_true rfl)⟩) 6 rfl rfl rfl rfl hl.1 rfl (lv_room (Nat.le_of_ble_eq_true rfl)) dL_law_947 ⟨(show kc + 0 ≤ 601024 by omega), (show ks + 0 ≤ 7293034 by omega)⟩) hG (fun r1 u1 H locs hp1 hG => ?_)
  obtain ⟨hr1, hXI⟩ := hp1
  have hG : Gd D A ([] ++ ((MW cA om aS aI aR aM aK aT aZ aE aD aF aN aP aH vH vT vP vB vE vS) ++ (XV cA ob u1 ++ [((out, .inl (cA 1, 1, .inr (.inl fo))) : Nat × va_E)]))) s.heap H locs := hG
  refine lv_aload_n hF.1 hF.2.1 dL_law_950 rfl (lv_at hl 2 rfl) ?_
  refine law_arg (k := 1) hF.1 hF.2.1 hXs hbl hbA hG.2.2 hL (by omega) (lv_at hl 4 rfl) (lv_at hl 0 rfl) (by decide +kernel) dL_law_951 dL_law_952 dL_law_954 dL_law_955 dL_law_956 ?_
  refine j_ci hA (j_V (As := [.int (xs (6 * t + 1))]) (w0 := []) (w1 := MW cA om aS aI aR aM aK aT aZ aE aD aF aN aP aH vH vT vP vB vE vS) (w2 := XV cA ob u1 ++ [((out, .inl (cA 1, 1, .inr (.inl fo))) : Nat × va_E)]) hF hK hG (c_X12_count hS) (cwV 1 hF.2.2.2.2 gL_law_X12_count rfl rfl rfl (by decide +kernel) ⟨(Nat.le_of_ble_eq_true rfl), (Nat.le_of_ble_eq_true rfl)⟩) 0 rfl rfl rfl rfl hl.1 rfl (lv_room (Nat.le_of_ble_eq_true rfl)) dL_law_957 ⟨(show kc + 0 + 0 ≤ 601024 by omega), (show ks + 0 + 0 ≤ 7293034 by omega)⟩) hG (fun r2 u2 H locs hp2 hG => ?_)
  have he : r1 = r2 := hr1.trans hp2.symm
  refine lv_icmp_eq (tgt := 1314) hF.1 hF.2.1 dL_law_960 (by decide) (fun _ => ?_) (fun hne => absurd he hne)
  refine W.widen (k := kc + 40) (n := ks + 110) (by omega) (by omega) ?_
  exact hk u1 (aS, aI, aR, aM, aK, aT, aZ, aE, aD, aF, aN, aP, aH, vH, vT, vP, vB, vE, vS) fo _ _ _ _ H locs ls hXI ⟨hS, hSI, hH, hXF⟩ hl hG
set_option maxHeartbeats 4000000 in
set_option maxRecDepth 100000 in
theorem op_keep (hfl : l.stackTraces = false) (hLA : LA p s m args c D cA A b L xs) (hL6 : 6 * t + 6 ≤ L) (hkc : kc + 40 ≤ 601024) (hks : ks + 110 ≤ 7293034) (hI : WI pool n o dr kd fg) (hJ : WI pool n1 o1 dr1 kd1 fg1) (hM : WI pool n2 o2 dr2 kd2 fg2) (hX : SX cA pool dk rk x P) (htk : tk = b2i tkb) (hS : SR aS n o kd fg) (hSI : SR aI n1 o1 kd1 fg1) (hH : vH = b2i tkb) (hXF : ∀ d, d < 8 → SF aK aT aZ aE aD aF d (x d)) (hl : lv_has ls 8 [(4, .int (nI (6 * t))), (3, .ref out), (2, .ref (om 0)), (1, .ref (ob 6)), (0, .ref b)]) (hG : Gd D A (MW cA om aS aI aR aM aK aT aZ aE aD aF aN aP aH vH vT vP vB vE vS ++ (XW cA ob mb ss sh sp mt rc n o dr n1 o1 dr1 n2 o2 dr2 dk rk kt tk pool ++ [((out, .inl (cA 1, 1, .inr (.inl fo))) : Nat × va_E)])) s.heap H locs) (hk : LK p l e s m args below meth c Q D cA A b out t ob om (kc + 40) (ks + 110)) : W p l e room_1 s m args below meth c H locs kc ks Q (F0 m 965 ls []) := by
  obtain ⟨hF, hK, hXX, hA, hXs, hbl, hbA, hL⟩ := hLA
  refine lv_aload_n hF.1 hF.2.1 dL_law_965 rfl (lv_at hl 3 rfl) ?_
  refine law_arg (k := 1) hF.1 hF.2.1 hXs hbl hbA hG.2.2 hL (by omega) (lv_at hl 4 rfl) (lv_at hl 0 rfl) (by decide +kernel) dL_law_966 dL_law_967 dL_law_969 dL_law_970 dL_law_971 ?_
  refine law_arg (k := 2) hF.1 hF.2.1 hXs hbl hbA hG.2.2 hL (by omega) (lv_at hl 4 rfl) (lv_at hl 0 rfl) (by decide +kernel) dL_law_972 dL_law_973 dL_law_975 dL_law_976 dL_law_977 ?_
  refine law_arg (k := 3) hF.1 hF.2.1 hXs hbl hbA hG.2.2 hL (by omega) (lv_at hl 4 rfl) (lv_at hl 0 rfl) (by decide +kernel) dL_law_978 dL_law_979 dL_law_981 dL_law_982 dL_law_983 ?_
  refine law_arg (k := 4) hF.1 hF.2.1 hXs hbl hbA hG.2.2 hL (by omega) (lv_at hl 4 rfl) (lv_at hl 0 rfl) (by decide +kernel) dL_law_984 dL_law_985 dL_law_987 dL_law_988 dL_law_989 ?_
  refine j_ci hA (j_V (As := [.int (xs (6 * t + 1)), .int (xs (6 * t + 2)), .int (xs (6 * t + 3)), .int (xs (6 * t + 4))]) (w0 := MW cA om aS aI aR aM aK aT aZ aE aD aF aN aP aH vH vT vP vB vE vS) (w1 := XW cA ob mb ss sh sp mt rc n o dr n1 o1 dr1 n2 o2 dr2 dk rk kt tk pool) (w2 := [((out, .inl (cA 1, 1, .inr (.inl fo))) : Nat × va_E)]) hF hK hG (c_X11_keep hI hJ hM hX htk) (cwV 4 hF.2.2.2.2 gL_law_X11_keep rfl rfl rfl (by decide +kernel) ⟨(Nat.le_of_ble_eq_true rfl), (Nat.le_of_ble_eq_true rfl)⟩) 6 rfl rfl rfl rfl hl.1 rfl (lv_room (Nat.le_of_ble_eq_true rfl)) dL_law_990 ⟨(show kc + 1 ≤ 601024 by omega), (show ks + 1 ≤ 7293034 by omega)⟩) hG (fun r1 u1 H locs hp1 hG => ?_)
  obtain ⟨hr1, hXI⟩ := hp1
  have hG : Gd D A ([] ++ ((MW cA om aS aI aR aM aK aT aZ aE aD aF aN aP aH vH vT vP vB vE vS) ++ (XV cA ob u1 ++ [((out, .inl (cA 1, 1, .inr (.inl fo))) : Nat × va_E)]))) s.heap H locs := hG
  refine lv_aload_n hF.1 hF.2.1 dL_law_993 rfl (lv_at hl 2 rfl) ?_
  refine law_arg (k := 1) hF.1 hF.2.1 hXs hbl hbA hG.2.2 hL (by omega) (lv_at hl 4 rfl) (lv_at hl 0 rfl) (by decide +kernel) dL_law_994 dL_law_995 dL_law_997 dL_law_998 dL_law_999 ?_
  refine law_arg (k := 2) hF.1 hF.2.1 hXs hbl hbA hG.2.2 hL (by omega) (lv_at hl 4 rfl) (lv_at hl 0 rfl) (by decide +kernel) dL_law_1000 dL_law_1001 dL_law_1003 dL_law_1004 dL_law_1005 ?_
  refine law_arg (k := 3) hF.1 hF.2.1 hXs hbl hbA hG.2.2 hL (by omega) (lv_at hl 4 rfl) (lv_at hl 0 rfl) (by decide +kernel) dL_law_1006 dL_law_1007 dL_law_1009 dL_law_1010 dL_law_1011 ?_
  refine law_arg (k := 4) hF.1 hF.2.1 hXs hbl hbA hG.2.2 hL (by omega) (lv_at hl 4 rfl) (lv_at hl 0 rfl) (by decide +kernel) dL_law_1012 dL_law_1013 dL_law_1015 dL_law_1016 dL_law_1017 ?_
  refine j_ci hA (j_V (As := [.int (xs (6 * t + 1)), .int (xs (6 * t + 2)), .int (xs (6 * t + 3)), .int (xs (6 * t + 4))]) (w0 := []) (w1 := MW cA om aS aI aR aM aK aT aZ aE aD aF aN aP aH vH vT vP vB vE vS) (w2 := XV cA ob u1 ++ [((out, .inl (cA 1, 1, .inr (.inl fo))) : Nat × va_E)]) hF hK hG (c_X12_keep hXF) (cwV 4 hF.2.2.2.2 gL_law_X12_keep rfl rfl rfl (by decide +kernel) ⟨(Nat.le_of_ble_eq_true rfl), (Nat.le_of_ble_eq_true rfl)⟩) 0 rfl rfl rfl rfl hl.1 rfl (lv_room (Nat.le_of_ble_eq_true rfl)) dL_law_1018 ⟨(show kc + 1 + 0 ≤ 601024 by omega), (show ks + 1 + 0 ≤ 7293034 by omega)⟩) hG (fun r2 u2 H locs hp2 hG => ?_)
  have he : r1 = r2 := hr1.trans hp2.1.symm
  refine lv_icmp_eq (tgt := 1314) hF.1 hF.2.1 dL_law_1021 (by decide) (fun _ => ?_) (fun hne => absurd he hne)
  refine W.widen (k := kc + 40) (n := ks + 110) (by omega) (by omega) ?_
  exact hk u1 (aS, aI, aR, aM, u2.1, aT, aZ, aE, u2.2.1, u2.2.2, aN, aP, aH, vH, vT, vP, vB, vE, vS) fo _ _ _ _ H locs ls hXI ⟨hS, hSI, hH, hp2.2⟩ hl hG
set_option maxHeartbeats 4000000 in
set_option maxRecDepth 100000 in
theorem op_row (hfl : l.stackTraces = false) (hLA : LA p s m args c D cA A b L xs) (hL6 : 6 * t + 6 ≤ L) (hkc : kc + 40 ≤ 601024) (hks : ks + 110 ≤ 7293034) (hI : WI pool n o dr kd fg) (hJ : WI pool n1 o1 dr1 kd1 fg1) (hM : WI pool n2 o2 dr2 kd2 fg2) (hX : SX cA pool dk rk x P) (htk : tk = b2i tkb) (hS : SR aS n o kd fg) (hSI : SR aI n1 o1 kd1 fg1) (hH : vH = b2i tkb) (hXF : ∀ d, d < 8 → SF aK aT aZ aE aD aF d (x d)) (hl : lv_has ls 8 [(4, .int (nI (6 * t))), (3, .ref out), (2, .ref (om 0)), (1, .ref (ob 6)), (0, .ref b)]) (hG : Gd D A (MW cA om aS aI aR aM aK aT aZ aE aD aF aN aP aH vH vT vP vB vE vS ++ (XW cA ob mb ss sh sp mt rc n o dr n1 o1 dr1 n2 o2 dr2 dk rk kt tk pool ++ [((out, .inl (cA 1, 1, .inr (.inl fo))) : Nat × va_E)])) s.heap H locs) (hk : LK p l e s m args below meth c Q D cA A b out t ob om (kc + 40) (ks + 110)) : W p l e room_1 s m args below meth c H locs kc ks Q (F0 m 1026 ls []) := by
  obtain ⟨hF, hK, hXX, hA, hXs, hbl, hbA, hL⟩ := hLA
  refine lv_aload_n hF.1 hF.2.1 dL_law_1026 rfl (lv_at hl 3 rfl) ?_
  refine law_arg (k := 1) hF.1 hF.2.1 hXs hbl hbA hG.2.2 hL (by omega) (lv_at hl 4 rfl) (lv_at hl 0 rfl) (by decide +kernel) dL_law_1027 dL_law_1028 dL_law_1030 dL_law_1031 dL_law_1032 ?_
  refine law_arg (k := 2) hF.1 hF.2.1 hXs hbl hbA hG.2.2 hL (by omega) (lv_at hl 4 rfl) (lv_at hl 0 rfl) (by decide +kernel) dL_law_1033 dL_law_1034 dL_law_1036 dL_law_1037 dL_law_1038 ?_
  refine law_arg (k := 3) hF.1 hF.2.1 hXs hbl hbA hG.2.2 hL (by omega) (lv_at hl 4 rfl) (lv_at hl 0 rfl) (by decide +kernel) dL_law_1039 dL_law_1040 dL_law_1042 dL_law_1043 dL_law_1044 ?_
  refine j_ci hA (j_V (As := [.int (xs (6 * t + 1)), .int (xs (6 * t + 2)), .int (xs (6 * t + 3))]) (w0 := MW cA om aS aI aR aM aK aT aZ aE aD aF aN aP aH vH vT vP vB vE vS) (w1 := XW cA ob mb ss sh sp mt rc n o dr n1 o1 dr1 n2 o2 dr2 dk rk kt tk pool) (w2 := [((out, .inl (cA 1, 1, .inr (.inl fo))) : Nat × va_E)]) hF hK hG (c_X11_row hI hJ hM hX htk) (cwV 3 hF.2.2.2.2 gL_law_X11_row rfl rfl rfl (by decide +kernel) ⟨(Nat.le_of_ble_eq_true rfl), (Nat.le_of_ble_eq_true rfl)⟩) 6 rfl rfl rfl rfl hl.1 rfl (lv_room (Nat.le_of_ble_eq_true rfl)) dL_law_1045 ⟨(show kc + 2 ≤ 601024 by omega), (show ks + 103 ≤ 7293034 by omega)⟩) hG (fun r1 u1 H locs hp1 hG => ?_)
  obtain ⟨hr1, hXI⟩ := hp1
  have hG : Gd D A ([] ++ ((MW cA om aS aI aR aM aK aT aZ aE aD aF aN aP aH vH vT vP vB vE vS) ++ (XV cA ob u1 ++ [((out, .inl (cA 1, 1, .inr (.inl fo))) : Nat × va_E)]))) s.heap H locs := hG
  refine lv_aload_n hF.1 hF.2.1 dL_law_1048 rfl (lv_at hl 2 rfl) ?_
  refine law_arg (k := 1) hF.1 hF.2.1 hXs hbl hbA hG.2.2 hL (by omega) (lv_at hl 4 rfl) (lv_at hl 0 rfl) (by decide +kernel) dL_law_1049 dL_law_1050 dL_law_1052 dL_law_1053 dL_law_1054 ?_
  refine law_arg (k := 2) hF.1 hF.2.1 hXs hbl hbA hG.2.2 hL (by omega) (lv_at hl 4 rfl) (lv_at hl 0 rfl) (by decide +kernel) dL_law_1055 dL_law_1056 dL_law_1058 dL_law_1059 dL_law_1060 ?_
  refine law_arg (k := 3) hF.1 hF.2.1 hXs hbl hbA hG.2.2 hL (by omega) (lv_at hl 4 rfl) (lv_at hl 0 rfl) (by decide +kernel) dL_law_1061 dL_law_1062 dL_law_1064 dL_law_1065 dL_law_1066 ?_
  refine j_ci hA (j_V (As := [.int (xs (6 * t + 1)), .int (xs (6 * t + 2)), .int (xs (6 * t + 3))]) (w0 := []) (w1 := MW cA om aS aI aR aM aK aT aZ aE aD aF aN aP aH vH vT vP vB vE vS) (w2 := XV cA ob u1 ++ [((out, .inl (cA 1, 1, .inr (.inl fo))) : Nat × va_E)]) hF hK hG (c_X12_row hXF) (cwV 3 hF.2.2.2.2 gL_law_X12_row rfl rfl rfl (by decide +kernel) ⟨(Nat.le_of_ble_eq_true rfl), (Nat.le_of_ble_eq_true rfl)⟩) 0 rfl rfl rfl rfl hl.1 rfl (lv_room (Nat.le_of_ble_eq_true rfl)) dL_law_1067 ⟨(show kc + 2 + 0 ≤ 601024 by omega), (show ks + 103 + 0 ≤ 7293034 by omega)⟩) hG (fun r2 u2 H locs hp2 hG => ?_)
  have he : r1 = r2 := hr1.trans hp2.1.symm
  refine lv_icmp_eq (tgt := 1314) hF.1 hF.2.1 dL_law_1070 (by decide) (fun _ => ?_) (fun hne => absurd he hne)
  refine W.widen (k := kc + 40) (n := ks + 110) (by omega) (by omega) ?_
  exact hk u1 (aS, aI, aR, aM, u2.1, u2.2.1, u2.2.2.1, u2.2.2.2, aD, aF, aN, aP, aH, vH, vT, vP, vB, vE, vS) fo _ _ _ _ H locs ls hXI ⟨hS, hSI, hH, hp2.2⟩ hl hG
set_option maxHeartbeats 4000000 in
set_option maxRecDepth 100000 in
theorem op_put (hfl : l.stackTraces = false) (hLA : LA p s m args c D cA A b L xs) (hL6 : 6 * t + 6 ≤ L) (hkc : kc + 40 ≤ 601024) (hks : ks + 110 ≤ 7293034) (hI : WI pool n o dr kd fg) (hJ : WI pool n1 o1 dr1 kd1 fg1) (hM : WI pool n2 o2 dr2 kd2 fg2) (hX : SX cA pool dk rk x P) (htk : tk = b2i tkb) (hS : SR aS n o kd fg) (hSI : SR aI n1 o1 kd1 fg1) (hH : vH = b2i tkb) (hXF : ∀ d, d < 8 → SF aK aT aZ aE aD aF d (x d)) (hl : lv_has ls 8 [(4, .int (nI (6 * t))), (3, .ref out), (2, .ref (om 0)), (1, .ref (ob 6)), (0, .ref b)]) (hG : Gd D A (MW cA om aS aI aR aM aK aT aZ aE aD aF aN aP aH vH vT vP vB vE vS ++ (XW cA ob mb ss sh sp mt rc n o dr n1 o1 dr1 n2 o2 dr2 dk rk kt tk pool ++ [((out, .inl (cA 1, 1, .inr (.inl fo))) : Nat × va_E)])) s.heap H locs) (hk : LK p l e s m args below meth c Q D cA A b out t ob om (kc + 40) (ks + 110)) : W p l e room_1 s m args below meth c H locs kc ks Q (F0 m 1075 ls []) := by
  obtain ⟨hF, hK, hXX, hA, hXs, hbl, hbA, hL⟩ := hLA
  refine lv_aload_n hF.1 hF.2.1 dL_law_1075 rfl (lv_at hl 3 rfl) ?_
  refine law_arg (k := 1) hF.1 hF.2.1 hXs hbl hbA hG.2.2 hL (by omega) (lv_at hl 4 rfl) (lv_at hl 0 rfl) (by decide +kernel) dL_law_1076 dL_law_1077 dL_law_1079 dL_law_1080 dL_law_1081 ?_
  refine law_arg (k := 2) hF.1 hF.2.1 hXs hbl hbA hG.2.2 hL (by omega) (lv_at hl 4 rfl) (lv_at hl 0 rfl) (by decide +kernel) dL_law_1082 dL_law_1083 dL_law_1085 dL_law_1086 dL_law_1087 ?_
  refine law_arg (k := 3) hF.1 hF.2.1 hXs hbl hbA hG.2.2 hL (by omega) (lv_at hl 4 rfl) (lv_at hl 0 rfl) (by decide +kernel) dL_law_1088 dL_law_1089 dL_law_1091 dL_law_1092 dL_law_1093 ?_
  refine j_ci hA (j_V (As := [.int (xs (6 * t + 1)), .int (xs (6 * t + 2)), .int (xs (6 * t + 3))]) (w0 := MW cA om aS aI aR aM aK aT aZ aE aD aF aN aP aH vH vT vP vB vE vS) (w1 := XW cA ob mb ss sh sp mt rc n o dr n1 o1 dr1 n2 o2 dr2 dk rk kt tk pool) (w2 := [((out, .inl (cA 1, 1, .inr (.inl fo))) : Nat × va_E)]) hF hK hG (c_X11_put hI hJ hM hX htk) (cwV 3 hF.2.2.2.2 gL_law_X11_put rfl rfl rfl (by decide +kernel) ⟨(Nat.le_of_ble_eq_true rfl), (Nat.le_of_ble_eq_true rfl)⟩) 6 rfl rfl rfl rfl hl.1 rfl (lv_room (Nat.le_of_ble_eq_true rfl)) dL_law_1094 ⟨(show kc + 0 ≤ 601024 by omega), (show ks + 0 ≤ 7293034 by omega)⟩) hG (fun r1 u1 H locs hp1 hG => ?_)
  obtain ⟨hr1, hXI⟩ := hp1
  have hG : Gd D A ([] ++ ((MW cA om aS aI aR aM aK aT aZ aE aD aF aN aP aH vH vT vP vB vE vS) ++ (XV cA ob u1 ++ [((out, .inl (cA 1, 1, .inr (.inl fo))) : Nat × va_E)]))) s.heap H locs := hG
  refine lv_aload_n hF.1 hF.2.1 dL_law_1097 rfl (lv_at hl 2 rfl) ?_
  refine law_arg (k := 1) hF.1 hF.2.1 hXs hbl hbA hG.2.2 hL (by omega) (lv_at hl 4 rfl) (lv_at hl 0 rfl) (by decide +kernel) dL_law_1098 dL_law_1099 dL_law_1101 dL_law_1102 dL_law_1103 ?_
  refine law_arg (k := 2) hF.1 hF.2.1 hXs hbl hbA hG.2.2 hL (by omega) (lv_at hl 4 rfl) (lv_at hl 0 rfl) (by decide +kernel) dL_law_1104 dL_law_1105 dL_law_1107 dL_law_1108 dL_law_1109 ?_
  refine law_arg (k := 3) hF.1 hF.2.1 hXs hbl hbA hG.2.2 hL (by omega) (lv_at hl 4 rfl) (lv_at hl 0 rfl) (by decide +kernel) dL_law_1110 dL_law_1111 dL_law_1113 dL_law_1114 dL_law_1115 ?_
  refine j_ci hA (j_V (As := [.int (xs (6 * t + 1)), .int (xs (6 * t + 2)), .int (xs (6 * t + 3))]) (w0 := []) (w1 := MW cA om aS aI aR aM aK aT aZ aE aD aF aN aP aH vH vT vP vB vE vS) (w2 := XV cA ob u1 ++ [((out, .inl (cA 1, 1, .inr (.inl fo))) : Nat × va_E)]) hF hK hG (c_X12_put hXF) (cwV 3 hF.2.2.2.2 gL_law_X12_put rfl rfl rfl (by decide +kernel) ⟨(Nat.le_of_ble_eq_true rfl), (Nat.le_of_ble_eq_true rfl)⟩) 0 rfl rfl rfl rfl hl.1 rfl (lv_room (Nat.le_of_ble_eq_true rfl)) dL_law_1116 ⟨(show kc + 0 + 0 ≤ 601024 by omega), (show ks + 0 + 0 ≤ 7293034 by omega)⟩) hG (fun r2 u2 H locs hp2 hG => ?_)
  have he : r1 = r2 := hr1.trans hp2.1.symm
  refine lv_icmp_eq (tgt := 1314) hF.1 hF.2.1 dL_law_1119 (by decide) (fun _ => ?_) (fun hne => absurd he hne)
  refine W.widen (k := kc + 40) (n := ks + 110) (by omega) (by omega) ?_
  exact hk u1 (aS, aI, aR, aM, aK, aT, aZ, u2, aD, aF, aN, aP, aH, vH, vT, vP, vB, vE, vS) fo _ _ _ _ H locs ls hXI ⟨hS, hSI, hH, hp2.2⟩ hl hG
set_option maxHeartbeats 4000000 in
set_option maxRecDepth 100000 in
theorem op_element (hfl : l.stackTraces = false) (hLA : LA p s m args c D cA A b L xs) (hL6 : 6 * t + 6 ≤ L) (hkc : kc + 40 ≤ 601024) (hks : ks + 110 ≤ 7293034) (hI : WI pool n o dr kd fg) (hJ : WI pool n1 o1 dr1 kd1 fg1) (hM : WI pool n2 o2 dr2 kd2 fg2) (hX : SX cA pool dk rk x P) (htk : tk = b2i tkb) (hS : SR aS n o kd fg) (hSI : SR aI n1 o1 kd1 fg1) (hH : vH = b2i tkb) (hXF : ∀ d, d < 8 → SF aK aT aZ aE aD aF d (x d)) (hl : lv_has ls 8 [(4, .int (nI (6 * t))), (3, .ref out), (2, .ref (om 0)), (1, .ref (ob 6)), (0, .ref b)]) (hG : Gd D A (MW cA om aS aI aR aM aK aT aZ aE aD aF aN aP aH vH vT vP vB vE vS ++ (XW cA ob mb ss sh sp mt rc n o dr n1 o1 dr1 n2 o2 dr2 dk rk kt tk pool ++ [((out, .inl (cA 1, 1, .inr (.inl fo))) : Nat × va_E)])) s.heap H locs) (hk : LK p l e s m args below meth c Q D cA A b out t ob om (kc + 40) (ks + 110)) : W p l e room_1 s m args below meth c H locs kc ks Q (F0 m 1124 ls []) := by
  obtain ⟨hF, hK, hXX, hA, hXs, hbl, hbA, hL⟩ := hLA
  refine lv_aload_n hF.1 hF.2.1 dL_law_1124 rfl (lv_at hl 3 rfl) ?_
  refine law_arg (k := 1) hF.1 hF.2.1 hXs hbl hbA hG.2.2 hL (by omega) (lv_at hl 4 rfl) (lv_at hl 0 rfl) (by decide +kernel) dL_law_1125 dL_law_1126 dL_law_1128 dL_law_1129 dL_law_1130 ?_
  refine law_arg (k := 2) hF.1 hF.2.1 hXs hbl hbA hG.2.2 hL (by omega) (lv_at hl 4 rfl) (lv_at hl 0 rfl) (by decide +kernel) dL_law_1131 dL_law_1132 dL_law_1134 dL_law_1135 dL_law_1136 ?_
  refine lv_aload_n hF.1 hF.2.1 dL_law_1137 rfl (lv_at hl 1 rfl) ?_
  have hG : Gd D A (MW cA om aS aI aR aM aK aT aZ aE aD aF aN aP aH vH vT vP vB vE vS ++ (XW cA ob mb ss sh sp mt rc n o dr n1 o1 dr1 n2 o2 dr2 dk rk kt tk (pool ++ [((out, .inl (cA 1, 1, .inr (.inl fo))) : Nat × va_E)]) ++ [])) s.heap H locs := gd_nil hG
  refine j_ci hA (j_SX (As := [.ref (ob 6), .int (xs (6 * t + 1)), .int (xs (6 * t + 2)), .ref out]) (w0 := MW cA om aS aI aR aM aK aT aZ aE aD aF aN aP aH vH vT vP vB vE vS) (w1 := XW cA ob mb ss sh sp mt rc n o dr n1 o1 dr1 n2 o2 dr2 dk rk kt tk (pool ++ [((out, .inl (cA 1, 1, .inr (.inl fo))) : Nat × va_E)])) (w2 := []) hF hK hXX hA hG (c_L_element hfl hX) (vx_cwSW 4 hF.2.2.2.2 gL_law_L_element rfl rfl rfl (by decide +kernel) ⟨(Nat.le_of_ble_eq_true rfl), (Nat.le_of_ble_eq_true rfl)⟩) rfl hl.1 rfl (lv_room (Nat.le_of_ble_eq_true rfl)) dL_law_1138 ⟨(show kc + 1 ≤ 601024 by omega), (show ks + 6 ≤ 7293034 by omega)⟩) hG (fun r1 u1 H locs hp1 hG => ?_)
  have hG : Gd D A (MW cA om aS aI aR aM aK aT aZ aE aD aF aN aP aH vH vT vP vB vE vS ++ XW cA ob mb ss sh sp mt rc n o dr n1 o1 dr1 n2 o2 dr2 dk rk kt tk (pool ++ [((out, .inl (cA 1, 1, .inr (.inl u1))) : Nat × va_E)])) s.heap H locs := gd_lin hG
  have hG : Gd D A ([] ++ ((MW cA om aS aI aR aM aK aT aZ aE aD aF aN aP aH vH vT vP vB vE vS) ++ (XW cA ob mb ss sh sp mt rc n o dr n1 o1 dr1 n2 o2 dr2 dk rk kt tk (pool ++ [((out, .inl (cA 1, 1, .inr (.inl u1))) : Nat × va_E)])))) s.heap H locs := hG
  refine lv_istore hF.1 hF.2.1 dL_law_1141 hl (by decide) rfl (fun ls hl => ?_)
  have hl : lv_has ls 8 [(5, .int r1), (4, .int (nI (6 * t))), (3, .ref out), (2, .ref (om 0)), (1, .ref (ob 6)), (0, .ref b)] := hl
  refine lv_aload_n hF.1 hF.2.1 dL_law_1143 rfl (lv_at hl 3 rfl) ?_
  refine law_arg (k := 1) hF.1 hF.2.1 hXs hbl hbA hG.2.2 hL (by omega) (lv_at hl 5 rfl) (lv_at hl 1 rfl) (by decide +kernel) dL_law_1144 dL_law_1145 dL_law_1147 dL_law_1148 dL_law_1149 ?_
  refine law_arg (k := 2) hF.1 hF.2.1 hXs hbl hbA hG.2.2 hL (by omega) (lv_at hl 5 rfl) (lv_at hl 1 rfl) (by decide +kernel) dL_law_1150 dL_law_1151 dL_law_1153 dL_law_1154 dL_law_1155 ?_
  refine j_cl hA (j_V (As := [.int (xs (6 * t + 1)), .int (xs (6 * t + 2))]) (w0 := []) (w1 := MW cA om aS aI aR aM aK aT aZ aE aD aF aN aP aH vH vT vP vB vE vS) (w2 := XW cA ob mb ss sh sp mt rc n o dr n1 o1 dr1 n2 o2 dr2 dk rk kt tk (pool ++ [((out, .inl (cA 1, 1, .inr (.inl u1))) : Nat × va_E)])) hF hK hG (c_X12_element hXF) (cwV 2 hF.2.2.2.2 gL_law_X12_element rfl rfl rfl (by decide +kernel) ⟨(Nat.le_of_ble_eq_true rfl), (Nat.le_of_ble_eq_true rfl)⟩) 0 rfl rfl rfl rfl hl.1 rfl (lv_room (Nat.le_of_ble_eq_true rfl)) dL_law_1156 ⟨(show kc + 1 + 0 ≤ 601024 by omega), (show ks + 6 + 0 ≤ 7293034 by omega)⟩) hG (fun r2 u2 H locs hp2 hG => ?_)
  have hG : Gd D A ([] ++ ((MW cA om aS aI aR aM aK aT aZ aE aD aF aN aP aH vH u2 vP vB vE vS) ++ (XW cA ob mb ss sh sp mt rc n o dr n1 o1 dr1 n2 o2 dr2 dk rk kt tk (pool ++ [((out, .inl (cA 1, 1, .inr (.inl u1))) : Nat × va_E)])))) s.heap H locs := hG
  refine lv_lstore hF.1 hF.2.1 dL_law_1159 hl (by decide) rfl (fun ls hl => ?_)
  have hl : lv_has ls 8 [(6, .long r2), (5, .int r1), (4, .int (nI (6 * t))), (3, .ref out), (2, .ref (om 0)), (1, .ref (ob 6)), (0, .ref b)] := hl
  refine lv_aload_n hF.1 hF.2.1 dL_law_1161 rfl (lv_at hl 4 rfl) ?_
  refine j_ci hA (j_V (As := []) (w0 := []) (w1 := MW cA om aS aI aR aM aK aT aZ aE aD aF aN aP aH vH u2 vP vB vE vS) (w2 := XW cA ob mb ss sh sp mt rc n o dr n1 o1 dr1 n2 o2 dr2 dk rk kt tk (pool ++ [((out, .inl (cA 1, 1, .inr (.inl u1))) : Nat × va_E)])) hF hK hG c_X12_thrown (cwV 0 hF.2.2.2.2 gL_law_X12_thrown rfl rfl rfl (by decide +kernel) ⟨(Nat.le_of_ble_eq_true rfl), (Nat.le_of_ble_eq_true rfl)⟩) 0 rfl rfl rfl rfl hl.1 rfl (lv_room (Nat.le_of_ble_eq_true rfl)) dL_law_1162 ⟨(show kc + 1 + 0 + 0 ≤ 601024 by omega), (show ks + 6 + 0 + 0 ≤ 7293034 by omega)⟩) hG (fun r3 u3 H locs hp3 hG => ?_)
  have hG : Gd D A (MW cA om aS aI aR aM aK aT aZ aE aD aF aN aP aH vH u2 vP vB vE vS ++ (XW cA ob mb ss sh sp mt rc n o dr n1 o1 dr1 n2 o2 dr2 dk rk kt tk pool ++ [((out, .inl (cA 1, 1, .inr (.inl u1))) : Nat × va_E)])) s.heap H locs := hG
  have he := el_one (x := x) (d := xs (6 * t + 1)) (i := xs (6 * t + 2)) (r1 := r1) (v := u2) (g := u1 0) (r2 := r2) (fun z hz => el_big hXF hz) (hp1.elim (fun q => Or.inl ⟨q.1, q.2.1⟩) (fun q => q.elim (fun q => Or.inr (Or.inl ⟨q.1, q.2.1⟩)) (fun q => Or.inr (Or.inr q)))) hp2
  have hXI : XI cA (mb, ss, sh, sp, mt, rc, n, o, dr, n1, o1, dr1, n2, o2, dr2, dk, rk, kt, tk, pool) (n, o, kd, fg) (n1, o1, kd1, fg1) tkb x := ⟨⟨rfl, rfl⟩, ⟨rfl, rfl⟩, htk, hI, hJ, ⟨kd2, fg2, hM⟩, ⟨P, hX⟩⟩
  have hgo : ∀ ls, lv_has ls 8 [(4, .int (nI (6 * t))), (3, .ref out), (2, .ref (om 0)), (1, .ref (ob 6)), (0, .ref b)] → W p l e room_1 s m args below meth c H locs (kc + 1 + 0 + 0) (ks + 6 + 0 + 0) Q (F0 m 1314 ls []) := fun ls hl => W.widen (k := kc + 40) (n := ks + 110) (by omega) (by omega) (hk (mb, ss, sh, sp, mt, rc, n, o, dr, n1, o1, dr1, n2, o2, dr2, dk, rk, kt, tk, pool) (aS, aI, aR, aM, aK, aT, aZ, aE, aD, aF, aN, aP, aH, vH, u2, vP, vB, vE, vS) u1 (n, o, kd, fg) (n1, o1, kd1, fg1) tkb x H locs ls hXI ⟨hS, hSI, hH, hXF⟩ hl hG)
  have hl5 : lv_has ls 8 [(4, .int (nI (6 * t))), (3, .ref out), (2, .ref (om 0)), (1, .ref (ob 6)), (0, .ref b)] := lv_sub hl [2, 3, 4, 5, 6] rfl
  refine lv_iload hF.1 hF.2.1 dL_law_1165 (lv_at hl 1 rfl) ?_
  refine lv_icmp_eq (tgt := 1172) hF.1 hF.2.1 dL_law_1167 (by decide) (fun _ => ?_) (fun hne => absurd (hp3.trans he.1) hne)
  refine lv_iload hF.1 hF.2.1 dL_law_1172 (lv_at hl 1 rfl) ?_
  refine lv_if_ne (tgt := 1188) hF.1 hF.2.1 dL_law_1174 (by decide) (fun _ => ?_) (fun hz => ?_)
  · refine lv_goto (tgt := 1314) hF.1 hF.2.1 dL_law_1188 (by decide) ?_
    exact hgo ls hl5
  · refine lv_aload_n hF.1 hF.2.1 dL_law_1177 rfl (lv_at hl 3 rfl) ?_
    refine lv_iconst (v := nI 0) hF.1 hF.2.1 dL_law_1178 (by decide) ?_
    refine k_laldN hF hK (show Gd D A ((MW cA om aS aI aR aM aK aT aZ aE aD aF aN aP aH vH u2 vP vB vE vS ++ (XW cA ob mb ss sh sp mt rc n o dr n1 o1 dr1 n2 o2 dr2 dk rk kt tk pool)) ++ [((out, .inl (cA 1, 1, .inr (.inl u1))) : Nat × va_E)]) s.heap H locs by rw [List.append_assoc]; exact hG) _ (at_last _ _) 0 rfl (by decide) (by decide) dL_law_1179 ?_
    refine lv_lload hF.1 hF.2.1 dL_law_1180 (lv_at hl 0 rfl) ?_
    refine W.lcmp hF.1 hF.2.1 dL_law_1182 ?_
    refine lv_if_eq (tgt := 1188) hF.1 hF.2.1 dL_law_1183 (by decide) (fun _ => ?_) (fun hne => absurd ?_ hne)
    · refine lv_goto (tgt := 1314) hF.1 hF.2.1 dL_law_1188 (by decide) ?_
      exact hgo ls hl5
    · rw [he.2 hz]
      exact cmp_self r2
set_option maxHeartbeats 4000000 in
set_option maxRecDepth 100000 in
theorem op_copy (hfl : l.stackTraces = false) (hLA : LA p s m args c D cA A b L xs) (hL6 : 6 * t + 6 ≤ L) (hkc : kc + 40 ≤ 601024) (hks : ks + 110 ≤ 7293034) (hI : WI pool n o dr kd fg) (hJ : WI pool n1 o1 dr1 kd1 fg1) (hM : WI pool n2 o2 dr2 kd2 fg2) (hX : SX cA pool dk rk x P) (htk : tk = b2i tkb) (hS : SR aS n o kd fg) (hSI : SR aI n1 o1 kd1 fg1) (hH : vH = b2i tkb) (hXF : ∀ d, d < 8 → SF aK aT aZ aE aD aF d (x d)) (hl : lv_has ls 8 [(4, .int (nI (6 * t))), (3, .ref out), (2, .ref (om 0)), (1, .ref (ob 6)), (0, .ref b)]) (hG : Gd D A (MW cA om aS aI aR aM aK aT aZ aE aD aF aN aP aH vH vT vP vB vE vS ++ (XW cA ob mb ss sh sp mt rc n o dr n1 o1 dr1 n2 o2 dr2 dk rk kt tk pool ++ [((out, .inl (cA 1, 1, .inr (.inl fo))) : Nat × va_E)])) s.heap H locs) (hk : LK p l e s m args below meth c Q D cA A b out t ob om (kc + 40) (ks + 110)) : W p l e room_1 s m args below meth c H locs kc ks Q (F0 m 1191 ls []) := by
  obtain ⟨hF, hK, hXX, hA, hXs, hbl, hbA, hL⟩ := hLA
  refine lv_aload_n hF.1 hF.2.1 dL_law_1191 rfl (lv_at hl 3 rfl) ?_
  refine law_arg (k := 1) hF.1 hF.2.1 hXs hbl hbA hG.2.2 hL (by omega) (lv_at hl 4 rfl) (lv_at hl 0 rfl) (by decide +kernel) dL_law_1192 dL_law_1193 dL_law_1195 dL_law_1196 dL_law_1197 ?_
  refine law_arg (k := 2) hF.1 hF.2.1 hXs hbl hbA hG.2.2 hL (by omega) (lv_at hl 4 rfl) (lv_at hl 0 rfl) (by decide +kernel) dL_law_1198 dL_law_1199 dL_law_1201 dL_law_1202 dL_law_1203 ?_
  refine law_arg (k := 3) hF.1 hF.2.1 hXs hbl hbA hG.2.2 hL (by omega) (lv_at hl 4 rfl) (lv_at hl 0 rfl) (by decide +kernel) dL_law_1204 dL_law_1205 dL_law_1207 dL_law_1208 dL_law_1209 ?_
  refine law_arg (k := 4) hF.1 hF.2.1 hXs hbl hbA hG.2.2 hL (by omega) (lv_at hl 4 rfl) (lv_at hl 0 rfl) (by decide +kernel) dL_law_1210 dL_law_1211 dL_law_1213 dL_law_1214 dL_law_1215 ?_
  refine law_arg (k := 5) hF.1 hF.2.1 hXs hbl hbA hG.2.2 hL (by omega) (lv_at hl 4 rfl) (lv_at hl 0 rfl) (by decide +kernel) dL_law_1216 dL_law_1217 dL_law_1219 dL_law_1220 dL_law_1221 ?_
  refine j_ci hA (j_V (As := [.int (xs (6 * t + 1)), .int (xs (6 * t + 2)), .int (xs (6 * t + 3)), .int (xs (6 * t + 4)), .int (xs (6 * t + 5))]) (w0 := MW cA om aS aI aR aM aK aT aZ aE aD aF aN aP aH vH vT vP vB vE vS) (w1 := XW cA ob mb ss sh sp mt rc n o dr n1 o1 dr1 n2 o2 dr2 dk rk kt tk pool) (w2 := [((out, .inl (cA 1, 1, .inr (.inl fo))) : Nat × va_E)]) hF hK hG (c_X11_copy hI hJ hM hX htk) (cwV 5 hF.2.2.2.2 gL_law_X11_copy rfl rfl rfl (by decide +kernel) ⟨(Nat.le_of_ble_eq_true rfl), (Nat.le_of_ble_eq_true rfl)⟩) 6 rfl rfl rfl rfl hl.1 rfl (lv_room (Nat.le_of_ble_eq_true rfl)) dL_law_1222 ⟨(show kc + 0 ≤ 601024 by omega), (show ks + 0 ≤ 7293034 by omega)⟩) hG (fun r1 u1 H locs hp1 hG => ?_)
  obtain ⟨hr1, hXI⟩ := hp1
  have hG : Gd D A ([] ++ ((MW cA om aS aI aR aM aK aT aZ aE aD aF aN aP aH vH vT vP vB vE vS) ++ (XV cA ob u1 ++ [((out, .inl (cA 1, 1, .inr (.inl fo))) : Nat × va_E)]))) s.heap H locs := hG
  refine lv_aload_n hF.1 hF.2.1 dL_law_1225 rfl (lv_at hl 2 rfl) ?_
  refine law_arg (k := 1) hF.1 hF.2.1 hXs hbl hbA hG.2.2 hL (by omega) (lv_at hl 4 rfl) (lv_at hl 0 rfl) (by decide +kernel) dL_law_1226 dL_law_1227 dL_law_1229 dL_law_1230 dL_law_1231 ?_
  refine law_arg (k := 2) hF.1 hF.2.1 hXs hbl hbA hG.2.2 hL (by omega) (lv_at hl 4 rfl) (lv_at hl 0 rfl) (by decide +kernel) dL_law_1232 dL_law_1233 dL_law_1235 dL_law_1236 dL_law_1237 ?_
  refine law_arg (k := 3) hF.1 hF.2.1 hXs hbl hbA hG.2.2 hL (by omega) (lv_at hl 4 rfl) (lv_at hl 0 rfl) (by decide +kernel) dL_law_1238 dL_law_1239 dL_law_1241 dL_law_1242 dL_law_1243 ?_
  refine law_arg (k := 4) hF.1 hF.2.1 hXs hbl hbA hG.2.2 hL (by omega) (lv_at hl 4 rfl) (lv_at hl 0 rfl) (by decide +kernel) dL_law_1244 dL_law_1245 dL_law_1247 dL_law_1248 dL_law_1249 ?_
  refine law_arg (k := 5) hF.1 hF.2.1 hXs hbl hbA hG.2.2 hL (by omega) (lv_at hl 4 rfl) (lv_at hl 0 rfl) (by decide +kernel) dL_law_1250 dL_law_1251 dL_law_1253 dL_law_1254 dL_law_1255 ?_
  refine j_ci hA (j_V (As := [.int (xs (6 * t + 1)), .int (xs (6 * t + 2)), .int (xs (6 * t + 3)), .int (xs (6 * t + 4)), .int (xs (6 * t + 5))]) (w0 := []) (w1 := MW cA om aS aI aR aM aK aT aZ aE aD aF aN aP aH vH vT vP vB vE vS) (w2 := XV cA ob u1 ++ [((out, .inl (cA 1, 1, .inr (.inl fo))) : Nat × va_E)]) hF hK hG (c_X12_copy hXF) (cwV 5 hF.2.2.2.2 gL_law_X12_copy rfl rfl rfl (by decide +kernel) ⟨(Nat.le_of_ble_eq_true rfl), (Nat.le_of_ble_eq_true rfl)⟩) 0 rfl rfl rfl rfl hl.1 rfl (lv_room (Nat.le_of_ble_eq_true rfl)) dL_law_1256 ⟨(show kc + 0 + 0 ≤ 601024 by omega), (show ks + 0 + 0 ≤ 7293034 by omega)⟩) hG (fun r2 u2 H locs hp2 hG => ?_)
  have he : r1 = r2 := hr1.trans hp2.1.symm
  refine lv_icmp_eq (tgt := 1314) hF.1 hF.2.1 dL_law_1259 (by decide) (fun _ => ?_) (fun hne => absurd he hne)
  refine W.widen (k := kc + 40) (n := ks + 110) (by omega) (by omega) ?_
  exact hk u1 (aS, aI, aR, aM, aK, aT, aZ, u2, aD, aF, aN, aP, aH, vH, vT, vP, vB, vE, vS) fo _ _ _ _ H locs ls hXI ⟨hS, hSI, hH, hp2.2⟩ hl hG
set_option maxHeartbeats 4000000 in
set_option maxRecDepth 100000 in
theorem op_cost (hfl : l.stackTraces = false) (hLA : LA p s m args c D cA A b L xs) (hL6 : 6 * t + 6 ≤ L) (hkc : kc + 40 ≤ 601024) (hks : ks + 110 ≤ 7293034) (hI : WI pool n o dr kd fg) (hJ : WI pool n1 o1 dr1 kd1 fg1) (hM : WI pool n2 o2 dr2 kd2 fg2) (hX : SX cA pool dk rk x P) (htk : tk = b2i tkb) (hS : SR aS n o kd fg) (hSI : SR aI n1 o1 kd1 fg1) (hH : vH = b2i tkb) (hXF : ∀ d, d < 8 → SF aK aT aZ aE aD aF d (x d)) (hl : lv_has ls 8 [(4, .int (nI (6 * t))), (3, .ref out), (2, .ref (om 0)), (1, .ref (ob 6)), (0, .ref b)]) (hG : Gd D A (MW cA om aS aI aR aM aK aT aZ aE aD aF aN aP aH vH vT vP vB vE vS ++ (XW cA ob mb ss sh sp mt rc n o dr n1 o1 dr1 n2 o2 dr2 dk rk kt tk pool ++ [((out, .inl (cA 1, 1, .inr (.inl fo))) : Nat × va_E)])) s.heap H locs) (hk : LK p l e s m args below meth c Q D cA A b out t ob om (kc + 40) (ks + 110)) : W p l e room_1 s m args below meth c H locs kc ks Q (F0 m 1264 ls []) := by
  obtain ⟨hF, hK, hXX, hA, hXs, hbl, hbA, hL⟩ := hLA
  refine lv_aload_n hF.1 hF.2.1 dL_law_1264 rfl (lv_at hl 3 rfl) ?_
  refine law_arg (k := 1) hF.1 hF.2.1 hXs hbl hbA hG.2.2 hL (by omega) (lv_at hl 4 rfl) (lv_at hl 0 rfl) (by decide +kernel) dL_law_1265 dL_law_1266 dL_law_1268 dL_law_1269 dL_law_1270 ?_
  refine j_ci hA (j_V (As := [.int (xs (6 * t + 1))]) (w0 := MW cA om aS aI aR aM aK aT aZ aE aD aF aN aP aH vH vT vP vB vE vS) (w1 := XW cA ob mb ss sh sp mt rc n o dr n1 o1 dr1 n2 o2 dr2 dk rk kt tk pool) (w2 := [((out, .inl (cA 1, 1, .inr (.inl fo))) : Nat × va_E)]) hF hK hG (c_X11_cost hI hJ hM hX htk) (cwV 1 hF.2.2.2.2 gL_law_X11_cost rfl rfl rfl (by decide +kernel) ⟨(Nat.le_of_ble_eq_true rfl), (Nat.le_of_ble_eq_true rfl)⟩) 6 rfl rfl rfl rfl hl.1 rfl (lv_room (Nat.le_of_ble_eq_true rfl)) dL_law_1271 ⟨(show kc + 0 ≤ 601024 by omega), (show ks + 0 ≤ 7293034 by omega)⟩) hG (fun r1 u1 H locs hp1 hG => ?_)
  obtain ⟨hr1, hXI⟩ := hp1
  have hG : Gd D A ([] ++ ((MW cA om aS aI aR aM aK aT aZ aE aD aF aN aP aH vH vT vP vB vE vS) ++ (XV cA ob u1 ++ [((out, .inl (cA 1, 1, .inr (.inl fo))) : Nat × va_E)]))) s.heap H locs := hG
  refine lv_aload_n hF.1 hF.2.1 dL_law_1274 rfl (lv_at hl 2 rfl) ?_
  refine law_arg (k := 1) hF.1 hF.2.1 hXs hbl hbA hG.2.2 hL (by omega) (lv_at hl 4 rfl) (lv_at hl 0 rfl) (by decide +kernel) dL_law_1275 dL_law_1276 dL_law_1278 dL_law_1279 dL_law_1280 ?_
  refine j_ci hA (j_V (As := [.int (xs (6 * t + 1))]) (w0 := []) (w1 := MW cA om aS aI aR aM aK aT aZ aE aD aF aN aP aH vH vT vP vB vE vS) (w2 := XV cA ob u1 ++ [((out, .inl (cA 1, 1, .inr (.inl fo))) : Nat × va_E)]) hF hK hG (c_X12_cost hXF) (cwV 1 hF.2.2.2.2 gL_law_X12_cost rfl rfl rfl (by decide +kernel) ⟨(Nat.le_of_ble_eq_true rfl), (Nat.le_of_ble_eq_true rfl)⟩) 0 rfl rfl rfl rfl hl.1 rfl (lv_room (Nat.le_of_ble_eq_true rfl)) dL_law_1281 ⟨(show kc + 0 + 0 ≤ 601024 by omega), (show ks + 0 + 0 ≤ 7293034 by omega)⟩) hG (fun r2 u2 H locs hp2 hG => ?_)
  have he : r1 = r2 := hr1.trans hp2.symm
  refine lv_icmp_eq (tgt := 1314) hF.1 hF.2.1 dL_law_1284 (by decide) (fun _ => ?_) (fun hne => absurd he hne)
  refine W.widen (k := kc + 40) (n := ks + 110) (by omega) (by omega) ?_
  exact hk u1 (aS, aI, aR, aM, aK, aT, aZ, aE, aD, aF, aN, aP, aH, vH, vT, vP, vB, vE, vS) fo _ _ _ _ H locs ls hXI ⟨hS, hSI, hH, hXF⟩ hl hG
set_option maxHeartbeats 4000000 in
set_option maxRecDepth 100000 in
theorem op_toss (hfl : l.stackTraces = false) (hLA : LA p s m args c D cA A b L xs) (hL6 : 6 * t + 6 ≤ L) (hkc : kc + 40 ≤ 601024) (hks : ks + 110 ≤ 7293034) (hI : WI pool n o dr kd fg) (hJ : WI pool n1 o1 dr1 kd1 fg1) (hM : WI pool n2 o2 dr2 kd2 fg2) (hX : SX cA pool dk rk x P) (htk : tk = b2i tkb) (hS : SR aS n o kd fg) (hSI : SR aI n1 o1 kd1 fg1) (hH : vH = b2i tkb) (hXF : ∀ d, d < 8 → SF aK aT aZ aE aD aF d (x d)) (hl : lv_has ls 8 [(4, .int (nI (6 * t))), (3, .ref out), (2, .ref (om 0)), (1, .ref (ob 6)), (0, .ref b)]) (hG : Gd D A (MW cA om aS aI aR aM aK aT aZ aE aD aF aN aP aH vH vT vP vB vE vS ++ (XW cA ob mb ss sh sp mt rc n o dr n1 o1 dr1 n2 o2 dr2 dk rk kt tk pool ++ [((out, .inl (cA 1, 1, .inr (.inl fo))) : Nat × va_E)])) s.heap H locs) (hk : LK p l e s m args below meth c Q D cA A b out t ob om (kc + 40) (ks + 110)) : W p l e room_1 s m args below meth c H locs kc ks Q (F0 m 1289 ls []) := by
  obtain ⟨hF, hK, hXX, hA, hXs, hbl, hbA, hL⟩ := hLA
  refine lv_aload_n hF.1 hF.2.1 dL_law_1289 rfl (lv_at hl 3 rfl) ?_
  refine law_arg (k := 1) hF.1 hF.2.1 hXs hbl hbA hG.2.2 hL (by omega) (lv_at hl 4 rfl) (lv_at hl 0 rfl) (by decide +kernel) dL_law_1290 dL_law_1291 dL_law_1293 dL_law_1294 dL_law_1295 ?_
  refine j_ci hA (j_VX (As := [.int (xs (6 * t + 1))]) (w0 := MW cA om aS aI aR aM aK aT aZ aE aD aF aN aP aH vH vT vP vB vE vS) (w1 := XW cA ob mb ss sh sp mt rc n o dr n1 o1 dr1 n2 o2 dr2 dk rk kt tk pool) (w2 := [((out, .inl (cA 1, 1, .inr (.inl fo))) : Nat × va_E)]) hF hK hXX hA hG (c_X11_toss hfl hI hJ hM hX htk) (vx_cwVW 1 hF.2.2.2.2 gL_law_X11_toss rfl rfl rfl (by decide +kernel) ⟨(Nat.le_of_ble_eq_true rfl), (Nat.le_of_ble_eq_true rfl)⟩) 6 rfl rfl rfl rfl hl.1 rfl (lv_room (Nat.le_of_ble_eq_true rfl)) dL_law_1296 ⟨(show kc + 1 ≤ 601024 by omega), (show ks + 6 ≤ 7293034 by omega)⟩) hG (fun r1 u1 H locs hp1 hG => ?_)
  obtain ⟨hr1, hXI⟩ := hp1
  have hG : Gd D A ([] ++ ((MW cA om aS aI aR aM aK aT aZ aE aD aF aN aP aH vH vT vP vB vE vS) ++ (XV cA ob u1 ++ [((out, .inl (cA 1, 1, .inr (.inl fo))) : Nat × va_E)]))) s.heap H locs := hG
  refine lv_aload_n hF.1 hF.2.1 dL_law_1299 rfl (lv_at hl 2 rfl) ?_
  refine law_arg (k := 1) hF.1 hF.2.1 hXs hbl hbA hG.2.2 hL (by omega) (lv_at hl 4 rfl) (lv_at hl 0 rfl) (by decide +kernel) dL_law_1300 dL_law_1301 dL_law_1303 dL_law_1304 dL_law_1305 ?_
  refine j_ci hA (j_V (As := [.int (xs (6 * t + 1))]) (w0 := []) (w1 := MW cA om aS aI aR aM aK aT aZ aE aD aF aN aP aH vH vT vP vB vE vS) (w2 := XV cA ob u1 ++ [((out, .inl (cA 1, 1, .inr (.inl fo))) : Nat × va_E)]) hF hK hG (c_X12_toss hXF) (cwV 1 hF.2.2.2.2 gL_law_X12_toss rfl rfl rfl (by decide +kernel) ⟨(Nat.le_of_ble_eq_true rfl), (Nat.le_of_ble_eq_true rfl)⟩) 0 rfl rfl rfl rfl hl.1 rfl (lv_room (Nat.le_of_ble_eq_true rfl)) dL_law_1306 ⟨(show kc + 1 + 0 ≤ 601024 by omega), (show ks + 6 + 0 ≤ 7293034 by omega)⟩) hG (fun r2 u2 H locs hp2 hG => ?_)
  have he : r1 = r2 := hr1.trans hp2.symm
  refine lv_icmp_eq (tgt := 1314) hF.1 hF.2.1 dL_law_1309 (by decide) (fun _ => ?_) (fun hne => absurd he hne)
  refine W.widen (k := kc + 40) (n := ks + 110) (by omega) (by omega) ?_
  exact hk u1 (aS, aI, aR, aM, aK, aT, aZ, aE, aD, aF, aN, aP, aH, vH, vT, vP, vB, vE, vS) fo _ _ _ _ H locs ls hXI ⟨hS, hSI, hH, hXF⟩ hl hG
end OPS
