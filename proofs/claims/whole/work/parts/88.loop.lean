theorem and31 (v : Int32) : ∃ j, j < 32 ∧ v &&& nI 31 = nI j := by
  obtain ⟨k, rfl⟩ : ∃ k, v = nI k := ⟨v.toBitVec.toNat, by
    apply Int32.toBitVec_inj.1
    show v.toBitVec = BitVec.ofNat 32 v.toBitVec.toNat
    simp⟩
  exact ⟨k &&& 31, Nat.lt_of_le_of_lt Nat.and_le_right (by decide), nx_and k 31⟩
theorem len6 {L : Nat} (h : L < 3073) : (nI L - nI 6).toInt = (L : Int) - 6 := by
  rw [Int32.toInt_sub, nI_toInt (by omega), nI_toInt (by omega)]
  rw [Int.bmod_eq_of_le] <;> omega
section LOOP
variable {p : Program} {l : Launch} {e : Env} {s : State} {m : MethodId} {args : Array Value} {below : List Frame} {meth : Method} {c : Code} {Q : State → Prop}
variable {D : va_G} {cA : Nat → ClassId} {A : Nat → Prop} {b out L t kc ks : Nat} {xs : Nat → Int32} {ob om : Nat → Nat} {fo : Nat → Int64}
variable {mb ss sh sp : Nat → Int32} {mt : Nat → Int64} {rc n o : Nat} {dr : Nat → Option Nat} {n1 o1 : Nat} {dr1 : Nat → Option Nat} {n2 o2 : Nat} {dr2 dk rk : Nat → Option Nat} {kt : Nat → Int32} {tk : Int32} {pool : va_W}
variable {aS aI aR aM aK aT aZ aE aD aF aN aP aH : Nat → Int32} {vH vT vP vB vE vS : Int32} {kd fg kd1 fg1 kd2 fg2 : Nat → Nat} {x : Nat → Sf} {P : Nat → Nat} {tkb : Bool} {H : Heap} {locs : List Loc} {ls : Array Slot}
theorem law_head (hLA : LA p s m args c D cA A b L xs) (h6 : 6 * t ≤ L) (hS : va_S A s.heap H locs) (hl : lv_has ls 8 [(4, .int (nI (6 * t))), (3, .ref out), (2, .ref (om 0)), (1, .ref (ob 6)), (0, .ref b)]) (kt : L < 6 * t + 6 → W p l e room_1 s m args below meth c H locs kc ks Q (F0 m 1320 ls [])) (kf : 6 * t + 6 ≤ L → ∀ j, j < 32 → W p l e room_1 s m args below meth c H locs kc ks Q (F0 m 40 ls [.int (nI j)])) : W p l e room_1 s m args below meth c H locs kc ks Q (F0 m 23 ls []) := by
  obtain ⟨hF, hK, hXX, hA, hXs, hbl, hbA, hL⟩ := hLA
  refine lv_iload hF.1 hF.2.1 dL_law_23 (lv_at hl 0 rfl) ?_
  refine lv_aload_n hF.1 hF.2.1 dL_law_25 rfl (lv_at hl 4 rfl) ?_
  refine va_slen hF.1 hF.2.1 hXs hbl hbA hS dL_law_26 ?_
  refine lv_bipush (v := nI 6) hF.1 hF.2.1 dL_law_27 (by decide +kernel) ?_
  refine lv_isub hF.1 hF.2.1 dL_law_29 ?_
  refine lv_icmp_gt (tgt := 1320) hF.1 hF.2.1 dL_law_30 (by decide) (fun h => kt ?_) (fun h => ?_)
  · have h : nI L - nI 6 < nI (6 * t) := h
    rw [Int32.lt_iff_toInt_lt, len6 (by omega), nI_toInt (by omega)] at h
    omega
  · have h : ¬ nI L - nI 6 < nI (6 * t) := h
    rw [Int32.lt_iff_toInt_lt, len6 (by omega), nI_toInt (by omega)] at h
    have h9 : 6 * t + 6 ≤ L := by omega
    refine lv_aload_n hF.1 hF.2.1 dL_law_33 rfl (lv_at hl 4 rfl) ?_
    refine lv_iload hF.1 hF.2.1 dL_law_34 (lv_at hl 0 rfl) ?_
    refine va_sld hF.1 hF.2.1 hXs hbl hbA hS (vp_in_nI (by omega) (by omega)) dL_law_36 ?_
    refine lv_bipush (v := nI 31) hF.1 hF.2.1 dL_law_37 (by decide +kernel) ?_
    refine lv_iand hF.1 hF.2.1 dL_law_39 ?_
    obtain ⟨j, hj, ej⟩ := and31 (xs (nI (6 * t)).toNatClampNeg)
    rw [ej]
    exact kf h9 j hj
set_option maxHeartbeats 4000000 in
set_option maxRecDepth 100000 in
theorem law_go (hfl : l.stackTraces = false) (hLA : LA p s m args c D cA A b L xs) (hAs : ∀ q, A q → s.heap.size ≤ q) (hend : ∀ (H : Heap) (ls : Array Slot), W p l e room_1 s m args below meth c H [] 601024 7293034 Q (F0 m 1321 ls [.int 1])) : ∀ (r t kc ks : Nat) (u : XS) (v : MS) (fo : Nat → Int64) (w im : Wl) (tkb : Bool) (x : Nat → Sf) (H : Heap) (locs : List Loc) (ls : Array Slot), 6 * t ≤ L → L ≤ 6 * (t + r) + 5 → kc + 40 * r ≤ 601024 → ks + 110 * r ≤ 7293034 → XI cA u w im tkb x → RJ v w im tkb x → lv_has ls 8 [(4, .int (nI (6 * t))), (3, .ref out), (2, .ref (om 0)), (1, .ref (ob 6)), (0, .ref b)] → Gd D A (MV cA om v ++ (XV cA ob u ++ [((out, .inl (cA 1, 1, .inr (.inl fo))) : Nat × va_E)])) s.heap H locs → W p l e room_1 s m args below meth c H locs kc ks Q (F0 m 23 ls []) := by
  obtain ⟨hF, hK, hXX, hA, hXs, hbl, hbA, hL⟩ := id hLA
  intro r
  have exit : ∀ (kc ks : Nat) (H : Heap) (locs : List Loc) (ls : Array Slot), va_S A s.heap H locs → kc ≤ 601024 → ks ≤ 7293034 → W p l e room_1 s m args below meth c H locs kc ks Q (F0 m 1320 ls []) := fun kc ks H locs ls hS h1 h2 => by
    refine lv_iconst (v := 1) hF.1 hF.2.1 dL_law_1320 (by decide +kernel) ?_
    refine va_forget (fun q hq => hAs _ (hS.2.2 q hq)) ?_
    refine W.widen (k := 601024) (n := 7293034) h1 h2 ?_
    exact hend H ls
  induction r with
  | zero =>
    intro t kc ks u v fo w im tkb x H locs ls h6 hr hc hs hXI hRJ hl hG
    exact law_head hLA h6 hG.2.2 hl (fun _ => exit kc ks H locs ls hG.2.2 (by omega) (by omega)) (fun h => absurd h (by omega))
  | succ r ih =>
    intro t kc ks u v fo w im tkb x H locs ls h6 hr hc hs hXI hRJ hl hG
    refine law_head hLA h6 hG.2.2 hl (fun _ => exit kc ks H locs ls hG.2.2 (by omega) (by omega)) (fun h9 j hj => ?_)
    have hk : LK p l e s m args below meth c Q D cA A b out t ob om (kc + 40) (ks + 110) := by
      intro u v fo w im tkb x H locs ls hXI hRJ hl hG
      refine lv_iinc (k := 0) hF.1 hF.2.1 dL_law_1314 hl rfl (nI_inc (6 * t) 6) (by decide) rfl (fun ls hl => ?_)
      have hl : lv_has ls 8 [(4, .int (nI (6 * (t + 1)))), (3, .ref out), (2, .ref (om 0)), (1, .ref (ob 6)), (0, .ref b)] := by
        have e9 : 6 * (t + 1) = 6 * t + 6 := by omega
        rw [e9]
        exact hl
      refine lv_goto (tgt := 23) hF.1 hF.2.1 dL_law_1317 (by decide) ?_
      exact ih (t + 1) (kc + 40) (ks + 110) u v fo w im tkb x H locs ls (by omega) (by omega) (by omega) (by omega) hXI hRJ hl hG
    obtain ⟨n0, o0, kd, fg⟩ := w
    obtain ⟨n1, o1, kd1, fg1⟩ := im
    obtain ⟨⟨e1, e2⟩, ⟨e3, e4⟩, htk, hI, hJ, ⟨kd2, fg2, hM⟩, ⟨P, hX⟩⟩ := hXI
    obtain ⟨hS, hSI, hH, hXF⟩ := hRJ
    have e1 : u.2.2.2.2.2.2.1 = n0 := e1
    have e2 : u.2.2.2.2.2.2.2.1 = o0 := e2
    have e3 : u.2.2.2.2.2.2.2.2.2.1 = n1 := e3
    have e4 : u.2.2.2.2.2.2.2.2.2.2.1 = o1 := e4
    subst e1 e2 e3 e4
    have hc : kc + 40 ≤ 601024 := by omega
    have hs : ks + 110 ≤ 7293034 := by omega
    match j, hj with
    | 0, _ => exact lv_tableIn (tgt := 184) hF.1 hF.2.1 dL_law_40 (by decide +kernel) (by decide +kernel) rfl (by decide) (op_wall hfl hLA h9 hc hs hI hJ hM hX htk hS hSI hH hXF hl hG hk)
    | 1, _ => exact lv_tableIn (tgt := 209) hF.1 hF.2.1 dL_law_40 (by decide +kernel) (by decide +kernel) rfl (by decide) (op_drawer hfl hLA h9 hc hs hI hJ hM hX htk hS hSI hH hXF hl hG hk)
    | 2, _ => exact lv_tableIn (tgt := 246) hF.1 hF.2.1 dL_law_40 (by decide +kernel) (by decide +kernel) rfl (by decide) (op_comes hfl hLA h9 hc hs hI hJ hM hX htk hS hSI hH hXF hl hG hk)
    | 3, _ => exact lv_tableIn (tgt := 271) hF.1 hF.2.1 dL_law_40 (by decide +kernel) (by decide +kernel) rfl (by decide) (op_changes hfl hLA h9 hc hs hI hJ hM hX htk hS hSI hH hXF hl hG hk)
    | 4, _ => exact lv_tableIn (tgt := 308) hF.1 hF.2.1 dL_law_40 (by decide +kernel) (by decide +kernel) rfl (by decide) (op_pull hfl hLA h9 hc hs hI hJ hM hX htk hS hSI hH hXF hl hG hk)
    | 5, _ => exact lv_tableIn (tgt := 333) hF.1 hF.2.1 dL_law_40 (by decide +kernel) (by decide +kernel) rfl (by decide) (op_standing hfl hLA h9 hc hs hI hJ hM hX htk hS hSI hH hXF hl hG hk)
    | 6, _ => exact lv_tableIn (tgt := 358) hF.1 hF.2.1 dL_law_40 (by decide +kernel) (by decide +kernel) rfl (by decide) (op_stand hfl hLA h9 hc hs hI hJ hM hX htk hS hSI hH hXF hl hG hk)
    | 7, _ => exact lv_tableIn (tgt := 383) hF.1 hF.2.1 dL_law_40 (by decide +kernel) (by decide +kernel) rfl (by decide) (op_fewest hfl hLA h9 hc hs hI hJ hM hX htk hS hSI hH hXF hl hG hk)
    | 8, _ => exact lv_tableIn (tgt := 420) hF.1 hF.2.1 dL_law_40 (by decide +kernel) (by decide +kernel) rfl (by decide) (op_first hfl hLA h9 hc hs hI hJ hM hX htk hS hSI hH hXF hl hG hk)
    | 9, _ => exact lv_tableIn (tgt := 457) hF.1 hF.2.1 dL_law_40 (by decide +kernel) (by decide +kernel) rfl (by decide) (op_far hfl hLA h9 hc hs hI hJ hM hX htk hS hSI hH hXF hl hG hk)
    | 10, _ => exact lv_tableIn (tgt := 482) hF.1 hF.2.1 dL_law_40 (by decide +kernel) (by decide +kernel) rfl (by decide) (op_never hfl hLA h9 hc hs hI hJ hM hX htk hS hSI hH hXF hl hG hk)
    | 11, _ => exact lv_tableIn (tgt := 495) hF.1 hF.2.1 dL_law_40 (by decide +kernel) (by decide +kernel) rfl (by decide) (op_place hfl hLA h9 hc hs hI hJ hM hX htk hS hSI hH hXF hl hG hk)
    | 12, _ => exact lv_tableIn (tgt := 520) hF.1 hF.2.1 dL_law_40 (by decide +kernel) (by decide +kernel) rfl (by decide) (op_at hfl hLA h9 hc hs hI hJ hM hX htk hS hSI hH hXF hl hG hk)
    | 13, _ => exact lv_tableIn (tgt := 545) hF.1 hF.2.1 dL_law_40 (by decide +kernel) (by decide +kernel) rfl (by decide) (op_had hfl hLA h9 hc hs hI hJ hM hX htk hS hSI hH hXF hl hG hk)
    | 14, _ => exact lv_tableIn (tgt := 570) hF.1 hF.2.1 dL_law_40 (by decide +kernel) (by decide +kernel) rfl (by decide) (op_freed hfl hLA h9 hc hs hI hJ hM hX htk hS hSI hH hXF hl hG hk)
    | 15, _ => exact lv_tableIn (tgt := 595) hF.1 hF.2.1 dL_law_40 (by decide +kernel) (by decide +kernel) rfl (by decide) (op_longest hfl hLA h9 hc hs hI hJ hM hX htk hS hSI hH hXF hl hG hk)
    | 16, _ => exact lv_tableIn (tgt := 656) hF.1 hF.2.1 dL_law_40 (by decide +kernel) (by decide +kernel) rfl (by decide) (op_tried hfl hLA h9 hc hs hI hJ hM hX htk hS hSI hH hXF hl hG hk)
    | 17, _ => exact lv_tableIn (tgt := 705) hF.1 hF.2.1 dL_law_40 (by decide +kernel) (by decide +kernel) rfl (by decide) (op_next hfl hLA h9 hc hs hI hJ hM hX htk hS hSI hH hXF hl hG hk)
    | 18, _ => exact lv_tableIn (tgt := 766) hF.1 hF.2.1 dL_law_40 (by decide +kernel) (by decide +kernel) rfl (by decide) (op_game hfl hLA h9 hc hs hI hJ hM hX htk hS hSI hH hXF hl hG hk)
    | 19, _ => exact lv_tableIn (tgt := 803) hF.1 hF.2.1 dL_law_40 (by decide +kernel) (by decide +kernel) rfl (by decide) (op_run hfl hLA h9 hc hs hI hJ hM hX htk hS hSI hH hXF hl hG hk)
    | 20, _ => exact lv_tableIn (tgt := 840) hF.1 hF.2.1 dL_law_40 (by decide +kernel) (by decide +kernel) rfl (by decide) (op_seeded hfl hLA h9 hc hs hI hJ hM hX htk hS hSI hH hXF hl hG hk)
    | 21, _ => exact lv_tableIn (tgt := 889) hF.1 hF.2.1 dL_law_40 (by decide +kernel) (by decide +kernel) rfl (by decide) (op_judge hfl hLA h9 hc hs hI hJ hM hX htk hS hSI hH hXF hl hG hk)
    | 22, _ => exact lv_tableIn (tgt := 914) hF.1 hF.2.1 dL_law_40 (by decide +kernel) (by decide +kernel) rfl (by decide) (op_image hfl hLA h9 hc hs hI hJ hM hX htk hS hSI hH hXF hl hG hk)
    | 23, _ => exact lv_tableIn (tgt := 927) hF.1 hF.2.1 dL_law_40 (by decide +kernel) (by decide +kernel) rfl (by decide) (op_restore hfl hLA h9 hc hs hI hJ hM hX htk hS hSI hH hXF hl hG hk)
    | 24, _ => exact lv_tableIn (tgt := 940) hF.1 hF.2.1 dL_law_40 (by decide +kernel) (by decide +kernel) rfl (by decide) (op_count hfl hLA h9 hc hs hI hJ hM hX htk hS hSI hH hXF hl hG hk)
    | 25, _ => exact lv_tableIn (tgt := 965) hF.1 hF.2.1 dL_law_40 (by decide +kernel) (by decide +kernel) rfl (by decide) (op_keep hfl hLA h9 hc hs hI hJ hM hX htk hS hSI hH hXF hl hG hk)
    | 26, _ => exact lv_tableIn (tgt := 1026) hF.1 hF.2.1 dL_law_40 (by decide +kernel) (by decide +kernel) rfl (by decide) (op_row hfl hLA h9 hc hs hI hJ hM hX htk hS hSI hH hXF hl hG hk)
    | 27, _ => exact lv_tableIn (tgt := 1075) hF.1 hF.2.1 dL_law_40 (by decide +kernel) (by decide +kernel) rfl (by decide) (op_put hfl hLA h9 hc hs hI hJ hM hX htk hS hSI hH hXF hl hG hk)
    | 28, _ => exact lv_tableIn (tgt := 1124) hF.1 hF.2.1 dL_law_40 (by decide +kernel) (by decide +kernel) rfl (by decide) (op_element hfl hLA h9 hc hs hI hJ hM hX htk hS hSI hH hXF hl hG hk)
    | 29, _ => exact lv_tableIn (tgt := 1191) hF.1 hF.2.1 dL_law_40 (by decide +kernel) (by decide +kernel) rfl (by decide) (op_copy hfl hLA h9 hc hs hI hJ hM hX htk hS hSI hH hXF hl hG hk)
    | 30, _ => exact lv_tableIn (tgt := 1264) hF.1 hF.2.1 dL_law_40 (by decide +kernel) (by decide +kernel) rfl (by decide) (op_cost hfl hLA h9 hc hs hI hJ hM hX htk hS hSI hH hXF hl hG hk)
    | 31, _ => exact lv_tableIn (tgt := 1289) hF.1 hF.2.1 dL_law_40 (by decide +kernel) (by decide +kernel) rfl (by decide) (op_toss hfl hLA h9 hc hs hI hJ hM hX htk hS hSI hH hXF hl hG hk)
    | j + 32, h => exact absurd h (by omega)
end LOOP
