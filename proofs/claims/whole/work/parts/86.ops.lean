section OPS
variable {p : Program} {l : Launch} {e : Env} {s : State} {m : MethodId} {args : Array Value} {below : List Frame} {meth : Method} {c : Code} {Q : State → Prop}
variable {D : va_G} {cA : Nat → ClassId} {A : Nat → Prop} {b out L t kc ks : Nat} {xs : Nat → Int32} {ob om : Nat → Nat} {fo : Nat → Int64}
variable {mb ss sh sp : Nat → Int32} {mt : Nat → Int64} {rc n o : Nat} {dr : Nat → Option Nat} {n1 o1 : Nat} {dr1 : Nat → Option Nat} {n2 o2 : Nat} {dr2 dk rk : Nat → Option Nat} {kt : Nat → Int32} {tk : Int32} {pool : va_W}
variable {aS aI aR aM aK aT aZ aE aD aF aN aP aH : Nat → Int32} {vH vT vP vB vE vS : Int32} {kd fg kd1 fg1 kd2 fg2 : Nat → Nat} {x : Nat → Sf} {P : Nat → Nat} {tkb : Bool} {H : Heap} {locs : List Loc} {ls : Array Slot}
set_option maxHeartbeats 4000000 in
set_option maxRecDepth 100000 in
theorem op_tried (hfl : l.stackTraces = false) (hLA : LA p s m args c D cA A b L xs) (hL6 : 6 * t + 6 ≤ L) (hkc : kc + 40 ≤ 601024) (hks : ks + 110 ≤ 7293034) (hI : WI pool n o dr kd fg) (hJ : WI pool n1 o1 dr1 kd1 fg1) (hM : WI pool n2 o2 dr2 kd2 fg2) (hX : SX cA pool dk rk x P) (htk : tk = b2i tkb) (hS : SR aS n o kd fg) (hSI : SR aI n1 o1 kd1 fg1) (hH : vH = b2i tkb) (hXF : ∀ d, d < 8 → SF aK aT aZ aE aD aF d (x d)) (hl : lv_has ls 8 [(4, .int (nI (6 * t))), (3, .ref out), (2, .ref (om 0)), (1, .ref (ob 6)), (0, .ref b)]) (hG : Gd D A (MW cA om aS aI aR aM aK aT aZ aE aD aF aN aP aH vH vT vP vB vE vS ++ (XW cA ob mb ss sh sp mt rc n o dr n1 o1 dr1 n2 o2 dr2 dk rk kt tk pool ++ [((out, .inl (cA 1, 1, .inr (.inl fo))) : Nat × va_E)])) s.heap H locs) (hk : LK p l e s m args below meth c Q D cA A b out t ob om (kc + 40) (ks + 110)) : W p l e room_1 s m args below meth c H locs kc ks Q (F0 m 656 ls []) := by
  obtain ⟨hF, hK, hXX, hA, hXs, hbl, hbA, hL⟩ := hLA
  refine lv_aload_n hF.1 hF.2.1 dL_law_656 rfl (lv_at hl 3 rfl) ?_
  refine law_arg (k := 1) hF.1 hF.2.1 hXs hbl hbA hG.2.2 hL (by omega) (lv_at hl 4 rfl) (lv_at hl 0 rfl) (by decide +kernel) dL_law_657 dL_law_658 dL_law_660 dL_law_661 dL_law_662 ?_
  refine law_arg (k := 2) hF.1 hF.2.1 hXs hbl hbA hG.2.2 hL (by omega) (lv_at hl 4 rfl) (lv_at hl 0 rfl) (by decide +kernel) dL_law_663 dL_law_664 dL_law_666 dL_law_667 dL_law_668 ?_
  refine law_arg (k := 3) hF.1 hF.2.1 hXs hbl hbA hG.2.2 hL (by omega) (lv_at hl 4 rfl) (lv_at hl 0 rfl) (by decide +kernel) dL_law_669 dL_law_670 dL_law_672 dL_law_673 dL_law_674 ?_
  refine j_ci hA (j_V (As := [.int (xs (6 * t + 1)), .int (xs (6 * t + 2)), .int (xs (6 * t + 3))]) (w0 := MW cA om aS aI aR aM aK aT aZ aE aD aF aN aP aH vH vT vP vB vE vS) (w1 := XW cA ob mb ss sh sp mt rc n o dr n1 o1 dr1 n2 o2 dr2 dk rk kt tk pool) (w2 := [((out, .inl (cA 1, 1, .inr (.inl fo))) : Nat × va_E)]) hF hK hG (c_X11_tried hI hJ hM hX htk) (cwV 3 hF.2.2.2.2 gL_law_X11_tried rfl rfl rfl (by decide +kernel) ⟨(Nat.le_of_ble_eq_true rfl), (Nat.le_of_ble_eq_true rfl)⟩) 6 rfl rfl rfl rfl hl.1 rfl (lv_room (Nat.le_of_ble_eq_true rfl)) dL_law_675 ⟨(show kc + 8 ≤ 601024 by omega), (show ks + 8 ≤ 7293034 by omega)⟩) hG (fun r1 u1 H locs hp1 hG => ?_)
  obtain ⟨hr1, hXI⟩ := hp1
  have hG : Gd D A ([] ++ ((MW cA om aS aI aR aM aK aT aZ aE aD aF aN aP aH vH vT vP vB vE vS) ++ (XV cA ob u1 ++ [((out, .inl (cA 1, 1, .inr (.inl fo))) : Nat × va_E)]))) s.heap H locs := hG
  refine lv_aload_n hF.1 hF.2.1 dL_law_678 rfl (lv_at hl 2 rfl) ?_
  refine law_arg (k := 1) hF.1 hF.2.1 hXs hbl hbA hG.2.2 hL (by omega) (lv_at hl 4 rfl) (lv_at hl 0 rfl) (by decide +kernel) dL_law_679 dL_law_680 dL_law_682 dL_law_683 dL_law_684 ?_
  refine law_arg (k := 2) hF.1 hF.2.1 hXs hbl hbA hG.2.2 hL (by omega) (lv_at hl 4 rfl) (lv_at hl 0 rfl) (by decide +kernel) dL_law_685 dL_law_686 dL_law_688 dL_law_689 dL_law_690 ?_
  refine law_arg (k := 3) hF.1 hF.2.1 hXs hbl hbA hG.2.2 hL (by omega) (lv_at hl 4 rfl) (lv_at hl 0 rfl) (by decide +kernel) dL_law_691 dL_law_692 dL_law_694 dL_law_695 dL_law_696 ?_
  refine j_ci hA (j_V (As := [.int (xs (6 * t + 1)), .int (xs (6 * t + 2)), .int (xs (6 * t + 3))]) (w0 := []) (w1 := MW cA om aS aI aR aM aK aT aZ aE aD aF aN aP aH vH vT vP vB vE vS) (w2 := XV cA ob u1 ++ [((out, .inl (cA 1, 1, .inr (.inl fo))) : Nat × va_E)]) hF hK hG (c_X12_tried hS hXF) (cwV 3 hF.2.2.2.2 gL_law_X12_tried rfl rfl rfl (by decide +kernel) ⟨(Nat.le_of_ble_eq_true rfl), (Nat.le_of_ble_eq_true rfl)⟩) 0 rfl rfl rfl rfl hl.1 rfl (lv_room (Nat.le_of_ble_eq_true rfl)) dL_law_697 ⟨(show kc + 8 + 0 ≤ 601024 by omega), (show ks + 8 + 0 ≤ 7293034 by omega)⟩) hG (fun r2 u2 H locs hp2 hG => ?_)
  have he : r1 = r2 := hr1.trans hp2.1.symm
  refine lv_icmp_eq (tgt := 1314) hF.1 hF.2.1 dL_law_700 (by decide) (fun _ => ?_) (fun hne => absurd he hne)
  refine W.widen (k := kc + 40) (n := ks + 110) (by omega) (by omega) ?_
  exact hk u1 (u2.1, aI, aR, u2.2, aK, aT, aZ, aE, aD, aF, aN, aP, aH, vH, vT, vP, vB, vE, vS) fo _ _ _ _ H locs ls hXI ⟨hp2.2, hSI, hH, hXF⟩ hl hG
set_option maxHeartbeats 4000000 in
set_option maxRecDepth 100000 in
theorem op_next (hfl : l.stackTraces = false) (hLA : LA p s m args c D cA A b L xs) (hL6 : 6 * t + 6 ≤ L) (hkc : kc + 40 ≤ 601024) (hks : ks + 110 ≤ 7293034) (hI : WI pool n o dr kd fg) (hJ : WI pool n1 o1 dr1 kd1 fg1) (hM : WI pool n2 o2 dr2 kd2 fg2) (hX : SX cA pool dk rk x P) (htk : tk = b2i tkb) (hS : SR aS n o kd fg) (hSI : SR aI n1 o1 kd1 fg1) (hH : vH = b2i tkb) (hXF : ∀ d, d < 8 → SF aK aT aZ aE aD aF d (x d)) (hl : lv_has ls 8 [(4, .int (nI (6 * t))), (3, .ref out), (2, .ref (om 0)), (1, .ref (ob 6)), (0, .ref b)]) (hG : Gd D A (MW cA om aS aI aR aM aK aT aZ aE aD aF aN aP aH vH vT vP vB vE vS ++ (XW cA ob mb ss sh sp mt rc n o dr n1 o1 dr1 n2 o2 dr2 dk rk kt tk pool ++ [((out, .inl (cA 1, 1, .inr (.inl fo))) : Nat × va_E)])) s.heap H locs) (hk : LK p l e s m args below meth c Q D cA A b out t ob om (kc + 40) (ks + 110)) : W p l e room_1 s m args below meth c H locs kc ks Q (F0 m 705 ls []) := by
  obtain ⟨hF, hK, hXX, hA, hXs, hbl, hbA, hL⟩ := hLA
  refine lv_aload_n hF.1 hF.2.1 dL_law_705 rfl (lv_at hl 3 rfl) ?_
  refine law_arg (k := 1) hF.1 hF.2.1 hXs hbl hbA hG.2.2 hL (by omega) (lv_at hl 4 rfl) (lv_at hl 0 rfl) (by decide +kernel) dL_law_706 dL_law_707 dL_law_709 dL_law_710 dL_law_711 ?_
  refine law_arg (k := 2) hF.1 hF.2.1 hXs hbl hbA hG.2.2 hL (by omega) (lv_at hl 4 rfl) (lv_at hl 0 rfl) (by decide +kernel) dL_law_712 dL_law_713 dL_law_715 dL_law_716 dL_law_717 ?_
  refine law_arg (k := 3) hF.1 hF.2.1 hXs hbl hbA hG.2.2 hL (by omega) (lv_at hl 4 rfl) (lv_at hl 0 rfl) (by decide +kernel) dL_law_718 dL_law_719 dL_law_721 dL_law_722 dL_law_723 ?_
  refine law_arg (k := 4) hF.1 hF.2.1 hXs hbl hbA hG.2.2 hL (by omega) (lv_at hl 4 rfl) (lv_at hl 0 rfl) (by decide +kernel) dL_law_724 dL_law_725 dL_law_727 dL_law_728 dL_law_729 ?_
  refine j_ci hA (j_V (As := [.int (xs (6 * t + 1)), .int (xs (6 * t + 2)), .int (xs (6 * t + 3)), .int (xs (6 * t + 4))]) (w0 := MW cA om aS aI aR aM aK aT aZ aE aD aF aN aP aH vH vT vP vB vE vS) (w1 := XW cA ob mb ss sh sp mt rc n o dr n1 o1 dr1 n2 o2 dr2 dk rk kt tk pool) (w2 := [((out, .inl (cA 1, 1, .inr (.inl fo))) : Nat × va_E)]) hF hK hG (c_X11_next hI hJ hM hX htk) (cwV 4 hF.2.2.2.2 gL_law_X11_next rfl rfl rfl (by decide +kernel) ⟨(Nat.le_of_ble_eq_true rfl), (Nat.le_of_ble_eq_true rfl)⟩) 6 rfl rfl rfl rfl hl.1 rfl (lv_room (Nat.le_of_ble_eq_true rfl)) dL_law_730 ⟨(show kc + 8 ≤ 601024 by omega), (show ks + 8 ≤ 7293034 by omega)⟩) hG (fun r1 u1 H locs hp1 hG => ?_)
  obtain ⟨hr1, hXI⟩ := hp1
  have hG : Gd D A ([] ++ ((MW cA om aS aI aR aM aK aT aZ aE aD aF aN aP aH vH vT vP vB vE vS) ++ (XV cA ob u1 ++ [((out, .inl (cA 1, 1, .inr (.inl fo))) : Nat × va_E)]))) s.heap H locs := hG
  refine lv_aload_n hF.1 hF.2.1 dL_law_733 rfl (lv_at hl 2 rfl) ?_
  refine law_arg (k := 1) hF.1 hF.2.1 hXs hbl hbA hG.2.2 hL (by omega) (lv_at hl 4 rfl) (lv_at hl 0 rfl) (by decide +kernel) dL_law_734 dL_law_735 dL_law_737 dL_law_738 dL_law_739 ?_
  refine law_arg (k := 2) hF.1 hF.2.1 hXs hbl hbA hG.2.2 hL (by omega) (lv_at hl 4 rfl) (lv_at hl 0 rfl) (by decide +kernel) dL_law_740 dL_law_741 dL_law_743 dL_law_744 dL_law_745 ?_
  refine law_arg (k := 3) hF.1 hF.2.1 hXs hbl hbA hG.2.2 hL (by omega) (lv_at hl 4 rfl) (lv_at hl 0 rfl) (by decide +kernel) dL_law_746 dL_law_747 dL_law_749 dL_law_750 dL_law_751 ?_
  refine law_arg (k := 4) hF.1 hF.2.1 hXs hbl hbA hG.2.2 hL (by omega) (lv_at hl 4 rfl) (lv_at hl 0 rfl) (by decide +kernel) dL_law_752 dL_law_753 dL_law_755 dL_law_756 dL_law_757 ?_
  refine j_ci hA (j_V (As := [.int (xs (6 * t + 1)), .int (xs (6 * t + 2)), .int (xs (6 * t + 3)), .int (xs (6 * t + 4))]) (w0 := []) (w1 := MW cA om aS aI aR aM aK aT aZ aE aD aF aN aP aH vH vT vP vB vE vS) (w2 := XV cA ob u1 ++ [((out, .inl (cA 1, 1, .inr (.inl fo))) : Nat × va_E)]) hF hK hG (c_X12_next hS) (cwV 4 hF.2.2.2.2 gL_law_X12_next rfl rfl rfl (by decide +kernel) ⟨(Nat.le_of_ble_eq_true rfl), (Nat.le_of_ble_eq_true rfl)⟩) 0 rfl rfl rfl rfl hl.1 rfl (lv_room (Nat.le_of_ble_eq_true rfl)) dL_law_758 ⟨(show kc + 8 + 0 ≤ 601024 by omega), (show ks + 8 + 0 ≤ 7293034 by omega)⟩) hG (fun r2 u2 H locs hp2 hG => ?_)
  have he : r1 = r2 := hr1.trans hp2.1.symm
  refine lv_icmp_eq (tgt := 1314) hF.1 hF.2.1 dL_law_761 (by decide) (fun _ => ?_) (fun hne => absurd he hne)
  refine W.widen (k := kc + 40) (n := ks + 110) (by omega) (by omega) ?_
  exact hk u1 (u2.1, aI, aR, u2.2, aK, aT, aZ, aE, aD, aF, aN, aP, aH, vH, vT, vP, vB, vE, vS) fo _ _ _ _ H locs ls hXI ⟨hp2.2, hSI, hH, hXF⟩ hl hG
set_option maxHeartbeats 4000000 in
set_option maxRecDepth 100000 in
theorem op_game (hfl : l.stackTraces = false) (hLA : LA p s m args c D cA A b L xs) (hL6 : 6 * t + 6 ≤ L) (hkc : kc + 40 ≤ 601024) (hks : ks + 110 ≤ 7293034) (hI : WI pool n o dr kd fg) (hJ : WI pool n1 o1 dr1 kd1 fg1) (hM : WI pool n2 o2 dr2 kd2 fg2) (hX : SX cA pool dk rk x P) (htk : tk = b2i tkb) (hS : SR aS n o kd fg) (hSI : SR aI n1 o1 kd1 fg1) (hH : vH = b2i tkb) (hXF : ∀ d, d < 8 → SF aK aT aZ aE aD aF d (x d)) (hl : lv_has ls 8 [(4, .int (nI (6 * t))), (3, .ref out), (2, .ref (om 0)), (1, .ref (ob 6)), (0, .ref b)]) (hG : Gd D A (MW cA om aS aI aR aM aK aT aZ aE aD aF aN aP aH vH vT vP vB vE vS ++ (XW cA ob mb ss sh sp mt rc n o dr n1 o1 dr1 n2 o2 dr2 dk rk kt tk pool ++ [((out, .inl (cA 1, 1, .inr (.inl fo))) : Nat × va_E)])) s.heap H locs) (hk : LK p l e s m args below meth c Q D cA A b out t ob om (kc + 40) (ks + 110)) : W p l e room_1 s m args below meth c H locs kc ks Q (F0 m 766 ls []) := by
  obtain ⟨hF, hK, hXX, hA, hXs, hbl, hbA, hL⟩ := hLA
  refine lv_aload_n hF.1 hF.2.1 dL_law_766 rfl (lv_at hl 3 rfl) ?_
  refine law_arg (k := 1) hF.1 hF.2.1 hXs hbl hbA hG.2.2 hL (by omega) (lv_at hl 4 rfl) (lv_at hl 0 rfl) (by decide +kernel) dL_law_767 dL_law_768 dL_law_770 dL_law_771 dL_law_772 ?_
  refine law_arg (k := 2) hF.1 hF.2.1 hXs hbl hbA hG.2.2 hL (by omega) (lv_at hl 4 rfl) (lv_at hl 0 rfl) (by decide +kernel) dL_law_773 dL_law_774 dL_law_776 dL_law_777 dL_law_778 ?_
  refine j_ci hA (j_V (As := [.int (xs (6 * t + 1)), .int (xs (6 * t + 2))]) (w0 := MW cA om aS aI aR aM aK aT aZ aE aD aF aN aP aH vH vT vP vB vE vS) (w1 := XW cA ob mb ss sh sp mt rc n o dr n1 o1 dr1 n2 o2 dr2 dk rk kt tk pool) (w2 := [((out, .inl (cA 1, 1, .inr (.inl fo))) : Nat × va_E)]) hF hK hG (c_X11_game hI hJ hM hX htk) (cwV 2 hF.2.2.2.2 gL_law_X11_game rfl rfl rfl (by decide +kernel) ⟨(Nat.le_of_ble_eq_true rfl), (Nat.le_of_ble_eq_true rfl)⟩) 6 rfl rfl rfl rfl hl.1 rfl (lv_room (Nat.le_of_ble_eq_true rfl)) dL_law_779 ⟨(show kc + 0 ≤ 601024 by omega), (show ks + 0 ≤ 7293034 by omega)⟩) hG (fun r1 u1 H locs hp1 hG => ?_)
  obtain ⟨hr1, hXI⟩ := hp1
  have hG : Gd D A ([] ++ ((MW cA om aS aI aR aM aK aT aZ aE aD aF aN aP aH vH vT vP vB vE vS) ++ (XV cA ob u1 ++ [((out, .inl (cA 1, 1, .inr (.inl fo))) : Nat × va_E)]))) s.heap H locs := hG
  refine lv_aload_n hF.1 hF.2.1 dL_law_782 rfl (lv_at hl 2 rfl) ?_
  refine law_arg (k := 1) hF.1 hF.2.1 hXs hbl hbA hG.2.2 hL (by omega) (lv_at hl 4 rfl) (lv_at hl 0 rfl) (by decide +kernel) dL_law_783 dL_law_784 dL_law_786 dL_law_787 dL_law_788 ?_
  refine law_arg (k := 2) hF.1 hF.2.1 hXs hbl hbA hG.2.2 hL (by omega) (lv_at hl 4 rfl) (lv_at hl 0 rfl) (by decide +kernel) dL_law_789 dL_law_790 dL_law_792 dL_law_793 dL_law_794 ?_
  refine j_ci hA (j_V (As := [.int (xs (6 * t + 1)), .int (xs (6 * t + 2))]) (w0 := []) (w1 := MW cA om aS aI aR aM aK aT aZ aE aD aF aN aP aH vH vT vP vB vE vS) (w2 := XV cA ob u1 ++ [((out, .inl (cA 1, 1, .inr (.inl fo))) : Nat × va_E)]) hF hK hG (c_X12_game hS) (cwV 2 hF.2.2.2.2 gL_law_X12_game rfl rfl rfl (by decide +kernel) ⟨(Nat.le_of_ble_eq_true rfl), (Nat.le_of_ble_eq_true rfl)⟩) 0 rfl rfl rfl rfl hl.1 rfl (lv_room (Nat.le_of_ble_eq_true rfl)) dL_law_795 ⟨(show kc + 0 + 0 ≤ 601024 by omega), (show ks + 0 + 0 ≤ 7293034 by omega)⟩) hG (fun r2 u2 H locs hp2 hG => ?_)
  have he : r1 = r2 := hr1.trans hp2.symm
  refine lv_icmp_eq (tgt := 1314) hF.1 hF.2.1 dL_law_798 (by decide) (fun _ => ?_) (fun hne => absurd he hne)
  refine W.widen (k := kc + 40) (n := ks + 110) (by omega) (by omega) ?_
  exact hk u1 (aS, aI, aR, aM, aK, aT, aZ, aE, aD, aF, aN, aP, aH, vH, vT, vP, vB, vE, vS) fo _ _ _ _ H locs ls hXI ⟨hS, hSI, hH, hXF⟩ hl hG
set_option maxHeartbeats 4000000 in
set_option maxRecDepth 100000 in
theorem op_run (hfl : l.stackTraces = false) (hLA : LA p s m args c D cA A b L xs) (hL6 : 6 * t + 6 ≤ L) (hkc : kc + 40 ≤ 601024) (hks : ks + 110 ≤ 7293034) (hI : WI pool n o dr kd fg) (hJ : WI pool n1 o1 dr1 kd1 fg1) (hM : WI pool n2 o2 dr2 kd2 fg2) (hX : SX cA pool dk rk x P) (htk : tk = b2i tkb) (hS : SR aS n o kd fg) (hSI : SR aI n1 o1 kd1 fg1) (hH : vH = b2i tkb) (hXF : ∀ d, d < 8 → SF aK aT aZ aE aD aF d (x d)) (hl : lv_has ls 8 [(4, .int (nI (6 * t))), (3, .ref out), (2, .ref (om 0)), (1, .ref (ob 6)), (0, .ref b)]) (hG : Gd D A (MW cA om aS aI aR aM aK aT aZ aE aD aF aN aP aH vH vT vP vB vE vS ++ (XW cA ob mb ss sh sp mt rc n o dr n1 o1 dr1 n2 o2 dr2 dk rk kt tk pool ++ [((out, .inl (cA 1, 1, .inr (.inl fo))) : Nat × va_E)])) s.heap H locs) (hk : LK p l e s m args below meth c Q D cA A b out t ob om (kc + 40) (ks + 110)) : W p l e room_1 s m args below meth c H locs kc ks Q (F0 m 803 ls []) := by
  obtain ⟨hF, hK, hXX, hA, hXs, hbl, hbA, hL⟩ := hLA
  refine lv_aload_n hF.1 hF.2.1 dL_law_803 rfl (lv_at hl 3 rfl) ?_
  refine law_arg (k := 1) hF.1 hF.2.1 hXs hbl hbA hG.2.2 hL (by omega) (lv_at hl 4 rfl) (lv_at hl 0 rfl) (by decide +kernel) dL_law_804 dL_law_805 dL_law_807 dL_law_808 dL_law_809 ?_
  refine law_arg (k := 2) hF.1 hF.2.1 hXs hbl hbA hG.2.2 hL (by omega) (lv_at hl 4 rfl) (lv_at hl 0 rfl) (by decide +kernel) dL_law_810 dL_law_811 dL_law_813 dL_law_814 dL_law_815 ?_
  refine j_ci hA (j_V (As := [.int (xs (6 * t + 1)), .int (xs (6 * t + 2))]) (w0 := MW cA om aS aI aR aM aK aT aZ aE aD aF aN aP aH vH vT vP vB vE vS) (w1 := XW cA ob mb ss sh sp mt rc n o dr n1 o1 dr1 n2 o2 dr2 dk rk kt tk pool) (w2 := [((out, .inl (cA 1, 1, .inr (.inl fo))) : Nat × va_E)]) hF hK hG (c_X11_run hI hJ hM hX htk) (cwV 2 hF.2.2.2.2 gL_law_X11_run rfl rfl rfl (by decide +kernel) ⟨(Nat.le_of_ble_eq_true rfl), (Nat.le_of_ble_eq_true rfl)⟩) 6 rfl rfl rfl rfl hl.1 rfl (lv_room (Nat.le_of_ble_eq_true rfl)) dL_law_816 ⟨(show kc + 0 ≤ 601024 by omega), (show ks + 0 ≤ 7293034 by omega)⟩) hG (fun r1 u1 H locs hp1 hG => ?_)
  obtain ⟨hr1, hXI⟩ := hp1
  have hG : Gd D A ([] ++ ((MW cA om aS aI aR aM aK aT aZ aE aD aF aN aP aH vH vT vP vB vE vS) ++ (XV cA ob u1 ++ [((out, .inl (cA 1, 1, .inr (.inl fo))) : Nat × va_E)]))) s.heap H locs := hG
  refine lv_aload_n hF.1 hF.2.1 dL_law_819 rfl (lv_at hl 2 rfl) ?_
  refine law_arg (k := 1) hF.1 hF.2.1 hXs hbl hbA hG.2.2 hL (by omega) (lv_at hl 4 rfl) (lv_at hl 0 rfl) (by decide +kernel) dL_law_820 dL_law_821 dL_law_823 dL_law_824 dL_law_825 ?_
  refine law_arg (k := 2) hF.1 hF.2.1 hXs hbl hbA hG.2.2 hL (by omega) (lv_at hl 4 rfl) (lv_at hl 0 rfl) (by decide +kernel) dL_law_826 dL_law_827 dL_law_829 dL_law_830 dL_law_831 ?_
  refine j_ci hA (j_V (As := [.int (xs (6 * t + 1)), .int (xs (6 * t + 2))]) (w0 := []) (w1 := MW cA om aS aI aR aM aK aT aZ aE aD aF aN aP aH vH vT vP vB vE vS) (w2 := XV cA ob u1 ++ [((out, .inl (cA 1, 1, .inr (.inl fo))) : Nat × va_E)]) hF hK hG (c_X12_run hS hXF) (cwV 2 hF.2.2.2.2 gL_law_X12_run rfl rfl rfl (by decide +kernel) ⟨(Nat.le_of_ble_eq_true rfl), (Nat.le_of_ble_eq_true rfl)⟩) 0 rfl rfl rfl rfl hl.1 rfl (lv_room (Nat.le_of_ble_eq_true rfl)) dL_law_832 ⟨(show kc + 0 + 0 ≤ 601024 by omega), (show ks + 0 + 0 ≤ 7293034 by omega)⟩) hG (fun r2 u2 H locs hp2 hG => ?_)
  have he : r1 = r2 := hr1.trans hp2.1.symm
  refine lv_icmp_eq (tgt := 1314) hF.1 hF.2.1 dL_law_835 (by decide) (fun _ => ?_) (fun hne => absurd he hne)
  refine W.widen (k := kc + 40) (n := ks + 110) (by omega) (by omega) ?_
  exact hk u1 (u2.1, aI, aR, u2.2, aK, aT, aZ, aE, aD, aF, aN, aP, aH, vH, vT, vP, vB, vE, vS) fo _ _ _ _ H locs ls hXI ⟨hp2.2, hSI, hH, hXF⟩ hl hG
set_option maxHeartbeats 4000000 in
set_option maxRecDepth 100000 in
theorem op_seeded (hfl : l.stackTraces = false) (hLA : LA p s m args c D cA A b L xs) (hL6 : 6 * t + 6 ≤ L) (hkc : kc + 40 ≤ 601024) (hks : ks + 110 ≤ 7293034) (hI : WI pool n o dr kd fg) (hJ : WI pool n1 o1 dr1 kd1 fg1) (hM : WI pool n2 o2 dr2 kd2 fg2) (hX : SX cA pool dk rk x P) (htk : tk = b2i tkb) (hS : SR aS n o kd fg) (hSI : SR aI n1 o1 kd1 fg1) (hH : vH = b2i tkb) (hXF : ∀ d, d < 8 → SF aK aT aZ aE aD aF d (x d)) (hl : lv_has ls 8 [(4, .int (nI (6 * t))), (3, .ref out), (2, .ref (om 0)), (1, .ref (ob 6)), (0, .ref b)]) (hG : Gd D A (MW cA om aS aI aR aM aK aT aZ aE aD aF aN aP aH vH vT vP vB vE vS ++ (XW cA ob mb ss sh sp mt rc n o dr n1 o1 dr1 n2 o2 dr2 dk rk kt tk pool ++ [((out, .inl (cA 1, 1, .inr (.inl fo))) : Nat × va_E)])) s.heap H locs) (hk : LK p l e s m args below meth c Q D cA A b out t ob om (kc + 40) (ks + 110)) : W p l e room_1 s m args below meth c H locs kc ks Q (F0 m 840 ls []) := by
  obtain ⟨hF, hK, hXX, hA, hXs, hbl, hbA, hL⟩ := hLA
  refine lv_aload_n hF.1 hF.2.1 dL_law_840 rfl (lv_at hl 3 rfl) ?_
  refine law_arg (k := 1) hF.1 hF.2.1 hXs hbl hbA hG.2.2 hL (by omega) (lv_at hl 4 rfl) (lv_at hl 0 rfl) (by decide +kernel) dL_law_841 dL_law_842 dL_law_844 dL_law_845 dL_law_846 ?_
  refine law_arg (k := 2) hF.1 hF.2.1 hXs hbl hbA hG.2.2 hL (by omega) (lv_at hl 4 rfl) (lv_at hl 0 rfl) (by decide +kernel) dL_law_847 dL_law_848 dL_law_850 dL_law_851 dL_law_852 ?_
  refine law_arg (k := 3) hF.1 hF.2.1 hXs hbl hbA hG.2.2 hL (by omega) (lv_at hl 4 rfl) (lv_at hl 0 rfl) (by decide +kernel) dL_law_853 dL_law_854 dL_law_856 dL_law_857 dL_law_858 ?_
  refine j_ci hA (j_V (As := [.int (xs (6 * t + 1)), .int (xs (6 * t + 2)), .int (xs (6 * t + 3))]) (w0 := MW cA om aS aI aR aM aK aT aZ aE aD aF aN aP aH vH vT vP vB vE vS) (w1 := XW cA ob mb ss sh sp mt rc n o dr n1 o1 dr1 n2 o2 dr2 dk rk kt tk pool) (w2 := [((out, .inl (cA 1, 1, .inr (.inl fo))) : Nat × va_E)]) hF hK hG (c_X11_seeded hI hJ hM hX htk) (cwV 3 hF.2.2.2.2 gL_law_X11_seeded rfl rfl rfl (by decide +kernel) ⟨(Nat.le_of_ble_eq_true rfl), (Nat.le_of_ble_eq_true rfl)⟩) 6 rfl rfl rfl rfl hl.1 rfl (lv_room (Nat.le_of_ble_eq_true rfl)) dL_law_859 ⟨(show kc + 0 ≤ 601024 by omega), (show ks + 0 ≤ 7293034 by omega)⟩) hG (fun r1 u1 H locs hp1 hG => ?_)
  obtain ⟨hr1, hXI⟩ := hp1
  have hG : Gd D A ([] ++ ((MW cA om aS aI aR aM aK aT aZ aE aD aF aN aP aH vH vT vP vB vE vS) ++ (XV cA ob u1 ++ [((out, .inl (cA 1, 1, .inr (.inl fo))) : Nat × va_E)]))) s.heap H locs := hG
  refine lv_aload_n hF.1 hF.2.1 dL_law_862 rfl (lv_at hl 2 rfl) ?_
  refine law_arg (k := 1) hF.1 hF.2.1 hXs hbl hbA hG.2.2 hL (by omega) (lv_at hl 4 rfl) (lv_at hl 0 rfl) (by decide +kernel) dL_law_863 dL_law_864 dL_law_866 dL_law_867 dL_law_868 ?_
  refine law_arg (k := 2) hF.1 hF.2.1 hXs hbl hbA hG.2.2 hL (by omega) (lv_at hl 4 rfl) (lv_at hl 0 rfl) (by decide +kernel) dL_law_869 dL_law_870 dL_law_872 dL_law_873 dL_law_874 ?_
  refine law_arg (k := 3) hF.1 hF.2.1 hXs hbl hbA hG.2.2 hL (by omega) (lv_at hl 4 rfl) (lv_at hl 0 rfl) (by decide +kernel) dL_law_875 dL_law_876 dL_law_878 dL_law_879 dL_law_880 ?_
  refine j_ci hA (j_V (As := [.int (xs (6 * t + 1)), .int (xs (6 * t + 2)), .int (xs (6 * t + 3))]) (w0 := []) (w1 := MW cA om aS aI aR aM aK aT aZ aE aD aF aN aP aH vH vT vP vB vE vS) (w2 := XV cA ob u1 ++ [((out, .inl (cA 1, 1, .inr (.inl fo))) : Nat × va_E)]) hF hK hG (c_X12_seeded hS) (cwV 3 hF.2.2.2.2 gL_law_X12_seeded rfl rfl rfl (by decide +kernel) ⟨(Nat.le_of_ble_eq_true rfl), (Nat.le_of_ble_eq_true rfl)⟩) 0 rfl rfl rfl rfl hl.1 rfl (lv_room (Nat.le_of_ble_eq_true rfl)) dL_law_881 ⟨(show kc + 0 + 0 ≤ 601024 by omega), (show ks + 0 + 0 ≤ 7293034 by omega)⟩) hG (fun r2 u2 H locs hp2 hG => ?_)
  have he : r1 = r2 := hr1.trans hp2.1.symm
  refine lv_icmp_eq (tgt := 1314) hF.1 hF.2.1 dL_law_884 (by decide) (fun _ => ?_) (fun hne => absurd he hne)
  refine W.widen (k := kc + 40) (n := ks + 110) (by omega) (by omega) ?_
  exact hk u1 (u2.1, aI, aR, u2.2.1, aK, aT, aZ, aE, aD, aF, aN, aP, aH, vH, vT, vP, vB, vE, u2.2.2) fo _ _ _ _ H locs ls hXI ⟨hp2.2, hSI, hH, hXF⟩ hl hG
set_option maxHeartbeats 4000000 in
set_option maxRecDepth 100000 in
theorem op_judge (hfl : l.stackTraces = false) (hLA : LA p s m args c D cA A b L xs) (hL6 : 6 * t + 6 ≤ L) (hkc : kc + 40 ≤ 601024) (hks : ks + 110 ≤ 7293034) (hI : WI pool n o dr kd fg) (hJ : WI pool n1 o1 dr1 kd1 fg1) (hM : WI pool n2 o2 dr2 kd2 fg2) (hX : SX cA pool dk rk x P) (htk : tk = b2i tkb) (hS : SR aS n o kd fg) (hSI : SR aI n1 o1 kd1 fg1) (hH : vH = b2i tkb) (hXF : ∀ d, d < 8 → SF aK aT aZ aE aD aF d (x d)) (hl : lv_has ls 8 [(4, .int (nI (6 * t))), (3, .ref out), (2, .ref (om 0)), (1, .ref (ob 6)), (0, .ref b)]) (hG : Gd D A (MW cA om aS aI aR aM aK aT aZ aE aD aF aN aP aH vH vT vP vB vE vS ++ (XW cA ob mb ss sh sp mt rc n o dr n1 o1 dr1 n2 o2 dr2 dk rk kt tk pool ++ [((out, .inl (cA 1, 1, .inr (.inl fo))) : Nat × va_E)])) s.heap H locs) (hk : LK p l e s m args below meth c Q D cA A b out t ob om (kc + 40) (ks + 110)) : W p l e room_1 s m args below meth c H locs kc ks Q (F0 m 889 ls []) := by
  obtain ⟨hF, hK, hXX, hA, hXs, hbl, hbA, hL⟩ := hLA
  refine lv_aload_n hF.1 hF.2.1 dL_law_889 rfl (lv_at hl 3 rfl) ?_
  refine law_arg (k := 1) hF.1 hF.2.1 hXs hbl hbA hG.2.2 hL (by omega) (lv_at hl 4 rfl) (lv_at hl 0 rfl) (by decide +kernel) dL_law_890 dL_law_891 dL_law_893 dL_law_894 dL_law_895 ?_
  refine j_ci hA (j_V (As := [.int (xs (6 * t + 1))]) (w0 := MW cA om aS aI aR aM aK aT aZ aE aD aF aN aP aH vH vT vP vB vE vS) (w1 := XW cA ob mb ss sh sp mt rc n o dr n1 o1 dr1 n2 o2 dr2 dk rk kt tk pool) (w2 := [((out, .inl (cA 1, 1, .inr (.inl fo))) : Nat × va_E)]) hF hK hG (c_X11_judge hI hJ hM hX htk) (cwV 1 hF.2.2.2.2 gL_law_X11_judge rfl rfl rfl (by decide +kernel) ⟨(Nat.le_of_ble_eq_true rfl), (Nat.le_of_ble_eq_true rfl)⟩) 6 rfl rfl rfl rfl hl.1 rfl (lv_room (Nat.le_of_ble_eq_true rfl)) dL_law_896 ⟨(show kc + 0 ≤ 601024 by omega), (show ks + 0 ≤ 7293034 by omega)⟩) hG (fun r1 u1 H locs hp1 hG => ?_)
  obtain ⟨hr1, hXI⟩ := hp1
  have hG : Gd D A ([] ++ ((MW cA om aS aI aR aM aK aT aZ aE aD aF aN aP aH vH vT vP vB vE vS) ++ (XV cA ob u1 ++ [((out, .inl (cA 1, 1, .inr (.inl fo))) : Nat × va_E)]))) s.heap H locs := hG
  refine lv_aload_n hF.1 hF.2.1 dL_law_899 rfl (lv_at hl 2 rfl) ?_
  refine law_arg (k := 1) hF.1 hF.2.1 hXs hbl hbA hG.2.2 hL (by omega) (lv_at hl 4 rfl) (lv_at hl 0 rfl) (by decide +kernel) dL_law_900 dL_law_901 dL_law_903 dL_law_904 dL_law_905 ?_
  refine j_ci hA (j_V (As := [.int (xs (6 * t + 1))]) (w0 := []) (w1 := MW cA om aS aI aR aM aK aT aZ aE aD aF aN aP aH vH vT vP vB vE vS) (w2 := XV cA ob u1 ++ [((out, .inl (cA 1, 1, .inr (.inl fo))) : Nat × va_E)]) hF hK hG (c_X12_judge hS hXF) (cwV 1 hF.2.2.2.2 gL_law_X12_judge rfl rfl rfl (by decide +kernel) ⟨(Nat.le_of_ble_eq_true rfl), (Nat.le_of_ble_eq_true rfl)⟩) 0 rfl rfl rfl rfl hl.1 rfl (lv_room (Nat.le_of_ble_eq_true rfl)) dL_law_906 ⟨(show kc + 0 + 0 ≤ 601024 by omega), (show ks + 0 + 0 ≤ 7293034 by omega)⟩) hG (fun r2 u2 H locs hp2 hG => ?_)
  have he : r1 = r2 := spJudge_one hr1 hp2.1
  refine lv_icmp_eq (tgt := 1314) hF.1 hF.2.1 dL_law_909 (by decide) (fun _ => ?_) (fun hne => absurd he hne)
  refine W.widen (k := kc + 40) (n := ks + 110) (by omega) (by omega) ?_
  exact hk u1 (u2.1, aI, aR, u2.2, aK, aT, aZ, aE, aD, aF, aN, aP, aH, vH, vT, vP, vB, vE, vS) fo _ _ _ _ H locs ls hXI ⟨hp2.2, hSI, hH, hXF⟩ hl hG
set_option maxHeartbeats 4000000 in
set_option maxRecDepth 100000 in
theorem op_image (hfl : l.stackTraces = false) (hLA : LA p s m args c D cA A b L xs) (hL6 : 6 * t + 6 ≤ L) (hkc : kc + 40 ≤ 601024) (hks : ks + 110 ≤ 7293034) (hI : WI pool n o dr kd fg) (hJ : WI pool n1 o1 dr1 kd1 fg1) (hM : WI pool n2 o2 dr2 kd2 fg2) (hX : SX cA pool dk rk x P) (htk : tk = b2i tkb) (hS : SR aS n o kd fg) (hSI : SR aI n1 o1 kd1 fg1) (hH : vH = b2i tkb) (hXF : ∀ d, d < 8 → SF aK aT aZ aE aD aF d (x d)) (hl : lv_has ls 8 [(4, .int (nI (6 * t))), (3, .ref out), (2, .ref (om 0)), (1, .ref (ob 6)), (0, .ref b)]) (hG : Gd D A (MW cA om aS aI aR aM aK aT aZ aE aD aF aN aP aH vH vT vP vB vE vS ++ (XW cA ob mb ss sh sp mt rc n o dr n1 o1 dr1 n2 o2 dr2 dk rk kt tk pool ++ [((out, .inl (cA 1, 1, .inr (.inl fo))) : Nat × va_E)])) s.heap H locs) (hk : LK p l e s m args below meth c Q D cA A b out t ob om (kc + 40) (ks + 110)) : W p l e room_1 s m args below meth c H locs kc ks Q (F0 m 914 ls []) := by
  obtain ⟨hF, hK, hXX, hA, hXs, hbl, hbA, hL⟩ := hLA
  refine lv_aload_n hF.1 hF.2.1 dL_law_914 rfl (lv_at hl 3 rfl) ?_
  refine j_ci hA (j_V (As := []) (w0 := MW cA om aS aI aR aM aK aT aZ aE aD aF aN aP aH vH vT vP vB vE vS) (w1 := XW cA ob mb ss sh sp mt rc n o dr n1 o1 dr1 n2 o2 dr2 dk rk kt tk pool) (w2 := [((out, .inl (cA 1, 1, .inr (.inl fo))) : Nat × va_E)]) hF hK hG (c_X11_image hI hJ hM hX htk) (cwV 0 hF.2.2.2.2 gL_law_X11_image rfl rfl rfl (by decide +kernel) ⟨(Nat.le_of_ble_eq_true rfl), (Nat.le_of_ble_eq_true rfl)⟩) 6 rfl rfl rfl rfl hl.1 rfl (lv_room (Nat.le_of_ble_eq_true rfl)) dL_law_915 ⟨(show kc + 0 ≤ 601024 by omega), (show ks + 0 ≤ 7293034 by omega)⟩) hG (fun r1 u1 H locs hp1 hG => ?_)
  obtain ⟨hr1, hXI⟩ := hp1
  have hG : Gd D A ([] ++ ((MW cA om aS aI aR aM aK aT aZ aE aD aF aN aP aH vH vT vP vB vE vS) ++ (XV cA ob u1 ++ [((out, .inl (cA 1, 1, .inr (.inl fo))) : Nat × va_E)]))) s.heap H locs := hG
  refine lv_aload_n hF.1 hF.2.1 dL_law_918 rfl (lv_at hl 2 rfl) ?_
  refine j_ci hA (j_V (As := []) (w0 := []) (w1 := MW cA om aS aI aR aM aK aT aZ aE aD aF aN aP aH vH vT vP vB vE vS) (w2 := XV cA ob u1 ++ [((out, .inl (cA 1, 1, .inr (.inl fo))) : Nat × va_E)]) hF hK hG (c_X12_image hS) (cwV 0 hF.2.2.2.2 gL_law_X12_image rfl rfl rfl (by decide +kernel) ⟨(Nat.le_of_ble_eq_true rfl), (Nat.le_of_ble_eq_true rfl)⟩) 0 rfl rfl rfl rfl hl.1 rfl (lv_room (Nat.le_of_ble_eq_true rfl)) dL_law_919 ⟨(show kc + 0 + 0 ≤ 601024 by omega), (show ks + 0 + 0 ≤ 7293034 by omega)⟩) hG (fun r2 u2 H locs hp2 hG => ?_)
  have he : r1 = r2 := hr1.trans hp2.symm
  refine lv_icmp_eq (tgt := 1314) hF.1 hF.2.1 dL_law_922 (by decide) (fun _ => ?_) (fun hne => absurd he hne)
  refine W.widen (k := kc + 40) (n := ks + 110) (by omega) (by omega) ?_
  exact hk u1 (aS, cpyN 14 aS aI, aR, aM, aK, aT, aZ, aE, aD, aF, aN, aP, aH, nI 1, vT, vP, vB, vE, vS) fo _ _ _ _ H locs ls hXI ⟨hS, SR.cpy hS, rfl, hXF⟩ hl hG
set_option maxHeartbeats 4000000 in
set_option maxRecDepth 100000 in
theorem op_restore (hfl : l.stackTraces = false) (hLA : LA p s m args c D cA A b L xs) (hL6 : 6 * t + 6 ≤ L) (hkc : kc + 40 ≤ 601024) (hks : ks + 110 ≤ 7293034) (hI : WI pool n o dr kd fg) (hJ : WI pool n1 o1 dr1 kd1 fg1) (hM : WI pool n2 o2 dr2 kd2 fg2) (hX : SX cA pool dk rk x P) (htk : tk = b2i tkb) (hS : SR aS n o kd fg) (hSI : SR aI n1 o1 kd1 fg1) (hH : vH = b2i tkb) (hXF : ∀ d, d < 8 → SF aK aT aZ aE aD aF d (x d)) (hl : lv_has ls 8 [(4, .int (nI (6 * t))), (3, .ref out), (2, .ref (om 0)), (1, .ref (ob 6)), (0, .ref b)]) (hG : Gd D A (MW cA om aS aI aR aM aK aT aZ aE aD aF aN aP aH vH vT vP vB vE vS ++ (XW cA ob mb ss sh sp mt rc n o dr n1 o1 dr1 n2 o2 dr2 dk rk kt tk pool ++ [((out, .inl (cA 1, 1, .inr (.inl fo))) : Nat × va_E)])) s.heap H locs) (hk : LK p l e s m args below meth c Q D cA A b out t ob om (kc + 40) (ks + 110)) : W p l e room_1 s m args below meth c H locs kc ks Q (F0 m 927 ls []) := by
  obtain ⟨hF, hK, hXX, hA, hXs, hbl, hbA, hL⟩ := hLA
  refine lv_aload_n hF.1 hF.2.1 dL_law_927 rfl (lv_at hl 3 rfl) ?_
  refine j_ci hA (j_V (As := []) (w0 := MW cA om aS aI aR aM aK aT aZ aE aD aF aN aP aH vH vT vP vB vE vS) (w1 := XW cA ob mb ss sh sp mt rc n o dr n1 o1 dr1 n2 o2 dr2 dk rk kt tk pool) (w2 := [((out, .inl (cA 1, 1, .inr (.inl fo))) : Nat × va_E)]) hF hK hG (c_X11_restore hI hJ hM hX htk) (cwV 0 hF.2.2.2.2 gL_law_X11_restore rfl rfl rfl (by decide +kernel) ⟨(Nat.le_of_ble_eq_true rfl), (Nat.le_of_ble_eq_true rfl)⟩) 6 rfl rfl rfl rfl hl.1 rfl (lv_room (Nat.le_of_ble_eq_true rfl)) dL_law_928 ⟨(show kc + 0 ≤ 601024 by omega), (show ks + 0 ≤ 7293034 by omega)⟩) hG (fun r1 u1 H locs hp1 hG => ?_)
  obtain ⟨hr1, hXI⟩ := hp1
  have hG : Gd D A ([] ++ ((MW cA om aS aI aR aM aK aT aZ aE aD aF aN aP aH vH vT vP vB vE vS) ++ (XV cA ob u1 ++ [((out, .inl (cA 1, 1, .inr (.inl fo))) : Nat × va_E)]))) s.heap H locs := hG
  refine lv_aload_n hF.1 hF.2.1 dL_law_931 rfl (lv_at hl 2 rfl) ?_
  refine j_ci hA (j_V (As := []) (w0 := []) (w1 := MW cA om aS aI aR aM aK aT aZ aE aD aF aN aP aH vH vT vP vB vE vS) (w2 := XV cA ob u1 ++ [((out, .inl (cA 1, 1, .inr (.inl fo))) : Nat × va_E)]) hF hK hG (c_X12_restore hS hSI hH) (cwV 0 hF.2.2.2.2 gL_law_X12_restore rfl rfl rfl (by decide +kernel) ⟨(Nat.le_of_ble_eq_true rfl), (Nat.le_of_ble_eq_true rfl)⟩) 0 rfl rfl rfl rfl hl.1 rfl (lv_room (Nat.le_of_ble_eq_true rfl)) dL_law_932 ⟨(show kc + 0 + 0 ≤ 601024 by omega), (show ks + 0 + 0 ≤ 7293034 by omega)⟩) hG (fun r2 u2 H locs hp2 hG => ?_)
  have he : r1 = r2 := hr1.trans hp2.1.symm
  have hres : SRW u2 (if tkb = true then (n1, o1, kd1, fg1) else (n, o, kd, fg)) := by
    cases tkb with
    | false => rw [hp2.2.2 rfl]; exact hS
    | true => exact hp2.2.1 rfl
  refine lv_icmp_eq (tgt := 1314) hF.1 hF.2.1 dL_law_935 (by decide) (fun _ => ?_) (fun hne => absurd he hne)
  refine W.widen (k := kc + 40) (n := ks + 110) (by omega) (by omega) ?_
  exact hk u1 (u2, aI, aR, aM, aK, aT, aZ, aE, aD, aF, aN, aP, aH, vH, vT, vP, vB, vE, vS) fo _ _ _ _ H locs ls hXI ⟨hres, hSI, hH, hXF⟩ hl hG
end OPS
