theorem in255 {d : Int32} (h1 : ¬ d < nI 1) (h2 : ¬ nI 256 ≤ d) : inQ 1 255 d = true := by
  refine inQ_t h1 (fun q => h2 ?_)
  rw [Int32.lt_iff_toInt_lt, nI_toInt (by omega)] at q
  rw [Int32.le_iff_toInt_le, nI_toInt (by omega)]
  omega
theorem in255_r {d : Int32} (h : nI 256 ≤ d) : inQ 1 255 d = false := by
  refine inQ_r ?_
  rw [Int32.le_iff_toInt_le, nI_toInt (by omega)] at h
  rw [Int32.lt_iff_toInt_lt, nI_toInt (by omega)]
  omega
theorem mx_nxP {K g i st : Nat} (h : K < 256) : (if nI (nxC K g i st 8) < nI (cnt K - nxC K g i st 8) then nI (cnt K - nxC K g i st 8) else nI (nxC K g i st 8)) = nI (nxP K g i st) := by
  have h1 := nxC_8 (K := K) (g := g) (i := i) (st := st)
  have h2 := cnt_8 h
  unfold nxP
  by_cases c : nxC K g i st 8 < cnt K - nxC K g i st 8
  · rw [if_pos (nI_lt c (by omega)), if_neg (by omega)]
  · rw [if_neg (nI_nlt (by omega) (by omega))]
    by_cases e : cnt K - nxC K g i st 8 < nxC K g i st 8
    · rw [if_pos e]
    · rw [if_neg e, show nxC K g i st 8 = cnt K - nxC K g i st 8 by omega]
      congr 1
      omega
abbrev rmX11_run : Room := { frames := 5, cells := 0, slots := 0, locals := 110 }
set_option maxHeartbeats 4000000 in
set_option maxRecDepth 100000 in
theorem c_X11_run {l : Launch} {D : va_G} {cA : Nat → ClassId} {A : Nat → Prop}  {ob : Nat → Nat} {mb ss sh sp : Nat → Int32} {mt : Nat → Int64} {rc n o : Nat} {dr : Nat → Option Nat} {n1 o1 : Nat} {dr1 : Nat → Option Nat} {n2 o2 : Nat} {dr2 dk rk : Nat → Option Nat} {kt : Nat → Int32} {tk : Int32} {pool : va_W} {kd fg : Nat → Nat} (hI : WI pool n o dr kd fg) {kd1 fg1 : Nat → Nat} (hJ : WI pool n1 o1 dr1 kd1 fg1) {kd2 fg2 : Nat → Nat} (hM : WI pool n2 o2 dr2 kd2 fg2) {x : Nat → Sf} {P : Nat → Nat} (hX : SX cA pool dk rk x P) {tkb : Bool} (htk : tk = b2i tkb) {d what : Int32} : Met l yX11_run wsX11_run rmX11_run (va_Pc [.ref (ob 6), .int d, .int what] (Pre D cA A (XW cA ob mb ss sh sp mt rc n o dr n1 o1 dr1 n2 o2 dr2 dk rk kt tk pool))) (va_Qi (fun r (u : XS) => (r = spRun n o kd fg (sfA x d) what) ∧ XI cA u (n, o, kd, fg) (n1, o1, kd1, fg1) tkb x) (fun u t => Wd D A ((fun (u : XS) => XV cA ob u) u) t) A) (0) (0) A := by
  refine k_ofi (S := XS) (F := fun (u : XS) => XV cA ob u) (cc := cX11_run) (maxL := 6) (by decide) rfl (Nat.le_of_ble_eq_true rfl) ?_
  intro p e s m args below meth c Q hF hini hK hA hG hret ls hl
  have hl : lv_has ls 6 [(0, .ref (ob 6)), (1, .int d), (2, .int what)] := hl
  have hn : n ≤ 6 := hI.1
  have ho : o < 64 := hI.o64
  have hp2 : 2 ^ n ≤ 64 := Nat.pow_le_pow_right (by decide) hn
  have hp1 : 1 ≤ 2 ^ n := Nat.one_le_two_pow
  refine lv_iload_n hF.1 hF.2.1 dX11_run_0 rfl (lv_at hl 1 rfl) ?_
  refine k_ci (r_S (As := [.int d]) hF hK hA hG (c_X11_isShelf) (cwS 1 hF.2.2.2.2 gX11_run_X11_isShelf rfl rfl rfl (by decide +kernel) ⟨Nat.le_of_ble_eq_true rfl, Nat.le_of_ble_eq_true rfl⟩) rfl hl.1 rfl (lv_room (Nat.le_of_ble_eq_true rfl)) dX11_run_1 ⟨Nat.le_of_ble_eq_true rfl, Nat.le_of_ble_eq_true rfl⟩) hG (fun r_1 u_1 H locs hp_1 hG => ?_)
  subst hp_1
  refine lv_if_eq (tgt := 16) hF.1 hF.2.1 dX11_run_4 (by decide) (fun c_4 => ?_) (fun c_4 => ?_)
  · --
    have n_4 : (inB 8 d) = false := b2i_z.mp c_4
    refine lv_iconst (v := (-1)) hF.1 hF.2.1 dX11_run_16 (by decide +kernel) ?_
    exact hret _ (_, _, _, _, _, _, _, _, _, _, _, _, _, _, _, _, _, _, _, _) _ ls _ _ _ _ (by refine ⟨?_, ⟨⟨rfl, rfl⟩, ⟨rfl, rfl⟩, htk, hI, hJ, ⟨_, _, hM⟩, ⟨_, hX⟩⟩⟩; first | (rw [sfA_f x n_4]; exact spRun_s.symm) | exact (spRun_f (inB_l c_8)).symm | exact (spRun_f (in2_f c_13)).symm) (by first | rfl | exact nar_b2i _) hG (Nat.le_of_ble_eq_true rfl) (Nat.le_of_ble_eq_true rfl) dX11_run_17
  · --
    have n_4 : (inB 8 d) = true := b2i_nz.mp c_4
    refine lv_iload_n hF.1 hF.2.1 dX11_run_7 rfl (lv_at hl 2 rfl) ?_
    refine lv_if_lt (tgt := 16) hF.1 hF.2.1 dX11_run_8 (by decide) (fun c_8 => ?_) (fun c_8 => ?_)
    · --
      refine lv_iconst (v := (-1)) hF.1 hF.2.1 dX11_run_16 (by decide +kernel) ?_
      exact hret _ (_, _, _, _, _, _, _, _, _, _, _, _, _, _, _, _, _, _, _, _) _ ls _ _ _ _ (by refine ⟨?_, ⟨⟨rfl, rfl⟩, ⟨rfl, rfl⟩, htk, hI, hJ, ⟨_, _, hM⟩, ⟨_, hX⟩⟩⟩; first | (rw [sfA_f x n_4]; exact spRun_s.symm) | exact (spRun_f (inB_l c_8)).symm | exact (spRun_f (in2_f c_13)).symm) (by first | rfl | exact nar_b2i _) hG (Nat.le_of_ble_eq_true rfl) (Nat.le_of_ble_eq_true rfl) dX11_run_17
    · --
      refine lv_iload_n hF.1 hF.2.1 dX11_run_11 rfl (lv_at hl 2 rfl) ?_
      refine lv_iconst (v := (nI 1)) hF.1 hF.2.1 dX11_run_12 (by decide +kernel) ?_
      refine lv_icmp_le (tgt := 18) hF.1 hF.2.1 dX11_run_13 (by decide) (fun c_13 => ?_) (fun c_13 => ?_)
      · --
        have hw2 := in2_t c_8 c_13
        refine lv_aload_n hF.1 hF.2.1 dX11_run_18 rfl (lv_at hl 0 rfl) ?_
        refine lv_iload_n hF.1 hF.2.1 dX11_run_19 rfl (lv_at hl 1 rfl) ?_
        refine k_cq (r_V (As := [.int d]) hF hK hA hG (c_X11_bytesOn hX) (cwV 1 hF.2.2.2.2 gX11_run_X11_bytesOn rfl rfl rfl (by decide +kernel) ⟨Nat.le_of_ble_eq_true rfl, Nat.le_of_ble_eq_true rfl⟩) 6 rfl rfl rfl rfl hl.1 rfl (lv_room (Nat.le_of_ble_eq_true rfl)) dX11_run_20 ⟨Nat.le_of_ble_eq_true rfl, Nat.le_of_ble_eq_true rfl⟩) hG (fun r_20 u_20 H locs hp_20 hG => ?_)
        cases r_20 with
        | none =>
          show W p l e rmX11_run s m args below meth c _ _ _ _ Q (F0 m 23 ls (.null :: []))
          refine lv_astore_nN (lv' := [(3, .null), (0, .ref (ob 6)), (1, .int d), (2, .int what)]) hF.1 hF.2.1 dX11_run_23 rfl hl (by decide) rfl (fun ls hl => ?_)
          refine lv_aload_nN hF.1 hF.2.1 dX11_run_24 rfl (lv_at hl 0 rfl) ?_
          refine lv_ifnonnullN hF.1 hF.2.1 dX11_run_25 ?_
          refine lv_aload_n hF.1 hF.2.1 dX11_run_28 rfl (lv_at hl 1 rfl) ?_
          refine lv_iload_n hF.1 hF.2.1 dX11_run_29 rfl (lv_at hl 2 rfl) ?_
          refine k_ci (r_V (As := [.int d]) hF hK hA hG (c_X11_lacking hX) (cwV 1 hF.2.2.2.2 gX11_run_X11_lacking rfl rfl rfl (by decide +kernel) ⟨Nat.le_of_ble_eq_true rfl, Nat.le_of_ble_eq_true rfl⟩) 6 rfl rfl rfl rfl hl.1 rfl (lv_room (Nat.le_of_ble_eq_true rfl)) dX11_run_30 ⟨Nat.le_of_ble_eq_true rfl, Nat.le_of_ble_eq_true rfl⟩) hG (fun r_30 u_30 H locs hp_30 hG => ?_)
          subst hp_30
          exact hret _ (_, _, _, _, _, _, _, _, _, _, _, _, _, _, _, _, _, _, _, _) _ ls _ _ _ _ (by refine ⟨?_, ⟨⟨rfl, rfl⟩, ⟨rfl, rfl⟩, htk, hI, hJ, ⟨_, _, hM⟩, ⟨_, hX⟩⟩⟩; exact hp_20.1.trans (spRun_n hw2 hp_20.2).symm) (by first | rfl | exact nar_b2i _) hG (Nat.le_of_ble_eq_true rfl) (Nat.le_of_ble_eq_true rfl) dX11_run_33
        | some b =>
          obtain ⟨j, z, arr, qr, hj, rfl, hx, hz0, hR⟩ := hp_20
          have hz100 := hR.2.2.1
          show W p l e rmX11_run s m args below meth c _ _ _ _ Q (F0 m 23 ls (.ref b :: []))
          refine lv_astore_n (lv' := [(3, .ref b), (0, .ref (ob 6)), (1, .int (nI j)), (2, .int what)]) hF.1 hF.2.1 dX11_run_23 rfl hl (by decide) rfl (fun ls hl => ?_)
          refine lv_aload_n hF.1 hF.2.1 dX11_run_24 rfl (lv_at hl 0 rfl) ?_
          refine lv_ifnonnull (tgt := 34) hF.1 hF.2.1 dX11_run_25 (by decide) ?_
          refine lv_iconst (v := (nI 0)) hF.1 hF.2.1 dX11_run_34 (by decide +kernel) ?_
          refine lv_istore (lv' := [(4, .int (nI 0)), (3, .ref b), (0, .ref (ob 6)), (1, .int (nI j)), (2, .int what)]) hF.1 hF.2.1 dX11_run_35 hl (by decide) rfl (fun ls hl => ?_)
          have lp37 : ∀ (fuel : Nat), ∀ (i : Nat), (hi : i ≤ z.2.1) → (hall : ∀ q, q < i → inB n (z.2.2 q) = true) → (z.2.1 - i) < fuel → ∀ (H : Heap) (locs : List Loc), Gd D A (XW cA ob mb ss sh sp mt rc n o dr n1 o1 dr1 n2 o2 dr2 dk rk kt tk pool) s.heap H locs → ∀ ls : Array Slot, lv_has ls 6 [(0, .ref (ob 6)), (1, .int (nI j)), (2, .int what), (3, .ref b), (4, .int (nI i))] → W p l e rmX11_run s m args below meth c H locs (0) (0) Q (F0 m 37 ls []) := by
            intro fuel
            induction fuel with
            | zero => intro i hi hall hmu; exact absurd hmu (Nat.not_lt_zero _)
            | succ fuel ih37 =>
              intro i hi hall hmu H locs hG ls hl
              refine lv_iload hF.1 hF.2.1 dX11_run_37 (lv_at hl 4 rfl) ?_
              refine lv_aload_n hF.1 hF.2.1 dX11_run_39 rfl (lv_at hl 3 rfl) ?_
              refine k_get (C := RX6) (T := TX6) (N := 3) hF hK hG (fun _ h => List.mem_cons_of_mem _ (List.mem_append_left _ (List.mem_append_left _ (List.mem_append_left _ (List.mem_append_left _ (List.mem_append_left _ (List.mem_append_left _ (List.mem_append_left _ (List.mem_append_left _ (List.mem_append_left _ (List.mem_append_left _ (List.mem_append_right _ h)))))))))))) (qr + 16) hR.c16.1 rfl 1 (by decide) (List.mem_of_getElem? (i := 1) rfl) (fun _ h9 => h9) rfl dX11_run_40 ?_
              refine lv_icmp_ge (tgt := 71) hF.1 hF.2.1 dX11_run_43 (by decide) (fun c_43 => ?_) (fun c_43 => ?_)
              · --
                have n_43 : z.2.1 ≤ i := (nI_leI (a := z.2.1) (b := i) (by omega) (by omega)).mp c_43
                refine lv_aload_n hF.1 hF.2.1 dX11_run_71 rfl (lv_at hl 0 rfl) ?_
                refine k_get (C := RX11) (T := TX11) (N := 8) hF hK hG (fun _ h => List.mem_cons_of_mem _ (List.mem_append_left _ (List.mem_append_left _ (List.mem_append_left _ (List.mem_append_left _ (List.mem_append_left _ (List.mem_append_left _ (List.mem_append_left _ (List.mem_append_left _ (List.mem_append_left _ (List.mem_append_right _ h))))))))))) 6 rfl rfl 2 (by decide) (List.mem_of_getElem? (i := 3) rfl) (fun _ h9 => h9) rfl dX11_run_72 ?_
                refine lv_aload_n hF.1 hF.2.1 dX11_run_75 rfl (lv_at hl 0 rfl) ?_
                refine k_get (C := RX11) (T := TX11) (N := 8) hF hK hG (fun _ h => List.mem_cons_of_mem _ (List.mem_append_left _ (List.mem_append_left _ (List.mem_append_left _ (List.mem_append_left _ (List.mem_append_left _ (List.mem_append_left _ (List.mem_append_left _ (List.mem_append_left _ (List.mem_append_left _ (List.mem_append_right _ h))))))))))) 6 rfl rfl 0 (by decide) (List.mem_of_getElem? (i := 2) rfl) (fun _ h9 => h9) rfl dX11_run_76 ?_
                refine k_cv (r_V (As := [.ref (ob 7)]) hF hK hA hG (c_X9_takeFrom hM.w2 hI.w0 (fun h => absurd (hG.2.1.1 9 7 _ _ rfl rfl h) (by decide)) (fun h => absurd (hG.2.1.1 12 10 _ _ rfl rfl h) (by decide))) (cwV 1 hF.2.2.2.2 gX11_run_X9_takeFrom rfl rfl rfl (by decide +kernel) ⟨Nat.le_of_ble_eq_true rfl, Nat.le_of_ble_eq_true rfl⟩) 9 rfl rfl rfl rfl hl.1 rfl (lv_room (Nat.le_of_ble_eq_true rfl)) dX11_run_79 ⟨Nat.le_of_ble_eq_true rfl, Nat.le_of_ble_eq_true rfl⟩) hG (fun u_79 H locs hp_79 hG => ?_)
                have hG : Gd D A (XW cA ob mb ss sh sp mt rc n o dr n1 o1 dr1 n (runU n kd fg z.2.2 o (0)).1 dr dk rk kt tk pool) s.heap H locs := hG
                refine lv_iconst (v := (nI 0)) hF.1 hF.2.1 dX11_run_82 (by decide +kernel) ?_
                refine lv_istore (lv' := [(4, .int (nI 0)), (0, .ref (ob 6)), (1, .int (nI j)), (2, .int what), (3, .ref b)]) hF.1 hF.2.1 dX11_run_83 hl (by decide) rfl (fun ls hl => ?_)
                refine lv_iconst (v := (nI 0)) hF.1 hF.2.1 dX11_run_85 (by decide +kernel) ?_
                refine lv_istore (lv' := [(5, .int (nI 0)), (4, .int (nI 0)), (0, .ref (ob 6)), (1, .int (nI j)), (2, .int what), (3, .ref b)]) hF.1 hF.2.1 dX11_run_86 hl (by decide) rfl (fun ls hl => ?_)
                have lp88 : ∀ (fuel : Nat), ∀ (i : Nat), (hi2 : i ≤ z.2.1) → (z.2.1 - i) < fuel → ∀ (H : Heap) (locs : List Loc), Gd D A (XW cA ob mb ss sh sp mt rc n o dr n1 o1 dr1 n (runU n kd fg z.2.2 o (i)).1 dr dk rk kt tk pool) s.heap H locs → ∀ ls : Array Slot, lv_has ls 6 [(0, .ref (ob 6)), (1, .int (nI j)), (2, .int what), (3, .ref b), (4, .int (nI ((runU n kd fg z.2.2 o (i)).2))), (5, .int (nI i))] → W p l e rmX11_run s m args below meth c H locs (0) (0) Q (F0 m 88 ls []) := by
                  intro fuel
                  induction fuel with
                  | zero => intro i hi2 hmu; exact absurd hmu (Nat.not_lt_zero _)
                  | succ fuel ih88 =>
                    intro i hi2 hmu H locs hG ls hl
                    refine lv_iload hF.1 hF.2.1 dX11_run_88 (lv_at hl 5 rfl) ?_
                    refine lv_aload_n hF.1 hF.2.1 dX11_run_90 rfl (lv_at hl 3 rfl) ?_
                    refine k_get (C := RX6) (T := TX6) (N := 3) hF hK hG (fun _ h => List.mem_cons_of_mem _ (List.mem_append_left _ (List.mem_append_left _ (List.mem_append_left _ (List.mem_append_left _ (List.mem_append_left _ (List.mem_append_left _ (List.mem_append_left _ (List.mem_append_left _ (List.mem_append_left _ (List.mem_append_left _ (List.mem_append_right _ h)))))))))))) (qr + 16) hR.c16.1 rfl 1 (by decide) (List.mem_of_getElem? (i := 1) rfl) (fun _ h9 => h9) rfl dX11_run_91 ?_
                    refine lv_icmp_ge (tgt := 122) hF.1 hF.2.1 dX11_run_94 (by decide) (fun c_94 => ?_) (fun c_94 => ?_)
                    · --
                      have n_94 : z.2.1 ≤ i := (nI_leI (a := z.2.1) (b := i) (by omega) (by omega)).mp c_94
                      refine lv_iload_n hF.1 hF.2.1 dX11_run_122 rfl (lv_at hl 2 rfl) ?_
                      refine lv_if_ne (tgt := 136) hF.1 hF.2.1 dX11_run_123 (by decide) (fun c_123 => ?_) (fun c_123 => ?_)
                      · --
                        replace c_123 : ¬ what = nI 0 := c_123
                        refine lv_iload hF.1 hF.2.1 dX11_run_136 (lv_at hl 4 rfl) ?_
                        exact hret _ (_, _, _, _, _, _, _, _, _, _, _, _, _, _, _, _, _, _, _, _) _ ls _ _ _ _ (by refine ⟨?_, ⟨⟨rfl, rfl⟩, ⟨rfl, rfl⟩, htk, hI, hJ, ⟨_, _, hI.setO (runU_lt (f := z.2.2) hn hI.2.1 (i))⟩, ⟨_, hX⟩⟩⟩; obtain rfl : i = z.2.1 := (by omega); rw [sfA_j x hj, hx, spRun_t hw2 hz0 (allB_t _ (fun q hq => hall q (by omega)))]; unfold runI; first | rw [if_pos c_123] | rw [if_neg c_123]) (by first | rfl | exact nar_b2i _) hG (Nat.le_of_ble_eq_true rfl) (Nat.le_of_ble_eq_true rfl) dX11_run_138
                      · --
                        replace c_123 : what = nI 0 := c_123
                        refine lv_aload_n hF.1 hF.2.1 dX11_run_126 rfl (lv_at hl 0 rfl) ?_
                        refine k_get (C := RX11) (T := TX11) (N := 8) hF hK hG (fun _ h => List.mem_cons_of_mem _ (List.mem_append_left _ (List.mem_append_left _ (List.mem_append_left _ (List.mem_append_left _ (List.mem_append_left _ (List.mem_append_left _ (List.mem_append_left _ (List.mem_append_left _ (List.mem_append_left _ (List.mem_append_right _ h))))))))))) 6 rfl rfl 2 (by decide) (List.mem_of_getElem? (i := 3) rfl) (fun _ h9 => h9) rfl dX11_run_127 ?_
                        refine k_get (C := RX9) (T := TX9) (N := 3) hF hK hG (fun _ h => List.mem_cons_of_mem _ (List.mem_append_left _ (List.mem_append_left _ (List.mem_append_left _ (List.mem_append_left _ (List.mem_append_left _ (List.mem_append_left _ (List.mem_append_left _ (List.mem_append_left _ (List.mem_append_right _ h)))))))))) 9 rfl rfl 2 (by decide) (List.mem_of_getElem? (i := 4) rfl) (fun _ h9 => h9) rfl dX11_run_130 ?_
                        refine lv_goto (tgt := 138) hF.1 hF.2.1 dX11_run_133 (by decide) ?_
                        exact hret _ (_, _, _, _, _, _, _, _, _, _, _, _, _, _, _, _, _, _, _, _) _ ls _ _ _ _ (by refine ⟨?_, ⟨⟨rfl, rfl⟩, ⟨rfl, rfl⟩, htk, hI, hJ, ⟨_, _, hI.setO (runU_lt (f := z.2.2) hn hI.2.1 (i))⟩, ⟨_, hX⟩⟩⟩; obtain rfl : i = z.2.1 := (by omega); rw [sfA_j x hj, hx, spRun_t hw2 hz0 (allB_t _ (fun q hq => hall q (by omega)))]; unfold runI; first | rw [if_pos c_123] | rw [if_neg c_123]) (by first | rfl | exact nar_b2i _) hG (Nat.le_of_ble_eq_true rfl) (Nat.le_of_ble_eq_true rfl) dX11_run_138
                    · --
                      have n_94 : ¬ (z.2.1 ≤ i) := fun zz9 => c_94 ((nI_leI (a := z.2.1) (b := i) (by omega) (by omega)).mpr zz9)
                      refine lv_aload_n hF.1 hF.2.1 dX11_run_97 rfl (lv_at hl 0 rfl) ?_
                      refine k_get (C := RX11) (T := TX11) (N := 8) hF hK hG (fun _ h => List.mem_cons_of_mem _ (List.mem_append_left _ (List.mem_append_left _ (List.mem_append_left _ (List.mem_append_left _ (List.mem_append_left _ (List.mem_append_left _ (List.mem_append_left _ (List.mem_append_left _ (List.mem_append_left _ (List.mem_append_right _ h))))))))))) 6 rfl rfl 2 (by decide) (List.mem_of_getElem? (i := 3) rfl) (fun _ h9 => h9) rfl dX11_run_98 ?_
                      refine lv_aload_n hF.1 hF.2.1 dX11_run_101 rfl (lv_at hl 3 rfl) ?_
                      refine lv_iload hF.1 hF.2.1 dX11_run_102 (lv_at hl 5 rfl) ?_
                      refine k_ci (r_V (As := [.int (nI i)]) hF hK hA hG (c_X6_valueAt hR.c16) (cwV 1 hF.2.2.2.2 gX11_run_X6_valueAt rfl rfl rfl (by decide +kernel) ⟨Nat.le_of_ble_eq_true rfl, Nat.le_of_ble_eq_true rfl⟩) (qr + 16) hR.c16.1 rfl rfl rfl hl.1 rfl (lv_room (Nat.le_of_ble_eq_true rfl)) dX11_run_104 ⟨Nat.le_of_ble_eq_true rfl, Nat.le_of_ble_eq_true rfl⟩) hG (fun r_104 u_104 H locs hp_104 hG => ?_)
                      rw [getR_t hR.2.2.1 (by omega)] at hp_104
                      subst hp_104
                      refine k_ci (r_V (As := [.int (z.2.2 (i))]) hF hK hA hG (c_X9_pulled (hI.setO (runU_lt (f := z.2.2) hn hI.2.1 (i))).w2) (cwV 1 hF.2.2.2.2 gX11_run_X9_pulled rfl rfl rfl (by decide +kernel) ⟨Nat.le_of_ble_eq_true rfl, Nat.le_of_ble_eq_true rfl⟩) 9 rfl rfl rfl rfl hl.1 rfl (lv_room (Nat.le_of_ble_eq_true rfl)) dX11_run_107 ⟨Nat.le_of_ble_eq_true rfl, Nat.le_of_ble_eq_true rfl⟩) hG (fun r_107 u_107 H locs hp_107 hG => ?_)
                      subst hp_107
                      have hG : Gd D A (XW cA ob mb ss sh sp mt rc n o dr n1 o1 dr1 n (runU n kd fg z.2.2 o (i + 1)).1 dr dk rk kt tk pool) s.heap H locs := hG
                      refine lv_if_eq (tgt := 116) hF.1 hF.2.1 dX11_run_110 (by decide) (fun c_110 => ?_) (fun c_110 => ?_)
                      · --
                        have n_110 : (mayZ n kd fg (z.2.2 (i)) (runU n kd fg z.2.2 o (i)).1) = false := b2i_z.mp c_110
                        have hc2 := runU_2f (i := i) n_110
                        refine lv_iinc (v := (nI (i + 1))) (lv' := [(5, .int (nI (i + 1))), (0, .ref (ob 6)), (1, .int (nI j)), (2, .int what), (3, .ref b), (4, .int (nI ((runU n kd fg z.2.2 o (i)).2)))]) hF.1 hF.2.1 dX11_run_116 hl (k := 5) rfl (nI_inc _ _) (by decide) rfl (fun ls hl => ?_)
                        refine lv_goto (tgt := 88) hF.1 hF.2.1 dX11_run_119 (by decide) ?_
                        exact ih88 (i + 1) (by omega) (by omega) _ _ hG ls (lv_sub hl [1, 2, 3, 4, 5, 0] (by rw [hc2]; rfl))
                      · --
                        have n_110 : (mayZ n kd fg (z.2.2 (i)) (runU n kd fg z.2.2 o (i)).1) = true := b2i_nz.mp c_110
                        have hc2 := runU_2t (i := i) n_110
                        refine lv_iinc (v := (nI ((runU n kd fg z.2.2 o (i)).2 + 1))) (lv' := [(4, .int (nI ((runU n kd fg z.2.2 o (i)).2 + 1))), (0, .ref (ob 6)), (1, .int (nI j)), (2, .int what), (3, .ref b), (5, .int (nI i))]) hF.1 hF.2.1 dX11_run_113 hl (k := 4) rfl (nI_inc _ _) (by decide) rfl (fun ls hl => ?_)
                        refine lv_iinc (v := (nI (i + 1))) (lv' := [(5, .int (nI (i + 1))), (4, .int (nI ((runU n kd fg z.2.2 o (i)).2 + 1))), (0, .ref (ob 6)), (1, .int (nI j)), (2, .int what), (3, .ref b)]) hF.1 hF.2.1 dX11_run_116 hl (k := 5) rfl (nI_inc _ _) (by decide) rfl (fun ls hl => ?_)
                        refine lv_goto (tgt := 88) hF.1 hF.2.1 dX11_run_119 (by decide) ?_
                        exact ih88 (i + 1) (by omega) (by omega) _ _ hG ls (lv_sub hl [2, 3, 4, 5, 1, 0] (by rw [hc2]; rfl))
                exact lp88 _ (0) (by omega) (Nat.lt_succ_self _) _ _ hG ls (lv_sub hl [2, 3, 4, 5, 1, 0] rfl)
              · --
                have n_43 : ¬ (z.2.1 ≤ i) := fun zz9 => c_43 ((nI_leI (a := z.2.1) (b := i) (by omega) (by omega)).mpr zz9)
                refine lv_aload_n hF.1 hF.2.1 dX11_run_46 rfl (lv_at hl 0 rfl) ?_
                refine k_get (C := RX11) (T := TX11) (N := 8) hF hK hG (fun _ h => List.mem_cons_of_mem _ (List.mem_append_left _ (List.mem_append_left _ (List.mem_append_left _ (List.mem_append_left _ (List.mem_append_left _ (List.mem_append_left _ (List.mem_append_left _ (List.mem_append_left _ (List.mem_append_left _ (List.mem_append_right _ h))))))))))) 6 rfl rfl 0 (by decide) (List.mem_of_getElem? (i := 2) rfl) (fun _ h9 => h9) rfl dX11_run_47 ?_
                refine lv_aload_n hF.1 hF.2.1 dX11_run_50 rfl (lv_at hl 3 rfl) ?_
                refine lv_iload hF.1 hF.2.1 dX11_run_51 (lv_at hl 4 rfl) ?_
                refine k_ci (r_V (As := [.int (nI i)]) hF hK hA hG (c_X6_valueAt hR.c16) (cwV 1 hF.2.2.2.2 gX11_run_X6_valueAt rfl rfl rfl (by decide +kernel) ⟨Nat.le_of_ble_eq_true rfl, Nat.le_of_ble_eq_true rfl⟩) (qr + 16) hR.c16.1 rfl rfl rfl hl.1 rfl (lv_room (Nat.le_of_ble_eq_true rfl)) dX11_run_53 ⟨Nat.le_of_ble_eq_true rfl, Nat.le_of_ble_eq_true rfl⟩) hG (fun r_53 u_53 H locs hp_53 hG => ?_)
                rw [getR_t hR.2.2.1 (by omega)] at hp_53
                subst hp_53
                refine k_ci (r_V (As := [.int (z.2.2 (i))]) hF hK hA hG (c_X9_has hI.w0) (cwV 1 hF.2.2.2.2 gX11_run_X9_has rfl rfl rfl (by decide +kernel) ⟨Nat.le_of_ble_eq_true rfl, Nat.le_of_ble_eq_true rfl⟩) 7 rfl rfl rfl rfl hl.1 rfl (lv_room (Nat.le_of_ble_eq_true rfl)) dX11_run_56 ⟨Nat.le_of_ble_eq_true rfl, Nat.le_of_ble_eq_true rfl⟩) hG (fun r_56 u_56 H locs hp_56 hG => ?_)
                subst hp_56
                refine lv_if_ne (tgt := 65) hF.1 hF.2.1 dX11_run_59 (by decide) (fun c_59 => ?_) (fun c_59 => ?_)
                · --
                  have n_59 : (inB n (z.2.2 (i))) = true := b2i_nz.mp c_59
                  refine lv_iinc (v := (nI (i + 1))) (lv' := [(4, .int (nI (i + 1))), (0, .ref (ob 6)), (1, .int (nI j)), (2, .int what), (3, .ref b)]) hF.1 hF.2.1 dX11_run_65 hl (k := 4) rfl (nI_inc _ _) (by decide) rfl (fun ls hl => ?_)
                  refine lv_goto (tgt := 37) hF.1 hF.2.1 dX11_run_68 (by decide) ?_
                  exact ih37 (i + 1) (by omega) (lt_s hall n_59) (by omega) _ _ hG ls (lv_sub hl [1, 2, 3, 4, 0] rfl)
                · --
                  have n_59 : (inB n (z.2.2 (i))) = false := b2i_z.mp c_59
                  refine lv_bipush (v := (-13)) hF.1 hF.2.1 dX11_run_62 (by decide +kernel) ?_
                  exact hret _ (_, _, _, _, _, _, _, _, _, _, _, _, _, _, _, _, _, _, _, _) _ ls _ _ _ _ (by refine ⟨?_, ⟨⟨rfl, rfl⟩, ⟨rfl, rfl⟩, htk, hI, hJ, ⟨_, _, hM⟩, ⟨_, hX⟩⟩⟩; rw [sfA_j x hj, hx, spRun_c hw2 hz0 (allB_f (i := i) (by omega) n_59)]) (by first | rfl | exact nar_b2i _) hG (Nat.le_of_ble_eq_true rfl) (Nat.le_of_ble_eq_true rfl) dX11_run_64
          exact lp37 _ (0) (by omega) (fun q h => absurd h (Nat.not_lt_zero q)) (Nat.lt_succ_self _) _ _ hG ls (lv_sub hl [2, 3, 4, 1, 0] rfl)
      · --
        refine lv_iconst (v := (-1)) hF.1 hF.2.1 dX11_run_16 (by decide +kernel) ?_
        exact hret _ (_, _, _, _, _, _, _, _, _, _, _, _, _, _, _, _, _, _, _, _) _ ls _ _ _ _ (by refine ⟨?_, ⟨⟨rfl, rfl⟩, ⟨rfl, rfl⟩, htk, hI, hJ, ⟨_, _, hM⟩, ⟨_, hX⟩⟩⟩; first | (rw [sfA_f x n_4]; exact spRun_s.symm) | exact (spRun_f (inB_l c_8)).symm | exact (spRun_f (in2_f c_13)).symm) (by first | rfl | exact nar_b2i _) hG (Nat.le_of_ble_eq_true rfl) (Nat.le_of_ble_eq_true rfl) dX11_run_17

abbrev rmX11_seeded : Room := { frames := 5, cells := 0, slots := 0, locals := 110 }
set_option maxHeartbeats 4000000 in
set_option maxRecDepth 100000 in
theorem c_X11_seeded {l : Launch} {D : va_G} {cA : Nat → ClassId} {A : Nat → Prop}  {ob : Nat → Nat} {mb ss sh sp : Nat → Int32} {mt : Nat → Int64} {rc n o : Nat} {dr : Nat → Option Nat} {n1 o1 : Nat} {dr1 : Nat → Option Nat} {n2 o2 : Nat} {dr2 dk rk : Nat → Option Nat} {kt : Nat → Int32} {tk : Int32} {pool : va_W} {kd fg : Nat → Nat} (hI : WI pool n o dr kd fg) {kd1 fg1 : Nat → Nat} (hJ : WI pool n1 o1 dr1 kd1 fg1) {kd2 fg2 : Nat → Nat} (hM : WI pool n2 o2 dr2 kd2 fg2) {x : Nat → Sf} {P : Nat → Nat} (hX : SX cA pool dk rk x P) {tkb : Bool} (htk : tk = b2i tkb) {mm z what : Int32} : Met l yX11_seeded wsX11_seeded rmX11_seeded (va_Pc [.ref (ob 6), .int mm, .int z, .int what] (Pre D cA A (XW cA ob mb ss sh sp mt rc n o dr n1 o1 dr1 n2 o2 dr2 dk rk kt tk pool))) (va_Qi (fun r (u : XS) => (r = spSeeded n o kd fg mm z what) ∧ XI cA u (n, o, kd, fg) (n1, o1, kd1, fg1) tkb x) (fun u t => Wd D A ((fun (u : XS) => XV cA ob u) u) t) A) (0) (0) A := by
  refine k_ofi (S := XS) (F := fun (u : XS) => XV cA ob u) (cc := cX11_seeded) (maxL := 8) (by decide) rfl (Nat.le_of_ble_eq_true rfl) ?_
  intro p e s m args below meth c Q hF hini hK hA hG hret ls hl
  have hl : lv_has ls 8 [(0, .ref (ob 6)), (1, .int mm), (2, .int z), (3, .int what)] := hl
  have hn : n ≤ 6 := hI.1
  have ho : o < 64 := hI.o64
  have hp2 : 2 ^ n ≤ 64 := Nat.pow_le_pow_right (by decide) hn
  have hp1 : 1 ≤ 2 ^ n := Nat.one_le_two_pow
  refine lv_iload_n hF.1 hF.2.1 dX11_seeded_0 rfl (lv_at hl 1 rfl) ?_
  refine lv_iconst (v := (nI 1)) hF.1 hF.2.1 dX11_seeded_1 (by decide +kernel) ?_
  refine lv_icmp_lt (tgt := 20) hF.1 hF.2.1 dX11_seeded_2 (by decide) (fun c_2 => ?_) (fun c_2 => ?_)
  · --
    refine lv_iconst (v := (-1)) hF.1 hF.2.1 dX11_seeded_20 (by decide +kernel) ?_
    exact hret _ (_, _, _, _, _, _, _, _, _, _, _, _, _, _, _, _, _, _, _, _) _ ls _ _ _ _ (by refine ⟨?_, ⟨⟨rfl, rfl⟩, ⟨rfl, rfl⟩, htk, hI, hJ, ⟨_, _, hM⟩, ⟨_, hX⟩⟩⟩; first | exact (spSeeded_f (Or.inl (inQ_l c_2))).symm | exact (spSeeded_f (Or.inl (inQ_r c_8))).symm | exact (spSeeded_f (Or.inr (inB_l c_12))).symm | exact (spSeeded_f (Or.inr (in2_f c_17))).symm) (by first | rfl | exact nar_b2i _) hG (Nat.le_of_ble_eq_true rfl) (Nat.le_of_ble_eq_true rfl) dX11_seeded_21
  · --
    refine lv_iload_n hF.1 hF.2.1 dX11_seeded_5 rfl (lv_at hl 1 rfl) ?_
    refine lv_bipush (v := (nI 60)) hF.1 hF.2.1 dX11_seeded_6 (by decide +kernel) ?_
    refine lv_icmp_gt (tgt := 20) hF.1 hF.2.1 dX11_seeded_8 (by decide) (fun c_8 => ?_) (fun c_8 => ?_)
    · --
      refine lv_iconst (v := (-1)) hF.1 hF.2.1 dX11_seeded_20 (by decide +kernel) ?_
      exact hret _ (_, _, _, _, _, _, _, _, _, _, _, _, _, _, _, _, _, _, _, _) _ ls _ _ _ _ (by refine ⟨?_, ⟨⟨rfl, rfl⟩, ⟨rfl, rfl⟩, htk, hI, hJ, ⟨_, _, hM⟩, ⟨_, hX⟩⟩⟩; first | exact (spSeeded_f (Or.inl (inQ_l c_2))).symm | exact (spSeeded_f (Or.inl (inQ_r c_8))).symm | exact (spSeeded_f (Or.inr (inB_l c_12))).symm | exact (spSeeded_f (Or.inr (in2_f c_17))).symm) (by first | rfl | exact nar_b2i _) hG (Nat.le_of_ble_eq_true rfl) (Nat.le_of_ble_eq_true rfl) dX11_seeded_21
    · --
      have hm := inQ_t (lo := 1) (hi := 60) c_2 c_8
      refine lv_iload_n hF.1 hF.2.1 dX11_seeded_11 rfl (lv_at hl 3 rfl) ?_
      refine lv_if_lt (tgt := 20) hF.1 hF.2.1 dX11_seeded_12 (by decide) (fun c_12 => ?_) (fun c_12 => ?_)
      · --
        refine lv_iconst (v := (-1)) hF.1 hF.2.1 dX11_seeded_20 (by decide +kernel) ?_
        exact hret _ (_, _, _, _, _, _, _, _, _, _, _, _, _, _, _, _, _, _, _, _) _ ls _ _ _ _ (by refine ⟨?_, ⟨⟨rfl, rfl⟩, ⟨rfl, rfl⟩, htk, hI, hJ, ⟨_, _, hM⟩, ⟨_, hX⟩⟩⟩; first | exact (spSeeded_f (Or.inl (inQ_l c_2))).symm | exact (spSeeded_f (Or.inl (inQ_r c_8))).symm | exact (spSeeded_f (Or.inr (inB_l c_12))).symm | exact (spSeeded_f (Or.inr (in2_f c_17))).symm) (by first | rfl | exact nar_b2i _) hG (Nat.le_of_ble_eq_true rfl) (Nat.le_of_ble_eq_true rfl) dX11_seeded_21
      · --
        refine lv_iload_n hF.1 hF.2.1 dX11_seeded_15 rfl (lv_at hl 3 rfl) ?_
        refine lv_iconst (v := (nI 1)) hF.1 hF.2.1 dX11_seeded_16 (by decide +kernel) ?_
        refine lv_icmp_le (tgt := 22) hF.1 hF.2.1 dX11_seeded_17 (by decide) (fun c_17 => ?_) (fun c_17 => ?_)
        · --
          have hw2 := in2_t c_12 c_17
          refine lv_aload_n hF.1 hF.2.1 dX11_seeded_22 rfl (lv_at hl 0 rfl) ?_
          refine k_get (C := RX11) (T := TX11) (N := 8) hF hK hG (fun _ h => List.mem_cons_of_mem _ (List.mem_append_left _ (List.mem_append_left _ (List.mem_append_left _ (List.mem_append_left _ (List.mem_append_left _ (List.mem_append_left _ (List.mem_append_left _ (List.mem_append_left _ (List.mem_append_left _ (List.mem_append_right _ h))))))))))) 6 rfl rfl 0 (by decide) (List.mem_of_getElem? (i := 1) rfl) (fun _ h9 => h9) rfl dX11_seeded_23 ?_
          refine k_get (C := RX9) (T := TX9) (N := 3) hF hK hG (fun _ h => List.mem_cons_of_mem _ (List.mem_append_left _ (List.mem_append_left _ (List.mem_append_left _ (List.mem_append_left _ (List.mem_append_left _ (List.mem_append_left _ (List.mem_append_left _ (List.mem_append_left _ (List.mem_append_right _ h)))))))))) 7 rfl rfl 1 (by decide) (List.mem_of_getElem? (i := 2) rfl) (fun _ h9 => h9) rfl dX11_seeded_26 ?_
          refine lv_istore (lv' := [(4, .int (nI n)), (0, .ref (ob 6)), (1, .int mm), (2, .int z), (3, .int what)]) hF.1 hF.2.1 dX11_seeded_29 hl (by decide) rfl (fun ls hl => ?_)
          refine lv_iload hF.1 hF.2.1 dX11_seeded_31 (lv_at hl 0 rfl) ?_
          refine lv_if_gt (tgt := 39) hF.1 hF.2.1 dX11_seeded_33 (by decide) (fun c_33 => ?_) (fun c_33 => ?_)
          · --
            have n_33 : 0 < n := (nI_ltI (a := 0) (b := n) (by omega) (by omega)).mp c_33
            obtain ⟨j, hj0, hj, rfl⟩ := inQ_ex (by omega) (by omega) hm
            refine lv_aload_n hF.1 hF.2.1 dX11_seeded_39 rfl (lv_at hl 1 rfl) ?_
            refine k_get (C := RX11) (T := TX11) (N := 8) hF hK hG (fun _ h => List.mem_cons_of_mem _ (List.mem_append_left _ (List.mem_append_left _ (List.mem_append_left _ (List.mem_append_left _ (List.mem_append_left _ (List.mem_append_left _ (List.mem_append_left _ (List.mem_append_left _ (List.mem_append_left _ (List.mem_append_right _ h))))))))))) 6 rfl rfl 2 (by decide) (List.mem_of_getElem? (i := 3) rfl) (fun _ h9 => h9) rfl dX11_seeded_40 ?_
            refine lv_aload_n hF.1 hF.2.1 dX11_seeded_43 rfl (lv_at hl 1 rfl) ?_
            refine k_get (C := RX11) (T := TX11) (N := 8) hF hK hG (fun _ h => List.mem_cons_of_mem _ (List.mem_append_left _ (List.mem_append_left _ (List.mem_append_left _ (List.mem_append_left _ (List.mem_append_left _ (List.mem_append_left _ (List.mem_append_left _ (List.mem_append_left _ (List.mem_append_left _ (List.mem_append_right _ h))))))))))) 6 rfl rfl 0 (by decide) (List.mem_of_getElem? (i := 1) rfl) (fun _ h9 => h9) rfl dX11_seeded_44 ?_
            refine k_cv (r_V (As := [.ref (ob 7)]) hF hK hA hG (c_X9_takeFrom hM.w2 hI.w0 (fun h => absurd (hG.2.1.1 9 7 _ _ rfl rfl h) (by decide)) (fun h => absurd (hG.2.1.1 12 10 _ _ rfl rfl h) (by decide))) (cwV 1 hF.2.2.2.2 gX11_seeded_X9_takeFrom rfl rfl rfl (by decide +kernel) ⟨Nat.le_of_ble_eq_true rfl, Nat.le_of_ble_eq_true rfl⟩) 9 rfl rfl rfl rfl hl.1 rfl (lv_room (Nat.le_of_ble_eq_true rfl)) dX11_seeded_47 ⟨Nat.le_of_ble_eq_true rfl, Nat.le_of_ble_eq_true rfl⟩) hG (fun u_47 H locs hp_47 hG => ?_)
            have hG : Gd D A (XW cA ob mb ss sh sp mt rc n o dr n1 o1 dr1 n (runU n kd fg (sdF n z) o (0)).1 dr dk rk kt tk pool) s.heap H locs := hG
            refine lv_iload_n hF.1 hF.2.1 dX11_seeded_50 rfl (lv_at hl 3 rfl) ?_
            refine lv_istore (lv' := [(5, .int z), (4, .int (nI n)), (0, .ref (ob 6)), (1, .int (nI j)), (2, .int z), (3, .int what)]) hF.1 hF.2.1 dX11_seeded_51 hl (by decide) rfl (fun ls hl => ?_)
            refine lv_iconst (v := (nI 0)) hF.1 hF.2.1 dX11_seeded_53 (by decide +kernel) ?_
            refine lv_istore (lv' := [(6, .int (nI 0)), (5, .int z), (4, .int (nI n)), (0, .ref (ob 6)), (1, .int (nI j)), (2, .int z), (3, .int what)]) hF.1 hF.2.1 dX11_seeded_54 hl (by decide) rfl (fun ls hl => ?_)
            refine lv_iconst (v := (nI 0)) hF.1 hF.2.1 dX11_seeded_56 (by decide +kernel) ?_
            refine lv_istore (lv' := [(7, .int (nI 0)), (6, .int (nI 0)), (5, .int z), (4, .int (nI n)), (0, .ref (ob 6)), (1, .int (nI j)), (2, .int z), (3, .int what)]) hF.1 hF.2.1 dX11_seeded_57 hl (by decide) rfl (fun ls hl => ?_)
            have lp59 : ∀ (fuel : Nat), ∀ (i : Nat), (hi : i ≤ j) → (j - i) < fuel → ∀ (H : Heap) (locs : List Loc), Gd D A (XW cA ob mb ss sh sp mt rc n o dr n1 o1 dr1 n (runU n kd fg (sdF n z) o (i)).1 dr dk rk kt tk pool) s.heap H locs → ∀ ls : Array Slot, lv_has ls 8 [(0, .ref (ob 6)), (1, .int (nI j)), (2, .int z), (3, .int what), (4, .int (nI n)), (5, .int (sdS z i)), (6, .int (nI ((runU n kd fg (sdF n z) o (i)).2))), (7, .int (nI i))] → W p l e rmX11_seeded s m args below meth c H locs (0) (0) Q (F0 m 59 ls []) := by
              intro fuel
              induction fuel with
              | zero => intro i hi hmu; exact absurd hmu (Nat.not_lt_zero _)
              | succ fuel ih59 =>
                intro i hi hmu H locs hG ls hl
                refine lv_iload hF.1 hF.2.1 dX11_seeded_59 (lv_at hl 7 rfl) ?_
                refine lv_iload_n hF.1 hF.2.1 dX11_seeded_61 rfl (lv_at hl 1 rfl) ?_
                refine lv_icmp_ge (tgt := 106) hF.1 hF.2.1 dX11_seeded_62 (by decide) (fun c_62 => ?_) (fun c_62 => ?_)
                · --
                  have n_62 : j ≤ i := (nI_leI (a := j) (b := i) (by omega) (by omega)).mp c_62
                  refine lv_iload_n hF.1 hF.2.1 dX11_seeded_106 rfl (lv_at hl 3 rfl) ?_
                  refine lv_if_ne (tgt := 120) hF.1 hF.2.1 dX11_seeded_107 (by decide) (fun c_107 => ?_) (fun c_107 => ?_)
                  · --
                    replace c_107 : ¬ what = nI 0 := c_107
                    refine lv_iload hF.1 hF.2.1 dX11_seeded_120 (lv_at hl 6 rfl) ?_
                    exact hret _ (_, _, _, _, _, _, _, _, _, _, _, _, _, _, _, _, _, _, _, _) _ ls _ _ _ _ (by refine ⟨?_, ⟨⟨rfl, rfl⟩, ⟨rfl, rfl⟩, htk, hI, hJ, ⟨_, _, hI.setO (runU_lt (f := (sdF n z)) hn hI.2.1 (i))⟩, ⟨_, hX⟩⟩⟩; obtain rfl : i = j := (by omega); rw [spSeeded_t hm hj hw2 (by omega)]; unfold runI; first | rw [if_pos c_107] | rw [if_neg c_107]) (by first | rfl | exact nar_b2i _) hG (Nat.le_of_ble_eq_true rfl) (Nat.le_of_ble_eq_true rfl) dX11_seeded_122
                  · --
                    replace c_107 : what = nI 0 := c_107
                    refine lv_aload_n hF.1 hF.2.1 dX11_seeded_110 rfl (lv_at hl 0 rfl) ?_
                    refine k_get (C := RX11) (T := TX11) (N := 8) hF hK hG (fun _ h => List.mem_cons_of_mem _ (List.mem_append_left _ (List.mem_append_left _ (List.mem_append_left _ (List.mem_append_left _ (List.mem_append_left _ (List.mem_append_left _ (List.mem_append_left _ (List.mem_append_left _ (List.mem_append_left _ (List.mem_append_right _ h))))))))))) 6 rfl rfl 2 (by decide) (List.mem_of_getElem? (i := 3) rfl) (fun _ h9 => h9) rfl dX11_seeded_111 ?_
                    refine k_get (C := RX9) (T := TX9) (N := 3) hF hK hG (fun _ h => List.mem_cons_of_mem _ (List.mem_append_left _ (List.mem_append_left _ (List.mem_append_left _ (List.mem_append_left _ (List.mem_append_left _ (List.mem_append_left _ (List.mem_append_left _ (List.mem_append_left _ (List.mem_append_right _ h)))))))))) 9 rfl rfl 2 (by decide) (List.mem_of_getElem? (i := 7) rfl) (fun _ h9 => h9) rfl dX11_seeded_114 ?_
                    refine lv_goto (tgt := 122) hF.1 hF.2.1 dX11_seeded_117 (by decide) ?_
                    exact hret _ (_, _, _, _, _, _, _, _, _, _, _, _, _, _, _, _, _, _, _, _) _ ls _ _ _ _ (by refine ⟨?_, ⟨⟨rfl, rfl⟩, ⟨rfl, rfl⟩, htk, hI, hJ, ⟨_, _, hI.setO (runU_lt (f := (sdF n z)) hn hI.2.1 (i))⟩, ⟨_, hX⟩⟩⟩; obtain rfl : i = j := (by omega); rw [spSeeded_t hm hj hw2 (by omega)]; unfold runI; first | rw [if_pos c_107] | rw [if_neg c_107]) (by first | rfl | exact nar_b2i _) hG (Nat.le_of_ble_eq_true rfl) (Nat.le_of_ble_eq_true rfl) dX11_seeded_122
                · --
                  have n_62 : ¬ (j ≤ i) := fun zz9 => c_62 ((nI_leI (a := j) (b := i) (by omega) (by omega)).mpr zz9)
                  refine lv_iload hF.1 hF.2.1 dX11_seeded_65 (lv_at hl 5 rfl) ?_
                  refine lv_ldc hF.1 hF.2.1 (own := RX11) hF.2.2.2.1 (hF.2.2.2.2 _ (List.mem_of_getElem? (i := 4) rfl)) dX11_seeded_67 ?_
                  refine lv_imul hF.1 hF.2.1 dX11_seeded_69 ?_
                  refine lv_sipush (v := (nI 12345)) hF.1 hF.2.1 dX11_seeded_70 (by decide +kernel) ?_
                  refine lv_iadd hF.1 hF.2.1 dX11_seeded_73 ?_
                  refine lv_istore (lv' := [(5, .int (sdN (sdS z i))), (0, .ref (ob 6)), (1, .int (nI j)), (2, .int z), (3, .int what), (4, .int (nI n)), (6, .int (nI ((runU n kd fg (sdF n z) o (i)).2))), (7, .int (nI i))]) hF.1 hF.2.1 dX11_seeded_74 hl (by decide) rfl (fun ls hl => ?_)
                  refine lv_aload_n hF.1 hF.2.1 dX11_seeded_76 rfl (lv_at hl 1 rfl) ?_
                  refine k_get (C := RX11) (T := TX11) (N := 8) hF hK hG (fun _ h => List.mem_cons_of_mem _ (List.mem_append_left _ (List.mem_append_left _ (List.mem_append_left _ (List.mem_append_left _ (List.mem_append_left _ (List.mem_append_left _ (List.mem_append_left _ (List.mem_append_left _ (List.mem_append_left _ (List.mem_append_right _ h))))))))))) 6 rfl rfl 2 (by decide) (List.mem_of_getElem? (i := 3) rfl) (fun _ h9 => h9) rfl dX11_seeded_77 ?_
                  refine lv_iload hF.1 hF.2.1 dX11_seeded_80 (lv_at hl 0 rfl) ?_
                  refine lv_ldc hF.1 hF.2.1 (own := RX11) hF.2.2.2.1 (hF.2.2.2.2 _ (List.mem_of_getElem? (i := 5) rfl)) dX11_seeded_82 ?_
                  refine lv_iand hF.1 hF.2.1 dX11_seeded_84 ?_
                  refine lv_ldc hF.1 hF.2.1 (own := RX11) hF.2.2.2.1 (hF.2.2.2.2 _ (List.mem_of_getElem? (i := 6) rfl)) dX11_seeded_85 ?_
                  refine lv_idiv hF.1 hF.2.1 dX11_seeded_87 (by decide +kernel) ?_
                  refine lv_iload hF.1 hF.2.1 dX11_seeded_88 (lv_at hl 5 rfl) ?_
                  refine lv_irem hF.1 hF.2.1 dX11_seeded_90 (nI_ne0 (by omega) (by omega)) ?_
                  rw [drN_r _ (by omega) (by omega)]
                  refine k_ci (r_V (As := [.int (sdF n z i)]) hF hK hA hG (c_X9_pulled (hI.setO (runU_lt (f := (sdF n z)) hn hI.2.1 (i))).w2) (cwV 1 hF.2.2.2.2 gX11_seeded_X9_pulled rfl rfl rfl (by decide +kernel) ⟨Nat.le_of_ble_eq_true rfl, Nat.le_of_ble_eq_true rfl⟩) 9 rfl rfl rfl rfl hl.1 rfl (lv_room (Nat.le_of_ble_eq_true rfl)) dX11_seeded_91 ⟨Nat.le_of_ble_eq_true rfl, Nat.le_of_ble_eq_true rfl⟩) hG (fun r_91 u_91 H locs hp_91 hG => ?_)
                  subst hp_91
                  have hG : Gd D A (XW cA ob mb ss sh sp mt rc n o dr n1 o1 dr1 n (runU n kd fg (sdF n z) o (i + 1)).1 dr dk rk kt tk pool) s.heap H locs := hG
                  refine lv_if_eq (tgt := 100) hF.1 hF.2.1 dX11_seeded_94 (by decide) (fun c_94 => ?_) (fun c_94 => ?_)
                  · --
                    have n_94 : (mayZ n kd fg (sdF n z i) (runU n kd fg (sdF n z) o (i)).1) = false := b2i_z.mp c_94
                    have hc2 := runU_2f (f := sdF n z) (i := i) n_94
                    refine lv_iinc (v := (nI (i + 1))) (lv' := [(7, .int (nI (i + 1))), (5, .int (sdN (sdS z i))), (0, .ref (ob 6)), (1, .int (nI j)), (2, .int z), (3, .int what), (4, .int (nI n)), (6, .int (nI ((runU n kd fg (sdF n z) o (i)).2)))]) hF.1 hF.2.1 dX11_seeded_100 hl (k := 7) rfl (nI_inc _ _) (by decide) rfl (fun ls hl => ?_)
                    refine lv_goto (tgt := 59) hF.1 hF.2.1 dX11_seeded_103 (by decide) ?_
                    exact ih59 (i + 1) (by omega) (by omega) _ _ hG ls (lv_sub hl [2, 3, 4, 5, 6, 1, 7, 0] (by rw [hc2]; rfl))
                  · --
                    have n_94 : (mayZ n kd fg (sdF n z i) (runU n kd fg (sdF n z) o (i)).1) = true := b2i_nz.mp c_94
                    have hc2 := runU_2t (f := sdF n z) (i := i) n_94
                    refine lv_iinc (v := (nI ((runU n kd fg (sdF n z) o (i)).2 + 1))) (lv' := [(6, .int (nI ((runU n kd fg (sdF n z) o (i)).2 + 1))), (5, .int (sdN (sdS z i))), (0, .ref (ob 6)), (1, .int (nI j)), (2, .int z), (3, .int what), (4, .int (nI n)), (7, .int (nI i))]) hF.1 hF.2.1 dX11_seeded_97 hl (k := 6) rfl (nI_inc _ _) (by decide) rfl (fun ls hl => ?_)
                    refine lv_iinc (v := (nI (i + 1))) (lv' := [(7, .int (nI (i + 1))), (6, .int (nI ((runU n kd fg (sdF n z) o (i)).2 + 1))), (5, .int (sdN (sdS z i))), (0, .ref (ob 6)), (1, .int (nI j)), (2, .int z), (3, .int what), (4, .int (nI n))]) hF.1 hF.2.1 dX11_seeded_100 hl (k := 7) rfl (nI_inc _ _) (by decide) rfl (fun ls hl => ?_)
                    refine lv_goto (tgt := 59) hF.1 hF.2.1 dX11_seeded_103 (by decide) ?_
                    exact ih59 (i + 1) (by omega) (by omega) _ _ hG ls (lv_sub hl [3, 4, 5, 6, 7, 2, 1, 0] (by rw [hc2]; rfl))
            exact lp59 _ (0) (by omega) (Nat.lt_succ_self _) _ _ hG ls (lv_sub hl [4, 5, 6, 7, 3, 2, 1, 0] rfl)
          · --
            have n_33 : ¬ (0 < n) := fun zz9 => c_33 ((nI_ltI (a := 0) (b := n) (by omega) (by omega)).mpr zz9)
            refine lv_bipush (v := (-3)) hF.1 hF.2.1 dX11_seeded_36 (by decide +kernel) ?_
            exact hret _ (_, _, _, _, _, _, _, _, _, _, _, _, _, _, _, _, _, _, _, _) _ ls _ _ _ _ (by refine ⟨?_, ⟨⟨rfl, rfl⟩, ⟨rfl, rfl⟩, htk, hI, hJ, ⟨_, _, hM⟩, ⟨_, hX⟩⟩⟩; exact (spSeeded_0 hm hw2 (by omega)).symm) (by first | rfl | exact nar_b2i _) hG (Nat.le_of_ble_eq_true rfl) (Nat.le_of_ble_eq_true rfl) dX11_seeded_38
        · --
          refine lv_iconst (v := (-1)) hF.1 hF.2.1 dX11_seeded_20 (by decide +kernel) ?_
          exact hret _ (_, _, _, _, _, _, _, _, _, _, _, _, _, _, _, _, _, _, _, _) _ ls _ _ _ _ (by refine ⟨?_, ⟨⟨rfl, rfl⟩, ⟨rfl, rfl⟩, htk, hI, hJ, ⟨_, _, hM⟩, ⟨_, hX⟩⟩⟩; first | exact (spSeeded_f (Or.inl (inQ_l c_2))).symm | exact (spSeeded_f (Or.inl (inQ_r c_8))).symm | exact (spSeeded_f (Or.inr (inB_l c_12))).symm | exact (spSeeded_f (Or.inr (in2_f c_17))).symm) (by first | rfl | exact nar_b2i _) hG (Nat.le_of_ble_eq_true rfl) (Nat.le_of_ble_eq_true rfl) dX11_seeded_21

abbrev rmX11_judge : Room := { frames := 5, cells := 0, slots := 0, locals := 110 }
set_option maxHeartbeats 4000000 in
set_option maxRecDepth 100000 in
theorem c_X11_judge {l : Launch} {D : va_G} {cA : Nat → ClassId} {A : Nat → Prop}  {ob : Nat → Nat} {mb ss sh sp : Nat → Int32} {mt : Nat → Int64} {rc n o : Nat} {dr : Nat → Option Nat} {n1 o1 : Nat} {dr1 : Nat → Option Nat} {n2 o2 : Nat} {dr2 dk rk : Nat → Option Nat} {kt : Nat → Int32} {tk : Int32} {pool : va_W} {kd fg : Nat → Nat} (hI : WI pool n o dr kd fg) {kd1 fg1 : Nat → Nat} (hJ : WI pool n1 o1 dr1 kd1 fg1) {kd2 fg2 : Nat → Nat} (hM : WI pool n2 o2 dr2 kd2 fg2) {x : Nat → Sf} {P : Nat → Nat} (hX : SX cA pool dk rk x P) {tkb : Bool} (htk : tk = b2i tkb) {d : Int32} : Met l yX11_judge wsX11_judge rmX11_judge (va_Pc [.ref (ob 6), .int d] (Pre D cA A (XW cA ob mb ss sh sp mt rc n o dr n1 o1 dr1 n2 o2 dr2 dk rk kt tk pool))) (va_Qi (fun r (u : XS) => (spJudge n o kd fg (sfA x d) r) ∧ XI cA u (n, o, kd, fg) (n1, o1, kd1, fg1) tkb x) (fun u t => Wd D A ((fun (u : XS) => XV cA ob u) u) t) A) (0) (0) A := by
  refine k_ofi (S := XS) (F := fun (u : XS) => XV cA ob u) (cc := cX11_judge) (maxL := 4) (by decide) rfl (Nat.le_of_ble_eq_true rfl) ?_
  intro p e s m args below meth c Q hF hini hK hA hG hret ls hl
  have hl : lv_has ls 4 [(0, .ref (ob 6)), (1, .int d)] := hl
  have hn : n ≤ 6 := hI.1
  have ho : o < 64 := hI.o64
  have hp2 : 2 ^ n ≤ 64 := Nat.pow_le_pow_right (by decide) hn
  have hp1 : 1 ≤ 2 ^ n := Nat.one_le_two_pow
  refine lv_aload_n hF.1 hF.2.1 dX11_judge_0 rfl (lv_at hl 0 rfl) ?_
  refine lv_iload_n hF.1 hF.2.1 dX11_judge_1 rfl (lv_at hl 1 rfl) ?_
  refine k_cq (r_V (As := [.int d]) hF hK hA hG (c_X11_rowOn) (cwV 1 hF.2.2.2.2 gX11_judge_X11_rowOn rfl rfl rfl (by decide +kernel) ⟨Nat.le_of_ble_eq_true rfl, Nat.le_of_ble_eq_true rfl⟩) 6 rfl rfl rfl rfl hl.1 rfl (lv_room (Nat.le_of_ble_eq_true rfl)) dX11_judge_2 ⟨Nat.le_of_ble_eq_true rfl, Nat.le_of_ble_eq_true rfl⟩) hG (fun r_2 u_2 H locs hp_2 hG => ?_)
  cases r_2 with
  | none =>
    show W p l e rmX11_judge s m args below meth c _ _ _ _ Q (F0 m 5 ls (.null :: []))
    refine lv_astore_nN (lv' := [(2, .null), (0, .ref (ob 6)), (1, .int d)]) hF.1 hF.2.1 dX11_judge_5 rfl hl (by decide) rfl (fun ls hl => ?_)
    refine lv_aload_nN hF.1 hF.2.1 dX11_judge_6 rfl (lv_at hl 0 rfl) ?_
    refine lv_ifnonnullN hF.1 hF.2.1 dX11_judge_7 ?_
    refine lv_aload_n hF.1 hF.2.1 dX11_judge_10 rfl (lv_at hl 1 rfl) ?_
    refine lv_iload_n hF.1 hF.2.1 dX11_judge_11 rfl (lv_at hl 2 rfl) ?_
    refine k_ci (r_V (As := [.int d]) hF hK hA hG (c_X11_lacking hX) (cwV 1 hF.2.2.2.2 gX11_judge_X11_lacking rfl rfl rfl (by decide +kernel) ⟨Nat.le_of_ble_eq_true rfl, Nat.le_of_ble_eq_true rfl⟩) 6 rfl rfl rfl rfl hl.1 rfl (lv_room (Nat.le_of_ble_eq_true rfl)) dX11_judge_12 ⟨Nat.le_of_ble_eq_true rfl, Nat.le_of_ble_eq_true rfl⟩) hG (fun r_12 u_12 H locs hp_12 hG => ?_)
    subst hp_12
    exact hret _ (_, _, _, _, _, _, _, _, _, _, _, _, _, _, _, _, _, _, _, _) _ ls _ _ _ _ (by refine ⟨?_, ⟨⟨rfl, rfl⟩, ⟨rfl, rfl⟩, htk, hI, hJ, ⟨_, _, hM⟩, ⟨_, hX⟩⟩⟩; rw [(shR_n hX hp_2).1]; exact spJudge_n (shR_n hX hp_2).2) (by first | rfl | exact nar_b2i _) hG (Nat.le_of_ble_eq_true rfl) (Nat.le_of_ble_eq_true rfl) dX11_judge_15
  | some b =>
    obtain ⟨j, z, arr, qr, hj, rfl, hx, hR⟩ := shR_s hX hp_2
    have hbk := hp_2.trans (shA_j rk hj)
    show W p l e rmX11_judge s m args below meth c _ _ _ _ Q (F0 m 5 ls (.ref b :: []))
    refine lv_astore_n (lv' := [(2, .ref b), (0, .ref (ob 6)), (1, .int (nI j))]) hF.1 hF.2.1 dX11_judge_5 rfl hl (by decide) rfl (fun ls hl => ?_)
    refine lv_aload_n hF.1 hF.2.1 dX11_judge_6 rfl (lv_at hl 0 rfl) ?_
    refine lv_ifnonnull (tgt := 16) hF.1 hF.2.1 dX11_judge_7 (by decide) ?_
    have hz100 := hR.2.2.1
    refine lv_aload_n hF.1 hF.2.1 dX11_judge_16 rfl (lv_at hl 1 rfl) ?_
    refine k_get (C := RX11) (T := TX11) (N := 8) hF hK hG (fun _ h => List.mem_cons_of_mem _ (List.mem_append_left _ (List.mem_append_left _ (List.mem_append_left _ (List.mem_append_left _ (List.mem_append_left _ (List.mem_append_left _ (List.mem_append_left _ (List.mem_append_left _ (List.mem_append_left _ (List.mem_append_left _ (List.mem_append_right _ h)))))))))))) 6 rfl rfl 2 (by decide) (List.mem_of_getElem? (i := 1) rfl) (fun _ h9 => h9) rfl dX11_judge_17 ?_
    refine lv_aload_n hF.1 hF.2.1 dX11_judge_20 rfl (lv_at hl 1 rfl) ?_
    refine k_get (C := RX11) (T := TX11) (N := 8) hF hK hG (fun _ h => List.mem_cons_of_mem _ (List.mem_append_left _ (List.mem_append_left _ (List.mem_append_left _ (List.mem_append_left _ (List.mem_append_left _ (List.mem_append_left _ (List.mem_append_left _ (List.mem_append_left _ (List.mem_append_left _ (List.mem_append_left _ (List.mem_append_right _ h)))))))))))) 6 rfl rfl 0 (by decide) (List.mem_of_getElem? (i := 2) rfl) (fun _ h9 => h9) rfl dX11_judge_21 ?_
    refine k_cv (r_V (As := [.ref (ob 7)]) hF hK hA hG (c_X9_takeFrom hM.w2 hI.w0 (fun h => absurd (hG.2.1.1 9 7 _ _ rfl rfl h) (by decide)) (fun h => absurd (hG.2.1.1 12 10 _ _ rfl rfl h) (by decide))) (cwV 1 hF.2.2.2.2 gX11_judge_X9_takeFrom rfl rfl rfl (by decide +kernel) ⟨Nat.le_of_ble_eq_true rfl, Nat.le_of_ble_eq_true rfl⟩) 9 rfl rfl rfl rfl hl.1 rfl (lv_room (Nat.le_of_ble_eq_true rfl)) dX11_judge_24 ⟨Nat.le_of_ble_eq_true rfl, Nat.le_of_ble_eq_true rfl⟩) hG (fun u_24 H locs hp_24 hG => ?_)
    have hG : Gd D A (XW cA ob mb ss sh sp mt rc n o dr n1 o1 dr1 n (runU n kd fg z.2.2 o (0)).1 dr dk rk kt tk pool) s.heap H locs := hG
    refine lv_iconst (v := (nI 0)) hF.1 hF.2.1 dX11_judge_27 (by decide +kernel) ?_
    refine lv_istore_n (lv' := [(3, .int (nI 0)), (2, .ref b), (0, .ref (ob 6)), (1, .int (nI j))]) hF.1 hF.2.1 dX11_judge_28 rfl hl (by decide) rfl (fun ls hl => ?_)
    have lp29 : ∀ (fuel : Nat), ∀ (i : Nat), (hi : i ≤ z.2.1) → (hall : ∀ q, q < i → mayZ n kd fg (z.2.2 q) (runU n kd fg z.2.2 o q).1 = true) → (z.2.1 - i) < fuel → ∀ (H : Heap) (locs : List Loc), Gd D A (XW cA ob mb ss sh sp mt rc n o dr n1 o1 dr1 n (runU n kd fg z.2.2 o (i)).1 dr dk rk kt tk pool) s.heap H locs → ∀ ls : Array Slot, lv_has ls 4 [(0, .ref (ob 6)), (1, .int (nI j)), (2, .ref b), (3, .int (nI i))] → W p l e rmX11_judge s m args below meth c H locs (0) (0) Q (F0 m 29 ls []) := by
      intro fuel
      induction fuel with
      | zero => intro i hi hall hmu; exact absurd hmu (Nat.not_lt_zero _)
      | succ fuel ih29 =>
        intro i hi hall hmu H locs hG ls hl
        refine lv_iload_n hF.1 hF.2.1 dX11_judge_29 rfl (lv_at hl 3 rfl) ?_
        refine lv_aload_n hF.1 hF.2.1 dX11_judge_30 rfl (lv_at hl 2 rfl) ?_
        refine k_get (C := RX6) (T := TX6) (N := 3) hF hK hG (fun _ h => List.mem_cons_of_mem _ (List.mem_append_left _ (List.mem_append_left _ (List.mem_append_left _ (List.mem_append_left _ (List.mem_append_left _ (List.mem_append_left _ (List.mem_append_left _ (List.mem_append_left _ (List.mem_append_left _ (List.mem_append_right _ h))))))))))) (qr + 16) hR.c16.1 rfl 1 (by decide) (List.mem_of_getElem? (i := 3) rfl) (fun _ h9 => h9) rfl dX11_judge_31 ?_
        refine lv_icmp_ge (tgt := 60) hF.1 hF.2.1 dX11_judge_34 (by decide) (fun c_34 => ?_) (fun c_34 => ?_)
        · --
          have n_34 : z.2.1 ≤ i := (nI_leI (a := z.2.1) (b := i) (by omega) (by omega)).mp c_34
          refine lv_bipush (v := (-4)) hF.1 hF.2.1 dX11_judge_60 (by decide +kernel) ?_
          exact hret _ (_, _, _, _, _, _, _, _, _, _, _, _, _, _, _, _, _, _, _, _) _ ls _ _ _ _ (by refine ⟨?_, ⟨⟨rfl, rfl⟩, ⟨rfl, rfl⟩, htk, hI, hJ, ⟨_, _, hI.setO (runU_lt (f := z.2.2) hn hI.2.1 (i))⟩, ⟨_, hX⟩⟩⟩; rw [sfA_j x hj, hx]; exact Or.inl ⟨rfl, fun q hq => hall q (by omega)⟩) (by first | rfl | exact nar_b2i _) hG (Nat.le_of_ble_eq_true rfl) (Nat.le_of_ble_eq_true rfl) dX11_judge_62
        · --
          have n_34 : ¬ (z.2.1 ≤ i) := fun zz9 => c_34 ((nI_leI (a := z.2.1) (b := i) (by omega) (by omega)).mpr zz9)
          refine lv_aload_n hF.1 hF.2.1 dX11_judge_37 rfl (lv_at hl 0 rfl) ?_
          refine k_get (C := RX11) (T := TX11) (N := 8) hF hK hG (fun _ h => List.mem_cons_of_mem _ (List.mem_append_left _ (List.mem_append_left _ (List.mem_append_left _ (List.mem_append_left _ (List.mem_append_left _ (List.mem_append_left _ (List.mem_append_left _ (List.mem_append_left _ (List.mem_append_left _ (List.mem_append_left _ (List.mem_append_right _ h)))))))))))) 6 rfl rfl 2 (by decide) (List.mem_of_getElem? (i := 1) rfl) (fun _ h9 => h9) rfl dX11_judge_38 ?_
          refine lv_aload_n hF.1 hF.2.1 dX11_judge_41 rfl (lv_at hl 2 rfl) ?_
          refine lv_iload_n hF.1 hF.2.1 dX11_judge_42 rfl (lv_at hl 3 rfl) ?_
          refine k_ci (r_V (As := [.int (nI i)]) hF hK hA hG (c_X6_valueAt hR.c16) (cwV 1 hF.2.2.2.2 gX11_judge_X6_valueAt rfl rfl rfl (by decide +kernel) ⟨Nat.le_of_ble_eq_true rfl, Nat.le_of_ble_eq_true rfl⟩) (qr + 16) hR.c16.1 rfl rfl rfl hl.1 rfl (lv_room (Nat.le_of_ble_eq_true rfl)) dX11_judge_43 ⟨Nat.le_of_ble_eq_true rfl, Nat.le_of_ble_eq_true rfl⟩) hG (fun r_43 u_43 H locs hp_43 hG => ?_)
          rw [getR_t hR.2.2.1 (by omega)] at hp_43
          subst hp_43
          refine k_ci (r_V (As := [.int (z.2.2 (i))]) hF hK hA hG (c_X9_pulled (hI.setO (runU_lt (f := z.2.2) hn hI.2.1 (i))).w2) (cwV 1 hF.2.2.2.2 gX11_judge_X9_pulled rfl rfl rfl (by decide +kernel) ⟨Nat.le_of_ble_eq_true rfl, Nat.le_of_ble_eq_true rfl⟩) 9 rfl rfl rfl rfl hl.1 rfl (lv_room (Nat.le_of_ble_eq_true rfl)) dX11_judge_46 ⟨Nat.le_of_ble_eq_true rfl, Nat.le_of_ble_eq_true rfl⟩) hG (fun r_46 u_46 H locs hp_46 hG => ?_)
          subst hp_46
          have hG : Gd D A (XW cA ob mb ss sh sp mt rc n o dr n1 o1 dr1 n (runU n kd fg z.2.2 o (i + 1)).1 dr dk rk kt tk pool) s.heap H locs := hG
          refine lv_if_ne (tgt := 54) hF.1 hF.2.1 dX11_judge_49 (by decide) (fun c_49 => ?_) (fun c_49 => ?_)
          · --
            have n_49 : (mayZ n kd fg (z.2.2 (i)) (runU n kd fg z.2.2 o (i)).1) = true := b2i_nz.mp c_49
            refine lv_iinc (v := (nI (i + 1))) (lv' := [(3, .int (nI (i + 1))), (0, .ref (ob 6)), (1, .int (nI j)), (2, .ref b)]) hF.1 hF.2.1 dX11_judge_54 hl (k := 3) rfl (nI_inc _ _) (by decide) rfl (fun ls hl => ?_)
            refine lv_goto (tgt := 29) hF.1 hF.2.1 dX11_judge_57 (by decide) ?_
            exact ih29 (i + 1) (by omega) (lt_s hall n_49) (by omega) _ _ hG ls (lv_sub hl [1, 2, 3, 0] rfl)
          · --
            have n_49 : (mayZ n kd fg (z.2.2 (i)) (runU n kd fg z.2.2 o (i)).1) = false := b2i_z.mp c_49
            refine lv_iload_n hF.1 hF.2.1 dX11_judge_52 rfl (lv_at hl 3 rfl) ?_
            exact hret _ (_, _, _, _, _, _, _, _, _, _, _, _, _, _, _, _, _, _, _, _) _ ls _ _ _ _ (by refine ⟨?_, ⟨⟨rfl, rfl⟩, ⟨rfl, rfl⟩, htk, hI, hJ, ⟨_, _, hI.setO (runU_lt (f := z.2.2) hn hI.2.1 (i + 1))⟩, ⟨_, hX⟩⟩⟩; rw [sfA_j x hj, hx]; exact Or.inr ⟨i, by omega, rfl, n_49, hall⟩) (by first | rfl | exact nar_b2i _) hG (Nat.le_of_ble_eq_true rfl) (Nat.le_of_ble_eq_true rfl) dX11_judge_53
    exact lp29 _ (0) (by omega) (fun q h => absurd h (Nat.not_lt_zero q)) (Nat.lt_succ_self _) _ _ hG ls (lv_sub hl [2, 3, 1, 0] rfl)

abbrev rmX11_areTrials : Room := { frames := 2, cells := 0, slots := 0, locals := 42 }
set_option maxHeartbeats 4000000 in
set_option maxRecDepth 100000 in
theorem c_X11_areTrials {l : Launch} {D : va_G} {cA : Nat → ClassId} {A : Nat → Prop}  {ob : Nat → Nat} {mb ss sh sp : Nat → Int32} {mt : Nat → Int64} {rc n o : Nat} {dr : Nat → Option Nat} {n1 o1 : Nat} {dr1 : Nat → Option Nat} {n2 o2 : Nat} {dr2 dk rk : Nat → Option Nat} {kt : Nat → Int32} {tk : Int32} {pool : va_W} {kd fg : Nat → Nat} (hI : WI pool n o dr kd fg) {b arr qr qa : Nat} {z : Nat × Nat × (Nat → Int32)} (hR : RW cA pool b arr qr qa z.1 z.2.1 z.2.2) : Met l yX11_areTrials wsX11_areTrials rmX11_areTrials (va_Pc [.ref (ob 6), .ref b] (Pre D cA A (XW cA ob mb ss sh sp mt rc n o dr n1 o1 dr1 n2 o2 dr2 dk rk kt tk pool))) (va_Qi (fun r _ => r = b2i (trOk n z)) (fun u t => Wd D A ((fun (_ : Unit) => XW cA ob mb ss sh sp mt rc n o dr n1 o1 dr1 n2 o2 dr2 dk rk kt tk pool) u) t) A) (0) (0) A := by
  refine k_ofi (S := Unit) (F := fun (_ : Unit) => XW cA ob mb ss sh sp mt rc n o dr n1 o1 dr1 n2 o2 dr2 dk rk kt tk pool) (cc := cX11_areTrials) (maxL := 4) (by decide) rfl (Nat.le_of_ble_eq_true rfl) ?_
  intro p e s m args below meth c Q hF hini hK hA hG hret ls hl
  have hl : lv_has ls 4 [(0, .ref (ob 6)), (1, .ref b)] := hl
  have hn : n ≤ 6 := hI.1
  have ho : o < 64 := hI.o64
  have hp2 : 2 ^ n ≤ 64 := Nat.pow_le_pow_right (by decide) hn
  have hp1 : 1 ≤ 2 ^ n := Nat.one_le_two_pow
  have hz100 := hR.2.2.1
  refine lv_aload_n hF.1 hF.2.1 dX11_areTrials_0 rfl (lv_at hl 1 rfl) ?_
  refine k_get (C := RX6) (T := TX6) (N := 3) hF hK hG (fun _ h => List.mem_cons_of_mem _ (List.mem_append_left _ (List.mem_append_left _ (List.mem_append_right _ h)))) (qr + 16) hR.c16.1 rfl 1 (by decide) (List.mem_of_getElem? (i := 1) rfl) (fun _ h9 => h9) rfl dX11_areTrials_1 ?_
  refine lv_iconst (v := (nI 2)) hF.1 hF.2.1 dX11_areTrials_4 (by decide +kernel) ?_
  refine lv_irem hF.1 hF.2.1 dX11_areTrials_5 (by decide +kernel) ?_
  rw [pk_rem (by omega) (by decide) (by omega)]
  refine lv_if_eq (tgt := 11) hF.1 hF.2.1 dX11_areTrials_6 (by decide) (fun c_6 => ?_) (fun c_6 => ?_)
  · --
    have hev : z.2.1 % 2 = 0 := (nI_eq (by omega) (by omega)).mp c_6
    refine lv_iconst (v := (nI 0)) hF.1 hF.2.1 dX11_areTrials_11 (by decide +kernel) ?_
    refine lv_istore_n (lv' := [(2, .int (nI 0)), (0, .ref (ob 6)), (1, .ref b)]) hF.1 hF.2.1 dX11_areTrials_12 rfl hl (by decide) rfl (fun ls hl => ?_)
    have lp13 : ∀ (fuel : Nat), ∀ (q : Nat), (hq : 2 * q ≤ z.2.1) → (hall : ∀ a, a < q → trB n z.2.2 a = true) → (z.2.1 - 2 * q) < fuel → ∀ (H : Heap) (locs : List Loc), Gd D A (XW cA ob mb ss sh sp mt rc n o dr n1 o1 dr1 n2 o2 dr2 dk rk kt tk pool) s.heap H locs → ∀ ls : Array Slot, lv_has ls 4 [(0, .ref (ob 6)), (1, .ref b), (2, .int (nI (2 * q)))] → W p l e rmX11_areTrials s m args below meth c H locs (0) (0) Q (F0 m 13 ls []) := by
      intro fuel
      induction fuel with
      | zero => intro q hq hall hmu; exact absurd hmu (Nat.not_lt_zero _)
      | succ fuel ih13 =>
        intro q hq hall hmu H locs hG ls hl
        refine lv_iload_n hF.1 hF.2.1 dX11_areTrials_13 rfl (lv_at hl 2 rfl) ?_
        refine lv_aload_n hF.1 hF.2.1 dX11_areTrials_14 rfl (lv_at hl 1 rfl) ?_
        refine k_get (C := RX6) (T := TX6) (N := 3) hF hK hG (fun _ h => List.mem_cons_of_mem _ (List.mem_append_left _ (List.mem_append_left _ (List.mem_append_right _ h)))) (qr + 16) hR.c16.1 rfl 1 (by decide) (List.mem_of_getElem? (i := 1) rfl) (fun _ h9 => h9) rfl dX11_areTrials_15 ?_
        refine lv_icmp_ge (tgt := 61) hF.1 hF.2.1 dX11_areTrials_18 (by decide) (fun c_18 => ?_) (fun c_18 => ?_)
        · --
          have n_18 : z.2.1 ≤ 2 * q := (nI_leI (a := z.2.1) (b := 2 * q) (by omega) (by omega)).mp c_18
          refine lv_iconst (v := (nI 1)) hF.1 hF.2.1 dX11_areTrials_61 (by decide +kernel) ?_
          exact hret _ () _ ls _ _ _ _ (by rw [trOk_t hev (fun a ha => hall a (by omega))]; rfl) (by first | rfl | exact nar_b2i _) hG (Nat.le_of_ble_eq_true rfl) (Nat.le_of_ble_eq_true rfl) dX11_areTrials_62
        · --
          have n_18 : ¬ (z.2.1 ≤ 2 * q) := fun zz9 => c_18 ((nI_leI (a := z.2.1) (b := 2 * q) (by omega) (by omega)).mpr zz9)
          refine lv_aload_n hF.1 hF.2.1 dX11_areTrials_21 rfl (lv_at hl 1 rfl) ?_
          refine lv_iload_n hF.1 hF.2.1 dX11_areTrials_22 rfl (lv_at hl 2 rfl) ?_
          refine lv_iconst (v := (nI 1)) hF.1 hF.2.1 dX11_areTrials_23 (by decide +kernel) ?_
          refine lv_iadd hF.1 hF.2.1 dX11_areTrials_24 ?_
          rw [nI_add]
          refine k_ci (r_V (As := [.int (nI (2 * q + 1))]) hF hK hA hG (c_X6_valueAt hR.c16) (cwV 1 hF.2.2.2.2 gX11_areTrials_X6_valueAt rfl rfl rfl (by decide +kernel) ⟨Nat.le_of_ble_eq_true rfl, Nat.le_of_ble_eq_true rfl⟩) (qr + 16) hR.c16.1 rfl rfl rfl hl.1 rfl (lv_room (Nat.le_of_ble_eq_true rfl)) dX11_areTrials_25 ⟨Nat.le_of_ble_eq_true rfl, Nat.le_of_ble_eq_true rfl⟩) hG (fun r_25 u_25 H locs hp_25 hG => ?_)
          rw [getR_t hR.2.2.1 (by omega)] at hp_25
          subst hp_25
          refine lv_istore_n (lv' := [(3, .int (z.2.2 (2 * q + 1))), (0, .ref (ob 6)), (1, .ref b), (2, .int (nI (2 * q)))]) hF.1 hF.2.1 dX11_areTrials_28 rfl hl (by decide) rfl (fun ls hl => ?_)
          refine lv_aload_n hF.1 hF.2.1 dX11_areTrials_29 rfl (lv_at hl 1 rfl) ?_
          refine k_get (C := RX11) (T := TX11) (N := 8) hF hK hG (fun _ h => List.mem_cons_of_mem _ (List.mem_append_left _ (List.mem_append_right _ h))) 6 rfl rfl 0 (by decide) (List.mem_of_getElem? (i := 2) rfl) (fun _ h9 => h9) rfl dX11_areTrials_30 ?_
          refine lv_aload_n hF.1 hF.2.1 dX11_areTrials_33 rfl (lv_at hl 2 rfl) ?_
          refine lv_iload_n hF.1 hF.2.1 dX11_areTrials_34 rfl (lv_at hl 3 rfl) ?_
          refine k_ci (r_V (As := [.int (nI (2 * q))]) hF hK hA hG (c_X6_valueAt hR.c16) (cwV 1 hF.2.2.2.2 gX11_areTrials_X6_valueAt rfl rfl rfl (by decide +kernel) ⟨Nat.le_of_ble_eq_true rfl, Nat.le_of_ble_eq_true rfl⟩) (qr + 16) hR.c16.1 rfl rfl rfl hl.1 rfl (lv_room (Nat.le_of_ble_eq_true rfl)) dX11_areTrials_35 ⟨Nat.le_of_ble_eq_true rfl, Nat.le_of_ble_eq_true rfl⟩) hG (fun r_35 u_35 H locs hp_35 hG => ?_)
          rw [getR_t hR.2.2.1 (by omega)] at hp_35
          subst hp_35
          refine k_ci (r_V (As := [.int (z.2.2 (2 * q))]) hF hK hA hG (c_X9_has hI.w0) (cwV 1 hF.2.2.2.2 gX11_areTrials_X9_has rfl rfl rfl (by decide +kernel) ⟨Nat.le_of_ble_eq_true rfl, Nat.le_of_ble_eq_true rfl⟩) 7 rfl rfl rfl rfl hl.1 rfl (lv_room (Nat.le_of_ble_eq_true rfl)) dX11_areTrials_38 ⟨Nat.le_of_ble_eq_true rfl, Nat.le_of_ble_eq_true rfl⟩) hG (fun r_38 u_38 H locs hp_38 hG => ?_)
          subst hp_38
          refine lv_if_eq (tgt := 53) hF.1 hF.2.1 dX11_areTrials_41 (by decide) (fun c_41 => ?_) (fun c_41 => ?_)
          · --
            have n_41 : (inB n (z.2.2 (2 * q))) = false := b2i_z.mp c_41
            have htq : trB n z.2.2 q = false := by unfold trB; rw [n_41]; rfl
            refine lv_iconst (v := (nI 0)) hF.1 hF.2.1 dX11_areTrials_53 (by decide +kernel) ?_
            exact hret _ () _ ls _ _ _ _ (by rw [trOk_f (q := q) (by omega) hev htq]; rfl) (by first | rfl | exact nar_b2i _) hG (Nat.le_of_ble_eq_true rfl) (Nat.le_of_ble_eq_true rfl) dX11_areTrials_54
          · --
            have n_41 : (inB n (z.2.2 (2 * q))) = true := b2i_nz.mp c_41
            refine lv_iload_n hF.1 hF.2.1 dX11_areTrials_44 rfl (lv_at hl 0 rfl) ?_
            refine lv_if_lt (tgt := 53) hF.1 hF.2.1 dX11_areTrials_45 (by decide) (fun c_45 => ?_) (fun c_45 => ?_)
            · --
              have htq : trB n z.2.2 q = false := by unfold trB; rw [inB_l c_45, Bool.and_false]
              refine lv_iconst (v := (nI 0)) hF.1 hF.2.1 dX11_areTrials_53 (by decide +kernel) ?_
              exact hret _ () _ ls _ _ _ _ (by rw [trOk_f (q := q) (by omega) hev htq]; rfl) (by first | rfl | exact nar_b2i _) hG (Nat.le_of_ble_eq_true rfl) (Nat.le_of_ble_eq_true rfl) dX11_areTrials_54
            · --
              refine lv_iload_n hF.1 hF.2.1 dX11_areTrials_48 rfl (lv_at hl 0 rfl) ?_
              refine lv_iconst (v := (nI 1)) hF.1 hF.2.1 dX11_areTrials_49 (by decide +kernel) ?_
              refine lv_icmp_le (tgt := 55) hF.1 hF.2.1 dX11_areTrials_50 (by decide) (fun c_50 => ?_) (fun c_50 => ?_)
              · --
                have htq : trB n z.2.2 q = true := by unfold trB; rw [n_41, in2_t c_45 c_50]; rfl
                refine lv_iinc (v := (nI (2 * q + 2))) (lv' := [(2, .int (nI (2 * q + 2))), (3, .int (z.2.2 (2 * q + 1))), (0, .ref (ob 6)), (1, .ref b)]) hF.1 hF.2.1 dX11_areTrials_55 hl (k := 3) rfl (nI_inc _ _) (by decide) rfl (fun ls hl => ?_)
                refine lv_goto (tgt := 13) hF.1 hF.2.1 dX11_areTrials_58 (by decide) ?_
                exact ih13 (q + 1) (by omega) (lt_s hall htq) (by omega) _ _ hG ls (lv_sub hl [2, 3, 0] rfl)
              · --
                have htq : trB n z.2.2 q = false := by unfold trB; rw [in2_f c_50, Bool.and_false]
                refine lv_iconst (v := (nI 0)) hF.1 hF.2.1 dX11_areTrials_53 (by decide +kernel) ?_
                exact hret _ () _ ls _ _ _ _ (by rw [trOk_f (q := q) (by omega) hev htq]; rfl) (by first | rfl | exact nar_b2i _) hG (Nat.le_of_ble_eq_true rfl) (Nat.le_of_ble_eq_true rfl) dX11_areTrials_54
    exact lp13 _ (0) (by omega) (fun q h => absurd h (Nat.not_lt_zero q)) (Nat.lt_succ_self _) _ _ hG ls (lv_sub hl [1, 2, 0] rfl)
  · --
    have hev : ¬ z.2.1 % 2 = 0 := fun a => c_6 (by rw [a]; rfl)
    refine lv_iconst (v := (nI 0)) hF.1 hF.2.1 dX11_areTrials_9 (by decide +kernel) ?_
    exact hret _ () _ ls _ _ _ _ (by rw [trOk_o hev]; rfl) (by first | rfl | exact nar_b2i _) hG (Nat.le_of_ble_eq_true rfl) (Nat.le_of_ble_eq_true rfl) dX11_areTrials_10

abbrev rmX11_fits : Room := { frames := 5, cells := 0, slots := 0, locals := 110 }
set_option maxHeartbeats 4000000 in
set_option maxRecDepth 100000 in
theorem c_X11_fits {l : Launch} {D : va_G} {cA : Nat → ClassId} {A : Nat → Prop}  {ob : Nat → Nat} {mb ss sh sp : Nat → Int32} {mt : Nat → Int64} {rc n o : Nat} {dr : Nat → Option Nat} {n1 o1 : Nat} {dr1 : Nat → Option Nat} {n2 o2 : Nat} {dr2 dk rk : Nat → Option Nat} {kt : Nat → Int32} {tk : Int32} {pool : va_W} {kd2 fg2 : Nat → Nat} (hM : WI pool n2 o2 dr2 kd2 fg2) {b arr qr qa : Nat} {z : Nat × Nat × (Nat → Int32)} (hR : RW cA pool b arr qr qa z.1 z.2.1 z.2.2) {mh : Nat} (hm : z.2.1 = 2 * mh) : Met l yX11_fits wsX11_fits rmX11_fits (va_Pc [.ref (ob 6), .ref b] (Pre D cA A (XW cA ob mb ss sh sp mt rc n o dr n1 o1 dr1 n2 o2 dr2 dk rk kt tk pool))) (va_Qi (fun r (u : Nat) => r = b2i (FIT n2 kd2 fg2 z.2.2 o2 mh) ∧ u < 2 ^ n2) (fun u t => Wd D A ((fun (u : Nat) => XW cA ob mb ss sh sp mt rc n o dr n1 o1 dr1 n2 u dr2 dk rk kt tk pool) u) t) A) (0) (0) A := by
  refine k_ofi (S := Nat) (F := fun (u : Nat) => XW cA ob mb ss sh sp mt rc n o dr n1 o1 dr1 n2 u dr2 dk rk kt tk pool) (cc := cX11_fits) (maxL := 4) (by decide) rfl (Nat.le_of_ble_eq_true rfl) ?_
  intro p e s m args below meth c Q hF hini hK hA hG hret ls hl
  have hl : lv_has ls 4 [(0, .ref (ob 6)), (1, .ref b)] := hl
  have hn2 : n2 ≤ 6 := hM.1
  have hz100 := hR.2.2.1
  refine lv_iconst (v := (nI 0)) hF.1 hF.2.1 dX11_fits_0 (by decide +kernel) ?_
  refine lv_istore_n (lv' := [(2, .int (nI 0)), (0, .ref (ob 6)), (1, .ref b)]) hF.1 hF.2.1 dX11_fits_1 rfl hl (by decide) rfl (fun ls hl => ?_)
  have lp2 : ∀ (fuel : Nat), ∀ (q : Nat), (hq : q ≤ mh) → (hfa : allB (fitB n2 kd2 fg2 z.2.2 o2) q = true) → (mh - q) < fuel → ∀ (H : Heap) (locs : List Loc), Gd D A (XW cA ob mb ss sh sp mt rc n o dr n1 o1 dr1 n2 (runU n2 kd2 fg2 (evF z.2.2) o2 (q)).1 dr2 dk rk kt tk pool) s.heap H locs → ∀ ls : Array Slot, lv_has ls 4 [(0, .ref (ob 6)), (1, .ref b), (2, .int (nI (2 * q)))] → W p l e rmX11_fits s m args below meth c H locs (0) (0) Q (F0 m 2 ls []) := by
    intro fuel
    induction fuel with
    | zero => intro q hq hfa hmu; exact absurd hmu (Nat.not_lt_zero _)
    | succ fuel ih2 =>
      intro q hq hfa hmu H locs hG ls hl
      refine lv_iload_n hF.1 hF.2.1 dX11_fits_2 rfl (lv_at hl 2 rfl) ?_
      refine lv_aload_n hF.1 hF.2.1 dX11_fits_3 rfl (lv_at hl 1 rfl) ?_
      refine k_get (C := RX6) (T := TX6) (N := 3) hF hK hG (fun _ h => List.mem_cons_of_mem _ (List.mem_append_left _ (List.mem_append_left _ (List.mem_append_left _ (List.mem_append_left _ (List.mem_append_left _ (List.mem_append_left _ (List.mem_append_left _ (List.mem_append_left _ (List.mem_append_left _ (List.mem_append_left _ (List.mem_append_right _ h)))))))))))) (qr + 16) hR.c16.1 rfl 1 (by decide) (List.mem_of_getElem? (i := 1) rfl) (fun _ h9 => h9) rfl dX11_fits_4 ?_
      refine lv_icmp_ge (tgt := 51) hF.1 hF.2.1 dX11_fits_7 (by decide) (fun c_7 => ?_) (fun c_7 => ?_)
      · --
        have n_7 : z.2.1 ≤ 2 * q := (nI_leI (a := z.2.1) (b := 2 * q) (by omega) (by omega)).mp c_7
        refine lv_iconst (v := (nI 1)) hF.1 hF.2.1 dX11_fits_51 (by decide +kernel) ?_
        exact hret _ _ _ ls _ _ _ _ (by obtain rfl : q = mh := (by omega); rw [show FIT n2 kd2 fg2 z.2.2 o2 q = true from hfa]; exact ⟨rfl, runU_lt hn2 hM.2.1 _⟩) (by first | rfl | exact nar_b2i _) hG (Nat.le_of_ble_eq_true rfl) (Nat.le_of_ble_eq_true rfl) dX11_fits_52
      · --
        have n_7 : ¬ (z.2.1 ≤ 2 * q) := fun zz9 => c_7 ((nI_leI (a := z.2.1) (b := 2 * q) (by omega) (by omega)).mpr zz9)
        refine lv_aload_n hF.1 hF.2.1 dX11_fits_10 rfl (lv_at hl 1 rfl) ?_
        refine lv_iload_n hF.1 hF.2.1 dX11_fits_11 rfl (lv_at hl 2 rfl) ?_
        refine lv_iconst (v := (nI 1)) hF.1 hF.2.1 dX11_fits_12 (by decide +kernel) ?_
        refine lv_iadd hF.1 hF.2.1 dX11_fits_13 ?_
        rw [nI_add]
        refine k_ci (r_V (As := [.int (nI (2 * q + 1))]) hF hK hA hG (c_X6_valueAt hR.c16) (cwV 1 hF.2.2.2.2 gX11_fits_X6_valueAt rfl rfl rfl (by decide +kernel) ⟨Nat.le_of_ble_eq_true rfl, Nat.le_of_ble_eq_true rfl⟩) (qr + 16) hR.c16.1 rfl rfl rfl hl.1 rfl (lv_room (Nat.le_of_ble_eq_true rfl)) dX11_fits_14 ⟨Nat.le_of_ble_eq_true rfl, Nat.le_of_ble_eq_true rfl⟩) hG (fun r_14 u_14 H locs hp_14 hG => ?_)
        rw [getR_t hR.2.2.1 (by omega)] at hp_14
        subst hp_14
        refine lv_iconst (v := (nI 1)) hF.1 hF.2.1 dX11_fits_17 (by decide +kernel) ?_
        refine lv_icmp_ne (tgt := 25) hF.1 hF.2.1 dX11_fits_18 (by decide) (fun c_18 => ?_) (fun c_18 => ?_)
        · --
          refine lv_iconst (v := (nI 0)) hF.1 hF.2.1 dX11_fits_25 (by decide +kernel) ?_
          refine lv_istore_n (lv' := [(3, .int (nI 0)), (0, .ref (ob 6)), (1, .ref b), (2, .int (nI (2 * q)))]) hF.1 hF.2.1 dX11_fits_26 rfl hl (by decide) rfl (fun ls hl => ?_)
          refine lv_aload_n hF.1 hF.2.1 dX11_fits_27 rfl (lv_at hl 1 rfl) ?_
          refine k_get (C := RX11) (T := TX11) (N := 8) hF hK hG (fun _ h => List.mem_cons_of_mem _ (List.mem_append_left _ (List.mem_append_left _ (List.mem_append_left _ (List.mem_append_left _ (List.mem_append_left _ (List.mem_append_left _ (List.mem_append_left _ (List.mem_append_left _ (List.mem_append_left _ (List.mem_append_right _ h))))))))))) 6 rfl rfl 2 (by decide) (List.mem_of_getElem? (i := 2) rfl) (fun _ h9 => h9) rfl dX11_fits_28 ?_
          refine lv_aload_n hF.1 hF.2.1 dX11_fits_31 rfl (lv_at hl 2 rfl) ?_
          refine lv_iload_n hF.1 hF.2.1 dX11_fits_32 rfl (lv_at hl 3 rfl) ?_
          refine k_ci (r_V (As := [.int (nI (2 * q))]) hF hK hA hG (c_X6_valueAt hR.c16) (cwV 1 hF.2.2.2.2 gX11_fits_X6_valueAt rfl rfl rfl (by decide +kernel) ⟨Nat.le_of_ble_eq_true rfl, Nat.le_of_ble_eq_true rfl⟩) (qr + 16) hR.c16.1 rfl rfl rfl hl.1 rfl (lv_room (Nat.le_of_ble_eq_true rfl)) dX11_fits_33 ⟨Nat.le_of_ble_eq_true rfl, Nat.le_of_ble_eq_true rfl⟩) hG (fun r_33 u_33 H locs hp_33 hG => ?_)
          rw [getR_t hR.2.2.1 (by omega)] at hp_33
          subst hp_33
          refine k_ci (r_V (As := [.int (z.2.2 (2 * q))]) hF hK hA hG (c_X9_pulled (hM.setO (runU_lt (f := evF z.2.2) hn2 hM.2.1 q)).w2) (cwV 1 hF.2.2.2.2 gX11_fits_X9_pulled rfl rfl rfl (by decide +kernel) ⟨Nat.le_of_ble_eq_true rfl, Nat.le_of_ble_eq_true rfl⟩) 9 rfl rfl rfl rfl hl.1 rfl (lv_room (Nat.le_of_ble_eq_true rfl)) dX11_fits_36 ⟨Nat.le_of_ble_eq_true rfl, Nat.le_of_ble_eq_true rfl⟩) hG (fun r_36 u_36 H locs hp_36 hG => ?_)
          subst hp_36
          have hG : Gd D A (XW cA ob mb ss sh sp mt rc n o dr n1 o1 dr1 n2 (runU n2 kd2 fg2 (evF z.2.2) o2 (q + 1)).1 dr2 dk rk kt tk pool) s.heap H locs := hG
          refine lv_iload_n hF.1 hF.2.1 dX11_fits_39 rfl (lv_at hl 0 rfl) ?_
          refine lv_icmp_eq (tgt := 45) hF.1 hF.2.1 dX11_fits_40 (by decide) (fun c_40 => ?_) (fun c_40 => ?_)
          · --
            have n_40 : (mayZ n2 kd2 fg2 (z.2.2 (2 * q)) (runU n2 kd2 fg2 (evF z.2.2) o2 (q)).1) = false := b2i_z.mp c_40
            have hf10 : fitB n2 kd2 fg2 z.2.2 o2 q = true := by unfold fitB; first | exact fit_1 c_18 c_40 | exact fit_0 c_18 c_40
            refine lv_iinc (v := (nI (2 * q + 2))) (lv' := [(2, .int (nI (2 * q + 2))), (3, .int (nI 0)), (0, .ref (ob 6)), (1, .ref b)]) hF.1 hF.2.1 dX11_fits_45 hl (k := 3) rfl (nI_inc _ _) (by decide) rfl (fun ls hl => ?_)
            refine lv_goto (tgt := 2) hF.1 hF.2.1 dX11_fits_48 (by decide) ?_
            exact ih2 (q + 1) (by omega) (by show (allB (fitB n2 kd2 fg2 z.2.2 o2) q && fitB n2 kd2 fg2 z.2.2 o2 q) = true; rw [hfa, hf10]; rfl) (by omega) _ _ hG ls (lv_sub hl [2, 3, 0] rfl)
          · --
            have n_40 : (mayZ n2 kd2 fg2 (z.2.2 (2 * q)) (runU n2 kd2 fg2 (evF z.2.2) o2 (q)).1) = true := b2i_nz.mp c_40
            have hf10 : fitB n2 kd2 fg2 z.2.2 o2 q = false := by unfold fitB; first | exact fit_1n c_18 c_40 | exact fit_0n c_18 c_40
            refine lv_iconst (v := (nI 0)) hF.1 hF.2.1 dX11_fits_43 (by decide +kernel) ?_
            exact hret _ _ _ ls _ _ _ _ (by rw [show FIT n2 kd2 fg2 z.2.2 o2 mh = false from allB_f (i := q) (by omega) hf10]; exact ⟨rfl, runU_lt hn2 hM.2.1 _⟩) (by first | rfl | exact nar_b2i _) hG (Nat.le_of_ble_eq_true rfl) (Nat.le_of_ble_eq_true rfl) dX11_fits_44
        · --
          refine lv_iconst (v := (nI 1)) hF.1 hF.2.1 dX11_fits_21 (by decide +kernel) ?_
          refine lv_goto (tgt := 26) hF.1 hF.2.1 dX11_fits_22 (by decide) ?_
          refine lv_istore_n (lv' := [(3, .int (nI 1)), (0, .ref (ob 6)), (1, .ref b), (2, .int (nI (2 * q)))]) hF.1 hF.2.1 dX11_fits_26 rfl hl (by decide) rfl (fun ls hl => ?_)
          refine lv_aload_n hF.1 hF.2.1 dX11_fits_27 rfl (lv_at hl 1 rfl) ?_
          refine k_get (C := RX11) (T := TX11) (N := 8) hF hK hG (fun _ h => List.mem_cons_of_mem _ (List.mem_append_left _ (List.mem_append_left _ (List.mem_append_left _ (List.mem_append_left _ (List.mem_append_left _ (List.mem_append_left _ (List.mem_append_left _ (List.mem_append_left _ (List.mem_append_left _ (List.mem_append_right _ h))))))))))) 6 rfl rfl 2 (by decide) (List.mem_of_getElem? (i := 2) rfl) (fun _ h9 => h9) rfl dX11_fits_28 ?_
          refine lv_aload_n hF.1 hF.2.1 dX11_fits_31 rfl (lv_at hl 2 rfl) ?_
          refine lv_iload_n hF.1 hF.2.1 dX11_fits_32 rfl (lv_at hl 3 rfl) ?_
          refine k_ci (r_V (As := [.int (nI (2 * q))]) hF hK hA hG (c_X6_valueAt hR.c16) (cwV 1 hF.2.2.2.2 gX11_fits_X6_valueAt rfl rfl rfl (by decide +kernel) ⟨Nat.le_of_ble_eq_true rfl, Nat.le_of_ble_eq_true rfl⟩) (qr + 16) hR.c16.1 rfl rfl rfl hl.1 rfl (lv_room (Nat.le_of_ble_eq_true rfl)) dX11_fits_33 ⟨Nat.le_of_ble_eq_true rfl, Nat.le_of_ble_eq_true rfl⟩) hG (fun r_33 u_33 H locs hp_33 hG => ?_)
          rw [getR_t hR.2.2.1 (by omega)] at hp_33
          subst hp_33
          refine k_ci (r_V (As := [.int (z.2.2 (2 * q))]) hF hK hA hG (c_X9_pulled (hM.setO (runU_lt (f := evF z.2.2) hn2 hM.2.1 q)).w2) (cwV 1 hF.2.2.2.2 gX11_fits_X9_pulled rfl rfl rfl (by decide +kernel) ⟨Nat.le_of_ble_eq_true rfl, Nat.le_of_ble_eq_true rfl⟩) 9 rfl rfl rfl rfl hl.1 rfl (lv_room (Nat.le_of_ble_eq_true rfl)) dX11_fits_36 ⟨Nat.le_of_ble_eq_true rfl, Nat.le_of_ble_eq_true rfl⟩) hG (fun r_36 u_36 H locs hp_36 hG => ?_)
          subst hp_36
          have hG : Gd D A (XW cA ob mb ss sh sp mt rc n o dr n1 o1 dr1 n2 (runU n2 kd2 fg2 (evF z.2.2) o2 (q + 1)).1 dr2 dk rk kt tk pool) s.heap H locs := hG
          refine lv_iload_n hF.1 hF.2.1 dX11_fits_39 rfl (lv_at hl 0 rfl) ?_
          refine lv_icmp_eq (tgt := 45) hF.1 hF.2.1 dX11_fits_40 (by decide) (fun c_40 => ?_) (fun c_40 => ?_)
          · --
            have hf10 : fitB n2 kd2 fg2 z.2.2 o2 q = true := by unfold fitB; first | exact fit_1 c_18 c_40 | exact fit_0 c_18 c_40
            refine lv_iinc (v := (nI (2 * q + 2))) (lv' := [(2, .int (nI (2 * q + 2))), (3, .int (nI 1)), (0, .ref (ob 6)), (1, .ref b)]) hF.1 hF.2.1 dX11_fits_45 hl (k := 3) rfl (nI_inc _ _) (by decide) rfl (fun ls hl => ?_)
            refine lv_goto (tgt := 2) hF.1 hF.2.1 dX11_fits_48 (by decide) ?_
            exact ih2 (q + 1) (by omega) (by show (allB (fitB n2 kd2 fg2 z.2.2 o2) q && fitB n2 kd2 fg2 z.2.2 o2 q) = true; rw [hfa, hf10]; rfl) (by omega) _ _ hG ls (lv_sub hl [2, 3, 0] rfl)
          · --
            have hf10 : fitB n2 kd2 fg2 z.2.2 o2 q = false := by unfold fitB; first | exact fit_1n c_18 c_40 | exact fit_0n c_18 c_40
            refine lv_iconst (v := (nI 0)) hF.1 hF.2.1 dX11_fits_43 (by decide +kernel) ?_
            exact hret _ _ _ ls _ _ _ _ (by rw [show FIT n2 kd2 fg2 z.2.2 o2 mh = false from allB_f (i := q) (by omega) hf10]; exact ⟨rfl, runU_lt hn2 hM.2.1 _⟩) (by first | rfl | exact nar_b2i _) hG (Nat.le_of_ble_eq_true rfl) (Nat.le_of_ble_eq_true rfl) dX11_fits_44
  exact lp2 _ (0) (by omega) rfl (Nat.lt_succ_self _) _ _ hG ls (lv_sub hl [1, 2, 0] rfl)

abbrev rmX11_tried : Room := { frames := 6, cells := 8, slots := 8, locals := 133 }
set_option maxHeartbeats 4000000 in
set_option maxRecDepth 100000 in
theorem c_X11_tried {l : Launch} {D : va_G} {cA : Nat → ClassId} {A : Nat → Prop}  {ob : Nat → Nat} {mb ss sh sp : Nat → Int32} {mt : Nat → Int64} {rc n o : Nat} {dr : Nat → Option Nat} {n1 o1 : Nat} {dr1 : Nat → Option Nat} {n2 o2 : Nat} {dr2 dk rk : Nat → Option Nat} {kt : Nat → Int32} {tk : Int32} {pool : va_W} {kd fg : Nat → Nat} (hI : WI pool n o dr kd fg) {kd1 fg1 : Nat → Nat} (hJ : WI pool n1 o1 dr1 kd1 fg1) {kd2 fg2 : Nat → Nat} (hM : WI pool n2 o2 dr2 kd2 fg2) {x : Nat → Sf} {P : Nat → Nat} (hX : SX cA pool dk rk x P) {tkb : Bool} (htk : tk = b2i tkb) {d y f : Int32} : Met l yX11_tried wsX11_tried rmX11_tried (va_Pc [.ref (ob 6), .int d, .int y, .int f] (Pre D cA A (XW cA ob mb ss sh sp mt rc n o dr n1 o1 dr1 n2 o2 dr2 dk rk kt tk pool))) (va_Qi (fun r (u : XS) => (r = spTried n o kd fg (sfA x d) y f) ∧ XI cA u (n, o, kd, fg) (n1, o1, kd1, fg1) tkb x) (fun u t => Wd D A ((fun (u : XS) => XV cA ob u) u) t) A) (8) (8) A := by
  refine k_ofi (S := XS) (F := fun (u : XS) => XV cA ob u) (cc := cX11_tried) (maxL := 7) (by decide) rfl (Nat.le_of_ble_eq_true rfl) ?_
  intro p e s m args below meth c Q hF hini hK hA hG hret ls hl
  have hl : lv_has ls 7 [(0, .ref (ob 6)), (1, .int d), (2, .int y), (3, .int f)] := hl
  have hn : n ≤ 6 := hI.1
  have ho : o < 64 := hI.o64
  have hp2 : 2 ^ n ≤ 64 := Nat.pow_le_pow_right (by decide) hn
  have hp1 : 1 ≤ 2 ^ n := Nat.one_le_two_pow
  refine lv_iload_n hF.1 hF.2.1 dX11_tried_0 rfl (lv_at hl 1 rfl) ?_
  refine k_ci (r_S (As := [.int d]) hF hK hA hG (c_X11_isShelf) (cwS 1 hF.2.2.2.2 gX11_tried_X11_isShelf rfl rfl rfl (by decide +kernel) ⟨Nat.le_of_ble_eq_true rfl, Nat.le_of_ble_eq_true rfl⟩) rfl hl.1 rfl (lv_room (Nat.le_of_ble_eq_true rfl)) dX11_tried_1 ⟨Nat.le_of_ble_eq_true rfl, Nat.le_of_ble_eq_true rfl⟩) hG (fun r_1 u_1 H locs hp_1 hG => ?_)
  subst hp_1
  refine lv_if_eq (tgt := 25) hF.1 hF.2.1 dX11_tried_4 (by decide) (fun c_4 => ?_) (fun c_4 => ?_)
  · --
    have n_4 : (inB 8 d) = false := b2i_z.mp c_4
    refine lv_iconst (v := (-1)) hF.1 hF.2.1 dX11_tried_25 (by decide +kernel) ?_
    exact hret _ (_, _, _, _, _, _, _, _, _, _, _, _, _, _, _, _, _, _, _, _) _ ls _ _ _ _ (by refine ⟨?_, ⟨⟨rfl, rfl⟩, ⟨rfl, rfl⟩, htk, hI, hJ, ⟨_, _, hM⟩, ⟨_, hX⟩⟩⟩; first | (rw [sfA_f x n_4]; exact spTried_s.symm) | exact (spTried_f (Or.inl n_15)).symm | exact (spTried_f (Or.inr n_22)).symm) (by first | rfl | exact nar_b2i _) hG (Nat.le_of_ble_eq_true rfl) (Nat.le_of_ble_eq_true rfl) dX11_tried_26
  · --
    have n_4 : (inB 8 d) = true := b2i_nz.mp c_4
    refine lv_aload_n hF.1 hF.2.1 dX11_tried_7 rfl (lv_at hl 0 rfl) ?_
    refine k_get (C := RX11) (T := TX11) (N := 8) hF hK hG (fun _ h => List.mem_cons_of_mem _ (List.mem_append_left _ (List.mem_append_left _ (List.mem_append_left _ (List.mem_append_left _ (List.mem_append_left _ (List.mem_append_left _ (List.mem_append_left _ (List.mem_append_left _ (List.mem_append_left _ (List.mem_append_left _ (List.mem_append_right _ h)))))))))))) 6 rfl rfl 0 (by decide) (List.mem_of_getElem? (i := 1) rfl) (fun _ h9 => h9) rfl dX11_tried_8 ?_
    refine lv_iload_n hF.1 hF.2.1 dX11_tried_11 rfl (lv_at hl 2 rfl) ?_
    refine k_ci (r_V (As := [.int y]) hF hK hA hG (c_X9_has hI.w0) (cwV 1 hF.2.2.2.2 gX11_tried_X9_has rfl rfl rfl (by decide +kernel) ⟨Nat.le_of_ble_eq_true rfl, Nat.le_of_ble_eq_true rfl⟩) 7 rfl rfl rfl rfl hl.1 rfl (lv_room (Nat.le_of_ble_eq_true rfl)) dX11_tried_12 ⟨Nat.le_of_ble_eq_true rfl, Nat.le_of_ble_eq_true rfl⟩) hG (fun r_12 u_12 H locs hp_12 hG => ?_)
    subst hp_12
    refine lv_if_eq (tgt := 25) hF.1 hF.2.1 dX11_tried_15 (by decide) (fun c_15 => ?_) (fun c_15 => ?_)
    · --
      have n_15 : (inB n y) = false := b2i_z.mp c_15
      refine lv_iconst (v := (-1)) hF.1 hF.2.1 dX11_tried_25 (by decide +kernel) ?_
      exact hret _ (_, _, _, _, _, _, _, _, _, _, _, _, _, _, _, _, _, _, _, _) _ ls _ _ _ _ (by refine ⟨?_, ⟨⟨rfl, rfl⟩, ⟨rfl, rfl⟩, htk, hI, hJ, ⟨_, _, hM⟩, ⟨_, hX⟩⟩⟩; first | (rw [sfA_f x n_4]; exact spTried_s.symm) | exact (spTried_f (Or.inl n_15)).symm | exact (spTried_f (Or.inr n_22)).symm) (by first | rfl | exact nar_b2i _) hG (Nat.le_of_ble_eq_true rfl) (Nat.le_of_ble_eq_true rfl) dX11_tried_26
    · --
      have n_15 : (inB n y) = true := b2i_nz.mp c_15
      refine lv_iload_n hF.1 hF.2.1 dX11_tried_18 rfl (lv_at hl 3 rfl) ?_
      refine k_ci (r_S (As := [.int f]) hF hK hA hG (c_X11_isFigure) (cwS 1 hF.2.2.2.2 gX11_tried_X11_isFigure rfl rfl rfl (by decide +kernel) ⟨Nat.le_of_ble_eq_true rfl, Nat.le_of_ble_eq_true rfl⟩) rfl hl.1 rfl (lv_room (Nat.le_of_ble_eq_true rfl)) dX11_tried_19 ⟨Nat.le_of_ble_eq_true rfl, Nat.le_of_ble_eq_true rfl⟩) hG (fun r_19 u_19 H locs hp_19 hG => ?_)
      subst hp_19
      refine lv_if_ne (tgt := 27) hF.1 hF.2.1 dX11_tried_22 (by decide) (fun c_22 => ?_) (fun c_22 => ?_)
      · --
        have n_22 : (inB 10 f) = true := b2i_nz.mp c_22
        refine lv_aload_n hF.1 hF.2.1 dX11_tried_27 rfl (lv_at hl 0 rfl) ?_
        refine lv_iload_n hF.1 hF.2.1 dX11_tried_28 rfl (lv_at hl 1 rfl) ?_
        refine k_cq (r_V (As := [.int d]) hF hK hA hG (c_X11_bytesOn hX) (cwV 1 hF.2.2.2.2 gX11_tried_X11_bytesOn rfl rfl rfl (by decide +kernel) ⟨Nat.le_of_ble_eq_true rfl, Nat.le_of_ble_eq_true rfl⟩) 6 rfl rfl rfl rfl hl.1 rfl (lv_room (Nat.le_of_ble_eq_true rfl)) dX11_tried_29 ⟨Nat.le_of_ble_eq_true rfl, Nat.le_of_ble_eq_true rfl⟩) hG (fun r_29 u_29 H locs hp_29 hG => ?_)
        cases r_29 with
        | none =>
          show W p l e rmX11_tried s m args below meth c _ _ _ _ Q (F0 m 32 ls (.null :: []))
          refine lv_astoreN (lv' := [(4, .null), (0, .ref (ob 6)), (1, .int d), (2, .int y), (3, .int f)]) hF.1 hF.2.1 dX11_tried_32 hl (by decide) rfl (fun ls hl => ?_)
          refine lv_aloadN hF.1 hF.2.1 dX11_tried_34 (lv_at hl 0 rfl) ?_
          refine lv_ifnonnullN hF.1 hF.2.1 dX11_tried_36 ?_
          refine lv_aload_n hF.1 hF.2.1 dX11_tried_39 rfl (lv_at hl 1 rfl) ?_
          refine lv_iload_n hF.1 hF.2.1 dX11_tried_40 rfl (lv_at hl 2 rfl) ?_
          refine k_ci (r_V (As := [.int d]) hF hK hA hG (c_X11_lacking hX) (cwV 1 hF.2.2.2.2 gX11_tried_X11_lacking rfl rfl rfl (by decide +kernel) ⟨Nat.le_of_ble_eq_true rfl, Nat.le_of_ble_eq_true rfl⟩) 6 rfl rfl rfl rfl hl.1 rfl (lv_room (Nat.le_of_ble_eq_true rfl)) dX11_tried_41 ⟨Nat.le_of_ble_eq_true rfl, Nat.le_of_ble_eq_true rfl⟩) hG (fun r_41 u_41 H locs hp_41 hG => ?_)
          subst hp_41
          exact hret _ (_, _, _, _, _, _, _, _, _, _, _, _, _, _, _, _, _, _, _, _) _ ls _ _ _ _ (by refine ⟨?_, ⟨⟨rfl, rfl⟩, ⟨rfl, rfl⟩, htk, hI, hJ, ⟨_, _, hM⟩, ⟨_, hX⟩⟩⟩; exact hp_29.1.trans (spTried_n n_15 n_22 hp_29.2).symm) (by first | rfl | exact nar_b2i _) hG (Nat.le_of_ble_eq_true rfl) (Nat.le_of_ble_eq_true rfl) dX11_tried_44
        | some b =>
          obtain ⟨j, z, arr, qr, hj, rfl, hx, hz0, hR⟩ := hp_29
          have hz100 := hR.2.2.1
          show W p l e rmX11_tried s m args below meth c _ _ _ _ Q (F0 m 32 ls (.ref b :: []))
          refine lv_astore (lv' := [(4, .ref b), (0, .ref (ob 6)), (1, .int (nI j)), (2, .int y), (3, .int f)]) hF.1 hF.2.1 dX11_tried_32 hl (by decide) rfl (fun ls hl => ?_)
          refine lv_aload hF.1 hF.2.1 dX11_tried_34 (lv_at hl 0 rfl) ?_
          refine lv_ifnonnull (tgt := 45) hF.1 hF.2.1 dX11_tried_36 (by decide) ?_
          refine lv_aload_n hF.1 hF.2.1 dX11_tried_45 rfl (lv_at hl 1 rfl) ?_
          refine lv_aload hF.1 hF.2.1 dX11_tried_46 (lv_at hl 0 rfl) ?_
          refine k_ci (r_V (As := [.ref b]) hF hK hA hG (c_X11_areTrials hI hR) (cwV 1 hF.2.2.2.2 gX11_tried_X11_areTrials rfl rfl rfl (by decide +kernel) ⟨Nat.le_of_ble_eq_true rfl, Nat.le_of_ble_eq_true rfl⟩) 6 rfl rfl rfl rfl hl.1 rfl (lv_room (Nat.le_of_ble_eq_true rfl)) dX11_tried_48 ⟨Nat.le_of_ble_eq_true rfl, Nat.le_of_ble_eq_true rfl⟩) hG (fun r_48 u_48 H locs hp_48 hG => ?_)
          subst hp_48
          refine lv_if_ne (tgt := 57) hF.1 hF.2.1 dX11_tried_51 (by decide) (fun c_51 => ?_) (fun c_51 => ?_)
          · --
            have n_51 : (trOk n z) = true := b2i_nz.mp c_51
            have htr := n_51
            unfold trOk at htr
            rw [Bool.and_eq_true] at htr
            have hev := of_decide_eq_true htr.1
            obtain ⟨i, hi, rfl⟩ := inB_ex (by omega) n_15
            obtain ⟨g, hg, rfl⟩ := inB_ex (by omega) n_22
            refine lv_iconst (v := (nI 0)) hF.1 hF.2.1 dX11_tried_57 (by decide +kernel) ?_
            refine lv_istore (lv' := [(5, .int (nI 0)), (4, .ref b), (0, .ref (ob 6)), (1, .int (nI j)), (2, .int (nI i)), (3, .int (nI g))]) hF.1 hF.2.1 dX11_tried_58 hl (by decide) rfl (fun ls hl => ?_)
            refine lv_iconst (v := (nI 0)) hF.1 hF.2.1 dX11_tried_60 (by decide +kernel) ?_
            refine lv_istore (lv' := [(6, .int (nI 0)), (5, .int (nI 0)), (4, .ref b), (0, .ref (ob 6)), (1, .int (nI j)), (2, .int (nI i)), (3, .int (nI g))]) hF.1 hF.2.1 dX11_tried_61 hl (by decide) rfl (fun ls hl => ?_)
            have lp63 : ∀ (fuel : Nat), ∀ (k : Nat) (nm om : Nat) (dm : Nat → Option Nat) (pl : va_W), (hk : k ≤ 8) → (hIl : WI pl n o dr kd fg) → (hJl : WI pl n1 o1 dr1 kd1 fg1) → (hMl : ∃ k3 f3, WI pl nm om dm k3 f3) → (hXl : SX cA pl dk rk x P) → (hRl : RW cA pl b arr qr (P j) z.1 z.2.1 z.2.2) → (8 - k) < fuel → ∀ (H : Heap) (locs : List Loc), Gd D A (XW cA ob mb ss sh sp mt rc n o dr n1 o1 dr1 nm om dm dk rk kt tk pl) s.heap H locs → ∀ ls : Array Slot, lv_has ls 7 [(0, .ref (ob 6)), (1, .int (nI j)), (2, .int (nI i)), (3, .int (nI g)), (4, .ref b), (5, .int (nI (triU n o kd fg i g z.2.2 (z.2.1 / 2) k))), (6, .int (nI k))] → W p l e rmX11_tried s m args below meth c H locs (k) (k) Q (F0 m 63 ls []) := by
              intro fuel
              induction fuel with
              | zero => intro k nm om dm pl hk hIl hJl hMl hXl hRl hmu; exact absurd hmu (Nat.not_lt_zero _)
              | succ fuel ih63 =>
                intro k nm om dm pl hk hIl hJl hMl hXl hRl hmu H locs hG ls hl
                refine lv_iload hF.1 hF.2.1 dX11_tried_63 (lv_at hl 6 rfl) ?_
                refine lv_bipush (v := (nI 8)) hF.1 hF.2.1 dX11_tried_65 (by decide +kernel) ?_
                refine lv_icmp_ge (tgt := 119) hF.1 hF.2.1 dX11_tried_67 (by decide) (fun c_67 => ?_) (fun c_67 => ?_)
                · --
                  have n_67 : 8 ≤ k := (nI_leI (a := 8) (b := k) (by omega) (by omega)).mp c_67
                  refine lv_iload hF.1 hF.2.1 dX11_tried_119 (lv_at hl 5 rfl) ?_
                  exact hret _ (_, _, _, _, _, _, _, _, _, _, _, _, _, _, _, _, _, _, _, _) _ ls _ _ _ _ (by obtain ⟨k3, f3, hMl⟩ := hMl; obtain rfl : k = 8 := (by omega); refine ⟨?_, ⟨⟨rfl, rfl⟩, ⟨rfl, rfl⟩, htk, hIl, hJl, ⟨_, _, hMl⟩, ⟨_, hXl⟩⟩⟩; rw [sfA_j x hj, hx, spTried_t hn hi hg hz0 n_51]) (by first | rfl | exact nar_b2i _) hG (by omega) (by omega) dX11_tried_121
                · --
                  have n_67 : ¬ (8 ≤ k) := fun zz9 => c_67 ((nI_leI (a := 8) (b := k) (by omega) (by omega)).mpr zz9)
                  obtain ⟨k3, f3, hMl⟩ := hMl
                  refine lv_aload_n hF.1 hF.2.1 dX11_tried_70 rfl (lv_at hl 0 rfl) ?_
                  refine k_get (C := RX11) (T := TX11) (N := 8) hF hK hG (fun _ h => List.mem_cons_of_mem _ (List.mem_append_left _ (List.mem_append_left _ (List.mem_append_left _ (List.mem_append_left _ (List.mem_append_left _ (List.mem_append_left _ (List.mem_append_left _ (List.mem_append_left _ (List.mem_append_left _ (List.mem_append_left _ (List.mem_append_right _ h)))))))))))) 6 rfl rfl 2 (by decide) (List.mem_of_getElem? (i := 2) rfl) (fun _ h9 => h9) rfl dX11_tried_71 ?_
                  refine lv_aload_n hF.1 hF.2.1 dX11_tried_74 rfl (lv_at hl 0 rfl) ?_
                  refine k_get (C := RX11) (T := TX11) (N := 8) hF hK hG (fun _ h => List.mem_cons_of_mem _ (List.mem_append_left _ (List.mem_append_left _ (List.mem_append_left _ (List.mem_append_left _ (List.mem_append_left _ (List.mem_append_left _ (List.mem_append_left _ (List.mem_append_left _ (List.mem_append_left _ (List.mem_append_left _ (List.mem_append_right _ h)))))))))))) 6 rfl rfl 0 (by decide) (List.mem_of_getElem? (i := 1) rfl) (fun _ h9 => h9) rfl dX11_tried_75 ?_
                  refine k_cv (r_V (As := [.ref (ob 7)]) hF hK hA hG (c_X9_takeFrom hMl.w2 hIl.w0 (fun h => absurd (hG.2.1.1 9 7 _ _ rfl rfl h) (by decide)) (fun h => absurd (hG.2.1.1 12 10 _ _ rfl rfl h) (by decide))) (cwV 1 hF.2.2.2.2 gX11_tried_X9_takeFrom rfl rfl rfl (by decide +kernel) ⟨Nat.le_of_ble_eq_true rfl, Nat.le_of_ble_eq_true rfl⟩) 9 rfl rfl rfl rfl hl.1 rfl (lv_room (Nat.le_of_ble_eq_true rfl)) dX11_tried_78 ⟨by show _ ≤ 8; omega, by show _ ≤ 8; omega⟩) hG (fun u_78 H locs hp_78 hG => ?_)
                  have hG : Gd D A (XW cA ob mb ss sh sp mt rc n o dr n1 o1 dr1 n o dr dk rk kt tk pl) s.heap H locs := hG
                  refine lv_aload_n hF.1 hF.2.1 dX11_tried_81 rfl (lv_at hl 0 rfl) ?_
                  refine k_get (C := RX11) (T := TX11) (N := 8) hF hK hG (fun _ h => List.mem_cons_of_mem _ (List.mem_append_left _ (List.mem_append_left _ (List.mem_append_left _ (List.mem_append_left _ (List.mem_append_left _ (List.mem_append_left _ (List.mem_append_left _ (List.mem_append_left _ (List.mem_append_left _ (List.mem_append_left _ (List.mem_append_right _ h)))))))))))) 6 rfl rfl 2 (by decide) (List.mem_of_getElem? (i := 2) rfl) (fun _ h9 => h9) rfl dX11_tried_82 ?_
                  refine lv_iload_n hF.1 hF.2.1 dX11_tried_85 rfl (lv_at hl 2 rfl) ?_
                  refine lv_iload hF.1 hF.2.1 dX11_tried_86 (lv_at hl 6 rfl) ?_
                  refine lv_iload_n hF.1 hF.2.1 dX11_tried_88 rfl (lv_at hl 3 rfl) ?_
                  refine k_cq (r_S (As := [.int (nI k), .int (nI g)]) hF hK hA hG (c_X11_made (show k < 8 by omega)) (cwS 2 hF.2.2.2.2 gX11_tried_X11_made rfl rfl rfl (by decide +kernel) ⟨Nat.le_of_ble_eq_true rfl, Nat.le_of_ble_eq_true rfl⟩) rfl hl.1 rfl (lv_room (Nat.le_of_ble_eq_true rfl)) dX11_tried_89 ⟨by show _ ≤ 8; omega, by show _ ≤ 8; omega⟩) hG (fun r_89 u_89 H locs hp_89 hG => ?_)
                  obtain rfl := hp_89
                  have hG : Gd D A (XW cA ob mb ss sh sp mt rc n o dr n1 o1 dr1 n o dr dk rk kt tk (pl ++ [(u_89, .inr (kcI k, [.int (nI g)]))])) s.heap H locs := hG
                  have hdn : DR (pl ++ [(u_89, .inr (kcI k, [.int (nI g)]))]) u_89 k g := ⟨by omega, hg, pl.length, at_last pl _⟩
                  show W p l e rmX11_tried s m args below meth c _ _ _ _ Q (F0 m 92 ls (.ref u_89 :: [.int (nI i), .ref (ob 9)]))
                  refine k_cv (r_V (As := [.int (nI i), .ref u_89]) hF hK hA hG (c_X9_replace hIl.push.w2 hdn.c16 hi) (cwV 2 hF.2.2.2.2 gX11_tried_X9_replace rfl rfl rfl (by decide +kernel) ⟨Nat.le_of_ble_eq_true rfl, Nat.le_of_ble_eq_true rfl⟩) 9 rfl rfl rfl rfl hl.1 rfl (lv_room (Nat.le_of_ble_eq_true rfl)) dX11_tried_92 ⟨by show _ ≤ 8; omega, by show _ ≤ 8; omega⟩) hG (fun u_92 H locs hp_92 hG => ?_)
                  have hG : Gd D A (XW cA ob mb ss sh sp mt rc n o dr n1 o1 dr1 n o (va_up dr i (some u_89)) dk rk kt tk (pl ++ [(u_89, .inr (kcI k, [.int (nI g)]))])) s.heap H locs := hG
                  have hMr := (hIl.push (l := [(u_89, .inr (kcI k, [.int (nI g)]))])).rep hi hdn
                  refine lv_aload_n hF.1 hF.2.1 dX11_tried_95 rfl (lv_at hl 0 rfl) ?_
                  refine lv_aload hF.1 hF.2.1 dX11_tried_96 (lv_at hl 4 rfl) ?_
                  refine k_ci (r_V (As := [.ref b]) hF hK hA hG (c_X11_fits hMr hRl.push (mh := z.2.1 / 2) (by omega)) (cwV 1 hF.2.2.2.2 gX11_tried_X11_fits rfl rfl rfl (by decide +kernel) ⟨Nat.le_of_ble_eq_true rfl, Nat.le_of_ble_eq_true rfl⟩) 6 rfl rfl rfl rfl hl.1 rfl (lv_room (Nat.le_of_ble_eq_true rfl)) dX11_tried_98 ⟨by show _ ≤ 8; omega, by show _ ≤ 8; omega⟩) hG (fun r_98 u_98 H locs hp_98 hG => ?_)
                  obtain ⟨hp1, hu98⟩ := hp_98
                  subst hp1
                  have hG : Gd D A (XW cA ob mb ss sh sp mt rc n o dr n1 o1 dr1 n u_98 (va_up dr i (some u_89)) dk rk kt tk (pl ++ [(u_89, .inr (kcI k, [.int (nI g)]))])) s.heap H locs := hG
                  refine lv_if_eq (tgt := 113) hF.1 hF.2.1 dX11_tried_101 (by decide) (fun c_101 => ?_) (fun c_101 => ?_)
                  · --
                    have n_101 : (FIT n (va_up kd i k) (va_up fg i g) z.2.2 o (z.2.1 / 2)) = false := b2i_z.mp c_101
                    refine lv_iinc (v := (nI (k + 1))) (lv' := [(6, .int (nI (k + 1))), (0, .ref (ob 6)), (1, .int (nI j)), (2, .int (nI i)), (3, .int (nI g)), (4, .ref b), (5, .int (nI (triU n o kd fg i g z.2.2 (z.2.1 / 2) k)))]) hF.1 hF.2.1 dX11_tried_113 hl (k := 6) rfl (nI_inc _ _) (by decide) rfl (fun ls hl => ?_)
                    refine lv_goto (tgt := 63) hF.1 hF.2.1 dX11_tried_116 (by decide) ?_
                    exact ih63 (k + 1) (_) (_) (_) (_) (by omega) hIl.push hJl.push ⟨_, _, hMr.setO hu98⟩ hXl.push hRl.push (by omega) _ _ hG ls (lv_sub hl [1, 2, 3, 4, 5, 6, 0] (by first | (rw [triU_t n_101]; rfl) | (rw [triU_f2 n_101]; rfl)))
                  · --
                    have n_101 : (FIT n (va_up kd i k) (va_up fg i g) z.2.2 o (z.2.1 / 2)) = true := b2i_nz.mp c_101
                    refine lv_iload hF.1 hF.2.1 dX11_tried_104 (lv_at hl 5 rfl) ?_
                    refine lv_iconst (v := (nI 1)) hF.1 hF.2.1 dX11_tried_106 (by decide +kernel) ?_
                    refine lv_iload hF.1 hF.2.1 dX11_tried_107 (lv_at hl 6 rfl) ?_
                    refine lv_ishl hF.1 hF.2.1 dX11_tried_109 ?_
                    rw [shl_1 (by omega)]
                    refine lv_ior hF.1 hF.2.1 dX11_tried_110 ?_
                    rw [nx_or]
                    refine lv_istore (lv' := [(5, .int (nI (triU n o kd fg i g z.2.2 (z.2.1 / 2) k ||| 2 ^ k))), (0, .ref (ob 6)), (1, .int (nI j)), (2, .int (nI i)), (3, .int (nI g)), (4, .ref b), (6, .int (nI k))]) hF.1 hF.2.1 dX11_tried_111 hl (by decide) rfl (fun ls hl => ?_)
                    refine lv_iinc (v := (nI (k + 1))) (lv' := [(6, .int (nI (k + 1))), (5, .int (nI (triU n o kd fg i g z.2.2 (z.2.1 / 2) k ||| 2 ^ k))), (0, .ref (ob 6)), (1, .int (nI j)), (2, .int (nI i)), (3, .int (nI g)), (4, .ref b)]) hF.1 hF.2.1 dX11_tried_113 hl (k := 6) rfl (nI_inc _ _) (by decide) rfl (fun ls hl => ?_)
                    refine lv_goto (tgt := 63) hF.1 hF.2.1 dX11_tried_116 (by decide) ?_
                    exact ih63 (k + 1) (_) (_) (_) (_) (by omega) hIl.push hJl.push ⟨_, _, hMr.setO hu98⟩ hXl.push hRl.push (by omega) _ _ hG ls (lv_sub hl [2, 3, 4, 5, 6, 1, 0] (by first | (rw [triU_t n_101]; rfl) | (rw [triU_f2 n_101]; rfl)))
            exact lp63 _ (0) (_) (_) (_) (_) (by omega) hI hJ ⟨_, _, hM⟩ hX hR (Nat.lt_succ_self _) _ _ hG ls (lv_sub hl [3, 4, 5, 6, 2, 1, 0] rfl)
          · --
            have n_51 : (trOk n z) = false := b2i_z.mp c_51
            refine lv_bipush (v := (-13)) hF.1 hF.2.1 dX11_tried_54 (by decide +kernel) ?_
            exact hret _ (_, _, _, _, _, _, _, _, _, _, _, _, _, _, _, _, _, _, _, _) _ ls _ _ _ _ (by refine ⟨?_, ⟨⟨rfl, rfl⟩, ⟨rfl, rfl⟩, htk, hI, hJ, ⟨_, _, hM⟩, ⟨_, hX⟩⟩⟩; rw [sfA_j x hj, hx, spTried_c n_15 n_22 hz0 n_51]) (by first | rfl | exact nar_b2i _) hG (Nat.le_of_ble_eq_true rfl) (Nat.le_of_ble_eq_true rfl) dX11_tried_56
      · --
        have n_22 : (inB 10 f) = false := b2i_z.mp c_22
        refine lv_iconst (v := (-1)) hF.1 hF.2.1 dX11_tried_25 (by decide +kernel) ?_
        exact hret _ (_, _, _, _, _, _, _, _, _, _, _, _, _, _, _, _, _, _, _, _) _ ls _ _ _ _ (by refine ⟨?_, ⟨⟨rfl, rfl⟩, ⟨rfl, rfl⟩, htk, hI, hJ, ⟨_, _, hM⟩, ⟨_, hX⟩⟩⟩; first | (rw [sfA_f x n_4]; exact spTried_s.symm) | exact (spTried_f (Or.inl n_15)).symm | exact (spTried_f (Or.inr n_22)).symm) (by first | rfl | exact nar_b2i _) hG (Nat.le_of_ble_eq_true rfl) (Nat.le_of_ble_eq_true rfl) dX11_tried_26

abbrev rmX11_countThoseThatMay : Room := { frames := 6, cells := 8, slots := 8, locals := 129 }
set_option maxHeartbeats 4000000 in
set_option maxRecDepth 100000 in
theorem c_X11_countThoseThatMay {l : Launch} {D : va_G} {cA : Nat → ClassId} {A : Nat → Prop}  {ob : Nat → Nat} {mb ss sh sp : Nat → Int32} {mt : Nat → Int64} {rc n o : Nat} {dr : Nat → Option Nat} {n1 o1 : Nat} {dr1 : Nat → Option Nat} {n2 o2 : Nat} {dr2 dk rk : Nat → Option Nat} {kt : Nat → Int32} {tk : Int32} {pool : va_W} {i g K : Nat} (hi : i < 6) (hg : g < 10) (hKu : K < 256) : Met l yX11_countThoseThatMay wsX11_countThoseThatMay rmX11_countThoseThatMay (va_Pc [.ref (ob 6), .int (nI i), .int (nI g), .int (nI K)] (Pre D cA A (XW cA ob mb ss sh sp mt rc n o dr n1 o1 dr1 n2 o2 dr2 dk rk kt tk pool))) (va_Qv (fun (u : (Nat → Int32) × va_W) => ∀ z, z < 64 → u.1 z = nI (nxC K g i z 8)) (fun u t => Wd D A ((fun (u : (Nat → Int32) × va_W) => XW cA ob mb ss sh sp mt rc n o dr n1 o1 dr1 n2 o2 dr2 dk rk u.1 tk (pool ++ u.2)) u) t) A) (8) (8) A := by
  refine k_ofv (S := (Nat → Int32) × va_W) (F := fun (u : (Nat → Int32) × va_W) => XW cA ob mb ss sh sp mt rc n o dr n1 o1 dr1 n2 o2 dr2 dk rk u.1 tk (pool ++ u.2)) (cc := cX11_countThoseThatMay) (maxL := 7) (by decide) rfl (Nat.le_of_ble_eq_true rfl) ?_
  intro p e s m args below meth c Q hF hini hK hA hG hret ls hl
  have hl : lv_has ls 7 [(0, .ref (ob 6)), (1, .int (nI i)), (2, .int (nI g)), (3, .int (nI K))] := hl
  refine lv_iconst (v := (nI 0)) hF.1 hF.2.1 dX11_countThoseThatMay_0 (by decide +kernel) ?_
  refine lv_istore (lv' := [(4, .int (nI 0)), (0, .ref (ob 6)), (1, .int (nI i)), (2, .int (nI g)), (3, .int (nI K))]) hF.1 hF.2.1 dX11_countThoseThatMay_1 hl (by decide) rfl (fun ls hl => ?_)
  have lp3 : ∀ (fuel : Nat), ∀ (z : Nat) (ktz : Nat → Int32), (hz : z ≤ 64) → (hz0 : ∀ q, q < z → ktz q = nI 0) → (64 - z) < fuel → ∀ (H : Heap) (locs : List Loc), Gd D A (XW cA ob mb ss sh sp mt rc n o dr n1 o1 dr1 n2 o2 dr2 dk rk ktz tk pool) s.heap H locs → ∀ ls : Array Slot, lv_has ls 7 [(0, .ref (ob 6)), (1, .int (nI i)), (2, .int (nI g)), (3, .int (nI K)), (4, .int (nI z))] → W p l e rmX11_countThoseThatMay s m args below meth c H locs (0) (0) Q (F0 m 3 ls []) := by
    intro fuel
    induction fuel with
    | zero => intro z ktz hz hz0 hmu; exact absurd hmu (Nat.not_lt_zero _)
    | succ fuel ih3 =>
      intro z ktz hz hz0 hmu H locs hG ls hl
      refine lv_iload hF.1 hF.2.1 dX11_countThoseThatMay_3 (lv_at hl 4 rfl) ?_
      refine lv_bipush (v := (nI 64)) hF.1 hF.2.1 dX11_countThoseThatMay_5 (by decide +kernel) ?_
      refine lv_icmp_ge (tgt := 24) hF.1 hF.2.1 dX11_countThoseThatMay_7 (by decide) (fun c_7 => ?_) (fun c_7 => ?_)
      · --
        have n_7 : 64 ≤ z := (nI_leI (a := 64) (b := z) (by omega) (by omega)).mp c_7
        refine lv_iconst (v := (nI 0)) hF.1 hF.2.1 dX11_countThoseThatMay_24 (by decide +kernel) ?_
        refine lv_istore (lv' := [(4, .int (nI 0)), (0, .ref (ob 6)), (1, .int (nI i)), (2, .int (nI g)), (3, .int (nI K))]) hF.1 hF.2.1 dX11_countThoseThatMay_25 hl (by decide) rfl (fun ls hl => ?_)
        have lp27 : ∀ (fuel : Nat), ∀ (k : Nat) (ktv : Nat → Int32) (lq : va_W), (hk : k ≤ 8) → (hkt : ∀ z, z < 64 → ktv z = nI (nxC K g i z k)) → (8 - k) < fuel → ∀ (H : Heap) (locs : List Loc), Gd D A (XW cA ob mb ss sh sp mt rc n o dr n1 o1 dr1 n2 o2 dr2 dk rk ktv tk (pool ++ lq)) s.heap H locs → ∀ ls : Array Slot, lv_has ls 7 [(0, .ref (ob 6)), (1, .int (nI i)), (2, .int (nI g)), (3, .int (nI K)), (4, .int (nI k))] → W p l e rmX11_countThoseThatMay s m args below meth c H locs (k) (k) Q (F0 m 27 ls []) := by
          intro fuel
          induction fuel with
          | zero => intro k ktv lq hk hkt hmu; exact absurd hmu (Nat.not_lt_zero _)
          | succ fuel ih27 =>
            intro k ktv lq hk hkt hmu H locs hG ls hl
            refine lv_iload hF.1 hF.2.1 dX11_countThoseThatMay_27 (lv_at hl 4 rfl) ?_
            refine lv_bipush (v := (nI 8)) hF.1 hF.2.1 dX11_countThoseThatMay_29 (by decide +kernel) ?_
            refine lv_icmp_ge (tgt := 100) hF.1 hF.2.1 dX11_countThoseThatMay_31 (by decide) (fun c_31 => ?_) (fun c_31 => ?_)
            · --
              have n_31 : 8 ≤ k := (nI_leI (a := 8) (b := k) (by omega) (by omega)).mp c_31
              exact hret (ktv, lq) _ ls _ _ _ _ (by obtain rfl : k = 8 := (by omega); exact hkt) hG (by omega) (by omega) dX11_countThoseThatMay_100
            · --
              have n_31 : ¬ (8 ≤ k) := fun zz9 => c_31 ((nI_leI (a := 8) (b := k) (by omega) (by omega)).mpr zz9)
              refine lv_iload_n hF.1 hF.2.1 dX11_countThoseThatMay_34 rfl (lv_at hl 3 rfl) ?_
              refine lv_iload hF.1 hF.2.1 dX11_countThoseThatMay_35 (lv_at hl 4 rfl) ?_
              refine lv_ishr hF.1 hF.2.1 dX11_countThoseThatMay_37 ?_
              refine lv_iconst (v := (nI 1)) hF.1 hF.2.1 dX11_countThoseThatMay_38 (by decide +kernel) ?_
              refine lv_iand hF.1 hF.2.1 dX11_countThoseThatMay_39 ?_
              rw [bit_b (by omega) (by omega)]
              refine lv_iconst (v := (nI 1)) hF.1 hF.2.1 dX11_countThoseThatMay_40 (by decide +kernel) ?_
              refine lv_icmp_ne (tgt := 94) hF.1 hF.2.1 dX11_countThoseThatMay_41 (by decide) (fun c_41 => ?_) (fun c_41 => ?_)
              · --
                have hkb : K.testBit k = false := by cases a : K.testBit k with | false => rfl | true => rw [a] at c_41; exact absurd rfl c_41
                refine W.widen (show k ≤ k + 1 by omega) (show k ≤ k + 1 by omega) ?_
                refine lv_iinc (v := (nI (k + 1))) (lv' := [(4, .int (nI (k + 1))), (0, .ref (ob 6)), (1, .int (nI i)), (2, .int (nI g)), (3, .int (nI K))]) hF.1 hF.2.1 dX11_countThoseThatMay_94 hl (k := 4) rfl (nI_inc _ _) (by decide) rfl (fun ls hl => ?_)
                refine lv_goto (tgt := 27) hF.1 hF.2.1 dX11_countThoseThatMay_97 (by decide) ?_
                exact ih27 (k + 1) (_) (_) (by omega) (by first | exact fun z h => (by rw [nxC_f hkb]; exact hkt z h) | exact fun z h => hAa z (by omega)) (by omega) _ _ hG ls (lv_sub hl [1, 2, 3, 4, 0] rfl)
              · --
                have hkb : K.testBit k = true := by cases a : K.testBit k with | true => rfl | false => rw [a] at c_41; exact absurd c_41 (by decide +kernel)
                refine lv_iload hF.1 hF.2.1 dX11_countThoseThatMay_44 (lv_at hl 4 rfl) ?_
                refine lv_iload_n hF.1 hF.2.1 dX11_countThoseThatMay_46 rfl (lv_at hl 2 rfl) ?_
                refine k_cq (r_S (As := [.int (nI k), .int (nI g)]) hF hK hA hG (c_X11_made (show k < 8 by omega)) (cwS 2 hF.2.2.2.2 gX11_countThoseThatMay_X11_made rfl rfl rfl (by decide +kernel) ⟨Nat.le_of_ble_eq_true rfl, Nat.le_of_ble_eq_true rfl⟩) rfl hl.1 rfl (lv_room (Nat.le_of_ble_eq_true rfl)) dX11_countThoseThatMay_47 ⟨by show _ ≤ 8; omega, by show _ ≤ 8; omega⟩) hG (fun r_47 u_47 H locs hp_47 hG => ?_)
                obtain rfl := hp_47
                have hG : Gd D A (XW cA ob mb ss sh sp mt rc n o dr n1 o1 dr1 n2 o2 dr2 dk rk ktv tk ((pool ++ lq) ++ [(u_47, .inr (kcI k, [.int (nI g)]))])) s.heap H locs := hG
                have hdn : DR ((pool ++ lq) ++ [(u_47, .inr (kcI k, [.int (nI g)]))]) u_47 k g := ⟨by omega, hg, (pool ++ lq).length, at_last (pool ++ lq) _⟩
                show W p l e rmX11_countThoseThatMay s m args below meth c _ _ _ _ Q (F0 m 50 ls (.ref u_47 :: []))
                refine lv_astore (lv' := [(5, .ref u_47), (0, .ref (ob 6)), (1, .int (nI i)), (2, .int (nI g)), (3, .int (nI K)), (4, .int (nI k))]) hF.1 hF.2.1 dX11_countThoseThatMay_50 hl (by decide) rfl (fun ls hl => ?_)
                obtain ⟨kq, hkq⟩ : ∃ kq, kq = k := ⟨k, rfl⟩
                have hdn : DR ((pool ++ lq) ++ [(u_47, .inr (kcI k, [.int (nI g)]))]) u_47 kq g := by rw [hkq]; exact hdn
                refine lv_iconst (v := (nI 0)) hF.1 hF.2.1 dX11_countThoseThatMay_52 (by decide +kernel) ?_
                refine lv_istore (lv' := [(6, .int (nI 0)), (5, .ref u_47), (0, .ref (ob 6)), (1, .int (nI i)), (2, .int (nI g)), (3, .int (nI K)), (4, .int (nI k))]) hF.1 hF.2.1 dX11_countThoseThatMay_53 hl (by decide) rfl (fun ls hl => ?_)
                have lp55 : ∀ (fuel : Nat), ∀ (z : Nat) (ktw : Nat → Int32), (hz : z ≤ 64) → (hAa : ∀ q, q < z → ktw q = nI (nxC K g i q (k + 1))) → (hB : ∀ q, z ≤ q → q < 64 → ktw q = nI (nxC K g i q k)) → (64 - z) < fuel → ∀ (H : Heap) (locs : List Loc), Gd D A (XW cA ob mb ss sh sp mt rc n o dr n1 o1 dr1 n2 o2 dr2 dk rk ktw tk ((pool ++ lq) ++ [(u_47, .inr (kcI k, [.int (nI g)]))])) s.heap H locs → ∀ ls : Array Slot, lv_has ls 7 [(0, .ref (ob 6)), (1, .int (nI i)), (2, .int (nI g)), (3, .int (nI K)), (4, .int (nI k)), (5, .ref u_47), (6, .int (nI z))] → W p l e rmX11_countThoseThatMay s m args below meth c H locs ((k + 1)) ((k + 1)) Q (F0 m 55 ls []) := by
                  intro fuel
                  induction fuel with
                  | zero => intro z ktw hz hAa hB hmu; exact absurd hmu (Nat.not_lt_zero _)
                  | succ fuel ih55 =>
                    intro z ktw hz hAa hB hmu H locs hG ls hl
                    refine lv_iload hF.1 hF.2.1 dX11_countThoseThatMay_55 (lv_at hl 6 rfl) ?_
                    refine lv_bipush (v := (nI 64)) hF.1 hF.2.1 dX11_countThoseThatMay_57 (by decide +kernel) ?_
                    refine lv_icmp_ge (tgt := 94) hF.1 hF.2.1 dX11_countThoseThatMay_59 (by decide) (fun c_59 => ?_) (fun c_59 => ?_)
                    · --
                      have n_59 : 64 ≤ z := (nI_leI (a := 64) (b := z) (by omega) (by omega)).mp c_59
                      have hG : Gd D A (XW cA ob mb ss sh sp mt rc n o dr n1 o1 dr1 n2 o2 dr2 dk rk ktw tk (pool ++ (lq ++ [(u_47, .inr (kcI k, [.int (nI g)]))]))) s.heap H locs := by rw [← List.append_assoc]; exact hG
                      refine lv_iinc (v := (nI (k + 1))) (lv' := [(4, .int (nI (k + 1))), (0, .ref (ob 6)), (1, .int (nI i)), (2, .int (nI g)), (3, .int (nI K)), (5, .ref u_47), (6, .int (nI z))]) hF.1 hF.2.1 dX11_countThoseThatMay_94 hl (k := 4) rfl (nI_inc _ _) (by decide) rfl (fun ls hl => ?_)
                      refine lv_goto (tgt := 27) hF.1 hF.2.1 dX11_countThoseThatMay_97 (by decide) ?_
                      exact ih27 (k + 1) (_) (_) (by omega) (by first | exact fun z h => (by rw [nxC_f hkb]; exact hkt z h) | exact fun z h => hAa z (by omega)) (by omega) _ _ hG ls (lv_sub hl [1, 2, 3, 4, 0] rfl)
                    · --
                      have n_59 : ¬ (64 ≤ z) := fun zz9 => c_59 ((nI_leI (a := 64) (b := z) (by omega) (by omega)).mpr zz9)
                      have hz64 : z < 64 := by omega
                      refine lv_aload_n hF.1 hF.2.1 dX11_countThoseThatMay_62 rfl (lv_at hl 0 rfl) ?_
                      refine k_get (C := RX11) (T := TX11) (N := 8) hF hK hG (fun _ h => List.mem_cons_of_mem _ (List.mem_append_left _ (List.mem_append_left _ (List.mem_append_left _ (List.mem_append_left _ (List.mem_append_left _ (List.mem_append_left _ (List.mem_append_left _ (List.mem_append_left _ (List.mem_append_right _ h)))))))))) 6 rfl rfl 6 (by decide) (List.mem_of_getElem? (i := 1) rfl) (fun _ h9 => h9) rfl dX11_countThoseThatMay_63 ?_
                      refine lv_iload hF.1 hF.2.1 dX11_countThoseThatMay_66 (lv_at hl 6 rfl) ?_
                      refine lv_dup2_11 hF.1 hF.2.1 dX11_countThoseThatMay_68 rfl rfl ?_
                      refine k_ialdN hF hK hG 15 rfl (z) rfl (by omega) (by omega) dX11_countThoseThatMay_69 ?_
                      rw [hB z (Nat.le_refl z) (by omega)]
                      refine lv_aload hF.1 hF.2.1 dX11_countThoseThatMay_70 (lv_at hl 5 rfl) ?_
                      refine lv_iload_n hF.1 hF.2.1 dX11_countThoseThatMay_72 rfl (lv_at hl 1 rfl) ?_
                      refine lv_iload hF.1 hF.2.1 dX11_countThoseThatMay_73 (lv_at hl 6 rfl) ?_
                      have k75 : ∀ (H : Heap) (locs : List Loc), Gd D A (XW cA ob mb ss sh sp mt rc n o dr n1 o1 dr1 n2 o2 dr2 dk rk ktw tk ((pool ++ lq) ++ [(u_47, .inr (kcI k, [.int (nI g)]))])) s.heap H locs → W p l e rmX11_countThoseThatMay s m args below meth c H locs (k + 1) (k + 1) Q (F0 m 78 ls (.int (b2i (mv kq g i z)) :: [.int (nI (nxC K g i z k)), .int (nI z), .ref (ob 15)])) := by
                        intro H locs hG
                        refine lv_if_eq (tgt := 85) hF.1 hF.2.1 dX11_countThoseThatMay_78 (by decide) (fun c_78 => ?_) (fun c_78 => ?_)
                        · --
                          have n_78 : (mv kq g i z) = false := b2i_z.mp c_78
                          rw [hkq] at n_78
                          have hnx := nxC_g (K := K) n_78
                          refine lv_iconst (v := (nI 0)) hF.1 hF.2.1 dX11_countThoseThatMay_85 (by decide +kernel) ?_
                          refine lv_iadd hF.1 hF.2.1 dX11_countThoseThatMay_86 ?_
                          rw [nI_add]
                          refine k_iastN hF hK hG 15 rfl (z) rfl (by omega) (by omega) dX11_countThoseThatMay_87 (fun H locs hG => ?_)
                          refine lv_iinc (v := (nI (z + 1))) (lv' := [(6, .int (nI (z + 1))), (0, .ref (ob 6)), (1, .int (nI i)), (2, .int (nI g)), (3, .int (nI K)), (4, .int (nI k)), (5, .ref u_47)]) hF.1 hF.2.1 dX11_countThoseThatMay_88 hl (k := 6) rfl (nI_inc _ _) (by decide) rfl (fun ls hl => ?_)
                          refine lv_goto (tgt := 55) hF.1 hF.2.1 dX11_countThoseThatMay_91 (by decide) ?_
                          exact ih55 (z + 1) (_) (by omega) (lt_s (fun q h => by rw [pk_un (Nat.ne_of_lt h)]; exact hAa q h) (by rw [pk_us, hnx])) (fun q h1 h2 => by rw [pk_un (by omega)]; exact hB q (by omega) h2) (by omega) _ _ hG ls (lv_sub hl [1, 2, 3, 4, 5, 6, 0] rfl)
                        · --
                          have n_78 : (mv kq g i z) = true := b2i_nz.mp c_78
                          rw [hkq] at n_78
                          have hnx := nxC_t hkb n_78
                          refine lv_iconst (v := (nI 1)) hF.1 hF.2.1 dX11_countThoseThatMay_81 (by decide +kernel) ?_
                          refine lv_goto (tgt := 86) hF.1 hF.2.1 dX11_countThoseThatMay_82 (by decide) ?_
                          refine lv_iadd hF.1 hF.2.1 dX11_countThoseThatMay_86 ?_
                          rw [nI_add]
                          refine k_iastN hF hK hG 15 rfl (z) rfl (by omega) (by omega) dX11_countThoseThatMay_87 (fun H locs hG => ?_)
                          refine lv_iinc (v := (nI (z + 1))) (lv' := [(6, .int (nI (z + 1))), (0, .ref (ob 6)), (1, .int (nI i)), (2, .int (nI g)), (3, .int (nI K)), (4, .int (nI k)), (5, .ref u_47)]) hF.1 hF.2.1 dX11_countThoseThatMay_88 hl (k := 6) rfl (nI_inc _ _) (by decide) rfl (fun ls hl => ?_)
                          refine lv_goto (tgt := 55) hF.1 hF.2.1 dX11_countThoseThatMay_91 (by decide) ?_
                          exact ih55 (z + 1) (_) (by omega) (lt_s (fun q h => by rw [pk_un (Nat.ne_of_lt h)]; exact hAa q h) (by rw [pk_us, hnx])) (fun q h1 h2 => by rw [pk_un (by omega)]; exact hB q (by omega) h2) (by omega) _ _ hG ls (lv_sub hl [1, 2, 3, 4, 5, 6, 0] rfl)
                      rcases (show kq = 0 ∨ kq = 1 ∨ kq = 2 ∨ kq = 3 ∨ kq = 4 ∨ kq = 5 ∨ kq = 6 ∨ kq = 7 by omega) with ek | ek | ek | ek | ek | ek | ek | ek
                      · --
                        obtain ⟨-, -, q, hb⟩ := (hdn.c16 : DR (XW cA ob mb ss sh sp mt rc n o dr n1 o1 dr1 n2 o2 dr2 dk rk ktw tk ((pool ++ lq) ++ [(u_47, .inr (kcI k, [.int (nI g)]))])) u_47 (kq) (g))
                        rw [ek] at hb
                        have hb : (XW cA ob mb ss sh sp mt rc n o dr n1 o1 dr1 n2 o2 dr2 dk rk ktw tk ((pool ++ lq) ++ [(u_47, .inr (kcI k, [.int (nI g)]))]))[q]? = some (u_47, .inr (0, [.int (nI (g))])) := hb
                        refine k_ci (r_V (As := [.int (nI i), .int (nI z)]) hF hK hA hG (c_X0_moves hi hz64) (cwV 2 hF.2.2.2.2 gX11_countThoseThatMay_X0_moves rfl rfl rfl (by decide +kernel) ⟨Nat.le_of_ble_eq_true rfl, Nat.le_of_ble_eq_true rfl⟩) q hb rfl rfl rfl hl.1 rfl (lv_room (Nat.le_of_ble_eq_true rfl)) dX11_countThoseThatMay_75 ⟨by show _ ≤ 8; omega, by show _ ≤ 8; omega⟩) hG (fun r_75 u_75 H locs hp_75 hG => ?_)
                        subst hp_75
                        have k := k75 _ _ hG
                        rw [ek] at k
                        exact k
                      · --
                        obtain ⟨-, -, q, hb⟩ := (hdn.c16 : DR (XW cA ob mb ss sh sp mt rc n o dr n1 o1 dr1 n2 o2 dr2 dk rk ktw tk ((pool ++ lq) ++ [(u_47, .inr (kcI k, [.int (nI g)]))])) u_47 (kq) (g))
                        rw [ek] at hb
                        have hb : (XW cA ob mb ss sh sp mt rc n o dr n1 o1 dr1 n2 o2 dr2 dk rk ktw tk ((pool ++ lq) ++ [(u_47, .inr (kcI k, [.int (nI g)]))]))[q]? = some (u_47, .inr (1, [.int (nI (g))])) := hb
                        refine k_ci (r_U (As := [.int (nI i), .int (nI z)]) hF hK hA hG (c_X1_moves hi hz64) (va_cwO 2 hF.2.2.2.2 gX11_countThoseThatMay_X1_moves_u297X1 rfl rfl rfl (List.mem_of_getElem? (i := 68) rfl) (by decide +kernel) ⟨Nat.le_of_ble_eq_true rfl, Nat.le_of_ble_eq_true rfl⟩) q hb rfl rfl rfl hl.1 rfl (lv_room (Nat.le_of_ble_eq_true rfl)) dX11_countThoseThatMay_75 ⟨by show _ ≤ 8; omega, by show _ ≤ 8; omega⟩) hG (fun r_75 u_75 H locs hp_75 hG => ?_)
                        subst hp_75
                        have k := k75 _ _ hG
                        rw [ek] at k
                        exact k
                      · --
                        obtain ⟨-, -, q, hb⟩ := (hdn.c16 : DR (XW cA ob mb ss sh sp mt rc n o dr n1 o1 dr1 n2 o2 dr2 dk rk ktw tk ((pool ++ lq) ++ [(u_47, .inr (kcI k, [.int (nI g)]))])) u_47 (kq) (g))
                        rw [ek] at hb
                        have hb : (XW cA ob mb ss sh sp mt rc n o dr n1 o1 dr1 n2 o2 dr2 dk rk ktw tk ((pool ++ lq) ++ [(u_47, .inr (kcI k, [.int (nI g)]))]))[q]? = some (u_47, .inr (7, [.int (nI (g))])) := hb
                        refine k_ci (r_U (As := [.int (nI i), .int (nI z)]) hF hK hA hG (c_X7_moves hi hz64) (va_cwO 2 hF.2.2.2.2 gX11_countThoseThatMay_X7_moves_u297X7 rfl rfl rfl (List.mem_of_getElem? (i := 68) rfl) (by decide +kernel) ⟨Nat.le_of_ble_eq_true rfl, Nat.le_of_ble_eq_true rfl⟩) q hb rfl rfl rfl hl.1 rfl (lv_room (Nat.le_of_ble_eq_true rfl)) dX11_countThoseThatMay_75 ⟨by show _ ≤ 8; omega, by show _ ≤ 8; omega⟩) hG (fun r_75 u_75 H locs hp_75 hG => ?_)
                        subst hp_75
                        have k := k75 _ _ hG
                        rw [ek] at k
                        exact k
                      · --
                        obtain ⟨-, -, q, hb⟩ := (hdn.c16 : DR (XW cA ob mb ss sh sp mt rc n o dr n1 o1 dr1 n2 o2 dr2 dk rk ktw tk ((pool ++ lq) ++ [(u_47, .inr (kcI k, [.int (nI g)]))])) u_47 (kq) (g))
                        rw [ek] at hb
                        have hb : (XW cA ob mb ss sh sp mt rc n o dr n1 o1 dr1 n2 o2 dr2 dk rk ktw tk ((pool ++ lq) ++ [(u_47, .inr (kcI k, [.int (nI g)]))]))[q]? = some (u_47, .inr (8, [.int (nI (g))])) := hb
                        refine k_ci (r_U (As := [.int (nI i), .int (nI z)]) hF hK hA hG (c_X8_moves hi hz64) (va_cwO 2 hF.2.2.2.2 gX11_countThoseThatMay_X8_moves_u297X8 rfl rfl rfl (List.mem_of_getElem? (i := 68) rfl) (by decide +kernel) ⟨Nat.le_of_ble_eq_true rfl, Nat.le_of_ble_eq_true rfl⟩) q hb rfl rfl rfl hl.1 rfl (lv_room (Nat.le_of_ble_eq_true rfl)) dX11_countThoseThatMay_75 ⟨by show _ ≤ 8; omega, by show _ ≤ 8; omega⟩) hG (fun r_75 u_75 H locs hp_75 hG => ?_)
                        subst hp_75
                        have k := k75 _ _ hG
                        rw [ek] at k
                        exact k
                      · --
                        obtain ⟨-, -, q, hb⟩ := (hdn.c16 : DR (XW cA ob mb ss sh sp mt rc n o dr n1 o1 dr1 n2 o2 dr2 dk rk ktw tk ((pool ++ lq) ++ [(u_47, .inr (kcI k, [.int (nI g)]))])) u_47 (kq) (g))
                        rw [ek] at hb
                        have hb : (XW cA ob mb ss sh sp mt rc n o dr n1 o1 dr1 n2 o2 dr2 dk rk ktw tk ((pool ++ lq) ++ [(u_47, .inr (kcI k, [.int (nI g)]))]))[q]? = some (u_47, .inr (5, [.int (nI (g))])) := hb
                        refine k_ci (r_U (As := [.int (nI i), .int (nI z)]) hF hK hA hG (c_X5_moves hi hz64 hg hb) (va_cwO 2 hF.2.2.2.2 gX11_countThoseThatMay_X5_moves_u297X5 rfl rfl rfl (List.mem_of_getElem? (i := 68) rfl) (by decide +kernel) ⟨Nat.le_of_ble_eq_true rfl, Nat.le_of_ble_eq_true rfl⟩) q hb rfl rfl rfl hl.1 rfl (lv_room (Nat.le_of_ble_eq_true rfl)) dX11_countThoseThatMay_75 ⟨by show _ ≤ 8; omega, by show _ ≤ 8; omega⟩) hG (fun r_75 u_75 H locs hp_75 hG => ?_)
                        subst hp_75
                        have k := k75 _ _ hG
                        rw [ek] at k
                        exact k
                      · --
                        obtain ⟨-, -, q, hb⟩ := (hdn.c16 : DR (XW cA ob mb ss sh sp mt rc n o dr n1 o1 dr1 n2 o2 dr2 dk rk ktw tk ((pool ++ lq) ++ [(u_47, .inr (kcI k, [.int (nI g)]))])) u_47 (kq) (g))
                        rw [ek] at hb
                        have hb : (XW cA ob mb ss sh sp mt rc n o dr n1 o1 dr1 n2 o2 dr2 dk rk ktw tk ((pool ++ lq) ++ [(u_47, .inr (kcI k, [.int (nI g)]))]))[q]? = some (u_47, .inr (3, [.int (nI (g))])) := hb
                        refine k_ci (r_U (As := [.int (nI i), .int (nI z)]) hF hK hA hG (c_X3_moves hi hz64 hg hb) (va_cwO 2 hF.2.2.2.2 gX11_countThoseThatMay_X3_moves_u297X3 rfl rfl rfl (List.mem_of_getElem? (i := 68) rfl) (by decide +kernel) ⟨Nat.le_of_ble_eq_true rfl, Nat.le_of_ble_eq_true rfl⟩) q hb rfl rfl rfl hl.1 rfl (lv_room (Nat.le_of_ble_eq_true rfl)) dX11_countThoseThatMay_75 ⟨by show _ ≤ 8; omega, by show _ ≤ 8; omega⟩) hG (fun r_75 u_75 H locs hp_75 hG => ?_)
                        subst hp_75
                        have k := k75 _ _ hG
                        rw [ek] at k
                        exact k
                      · --
                        obtain ⟨-, -, q, hb⟩ := (hdn.c16 : DR (XW cA ob mb ss sh sp mt rc n o dr n1 o1 dr1 n2 o2 dr2 dk rk ktw tk ((pool ++ lq) ++ [(u_47, .inr (kcI k, [.int (nI g)]))])) u_47 (kq) (g))
                        rw [ek] at hb
                        have hb : (XW cA ob mb ss sh sp mt rc n o dr n1 o1 dr1 n2 o2 dr2 dk rk ktw tk ((pool ++ lq) ++ [(u_47, .inr (kcI k, [.int (nI g)]))]))[q]? = some (u_47, .inr (4, [.int (nI (g))])) := hb
                        refine k_ci (r_U (As := [.int (nI i), .int (nI z)]) hF hK hA hG (c_X4_moves hi hz64 hg hb) (va_cwO 2 hF.2.2.2.2 gX11_countThoseThatMay_X4_moves_u297X4 rfl rfl rfl (List.mem_of_getElem? (i := 68) rfl) (by decide +kernel) ⟨Nat.le_of_ble_eq_true rfl, Nat.le_of_ble_eq_true rfl⟩) q hb rfl rfl rfl hl.1 rfl (lv_room (Nat.le_of_ble_eq_true rfl)) dX11_countThoseThatMay_75 ⟨by show _ ≤ 8; omega, by show _ ≤ 8; omega⟩) hG (fun r_75 u_75 H locs hp_75 hG => ?_)
                        subst hp_75
                        have k := k75 _ _ hG
                        rw [ek] at k
                        exact k
                      · --
                        obtain ⟨-, -, q, hb⟩ := (hdn.c16 : DR (XW cA ob mb ss sh sp mt rc n o dr n1 o1 dr1 n2 o2 dr2 dk rk ktw tk ((pool ++ lq) ++ [(u_47, .inr (kcI k, [.int (nI g)]))])) u_47 (kq) (g))
                        rw [ek] at hb
                        have hb : (XW cA ob mb ss sh sp mt rc n o dr n1 o1 dr1 n2 o2 dr2 dk rk ktw tk ((pool ++ lq) ++ [(u_47, .inr (kcI k, [.int (nI g)]))]))[q]? = some (u_47, .inr (2, [.int (nI (g))])) := hb
                        refine k_ci (r_U (As := [.int (nI i), .int (nI z)]) hF hK hA hG (c_X2_moves hi hz64 hb) (va_cwO 2 hF.2.2.2.2 gX11_countThoseThatMay_X2_moves_u297X2 rfl rfl rfl (List.mem_of_getElem? (i := 68) rfl) (by decide +kernel) ⟨Nat.le_of_ble_eq_true rfl, Nat.le_of_ble_eq_true rfl⟩) q hb rfl rfl rfl hl.1 rfl (lv_room (Nat.le_of_ble_eq_true rfl)) dX11_countThoseThatMay_75 ⟨by show _ ≤ 8; omega, by show _ ≤ 8; omega⟩) hG (fun r_75 u_75 H locs hp_75 hG => ?_)
                        subst hp_75
                        have k := k75 _ _ hG
                        rw [ek] at k
                        exact k
                exact lp55 _ (0) (ktv) (by omega) (fun q h => absurd h (Nat.not_lt_zero q)) (fun q _ h => hkt q h) (Nat.lt_succ_self _) _ _ hG ls (lv_sub hl [2, 3, 4, 5, 6, 1, 0] rfl)
        have hG : Gd D A (XW cA ob mb ss sh sp mt rc n o dr n1 o1 dr1 n2 o2 dr2 dk rk ktz tk (pool ++ [])) s.heap H locs := by rw [List.append_nil]; exact hG
        exact lp27 _ (0) (ktz) ([]) (by omega) (fun z h => hz0 z (by omega)) (Nat.lt_succ_self _) _ _ hG ls (lv_sub hl [1, 2, 3, 4, 0] rfl)
      · --
        have n_7 : ¬ (64 ≤ z) := fun zz9 => c_7 ((nI_leI (a := 64) (b := z) (by omega) (by omega)).mpr zz9)
        refine lv_aload_n hF.1 hF.2.1 dX11_countThoseThatMay_10 rfl (lv_at hl 0 rfl) ?_
        refine k_get (C := RX11) (T := TX11) (N := 8) hF hK hG (fun _ h => List.mem_cons_of_mem _ (List.mem_append_left _ (List.mem_append_left _ (List.mem_append_left _ (List.mem_append_left _ (List.mem_append_left _ (List.mem_append_left _ (List.mem_append_left _ (List.mem_append_left _ (List.mem_append_right _ h)))))))))) 6 rfl rfl 6 (by decide) (List.mem_of_getElem? (i := 1) rfl) (fun _ h9 => h9) rfl dX11_countThoseThatMay_11 ?_
        refine lv_iload hF.1 hF.2.1 dX11_countThoseThatMay_14 (lv_at hl 4 rfl) ?_
        refine lv_iconst (v := (nI 0)) hF.1 hF.2.1 dX11_countThoseThatMay_16 (by decide +kernel) ?_
        refine k_iastN hF hK hG 15 rfl (z) rfl (by omega) (by omega) dX11_countThoseThatMay_17 (fun H locs hG => ?_)
        refine lv_iinc (v := (nI (z + 1))) (lv' := [(4, .int (nI (z + 1))), (0, .ref (ob 6)), (1, .int (nI i)), (2, .int (nI g)), (3, .int (nI K))]) hF.1 hF.2.1 dX11_countThoseThatMay_18 hl (k := 4) rfl (nI_inc _ _) (by decide) rfl (fun ls hl => ?_)
        refine lv_goto (tgt := 3) hF.1 hF.2.1 dX11_countThoseThatMay_21 (by decide) ?_
        exact ih3 (z + 1) (_) (by omega) (lt_s (fun q h => by rw [pk_un (Nat.ne_of_lt h)]; exact hz0 q h) pk_us) (by omega) _ _ hG ls (lv_sub hl [1, 2, 3, 4, 0] rfl)
  exact lp3 _ (0) (kt) (by omega) (fun q h => absurd h (Nat.not_lt_zero q)) (Nat.lt_succ_self _) _ _ hG ls (lv_sub hl [1, 2, 3, 4, 0] rfl)

abbrev rmX11_next : Room := { frames := 7, cells := 8, slots := 8, locals := 155 }
set_option maxHeartbeats 4000000 in
set_option maxRecDepth 100000 in
theorem c_X11_next {l : Launch} {D : va_G} {cA : Nat → ClassId} {A : Nat → Prop}  {ob : Nat → Nat} {mb ss sh sp : Nat → Int32} {mt : Nat → Int64} {rc n o : Nat} {dr : Nat → Option Nat} {n1 o1 : Nat} {dr1 : Nat → Option Nat} {n2 o2 : Nat} {dr2 dk rk : Nat → Option Nat} {kt : Nat → Int32} {tk : Int32} {pool : va_W} {kd fg : Nat → Nat} (hI : WI pool n o dr kd fg) {kd1 fg1 : Nat → Nat} (hJ : WI pool n1 o1 dr1 kd1 fg1) {kd2 fg2 : Nat → Nat} (hM : WI pool n2 o2 dr2 kd2 fg2) {x : Nat → Sf} {P : Nat → Nat} (hX : SX cA pool dk rk x P) {tkb : Bool} (htk : tk = b2i tkb) {y f ks what : Int32} : Met l yX11_next wsX11_next rmX11_next (va_Pc [.ref (ob 6), .int y, .int f, .int ks, .int what] (Pre D cA A (XW cA ob mb ss sh sp mt rc n o dr n1 o1 dr1 n2 o2 dr2 dk rk kt tk pool))) (va_Qi (fun r (u : XS) => (r = spNext n y f ks what) ∧ XI cA u (n, o, kd, fg) (n1, o1, kd1, fg1) tkb x) (fun u t => Wd D A ((fun (u : XS) => XV cA ob u) u) t) A) (8) (8) A := by
  refine k_ofi (S := XS) (F := fun (u : XS) => XV cA ob u) (cc := cX11_next) (maxL := 10) (by decide) rfl (Nat.le_of_ble_eq_true rfl) ?_
  intro p e s m args below meth c Q hF hini hK hA hG hret ls hl
  have hl : lv_has ls 10 [(0, .ref (ob 6)), (1, .int y), (2, .int f), (3, .int ks), (4, .int what)] := hl
  have hn : n ≤ 6 := hI.1
  have ho : o < 64 := hI.o64
  have hp2 : 2 ^ n ≤ 64 := Nat.pow_le_pow_right (by decide) hn
  have hp1 : 1 ≤ 2 ^ n := Nat.one_le_two_pow
  refine lv_aload_n hF.1 hF.2.1 dX11_next_0 rfl (lv_at hl 0 rfl) ?_
  refine k_get (C := RX11) (T := TX11) (N := 8) hF hK hG (fun _ h => List.mem_cons_of_mem _ (List.mem_append_left _ (List.mem_append_left _ (List.mem_append_left _ (List.mem_append_left _ (List.mem_append_left _ (List.mem_append_left _ (List.mem_append_left _ (List.mem_append_left _ (List.mem_append_left _ (List.mem_append_right _ h))))))))))) 6 rfl rfl 0 (by decide) (List.mem_of_getElem? (i := 1) rfl) (fun _ h9 => h9) rfl dX11_next_1 ?_
  refine lv_iload_n hF.1 hF.2.1 dX11_next_4 rfl (lv_at hl 1 rfl) ?_
  refine k_ci (r_V (As := [.int y]) hF hK hA hG (c_X9_has hI.w0) (cwV 1 hF.2.2.2.2 gX11_next_X9_has rfl rfl rfl (by decide +kernel) ⟨Nat.le_of_ble_eq_true rfl, Nat.le_of_ble_eq_true rfl⟩) 7 rfl rfl rfl rfl hl.1 rfl (lv_room (Nat.le_of_ble_eq_true rfl)) dX11_next_5 ⟨Nat.le_of_ble_eq_true rfl, Nat.le_of_ble_eq_true rfl⟩) hG (fun r_5 u_5 H locs hp_5 hG => ?_)
  subst hp_5
  refine lv_if_eq (tgt := 41) hF.1 hF.2.1 dX11_next_8 (by decide) (fun c_8 => ?_) (fun c_8 => ?_)
  · --
    have n_8 : (inB n y) = false := b2i_z.mp c_8
    refine lv_iconst (v := (-1)) hF.1 hF.2.1 dX11_next_41 (by decide +kernel) ?_
    exact hret _ (_, _, _, _, _, _, _, _, _, _, _, _, _, _, _, _, _, _, _, _) _ ls _ _ _ _ (by refine ⟨?_, ⟨⟨rfl, rfl⟩, ⟨rfl, rfl⟩, htk, hI, hJ, ⟨_, _, hM⟩, ⟨_, hX⟩⟩⟩; first | exact (spNext_f (Or.inl n_8)).symm | exact (spNext_f (Or.inr (Or.inl n_15))).symm | exact (spNext_f (Or.inr (Or.inr (Or.inl (inQ_l c_20))))).symm | exact (spNext_f (Or.inr (Or.inr (Or.inl (in255_r c_27))))).symm | exact (spNext_f (Or.inr (Or.inr (Or.inr (inB_l c_32))))).symm | exact (spNext_f (Or.inr (Or.inr (Or.inr (in2_f c_38))))).symm) (by first | rfl | exact nar_b2i _) hG (Nat.le_of_ble_eq_true rfl) (Nat.le_of_ble_eq_true rfl) dX11_next_42
  · --
    have n_8 : (inB n y) = true := b2i_nz.mp c_8
    refine lv_iload_n hF.1 hF.2.1 dX11_next_11 rfl (lv_at hl 2 rfl) ?_
    refine k_ci (r_S (As := [.int f]) hF hK hA hG (c_X11_isFigure) (cwS 1 hF.2.2.2.2 gX11_next_X11_isFigure rfl rfl rfl (by decide +kernel) ⟨Nat.le_of_ble_eq_true rfl, Nat.le_of_ble_eq_true rfl⟩) rfl hl.1 rfl (lv_room (Nat.le_of_ble_eq_true rfl)) dX11_next_12 ⟨Nat.le_of_ble_eq_true rfl, Nat.le_of_ble_eq_true rfl⟩) hG (fun r_12 u_12 H locs hp_12 hG => ?_)
    subst hp_12
    refine lv_if_eq (tgt := 41) hF.1 hF.2.1 dX11_next_15 (by decide) (fun c_15 => ?_) (fun c_15 => ?_)
    · --
      have n_15 : (inB 10 f) = false := b2i_z.mp c_15
      refine lv_iconst (v := (-1)) hF.1 hF.2.1 dX11_next_41 (by decide +kernel) ?_
      exact hret _ (_, _, _, _, _, _, _, _, _, _, _, _, _, _, _, _, _, _, _, _) _ ls _ _ _ _ (by refine ⟨?_, ⟨⟨rfl, rfl⟩, ⟨rfl, rfl⟩, htk, hI, hJ, ⟨_, _, hM⟩, ⟨_, hX⟩⟩⟩; first | exact (spNext_f (Or.inl n_8)).symm | exact (spNext_f (Or.inr (Or.inl n_15))).symm | exact (spNext_f (Or.inr (Or.inr (Or.inl (inQ_l c_20))))).symm | exact (spNext_f (Or.inr (Or.inr (Or.inl (in255_r c_27))))).symm | exact (spNext_f (Or.inr (Or.inr (Or.inr (inB_l c_32))))).symm | exact (spNext_f (Or.inr (Or.inr (Or.inr (in2_f c_38))))).symm) (by first | rfl | exact nar_b2i _) hG (Nat.le_of_ble_eq_true rfl) (Nat.le_of_ble_eq_true rfl) dX11_next_42
    · --
      have n_15 : (inB 10 f) = true := b2i_nz.mp c_15
      refine lv_iload_n hF.1 hF.2.1 dX11_next_18 rfl (lv_at hl 3 rfl) ?_
      refine lv_iconst (v := (nI 1)) hF.1 hF.2.1 dX11_next_19 (by decide +kernel) ?_
      refine lv_icmp_lt (tgt := 41) hF.1 hF.2.1 dX11_next_20 (by decide) (fun c_20 => ?_) (fun c_20 => ?_)
      · --
        refine lv_iconst (v := (-1)) hF.1 hF.2.1 dX11_next_41 (by decide +kernel) ?_
        exact hret _ (_, _, _, _, _, _, _, _, _, _, _, _, _, _, _, _, _, _, _, _) _ ls _ _ _ _ (by refine ⟨?_, ⟨⟨rfl, rfl⟩, ⟨rfl, rfl⟩, htk, hI, hJ, ⟨_, _, hM⟩, ⟨_, hX⟩⟩⟩; first | exact (spNext_f (Or.inl n_8)).symm | exact (spNext_f (Or.inr (Or.inl n_15))).symm | exact (spNext_f (Or.inr (Or.inr (Or.inl (inQ_l c_20))))).symm | exact (spNext_f (Or.inr (Or.inr (Or.inl (in255_r c_27))))).symm | exact (spNext_f (Or.inr (Or.inr (Or.inr (inB_l c_32))))).symm | exact (spNext_f (Or.inr (Or.inr (Or.inr (in2_f c_38))))).symm) (by first | rfl | exact nar_b2i _) hG (Nat.le_of_ble_eq_true rfl) (Nat.le_of_ble_eq_true rfl) dX11_next_42
      · --
        refine lv_iload_n hF.1 hF.2.1 dX11_next_23 rfl (lv_at hl 3 rfl) ?_
        refine lv_sipush (v := (nI 256)) hF.1 hF.2.1 dX11_next_24 (by decide +kernel) ?_
        refine lv_icmp_ge (tgt := 41) hF.1 hF.2.1 dX11_next_27 (by decide) (fun c_27 => ?_) (fun c_27 => ?_)
        · --
          refine lv_iconst (v := (-1)) hF.1 hF.2.1 dX11_next_41 (by decide +kernel) ?_
          exact hret _ (_, _, _, _, _, _, _, _, _, _, _, _, _, _, _, _, _, _, _, _) _ ls _ _ _ _ (by refine ⟨?_, ⟨⟨rfl, rfl⟩, ⟨rfl, rfl⟩, htk, hI, hJ, ⟨_, _, hM⟩, ⟨_, hX⟩⟩⟩; first | exact (spNext_f (Or.inl n_8)).symm | exact (spNext_f (Or.inr (Or.inl n_15))).symm | exact (spNext_f (Or.inr (Or.inr (Or.inl (inQ_l c_20))))).symm | exact (spNext_f (Or.inr (Or.inr (Or.inl (in255_r c_27))))).symm | exact (spNext_f (Or.inr (Or.inr (Or.inr (inB_l c_32))))).symm | exact (spNext_f (Or.inr (Or.inr (Or.inr (in2_f c_38))))).symm) (by first | rfl | exact nar_b2i _) hG (Nat.le_of_ble_eq_true rfl) (Nat.le_of_ble_eq_true rfl) dX11_next_42
        · --
          have hkq := in255 c_20 c_27
          refine lv_iload hF.1 hF.2.1 dX11_next_30 (lv_at hl 4 rfl) ?_
          refine lv_if_lt (tgt := 41) hF.1 hF.2.1 dX11_next_32 (by decide) (fun c_32 => ?_) (fun c_32 => ?_)
          · --
            refine lv_iconst (v := (-1)) hF.1 hF.2.1 dX11_next_41 (by decide +kernel) ?_
            exact hret _ (_, _, _, _, _, _, _, _, _, _, _, _, _, _, _, _, _, _, _, _) _ ls _ _ _ _ (by refine ⟨?_, ⟨⟨rfl, rfl⟩, ⟨rfl, rfl⟩, htk, hI, hJ, ⟨_, _, hM⟩, ⟨_, hX⟩⟩⟩; first | exact (spNext_f (Or.inl n_8)).symm | exact (spNext_f (Or.inr (Or.inl n_15))).symm | exact (spNext_f (Or.inr (Or.inr (Or.inl (inQ_l c_20))))).symm | exact (spNext_f (Or.inr (Or.inr (Or.inl (in255_r c_27))))).symm | exact (spNext_f (Or.inr (Or.inr (Or.inr (inB_l c_32))))).symm | exact (spNext_f (Or.inr (Or.inr (Or.inr (in2_f c_38))))).symm) (by first | rfl | exact nar_b2i _) hG (Nat.le_of_ble_eq_true rfl) (Nat.le_of_ble_eq_true rfl) dX11_next_42
          · --
            refine lv_iload hF.1 hF.2.1 dX11_next_35 (lv_at hl 4 rfl) ?_
            refine lv_iconst (v := (nI 1)) hF.1 hF.2.1 dX11_next_37 (by decide +kernel) ?_
            refine lv_icmp_le (tgt := 43) hF.1 hF.2.1 dX11_next_38 (by decide) (fun c_38 => ?_) (fun c_38 => ?_)
            · --
              have hw2 := in2_t c_32 c_38
              obtain ⟨i, hi, rfl⟩ := inB_ex (by omega) n_8
              obtain ⟨g, hg, rfl⟩ := inB_ex (by omega) n_15
              obtain ⟨K, hK0, hKu, rfl⟩ := inQ_ex (by omega) (by omega) hkq
              refine lv_aload_n hF.1 hF.2.1 dX11_next_43 rfl (lv_at hl 0 rfl) ?_
              refine lv_iload_n hF.1 hF.2.1 dX11_next_44 rfl (lv_at hl 1 rfl) ?_
              refine lv_iload_n hF.1 hF.2.1 dX11_next_45 rfl (lv_at hl 2 rfl) ?_
              refine lv_iload_n hF.1 hF.2.1 dX11_next_46 rfl (lv_at hl 3 rfl) ?_
              refine k_cv (r_V (As := [.int (nI i), .int (nI g), .int (nI K)]) hF hK hA hG (c_X11_countThoseThatMay (show i < 6 by omega) hg (show K < 256 by omega)) (cwV 3 hF.2.2.2.2 gX11_next_X11_countThoseThatMay rfl rfl rfl (by decide +kernel) ⟨Nat.le_of_ble_eq_true rfl, Nat.le_of_ble_eq_true rfl⟩) 6 rfl rfl rfl rfl hl.1 rfl (lv_room (Nat.le_of_ble_eq_true rfl)) dX11_next_47 ⟨Nat.le_of_ble_eq_true rfl, Nat.le_of_ble_eq_true rfl⟩) hG (fun u_47 H locs hp_47 hG => ?_)
              have hG : Gd D A (XW cA ob mb ss sh sp mt rc n o dr n1 o1 dr1 n2 o2 dr2 dk rk u_47.1 tk (pool ++ u_47.2)) s.heap H locs := hG
              refine lv_iload_n hF.1 hF.2.1 dX11_next_50 rfl (lv_at hl 3 rfl) ?_
              refine k_ci (r_S (As := [.int (nI K)]) hF hK hA hG (c_J6_bitCount_0f7a4 (show K < 256 by omega)) (va_cwS 1 hF.2.2.2.2 gX11_next_J6_bitCount_0f7a4 rfl rfl rfl (by decide +kernel) ⟨Nat.le_of_ble_eq_true rfl, Nat.le_of_ble_eq_true rfl⟩) rfl hl.1 rfl (lv_room (Nat.le_of_ble_eq_true rfl)) dX11_next_51 ⟨Nat.le_of_ble_eq_true rfl, Nat.le_of_ble_eq_true rfl⟩) hG (fun r_51 u_51 H locs hp_51 hG => ?_)
              subst hp_51
              refine lv_istore (lv' := [(5, .int (nI (cnt K))), (0, .ref (ob 6)), (1, .int (nI i)), (2, .int (nI g)), (3, .int (nI K)), (4, .int what)]) hF.1 hF.2.1 dX11_next_54 hl (by decide) rfl (fun ls hl => ?_)
              refine lv_iconst (v := (nI 0)) hF.1 hF.2.1 dX11_next_56 (by decide +kernel) ?_
              refine lv_istore (lv' := [(6, .int (nI 0)), (5, .int (nI (cnt K))), (0, .ref (ob 6)), (1, .int (nI i)), (2, .int (nI g)), (3, .int (nI K)), (4, .int what)]) hF.1 hF.2.1 dX11_next_57 hl (by decide) rfl (fun ls hl => ?_)
              refine lv_iload hF.1 hF.2.1 dX11_next_59 (lv_at hl 1 rfl) ?_
              refine lv_iconst (v := (nI 1)) hF.1 hF.2.1 dX11_next_61 (by decide +kernel) ?_
              refine lv_iadd hF.1 hF.2.1 dX11_next_62 ?_
              rw [nI_add]
              refine lv_istore (lv' := [(7, .int (nI (cnt K + 1))), (6, .int (nI 0)), (5, .int (nI (cnt K))), (0, .ref (ob 6)), (1, .int (nI i)), (2, .int (nI g)), (3, .int (nI K)), (4, .int what)]) hF.1 hF.2.1 dX11_next_63 hl (by decide) rfl (fun ls hl => ?_)
              refine lv_iconst (v := (nI 0)) hF.1 hF.2.1 dX11_next_65 (by decide +kernel) ?_
              refine lv_istore (lv' := [(8, .int (nI 0)), (7, .int (nI (cnt K + 1))), (6, .int (nI 0)), (5, .int (nI (cnt K))), (0, .ref (ob 6)), (1, .int (nI i)), (2, .int (nI g)), (3, .int (nI K)), (4, .int what)]) hF.1 hF.2.1 dX11_next_66 hl (by decide) rfl (fun ls hl => ?_)
              have lp68 : ∀ (fuel : Nat), ∀ (k : Nat), (hk : k ≤ 2 ^ n) → (2 ^ n - k) < fuel → ∀ (H : Heap) (locs : List Loc), Gd D A (XW cA ob mb ss sh sp mt rc n o dr n1 o1 dr1 n2 o2 dr2 dk rk u_47.1 tk (pool ++ u_47.2)) s.heap H locs → ∀ ls : Array Slot, lv_has ls 10 [(0, .ref (ob 6)), (1, .int (nI i)), (2, .int (nI g)), (3, .int (nI K)), (4, .int what), (5, .int (nI (cnt K))), (6, .int (nI ((nxM (nxP K g i) (cnt K + 1) k).1))), (7, .int (nI ((nxM (nxP K g i) (cnt K + 1) k).2))), (8, .int (nI k))] → W p l e rmX11_next s m args below meth c H locs (8) (8) Q (F0 m 68 ls []) := by
                intro fuel
                induction fuel with
                | zero => intro k hk hmu; exact absurd hmu (Nat.not_lt_zero _)
                | succ fuel ih68 =>
                  intro k hk hmu H locs hG ls hl
                  refine lv_iload hF.1 hF.2.1 dX11_next_68 (lv_at hl 8 rfl) ?_
                  refine lv_aload_n hF.1 hF.2.1 dX11_next_70 rfl (lv_at hl 0 rfl) ?_
                  refine k_get (C := RX11) (T := TX11) (N := 8) hF hK hG (fun _ h => List.mem_cons_of_mem _ (List.mem_append_left _ (List.mem_append_left _ (List.mem_append_left _ (List.mem_append_left _ (List.mem_append_left _ (List.mem_append_left _ (List.mem_append_left _ (List.mem_append_left _ (List.mem_append_left _ (List.mem_append_right _ h))))))))))) 6 rfl rfl 0 (by decide) (List.mem_of_getElem? (i := 1) rfl) (fun _ h9 => h9) rfl dX11_next_71 ?_
                  refine k_ci (r_V (As := []) hF hK hA hG (c_X9_allBits (hI.push (l := u_47.2)).w0) (cwV 0 hF.2.2.2.2 gX11_next_X9_allBits rfl rfl rfl (by decide +kernel) ⟨Nat.le_of_ble_eq_true rfl, Nat.le_of_ble_eq_true rfl⟩) 7 rfl rfl rfl rfl hl.1 rfl (lv_room (Nat.le_of_ble_eq_true rfl)) dX11_next_74 ⟨Nat.le_of_ble_eq_true rfl, Nat.le_of_ble_eq_true rfl⟩) hG (fun r_74 u_74 H locs hp_74 hG => ?_)
                  subst hp_74
                  refine lv_icmp_gt (tgt := 130) hF.1 hF.2.1 dX11_next_77 (by decide) (fun c_77 => ?_) (fun c_77 => ?_)
                  · --
                    have n_77 : 2 ^ n - 1 < k := (nI_ltI (a := 2 ^ n - 1) (b := k) (by omega) (by omega)).mp c_77
                    refine lv_iload hF.1 hF.2.1 dX11_next_130 (lv_at hl 4 rfl) ?_
                    refine lv_if_ne (tgt := 140) hF.1 hF.2.1 dX11_next_132 (by decide) (fun c_132 => ?_) (fun c_132 => ?_)
                    · --
                      replace c_132 : ¬ what = nI 0 := c_132
                      refine lv_iload hF.1 hF.2.1 dX11_next_140 (lv_at hl 7 rfl) ?_
                      exact hret _ (_, _, _, _, _, _, _, _, _, _, _, _, _, _, _, _, _, _, _, _) _ ls _ _ _ _ (by refine ⟨?_, ⟨⟨rfl, rfl⟩, ⟨rfl, rfl⟩, htk, hI.push, hJ.push, ⟨_, _, hM.push⟩, ⟨_, hX.push⟩⟩⟩; obtain rfl : k = 2 ^ n := (by omega); rw [spNext_t hn hi hg hK0 hKu hw2]; unfold runI; first | rw [if_pos c_132] | rw [if_neg c_132]) (by first | rfl | exact nar_b2i _) hG (Nat.le_of_ble_eq_true rfl) (Nat.le_of_ble_eq_true rfl) dX11_next_142
                    · --
                      replace c_132 : what = nI 0 := c_132
                      refine lv_iload hF.1 hF.2.1 dX11_next_135 (lv_at hl 6 rfl) ?_
                      refine lv_goto (tgt := 142) hF.1 hF.2.1 dX11_next_137 (by decide) ?_
                      exact hret _ (_, _, _, _, _, _, _, _, _, _, _, _, _, _, _, _, _, _, _, _) _ ls _ _ _ _ (by refine ⟨?_, ⟨⟨rfl, rfl⟩, ⟨rfl, rfl⟩, htk, hI.push, hJ.push, ⟨_, _, hM.push⟩, ⟨_, hX.push⟩⟩⟩; obtain rfl : k = 2 ^ n := (by omega); rw [spNext_t hn hi hg hK0 hKu hw2]; unfold runI; first | rw [if_pos c_132] | rw [if_neg c_132]) (by first | rfl | exact nar_b2i _) hG (Nat.le_of_ble_eq_true rfl) (Nat.le_of_ble_eq_true rfl) dX11_next_142
                  · --
                    have n_77 : ¬ (2 ^ n - 1 < k) := fun zz9 => c_77 ((nI_ltI (a := 2 ^ n - 1) (b := k) (by omega) (by omega)).mpr zz9)
                    refine lv_iload hF.1 hF.2.1 dX11_next_80 (lv_at hl 8 rfl) ?_
                    refine lv_bipush (v := (nI 64)) hF.1 hF.2.1 dX11_next_82 (by decide +kernel) ?_
                    refine lv_icmp_ge (tgt := 130) hF.1 hF.2.1 dX11_next_84 (by decide) (fun c_84 => ?_) (fun c_84 => ?_)
                    · --
                      have n_84 : 64 ≤ k := (nI_leI (a := 64) (b := k) (by omega) (by omega)).mp c_84
                      exact absurd n_84 (by omega)
                    · --
                      have n_84 : ¬ (64 ≤ k) := fun zz9 => c_84 ((nI_leI (a := 64) (b := k) (by omega) (by omega)).mpr zz9)
                      have hb1 := nxP_le (K := K) (g := g) (i := i) (st := k)
                      have hb2 := nxM_le (P := nxP K g i) (B := cnt K + 1) k
                      have hb3 := cnt_8 (v := K) (by omega)
                      refine lv_aload_n hF.1 hF.2.1 dX11_next_87 rfl (lv_at hl 0 rfl) ?_
                      refine k_get (C := RX11) (T := TX11) (N := 8) hF hK hG (fun _ h => List.mem_cons_of_mem _ (List.mem_append_left _ (List.mem_append_left _ (List.mem_append_left _ (List.mem_append_left _ (List.mem_append_left _ (List.mem_append_left _ (List.mem_append_left _ (List.mem_append_left _ (List.mem_append_left _ (List.mem_append_right _ h))))))))))) 6 rfl rfl 6 (by decide) (List.mem_of_getElem? (i := 2) rfl) (fun _ h9 => h9) rfl dX11_next_88 ?_
                      refine lv_iload hF.1 hF.2.1 dX11_next_91 (lv_at hl 8 rfl) ?_
                      refine k_ialdN hF hK hG 15 rfl (k) rfl (by omega) (by omega) dX11_next_93 ?_
                      rw [hp_47 k (by omega)]
                      refine lv_iload hF.1 hF.2.1 dX11_next_94 (lv_at hl 5 rfl) ?_
                      refine lv_aload_n hF.1 hF.2.1 dX11_next_96 rfl (lv_at hl 0 rfl) ?_
                      refine k_get (C := RX11) (T := TX11) (N := 8) hF hK hG (fun _ h => List.mem_cons_of_mem _ (List.mem_append_left _ (List.mem_append_left _ (List.mem_append_left _ (List.mem_append_left _ (List.mem_append_left _ (List.mem_append_left _ (List.mem_append_left _ (List.mem_append_left _ (List.mem_append_left _ (List.mem_append_right _ h))))))))))) 6 rfl rfl 6 (by decide) (List.mem_of_getElem? (i := 2) rfl) (fun _ h9 => h9) rfl dX11_next_97 ?_
                      refine lv_iload hF.1 hF.2.1 dX11_next_100 (lv_at hl 8 rfl) ?_
                      refine k_ialdN hF hK hG 15 rfl (k) rfl (by omega) (by omega) dX11_next_102 ?_
                      rw [hp_47 k (by omega)]
                      refine lv_isub hF.1 hF.2.1 dX11_next_103 ?_
                      rw [pk_sub nxC_8]
                      refine va_mmax hF.1 hF.2.1 (hF.2.2.1.trans hl.1.symm) hF.2.2.2.1 (hF.2.2.2.2 _ (List.mem_of_getElem? (i := 3) rfl)) (hF.2.2.2.2 _ (List.mem_of_getElem? (i := 4) rfl)) (hF.2.2.2.2 _ (List.mem_of_getElem? (i := 5) rfl)) (hF.2.2.2.2 _ (List.mem_of_getElem? (i := 6) rfl)) (Nat.le_of_ble_eq_true rfl) (Nat.le_of_ble_eq_true rfl) (Nat.le_of_ble_eq_true rfl) (Nat.le_of_ble_eq_true rfl) dX11_next_104 ?_
                      rw [mx_nxP (show K < 256 by omega)]
                      refine lv_istore (lv' := [(9, .int (nI (nxP K g i k))), (0, .ref (ob 6)), (1, .int (nI i)), (2, .int (nI g)), (3, .int (nI K)), (4, .int what), (5, .int (nI (cnt K))), (6, .int (nI ((nxM (nxP K g i) (cnt K + 1) k).1))), (7, .int (nI ((nxM (nxP K g i) (cnt K + 1) k).2))), (8, .int (nI k))]) hF.1 hF.2.1 dX11_next_107 hl (by decide) rfl (fun ls hl => ?_)
                      refine lv_iload hF.1 hF.2.1 dX11_next_109 (lv_at hl 0 rfl) ?_
                      refine lv_iload hF.1 hF.2.1 dX11_next_111 (lv_at hl 8 rfl) ?_
                      refine lv_icmp_ge (tgt := 124) hF.1 hF.2.1 dX11_next_113 (by decide) (fun c_113 => ?_) (fun c_113 => ?_)
                      · --
                        have n_113 : (nxM (nxP K g i) (cnt K + 1) k).2 ≤ nxP K g i k := (nI_leI (a := (nxM (nxP K g i) (cnt K + 1) k).2) (b := nxP K g i k) (by omega) (by omega)).mp c_113
                        have hq := nxM_f (P := nxP K g i) (B := cnt K + 1) (k := k) (by omega)
                        refine lv_iinc (v := (nI (k + 1))) (lv' := [(8, .int (nI (k + 1))), (9, .int (nI (nxP K g i k))), (0, .ref (ob 6)), (1, .int (nI i)), (2, .int (nI g)), (3, .int (nI K)), (4, .int what), (5, .int (nI (cnt K))), (6, .int (nI ((nxM (nxP K g i) (cnt K + 1) k).1))), (7, .int (nI ((nxM (nxP K g i) (cnt K + 1) k).2)))]) hF.1 hF.2.1 dX11_next_124 hl (k := 9) rfl (nI_inc _ _) (by decide) rfl (fun ls hl => ?_)
                        refine lv_goto (tgt := 68) hF.1 hF.2.1 dX11_next_127 (by decide) ?_
                        exact ih68 (k + 1) (by omega) (by omega) _ _ hG ls (lv_sub hl [2, 3, 4, 5, 6, 7, 8, 9, 0] (by rw [hq]; rfl))
                      · --
                        have n_113 : ¬ ((nxM (nxP K g i) (cnt K + 1) k).2 ≤ nxP K g i k) := fun zz9 => c_113 ((nI_leI (a := (nxM (nxP K g i) (cnt K + 1) k).2) (b := nxP K g i k) (by omega) (by omega)).mpr zz9)
                        have hq := nxM_t (P := nxP K g i) (B := cnt K + 1) (k := k) (by omega)
                        refine lv_iload hF.1 hF.2.1 dX11_next_116 (lv_at hl 0 rfl) ?_
                        refine lv_istore (lv' := [(7, .int (nI (nxP K g i k))), (9, .int (nI (nxP K g i k))), (0, .ref (ob 6)), (1, .int (nI i)), (2, .int (nI g)), (3, .int (nI K)), (4, .int what), (5, .int (nI (cnt K))), (6, .int (nI ((nxM (nxP K g i) (cnt K + 1) k).1))), (8, .int (nI k))]) hF.1 hF.2.1 dX11_next_118 hl (by decide) rfl (fun ls hl => ?_)
                        refine lv_iload hF.1 hF.2.1 dX11_next_120 (lv_at hl 9 rfl) ?_
                        refine lv_istore (lv' := [(6, .int (nI k)), (7, .int (nI (nxP K g i k))), (9, .int (nI (nxP K g i k))), (0, .ref (ob 6)), (1, .int (nI i)), (2, .int (nI g)), (3, .int (nI K)), (4, .int what), (5, .int (nI (cnt K))), (8, .int (nI k))]) hF.1 hF.2.1 dX11_next_122 hl (by decide) rfl (fun ls hl => ?_)
                        refine lv_iinc (v := (nI (k + 1))) (lv' := [(8, .int (nI (k + 1))), (6, .int (nI k)), (7, .int (nI (nxP K g i k))), (9, .int (nI (nxP K g i k))), (0, .ref (ob 6)), (1, .int (nI i)), (2, .int (nI g)), (3, .int (nI K)), (4, .int what), (5, .int (nI (cnt K)))]) hF.1 hF.2.1 dX11_next_124 hl (k := 9) rfl (nI_inc _ _) (by decide) rfl (fun ls hl => ?_)
                        refine lv_goto (tgt := 68) hF.1 hF.2.1 dX11_next_127 (by decide) ?_
                        exact ih68 (k + 1) (by omega) (by omega) _ _ hG ls (lv_sub hl [4, 5, 6, 7, 8, 9, 1, 2, 0] (by rw [hq]; rfl))
              exact lp68 _ (0) (by omega) (Nat.lt_succ_self _) _ _ hG ls (lv_sub hl [4, 5, 6, 7, 8, 3, 2, 1, 0] rfl)
            · --
              refine lv_iconst (v := (-1)) hF.1 hF.2.1 dX11_next_41 (by decide +kernel) ?_
              exact hret _ (_, _, _, _, _, _, _, _, _, _, _, _, _, _, _, _, _, _, _, _) _ ls _ _ _ _ (by refine ⟨?_, ⟨⟨rfl, rfl⟩, ⟨rfl, rfl⟩, htk, hI, hJ, ⟨_, _, hM⟩, ⟨_, hX⟩⟩⟩; first | exact (spNext_f (Or.inl n_8)).symm | exact (spNext_f (Or.inr (Or.inl n_15))).symm | exact (spNext_f (Or.inr (Or.inr (Or.inl (inQ_l c_20))))).symm | exact (spNext_f (Or.inr (Or.inr (Or.inl (in255_r c_27))))).symm | exact (spNext_f (Or.inr (Or.inr (Or.inr (inB_l c_32))))).symm | exact (spNext_f (Or.inr (Or.inr (Or.inr (in2_f c_38))))).symm) (by first | rfl | exact nar_b2i _) hG (Nat.le_of_ble_eq_true rfl) (Nat.le_of_ble_eq_true rfl) dX11_next_42
