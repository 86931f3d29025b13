abbrev rmX12_findsPulls : Room := { frames := 2, cells := 0, slots := 0, locals := 46 }
set_option maxHeartbeats 4000000 in
set_option maxRecDepth 100000 in
theorem c_X12_findsPulls {l : Launch} {D : va_G} {cA : Nat → ClassId} {A : Nat → Prop}  {ob : Nat → Nat} {aS aI aR aM aK aT aZ aE aD aF aN aP aH : Nat → Int32} {vH vT vP vB vE vS : Int32} {n o : Nat} {kd fg : Nat → Nat} (hS : SR aS n o kd fg) {st : Nat} (hst : st < 2 ^ n) : Met l yX12_findsPulls wsX12_findsPulls rmX12_findsPulls (va_Pc [.ref (ob 0), .int (nI st)] (Pre D cA A (MW cA ob aS aI aR aM aK aT aZ aE aD aF aN aP aH vH vT vP vB vE vS))) (va_Qv (fun (u : Nat → Int32) => ∀ z, z < 2 ^ n → IsW (ER n (edW n kd fg)) st (fun b => b = z) (u z)) (fun u t => Wd D A ((fun (u : Nat → Int32) => MW cA ob aS aI aR aM aK aT aZ aE aD aF aN u aH vH vT vP vB vE vS) u) t) A) (0) (0) A := by
  refine k_ofv (S := Nat → Int32) (F := fun (u : Nat → Int32) => MW cA ob aS aI aR aM aK aT aZ aE aD aF aN u aH vH vT vP vB vE vS) (cc := cX12_findsPulls) (maxL := 6) (by decide) rfl (Nat.le_of_ble_eq_true rfl) ?_
  intro p e s m args below meth c Q hF hini hK hA hG hret ls hl
  have hl : lv_has ls 6 [(0, .ref (ob 0)), (1, .int (nI st))] := hl
  have hn : n ≤ 6 := hS.2.2.1
  have ho : o < 64 := hS.o64
  have hp2 : 2 ^ n ≤ 64 := Nat.pow_le_pow_right (by decide) hn
  refine lv_iconst (v := (nI 0)) hF.1 hF.2.1 dX12_findsPulls_0 (by decide +kernel) ?_
  refine lv_istore_n (lv' := [(2, .int (nI 0)), (0, .ref (ob 0)), (1, .int (nI st))]) hF.1 hF.2.1 dX12_findsPulls_1 rfl hl (by decide) rfl (fun ls hl => ?_)
  have lp2 : ∀ (fuel : Nat), ∀ (j : Nat) (aP : Nat → Int32), (hj : j ≤ 64) → (hz : ∀ z, z < j → aP z = if z = st then nI 0 else -4) → (64 - j) < fuel → ∀ (H : Heap) (locs : List Loc), Gd D A (MW cA ob aS aI aR aM aK aT aZ aE aD aF aN aP aH vH vT vP vB vE vS) s.heap H locs → ∀ ls : Array Slot, lv_has ls 6 [(0, .ref (ob 0)), (1, .int (nI st)), (2, .int (nI j))] → W p l e rmX12_findsPulls s m args below meth c H locs (0) (0) Q (F0 m 2 ls []) := by
    intro fuel
    induction fuel with
    | zero => intro j aP hj hz hmu; exact absurd hmu (Nat.not_lt_zero _)
    | succ fuel ih2 =>
      intro j aP hj hz hmu H locs hG ls hl
      refine lv_iload_n hF.1 hF.2.1 dX12_findsPulls_2 rfl (lv_at hl 2 rfl) ?_
      refine lv_bipush (v := (nI 64)) hF.1 hF.2.1 dX12_findsPulls_3 (by decide +kernel) ?_
      refine lv_icmp_ge (tgt := 31) hF.1 hF.2.1 dX12_findsPulls_5 (by decide) (fun c_5 => ?_) (fun c_5 => ?_)
      · --
        have n_5 : 64 ≤ j := (nI_leI (a := 64) (b := j) (by omega) (by omega)).mp c_5
        refine lv_iconst (v := (nI 1)) hF.1 hF.2.1 dX12_findsPulls_31 (by decide +kernel) ?_
        refine lv_istore_n (lv' := [(2, .int (nI 1)), (0, .ref (ob 0)), (1, .int (nI st))]) hF.1 hF.2.1 dX12_findsPulls_32 rfl hl (by decide) rfl (fun ls hl => ?_)
        refine lv_iconst (v := (nI 0)) hF.1 hF.2.1 dX12_findsPulls_33 (by decide +kernel) ?_
        refine lv_istore_n (lv' := [(3, .int (nI 0)), (2, .int (nI 1)), (0, .ref (ob 0)), (1, .int (nI st))]) hF.1 hF.2.1 dX12_findsPulls_34 rfl hl (by decide) rfl (fun ls hl => ?_)
        have lp35 : ∀ (fuel : Nat), ∀ (nn : Nat) (mo : Bool) (aP : Nat → Int32), (hR : RI (2 ^ n) n (edW n kd fg) (fun _ => False) st (nn) aP (0) (0)) → (hm : mo = true → nn + cU (2 ^ n) aP < 2 ^ n) → (h0 : ∀ z, z < 2 ^ n → aP z ≠ nI (nn + 1)) → (hd : mo = false → ∀ z, z < 2 ^ n → IsW (ER n (edW n kd fg)) st (fun b => b = z) (aP z)) → (2 * cU (2 ^ n) aP + mo.toNat) < fuel → ∀ (H : Heap) (locs : List Loc), Gd D A (MW cA ob aS aI aR aM aK aT aZ aE aD aF aN aP aH vH vT vP vB vE vS) s.heap H locs → ∀ ls : Array Slot, lv_has ls 6 [(0, .ref (ob 0)), (1, .int (nI st)), (2, .int (b2i (mo))), (3, .int (nI nn))] → W p l e rmX12_findsPulls s m args below meth c H locs (0) (0) Q (F0 m 35 ls []) := by
          intro fuel
          induction fuel with
          | zero => intro nn mo aP hR hm h0 hd hmu; exact absurd hmu (Nat.not_lt_zero _)
          | succ fuel ih35 =>
            intro nn mo aP hR hm h0 hd hmu H locs hG ls hl
            refine lv_iload_n hF.1 hF.2.1 dX12_findsPulls_35 rfl (lv_at hl 2 rfl) ?_
            refine lv_if_eq (tgt := 145) hF.1 hF.2.1 dX12_findsPulls_36 (by decide) (fun c_36 => ?_) (fun c_36 => ?_)
            · --
              have n_36 : (mo) = false := b2i_z.mp c_36
              exact hret aP _ ls _ _ _ _ (by exact hd n_36) hG (Nat.le_of_ble_eq_true rfl) (Nat.le_of_ble_eq_true rfl) dX12_findsPulls_145
            · --
              have n_36 : (mo) = true := b2i_nz.mp c_36
              subst n_36
              have hmm := hm rfl
              refine lv_iconst (v := (nI 0)) hF.1 hF.2.1 dX12_findsPulls_39 (by decide +kernel) ?_
              refine lv_istore_n (lv' := [(2, .int (nI 0)), (0, .ref (ob 0)), (1, .int (nI st)), (3, .int (nI nn))]) hF.1 hF.2.1 dX12_findsPulls_40 rfl hl (by decide) rfl (fun ls hl => ?_)
              refine lv_iconst (v := (nI 0)) hF.1 hF.2.1 dX12_findsPulls_41 (by decide +kernel) ?_
              refine lv_istore (lv' := [(4, .int (nI 0)), (2, .int (nI 0)), (0, .ref (ob 0)), (1, .int (nI st)), (3, .int (nI nn))]) hF.1 hF.2.1 dX12_findsPulls_42 hl (by decide) rfl (fun ls hl => ?_)
              have lp44 : ∀ (fuel : Nat), ∀ (k : Nat) (m2 : Bool) (aQ : Nat → Int32), (hk : k ≤ 2 ^ n) → (hR2 : RI (2 ^ n) n (edW n kd fg) (fun _ => False) st (nn) aQ (k) (0)) → (hs : m2 = false → aQ = aP) → (ht : m2 = true → cU (2 ^ n) aQ < cU (2 ^ n) aP) → (hle : cU (2 ^ n) aQ ≤ cU (2 ^ n) aP) → (2 ^ n - k) < fuel → ∀ (H : Heap) (locs : List Loc), Gd D A (MW cA ob aS aI aR aM aK aT aZ aE aD aF aN aQ aH vH vT vP vB vE vS) s.heap H locs → ∀ ls : Array Slot, lv_has ls 6 [(0, .ref (ob 0)), (1, .int (nI st)), (2, .int (b2i (m2))), (3, .int (nI nn)), (4, .int (nI k))] → W p l e rmX12_findsPulls s m args below meth c H locs (0) (0) Q (F0 m 44 ls []) := by
                intro fuel
                induction fuel with
                | zero => intro k m2 aQ hk hR2 hs ht hle hmu; exact absurd hmu (Nat.not_lt_zero _)
                | succ fuel ih44 =>
                  intro k m2 aQ hk hR2 hs ht hle hmu H locs hG ls hl
                  refine lv_iload hF.1 hF.2.1 dX12_findsPulls_44 (lv_at hl 4 rfl) ?_
                  refine lv_aload_n hF.1 hF.2.1 dX12_findsPulls_46 rfl (lv_at hl 0 rfl) ?_
                  refine k_ci (r_V (As := []) hF hK hA hG (c_X12_everything hS) (cwV 0 hF.2.2.2.2 gX12_findsPulls_X12_everything rfl rfl rfl (by decide +kernel) ⟨Nat.le_of_ble_eq_true rfl, Nat.le_of_ble_eq_true rfl⟩) 0 rfl rfl rfl rfl hl.1 rfl (lv_room (Nat.le_of_ble_eq_true rfl)) dX12_findsPulls_47 ⟨Nat.le_of_ble_eq_true rfl, Nat.le_of_ble_eq_true rfl⟩) hG (fun r_47 u_47 H locs hp_47 hG => ?_)
                  subst hp_47
                  refine lv_icmp_gt (tgt := 139) hF.1 hF.2.1 dX12_findsPulls_50 (by decide) (fun c_50 => ?_) (fun c_50 => ?_)
                  · --
                    have n_50 : 2 ^ n - 1 < k := (nI_ltI (a := 2 ^ n - 1) (b := k) (by omega) (by omega)).mp c_50
                    refine lv_iinc (v := (nI (nn + 1))) (lv' := [(3, .int (nI (nn + 1))), (0, .ref (ob 0)), (1, .int (nI st)), (2, .int (b2i (m2))), (4, .int (nI k))]) hF.1 hF.2.1 dX12_findsPulls_139 hl (k := 3) rfl (nI_inc _ _) (by decide) rfl (fun ls hl => ?_)
                    refine lv_goto (tgt := 35) hF.1 hF.2.1 dX12_findsPulls_142 (by decide) ?_
                    obtain rfl : k = 2 ^ n := by omega
                    exact ih35 (nn + 1) (m2) (aQ) (hR2.ring (by omega) edW_lt hst) (fun h => by have := ht h; omega) (hR2.top (by omega)) (fun h => hR2.all (by omega) edW_lt hst (by rw [hs h]; exact h0)) (by have e1 : true.toNat = 1 := rfl; have e0 : false.toNat = 0 := rfl; cases m2 with | false => omega | true => have q2 := ht rfl; omega) _ _ hG ls (lv_sub hl [1, 2, 3, 0] rfl)
                  · --
                    have n_50 : ¬ (2 ^ n - 1 < k) := fun zz9 => c_50 ((nI_ltI (a := 2 ^ n - 1) (b := k) (by omega) (by omega)).mpr zz9)
                    refine lv_aload_n hF.1 hF.2.1 dX12_findsPulls_53 rfl (lv_at hl 0 rfl) ?_
                    refine k_get (C := RX12) (T := TX12) (N := 19) hF hK hG (fun _ h => List.mem_cons_of_mem _ (List.mem_append_right _ h)) 0 rfl rfl 16 (by decide) (List.mem_of_getElem? (i := 1) rfl) (fun _ h9 => h9) rfl dX12_findsPulls_54 ?_
                    refine lv_iload hF.1 hF.2.1 dX12_findsPulls_57 (lv_at hl 4 rfl) ?_
                    refine k_ialdN hF hK hG 12 rfl (k) rfl (by omega) (by omega) dX12_findsPulls_59 ?_
                    refine lv_iload_n hF.1 hF.2.1 dX12_findsPulls_60 rfl (lv_at hl 3 rfl) ?_
                    refine lv_icmp_eq (tgt := 67) hF.1 hF.2.1 dX12_findsPulls_61 (by decide) (fun c_61 => ?_) (fun c_61 => ?_)
                    · --
                      refine lv_iconst (v := (nI 0)) hF.1 hF.2.1 dX12_findsPulls_67 (by decide +kernel) ?_
                      refine lv_istore (lv' := [(5, .int (nI 0)), (0, .ref (ob 0)), (1, .int (nI st)), (2, .int (b2i (m2))), (3, .int (nI nn)), (4, .int (nI k))]) hF.1 hF.2.1 dX12_findsPulls_68 hl (by decide) rfl (fun ls hl => ?_)
                      have lp70 : ∀ (fuel : Nat), ∀ (i : Nat) (m3 : Bool) (aU : Nat → Int32), (hi : i ≤ n) → (hR3 : RI (2 ^ n) n (edW n kd fg) (fun _ => False) st (nn) aU (k) (i)) → (hPk : aU k = nI nn) → (hs3 : m3 = false → aU = aP) → (ht3 : m3 = true → cU (2 ^ n) aU < cU (2 ^ n) aP) → (hle3 : cU (2 ^ n) aU ≤ cU (2 ^ n) aP) → (n - i) < fuel → ∀ (H : Heap) (locs : List Loc), Gd D A (MW cA ob aS aI aR aM aK aT aZ aE aD aF aN aU aH vH vT vP vB vE vS) s.heap H locs → ∀ ls : Array Slot, lv_has ls 6 [(0, .ref (ob 0)), (1, .int (nI st)), (2, .int (b2i (m3))), (3, .int (nI nn)), (4, .int (nI k)), (5, .int (nI i))] → W p l e rmX12_findsPulls s m args below meth c H locs (0) (0) Q (F0 m 70 ls []) := by
                        intro fuel
                        induction fuel with
                        | zero => intro i m3 aU hi hR3 hPk hs3 ht3 hle3 hmu; exact absurd hmu (Nat.not_lt_zero _)
                        | succ fuel ih70 =>
                          intro i m3 aU hi hR3 hPk hs3 ht3 hle3 hmu H locs hG ls hl
                          refine lv_iload hF.1 hF.2.1 dX12_findsPulls_70 (lv_at hl 5 rfl) ?_
                          refine lv_aload_n hF.1 hF.2.1 dX12_findsPulls_72 rfl (lv_at hl 0 rfl) ?_
                          refine k_get (C := RX12) (T := TX12) (N := 19) hF hK hG (fun _ h => List.mem_cons_of_mem _ (List.mem_append_right _ h)) 0 rfl rfl 0 (by decide) (List.mem_of_getElem? (i := 2) rfl) (fun _ h9 => h9) rfl dX12_findsPulls_73 ?_
                          refine lv_iconst (v := (nI 0)) hF.1 hF.2.1 dX12_findsPulls_76 (by decide +kernel) ?_
                          refine k_ialdN hF hK hG 1 rfl (0) rfl (by omega) (by omega) dX12_findsPulls_77 ?_
                          rw [hS.1]
                          refine lv_icmp_ge (tgt := 133) hF.1 hF.2.1 dX12_findsPulls_78 (by decide) (fun c_78 => ?_) (fun c_78 => ?_)
                          · --
                            have n_78 : n ≤ i := (nI_leI (a := n) (b := i) (by omega) (by omega)).mp c_78
                            refine lv_iinc (v := (nI (k + 1))) (lv' := [(4, .int (nI (k + 1))), (0, .ref (ob 0)), (1, .int (nI st)), (2, .int (b2i (m3))), (3, .int (nI nn)), (5, .int (nI i))]) hF.1 hF.2.1 dX12_findsPulls_133 hl (k := 4) rfl (nI_inc _ _) (by decide) rfl (fun ls hl => ?_)
                            refine lv_goto (tgt := 44) hF.1 hF.2.1 dX12_findsPulls_136 (by decide) ?_
                            exact ih44 (k + 1) (m3) (aU) (by omega) (by first | exact hR3.next (by omega) (fun h => h) | exact hR2.skip c_61) (by first | exact hs3 | exact hs) (by first | exact ht3 | exact ht) (by first | exact hle3 | exact hle) (by omega) _ _ hG ls (lv_sub hl [1, 2, 3, 4, 0] rfl)
                          · --
                            have n_78 : ¬ (n ≤ i) := fun zz9 => c_78 ((nI_leI (a := n) (b := i) (by omega) (by omega)).mpr zz9)
                            refine lv_aload_n hF.1 hF.2.1 dX12_findsPulls_81 rfl (lv_at hl 0 rfl) ?_
                            refine lv_iload hF.1 hF.2.1 dX12_findsPulls_82 (lv_at hl 5 rfl) ?_
                            refine lv_iload hF.1 hF.2.1 dX12_findsPulls_84 (lv_at hl 4 rfl) ?_
                            refine k_ci (r_V (As := [.int (nI i), .int (nI k)]) hF hK hA hG (c_X12_may hS (by omega) (by omega)) (cwV 2 hF.2.2.2.2 gX12_findsPulls_X12_may rfl rfl rfl (by decide +kernel) ⟨Nat.le_of_ble_eq_true rfl, Nat.le_of_ble_eq_true rfl⟩) 0 rfl rfl rfl rfl hl.1 rfl (lv_room (Nat.le_of_ble_eq_true rfl)) dX12_findsPulls_86 ⟨Nat.le_of_ble_eq_true rfl, Nat.le_of_ble_eq_true rfl⟩) hG (fun r_86 u_86 H locs hp_86 hG => ?_)
                            subst hp_86
                            refine lv_if_eq (tgt := 127) hF.1 hF.2.1 dX12_findsPulls_89 (by decide) (fun c_89 => ?_) (fun c_89 => ?_)
                            · --
                              have n_89 : (mv (kd i) (fg i) i k) = false := b2i_z.mp c_89
                              refine lv_iinc (v := (nI (i + 1))) (lv' := [(5, .int (nI (i + 1))), (0, .ref (ob 0)), (1, .int (nI st)), (2, .int (b2i (m3))), (3, .int (nI nn)), (4, .int (nI k))]) hF.1 hF.2.1 dX12_findsPulls_127 hl (k := 5) rfl (nI_inc _ _) (by decide) rfl (fun ls hl => ?_)
                              refine lv_goto (tgt := 70) hF.1 hF.2.1 dX12_findsPulls_130 (by decide) ?_
                              exact ih70 (i + 1) (m3) (aU) (by omega) (by first | exact hR3.none (edW_f n_89) | exact hR3.put (by omega) (by omega) (by omega) hPk (edW_t n_89) hz4 hx | exact hR3.had (edW_t n_89) (ne4_of c_104)) (by first | exact hPk | (rw [pk_un (fun e => by rw [e, hz4] at hPk; exact nI_ne4 (by omega) hPk.symm)]; exact hPk)) (by first | exact hs3 | exact fun h => by cases h) (by first | exact ht3 | (intro _; have := cU_upd (v := nI (nn + 1)) hz4 (nI_ne4 (by omega)) (2 ^ n) hx; omega)) (by first | exact hle3 | (have := cU_upd (v := nI (nn + 1)) hz4 (nI_ne4 (by omega)) (2 ^ n) hx; omega)) (by omega) _ _ hG ls (lv_sub hl [1, 2, 3, 4, 5, 0] rfl)
                            · --
                              have n_89 : (mv (kd i) (fg i) i k) = true := b2i_nz.mp c_89
                              have hx := xor_ltn (n := n) (o := k) (j := i) (by omega) (by omega)
                              refine lv_aload_n hF.1 hF.2.1 dX12_findsPulls_92 rfl (lv_at hl 0 rfl) ?_
                              refine k_get (C := RX12) (T := TX12) (N := 19) hF hK hG (fun _ h => List.mem_cons_of_mem _ (List.mem_append_right _ h)) 0 rfl rfl 16 (by decide) (List.mem_of_getElem? (i := 1) rfl) (fun _ h9 => h9) rfl dX12_findsPulls_93 ?_
                              refine lv_iload hF.1 hF.2.1 dX12_findsPulls_96 (lv_at hl 4 rfl) ?_
                              refine lv_iconst (v := (nI 1)) hF.1 hF.2.1 dX12_findsPulls_98 (by decide +kernel) ?_
                              refine lv_iload hF.1 hF.2.1 dX12_findsPulls_99 (lv_at hl 5 rfl) ?_
                              refine lv_ishl hF.1 hF.2.1 dX12_findsPulls_101 ?_
                              rw [shl_1 (by omega)]
                              refine lv_ixor hF.1 hF.2.1 dX12_findsPulls_102 ?_
                              rw [nx_xor]
                              refine k_ialdN hF hK hG 12 rfl (k ^^^ 2 ^ i) rfl (by omega) (by omega) dX12_findsPulls_103 ?_
                              refine lv_if_lt (tgt := 110) hF.1 hF.2.1 dX12_findsPulls_104 (by decide) (fun c_104 => ?_) (fun c_104 => ?_)
                              · --
                                have hz4 := hR3.neg (by omega) hx c_104
                                refine lv_aload_n hF.1 hF.2.1 dX12_findsPulls_110 rfl (lv_at hl 0 rfl) ?_
                                refine k_get (C := RX12) (T := TX12) (N := 19) hF hK hG (fun _ h => List.mem_cons_of_mem _ (List.mem_append_right _ h)) 0 rfl rfl 16 (by decide) (List.mem_of_getElem? (i := 1) rfl) (fun _ h9 => h9) rfl dX12_findsPulls_111 ?_
                                refine lv_iload hF.1 hF.2.1 dX12_findsPulls_114 (lv_at hl 4 rfl) ?_
                                refine lv_iconst (v := (nI 1)) hF.1 hF.2.1 dX12_findsPulls_116 (by decide +kernel) ?_
                                refine lv_iload hF.1 hF.2.1 dX12_findsPulls_117 (lv_at hl 5 rfl) ?_
                                refine lv_ishl hF.1 hF.2.1 dX12_findsPulls_119 ?_
                                rw [shl_1 (by omega)]
                                refine lv_ixor hF.1 hF.2.1 dX12_findsPulls_120 ?_
                                rw [nx_xor]
                                refine lv_iload_n hF.1 hF.2.1 dX12_findsPulls_121 rfl (lv_at hl 3 rfl) ?_
                                refine lv_iconst (v := (nI 1)) hF.1 hF.2.1 dX12_findsPulls_122 (by decide +kernel) ?_
                                refine lv_iadd hF.1 hF.2.1 dX12_findsPulls_123 ?_
                                rw [nI_add]
                                refine k_iastN hF hK hG 12 rfl (k ^^^ 2 ^ i) rfl (by omega) (by omega) dX12_findsPulls_124 (fun H locs hG => ?_)
                                refine lv_iconst (v := (nI 1)) hF.1 hF.2.1 dX12_findsPulls_125 (by decide +kernel) ?_
                                refine lv_istore_n (lv' := [(2, .int (nI 1)), (0, .ref (ob 0)), (1, .int (nI st)), (3, .int (nI nn)), (4, .int (nI k)), (5, .int (nI i))]) hF.1 hF.2.1 dX12_findsPulls_126 rfl hl (by decide) rfl (fun ls hl => ?_)
                                refine lv_iinc (v := (nI (i + 1))) (lv' := [(5, .int (nI (i + 1))), (2, .int (nI 1)), (0, .ref (ob 0)), (1, .int (nI st)), (3, .int (nI nn)), (4, .int (nI k))]) hF.1 hF.2.1 dX12_findsPulls_127 hl (k := 5) rfl (nI_inc _ _) (by decide) rfl (fun ls hl => ?_)
                                refine lv_goto (tgt := 70) hF.1 hF.2.1 dX12_findsPulls_130 (by decide) ?_
                                exact ih70 (i + 1) (true) (upd aU (k ^^^ 2 ^ i) (nI (nn + 1))) (by omega) (by first | exact hR3.none (edW_f n_89) | exact hR3.put (by omega) (by omega) (by omega) hPk (edW_t n_89) hz4 hx | exact hR3.had (edW_t n_89) (ne4_of c_104)) (by first | exact hPk | (rw [pk_un (fun e => by rw [e, hz4] at hPk; exact nI_ne4 (by omega) hPk.symm)]; exact hPk)) (by first | exact hs3 | exact fun h => by cases h) (by first | exact ht3 | (intro _; have := cU_upd (v := nI (nn + 1)) hz4 (nI_ne4 (by omega)) (2 ^ n) hx; omega)) (by first | exact hle3 | (have := cU_upd (v := nI (nn + 1)) hz4 (nI_ne4 (by omega)) (2 ^ n) hx; omega)) (by omega) _ _ hG ls (lv_sub hl [2, 3, 1, 4, 5, 0] rfl)
                              · --
                                refine lv_goto (tgt := 127) hF.1 hF.2.1 dX12_findsPulls_107 (by decide) ?_
                                refine lv_iinc (v := (nI (i + 1))) (lv' := [(5, .int (nI (i + 1))), (0, .ref (ob 0)), (1, .int (nI st)), (2, .int (b2i (m3))), (3, .int (nI nn)), (4, .int (nI k))]) hF.1 hF.2.1 dX12_findsPulls_127 hl (k := 5) rfl (nI_inc _ _) (by decide) rfl (fun ls hl => ?_)
                                refine lv_goto (tgt := 70) hF.1 hF.2.1 dX12_findsPulls_130 (by decide) ?_
                                exact ih70 (i + 1) (m3) (aU) (by omega) (by first | exact hR3.none (edW_f n_89) | exact hR3.put (by omega) (by omega) (by omega) hPk (edW_t n_89) hz4 hx | exact hR3.had (edW_t n_89) (ne4_of c_104)) (by first | exact hPk | (rw [pk_un (fun e => by rw [e, hz4] at hPk; exact nI_ne4 (by omega) hPk.symm)]; exact hPk)) (by first | exact hs3 | exact fun h => by cases h) (by first | exact ht3 | (intro _; have := cU_upd (v := nI (nn + 1)) hz4 (nI_ne4 (by omega)) (2 ^ n) hx; omega)) (by first | exact hle3 | (have := cU_upd (v := nI (nn + 1)) hz4 (nI_ne4 (by omega)) (2 ^ n) hx; omega)) (by omega) _ _ hG ls (lv_sub hl [1, 2, 3, 4, 5, 0] rfl)
                      exact lp70 _ (0) (m2) (aQ) (by omega) hR2 c_61 hs ht hle (Nat.lt_succ_self _) _ _ hG ls (lv_sub hl [1, 2, 3, 4, 5, 0] rfl)
                    · --
                      refine lv_goto (tgt := 133) hF.1 hF.2.1 dX12_findsPulls_64 (by decide) ?_
                      refine lv_iinc (v := (nI (k + 1))) (lv' := [(4, .int (nI (k + 1))), (0, .ref (ob 0)), (1, .int (nI st)), (2, .int (b2i (m2))), (3, .int (nI nn))]) hF.1 hF.2.1 dX12_findsPulls_133 hl (k := 4) rfl (nI_inc _ _) (by decide) rfl (fun ls hl => ?_)
                      refine lv_goto (tgt := 44) hF.1 hF.2.1 dX12_findsPulls_136 (by decide) ?_
                      exact ih44 (k + 1) (m2) (aQ) (by omega) (by first | exact hR3.next (by omega) (fun h => h) | exact hR2.skip c_61) (by first | exact hs3 | exact hs) (by first | exact ht3 | exact ht) (by first | exact hle3 | exact hle) (by omega) _ _ hG ls (lv_sub hl [1, 2, 3, 4, 0] rfl)
              exact lp44 _ (0) (false) (aP) (by omega) hR (fun _ => rfl) (fun h => by cases h) (Nat.le_refl _) (Nat.lt_succ_self _) _ _ hG ls (lv_sub hl [2, 3, 1, 4, 0] rfl)
        exact lp35 _ (0) (true) (aP) (RI.start (fun z h => hz z (by omega))) (fun _ => by have := cU_a (K := 2 ^ n) (P := aP) hst (by rw [hz st (by omega), if_pos rfl]); omega) (start_no (fun z h => hz z (by omega))) (fun h => by cases h) (Nat.lt_succ_self _) _ _ hG ls (lv_sub hl [2, 3, 1, 0] rfl)
      · --
        have n_5 : ¬ (64 ≤ j) := fun zz9 => c_5 ((nI_leI (a := 64) (b := j) (by omega) (by omega)).mpr zz9)
        refine lv_aload_n hF.1 hF.2.1 dX12_findsPulls_8 rfl (lv_at hl 0 rfl) ?_
        refine k_get (C := RX12) (T := TX12) (N := 19) hF hK hG (fun _ h => List.mem_cons_of_mem _ (List.mem_append_right _ h)) 0 rfl rfl 16 (by decide) (List.mem_of_getElem? (i := 1) rfl) (fun _ h9 => h9) rfl dX12_findsPulls_9 ?_
        refine lv_iload_n hF.1 hF.2.1 dX12_findsPulls_12 rfl (lv_at hl 2 rfl) ?_
        refine lv_iload_n hF.1 hF.2.1 dX12_findsPulls_13 rfl (lv_at hl 2 rfl) ?_
        refine lv_iload_n hF.1 hF.2.1 dX12_findsPulls_14 rfl (lv_at hl 1 rfl) ?_
        refine lv_icmp_ne (tgt := 22) hF.1 hF.2.1 dX12_findsPulls_15 (by decide) (fun c_15 => ?_) (fun c_15 => ?_)
        · --
          have n_15 : ¬ (j = st) := fun zz9 => c_15 ((nI_eq (a := j) (b := st) (by omega) (by omega)).mpr zz9)
          refine lv_bipush (v := (-4)) hF.1 hF.2.1 dX12_findsPulls_22 (by decide +kernel) ?_
          refine k_iastN hF hK hG 12 rfl (j) rfl (by omega) (by omega) dX12_findsPulls_24 (fun H locs hG => ?_)
          refine lv_iinc (v := (nI (j + 1))) (lv' := [(2, .int (nI (j + 1))), (0, .ref (ob 0)), (1, .int (nI st))]) hF.1 hF.2.1 dX12_findsPulls_25 hl (k := 2) rfl (nI_inc _ _) (by decide) rfl (fun ls hl => ?_)
          refine lv_goto (tgt := 2) hF.1 hF.2.1 dX12_findsPulls_28 (by decide) ?_
          exact ih2 (j + 1) (upd aP j (-4)) (by omega) (lt_s (fun z h => by rw [pk_un (Nat.ne_of_lt h)]; exact hz z h) (by rw [pk_us]; first | rw [if_pos n_15] | rw [if_neg n_15])) (by omega) _ _ hG ls (lv_sub hl [1, 2, 0] rfl)
        · --
          have n_15 : j = st := (nI_eq (a := j) (b := st) (by omega) (by omega)).mp c_15
          refine lv_iconst (v := (nI 0)) hF.1 hF.2.1 dX12_findsPulls_18 (by decide +kernel) ?_
          refine lv_goto (tgt := 24) hF.1 hF.2.1 dX12_findsPulls_19 (by decide) ?_
          refine k_iastN hF hK hG 12 rfl (j) rfl (by omega) (by omega) dX12_findsPulls_24 (fun H locs hG => ?_)
          refine lv_iinc (v := (nI (j + 1))) (lv' := [(2, .int (nI (j + 1))), (0, .ref (ob 0)), (1, .int (nI st))]) hF.1 hF.2.1 dX12_findsPulls_25 hl (k := 2) rfl (nI_inc _ _) (by decide) rfl (fun ls hl => ?_)
          refine lv_goto (tgt := 2) hF.1 hF.2.1 dX12_findsPulls_28 (by decide) ?_
          exact ih2 (j + 1) (upd aP j (nI 0)) (by omega) (lt_s (fun z h => by rw [pk_un (Nat.ne_of_lt h)]; exact hz z h) (by rw [pk_us]; first | rw [if_pos n_15] | rw [if_neg n_15])) (by omega) _ _ hG ls (lv_sub hl [1, 2, 0] rfl)
  exact lp2 _ (0) (aP) (by omega) (fun z h => absurd h (Nat.not_lt_zero z)) (Nat.lt_succ_self _) _ _ hG ls (lv_sub hl [1, 2, 0] rfl)
