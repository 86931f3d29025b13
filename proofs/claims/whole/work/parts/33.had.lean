/-! ===== to have had: pairs of a standing and what has been open ===== -/
def edH (n : Nat) (kd fg : Nat → Nat) (c i : Nat) : Option Nat := if mv (kd i) (fg i) i (c / 64) = true then some (64 * (c / 64 ^^^ 2 ^ i) + (c % 64 ||| (c / 64 ^^^ 2 ^ i))) else none
theorem edH_t {n : Nat} {kd fg : Nat → Nat} {c i : Nat} (h : mv (kd i) (fg i) i (c / 64) = true) : edH n kd fg c i = some (64 * (c / 64 ^^^ 2 ^ i) + (c % 64 ||| (c / 64 ^^^ 2 ^ i))) := by
  unfold edH
  rw [if_pos h]
theorem edH_f {n : Nat} {kd fg : Nat → Nat} {c i : Nat} (h : mv (kd i) (fg i) i (c / 64) = false) : edH n kd fg c i = none := by
  unfold edH
  rw [h]
  rfl
theorem edH_z {n c i : Nat} (hn : n ≤ 6) (hc : c < 4096) (hi : i < n) : 64 * (c / 64 ^^^ 2 ^ i) + (c % 64 ||| (c / 64 ^^^ 2 ^ i)) < 4096 := by
  have h1 : c / 64 ^^^ 2 ^ i < 64 := tog_lt (by omega) (by omega)
  have h2 : c % 64 ||| (c / 64 ^^^ 2 ^ i) < 64 := Nat.or_lt_two_pow (n := 6) (by omega) h1
  omega
theorem edH_lt {n : Nat} {kd fg : Nat → Nat} (hn : n ≤ 6) : ∀ c, c < 4096 → ∀ i, i < n → ∀ z, edH n kd fg c i = some z → z < 4096 := by
  intro c hc i hi z hz
  unfold edH at hz
  split at hz
  · cases hz
    exact edH_z hn hc hi
  · cases hz
theorem Rch.lt {K nd : Nat} {ed : Nat → Nat → Option Nat} (hE : ∀ c, c < K → ∀ i, i < nd → ∀ z, ed c i = some z → z < K) {a : Nat} (ha : a < K) : ∀ m z, Rch (ER nd ed) m a z → z < K := by
  intro m
  induction m with
  | zero => intro z hz; cases hz; exact ha
  | succ m ih =>
    intro z ⟨c, hc, i, hi, he⟩
    exact hE c (ih c hc) i hi z he
/-- r: the fewest pulls to have had the told drawers open -/
def HAD (n o : Nat) (kd fg : Nat → Nat) (told : Nat) (r : Int32) : Prop := IsW (ER n (edH n kd fg)) (64 * o + o) (fun c => c % 64 &&& told = told) r
abbrev rmX12_hadOf : Room := { frames := 2, cells := 0, slots := 0, locals := 46 }
set_option maxHeartbeats 4000000 in
set_option maxRecDepth 100000 in
theorem c_X12_hadOf {l : Launch} {D : va_G} {cA : Nat → ClassId} {A : Nat → Prop}  {ob : Nat → Nat} {aS aI aR aM aK aT aZ aE aD aF aN aP aH : Nat → Int32} {vH vT vP vB vE vS : Int32} {n o : Nat} {kd fg : Nat → Nat} (hS : SR aS n o kd fg) {told : Nat} (ht6 : told < 64) : Met l yX12_hadOf wsX12_hadOf rmX12_hadOf (va_Pc [.ref (ob 0), .int (nI told)] (Pre D cA A (MW cA ob aS aI aR aM aK aT aZ aE aD aF aN aP aH vH vT vP vB vE vS))) (va_Qi (fun r (_ : Nat → Int32) => HAD n o kd fg told r) (fun u t => Wd D A ((fun (u : Nat → Int32) => MW cA ob aS aI aR aM aK aT aZ aE aD aF aN aP u vH vT vP vB vE vS) u) t) A) (0) (0) A := by
  refine k_ofi (S := Nat → Int32) (F := fun (u : Nat → Int32) => MW cA ob aS aI aR aM aK aT aZ aE aD aF aN aP u vH vT vP vB vE vS) (cc := cX12_hadOf) (maxL := 8) (by decide) rfl (Nat.le_of_ble_eq_true rfl) ?_
  intro p e s m args below meth c Q hF hini hK hA hG hret ls hl
  have hl : lv_has ls 8 [(0, .ref (ob 0)), (1, .int (nI told))] := hl
  have hn : n ≤ 6 := hS.2.2.1
  have ho : o < 64 := hS.o64
  have hE := edH_lt (n := n) (kd := kd) (fg := fg) hn
  have ha : 64 * o + o < 4096 := by omega
  refine lv_iconst (v := (nI 0)) hF.1 hF.2.1 dX12_hadOf_0 (by decide +kernel) ?_
  refine lv_istore_n (lv' := [(2, .int (nI 0)), (0, .ref (ob 0)), (1, .int (nI told))]) hF.1 hF.2.1 dX12_hadOf_1 rfl hl (by decide) rfl (fun ls hl => ?_)
  have lp2 : ∀ (fuel : Nat), ∀ (j : Nat) (aH : Nat → Int32), (hj : j ≤ 4096) → (hz : ∀ z, z < j → aH z = -4) → (4096 - j) < fuel → ∀ (H : Heap) (locs : List Loc), Gd D A (MW cA ob aS aI aR aM aK aT aZ aE aD aF aN aP aH vH vT vP vB vE vS) s.heap H locs → ∀ ls : Array Slot, lv_has ls 8 [(0, .ref (ob 0)), (1, .int (nI told)), (2, .int (nI j))] → W p l e rmX12_hadOf s m args below meth c H locs (0) (0) Q (F0 m 2 ls []) := by
    intro fuel
    induction fuel with
    | zero => intro j aH hj hz hmu; exact absurd hmu (Nat.not_lt_zero _)
    | succ fuel ih2 =>
      intro j aH hj hz hmu H locs hG ls hl
      refine lv_iload_n hF.1 hF.2.1 dX12_hadOf_2 rfl (lv_at hl 2 rfl) ?_
      refine lv_sipush (v := (nI 4096)) hF.1 hF.2.1 dX12_hadOf_3 (by decide +kernel) ?_
      refine lv_icmp_ge (tgt := 23) hF.1 hF.2.1 dX12_hadOf_6 (by decide) (fun c_6 => ?_) (fun c_6 => ?_)
      · --
        have n_6 : 4096 ≤ j := (nI_leI (a := 4096) (b := j) (by omega) (by omega)).mp c_6
        refine lv_aload_n hF.1 hF.2.1 dX12_hadOf_23 rfl (lv_at hl 0 rfl) ?_
        refine k_get (C := RX12) (T := TX12) (N := 19) hF hK hG (fun _ h => List.mem_cons_of_mem _ (List.mem_append_right _ h)) 0 rfl rfl 17 (by decide) (List.mem_of_getElem? (i := 1) rfl) (fun _ h9 => h9) rfl dX12_hadOf_24 ?_
        refine lv_bipush (v := (nI 64)) hF.1 hF.2.1 dX12_hadOf_27 (by decide +kernel) ?_
        refine lv_aload_n hF.1 hF.2.1 dX12_hadOf_29 rfl (lv_at hl 0 rfl) ?_
        refine k_get (C := RX12) (T := TX12) (N := 19) hF hK hG (fun _ h => List.mem_cons_of_mem _ (List.mem_append_right _ h)) 0 rfl rfl 0 (by decide) (List.mem_of_getElem? (i := 2) rfl) (fun _ h9 => h9) rfl dX12_hadOf_30 ?_
        refine lv_iconst (v := (nI 1)) hF.1 hF.2.1 dX12_hadOf_33 (by decide +kernel) ?_
        refine k_ialdN hF hK hG 1 rfl (1) rfl (by omega) (by omega) dX12_hadOf_34 ?_
        rw [hS.2.1]
        refine lv_imul hF.1 hF.2.1 dX12_hadOf_35 ?_
        rw [pk_mul]
        refine lv_aload_n hF.1 hF.2.1 dX12_hadOf_36 rfl (lv_at hl 0 rfl) ?_
        refine k_get (C := RX12) (T := TX12) (N := 19) hF hK hG (fun _ h => List.mem_cons_of_mem _ (List.mem_append_right _ h)) 0 rfl rfl 0 (by decide) (List.mem_of_getElem? (i := 2) rfl) (fun _ h9 => h9) rfl dX12_hadOf_37 ?_
        refine lv_iconst (v := (nI 1)) hF.1 hF.2.1 dX12_hadOf_40 (by decide +kernel) ?_
        refine k_ialdN hF hK hG 1 rfl (1) rfl (by omega) (by omega) dX12_hadOf_41 ?_
        rw [hS.2.1]
        refine lv_iadd hF.1 hF.2.1 dX12_hadOf_42 ?_
        rw [nI_add]
        refine lv_iconst (v := (nI 0)) hF.1 hF.2.1 dX12_hadOf_43 (by decide +kernel) ?_
        refine k_iastN hF hK hG 13 rfl ((64) * (o) + o) rfl (by omega) (by omega) dX12_hadOf_44 (fun H locs hG => ?_)
        refine lv_iconst (v := (nI 1)) hF.1 hF.2.1 dX12_hadOf_45 (by decide +kernel) ?_
        refine lv_istore_n (lv' := [(2, .int (nI 1)), (0, .ref (ob 0)), (1, .int (nI told))]) hF.1 hF.2.1 dX12_hadOf_46 rfl hl (by decide) rfl (fun ls hl => ?_)
        refine lv_iconst (v := (nI 0)) hF.1 hF.2.1 dX12_hadOf_47 (by decide +kernel) ?_
        refine lv_istore_n (lv' := [(3, .int (nI 0)), (2, .int (nI 1)), (0, .ref (ob 0)), (1, .int (nI told))]) hF.1 hF.2.1 dX12_hadOf_48 rfl hl (by decide) rfl (fun ls hl => ?_)
        have lp49 : ∀ (fuel : Nat), ∀ (nn : Nat) (mo : Bool) (aH : Nat → Int32), (hR : RI 4096 n (edH n kd fg) (fun c => c % 64 &&& told = told) (64 * o + o) (nn) aH (0) (0)) → (hm : mo = true → nn + cU 4096 aH < 4096) → (h0 : ∀ z, z < 4096 → aH z ≠ nI (nn + 1)) → (hd : mo = false → ∀ m z, Rch (ER n (edH n kd fg)) m (64 * o + o) z → ¬ (z % 64 &&& told = told)) → (2 * cU 4096 aH + mo.toNat) < fuel → ∀ (H : Heap) (locs : List Loc), Gd D A (MW cA ob aS aI aR aM aK aT aZ aE aD aF aN aP aH vH vT vP vB vE vS) s.heap H locs → ∀ ls : Array Slot, lv_has ls 8 [(0, .ref (ob 0)), (1, .int (nI told)), (2, .int (b2i (mo))), (3, .int (nI nn))] → W p l e rmX12_hadOf s m args below meth c H locs (0) (0) Q (F0 m 49 ls []) := by
          intro fuel
          induction fuel with
          | zero => intro nn mo aH hR hm h0 hd hmu; exact absurd hmu (Nat.not_lt_zero _)
          | succ fuel ih49 =>
            intro nn mo aH hR hm h0 hd hmu H locs hG ls hl
            refine lv_iload_n hF.1 hF.2.1 dX12_hadOf_49 rfl (lv_at hl 2 rfl) ?_
            refine lv_if_eq (tgt := 195) hF.1 hF.2.1 dX12_hadOf_50 (by decide) (fun c_50 => ?_) (fun c_50 => ?_)
            · --
              have n_50 : (mo) = false := b2i_z.mp c_50
              refine lv_bipush (v := (-4)) hF.1 hF.2.1 dX12_hadOf_195 (by decide +kernel) ?_
              exact hret _ aH _ ls _ _ _ _ (by exact Or.inl ⟨rfl, hd n_50⟩) (by first | rfl | exact nar_b2i _) hG (Nat.le_of_ble_eq_true rfl) (Nat.le_of_ble_eq_true rfl) dX12_hadOf_197
            · --
              have n_50 : (mo) = true := b2i_nz.mp c_50
              subst n_50
              have hmm := hm rfl
              refine lv_iconst (v := (nI 0)) hF.1 hF.2.1 dX12_hadOf_53 (by decide +kernel) ?_
              refine lv_istore_n (lv' := [(2, .int (nI 0)), (0, .ref (ob 0)), (1, .int (nI told)), (3, .int (nI nn))]) hF.1 hF.2.1 dX12_hadOf_54 rfl hl (by decide) rfl (fun ls hl => ?_)
              refine lv_iconst (v := (nI 0)) hF.1 hF.2.1 dX12_hadOf_55 (by decide +kernel) ?_
              refine lv_istore (lv' := [(4, .int (nI 0)), (2, .int (nI 0)), (0, .ref (ob 0)), (1, .int (nI told)), (3, .int (nI nn))]) hF.1 hF.2.1 dX12_hadOf_56 hl (by decide) rfl (fun ls hl => ?_)
              have lp58 : ∀ (fuel : Nat), ∀ (k : Nat) (m2 : Bool) (aQ : Nat → Int32), (hk : k ≤ 4096) → (hR2 : RI 4096 n (edH n kd fg) (fun c => c % 64 &&& told = told) (64 * o + o) (nn) aQ (k) (0)) → (hs : m2 = false → aQ = aH) → (ht : m2 = true → cU 4096 aQ < cU 4096 aH) → (hle : cU 4096 aQ ≤ cU 4096 aH) → (4096 - k) < fuel → ∀ (H : Heap) (locs : List Loc), Gd D A (MW cA ob aS aI aR aM aK aT aZ aE aD aF aN aP aQ vH vT vP vB vE vS) s.heap H locs → ∀ ls : Array Slot, lv_has ls 8 [(0, .ref (ob 0)), (1, .int (nI told)), (2, .int (b2i (m2))), (3, .int (nI nn)), (4, .int (nI k))] → W p l e rmX12_hadOf s m args below meth c H locs (0) (0) Q (F0 m 58 ls []) := by
                intro fuel
                induction fuel with
                | zero => intro k m2 aQ hk hR2 hs ht hle hmu; exact absurd hmu (Nat.not_lt_zero _)
                | succ fuel ih58 =>
                  intro k m2 aQ hk hR2 hs ht hle hmu H locs hG ls hl
                  refine lv_iload hF.1 hF.2.1 dX12_hadOf_58 (lv_at hl 4 rfl) ?_
                  refine lv_sipush (v := (nI 4096)) hF.1 hF.2.1 dX12_hadOf_60 (by decide +kernel) ?_
                  refine lv_icmp_ge (tgt := 189) hF.1 hF.2.1 dX12_hadOf_63 (by decide) (fun c_63 => ?_) (fun c_63 => ?_)
                  · --
                    have n_63 : 4096 ≤ k := (nI_leI (a := 4096) (b := k) (by omega) (by omega)).mp c_63
                    refine lv_iinc (v := (nI (nn + 1))) (lv' := [(3, .int (nI (nn + 1))), (0, .ref (ob 0)), (1, .int (nI told)), (2, .int (b2i (m2))), (4, .int (nI k))]) hF.1 hF.2.1 dX12_hadOf_189 hl (k := 3) rfl (nI_inc _ _) (by decide) rfl (fun ls hl => ?_)
                    refine lv_goto (tgt := 49) hF.1 hF.2.1 dX12_hadOf_192 (by decide) ?_
                    obtain rfl : k = 4096 := by omega
                    exact ih49 (nn + 1) (m2) (aQ) (hR2.ring (by omega) hE ha) (fun h => by have := ht h; omega) (hR2.top (by omega)) (fun h m z hz => (hR2.done (by omega) hE ha (by rw [hs h]; exact h0) m z hz).2) (by have e1 : true.toNat = 1 := rfl; have e0 : false.toNat = 0 := rfl; cases m2 with | false => omega | true => have q2 := ht rfl; omega) _ _ hG ls (lv_sub hl [1, 2, 3, 0] rfl)
                  · --
                    have n_63 : ¬ (4096 ≤ k) := fun zz9 => c_63 ((nI_leI (a := 4096) (b := k) (by omega) (by omega)).mpr zz9)
                    refine lv_aload_n hF.1 hF.2.1 dX12_hadOf_66 rfl (lv_at hl 0 rfl) ?_
                    refine k_get (C := RX12) (T := TX12) (N := 19) hF hK hG (fun _ h => List.mem_cons_of_mem _ (List.mem_append_right _ h)) 0 rfl rfl 17 (by decide) (List.mem_of_getElem? (i := 1) rfl) (fun _ h9 => h9) rfl dX12_hadOf_67 ?_
                    refine lv_iload hF.1 hF.2.1 dX12_hadOf_70 (lv_at hl 4 rfl) ?_
                    refine k_ialdN hF hK hG 13 rfl (k) rfl (by omega) (by omega) dX12_hadOf_72 ?_
                    refine lv_iload_n hF.1 hF.2.1 dX12_hadOf_73 rfl (lv_at hl 3 rfl) ?_
                    refine lv_icmp_eq (tgt := 80) hF.1 hF.2.1 dX12_hadOf_74 (by decide) (fun c_74 => ?_) (fun c_74 => ?_)
                    · --
                      refine lv_iload hF.1 hF.2.1 dX12_hadOf_80 (lv_at hl 4 rfl) ?_
                      refine lv_bipush (v := (nI 64)) hF.1 hF.2.1 dX12_hadOf_82 (by decide +kernel) ?_
                      refine lv_irem hF.1 hF.2.1 dX12_hadOf_84 (by decide +kernel) ?_
                      rw [pk_rem (by omega) (by decide) (by omega)]
                      refine lv_iload_n hF.1 hF.2.1 dX12_hadOf_85 rfl (lv_at hl 1 rfl) ?_
                      refine lv_iand hF.1 hF.2.1 dX12_hadOf_86 ?_
                      rw [nx_and]
                      refine lv_iload_n hF.1 hF.2.1 dX12_hadOf_87 rfl (lv_at hl 1 rfl) ?_
                      have hal : k % 64 &&& told ≤ told := Nat.and_le_right
                      refine lv_icmp_ne (tgt := 93) hF.1 hF.2.1 dX12_hadOf_88 (by decide) (fun c_88 => ?_) (fun c_88 => ?_)
                      · --
                        have n_88 : ¬ ((k % 64 &&& told) = told) := fun zz9 => c_88 ((nI_eq (a := (k % 64 &&& told)) (b := told) (by omega) (by omega)).mpr zz9)
                        refine lv_iconst (v := (nI 0)) hF.1 hF.2.1 dX12_hadOf_93 (by decide +kernel) ?_
                        refine lv_istore (lv' := [(5, .int (nI 0)), (0, .ref (ob 0)), (1, .int (nI told)), (2, .int (b2i (m2))), (3, .int (nI nn)), (4, .int (nI k))]) hF.1 hF.2.1 dX12_hadOf_94 hl (by decide) rfl (fun ls hl => ?_)
                        have lp96 : ∀ (fuel : Nat), ∀ (i : Nat) (m3 : Bool) (aU : Nat → Int32), (hi : i ≤ n) → (hR3 : RI 4096 n (edH n kd fg) (fun c => c % 64 &&& told = told) (64 * o + o) (nn) aU (k) (i)) → (hPk : aU k = nI nn) → (hs3 : m3 = false → aU = aH) → (ht3 : m3 = true → cU 4096 aU < cU 4096 aH) → (hle3 : cU 4096 aU ≤ cU 4096 aH) → (n - i) < fuel → ∀ (H : Heap) (locs : List Loc), Gd D A (MW cA ob aS aI aR aM aK aT aZ aE aD aF aN aP aU vH vT vP vB vE vS) s.heap H locs → ∀ ls : Array Slot, lv_has ls 8 [(0, .ref (ob 0)), (1, .int (nI told)), (2, .int (b2i (m3))), (3, .int (nI nn)), (4, .int (nI k)), (5, .int (nI i))] → W p l e rmX12_hadOf s m args below meth c H locs (0) (0) Q (F0 m 96 ls []) := by
                          intro fuel
                          induction fuel with
                          | zero => intro i m3 aU hi hR3 hPk hs3 ht3 hle3 hmu; exact absurd hmu (Nat.not_lt_zero _)
                          | succ fuel ih96 =>
                            intro i m3 aU hi hR3 hPk hs3 ht3 hle3 hmu H locs hG ls hl
                            refine lv_iload hF.1 hF.2.1 dX12_hadOf_96 (lv_at hl 5 rfl) ?_
                            refine lv_aload_n hF.1 hF.2.1 dX12_hadOf_98 rfl (lv_at hl 0 rfl) ?_
                            refine k_get (C := RX12) (T := TX12) (N := 19) hF hK hG (fun _ h => List.mem_cons_of_mem _ (List.mem_append_right _ h)) 0 rfl rfl 0 (by decide) (List.mem_of_getElem? (i := 2) rfl) (fun _ h9 => h9) rfl dX12_hadOf_99 ?_
                            refine lv_iconst (v := (nI 0)) hF.1 hF.2.1 dX12_hadOf_102 (by decide +kernel) ?_
                            refine k_ialdN hF hK hG 1 rfl (0) rfl (by omega) (by omega) dX12_hadOf_103 ?_
                            rw [hS.1]
                            refine lv_icmp_ge (tgt := 183) hF.1 hF.2.1 dX12_hadOf_104 (by decide) (fun c_104 => ?_) (fun c_104 => ?_)
                            · --
                              have n_104 : n ≤ i := (nI_leI (a := n) (b := i) (by omega) (by omega)).mp c_104
                              refine lv_iinc (v := (nI (k + 1))) (lv' := [(4, .int (nI (k + 1))), (0, .ref (ob 0)), (1, .int (nI told)), (2, .int (b2i (m3))), (3, .int (nI nn)), (5, .int (nI i))]) hF.1 hF.2.1 dX12_hadOf_183 hl (k := 4) rfl (nI_inc _ _) (by decide) rfl (fun ls hl => ?_)
                              refine lv_goto (tgt := 58) hF.1 hF.2.1 dX12_hadOf_186 (by decide) ?_
                              exact ih58 (k + 1) (m3) (aU) (by omega) (by first | exact hR3.next (by omega) n_88 | exact hR2.skip c_74) (by first | exact hs3 | exact hs) (by first | exact ht3 | exact ht) (by first | exact hle3 | exact hle) (by omega) _ _ hG ls (lv_sub hl [1, 2, 3, 4, 0] rfl)
                            · --
                              have n_104 : ¬ (n ≤ i) := fun zz9 => c_104 ((nI_leI (a := n) (b := i) (by omega) (by omega)).mpr zz9)
                              refine lv_aload_n hF.1 hF.2.1 dX12_hadOf_107 rfl (lv_at hl 0 rfl) ?_
                              refine lv_iload hF.1 hF.2.1 dX12_hadOf_108 (lv_at hl 5 rfl) ?_
                              refine lv_iload hF.1 hF.2.1 dX12_hadOf_110 (lv_at hl 4 rfl) ?_
                              refine lv_bipush (v := (nI 64)) hF.1 hF.2.1 dX12_hadOf_112 (by decide +kernel) ?_
                              refine lv_idiv hF.1 hF.2.1 dX12_hadOf_114 (by decide +kernel) ?_
                              rw [pk_div (by omega) (by decide) (by omega)]
                              refine k_ci (r_V (As := [.int (nI i), .int (nI (k / 64))]) hF hK hA hG (c_X12_may hS (by omega) (by omega)) (cwV 2 hF.2.2.2.2 gX12_hadOf_X12_may rfl rfl rfl (by decide +kernel) ⟨Nat.le_of_ble_eq_true rfl, Nat.le_of_ble_eq_true rfl⟩) 0 rfl rfl rfl rfl hl.1 rfl (lv_room (Nat.le_of_ble_eq_true rfl)) dX12_hadOf_115 ⟨Nat.le_of_ble_eq_true rfl, Nat.le_of_ble_eq_true rfl⟩) hG (fun r_115 u_115 H locs hp_115 hG => ?_)
                              subst hp_115
                              refine lv_if_ne (tgt := 124) hF.1 hF.2.1 dX12_hadOf_118 (by decide) (fun c_118 => ?_) (fun c_118 => ?_)
                              · --
                                have n_118 : (mv (kd i) (fg i) i (k / 64)) = true := b2i_nz.mp c_118
                                refine lv_iload hF.1 hF.2.1 dX12_hadOf_124 (lv_at hl 4 rfl) ?_
                                refine lv_bipush (v := (nI 64)) hF.1 hF.2.1 dX12_hadOf_126 (by decide +kernel) ?_
                                refine lv_idiv hF.1 hF.2.1 dX12_hadOf_128 (by decide +kernel) ?_
                                rw [pk_div (by omega) (by decide) (by omega)]
                                refine lv_iconst (v := (nI 1)) hF.1 hF.2.1 dX12_hadOf_129 (by decide +kernel) ?_
                                refine lv_iload hF.1 hF.2.1 dX12_hadOf_130 (lv_at hl 5 rfl) ?_
                                refine lv_ishl hF.1 hF.2.1 dX12_hadOf_132 ?_
                                rw [shl_1 (by omega)]
                                refine lv_ixor hF.1 hF.2.1 dX12_hadOf_133 ?_
                                rw [nx_xor]
                                refine lv_istore (lv' := [(6, .int (nI (k / 64 ^^^ 2 ^ i))), (0, .ref (ob 0)), (1, .int (nI told)), (2, .int (b2i (m3))), (3, .int (nI nn)), (4, .int (nI k)), (5, .int (nI i))]) hF.1 hF.2.1 dX12_hadOf_134 hl (by decide) rfl (fun ls hl => ?_)
                                refine lv_bipush (v := (nI 64)) hF.1 hF.2.1 dX12_hadOf_136 (by decide +kernel) ?_
                                refine lv_iload hF.1 hF.2.1 dX12_hadOf_138 (lv_at hl 0 rfl) ?_
                                refine lv_imul hF.1 hF.2.1 dX12_hadOf_140 ?_
                                rw [pk_mul]
                                refine lv_iload hF.1 hF.2.1 dX12_hadOf_141 (lv_at hl 5 rfl) ?_
                                refine lv_bipush (v := (nI 64)) hF.1 hF.2.1 dX12_hadOf_143 (by decide +kernel) ?_
                                refine lv_irem hF.1 hF.2.1 dX12_hadOf_145 (by decide +kernel) ?_
                                rw [pk_rem (by omega) (by decide) (by omega)]
                                refine lv_iload hF.1 hF.2.1 dX12_hadOf_146 (lv_at hl 0 rfl) ?_
                                refine lv_ior hF.1 hF.2.1 dX12_hadOf_148 ?_
                                rw [nx_or]
                                refine lv_iadd hF.1 hF.2.1 dX12_hadOf_149 ?_
                                rw [nI_add]
                                refine lv_istore (lv' := [(7, .int (nI ((64) * (k / 64 ^^^ 2 ^ i) + (k % 64 ||| (k / 64 ^^^ 2 ^ i))))), (6, .int (nI (k / 64 ^^^ 2 ^ i))), (0, .ref (ob 0)), (1, .int (nI told)), (2, .int (b2i (m3))), (3, .int (nI nn)), (4, .int (nI k)), (5, .int (nI i))]) hF.1 hF.2.1 dX12_hadOf_150 hl (by decide) rfl (fun ls hl => ?_)
                                have hx : 64 * (k / 64 ^^^ 2 ^ i) + (k % 64 ||| (k / 64 ^^^ 2 ^ i)) < 4096 := edH_z hn (by omega) (by omega)
                                refine lv_aload_n hF.1 hF.2.1 dX12_hadOf_152 rfl (lv_at hl 2 rfl) ?_
                                refine k_get (C := RX12) (T := TX12) (N := 19) hF hK hG (fun _ h => List.mem_cons_of_mem _ (List.mem_append_right _ h)) 0 rfl rfl 17 (by decide) (List.mem_of_getElem? (i := 1) rfl) (fun _ h9 => h9) rfl dX12_hadOf_153 ?_
                                refine lv_iload hF.1 hF.2.1 dX12_hadOf_156 (lv_at hl 0 rfl) ?_
                                refine k_ialdN hF hK hG 13 rfl ((64) * (k / 64 ^^^ 2 ^ i) + (k % 64 ||| (k / 64 ^^^ 2 ^ i))) rfl (by omega) (by omega) dX12_hadOf_158 ?_
                                refine lv_if_lt (tgt := 165) hF.1 hF.2.1 dX12_hadOf_159 (by decide) (fun c_159 => ?_) (fun c_159 => ?_)
                                · --
                                  have hz4 := hR3.neg (by omega) hx c_159
                                  refine lv_aload_n hF.1 hF.2.1 dX12_hadOf_165 rfl (lv_at hl 2 rfl) ?_
                                  refine k_get (C := RX12) (T := TX12) (N := 19) hF hK hG (fun _ h => List.mem_cons_of_mem _ (List.mem_append_right _ h)) 0 rfl rfl 17 (by decide) (List.mem_of_getElem? (i := 1) rfl) (fun _ h9 => h9) rfl dX12_hadOf_166 ?_
                                  refine lv_iload hF.1 hF.2.1 dX12_hadOf_169 (lv_at hl 0 rfl) ?_
                                  refine lv_iload_n hF.1 hF.2.1 dX12_hadOf_171 rfl (lv_at hl 5 rfl) ?_
                                  refine lv_iconst (v := (nI 1)) hF.1 hF.2.1 dX12_hadOf_172 (by decide +kernel) ?_
                                  refine lv_iadd hF.1 hF.2.1 dX12_hadOf_173 ?_
                                  rw [nI_add]
                                  refine k_iastN hF hK hG 13 rfl ((64) * (k / 64 ^^^ 2 ^ i) + (k % 64 ||| (k / 64 ^^^ 2 ^ i))) rfl (by omega) (by omega) dX12_hadOf_174 (fun H locs hG => ?_)
                                  refine lv_iconst (v := (nI 1)) hF.1 hF.2.1 dX12_hadOf_175 (by decide +kernel) ?_
                                  refine lv_istore_n (lv' := [(2, .int (nI 1)), (7, .int (nI ((64) * (k / 64 ^^^ 2 ^ i) + (k % 64 ||| (k / 64 ^^^ 2 ^ i))))), (6, .int (nI (k / 64 ^^^ 2 ^ i))), (0, .ref (ob 0)), (1, .int (nI told)), (3, .int (nI nn)), (4, .int (nI k)), (5, .int (nI i))]) hF.1 hF.2.1 dX12_hadOf_176 rfl hl (by decide) rfl (fun ls hl => ?_)
                                  refine lv_iinc (v := (nI (i + 1))) (lv' := [(5, .int (nI (i + 1))), (2, .int (nI 1)), (7, .int (nI ((64) * (k / 64 ^^^ 2 ^ i) + (k % 64 ||| (k / 64 ^^^ 2 ^ i))))), (6, .int (nI (k / 64 ^^^ 2 ^ i))), (0, .ref (ob 0)), (1, .int (nI told)), (3, .int (nI nn)), (4, .int (nI k))]) hF.1 hF.2.1 dX12_hadOf_177 hl (k := 7) rfl (nI_inc _ _) (by decide) rfl (fun ls hl => ?_)
                                  refine lv_goto (tgt := 96) hF.1 hF.2.1 dX12_hadOf_180 (by decide) ?_
                                  exact ih96 (i + 1) (true) (upd aU (64 * (k / 64 ^^^ 2 ^ i) + (k % 64 ||| (k / 64 ^^^ 2 ^ i))) (nI (nn + 1))) (by omega) (by first | exact hR3.none (edH_f n_118) | exact hR3.put (by omega) (by omega) (by omega) hPk (edH_t n_118) hz4 hx | exact hR3.had (edH_t n_118) (ne4_of c_159)) (by first | exact hPk | (rw [pk_un (fun e => by rw [e, hz4] at hPk; exact nI_ne4 (by omega) hPk.symm)]; exact hPk)) (by first | exact hs3 | exact fun h => by cases h) (by first | exact ht3 | (intro _; have := cU_upd (v := nI (nn + 1)) hz4 (nI_ne4 (by omega)) 4096 hx; omega)) (by first | exact hle3 | (have := cU_upd (v := nI (nn + 1)) hz4 (nI_ne4 (by omega)) 4096 hx; omega)) (by omega) _ _ hG ls (lv_sub hl [4, 5, 1, 6, 7, 0] rfl)
                                · --
                                  refine lv_goto (tgt := 177) hF.1 hF.2.1 dX12_hadOf_162 (by decide) ?_
                                  refine lv_iinc (v := (nI (i + 1))) (lv' := [(5, .int (nI (i + 1))), (7, .int (nI ((64) * (k / 64 ^^^ 2 ^ i) + (k % 64 ||| (k / 64 ^^^ 2 ^ i))))), (6, .int (nI (k / 64 ^^^ 2 ^ i))), (0, .ref (ob 0)), (1, .int (nI told)), (2, .int (b2i (m3))), (3, .int (nI nn)), (4, .int (nI k))]) hF.1 hF.2.1 dX12_hadOf_177 hl (k := 7) rfl (nI_inc _ _) (by decide) rfl (fun ls hl => ?_)
                                  refine lv_goto (tgt := 96) hF.1 hF.2.1 dX12_hadOf_180 (by decide) ?_
                                  exact ih96 (i + 1) (m3) (aU) (by omega) (by first | exact hR3.none (edH_f n_118) | exact hR3.put (by omega) (by omega) (by omega) hPk (edH_t n_118) hz4 hx | exact hR3.had (edH_t n_118) (ne4_of c_159)) (by first | exact hPk | (rw [pk_un (fun e => by rw [e, hz4] at hPk; exact nI_ne4 (by omega) hPk.symm)]; exact hPk)) (by first | exact hs3 | exact fun h => by cases h) (by first | exact ht3 | (intro _; have := cU_upd (v := nI (nn + 1)) hz4 (nI_ne4 (by omega)) 4096 hx; omega)) (by first | exact hle3 | (have := cU_upd (v := nI (nn + 1)) hz4 (nI_ne4 (by omega)) 4096 hx; omega)) (by omega) _ _ hG ls (lv_sub hl [3, 4, 5, 6, 7, 0] rfl)
                              · --
                                have n_118 : (mv (kd i) (fg i) i (k / 64)) = false := b2i_z.mp c_118
                                refine lv_goto (tgt := 177) hF.1 hF.2.1 dX12_hadOf_121 (by decide) ?_
                                refine lv_iinc (v := (nI (i + 1))) (lv' := [(5, .int (nI (i + 1))), (0, .ref (ob 0)), (1, .int (nI told)), (2, .int (b2i (m3))), (3, .int (nI nn)), (4, .int (nI k))]) hF.1 hF.2.1 dX12_hadOf_177 hl (k := 5) rfl (nI_inc _ _) (by decide) rfl (fun ls hl => ?_)
                                refine lv_goto (tgt := 96) hF.1 hF.2.1 dX12_hadOf_180 (by decide) ?_
                                exact ih96 (i + 1) (m3) (aU) (by omega) (by first | exact hR3.none (edH_f n_118) | exact hR3.put (by omega) (by omega) (by omega) hPk (edH_t n_118) hz4 hx | exact hR3.had (edH_t n_118) (ne4_of c_159)) (by first | exact hPk | (rw [pk_un (fun e => by rw [e, hz4] at hPk; exact nI_ne4 (by omega) hPk.symm)]; exact hPk)) (by first | exact hs3 | exact fun h => by cases h) (by first | exact ht3 | (intro _; have := cU_upd (v := nI (nn + 1)) hz4 (nI_ne4 (by omega)) 4096 hx; omega)) (by first | exact hle3 | (have := cU_upd (v := nI (nn + 1)) hz4 (nI_ne4 (by omega)) 4096 hx; omega)) (by omega) _ _ hG ls (lv_sub hl [1, 2, 3, 4, 5, 0] rfl)
                        exact lp96 _ (0) (m2) (aQ) (by omega) hR2 c_74 hs ht hle (Nat.lt_succ_self _) _ _ hG ls (lv_sub hl [1, 2, 3, 4, 5, 0] rfl)
                      · --
                        have n_88 : (k % 64 &&& told) = told := (nI_eq (a := (k % 64 &&& told)) (b := told) (by omega) (by omega)).mp c_88
                        refine lv_iload_n hF.1 hF.2.1 dX12_hadOf_91 rfl (lv_at hl 3 rfl) ?_
                        exact hret _ aQ _ ls _ _ _ _ (by exact hR2.found (by omega) (by omega) c_74 n_88 (Rch.lt hE ha)) (by first | rfl | exact nar_b2i _) hG (Nat.le_of_ble_eq_true rfl) (Nat.le_of_ble_eq_true rfl) dX12_hadOf_92
                    · --
                      refine lv_goto (tgt := 183) hF.1 hF.2.1 dX12_hadOf_77 (by decide) ?_
                      refine lv_iinc (v := (nI (k + 1))) (lv' := [(4, .int (nI (k + 1))), (0, .ref (ob 0)), (1, .int (nI told)), (2, .int (b2i (m2))), (3, .int (nI nn))]) hF.1 hF.2.1 dX12_hadOf_183 hl (k := 4) rfl (nI_inc _ _) (by decide) rfl (fun ls hl => ?_)
                      refine lv_goto (tgt := 58) hF.1 hF.2.1 dX12_hadOf_186 (by decide) ?_
                      exact ih58 (k + 1) (m2) (aQ) (by omega) (by first | exact hR3.next (by omega) n_88 | exact hR2.skip c_74) (by first | exact hs3 | exact hs) (by first | exact ht3 | exact ht) (by first | exact hle3 | exact hle) (by omega) _ _ hG ls (lv_sub hl [1, 2, 3, 4, 0] rfl)
              exact lp58 _ (0) (false) (aH) (by omega) hR (fun _ => rfl) (fun h => by cases h) (Nat.le_refl _) (Nat.lt_succ_self _) _ _ hG ls (lv_sub hl [2, 3, 1, 4, 0] rfl)
        have hz0 : ∀ z, z < 4096 → upd aH (64 * o + o) (nI 0) z = if z = 64 * o + o then nI 0 else -4 := fun z h => (Decidable.em (z = 64 * o + o)).elim (fun e => by rw [if_pos e, e, pk_us]) (fun e => by rw [pk_un e, if_neg e]; exact hz z (by omega))
        exact lp49 _ (0) (true) (upd aH (64 * o + o) (nI 0)) (RI.start hz0) (fun _ => by have := cU_a (K := 4096) (P := upd aH (64 * o + o) (nI 0)) ha pk_us; omega) (start_no hz0) (fun h => by cases h) (Nat.lt_succ_self _) _ _ hG ls (lv_sub hl [2, 3, 1, 0] rfl)
      · --
        have n_6 : ¬ (4096 ≤ j) := fun zz9 => c_6 ((nI_leI (a := 4096) (b := j) (by omega) (by omega)).mpr zz9)
        refine lv_aload_n hF.1 hF.2.1 dX12_hadOf_9 rfl (lv_at hl 0 rfl) ?_
        refine k_get (C := RX12) (T := TX12) (N := 19) hF hK hG (fun _ h => List.mem_cons_of_mem _ (List.mem_append_right _ h)) 0 rfl rfl 17 (by decide) (List.mem_of_getElem? (i := 1) rfl) (fun _ h9 => h9) rfl dX12_hadOf_10 ?_
        refine lv_iload_n hF.1 hF.2.1 dX12_hadOf_13 rfl (lv_at hl 2 rfl) ?_
        refine lv_bipush (v := (-4)) hF.1 hF.2.1 dX12_hadOf_14 (by decide +kernel) ?_
        refine k_iastN hF hK hG 13 rfl (j) rfl (by omega) (by omega) dX12_hadOf_16 (fun H locs hG => ?_)
        refine lv_iinc (v := (nI (j + 1))) (lv' := [(2, .int (nI (j + 1))), (0, .ref (ob 0)), (1, .int (nI told))]) hF.1 hF.2.1 dX12_hadOf_17 hl (k := 2) rfl (nI_inc _ _) (by decide) rfl (fun ls hl => ?_)
        refine lv_goto (tgt := 2) hF.1 hF.2.1 dX12_hadOf_20 (by decide) ?_
        exact ih2 (j + 1) (upd aH j (-4)) (by omega) (lt_s (fun z h => by rw [pk_un (Nat.ne_of_lt h)]; exact hz z h) pk_us) (by omega) _ _ hG ls (lv_sub hl [1, 2, 0] rfl)
  exact lp2 _ (0) (aH) (by omega) (fun z h => absurd h (Nat.not_lt_zero z)) (Nat.lt_succ_self _) _ _ hG ls (lv_sub hl [1, 2, 0] rfl)
