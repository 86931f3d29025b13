/-- may the first have drawer d open behind so many turns -/
def canU (n : Nat) (kd fg : Nat → Nat) (d : Nat) : Nat → Nat → Bool → Bool
  | 0, st, _ => st.testBit d
  | t + 1, st, m => if canU n kd fg d t st (!m) = m then m else if ∃ i, i < n ∧ mv (kd i) (fg i) i st = true ∧ canU n kd fg d t (st ^^^ 2 ^ i) (!m) = m then m else !m
theorem canU_a {n d t st : Nat} {kd fg : Nat → Nat} {m : Bool} (h : canU n kd fg d t st (!m) = m) : canU n kd fg d (t + 1) st m = m := if_pos h
theorem canU_b {n d t st i : Nat} {kd fg : Nat → Nat} {m : Bool} (hi : i < n) (hm : mv (kd i) (fg i) i st = true) (h : canU n kd fg d t (st ^^^ 2 ^ i) (!m) = m) : canU n kd fg d (t + 1) st m = m := by
  show (if canU n kd fg d t st (!m) = m then m else if ∃ i, i < n ∧ mv (kd i) (fg i) i st = true ∧ canU n kd fg d t (st ^^^ 2 ^ i) (!m) = m then m else !m) = m
  rw [if_pos (show ∃ i, i < n ∧ mv (kd i) (fg i) i st = true ∧ canU n kd fg d t (st ^^^ 2 ^ i) (!m) = m from ⟨i, hi, hm, h⟩)]
  split <;> rfl
theorem canU_c {n d t st : Nat} {kd fg : Nat → Nat} {m : Bool} (h : ¬ canU n kd fg d t st (!m) = m) (h2 : ∀ i, i < n → mv (kd i) (fg i) i st = true → ¬ canU n kd fg d t (st ^^^ 2 ^ i) (!m) = m) : canU n kd fg d (t + 1) st m = !m := by
  show (if canU n kd fg d t st (!m) = m then m else if ∃ i, i < n ∧ mv (kd i) (fg i) i st = true ∧ canU n kd fg d t (st ^^^ 2 ^ i) (!m) = m then m else !m) = !m
  rw [if_neg h, if_neg (fun ⟨i, a, b, c⟩ => h2 i a b c)]
def spGame (n o : Nat) (kd fg : Nat → Nat) (d t : Int32) : Int32 := if (inB n d && inB 6 t) = true then b2i (canU n kd fg d.toNatClampNeg t.toNatClampNeg o true) else -1
abbrev rmX12_canHave_0 : Room := { frames := 0, cells := 0, slots := 0, locals := 0 }
set_option maxHeartbeats 4000000 in
set_option maxRecDepth 100000 in
theorem c_X12_canHave_0 {l : Launch} {D : va_G} {cA : Nat → ClassId} {A : Nat → Prop}  {ob : Nat → Nat} {aS aI aR aM aK aT aZ aE aD aF aN aP aH : Nat → Int32} {vH vT vP vB vE vS : Int32} {n o : Nat} {kd fg : Nat → Nat} (hS : SR aS n o kd fg) {d st : Nat} (hd : d < n) (hst : st < 2 ^ n) {mine : Bool} : Met l yX12_canHave wsX12_canHave rmX12_canHave_0 (va_Pc [.ref (ob 0), .int (nI d), .int (nI st), .int (nI 0), .int (b2i (mine))] (Pre D cA A (MW cA ob aS aI aR aM aK aT aZ aE aD aF aN aP aH vH vT vP vB vE vS))) (va_Qi (fun r _ => r = b2i (canU n kd fg d 0 st mine)) (fun u t => Wd D A ((fun (_ : Unit) => MW cA ob aS aI aR aM aK aT aZ aE aD aF aN aP aH vH vT vP vB vE vS) u) t) A) (0) (0) A := by
  refine k_ofi (S := Unit) (F := fun (_ : Unit) => MW cA ob aS aI aR aM aK aT aZ aE aD aF aN aP aH vH vT vP vB vE vS) (cc := cX12_canHave) (maxL := 7) (by decide) rfl (Nat.le_of_ble_eq_true rfl) ?_
  intro p e s m args below meth c Q hF hini hK hA hG hret ls hl
  have hl : lv_has ls 7 [(0, .ref (ob 0)), (1, .int (nI d)), (2, .int (nI st)), (3, .int (nI 0)), (4, .int (b2i (mine)))] := hl
  have hn : n ≤ 6 := hS.2.2.1
  have ho : o < 64 := hS.o64
  have hp2 : 2 ^ n ≤ 64 := Nat.pow_le_pow_right (by decide) hn
  have hp1 : 1 ≤ 2 ^ n := Nat.one_le_two_pow
  refine lv_iload_n hF.1 hF.2.1 dX12_canHave_0 rfl (lv_at hl 3 rfl) ?_
  refine lv_if_ne (tgt := 19) hF.1 hF.2.1 dX12_canHave_1 (by decide) (fun c_1 => ?_) (fun c_1 => ?_)
  · --
    have n_1 : ¬ (0 = 0) := fun zz9 => c_1 ((nI_eq (a := 0) (b := 0) (by omega) (by omega)).mpr zz9)
    exact absurd rfl n_1
  · --
    have n_1 : 0 = 0 := (nI_eq (a := 0) (b := 0) (by omega) (by omega)).mp c_1
    refine lv_iload_n hF.1 hF.2.1 dX12_canHave_4 rfl (lv_at hl 2 rfl) ?_
    refine lv_iload_n hF.1 hF.2.1 dX12_canHave_5 rfl (lv_at hl 1 rfl) ?_
    refine lv_ishr hF.1 hF.2.1 dX12_canHave_6 ?_
    refine lv_iconst (v := (nI 1)) hF.1 hF.2.1 dX12_canHave_7 (by decide +kernel) ?_
    refine lv_iand hF.1 hF.2.1 dX12_canHave_8 ?_
    rw [bit_sh (by omega) (by omega)]
    have hbt := Bool.toNat_lt (st.testBit d)
    refine lv_iconst (v := (nI 1)) hF.1 hF.2.1 dX12_canHave_9 (by decide +kernel) ?_
    refine lv_icmp_ne (tgt := 17) hF.1 hF.2.1 dX12_canHave_10 (by decide) (fun c_10 => ?_) (fun c_10 => ?_)
    · --
      have n_10 : ¬ ((st.testBit d).toNat = 1) := fun zz9 => c_10 ((nI_eq (a := (st.testBit d).toNat) (b := 1) (by omega) (by omega)).mpr zz9)
      refine lv_iconst (v := (nI 0)) hF.1 hF.2.1 dX12_canHave_17 (by decide +kernel) ?_
      exact hret _ () _ ls _ _ _ _ (by show _ = b2i (st.testBit d); cases hb : st.testBit d <;> rw [hb] at n_10 <;> first | rfl | exact absurd n_10 (by decide) | exact absurd rfl n_10) (by first | rfl | exact nar_b2i _) hG (Nat.le_of_ble_eq_true rfl) (Nat.le_of_ble_eq_true rfl) dX12_canHave_18
    · --
      have n_10 : (st.testBit d).toNat = 1 := (nI_eq (a := (st.testBit d).toNat) (b := 1) (by omega) (by omega)).mp c_10
      refine lv_iconst (v := (nI 1)) hF.1 hF.2.1 dX12_canHave_13 (by decide +kernel) ?_
      refine lv_goto (tgt := 18) hF.1 hF.2.1 dX12_canHave_14 (by decide) ?_
      exact hret _ () _ ls _ _ _ _ (by show _ = b2i (st.testBit d); cases hb : st.testBit d <;> rw [hb] at n_10 <;> first | rfl | exact absurd n_10 (by decide) | exact absurd rfl n_10) (by first | rfl | exact nar_b2i _) hG (Nat.le_of_ble_eq_true rfl) (Nat.le_of_ble_eq_true rfl) dX12_canHave_18

abbrev rmX12_canHave_1 : Room := { frames := 2, cells := 0, slots := 0, locals := 46 }
set_option maxHeartbeats 4000000 in
set_option maxRecDepth 100000 in
theorem c_X12_canHave_1 {l : Launch} {D : va_G} {cA : Nat → ClassId} {A : Nat → Prop}  {ob : Nat → Nat} {aS aI aR aM aK aT aZ aE aD aF aN aP aH : Nat → Int32} {vH vT vP vB vE vS : Int32} {n o : Nat} {kd fg : Nat → Nat} (hS : SR aS n o kd fg) {d st : Nat} (hd : d < n) (hst : st < 2 ^ n) {mine : Bool} : Met l yX12_canHave wsX12_canHave rmX12_canHave_1 (va_Pc [.ref (ob 0), .int (nI d), .int (nI st), .int (nI 1), .int (b2i (mine))] (Pre D cA A (MW cA ob aS aI aR aM aK aT aZ aE aD aF aN aP aH vH vT vP vB vE vS))) (va_Qi (fun r _ => r = b2i (canU n kd fg d 1 st mine)) (fun u t => Wd D A ((fun (_ : Unit) => MW cA ob aS aI aR aM aK aT aZ aE aD aF aN aP aH vH vT vP vB vE vS) u) t) A) (0) (0) A := by
  refine k_ofi (S := Unit) (F := fun (_ : Unit) => MW cA ob aS aI aR aM aK aT aZ aE aD aF aN aP aH vH vT vP vB vE vS) (cc := cX12_canHave) (maxL := 7) (by decide) rfl (Nat.le_of_ble_eq_true rfl) ?_
  intro p e s m args below meth c Q hF hini hK hA hG hret ls hl
  have hl : lv_has ls 7 [(0, .ref (ob 0)), (1, .int (nI d)), (2, .int (nI st)), (3, .int (nI 1)), (4, .int (b2i (mine)))] := hl
  have hn : n ≤ 6 := hS.2.2.1
  have ho : o < 64 := hS.o64
  have hp2 : 2 ^ n ≤ 64 := Nat.pow_le_pow_right (by decide) hn
  have hp1 : 1 ≤ 2 ^ n := Nat.one_le_two_pow
  refine lv_iload_n hF.1 hF.2.1 dX12_canHave_0 rfl (lv_at hl 3 rfl) ?_
  refine lv_if_ne (tgt := 19) hF.1 hF.2.1 dX12_canHave_1 (by decide) (fun c_1 => ?_) (fun c_1 => ?_)
  · --
    have n_1 : ¬ (1 = 0) := fun zz9 => c_1 ((nI_eq (a := 1) (b := 0) (by omega) (by omega)).mpr zz9)
    refine lv_aload_n hF.1 hF.2.1 dX12_canHave_19 rfl (lv_at hl 0 rfl) ?_
    refine lv_iload_n hF.1 hF.2.1 dX12_canHave_20 rfl (lv_at hl 1 rfl) ?_
    refine lv_iload_n hF.1 hF.2.1 dX12_canHave_21 rfl (lv_at hl 2 rfl) ?_
    refine lv_iload_n hF.1 hF.2.1 dX12_canHave_22 rfl (lv_at hl 3 rfl) ?_
    refine lv_iconst (v := (nI 1)) hF.1 hF.2.1 dX12_canHave_23 (by decide +kernel) ?_
    refine lv_isub hF.1 hF.2.1 dX12_canHave_24 ?_
    rw [show (nI 1 - nI 1 : Int32) = nI 0 from by decide +kernel]
    refine lv_iload hF.1 hF.2.1 dX12_canHave_25 (lv_at hl 4 rfl) ?_
    refine lv_if_ne (tgt := 34) hF.1 hF.2.1 dX12_canHave_27 (by decide) (fun c_27 => ?_) (fun c_27 => ?_)
    · --
      have n_27 : (mine) = true := b2i_nz.mp c_27
      subst n_27
      refine lv_iconst (v := (nI 0)) hF.1 hF.2.1 dX12_canHave_34 (by decide +kernel) ?_
      refine k_ci (r_V (As := [.int (nI d), .int (nI st), .int (nI 0), .int (nI 0)]) hF hK hA hG (c_X12_canHave_0 (mine := !true) hS hd hst) (cwV 4 hF.2.2.2.2 gX12_canHave_X12_canHave rfl rfl rfl (by decide +kernel) ⟨Nat.le_of_ble_eq_true rfl, Nat.le_of_ble_eq_true rfl⟩) 0 rfl rfl rfl rfl hl.1 rfl (lv_room (Nat.le_of_ble_eq_true rfl)) dX12_canHave_35 ⟨Nat.le_of_ble_eq_true rfl, Nat.le_of_ble_eq_true rfl⟩) hG (fun r_35 u_35 H locs hp_35 hG => ?_)
      subst hp_35
      refine lv_istore (lv' := [(5, .int (b2i (canU n kd fg d 0 (st) (!true)))), (0, .ref (ob 0)), (1, .int (nI d)), (2, .int (nI st)), (3, .int (nI 1)), (4, .int (b2i (true)))]) hF.1 hF.2.1 dX12_canHave_38 hl (by decide) rfl (fun ls hl => ?_)
      refine lv_iload hF.1 hF.2.1 dX12_canHave_40 (lv_at hl 0 rfl) ?_
      refine lv_iload hF.1 hF.2.1 dX12_canHave_42 (lv_at hl 5 rfl) ?_
      refine lv_icmp_ne (tgt := 50) hF.1 hF.2.1 dX12_canHave_44 (by decide) (fun c_44 => ?_) (fun c_44 => ?_)
      · --
        have m_44 : ¬ canU n kd fg d 0 (st) (!true) = true := fun h => c_44 (by rw [h])
        refine lv_iconst (v := (nI 0)) hF.1 hF.2.1 dX12_canHave_50 (by decide +kernel) ?_
        refine lv_istore (lv' := [(6, .int (nI 0)), (5, .int (b2i (canU n kd fg d 0 (st) (!true)))), (0, .ref (ob 0)), (1, .int (nI d)), (2, .int (nI st)), (3, .int (nI 1)), (4, .int (b2i (true)))]) hF.1 hF.2.1 dX12_canHave_51 hl (by decide) rfl (fun ls hl => ?_)
        have lp53 : ∀ (fuel : Nat), ∀ (i : Nat), (hi : i ≤ n) → (hz : ∀ q, q < i → mv (kd q) (fg q) q st = true → ¬ canU n kd fg d 0 (st ^^^ 2 ^ q) (!true) = true) → (n - i) < fuel → ∀ (H : Heap) (locs : List Loc), Gd D A (MW cA ob aS aI aR aM aK aT aZ aE aD aF aN aP aH vH vT vP vB vE vS) s.heap H locs → ∀ ls : Array Slot, lv_has ls 7 [(0, .ref (ob 0)), (1, .int (nI d)), (2, .int (nI st)), (3, .int (nI 1)), (4, .int (b2i (true))), (6, .int (nI i))] → W p l e rmX12_canHave_1 s m args below meth c H locs (0) (0) Q (F0 m 53 ls []) := by
          intro fuel
          induction fuel with
          | zero => intro i hi hz hmu; exact absurd hmu (Nat.not_lt_zero _)
          | succ fuel ih53 =>
            intro i hi hz hmu H locs hG ls hl
            refine lv_iload hF.1 hF.2.1 dX12_canHave_53 (lv_at hl 5 rfl) ?_
            refine lv_aload_n hF.1 hF.2.1 dX12_canHave_55 rfl (lv_at hl 0 rfl) ?_
            refine k_get (C := RX12) (T := TX12) (N := 19) hF hK hG (fun _ h => List.mem_cons_of_mem _ (List.mem_append_right _ h)) 0 rfl rfl 0 (by decide) (List.mem_of_getElem? (i := 1) rfl) (fun _ h9 => h9) rfl dX12_canHave_56 ?_
            refine lv_iconst (v := (nI 0)) hF.1 hF.2.1 dX12_canHave_59 (by decide +kernel) ?_
            refine k_ialdN hF hK hG 1 rfl (0) rfl (by omega) (by omega) dX12_canHave_60 ?_
            rw [hS.1]
            refine lv_icmp_ge (tgt := 112) hF.1 hF.2.1 dX12_canHave_61 (by decide) (fun c_61 => ?_) (fun c_61 => ?_)
            · --
              have n_61 : n ≤ i := (nI_leI (a := n) (b := i) (by omega) (by omega)).mp c_61
              refine lv_iload hF.1 hF.2.1 dX12_canHave_112 (lv_at hl 4 rfl) ?_
              refine lv_if_ne (tgt := 121) hF.1 hF.2.1 dX12_canHave_114 (by decide) (fun c_114 => ?_) (fun c_114 => ?_)
              · --
                have n_114 : (true) = true := b2i_nz.mp c_114
                refine lv_iconst (v := (nI 0)) hF.1 hF.2.1 dX12_canHave_121 (by decide +kernel) ?_
                exact hret _ () _ ls _ _ _ _ (by first | (rw [canU_a m_44]) | (rw [canU_b (by omega) n_71 m_100]) | (rw [canU_c m_44 (fun q hq => hz q (by omega))]; rfl)) (by first | rfl | exact nar_b2i _) hG (Nat.le_of_ble_eq_true rfl) (Nat.le_of_ble_eq_true rfl) dX12_canHave_122
              · --
                have n_114 : (true) = false := b2i_z.mp c_114
                cases n_114
            · --
              have n_61 : ¬ (n ≤ i) := fun zz9 => c_61 ((nI_leI (a := n) (b := i) (by omega) (by omega)).mpr zz9)
              refine lv_aload_n hF.1 hF.2.1 dX12_canHave_64 rfl (lv_at hl 0 rfl) ?_
              refine lv_iload hF.1 hF.2.1 dX12_canHave_65 (lv_at hl 5 rfl) ?_
              refine lv_iload_n hF.1 hF.2.1 dX12_canHave_67 rfl (lv_at hl 2 rfl) ?_
              refine k_ci (r_V (As := [.int (nI i), .int (nI st)]) hF hK hA hG (c_X12_may hS (by omega) (by omega)) (cwV 2 hF.2.2.2.2 gX12_canHave_X12_may rfl rfl rfl (by decide +kernel) ⟨Nat.le_of_ble_eq_true rfl, Nat.le_of_ble_eq_true rfl⟩) 0 rfl rfl rfl rfl hl.1 rfl (lv_room (Nat.le_of_ble_eq_true rfl)) dX12_canHave_68 ⟨Nat.le_of_ble_eq_true rfl, Nat.le_of_ble_eq_true rfl⟩) hG (fun r_68 u_68 H locs hp_68 hG => ?_)
              subst hp_68
              refine lv_if_eq (tgt := 106) hF.1 hF.2.1 dX12_canHave_71 (by decide) (fun c_71 => ?_) (fun c_71 => ?_)
              · --
                have n_71 : (mv (kd i) (fg i) i st) = false := b2i_z.mp c_71
                refine lv_iinc (v := (nI (i + 1))) (lv' := [(6, .int (nI (i + 1))), (0, .ref (ob 0)), (1, .int (nI d)), (2, .int (nI st)), (3, .int (nI 1)), (4, .int (b2i (true)))]) hF.1 hF.2.1 dX12_canHave_106 hl (k := 5) rfl (nI_inc _ _) (by decide) rfl (fun ls hl => ?_)
                refine lv_goto (tgt := 53) hF.1 hF.2.1 dX12_canHave_109 (by decide) ?_
                exact ih53 (i + 1) (by omega) (lt_s hz (fun hm => by first | exact m_100 | (rw [n_71] at hm; cases hm))) (by omega) _ _ hG ls (lv_sub hl [1, 2, 3, 4, 5, 0] rfl)
              · --
                have n_71 : (mv (kd i) (fg i) i st) = true := b2i_nz.mp c_71
                have hx := xor_ltn (n := n) (o := st) (j := i) hst (by omega)
                refine lv_aload_n hF.1 hF.2.1 dX12_canHave_74 rfl (lv_at hl 0 rfl) ?_
                refine lv_iload_n hF.1 hF.2.1 dX12_canHave_75 rfl (lv_at hl 1 rfl) ?_
                refine lv_iload_n hF.1 hF.2.1 dX12_canHave_76 rfl (lv_at hl 2 rfl) ?_
                refine lv_iconst (v := (nI 1)) hF.1 hF.2.1 dX12_canHave_77 (by decide +kernel) ?_
                refine lv_iload hF.1 hF.2.1 dX12_canHave_78 (lv_at hl 5 rfl) ?_
                refine lv_ishl hF.1 hF.2.1 dX12_canHave_80 ?_
                rw [shl_1 (by omega)]
                refine lv_ixor hF.1 hF.2.1 dX12_canHave_81 ?_
                rw [nx_xor]
                refine lv_iload_n hF.1 hF.2.1 dX12_canHave_82 rfl (lv_at hl 3 rfl) ?_
                refine lv_iconst (v := (nI 1)) hF.1 hF.2.1 dX12_canHave_83 (by decide +kernel) ?_
                refine lv_isub hF.1 hF.2.1 dX12_canHave_84 ?_
                rw [show (nI 1 - nI 1 : Int32) = nI 0 from by decide +kernel]
                refine lv_iload hF.1 hF.2.1 dX12_canHave_85 (lv_at hl 4 rfl) ?_
                refine lv_if_ne (tgt := 94) hF.1 hF.2.1 dX12_canHave_87 (by decide) (fun c_87 => ?_) (fun c_87 => ?_)
                · --
                  have n_87 : (true) = true := b2i_nz.mp c_87
                  refine lv_iconst (v := (nI 0)) hF.1 hF.2.1 dX12_canHave_94 (by decide +kernel) ?_
                  refine k_ci (r_V (As := [.int (nI d), .int (nI (st ^^^ 2 ^ i)), .int (nI 0), .int (nI 0)]) hF hK hA hG (c_X12_canHave_0 (mine := !true) hS hd hx) (cwV 4 hF.2.2.2.2 gX12_canHave_X12_canHave rfl rfl rfl (by decide +kernel) ⟨Nat.le_of_ble_eq_true rfl, Nat.le_of_ble_eq_true rfl⟩) 0 rfl rfl rfl rfl hl.1 rfl (lv_room (Nat.le_of_ble_eq_true rfl)) dX12_canHave_95 ⟨Nat.le_of_ble_eq_true rfl, Nat.le_of_ble_eq_true rfl⟩) hG (fun r_95 u_95 H locs hp_95 hG => ?_)
                  subst hp_95
                  refine lv_iload hF.1 hF.2.1 dX12_canHave_98 (lv_at hl 4 rfl) ?_
                  refine lv_icmp_ne (tgt := 106) hF.1 hF.2.1 dX12_canHave_100 (by decide) (fun c_100 => ?_) (fun c_100 => ?_)
                  · --
                    have m_100 : ¬ canU n kd fg d 0 (st ^^^ 2 ^ i) (!true) = true := fun h => c_100 (by rw [h])
                    refine lv_iinc (v := (nI (i + 1))) (lv' := [(6, .int (nI (i + 1))), (0, .ref (ob 0)), (1, .int (nI d)), (2, .int (nI st)), (3, .int (nI 1)), (4, .int (b2i (true)))]) hF.1 hF.2.1 dX12_canHave_106 hl (k := 5) rfl (nI_inc _ _) (by decide) rfl (fun ls hl => ?_)
                    refine lv_goto (tgt := 53) hF.1 hF.2.1 dX12_canHave_109 (by decide) ?_
                    exact ih53 (i + 1) (by omega) (lt_s hz (fun hm => by first | exact m_100 | (rw [n_71] at hm; cases hm))) (by omega) _ _ hG ls (lv_sub hl [1, 2, 3, 4, 5, 0] rfl)
                  · --
                    have m_100 : canU n kd fg d 0 (st ^^^ 2 ^ i) (!true) = true := b2i_inj c_100
                    refine lv_iload hF.1 hF.2.1 dX12_canHave_103 (lv_at hl 4 rfl) ?_
                    exact hret _ () _ ls _ _ _ _ (by first | (rw [canU_a m_44]) | (rw [canU_b (by omega) n_71 m_100]) | (rw [canU_c m_44 (fun q hq => hz q (by omega))]; rfl)) (by first | rfl | exact nar_b2i _) hG (Nat.le_of_ble_eq_true rfl) (Nat.le_of_ble_eq_true rfl) dX12_canHave_105
                · --
                  have n_87 : (true) = false := b2i_z.mp c_87
                  cases n_87
        exact lp53 _ (0) (by omega) (fun q h => absurd h (Nat.not_lt_zero q)) (Nat.lt_succ_self _) _ _ hG ls (lv_sub hl [2, 3, 4, 5, 6, 0] rfl)
      · --
        have m_44 : canU n kd fg d 0 (st) (!true) = true := b2i_inj c_44
        refine lv_iload hF.1 hF.2.1 dX12_canHave_47 (lv_at hl 5 rfl) ?_
        exact hret _ () _ ls _ _ _ _ (by first | (rw [canU_a m_44]) | (rw [canU_b (by omega) n_71 m_100]) | (rw [canU_c m_44 (fun q hq => hz q (by omega))]; rfl)) (by first | rfl | exact nar_b2i _) hG (Nat.le_of_ble_eq_true rfl) (Nat.le_of_ble_eq_true rfl) dX12_canHave_49
    · --
      have n_27 : (mine) = false := b2i_z.mp c_27
      subst n_27
      refine lv_iconst (v := (nI 1)) hF.1 hF.2.1 dX12_canHave_30 (by decide +kernel) ?_
      refine lv_goto (tgt := 35) hF.1 hF.2.1 dX12_canHave_31 (by decide) ?_
      refine k_ci (r_V (As := [.int (nI d), .int (nI st), .int (nI 0), .int (nI 1)]) hF hK hA hG (c_X12_canHave_0 (mine := !false) hS hd hst) (cwV 4 hF.2.2.2.2 gX12_canHave_X12_canHave rfl rfl rfl (by decide +kernel) ⟨Nat.le_of_ble_eq_true rfl, Nat.le_of_ble_eq_true rfl⟩) 0 rfl rfl rfl rfl hl.1 rfl (lv_room (Nat.le_of_ble_eq_true rfl)) dX12_canHave_35 ⟨Nat.le_of_ble_eq_true rfl, Nat.le_of_ble_eq_true rfl⟩) hG (fun r_35 u_35 H locs hp_35 hG => ?_)
      subst hp_35
      refine lv_istore (lv' := [(5, .int (b2i (canU n kd fg d 0 (st) (!false)))), (0, .ref (ob 0)), (1, .int (nI d)), (2, .int (nI st)), (3, .int (nI 1)), (4, .int (b2i (false)))]) hF.1 hF.2.1 dX12_canHave_38 hl (by decide) rfl (fun ls hl => ?_)
      refine lv_iload hF.1 hF.2.1 dX12_canHave_40 (lv_at hl 0 rfl) ?_
      refine lv_iload hF.1 hF.2.1 dX12_canHave_42 (lv_at hl 5 rfl) ?_
      refine lv_icmp_ne (tgt := 50) hF.1 hF.2.1 dX12_canHave_44 (by decide) (fun c_44 => ?_) (fun c_44 => ?_)
      · --
        have m_44 : ¬ canU n kd fg d 0 (st) (!false) = false := fun h => c_44 (by rw [h])
        refine lv_iconst (v := (nI 0)) hF.1 hF.2.1 dX12_canHave_50 (by decide +kernel) ?_
        refine lv_istore (lv' := [(6, .int (nI 0)), (5, .int (b2i (canU n kd fg d 0 (st) (!false)))), (0, .ref (ob 0)), (1, .int (nI d)), (2, .int (nI st)), (3, .int (nI 1)), (4, .int (b2i (false)))]) hF.1 hF.2.1 dX12_canHave_51 hl (by decide) rfl (fun ls hl => ?_)
        have lp53 : ∀ (fuel : Nat), ∀ (i : Nat), (hi : i ≤ n) → (hz : ∀ q, q < i → mv (kd q) (fg q) q st = true → ¬ canU n kd fg d 0 (st ^^^ 2 ^ q) (!false) = false) → (n - i) < fuel → ∀ (H : Heap) (locs : List Loc), Gd D A (MW cA ob aS aI aR aM aK aT aZ aE aD aF aN aP aH vH vT vP vB vE vS) s.heap H locs → ∀ ls : Array Slot, lv_has ls 7 [(0, .ref (ob 0)), (1, .int (nI d)), (2, .int (nI st)), (3, .int (nI 1)), (4, .int (b2i (false))), (6, .int (nI i))] → W p l e rmX12_canHave_1 s m args below meth c H locs (0) (0) Q (F0 m 53 ls []) := by
          intro fuel
          induction fuel with
          | zero => intro i hi hz hmu; exact absurd hmu (Nat.not_lt_zero _)
          | succ fuel ih53 =>
            intro i hi hz hmu H locs hG ls hl
            refine lv_iload hF.1 hF.2.1 dX12_canHave_53 (lv_at hl 5 rfl) ?_
            refine lv_aload_n hF.1 hF.2.1 dX12_canHave_55 rfl (lv_at hl 0 rfl) ?_
            refine k_get (C := RX12) (T := TX12) (N := 19) hF hK hG (fun _ h => List.mem_cons_of_mem _ (List.mem_append_right _ h)) 0 rfl rfl 0 (by decide) (List.mem_of_getElem? (i := 1) rfl) (fun _ h9 => h9) rfl dX12_canHave_56 ?_
            refine lv_iconst (v := (nI 0)) hF.1 hF.2.1 dX12_canHave_59 (by decide +kernel) ?_
            refine k_ialdN hF hK hG 1 rfl (0) rfl (by omega) (by omega) dX12_canHave_60 ?_
            rw [hS.1]
            refine lv_icmp_ge (tgt := 112) hF.1 hF.2.1 dX12_canHave_61 (by decide) (fun c_61 => ?_) (fun c_61 => ?_)
            · --
              have n_61 : n ≤ i := (nI_leI (a := n) (b := i) (by omega) (by omega)).mp c_61
              refine lv_iload hF.1 hF.2.1 dX12_canHave_112 (lv_at hl 4 rfl) ?_
              refine lv_if_ne (tgt := 121) hF.1 hF.2.1 dX12_canHave_114 (by decide) (fun c_114 => ?_) (fun c_114 => ?_)
              · --
                have n_114 : (false) = true := b2i_nz.mp c_114
                cases n_114
              · --
                have n_114 : (false) = false := b2i_z.mp c_114
                refine lv_iconst (v := (nI 1)) hF.1 hF.2.1 dX12_canHave_117 (by decide +kernel) ?_
                refine lv_goto (tgt := 122) hF.1 hF.2.1 dX12_canHave_118 (by decide) ?_
                exact hret _ () _ ls _ _ _ _ (by first | (rw [canU_a m_44]) | (rw [canU_b (by omega) n_71 m_100]) | (rw [canU_c m_44 (fun q hq => hz q (by omega))]; rfl)) (by first | rfl | exact nar_b2i _) hG (Nat.le_of_ble_eq_true rfl) (Nat.le_of_ble_eq_true rfl) dX12_canHave_122
            · --
              have n_61 : ¬ (n ≤ i) := fun zz9 => c_61 ((nI_leI (a := n) (b := i) (by omega) (by omega)).mpr zz9)
              refine lv_aload_n hF.1 hF.2.1 dX12_canHave_64 rfl (lv_at hl 0 rfl) ?_
              refine lv_iload hF.1 hF.2.1 dX12_canHave_65 (lv_at hl 5 rfl) ?_
              refine lv_iload_n hF.1 hF.2.1 dX12_canHave_67 rfl (lv_at hl 2 rfl) ?_
              refine k_ci (r_V (As := [.int (nI i), .int (nI st)]) hF hK hA hG (c_X12_may hS (by omega) (by omega)) (cwV 2 hF.2.2.2.2 gX12_canHave_X12_may rfl rfl rfl (by decide +kernel) ⟨Nat.le_of_ble_eq_true rfl, Nat.le_of_ble_eq_true rfl⟩) 0 rfl rfl rfl rfl hl.1 rfl (lv_room (Nat.le_of_ble_eq_true rfl)) dX12_canHave_68 ⟨Nat.le_of_ble_eq_true rfl, Nat.le_of_ble_eq_true rfl⟩) hG (fun r_68 u_68 H locs hp_68 hG => ?_)
              subst hp_68
              refine lv_if_eq (tgt := 106) hF.1 hF.2.1 dX12_canHave_71 (by decide) (fun c_71 => ?_) (fun c_71 => ?_)
              · --
                have n_71 : (mv (kd i) (fg i) i st) = false := b2i_z.mp c_71
                refine lv_iinc (v := (nI (i + 1))) (lv' := [(6, .int (nI (i + 1))), (0, .ref (ob 0)), (1, .int (nI d)), (2, .int (nI st)), (3, .int (nI 1)), (4, .int (b2i (false)))]) hF.1 hF.2.1 dX12_canHave_106 hl (k := 5) rfl (nI_inc _ _) (by decide) rfl (fun ls hl => ?_)
                refine lv_goto (tgt := 53) hF.1 hF.2.1 dX12_canHave_109 (by decide) ?_
                exact ih53 (i + 1) (by omega) (lt_s hz (fun hm => by first | exact m_100 | (rw [n_71] at hm; cases hm))) (by omega) _ _ hG ls (lv_sub hl [1, 2, 3, 4, 5, 0] rfl)
              · --
                have n_71 : (mv (kd i) (fg i) i st) = true := b2i_nz.mp c_71
                have hx := xor_ltn (n := n) (o := st) (j := i) hst (by omega)
                refine lv_aload_n hF.1 hF.2.1 dX12_canHave_74 rfl (lv_at hl 0 rfl) ?_
                refine lv_iload_n hF.1 hF.2.1 dX12_canHave_75 rfl (lv_at hl 1 rfl) ?_
                refine lv_iload_n hF.1 hF.2.1 dX12_canHave_76 rfl (lv_at hl 2 rfl) ?_
                refine lv_iconst (v := (nI 1)) hF.1 hF.2.1 dX12_canHave_77 (by decide +kernel) ?_
                refine lv_iload hF.1 hF.2.1 dX12_canHave_78 (lv_at hl 5 rfl) ?_
                refine lv_ishl hF.1 hF.2.1 dX12_canHave_80 ?_
                rw [shl_1 (by omega)]
                refine lv_ixor hF.1 hF.2.1 dX12_canHave_81 ?_
                rw [nx_xor]
                refine lv_iload_n hF.1 hF.2.1 dX12_canHave_82 rfl (lv_at hl 3 rfl) ?_
                refine lv_iconst (v := (nI 1)) hF.1 hF.2.1 dX12_canHave_83 (by decide +kernel) ?_
                refine lv_isub hF.1 hF.2.1 dX12_canHave_84 ?_
                rw [show (nI 1 - nI 1 : Int32) = nI 0 from by decide +kernel]
                refine lv_iload hF.1 hF.2.1 dX12_canHave_85 (lv_at hl 4 rfl) ?_
                refine lv_if_ne (tgt := 94) hF.1 hF.2.1 dX12_canHave_87 (by decide) (fun c_87 => ?_) (fun c_87 => ?_)
                · --
                  have n_87 : (false) = true := b2i_nz.mp c_87
                  cases n_87
                · --
                  have n_87 : (false) = false := b2i_z.mp c_87
                  refine lv_iconst (v := (nI 1)) hF.1 hF.2.1 dX12_canHave_90 (by decide +kernel) ?_
                  refine lv_goto (tgt := 95) hF.1 hF.2.1 dX12_canHave_91 (by decide) ?_
                  refine k_ci (r_V (As := [.int (nI d), .int (nI (st ^^^ 2 ^ i)), .int (nI 0), .int (nI 1)]) hF hK hA hG (c_X12_canHave_0 (mine := !false) hS hd hx) (cwV 4 hF.2.2.2.2 gX12_canHave_X12_canHave rfl rfl rfl (by decide +kernel) ⟨Nat.le_of_ble_eq_true rfl, Nat.le_of_ble_eq_true rfl⟩) 0 rfl rfl rfl rfl hl.1 rfl (lv_room (Nat.le_of_ble_eq_true rfl)) dX12_canHave_95 ⟨Nat.le_of_ble_eq_true rfl, Nat.le_of_ble_eq_true rfl⟩) hG (fun r_95 u_95 H locs hp_95 hG => ?_)
                  subst hp_95
                  refine lv_iload hF.1 hF.2.1 dX12_canHave_98 (lv_at hl 4 rfl) ?_
                  refine lv_icmp_ne (tgt := 106) hF.1 hF.2.1 dX12_canHave_100 (by decide) (fun c_100 => ?_) (fun c_100 => ?_)
                  · --
                    have m_100 : ¬ canU n kd fg d 0 (st ^^^ 2 ^ i) (!false) = false := fun h => c_100 (by rw [h])
                    refine lv_iinc (v := (nI (i + 1))) (lv' := [(6, .int (nI (i + 1))), (0, .ref (ob 0)), (1, .int (nI d)), (2, .int (nI st)), (3, .int (nI 1)), (4, .int (b2i (false)))]) hF.1 hF.2.1 dX12_canHave_106 hl (k := 5) rfl (nI_inc _ _) (by decide) rfl (fun ls hl => ?_)
                    refine lv_goto (tgt := 53) hF.1 hF.2.1 dX12_canHave_109 (by decide) ?_
                    exact ih53 (i + 1) (by omega) (lt_s hz (fun hm => by first | exact m_100 | (rw [n_71] at hm; cases hm))) (by omega) _ _ hG ls (lv_sub hl [1, 2, 3, 4, 5, 0] rfl)
                  · --
                    have m_100 : canU n kd fg d 0 (st ^^^ 2 ^ i) (!false) = false := b2i_inj c_100
                    refine lv_iload hF.1 hF.2.1 dX12_canHave_103 (lv_at hl 4 rfl) ?_
                    exact hret _ () _ ls _ _ _ _ (by first | (rw [canU_a m_44]) | (rw [canU_b (by omega) n_71 m_100]) | (rw [canU_c m_44 (fun q hq => hz q (by omega))]; rfl)) (by first | rfl | exact nar_b2i _) hG (Nat.le_of_ble_eq_true rfl) (Nat.le_of_ble_eq_true rfl) dX12_canHave_105
        exact lp53 _ (0) (by omega) (fun q h => absurd h (Nat.not_lt_zero q)) (Nat.lt_succ_self _) _ _ hG ls (lv_sub hl [2, 3, 4, 5, 6, 0] rfl)
      · --
        have m_44 : canU n kd fg d 0 (st) (!false) = false := b2i_inj c_44
        refine lv_iload hF.1 hF.2.1 dX12_canHave_47 (lv_at hl 5 rfl) ?_
        exact hret _ () _ ls _ _ _ _ (by first | (rw [canU_a m_44]) | (rw [canU_b (by omega) n_71 m_100]) | (rw [canU_c m_44 (fun q hq => hz q (by omega))]; rfl)) (by first | rfl | exact nar_b2i _) hG (Nat.le_of_ble_eq_true rfl) (Nat.le_of_ble_eq_true rfl) dX12_canHave_49
  · --
    have n_1 : 1 = 0 := (nI_eq (a := 1) (b := 0) (by omega) (by omega)).mp c_1
    exact absurd n_1 (by decide)

abbrev rmX12_canHave_2 : Room := { frames := 3, cells := 0, slots := 0, locals := 72 }
set_option maxHeartbeats 4000000 in
set_option maxRecDepth 100000 in
theorem c_X12_canHave_2 {l : Launch} {D : va_G} {cA : Nat → ClassId} {A : Nat → Prop}  {ob : Nat → Nat} {aS aI aR aM aK aT aZ aE aD aF aN aP aH : Nat → Int32} {vH vT vP vB vE vS : Int32} {n o : Nat} {kd fg : Nat → Nat} (hS : SR aS n o kd fg) {d st : Nat} (hd : d < n) (hst : st < 2 ^ n) {mine : Bool} : Met l yX12_canHave wsX12_canHave rmX12_canHave_2 (va_Pc [.ref (ob 0), .int (nI d), .int (nI st), .int (nI 2), .int (b2i (mine))] (Pre D cA A (MW cA ob aS aI aR aM aK aT aZ aE aD aF aN aP aH vH vT vP vB vE vS))) (va_Qi (fun r _ => r = b2i (canU n kd fg d 2 st mine)) (fun u t => Wd D A ((fun (_ : Unit) => MW cA ob aS aI aR aM aK aT aZ aE aD aF aN aP aH vH vT vP vB vE vS) u) t) A) (0) (0) A := by
  refine k_ofi (S := Unit) (F := fun (_ : Unit) => MW cA ob aS aI aR aM aK aT aZ aE aD aF aN aP aH vH vT vP vB vE vS) (cc := cX12_canHave) (maxL := 7) (by decide) rfl (Nat.le_of_ble_eq_true rfl) ?_
  intro p e s m args below meth c Q hF hini hK hA hG hret ls hl
  have hl : lv_has ls 7 [(0, .ref (ob 0)), (1, .int (nI d)), (2, .int (nI st)), (3, .int (nI 2)), (4, .int (b2i (mine)))] := hl
  have hn : n ≤ 6 := hS.2.2.1
  have ho : o < 64 := hS.o64
  have hp2 : 2 ^ n ≤ 64 := Nat.pow_le_pow_right (by decide) hn
  have hp1 : 1 ≤ 2 ^ n := Nat.one_le_two_pow
  refine lv_iload_n hF.1 hF.2.1 dX12_canHave_0 rfl (lv_at hl 3 rfl) ?_
  refine lv_if_ne (tgt := 19) hF.1 hF.2.1 dX12_canHave_1 (by decide) (fun c_1 => ?_) (fun c_1 => ?_)
  · --
    have n_1 : ¬ (2 = 0) := fun zz9 => c_1 ((nI_eq (a := 2) (b := 0) (by omega) (by omega)).mpr zz9)
    refine lv_aload_n hF.1 hF.2.1 dX12_canHave_19 rfl (lv_at hl 0 rfl) ?_
    refine lv_iload_n hF.1 hF.2.1 dX12_canHave_20 rfl (lv_at hl 1 rfl) ?_
    refine lv_iload_n hF.1 hF.2.1 dX12_canHave_21 rfl (lv_at hl 2 rfl) ?_
    refine lv_iload_n hF.1 hF.2.1 dX12_canHave_22 rfl (lv_at hl 3 rfl) ?_
    refine lv_iconst (v := (nI 1)) hF.1 hF.2.1 dX12_canHave_23 (by decide +kernel) ?_
    refine lv_isub hF.1 hF.2.1 dX12_canHave_24 ?_
    rw [show (nI 2 - nI 1 : Int32) = nI 1 from by decide +kernel]
    refine lv_iload hF.1 hF.2.1 dX12_canHave_25 (lv_at hl 4 rfl) ?_
    refine lv_if_ne (tgt := 34) hF.1 hF.2.1 dX12_canHave_27 (by decide) (fun c_27 => ?_) (fun c_27 => ?_)
    · --
      have n_27 : (mine) = true := b2i_nz.mp c_27
      subst n_27
      refine lv_iconst (v := (nI 0)) hF.1 hF.2.1 dX12_canHave_34 (by decide +kernel) ?_
      refine k_ci (r_V (As := [.int (nI d), .int (nI st), .int (nI 1), .int (nI 0)]) hF hK hA hG (c_X12_canHave_1 (mine := !true) hS hd hst) (cwV 4 hF.2.2.2.2 gX12_canHave_X12_canHave rfl rfl rfl (by decide +kernel) ⟨Nat.le_of_ble_eq_true rfl, Nat.le_of_ble_eq_true rfl⟩) 0 rfl rfl rfl rfl hl.1 rfl (lv_room (Nat.le_of_ble_eq_true rfl)) dX12_canHave_35 ⟨Nat.le_of_ble_eq_true rfl, Nat.le_of_ble_eq_true rfl⟩) hG (fun r_35 u_35 H locs hp_35 hG => ?_)
      subst hp_35
      refine lv_istore (lv' := [(5, .int (b2i (canU n kd fg d 1 (st) (!true)))), (0, .ref (ob 0)), (1, .int (nI d)), (2, .int (nI st)), (3, .int (nI 2)), (4, .int (b2i (true)))]) hF.1 hF.2.1 dX12_canHave_38 hl (by decide) rfl (fun ls hl => ?_)
      refine lv_iload hF.1 hF.2.1 dX12_canHave_40 (lv_at hl 0 rfl) ?_
      refine lv_iload hF.1 hF.2.1 dX12_canHave_42 (lv_at hl 5 rfl) ?_
      refine lv_icmp_ne (tgt := 50) hF.1 hF.2.1 dX12_canHave_44 (by decide) (fun c_44 => ?_) (fun c_44 => ?_)
      · --
        have m_44 : ¬ canU n kd fg d 1 (st) (!true) = true := fun h => c_44 (by rw [h])
        refine lv_iconst (v := (nI 0)) hF.1 hF.2.1 dX12_canHave_50 (by decide +kernel) ?_
        refine lv_istore (lv' := [(6, .int (nI 0)), (5, .int (b2i (canU n kd fg d 1 (st) (!true)))), (0, .ref (ob 0)), (1, .int (nI d)), (2, .int (nI st)), (3, .int (nI 2)), (4, .int (b2i (true)))]) hF.1 hF.2.1 dX12_canHave_51 hl (by decide) rfl (fun ls hl => ?_)
        have lp53 : ∀ (fuel : Nat), ∀ (i : Nat), (hi : i ≤ n) → (hz : ∀ q, q < i → mv (kd q) (fg q) q st = true → ¬ canU n kd fg d 1 (st ^^^ 2 ^ q) (!true) = true) → (n - i) < fuel → ∀ (H : Heap) (locs : List Loc), Gd D A (MW cA ob aS aI aR aM aK aT aZ aE aD aF aN aP aH vH vT vP vB vE vS) s.heap H locs → ∀ ls : Array Slot, lv_has ls 7 [(0, .ref (ob 0)), (1, .int (nI d)), (2, .int (nI st)), (3, .int (nI 2)), (4, .int (b2i (true))), (6, .int (nI i))] → W p l e rmX12_canHave_2 s m args below meth c H locs (0) (0) Q (F0 m 53 ls []) := by
          intro fuel
          induction fuel with
          | zero => intro i hi hz hmu; exact absurd hmu (Nat.not_lt_zero _)
          | succ fuel ih53 =>
            intro i hi hz hmu H locs hG ls hl
            refine lv_iload hF.1 hF.2.1 dX12_canHave_53 (lv_at hl 5 rfl) ?_
            refine lv_aload_n hF.1 hF.2.1 dX12_canHave_55 rfl (lv_at hl 0 rfl) ?_
            refine k_get (C := RX12) (T := TX12) (N := 19) hF hK hG (fun _ h => List.mem_cons_of_mem _ (List.mem_append_right _ h)) 0 rfl rfl 0 (by decide) (List.mem_of_getElem? (i := 1) rfl) (fun _ h9 => h9) rfl dX12_canHave_56 ?_
            refine lv_iconst (v := (nI 0)) hF.1 hF.2.1 dX12_canHave_59 (by decide +kernel) ?_
            refine k_ialdN hF hK hG 1 rfl (0) rfl (by omega) (by omega) dX12_canHave_60 ?_
            rw [hS.1]
            refine lv_icmp_ge (tgt := 112) hF.1 hF.2.1 dX12_canHave_61 (by decide) (fun c_61 => ?_) (fun c_61 => ?_)
            · --
              have n_61 : n ≤ i := (nI_leI (a := n) (b := i) (by omega) (by omega)).mp c_61
              refine lv_iload hF.1 hF.2.1 dX12_canHave_112 (lv_at hl 4 rfl) ?_
              refine lv_if_ne (tgt := 121) hF.1 hF.2.1 dX12_canHave_114 (by decide) (fun c_114 => ?_) (fun c_114 => ?_)
              · --
                have n_114 : (true) = true := b2i_nz.mp c_114
                refine lv_iconst (v := (nI 0)) hF.1 hF.2.1 dX12_canHave_121 (by decide +kernel) ?_
                exact hret _ () _ ls _ _ _ _ (by first | (rw [canU_a m_44]) | (rw [canU_b (by omega) n_71 m_100]) | (rw [canU_c m_44 (fun q hq => hz q (by omega))]; rfl)) (by first | rfl | exact nar_b2i _) hG (Nat.le_of_ble_eq_true rfl) (Nat.le_of_ble_eq_true rfl) dX12_canHave_122
              · --
                have n_114 : (true) = false := b2i_z.mp c_114
                cases n_114
            · --
              have n_61 : ¬ (n ≤ i) := fun zz9 => c_61 ((nI_leI (a := n) (b := i) (by omega) (by omega)).mpr zz9)
              refine lv_aload_n hF.1 hF.2.1 dX12_canHave_64 rfl (lv_at hl 0 rfl) ?_
              refine lv_iload hF.1 hF.2.1 dX12_canHave_65 (lv_at hl 5 rfl) ?_
              refine lv_iload_n hF.1 hF.2.1 dX12_canHave_67 rfl (lv_at hl 2 rfl) ?_
              refine k_ci (r_V (As := [.int (nI i), .int (nI st)]) hF hK hA hG (c_X12_may hS (by omega) (by omega)) (cwV 2 hF.2.2.2.2 gX12_canHave_X12_may rfl rfl rfl (by decide +kernel) ⟨Nat.le_of_ble_eq_true rfl, Nat.le_of_ble_eq_true rfl⟩) 0 rfl rfl rfl rfl hl.1 rfl (lv_room (Nat.le_of_ble_eq_true rfl)) dX12_canHave_68 ⟨Nat.le_of_ble_eq_true rfl, Nat.le_of_ble_eq_true rfl⟩) hG (fun r_68 u_68 H locs hp_68 hG => ?_)
              subst hp_68
              refine lv_if_eq (tgt := 106) hF.1 hF.2.1 dX12_canHave_71 (by decide) (fun c_71 => ?_) (fun c_71 => ?_)
              · --
                have n_71 : (mv (kd i) (fg i) i st) = false := b2i_z.mp c_71
                refine lv_iinc (v := (nI (i + 1))) (lv' := [(6, .int (nI (i + 1))), (0, .ref (ob 0)), (1, .int (nI d)), (2, .int (nI st)), (3, .int (nI 2)), (4, .int (b2i (true)))]) hF.1 hF.2.1 dX12_canHave_106 hl (k := 5) rfl (nI_inc _ _) (by decide) rfl (fun ls hl => ?_)
                refine lv_goto (tgt := 53) hF.1 hF.2.1 dX12_canHave_109 (by decide) ?_
                exact ih53 (i + 1) (by omega) (lt_s hz (fun hm => by first | exact m_100 | (rw [n_71] at hm; cases hm))) (by omega) _ _ hG ls (lv_sub hl [1, 2, 3, 4, 5, 0] rfl)
              · --
                have n_71 : (mv (kd i) (fg i) i st) = true := b2i_nz.mp c_71
                have hx := xor_ltn (n := n) (o := st) (j := i) hst (by omega)
                refine lv_aload_n hF.1 hF.2.1 dX12_canHave_74 rfl (lv_at hl 0 rfl) ?_
                refine lv_iload_n hF.1 hF.2.1 dX12_canHave_75 rfl (lv_at hl 1 rfl) ?_
                refine lv_iload_n hF.1 hF.2.1 dX12_canHave_76 rfl (lv_at hl 2 rfl) ?_
                refine lv_iconst (v := (nI 1)) hF.1 hF.2.1 dX12_canHave_77 (by decide +kernel) ?_
                refine lv_iload hF.1 hF.2.1 dX12_canHave_78 (lv_at hl 5 rfl) ?_
                refine lv_ishl hF.1 hF.2.1 dX12_canHave_80 ?_
                rw [shl_1 (by omega)]
                refine lv_ixor hF.1 hF.2.1 dX12_canHave_81 ?_
                rw [nx_xor]
                refine lv_iload_n hF.1 hF.2.1 dX12_canHave_82 rfl (lv_at hl 3 rfl) ?_
                refine lv_iconst (v := (nI 1)) hF.1 hF.2.1 dX12_canHave_83 (by decide +kernel) ?_
                refine lv_isub hF.1 hF.2.1 dX12_canHave_84 ?_
                rw [show (nI 2 - nI 1 : Int32) = nI 1 from by decide +kernel]
                refine lv_iload hF.1 hF.2.1 dX12_canHave_85 (lv_at hl 4 rfl) ?_
                refine lv_if_ne (tgt := 94) hF.1 hF.2.1 dX12_canHave_87 (by decide) (fun c_87 => ?_) (fun c_87 => ?_)
                · --
                  have n_87 : (true) = true := b2i_nz.mp c_87
                  refine lv_iconst (v := (nI 0)) hF.1 hF.2.1 dX12_canHave_94 (by decide +kernel) ?_
                  refine k_ci (r_V (As := [.int (nI d), .int (nI (st ^^^ 2 ^ i)), .int (nI 1), .int (nI 0)]) hF hK hA hG (c_X12_canHave_1 (mine := !true) hS hd hx) (cwV 4 hF.2.2.2.2 gX12_canHave_X12_canHave rfl rfl rfl (by decide +kernel) ⟨Nat.le_of_ble_eq_true rfl, Nat.le_of_ble_eq_true rfl⟩) 0 rfl rfl rfl rfl hl.1 rfl (lv_room (Nat.le_of_ble_eq_true rfl)) dX12_canHave_95 ⟨Nat.le_of_ble_eq_true rfl, Nat.le_of_ble_eq_true rfl⟩) hG (fun r_95 u_95 H locs hp_95 hG => ?_)
                  subst hp_95
                  refine lv_iload hF.1 hF.2.1 dX12_canHave_98 (lv_at hl 4 rfl) ?_
                  refine lv_icmp_ne (tgt := 106) hF.1 hF.2.1 dX12_canHave_100 (by decide) (fun c_100 => ?_) (fun c_100 => ?_)
                  · --
                    have m_100 : ¬ canU n kd fg d 1 (st ^^^ 2 ^ i) (!true) = true := fun h => c_100 (by rw [h])
                    refine lv_iinc (v := (nI (i + 1))) (lv' := [(6, .int (nI (i + 1))), (0, .ref (ob 0)), (1, .int (nI d)), (2, .int (nI st)), (3, .int (nI 2)), (4, .int (b2i (true)))]) hF.1 hF.2.1 dX12_canHave_106 hl (k := 5) rfl (nI_inc _ _) (by decide) rfl (fun ls hl => ?_)
                    refine lv_goto (tgt := 53) hF.1 hF.2.1 dX12_canHave_109 (by decide) ?_
                    exact ih53 (i + 1) (by omega) (lt_s hz (fun hm => by first | exact m_100 | (rw [n_71] at hm; cases hm))) (by omega) _ _ hG ls (lv_sub hl [1, 2, 3, 4, 5, 0] rfl)
                  · --
                    have m_100 : canU n kd fg d 1 (st ^^^ 2 ^ i) (!true) = true := b2i_inj c_100
                    refine lv_iload hF.1 hF.2.1 dX12_canHave_103 (lv_at hl 4 rfl) ?_
                    exact hret _ () _ ls _ _ _ _ (by first | (rw [canU_a m_44]) | (rw [canU_b (by omega) n_71 m_100]) | (rw [canU_c m_44 (fun q hq => hz q (by omega))]; rfl)) (by first | rfl | exact nar_b2i _) hG (Nat.le_of_ble_eq_true rfl) (Nat.le_of_ble_eq_true rfl) dX12_canHave_105
                · --
                  have n_87 : (true) = false := b2i_z.mp c_87
                  cases n_87
        exact lp53 _ (0) (by omega) (fun q h => absurd h (Nat.not_lt_zero q)) (Nat.lt_succ_self _) _ _ hG ls (lv_sub hl [2, 3, 4, 5, 6, 0] rfl)
      · --
        have m_44 : canU n kd fg d 1 (st) (!true) = true := b2i_inj c_44
        refine lv_iload hF.1 hF.2.1 dX12_canHave_47 (lv_at hl 5 rfl) ?_
        exact hret _ () _ ls _ _ _ _ (by first | (rw [canU_a m_44]) | (rw [canU_b (by omega) n_71 m_100]) | (rw [canU_c m_44 (fun q hq => hz q (by omega))]; rfl)) (by first | rfl | exact nar_b2i _) hG (Nat.le_of_ble_eq_true rfl) (Nat.le_of_ble_eq_true rfl) dX12_canHave_49
    · --
      have n_27 : (mine) = false := b2i_z.mp c_27
      subst n_27
      refine lv_iconst (v := (nI 1)) hF.1 hF.2.1 dX12_canHave_30 (by decide +kernel) ?_
      refine lv_goto (tgt := 35) hF.1 hF.2.1 dX12_canHave_31 (by decide) ?_
      refine k_ci (r_V (As := [.int (nI d), .int (nI st), .int (nI 1), .int (nI 1)]) hF hK hA hG (c_X12_canHave_1 (mine := !false) hS hd hst) (cwV 4 hF.2.2.2.2 gX12_canHave_X12_canHave rfl rfl rfl (by decide +kernel) ⟨Nat.le_of_ble_eq_true rfl, Nat.le_of_ble_eq_true rfl⟩) 0 rfl rfl rfl rfl hl.1 rfl (lv_room (Nat.le_of_ble_eq_true rfl)) dX12_canHave_35 ⟨Nat.le_of_ble_eq_true rfl, Nat.le_of_ble_eq_true rfl⟩) hG (fun r_35 u_35 H locs hp_35 hG => ?_)
      subst hp_35
      refine lv_istore (lv' := [(5, .int (b2i (canU n kd fg d 1 (st) (!false)))), (0, .ref (ob 0)), (1, .int (nI d)), (2, .int (nI st)), (3, .int (nI 2)), (4, .int (b2i (false)))]) hF.1 hF.2.1 dX12_canHave_38 hl (by decide) rfl (fun ls hl => ?_)
      refine lv_iload hF.1 hF.2.1 dX12_canHave_40 (lv_at hl 0 rfl) ?_
      refine lv_iload hF.1 hF.2.1 dX12_canHave_42 (lv_at hl 5 rfl) ?_
      refine lv_icmp_ne (tgt := 50) hF.1 hF.2.1 dX12_canHave_44 (by decide) (fun c_44 => ?_) (fun c_44 => ?_)
      · --
        have m_44 : ¬ canU n kd fg d 1 (st) (!false) = false := fun h => c_44 (by rw [h])
        refine lv_iconst (v := (nI 0)) hF.1 hF.2.1 dX12_canHave_50 (by decide +kernel) ?_
        refine lv_istore (lv' := [(6, .int (nI 0)), (5, .int (b2i (canU n kd fg d 1 (st) (!false)))), (0, .ref (ob 0)), (1, .int (nI d)), (2, .int (nI st)), (3, .int (nI 2)), (4, .int (b2i (false)))]) hF.1 hF.2.1 dX12_canHave_51 hl (by decide) rfl (fun ls hl => ?_)
        have lp53 : ∀ (fuel : Nat), ∀ (i : Nat), (hi : i ≤ n) → (hz : ∀ q, q < i → mv (kd q) (fg q) q st = true → ¬ canU n kd fg d 1 (st ^^^ 2 ^ q) (!false) = false) → (n - i) < fuel → ∀ (H : Heap) (locs : List Loc), Gd D A (MW cA ob aS aI aR aM aK aT aZ aE aD aF aN aP aH vH vT vP vB vE vS) s.heap H locs → ∀ ls : Array Slot, lv_has ls 7 [(0, .ref (ob 0)), (1, .int (nI d)), (2, .int (nI st)), (3, .int (nI 2)), (4, .int (b2i (false))), (6, .int (nI i))] → W p l e rmX12_canHave_2 s m args below meth c H locs (0) (0) Q (F0 m 53 ls []) := by
          intro fuel
          induction fuel with
          | zero => intro i hi hz hmu; exact absurd hmu (Nat.not_lt_zero _)
          | succ fuel ih53 =>
            intro i hi hz hmu H locs hG ls hl
            refine lv_iload hF.1 hF.2.1 dX12_canHave_53 (lv_at hl 5 rfl) ?_
            refine lv_aload_n hF.1 hF.2.1 dX12_canHave_55 rfl (lv_at hl 0 rfl) ?_
            refine k_get (C := RX12) (T := TX12) (N := 19) hF hK hG (fun _ h => List.mem_cons_of_mem _ (List.mem_append_right _ h)) 0 rfl rfl 0 (by decide) (List.mem_of_getElem? (i := 1) rfl) (fun _ h9 => h9) rfl dX12_canHave_56 ?_
            refine lv_iconst (v := (nI 0)) hF.1 hF.2.1 dX12_canHave_59 (by decide +kernel) ?_
            refine k_ialdN hF hK hG 1 rfl (0) rfl (by omega) (by omega) dX12_canHave_60 ?_
            rw [hS.1]
            refine lv_icmp_ge (tgt := 112) hF.1 hF.2.1 dX12_canHave_61 (by decide) (fun c_61 => ?_) (fun c_61 => ?_)
            · --
              have n_61 : n ≤ i := (nI_leI (a := n) (b := i) (by omega) (by omega)).mp c_61
              refine lv_iload hF.1 hF.2.1 dX12_canHave_112 (lv_at hl 4 rfl) ?_
              refine lv_if_ne (tgt := 121) hF.1 hF.2.1 dX12_canHave_114 (by decide) (fun c_114 => ?_) (fun c_114 => ?_)
              · --
                have n_114 : (false) = true := b2i_nz.mp c_114
                cases n_114
              · --
                have n_114 : (false) = false := b2i_z.mp c_114
                refine lv_iconst (v := (nI 1)) hF.1 hF.2.1 dX12_canHave_117 (by decide +kernel) ?_
                refine lv_goto (tgt := 122) hF.1 hF.2.1 dX12_canHave_118 (by decide) ?_
                exact hret _ () _ ls _ _ _ _ (by first | (rw [canU_a m_44]) | (rw [canU_b (by omega) n_71 m_100]) | (rw [canU_c m_44 (fun q hq => hz q (by omega))]; rfl)) (by first | rfl | exact nar_b2i _) hG (Nat.le_of_ble_eq_true rfl) (Nat.le_of_ble_eq_true rfl) dX12_canHave_122
            · --
              have n_61 : ¬ (n ≤ i) := fun zz9 => c_61 ((nI_leI (a := n) (b := i) (by omega) (by omega)).mpr zz9)
              refine lv_aload_n hF.1 hF.2.1 dX12_canHave_64 rfl (lv_at hl 0 rfl) ?_
              refine lv_iload hF.1 hF.2.1 dX12_canHave_65 (lv_at hl 5 rfl) ?_
              refine lv_iload_n hF.1 hF.2.1 dX12_canHave_67 rfl (lv_at hl 2 rfl) ?_
              refine k_ci (r_V (As := [.int (nI i), .int (nI st)]) hF hK hA hG (c_X12_may hS (by omega) (by omega)) (cwV 2 hF.2.2.2.2 gX12_canHave_X12_may rfl rfl rfl (by decide +kernel) ⟨Nat.le_of_ble_eq_true rfl, Nat.le_of_ble_eq_true rfl⟩) 0 rfl rfl rfl rfl hl.1 rfl (lv_room (Nat.le_of_ble_eq_true rfl)) dX12_canHave_68 ⟨Nat.le_of_ble_eq_true rfl, Nat.le_of_ble_eq_true rfl⟩) hG (fun r_68 u_68 H locs hp_68 hG => ?_)
              subst hp_68
              refine lv_if_eq (tgt := 106) hF.1 hF.2.1 dX12_canHave_71 (by decide) (fun c_71 => ?_) (fun c_71 => ?_)
              · --
                have n_71 : (mv (kd i) (fg i) i st) = false := b2i_z.mp c_71
                refine lv_iinc (v := (nI (i + 1))) (lv' := [(6, .int (nI (i + 1))), (0, .ref (ob 0)), (1, .int (nI d)), (2, .int (nI st)), (3, .int (nI 2)), (4, .int (b2i (false)))]) hF.1 hF.2.1 dX12_canHave_106 hl (k := 5) rfl (nI_inc _ _) (by decide) rfl (fun ls hl => ?_)
                refine lv_goto (tgt := 53) hF.1 hF.2.1 dX12_canHave_109 (by decide) ?_
                exact ih53 (i + 1) (by omega) (lt_s hz (fun hm => by first | exact m_100 | (rw [n_71] at hm; cases hm))) (by omega) _ _ hG ls (lv_sub hl [1, 2, 3, 4, 5, 0] rfl)
              · --
                have n_71 : (mv (kd i) (fg i) i st) = true := b2i_nz.mp c_71
                have hx := xor_ltn (n := n) (o := st) (j := i) hst (by omega)
                refine lv_aload_n hF.1 hF.2.1 dX12_canHave_74 rfl (lv_at hl 0 rfl) ?_
                refine lv_iload_n hF.1 hF.2.1 dX12_canHave_75 rfl (lv_at hl 1 rfl) ?_
                refine lv_iload_n hF.1 hF.2.1 dX12_canHave_76 rfl (lv_at hl 2 rfl) ?_
                refine lv_iconst (v := (nI 1)) hF.1 hF.2.1 dX12_canHave_77 (by decide +kernel) ?_
                refine lv_iload hF.1 hF.2.1 dX12_canHave_78 (lv_at hl 5 rfl) ?_
                refine lv_ishl hF.1 hF.2.1 dX12_canHave_80 ?_
                rw [shl_1 (by omega)]
                refine lv_ixor hF.1 hF.2.1 dX12_canHave_81 ?_
                rw [nx_xor]
                refine lv_iload_n hF.1 hF.2.1 dX12_canHave_82 rfl (lv_at hl 3 rfl) ?_
                refine lv_iconst (v := (nI 1)) hF.1 hF.2.1 dX12_canHave_83 (by decide +kernel) ?_
                refine lv_isub hF.1 hF.2.1 dX12_canHave_84 ?_
                rw [show (nI 2 - nI 1 : Int32) = nI 1 from by decide +kernel]
                refine lv_iload hF.1 hF.2.1 dX12_canHave_85 (lv_at hl 4 rfl) ?_
                refine lv_if_ne (tgt := 94) hF.1 hF.2.1 dX12_canHave_87 (by decide) (fun c_87 => ?_) (fun c_87 => ?_)
                · --
                  have n_87 : (false) = true := b2i_nz.mp c_87
                  cases n_87
                · --
                  have n_87 : (false) = false := b2i_z.mp c_87
                  refine lv_iconst (v := (nI 1)) hF.1 hF.2.1 dX12_canHave_90 (by decide +kernel) ?_
                  refine lv_goto (tgt := 95) hF.1 hF.2.1 dX12_canHave_91 (by decide) ?_
                  refine k_ci (r_V (As := [.int (nI d), .int (nI (st ^^^ 2 ^ i)), .int (nI 1), .int (nI 1)]) hF hK hA hG (c_X12_canHave_1 (mine := !false) hS hd hx) (cwV 4 hF.2.2.2.2 gX12_canHave_X12_canHave rfl rfl rfl (by decide +kernel) ⟨Nat.le_of_ble_eq_true rfl, Nat.le_of_ble_eq_true rfl⟩) 0 rfl rfl rfl rfl hl.1 rfl (lv_room (Nat.le_of_ble_eq_true rfl)) dX12_canHave_95 ⟨Nat.le_of_ble_eq_true rfl, Nat.le_of_ble_eq_true rfl⟩) hG (fun r_95 u_95 H locs hp_95 hG => ?_)
                  subst hp_95
                  refine lv_iload hF.1 hF.2.1 dX12_canHave_98 (lv_at hl 4 rfl) ?_
                  refine lv_icmp_ne (tgt := 106) hF.1 hF.2.1 dX12_canHave_100 (by decide) (fun c_100 => ?_) (fun c_100 => ?_)
                  · --
                    have m_100 : ¬ canU n kd fg d 1 (st ^^^ 2 ^ i) (!false) = false := fun h => c_100 (by rw [h])
                    refine lv_iinc (v := (nI (i + 1))) (lv' := [(6, .int (nI (i + 1))), (0, .ref (ob 0)), (1, .int (nI d)), (2, .int (nI st)), (3, .int (nI 2)), (4, .int (b2i (false)))]) hF.1 hF.2.1 dX12_canHave_106 hl (k := 5) rfl (nI_inc _ _) (by decide) rfl (fun ls hl => ?_)
                    refine lv_goto (tgt := 53) hF.1 hF.2.1 dX12_canHave_109 (by decide) ?_
                    exact ih53 (i + 1) (by omega) (lt_s hz (fun hm => by first | exact m_100 | (rw [n_71] at hm; cases hm))) (by omega) _ _ hG ls (lv_sub hl [1, 2, 3, 4, 5, 0] rfl)
                  · --
                    have m_100 : canU n kd fg d 1 (st ^^^ 2 ^ i) (!false) = false := b2i_inj c_100
                    refine lv_iload hF.1 hF.2.1 dX12_canHave_103 (lv_at hl 4 rfl) ?_
                    exact hret _ () _ ls _ _ _ _ (by first | (rw [canU_a m_44]) | (rw [canU_b (by omega) n_71 m_100]) | (rw [canU_c m_44 (fun q hq => hz q (by omega))]; rfl)) (by first | rfl | exact nar_b2i _) hG (Nat.le_of_ble_eq_true rfl) (Nat.le_of_ble_eq_true rfl) dX12_canHave_105
        exact lp53 _ (0) (by omega) (fun q h => absurd h (Nat.not_lt_zero q)) (Nat.lt_succ_self _) _ _ hG ls (lv_sub hl [2, 3, 4, 5, 6, 0] rfl)
      · --
        have m_44 : canU n kd fg d 1 (st) (!false) = false := b2i_inj c_44
        refine lv_iload hF.1 hF.2.1 dX12_canHave_47 (lv_at hl 5 rfl) ?_
        exact hret _ () _ ls _ _ _ _ (by first | (rw [canU_a m_44]) | (rw [canU_b (by omega) n_71 m_100]) | (rw [canU_c m_44 (fun q hq => hz q (by omega))]; rfl)) (by first | rfl | exact nar_b2i _) hG (Nat.le_of_ble_eq_true rfl) (Nat.le_of_ble_eq_true rfl) dX12_canHave_49
  · --
    have n_1 : 2 = 0 := (nI_eq (a := 2) (b := 0) (by omega) (by omega)).mp c_1
    exact absurd n_1 (by decide)

abbrev rmX12_canHave_3 : Room := { frames := 4, cells := 0, slots := 0, locals := 98 }
set_option maxHeartbeats 4000000 in
set_option maxRecDepth 100000 in
theorem c_X12_canHave_3 {l : Launch} {D : va_G} {cA : Nat → ClassId} {A : Nat → Prop}  {ob : Nat → Nat} {aS aI aR aM aK aT aZ aE aD aF aN aP aH : Nat → Int32} {vH vT vP vB vE vS : Int32} {n o : Nat} {kd fg : Nat → Nat} (hS : SR aS n o kd fg) {d st : Nat} (hd : d < n) (hst : st < 2 ^ n) {mine : Bool} : Met l yX12_canHave wsX12_canHave rmX12_canHave_3 (va_Pc [.ref (ob 0), .int (nI d), .int (nI st), .int (nI 3), .int (b2i (mine))] (Pre D cA A (MW cA ob aS aI aR aM aK aT aZ aE aD aF aN aP aH vH vT vP vB vE vS))) (va_Qi (fun r _ => r = b2i (canU n kd fg d 3 st mine)) (fun u t => Wd D A ((fun (_ : Unit) => MW cA ob aS aI aR aM aK aT aZ aE aD aF aN aP aH vH vT vP vB vE vS) u) t) A) (0) (0) A := by
  refine k_ofi (S := Unit) (F := fun (_ : Unit) => MW cA ob aS aI aR aM aK aT aZ aE aD aF aN aP aH vH vT vP vB vE vS) (cc := cX12_canHave) (maxL := 7) (by decide) rfl (Nat.le_of_ble_eq_true rfl) ?_
  intro p e s m args below meth c Q hF hini hK hA hG hret ls hl
  have hl : lv_has ls 7 [(0, .ref (ob 0)), (1, .int (nI d)), (2, .int (nI st)), (3, .int (nI 3)), (4, .int (b2i (mine)))] := hl
  have hn : n ≤ 6 := hS.2.2.1
  have ho : o < 64 := hS.o64
  have hp2 : 2 ^ n ≤ 64 := Nat.pow_le_pow_right (by decide) hn
  have hp1 : 1 ≤ 2 ^ n := Nat.one_le_two_pow
  refine lv_iload_n hF.1 hF.2.1 dX12_canHave_0 rfl (lv_at hl 3 rfl) ?_
  refine lv_if_ne (tgt := 19) hF.1 hF.2.1 dX12_canHave_1 (by decide) (fun c_1 => ?_) (fun c_1 => ?_)
  · --
    have n_1 : ¬ (3 = 0) := fun zz9 => c_1 ((nI_eq (a := 3) (b := 0) (by omega) (by omega)).mpr zz9)
    refine lv_aload_n hF.1 hF.2.1 dX12_canHave_19 rfl (lv_at hl 0 rfl) ?_
    refine lv_iload_n hF.1 hF.2.1 dX12_canHave_20 rfl (lv_at hl 1 rfl) ?_
    refine lv_iload_n hF.1 hF.2.1 dX12_canHave_21 rfl (lv_at hl 2 rfl) ?_
    refine lv_iload_n hF.1 hF.2.1 dX12_canHave_22 rfl (lv_at hl 3 rfl) ?_
    refine lv_iconst (v := (nI 1)) hF.1 hF.2.1 dX12_canHave_23 (by decide +kernel) ?_
    refine lv_isub hF.1 hF.2.1 dX12_canHave_24 ?_
    rw [show (nI 3 - nI 1 : Int32) = nI 2 from by decide +kernel]
    refine lv_iload hF.1 hF.2.1 dX12_canHave_25 (lv_at hl 4 rfl) ?_
    refine lv_if_ne (tgt := 34) hF.1 hF.2.1 dX12_canHave_27 (by decide) (fun c_27 => ?_) (fun c_27 => ?_)
    · --
      have n_27 : (mine) = true := b2i_nz.mp c_27
      subst n_27
      refine lv_iconst (v := (nI 0)) hF.1 hF.2.1 dX12_canHave_34 (by decide +kernel) ?_
      refine k_ci (r_V (As := [.int (nI d), .int (nI st), .int (nI 2), .int (nI 0)]) hF hK hA hG (c_X12_canHave_2 (mine := !true) hS hd hst) (cwV 4 hF.2.2.2.2 gX12_canHave_X12_canHave rfl rfl rfl (by decide +kernel) ⟨Nat.le_of_ble_eq_true rfl, Nat.le_of_ble_eq_true rfl⟩) 0 rfl rfl rfl rfl hl.1 rfl (lv_room (Nat.le_of_ble_eq_true rfl)) dX12_canHave_35 ⟨Nat.le_of_ble_eq_true rfl, Nat.le_of_ble_eq_true rfl⟩) hG (fun r_35 u_35 H locs hp_35 hG => ?_)
      subst hp_35
      refine lv_istore (lv' := [(5, .int (b2i (canU n kd fg d 2 (st) (!true)))), (0, .ref (ob 0)), (1, .int (nI d)), (2, .int (nI st)), (3, .int (nI 3)), (4, .int (b2i (true)))]) hF.1 hF.2.1 dX12_canHave_38 hl (by decide) rfl (fun ls hl => ?_)
      refine lv_iload hF.1 hF.2.1 dX12_canHave_40 (lv_at hl 0 rfl) ?_
      refine lv_iload hF.1 hF.2.1 dX12_canHave_42 (lv_at hl 5 rfl) ?_
      refine lv_icmp_ne (tgt := 50) hF.1 hF.2.1 dX12_canHave_44 (by decide) (fun c_44 => ?_) (fun c_44 => ?_)
      · --
        have m_44 : ¬ canU n kd fg d 2 (st) (!true) = true := fun h => c_44 (by rw [h])
        refine lv_iconst (v := (nI 0)) hF.1 hF.2.1 dX12_canHave_50 (by decide +kernel) ?_
        refine lv_istore (lv' := [(6, .int (nI 0)), (5, .int (b2i (canU n kd fg d 2 (st) (!true)))), (0, .ref (ob 0)), (1, .int (nI d)), (2, .int (nI st)), (3, .int (nI 3)), (4, .int (b2i (true)))]) hF.1 hF.2.1 dX12_canHave_51 hl (by decide) rfl (fun ls hl => ?_)
        have lp53 : ∀ (fuel : Nat), ∀ (i : Nat), (hi : i ≤ n) → (hz : ∀ q, q < i → mv (kd q) (fg q) q st = true → ¬ canU n kd fg d 2 (st ^^^ 2 ^ q) (!true) = true) → (n - i) < fuel → ∀ (H : Heap) (locs : List Loc), Gd D A (MW cA ob aS aI aR aM aK aT aZ aE aD aF aN aP aH vH vT vP vB vE vS) s.heap H locs → ∀ ls : Array Slot, lv_has ls 7 [(0, .ref (ob 0)), (1, .int (nI d)), (2, .int (nI st)), (3, .int (nI 3)), (4, .int (b2i (true))), (6, .int (nI i))] → W p l e rmX12_canHave_3 s m args below meth c H locs (0) (0) Q (F0 m 53 ls []) := by
          intro fuel
          induction fuel with
          | zero => intro i hi hz hmu; exact absurd hmu (Nat.not_lt_zero _)
          | succ fuel ih53 =>
            intro i hi hz hmu H locs hG ls hl
            refine lv_iload hF.1 hF.2.1 dX12_canHave_53 (lv_at hl 5 rfl) ?_
            refine lv_aload_n hF.1 hF.2.1 dX12_canHave_55 rfl (lv_at hl 0 rfl) ?_
            refine k_get (C := RX12) (T := TX12) (N := 19) hF hK hG (fun _ h => List.mem_cons_of_mem _ (List.mem_append_right _ h)) 0 rfl rfl 0 (by decide) (List.mem_of_getElem? (i := 1) rfl) (fun _ h9 => h9) rfl dX12_canHave_56 ?_
            refine lv_iconst (v := (nI 0)) hF.1 hF.2.1 dX12_canHave_59 (by decide +kernel) ?_
            refine k_ialdN hF hK hG 1 rfl (0) rfl (by omega) (by omega) dX12_canHave_60 ?_
            rw [hS.1]
            refine lv_icmp_ge (tgt := 112) hF.1 hF.2.1 dX12_canHave_61 (by decide) (fun c_61 => ?_) (fun c_61 => ?_)
            · --
              have n_61 : n ≤ i := (nI_leI (a := n) (b := i) (by omega) (by omega)).mp c_61
              refine lv_iload hF.1 hF.2.1 dX12_canHave_112 (lv_at hl 4 rfl) ?_
              refine lv_if_ne (tgt := 121) hF.1 hF.2.1 dX12_canHave_114 (by decide) (fun c_114 => ?_) (fun c_114 => ?_)
              · --
                have n_114 : (true) = true := b2i_nz.mp c_114
                refine lv_iconst (v := (nI 0)) hF.1 hF.2.1 dX12_canHave_121 (by decide +kernel) ?_
                exact hret _ () _ ls _ _ _ _ (by first | (rw [canU_a m_44]) | (rw [canU_b (by omega) n_71 m_100]) | (rw [canU_c m_44 (fun q hq => hz q (by omega))]; rfl)) (by first | rfl | exact nar_b2i _) hG (Nat.le_of_ble_eq_true rfl) (Nat.le_of_ble_eq_true rfl) dX12_canHave_122
              · --
                have n_114 : (true) = false := b2i_z.mp c_114
                cases n_114
            · --
              have n_61 : ¬ (n ≤ i) := fun zz9 => c_61 ((nI_leI (a := n) (b := i) (by omega) (by omega)).mpr zz9)
              refine lv_aload_n hF.1 hF.2.1 dX12_canHave_64 rfl (lv_at hl 0 rfl) ?_
              refine lv_iload hF.1 hF.2.1 dX12_canHave_65 (lv_at hl 5 rfl) ?_
              refine lv_iload_n hF.1 hF.2.1 dX12_canHave_67 rfl (lv_at hl 2 rfl) ?_
              refine k_ci (r_V (As := [.int (nI i), .int (nI st)]) hF hK hA hG (c_X12_may hS (by omega) (by omega)) (cwV 2 hF.2.2.2.2 gX12_canHave_X12_may rfl rfl rfl (by decide +kernel) ⟨Nat.le_of_ble_eq_true rfl, Nat.le_of_ble_eq_true rfl⟩) 0 rfl rfl rfl rfl hl.1 rfl (lv_room (Nat.le_of_ble_eq_true rfl)) dX12_canHave_68 ⟨Nat.le_of_ble_eq_true rfl, Nat.le_of_ble_eq_true rfl⟩) hG (fun r_68 u_68 H locs hp_68 hG => ?_)
              subst hp_68
              refine lv_if_eq (tgt := 106) hF.1 hF.2.1 dX12_canHave_71 (by decide) (fun c_71 => ?_) (fun c_71 => ?_)
              · --
                have n_71 : (mv (kd i) (fg i) i st) = false := b2i_z.mp c_71
                refine lv_iinc (v := (nI (i + 1))) (lv' := [(6, .int (nI (i + 1))), (0, .ref (ob 0)), (1, .int (nI d)), (2, .int (nI st)), (3, .int (nI 3)), (4, .int (b2i (true)))]) hF.1 hF.2.1 dX12_canHave_106 hl (k := 5) rfl (nI_inc _ _) (by decide) rfl (fun ls hl => ?_)
                refine lv_goto (tgt := 53) hF.1 hF.2.1 dX12_canHave_109 (by decide) ?_
                exact ih53 (i + 1) (by omega) (lt_s hz (fun hm => by first | exact m_100 | (rw [n_71] at hm; cases hm))) (by omega) _ _ hG ls (lv_sub hl [1, 2, 3, 4, 5, 0] rfl)
              · --
                have n_71 : (mv (kd i) (fg i) i st) = true := b2i_nz.mp c_71
                have hx := xor_ltn (n := n) (o := st) (j := i) hst (by omega)
                refine lv_aload_n hF.1 hF.2.1 dX12_canHave_74 rfl (lv_at hl 0 rfl) ?_
                refine lv_iload_n hF.1 hF.2.1 dX12_canHave_75 rfl (lv_at hl 1 rfl) ?_
                refine lv_iload_n hF.1 hF.2.1 dX12_canHave_76 rfl (lv_at hl 2 rfl) ?_
                refine lv_iconst (v := (nI 1)) hF.1 hF.2.1 dX12_canHave_77 (by decide +kernel) ?_
                refine lv_iload hF.1 hF.2.1 dX12_canHave_78 (lv_at hl 5 rfl) ?_
                refine lv_ishl hF.1 hF.2.1 dX12_canHave_80 ?_
                rw [shl_1 (by omega)]
                refine lv_ixor hF.1 hF.2.1 dX12_canHave_81 ?_
                rw [nx_xor]
                refine lv_iload_n hF.1 hF.2.1 dX12_canHave_82 rfl (lv_at hl 3 rfl) ?_
                refine lv_iconst (v := (nI 1)) hF.1 hF.2.1 dX12_canHave_83 (by decide +kernel) ?_
                refine lv_isub hF.1 hF.2.1 dX12_canHave_84 ?_
                rw [show (nI 3 - nI 1 : Int32) = nI 2 from by decide +kernel]
                refine lv_iload hF.1 hF.2.1 dX12_canHave_85 (lv_at hl 4 rfl) ?_
                refine lv_if_ne (tgt := 94) hF.1 hF.2.1 dX12_canHave_87 (by decide) (fun c_87 => ?_) (fun c_87 => ?_)
                · --
                  have n_87 : (true) = true := b2i_nz.mp c_87
                  refine lv_iconst (v := (nI 0)) hF.1 hF.2.1 dX12_canHave_94 (by decide +kernel) ?_
                  refine k_ci (r_V (As := [.int (nI d), .int (nI (st ^^^ 2 ^ i)), .int (nI 2), .int (nI 0)]) hF hK hA hG (c_X12_canHave_2 (mine := !true) hS hd hx) (cwV 4 hF.2.2.2.2 gX12_canHave_X12_canHave rfl rfl rfl (by decide +kernel) ⟨Nat.le_of_ble_eq_true rfl, Nat.le_of_ble_eq_true rfl⟩) 0 rfl rfl rfl rfl hl.1 rfl (lv_room (Nat.le_of_ble_eq_true rfl)) dX12_canHave_95 ⟨Nat.le_of_ble_eq_true rfl, Nat.le_of_ble_eq_true rfl⟩) hG (fun r_95 u_95 H locs hp_95 hG => ?_)
                  subst hp_95
                  refine lv_iload hF.1 hF.2.1 dX12_canHave_98 (lv_at hl 4 rfl) ?_
                  refine lv_icmp_ne (tgt := 106) hF.1 hF.2.1 dX12_canHave_100 (by decide) (fun c_100 => ?_) (fun c_100 => ?_)
                  · --
                    have m_100 : ¬ canU n kd fg d 2 (st ^^^ 2 ^ i) (!true) = true := fun h => c_100 (by rw [h])
                    refine lv_iinc (v := (nI (i + 1))) (lv' := [(6, .int (nI (i + 1))), (0, .ref (ob 0)), (1, .int (nI d)), (2, .int (nI st)), (3, .int (nI 3)), (4, .int (b2i (true)))]) hF.1 hF.2.1 dX12_canHave_106 hl (k := 5) rfl (nI_inc _ _) (by decide) rfl (fun ls hl => ?_)
                    refine lv_goto (tgt := 53) hF.1 hF.2.1 dX12_canHave_109 (by decide) ?_
                    exact ih53 (i + 1) (by omega) (lt_s hz (fun hm => by first | exact m_100 | (rw [n_71] at hm; cases hm))) (by omega) _ _ hG ls (lv_sub hl [1, 2, 3, 4, 5, 0] rfl)
                  · --
                    have m_100 : canU n kd fg d 2 (st ^^^ 2 ^ i) (!true) = true := b2i_inj c_100
                    refine lv_iload hF.1 hF.2.1 dX12_canHave_103 (lv_at hl 4 rfl) ?_
                    exact hret _ () _ ls _ _ _ _ (by first | (rw [canU_a m_44]) | (rw [canU_b (by omega) n_71 m_100]) | (rw [canU_c m_44 (fun q hq => hz q (by omega))]; rfl)) (by first | rfl | exact nar_b2i _) hG (Nat.le_of_ble_eq_true rfl) (Nat.le_of_ble_eq_true rfl) dX12_canHave_105
                · --
                  have n_87 : (true) = false := b2i_z.mp c_87
                  cases n_87
        exact lp53 _ (0) (by omega) (fun q h => absurd h (Nat.not_lt_zero q)) (Nat.lt_succ_self _) _ _ hG ls (lv_sub hl [2, 3, 4, 5, 6, 0] rfl)
      · --
        have m_44 : canU n kd fg d 2 (st) (!true) = true := b2i_inj c_44
        refine lv_iload hF.1 hF.2.1 dX12_canHave_47 (lv_at hl 5 rfl) ?_
        exact hret _ () _ ls _ _ _ _ (by first | (rw [canU_a m_44]) | (rw [canU_b (by omega) n_71 m_100]) | (rw [canU_c m_44 (fun q hq => hz q (by omega))]; rfl)) (by first | rfl | exact nar_b2i _) hG (Nat.le_of_ble_eq_true rfl) (Nat.le_of_ble_eq_true rfl) dX12_canHave_49
    · --
      have n_27 : (mine) = false := b2i_z.mp c_27
      subst n_27
      refine lv_iconst (v := (nI 1)) hF.1 hF.2.1 dX12_canHave_30 (by decide +kernel) ?_
      refine lv_goto (tgt := 35) hF.1 hF.2.1 dX12_canHave_31 (by decide) ?_
      refine k_ci (r_V (As := [.int (nI d), .int (nI st), .int (nI 2), .int (nI 1)]) hF hK hA hG (c_X12_canHave_2 (mine := !false) hS hd hst) (cwV 4 hF.2.2.2.2 gX12_canHave_X12_canHave rfl rfl rfl (by decide +kernel) ⟨Nat.le_of_ble_eq_true rfl, Nat.le_of_ble_eq_true rfl⟩) 0 rfl rfl rfl rfl hl.1 rfl (lv_room (Nat.le_of_ble_eq_true rfl)) dX12_canHave_35 ⟨Nat.le_of_ble_eq_true rfl, Nat.le_of_ble_eq_true rfl⟩) hG (fun r_35 u_35 H locs hp_35 hG => ?_)
      subst hp_35
      refine lv_istore (lv' := [(5, .int (b2i (canU n kd fg d 2 (st) (!false)))), (0, .ref (ob 0)), (1, .int (nI d)), (2, .int (nI st)), (3, .int (nI 3)), (4, .int (b2i (false)))]) hF.1 hF.2.1 dX12_canHave_38 hl (by decide) rfl (fun ls hl => ?_)
      refine lv_iload hF.1 hF.2.1 dX12_canHave_40 (lv_at hl 0 rfl) ?_
      refine lv_iload hF.1 hF.2.1 dX12_canHave_42 (lv_at hl 5 rfl) ?_
      refine lv_icmp_ne (tgt := 50) hF.1 hF.2.1 dX12_canHave_44 (by decide) (fun c_44 => ?_) (fun c_44 => ?_)
      · --
        have m_44 : ¬ canU n kd fg d 2 (st) (!false) = false := fun h => c_44 (by rw [h])
        refine lv_iconst (v := (nI 0)) hF.1 hF.2.1 dX12_canHave_50 (by decide +kernel) ?_
        refine lv_istore (lv' := [(6, .int (nI 0)), (5, .int (b2i (canU n kd fg d 2 (st) (!false)))), (0, .ref (ob 0)), (1, .int (nI d)), (2, .int (nI st)), (3, .int (nI 3)), (4, .int (b2i (false)))]) hF.1 hF.2.1 dX12_canHave_51 hl (by decide) rfl (fun ls hl => ?_)
        have lp53 : ∀ (fuel : Nat), ∀ (i : Nat), (hi : i ≤ n) → (hz : ∀ q, q < i → mv (kd q) (fg q) q st = true → ¬ canU n kd fg d 2 (st ^^^ 2 ^ q) (!false) = false) → (n - i) < fuel → ∀ (H : Heap) (locs : List Loc), Gd D A (MW cA ob aS aI aR aM aK aT aZ aE aD aF aN aP aH vH vT vP vB vE vS) s.heap H locs → ∀ ls : Array Slot, lv_has ls 7 [(0, .ref (ob 0)), (1, .int (nI d)), (2, .int (nI st)), (3, .int (nI 3)), (4, .int (b2i (false))), (6, .int (nI i))] → W p l e rmX12_canHave_3 s m args below meth c H locs (0) (0) Q (F0 m 53 ls []) := by
          intro fuel
          induction fuel with
          | zero => intro i hi hz hmu; exact absurd hmu (Nat.not_lt_zero _)
          | succ fuel ih53 =>
            intro i hi hz hmu H locs hG ls hl
            refine lv_iload hF.1 hF.2.1 dX12_canHave_53 (lv_at hl 5 rfl) ?_
            refine lv_aload_n hF.1 hF.2.1 dX12_canHave_55 rfl (lv_at hl 0 rfl) ?_
            refine k_get (C := RX12) (T := TX12) (N := 19) hF hK hG (fun _ h => List.mem_cons_of_mem _ (List.mem_append_right _ h)) 0 rfl rfl 0 (by decide) (List.mem_of_getElem? (i := 1) rfl) (fun _ h9 => h9) rfl dX12_canHave_56 ?_
            refine lv_iconst (v := (nI 0)) hF.1 hF.2.1 dX12_canHave_59 (by decide +kernel) ?_
            refine k_ialdN hF hK hG 1 rfl (0) rfl (by omega) (by omega) dX12_canHave_60 ?_
            rw [hS.1]
            refine lv_icmp_ge (tgt := 112) hF.1 hF.2.1 dX12_canHave_61 (by decide) (fun c_61 => ?_) (fun c_61 => ?_)
            · --
              have n_61 : n ≤ i := (nI_leI (a := n) (b := i) (by omega) (by omega)).mp c_61
              refine lv_iload hF.1 hF.2.1 dX12_canHave_112 (lv_at hl 4 rfl) ?_
              refine lv_if_ne (tgt := 121) hF.1 hF.2.1 dX12_canHave_114 (by decide) (fun c_114 => ?_) (fun c_114 => ?_)
              · --
                have n_114 : (false) = true := b2i_nz.mp c_114
                cases n_114
              · --
                have n_114 : (false) = false := b2i_z.mp c_114
                refine lv_iconst (v := (nI 1)) hF.1 hF.2.1 dX12_canHave_117 (by decide +kernel) ?_
                refine lv_goto (tgt := 122) hF.1 hF.2.1 dX12_canHave_118 (by decide) ?_
                exact hret _ () _ ls _ _ _ _ (by first | (rw [canU_a m_44]) | (rw [canU_b (by omega) n_71 m_100]) | (rw [canU_c m_44 (fun q hq => hz q (by omega))]; rfl)) (by first | rfl | exact nar_b2i _) hG (Nat.le_of_ble_eq_true rfl) (Nat.le_of_ble_eq_true rfl) dX12_canHave_122
            · --
              have n_61 : ¬ (n ≤ i) := fun zz9 => c_61 ((nI_leI (a := n) (b := i) (by omega) (by omega)).mpr zz9)
              refine lv_aload_n hF.1 hF.2.1 dX12_canHave_64 rfl (lv_at hl 0 rfl) ?_
              refine lv_iload hF.1 hF.2.1 dX12_canHave_65 (lv_at hl 5 rfl) ?_
              refine lv_iload_n hF.1 hF.2.1 dX12_canHave_67 rfl (lv_at hl 2 rfl) ?_
              refine k_ci (r_V (As := [.int (nI i), .int (nI st)]) hF hK hA hG (c_X12_may hS (by omega) (by omega)) (cwV 2 hF.2.2.2.2 gX12_canHave_X12_may rfl rfl rfl (by decide +kernel) ⟨Nat.le_of_ble_eq_true rfl, Nat.le_of_ble_eq_true rfl⟩) 0 rfl rfl rfl rfl hl.1 rfl (lv_room (Nat.le_of_ble_eq_true rfl)) dX12_canHave_68 ⟨Nat.le_of_ble_eq_true rfl, Nat.le_of_ble_eq_true rfl⟩) hG (fun r_68 u_68 H locs hp_68 hG => ?_)
              subst hp_68
              refine lv_if_eq (tgt := 106) hF.1 hF.2.1 dX12_canHave_71 (by decide) (fun c_71 => ?_) (fun c_71 => ?_)
              · --
                have n_71 : (mv (kd i) (fg i) i st) = false := b2i_z.mp c_71
                refine lv_iinc (v := (nI (i + 1))) (lv' := [(6, .int (nI (i + 1))), (0, .ref (ob 0)), (1, .int (nI d)), (2, .int (nI st)), (3, .int (nI 3)), (4, .int (b2i (false)))]) hF.1 hF.2.1 dX12_canHave_106 hl (k := 5) rfl (nI_inc _ _) (by decide) rfl (fun ls hl => ?_)
                refine lv_goto (tgt := 53) hF.1 hF.2.1 dX12_canHave_109 (by decide) ?_
                exact ih53 (i + 1) (by omega) (lt_s hz (fun hm => by first | exact m_100 | (rw [n_71] at hm; cases hm))) (by omega) _ _ hG ls (lv_sub hl [1, 2, 3, 4, 5, 0] rfl)
              · --
                have n_71 : (mv (kd i) (fg i) i st) = true := b2i_nz.mp c_71
                have hx := xor_ltn (n := n) (o := st) (j := i) hst (by omega)
                refine lv_aload_n hF.1 hF.2.1 dX12_canHave_74 rfl (lv_at hl 0 rfl) ?_
                refine lv_iload_n hF.1 hF.2.1 dX12_canHave_75 rfl (lv_at hl 1 rfl) ?_
                refine lv_iload_n hF.1 hF.2.1 dX12_canHave_76 rfl (lv_at hl 2 rfl) ?_
                refine lv_iconst (v := (nI 1)) hF.1 hF.2.1 dX12_canHave_77 (by decide +kernel) ?_
                refine lv_iload hF.1 hF.2.1 dX12_canHave_78 (lv_at hl 5 rfl) ?_
                refine lv_ishl hF.1 hF.2.1 dX12_canHave_80 ?_
                rw [shl_1 (by omega)]
                refine lv_ixor hF.1 hF.2.1 dX12_canHave_81 ?_
                rw [nx_xor]
                refine lv_iload_n hF.1 hF.2.1 dX12_canHave_82 rfl (lv_at hl 3 rfl) ?_
                refine lv_iconst (v := (nI 1)) hF.1 hF.2.1 dX12_canHave_83 (by decide +kernel) ?_
                refine lv_isub hF.1 hF.2.1 dX12_canHave_84 ?_
                rw [show (nI 3 - nI 1 : Int32) = nI 2 from by decide +kernel]
                refine lv_iload hF.1 hF.2.1 dX12_canHave_85 (lv_at hl 4 rfl) ?_
                refine lv_if_ne (tgt := 94) hF.1 hF.2.1 dX12_canHave_87 (by decide) (fun c_87 => ?_) (fun c_87 => ?_)
                · --
                  have n_87 : (false) = true := b2i_nz.mp c_87
                  cases n_87
                · --
                  have n_87 : (false) = false := b2i_z.mp c_87
                  refine lv_iconst (v := (nI 1)) hF.1 hF.2.1 dX12_canHave_90 (by decide +kernel) ?_
                  refine lv_goto (tgt := 95) hF.1 hF.2.1 dX12_canHave_91 (by decide) ?_
                  refine k_ci (r_V (As := [.int (nI d), .int (nI (st ^^^ 2 ^ i)), .int (nI 2), .int (nI 1)]) hF hK hA hG (c_X12_canHave_2 (mine := !false) hS hd hx) (cwV 4 hF.2.2.2.2 gX12_canHave_X12_canHave rfl rfl rfl (by decide +kernel) ⟨Nat.le_of_ble_eq_true rfl, Nat.le_of_ble_eq_true rfl⟩) 0 rfl rfl rfl rfl hl.1 rfl (lv_room (Nat.le_of_ble_eq_true rfl)) dX12_canHave_95 ⟨Nat.le_of_ble_eq_true rfl, Nat.le_of_ble_eq_true rfl⟩) hG (fun r_95 u_95 H locs hp_95 hG => ?_)
                  subst hp_95
                  refine lv_iload hF.1 hF.2.1 dX12_canHave_98 (lv_at hl 4 rfl) ?_
                  refine lv_icmp_ne (tgt := 106) hF.1 hF.2.1 dX12_canHave_100 (by decide) (fun c_100 => ?_) (fun c_100 => ?_)
                  · --
                    have m_100 : ¬ canU n kd fg d 2 (st ^^^ 2 ^ i) (!false) = false := fun h => c_100 (by rw [h])
                    refine lv_iinc (v := (nI (i + 1))) (lv' := [(6, .int (nI (i + 1))), (0, .ref (ob 0)), (1, .int (nI d)), (2, .int (nI st)), (3, .int (nI 3)), (4, .int (b2i (false)))]) hF.1 hF.2.1 dX12_canHave_106 hl (k := 5) rfl (nI_inc _ _) (by decide) rfl (fun ls hl => ?_)
                    refine lv_goto (tgt := 53) hF.1 hF.2.1 dX12_canHave_109 (by decide) ?_
                    exact ih53 (i + 1) (by omega) (lt_s hz (fun hm => by first | exact m_100 | (rw [n_71] at hm; cases hm))) (by omega) _ _ hG ls (lv_sub hl [1, 2, 3, 4, 5, 0] rfl)
                  · --
                    have m_100 : canU n kd fg d 2 (st ^^^ 2 ^ i) (!false) = false := b2i_inj c_100
                    refine lv_iload hF.1 hF.2.1 dX12_canHave_103 (lv_at hl 4 rfl) ?_
                    exact hret _ () _ ls _ _ _ _ (by first | (rw [canU_a m_44]) | (rw [canU_b (by omega) n_71 m_100]) | (rw [canU_c m_44 (fun q hq => hz q (by omega))]; rfl)) (by first | rfl | exact nar_b2i _) hG (Nat.le_of_ble_eq_true rfl) (Nat.le_of_ble_eq_true rfl) dX12_canHave_105
        exact lp53 _ (0) (by omega) (fun q h => absurd h (Nat.not_lt_zero q)) (Nat.lt_succ_self _) _ _ hG ls (lv_sub hl [2, 3, 4, 5, 6, 0] rfl)
      · --
        have m_44 : canU n kd fg d 2 (st) (!false) = false := b2i_inj c_44
        refine lv_iload hF.1 hF.2.1 dX12_canHave_47 (lv_at hl 5 rfl) ?_
        exact hret _ () _ ls _ _ _ _ (by first | (rw [canU_a m_44]) | (rw [canU_b (by omega) n_71 m_100]) | (rw [canU_c m_44 (fun q hq => hz q (by omega))]; rfl)) (by first | rfl | exact nar_b2i _) hG (Nat.le_of_ble_eq_true rfl) (Nat.le_of_ble_eq_true rfl) dX12_canHave_49
  · --
    have n_1 : 3 = 0 := (nI_eq (a := 3) (b := 0) (by omega) (by omega)).mp c_1
    exact absurd n_1 (by decide)

abbrev rmX12_canHave_4 : Room := { frames := 5, cells := 0, slots := 0, locals := 124 }
set_option maxHeartbeats 4000000 in
set_option maxRecDepth 100000 in
theorem c_X12_canHave_4 {l : Launch} {D : va_G} {cA : Nat → ClassId} {A : Nat → Prop}  {ob : Nat → Nat} {aS aI aR aM aK aT aZ aE aD aF aN aP aH : Nat → Int32} {vH vT vP vB vE vS : Int32} {n o : Nat} {kd fg : Nat → Nat} (hS : SR aS n o kd fg) {d st : Nat} (hd : d < n) (hst : st < 2 ^ n) {mine : Bool} : Met l yX12_canHave wsX12_canHave rmX12_canHave_4 (va_Pc [.ref (ob 0), .int (nI d), .int (nI st), .int (nI 4), .int (b2i (mine))] (Pre D cA A (MW cA ob aS aI aR aM aK aT aZ aE aD aF aN aP aH vH vT vP vB vE vS))) (va_Qi (fun r _ => r = b2i (canU n kd fg d 4 st mine)) (fun u t => Wd D A ((fun (_ : Unit) => MW cA ob aS aI aR aM aK aT aZ aE aD aF aN aP aH vH vT vP vB vE vS) u) t) A) (0) (0) A := by
  refine k_ofi (S := Unit) (F := fun (_ : Unit) => MW cA ob aS aI aR aM aK aT aZ aE aD aF aN aP aH vH vT vP vB vE vS) (cc := cX12_canHave) (maxL := 7) (by decide) rfl (Nat.le_of_ble_eq_true rfl) ?_
  intro p e s m args below meth c Q hF hini hK hA hG hret ls hl
  have hl : lv_has ls 7 [(0, .ref (ob 0)), (1, .int (nI d)), (2, .int (nI st)), (3, .int (nI 4)), (4, .int (b2i (mine)))] := hl
  have hn : n ≤ 6 := hS.2.2.1
  have ho : o < 64 := hS.o64
  have hp2 : 2 ^ n ≤ 64 := Nat.pow_le_pow_right (by decide) hn
  have hp1 : 1 ≤ 2 ^ n := Nat.one_le_two_pow
  refine lv_iload_n hF.1 hF.2.1 dX12_canHave_0 rfl (lv_at hl 3 rfl) ?_
  refine lv_if_ne (tgt := 19) hF.1 hF.2.1 dX12_canHave_1 (by decide) (fun c_1 => ?_) (fun c_1 => ?_)
  · --
    have n_1 : ¬ (4 = 0) := fun zz9 => c_1 ((nI_eq (a := 4) (b := 0) (by omega) (by omega)).mpr zz9)
    refine lv_aload_n hF.1 hF.2.1 dX12_canHave_19 rfl (lv_at hl 0 rfl) ?_
    refine lv_iload_n hF.1 hF.2.1 dX12_canHave_20 rfl (lv_at hl 1 rfl) ?_
    refine lv_iload_n hF.1 hF.2.1 dX12_canHave_21 rfl (lv_at hl 2 rfl) ?_
    refine lv_iload_n hF.1 hF.2.1 dX12_canHave_22 rfl (lv_at hl 3 rfl) ?_
    refine lv_iconst (v := (nI 1)) hF.1 hF.2.1 dX12_canHave_23 (by decide +kernel) ?_
    refine lv_isub hF.1 hF.2.1 dX12_canHave_24 ?_
    rw [show (nI 4 - nI 1 : Int32) = nI 3 from by decide +kernel]
    refine lv_iload hF.1 hF.2.1 dX12_canHave_25 (lv_at hl 4 rfl) ?_
    refine lv_if_ne (tgt := 34) hF.1 hF.2.1 dX12_canHave_27 (by decide) (fun c_27 => ?_) (fun c_27 => ?_)
    · --
      have n_27 : (mine) = true := b2i_nz.mp c_27
      subst n_27
      refine lv_iconst (v := (nI 0)) hF.1 hF.2.1 dX12_canHave_34 (by decide +kernel) ?_
      refine k_ci (r_V (As := [.int (nI d), .int (nI st), .int (nI 3), .int (nI 0)]) hF hK hA hG (c_X12_canHave_3 (mine := !true) hS hd hst) (cwV 4 hF.2.2.2.2 gX12_canHave_X12_canHave rfl rfl rfl (by decide +kernel) ⟨Nat.le_of_ble_eq_true rfl, Nat.le_of_ble_eq_true rfl⟩) 0 rfl rfl rfl rfl hl.1 rfl (lv_room (Nat.le_of_ble_eq_true rfl)) dX12_canHave_35 ⟨Nat.le_of_ble_eq_true rfl, Nat.le_of_ble_eq_true rfl⟩) hG (fun r_35 u_35 H locs hp_35 hG => ?_)
      subst hp_35
      refine lv_istore (lv' := [(5, .int (b2i (canU n kd fg d 3 (st) (!true)))), (0, .ref (ob 0)), (1, .int (nI d)), (2, .int (nI st)), (3, .int (nI 4)), (4, .int (b2i (true)))]) hF.1 hF.2.1 dX12_canHave_38 hl (by decide) rfl (fun ls hl => ?_)
      refine lv_iload hF.1 hF.2.1 dX12_canHave_40 (lv_at hl 0 rfl) ?_
      refine lv_iload hF.1 hF.2.1 dX12_canHave_42 (lv_at hl 5 rfl) ?_
      refine lv_icmp_ne (tgt := 50) hF.1 hF.2.1 dX12_canHave_44 (by decide) (fun c_44 => ?_) (fun c_44 => ?_)
      · --
        have m_44 : ¬ canU n kd fg d 3 (st) (!true) = true := fun h => c_44 (by rw [h])
        refine lv_iconst (v := (nI 0)) hF.1 hF.2.1 dX12_canHave_50 (by decide +kernel) ?_
        refine lv_istore (lv' := [(6, .int (nI 0)), (5, .int (b2i (canU n kd fg d 3 (st) (!true)))), (0, .ref (ob 0)), (1, .int (nI d)), (2, .int (nI st)), (3, .int (nI 4)), (4, .int (b2i (true)))]) hF.1 hF.2.1 dX12_canHave_51 hl (by decide) rfl (fun ls hl => ?_)
        have lp53 : ∀ (fuel : Nat), ∀ (i : Nat), (hi : i ≤ n) → (hz : ∀ q, q < i → mv (kd q) (fg q) q st = true → ¬ canU n kd fg d 3 (st ^^^ 2 ^ q) (!true) = true) → (n - i) < fuel → ∀ (H : Heap) (locs : List Loc), Gd D A (MW cA ob aS aI aR aM aK aT aZ aE aD aF aN aP aH vH vT vP vB vE vS) s.heap H locs → ∀ ls : Array Slot, lv_has ls 7 [(0, .ref (ob 0)), (1, .int (nI d)), (2, .int (nI st)), (3, .int (nI 4)), (4, .int (b2i (true))), (6, .int (nI i))] → W p l e rmX12_canHave_4 s m args below meth c H locs (0) (0) Q (F0 m 53 ls []) := by
          intro fuel
          induction fuel with
          | zero => intro i hi hz hmu; exact absurd hmu (Nat.not_lt_zero _)
          | succ fuel ih53 =>
            intro i hi hz hmu H locs hG ls hl
            refine lv_iload hF.1 hF.2.1 dX12_canHave_53 (lv_at hl 5 rfl) ?_
            refine lv_aload_n hF.1 hF.2.1 dX12_canHave_55 rfl (lv_at hl 0 rfl) ?_
            refine k_get (C := RX12) (T := TX12) (N := 19) hF hK hG (fun _ h => List.mem_cons_of_mem _ (List.mem_append_right _ h)) 0 rfl rfl 0 (by decide) (List.mem_of_getElem? (i := 1) rfl) (fun _ h9 => h9) rfl dX12_canHave_56 ?_
            refine lv_iconst (v := (nI 0)) hF.1 hF.2.1 dX12_canHave_59 (by decide +kernel) ?_
            refine k_ialdN hF hK hG 1 rfl (0) rfl (by omega) (by omega) dX12_canHave_60 ?_
            rw [hS.1]
            refine lv_icmp_ge (tgt := 112) hF.1 hF.2.1 dX12_canHave_61 (by decide) (fun c_61 => ?_) (fun c_61 => ?_)
            · --
              have n_61 : n ≤ i := (nI_leI (a := n) (b := i) (by omega) (by omega)).mp c_61
              refine lv_iload hF.1 hF.2.1 dX12_canHave_112 (lv_at hl 4 rfl) ?_
              refine lv_if_ne (tgt := 121) hF.1 hF.2.1 dX12_canHave_114 (by decide) (fun c_114 => ?_) (fun c_114 => ?_)
              · --
                have n_114 : (true) = true := b2i_nz.mp c_114
                refine lv_iconst (v := (nI 0)) hF.1 hF.2.1 dX12_canHave_121 (by decide +kernel) ?_
                exact hret _ () _ ls _ _ _ _ (by first | (rw [canU_a m_44]) | (rw [canU_b (by omega) n_71 m_100]) | (rw [canU_c m_44 (fun q hq => hz q (by omega))]; rfl)) (by first | rfl | exact nar_b2i _) hG (Nat.le_of_ble_eq_true rfl) (Nat.le_of_ble_eq_true rfl) dX12_canHave_122
              · --
                have n_114 : (true) = false := b2i_z.mp c_114
                cases n_114
            · --
              have n_61 : ¬ (n ≤ i) := fun zz9 => c_61 ((nI_leI (a := n) (b := i) (by omega) (by omega)).mpr zz9)
              refine lv_aload_n hF.1 hF.2.1 dX12_canHave_64 rfl (lv_at hl 0 rfl) ?_
              refine lv_iload hF.1 hF.2.1 dX12_canHave_65 (lv_at hl 5 rfl) ?_
              refine lv_iload_n hF.1 hF.2.1 dX12_canHave_67 rfl (lv_at hl 2 rfl) ?_
              refine k_ci (r_V (As := [.int (nI i), .int (nI st)]) hF hK hA hG (c_X12_may hS (by omega) (by omega)) (cwV 2 hF.2.2.2.2 gX12_canHave_X12_may rfl rfl rfl (by decide +kernel) ⟨Nat.le_of_ble_eq_true rfl, Nat.le_of_ble_eq_true rfl⟩) 0 rfl rfl rfl rfl hl.1 rfl (lv_room (Nat.le_of_ble_eq_true rfl)) dX12_canHave_68 ⟨Nat.le_of_ble_eq_true rfl, Nat.le_of_ble_eq_true rfl⟩) hG (fun r_68 u_68 H locs hp_68 hG => ?_)
              subst hp_68
              refine lv_if_eq (tgt := 106) hF.1 hF.2.1 dX12_canHave_71 (by decide) (fun c_71 => ?_) (fun c_71 => ?_)
              · --
                have n_71 : (mv (kd i) (fg i) i st) = false := b2i_z.mp c_71
                refine lv_iinc (v := (nI (i + 1))) (lv' := [(6, .int (nI (i + 1))), (0, .ref (ob 0)), (1, .int (nI d)), (2, .int (nI st)), (3, .int (nI 4)), (4, .int (b2i (true)))]) hF.1 hF.2.1 dX12_canHave_106 hl (k := 5) rfl (nI_inc _ _) (by decide) rfl (fun ls hl => ?_)
                refine lv_goto (tgt := 53) hF.1 hF.2.1 dX12_canHave_109 (by decide) ?_
                exact ih53 (i + 1) (by omega) (lt_s hz (fun hm => by first | exact m_100 | (rw [n_71] at hm; cases hm))) (by omega) _ _ hG ls (lv_sub hl [1, 2, 3, 4, 5, 0] rfl)
              · --
                have n_71 : (mv (kd i) (fg i) i st) = true := b2i_nz.mp c_71
                have hx := xor_ltn (n := n) (o := st) (j := i) hst (by omega)
                refine lv_aload_n hF.1 hF.2.1 dX12_canHave_74 rfl (lv_at hl 0 rfl) ?_
                refine lv_iload_n hF.1 hF.2.1 dX12_canHave_75 rfl (lv_at hl 1 rfl) ?_
                refine lv_iload_n hF.1 hF.2.1 dX12_canHave_76 rfl (lv_at hl 2 rfl) ?_
                refine lv_iconst (v := (nI 1)) hF.1 hF.2.1 dX12_canHave_77 (by decide +kernel) ?_
                refine lv_iload hF.1 hF.2.1 dX12_canHave_78 (lv_at hl 5 rfl) ?_
                refine lv_ishl hF.1 hF.2.1 dX12_canHave_80 ?_
                rw [shl_1 (by omega)]
                refine lv_ixor hF.1 hF.2.1 dX12_canHave_81 ?_
                rw [nx_xor]
                refine lv_iload_n hF.1 hF.2.1 dX12_canHave_82 rfl (lv_at hl 3 rfl) ?_
                refine lv_iconst (v := (nI 1)) hF.1 hF.2.1 dX12_canHave_83 (by decide +kernel) ?_
                refine lv_isub hF.1 hF.2.1 dX12_canHave_84 ?_
                rw [show (nI 4 - nI 1 : Int32) = nI 3 from by decide +kernel]
                refine lv_iload hF.1 hF.2.1 dX12_canHave_85 (lv_at hl 4 rfl) ?_
                refine lv_if_ne (tgt := 94) hF.1 hF.2.1 dX12_canHave_87 (by decide) (fun c_87 => ?_) (fun c_87 => ?_)
                · --
                  have n_87 : (true) = true := b2i_nz.mp c_87
                  refine lv_iconst (v := (nI 0)) hF.1 hF.2.1 dX12_canHave_94 (by decide +kernel) ?_
                  refine k_ci (r_V (As := [.int (nI d), .int (nI (st ^^^ 2 ^ i)), .int (nI 3), .int (nI 0)]) hF hK hA hG (c_X12_canHave_3 (mine := !true) hS hd hx) (cwV 4 hF.2.2.2.2 gX12_canHave_X12_canHave rfl rfl rfl (by decide +kernel) ⟨Nat.le_of_ble_eq_true rfl, Nat.le_of_ble_eq_true rfl⟩) 0 rfl rfl rfl rfl hl.1 rfl (lv_room (Nat.le_of_ble_eq_true rfl)) dX12_canHave_95 ⟨Nat.le_of_ble_eq_true rfl, Nat.le_of_ble_eq_true rfl⟩) hG (fun r_95 u_95 H locs hp_95 hG => ?_)
                  subst hp_95
                  refine lv_iload hF.1 hF.2.1 dX12_canHave_98 (lv_at hl 4 rfl) ?_
                  refine lv_icmp_ne (tgt := 106) hF.1 hF.2.1 dX12_canHave_100 (by decide) (fun c_100 => ?_) (fun c_100 => ?_)
                  · --
                    have m_100 : ¬ canU n kd fg d 3 (st ^^^ 2 ^ i) (!true) = true := fun h => c_100 (by rw [h])
                    refine lv_iinc (v := (nI (i + 1))) (lv' := [(6, .int (nI (i + 1))), (0, .ref (ob 0)), (1, .int (nI d)), (2, .int (nI st)), (3, .int (nI 4)), (4, .int (b2i (true)))]) hF.1 hF.2.1 dX12_canHave_106 hl (k := 5) rfl (nI_inc _ _) (by decide) rfl (fun ls hl => ?_)
                    refine lv_goto (tgt := 53) hF.1 hF.2.1 dX12_canHave_109 (by decide) ?_
                    exact ih53 (i + 1) (by omega) (lt_s hz (fun hm => by first | exact m_100 | (rw [n_71] at hm; cases hm))) (by omega) _ _ hG ls (lv_sub hl [1, 2, 3, 4, 5, 0] rfl)
                  · --
                    have m_100 : canU n kd fg d 3 (st ^^^ 2 ^ i) (!true) = true := b2i_inj c_100
                    refine lv_iload hF.1 hF.2.1 dX12_canHave_103 (lv_at hl 4 rfl) ?_
                    exact hret _ () _ ls _ _ _ _ (by first | (rw [canU_a m_44]) | (rw [canU_b (by omega) n_71 m_100]) | (rw [canU_c m_44 (fun q hq => hz q (by omega))]; rfl)) (by first | rfl | exact nar_b2i _) hG (Nat.le_of_ble_eq_true rfl) (Nat.le_of_ble_eq_true rfl) dX12_canHave_105
                · --
                  have n_87 : (true) = false := b2i_z.mp c_87
                  cases n_87
        exact lp53 _ (0) (by omega) (fun q h => absurd h (Nat.not_lt_zero q)) (Nat.lt_succ_self _) _ _ hG ls (lv_sub hl [2, 3, 4, 5, 6, 0] rfl)
      · --
        have m_44 : canU n kd fg d 3 (st) (!true) = true := b2i_inj c_44
        refine lv_iload hF.1 hF.2.1 dX12_canHave_47 (lv_at hl 5 rfl) ?_
        exact hret _ () _ ls _ _ _ _ (by first | (rw [canU_a m_44]) | (rw [canU_b (by omega) n_71 m_100]) | (rw [canU_c m_44 (fun q hq => hz q (by omega))]; rfl)) (by first | rfl | exact nar_b2i _) hG (Nat.le_of_ble_eq_true rfl) (Nat.le_of_ble_eq_true rfl) dX12_canHave_49
    · --
      have n_27 : (mine) = false := b2i_z.mp c_27
      subst n_27
      refine lv_iconst (v := (nI 1)) hF.1 hF.2.1 dX12_canHave_30 (by decide +kernel) ?_
      refine lv_goto (tgt := 35) hF.1 hF.2.1 dX12_canHave_31 (by decide) ?_
      refine k_ci (r_V (As := [.int (nI d), .int (nI st), .int (nI 3), .int (nI 1)]) hF hK hA hG (c_X12_canHave_3 (mine := !false) hS hd hst) (cwV 4 hF.2.2.2.2 gX12_canHave_X12_canHave rfl rfl rfl (by decide +kernel) ⟨Nat.le_of_ble_eq_true rfl, Nat.le_of_ble_eq_true rfl⟩) 0 rfl rfl rfl rfl hl.1 rfl (lv_room (Nat.le_of_ble_eq_true rfl)) dX12_canHave_35 ⟨Nat.le_of_ble_eq_true rfl, Nat.le_of_ble_eq_true rfl⟩) hG (fun r_35 u_35 H locs hp_35 hG => ?_)
      subst hp_35
      refine lv_istore (lv' := [(5, .int (b2i (canU n kd fg d 3 (st) (!false)))), (0, .ref (ob 0)), (1, .int (nI d)), (2, .int (nI st)), (3, .int (nI 4)), (4, .int (b2i (false)))]) hF.1 hF.2.1 dX12_canHave_38 hl (by decide) rfl (fun ls hl => ?_)
      refine lv_iload hF.1 hF.2.1 dX12_canHave_40 (lv_at hl 0 rfl) ?_
      refine lv_iload hF.1 hF.2.1 dX12_canHave_42 (lv_at hl 5 rfl) ?_
      refine lv_icmp_ne (tgt := 50) hF.1 hF.2.1 dX12_canHave_44 (by decide) (fun c_44 => ?_) (fun c_44 => ?_)
      · --
        have m_44 : ¬ canU n kd fg d 3 (st) (!false) = false := fun h => c_44 (by rw [h])
        refine lv_iconst (v := (nI 0)) hF.1 hF.2.1 dX12_canHave_50 (by decide +kernel) ?_
        refine lv_istore (lv' := [(6, .int (nI 0)), (5, .int (b2i (canU n kd fg d 3 (st) (!false)))), (0, .ref (ob 0)), (1, .int (nI d)), (2, .int (nI st)), (3, .int (nI 4)), (4, .int (b2i (false)))]) hF.1 hF.2.1 dX12_canHave_51 hl (by decide) rfl (fun ls hl => ?_)
        have lp53 : ∀ (fuel : Nat), ∀ (i : Nat), (hi : i ≤ n) → (hz : ∀ q, q < i → mv (kd q) (fg q) q st = true → ¬ canU n kd fg d 3 (st ^^^ 2 ^ q) (!false) = false) → (n - i) < fuel → ∀ (H : Heap) (locs : List Loc), Gd D A (MW cA ob aS aI aR aM aK aT aZ aE aD aF aN aP aH vH vT vP vB vE vS) s.heap H locs → ∀ ls : Array Slot, lv_has ls 7 [(0, .ref (ob 0)), (1, .int (nI d)), (2, .int (nI st)), (3, .int (nI 4)), (4, .int (b2i (false))), (6, .int (nI i))] → W p l e rmX12_canHave_4 s m args below meth c H locs (0) (0) Q (F0 m 53 ls []) := by
          intro fuel
          induction fuel with
          | zero => intro i hi hz hmu; exact absurd hmu (Nat.not_lt_zero _)
          | succ fuel ih53 =>
            intro i hi hz hmu H locs hG ls hl
            refine lv_iload hF.1 hF.2.1 dX12_canHave_53 (lv_at hl 5 rfl) ?_
            refine lv_aload_n hF.1 hF.2.1 dX12_canHave_55 rfl (lv_at hl 0 rfl) ?_
            refine k_get (C := RX12) (T := TX12) (N := 19) hF hK hG (fun _ h => List.mem_cons_of_mem _ (List.mem_append_right _ h)) 0 rfl rfl 0 (by decide) (List.mem_of_getElem? (i := 1) rfl) (fun _ h9 => h9) rfl dX12_canHave_56 ?_
            refine lv_iconst (v := (nI 0)) hF.1 hF.2.1 dX12_canHave_59 (by decide +kernel) ?_
            refine k_ialdN hF hK hG 1 rfl (0) rfl (by omega) (by omega) dX12_canHave_60 ?_
            rw [hS.1]
            refine lv_icmp_ge (tgt := 112) hF.1 hF.2.1 dX12_canHave_61 (by decide) (fun c_61 => ?_) (fun c_61 => ?_)
            · --
              have n_61 : n ≤ i := (nI_leI (a := n) (b := i) (by omega) (by omega)).mp c_61
              refine lv_iload hF.1 hF.2.1 dX12_canHave_112 (lv_at hl 4 rfl) ?_
              refine lv_if_ne (tgt := 121) hF.1 hF.2.1 dX12_canHave_114 (by decide) (fun c_114 => ?_) (fun c_114 => ?_)
              · --
                have n_114 : (false) = true := b2i_nz.mp c_114
                cases n_114
              · --
                have n_114 : (false) = false := b2i_z.mp c_114
                refine lv_iconst (v := (nI 1)) hF.1 hF.2.1 dX12_canHave_117 (by decide +kernel) ?_
                refine lv_goto (tgt := 122) hF.1 hF.2.1 dX12_canHave_118 (by decide) ?_
                exact hret _ () _ ls _ _ _ _ (by first | (rw [canU_a m_44]) | (rw [canU_b (by omega) n_71 m_100]) | (rw [canU_c m_44 (fun q hq => hz q (by omega))]; rfl)) (by first | rfl | exact nar_b2i _) hG (Nat.le_of_ble_eq_true rfl) (Nat.le_of_ble_eq_true rfl) dX12_canHave_122
            · --
              have n_61 : ¬ (n ≤ i) := fun zz9 => c_61 ((nI_leI (a := n) (b := i) (by omega) (by omega)).mpr zz9)
              refine lv_aload_n hF.1 hF.2.1 dX12_canHave_64 rfl (lv_at hl 0 rfl) ?_
              refine lv_iload hF.1 hF.2.1 dX12_canHave_65 (lv_at hl 5 rfl) ?_
              refine lv_iload_n hF.1 hF.2.1 dX12_canHave_67 rfl (lv_at hl 2 rfl) ?_
              refine k_ci (r_V (As := [.int (nI i), .int (nI st)]) hF hK hA hG (c_X12_may hS (by omega) (by omega)) (cwV 2 hF.2.2.2.2 gX12_canHave_X12_may rfl rfl rfl (by decide +kernel) ⟨Nat.le_of_ble_eq_true rfl, Nat.le_of_ble_eq_true rfl⟩) 0 rfl rfl rfl rfl hl.1 rfl (lv_room (Nat.le_of_ble_eq_true rfl)) dX12_canHave_68 ⟨Nat.le_of_ble_eq_true rfl, Nat.le_of_ble_eq_true rfl⟩) hG (fun r_68 u_68 H locs hp_68 hG => ?_)
              subst hp_68
              refine lv_if_eq (tgt := 106) hF.1 hF.2.1 dX12_canHave_71 (by decide) (fun c_71 => ?_) (fun c_71 => ?_)
              · --
                have n_71 : (mv (kd i) (fg i) i st) = false := b2i_z.mp c_71
                refine lv_iinc (v := (nI (i + 1))) (lv' := [(6, .int (nI (i + 1))), (0, .ref (ob 0)), (1, .int (nI d)), (2, .int (nI st)), (3, .int (nI 4)), (4, .int (b2i (false)))]) hF.1 hF.2.1 dX12_canHave_106 hl (k := 5) rfl (nI_inc _ _) (by decide) rfl (fun ls hl => ?_)
                refine lv_goto (tgt := 53) hF.1 hF.2.1 dX12_canHave_109 (by decide) ?_
                exact ih53 (i + 1) (by omega) (lt_s hz (fun hm => by first | exact m_100 | (rw [n_71] at hm; cases hm))) (by omega) _ _ hG ls (lv_sub hl [1, 2, 3, 4, 5, 0] rfl)
              · --
                have n_71 : (mv (kd i) (fg i) i st) = true := b2i_nz.mp c_71
                have hx := xor_ltn (n := n) (o := st) (j := i) hst (by omega)
                refine lv_aload_n hF.1 hF.2.1 dX12_canHave_74 rfl (lv_at hl 0 rfl) ?_
                refine lv_iload_n hF.1 hF.2.1 dX12_canHave_75 rfl (lv_at hl 1 rfl) ?_
                refine lv_iload_n hF.1 hF.2.1 dX12_canHave_76 rfl (lv_at hl 2 rfl) ?_
                refine lv_iconst (v := (nI 1)) hF.1 hF.2.1 dX12_canHave_77 (by decide +kernel) ?_
                refine lv_iload hF.1 hF.2.1 dX12_canHave_78 (lv_at hl 5 rfl) ?_
                refine lv_ishl hF.1 hF.2.1 dX12_canHave_80 ?_
                rw [shl_1 (by omega)]
                refine lv_ixor hF.1 hF.2.1 dX12_canHave_81 ?_
                rw [nx_xor]
                refine lv_iload_n hF.1 hF.2.1 dX12_canHave_82 rfl (lv_at hl 3 rfl) ?_
                refine lv_iconst (v := (nI 1)) hF.1 hF.2.1 dX12_canHave_83 (by decide +kernel) ?_
                refine lv_isub hF.1 hF.2.1 dX12_canHave_84 ?_
                rw [show (nI 4 - nI 1 : Int32) = nI 3 from by decide +kernel]
                refine lv_iload hF.1 hF.2.1 dX12_canHave_85 (lv_at hl 4 rfl) ?_
                refine lv_if_ne (tgt := 94) hF.1 hF.2.1 dX12_canHave_87 (by decide) (fun c_87 => ?_) (fun c_87 => ?_)
                · --
                  have n_87 : (false) = true := b2i_nz.mp c_87
                  cases n_87
                · --
                  have n_87 : (false) = false := b2i_z.mp c_87
                  refine lv_iconst (v := (nI 1)) hF.1 hF.2.1 dX12_canHave_90 (by decide +kernel) ?_
                  refine lv_goto (tgt := 95) hF.1 hF.2.1 dX12_canHave_91 (by decide) ?_
                  refine k_ci (r_V (As := [.int (nI d), .int (nI (st ^^^ 2 ^ i)), .int (nI 3), .int (nI 1)]) hF hK hA hG (c_X12_canHave_3 (mine := !false) hS hd hx) (cwV 4 hF.2.2.2.2 gX12_canHave_X12_canHave rfl rfl rfl (by decide +kernel) ⟨Nat.le_of_ble_eq_true rfl, Nat.le_of_ble_eq_true rfl⟩) 0 rfl rfl rfl rfl hl.1 rfl (lv_room (Nat.le_of_ble_eq_true rfl)) dX12_canHave_95 ⟨Nat.le_of_ble_eq_true rfl, Nat.le_of_ble_eq_true rfl⟩) hG (fun r_95 u_95 H locs hp_95 hG => ?_)
                  subst hp_95
                  refine lv_iload hF.1 hF.2.1 dX12_canHave_98 (lv_at hl 4 rfl) ?_
                  refine lv_icmp_ne (tgt := 106) hF.1 hF.2.1 dX12_canHave_100 (by decide) (fun c_100 => ?_) (fun c_100 => ?_)
                  · --
                    have m_100 : ¬ canU n kd fg d 3 (st ^^^ 2 ^ i) (!false) = false := fun h => c_100 (by rw [h])
                    refine lv_iinc (v := (nI (i + 1))) (lv' := [(6, .int (nI (i + 1))), (0, .ref (ob 0)), (1, .int (nI d)), (2, .int (nI st)), (3, .int (nI 4)), (4, .int (b2i (false)))]) hF.1 hF.2.1 dX12_canHave_106 hl (k := 5) rfl (nI_inc _ _) (by decide) rfl (fun ls hl => ?_)
                    refine lv_goto (tgt := 53) hF.1 hF.2.1 dX12_canHave_109 (by decide) ?_
                    exact ih53 (i + 1) (by omega) (lt_s hz (fun hm => by first | exact m_100 | (rw [n_71] at hm; cases hm))) (by omega) _ _ hG ls (lv_sub hl [1, 2, 3, 4, 5, 0] rfl)
                  · --
                    have m_100 : canU n kd fg d 3 (st ^^^ 2 ^ i) (!false) = false := b2i_inj c_100
                    refine lv_iload hF.1 hF.2.1 dX12_canHave_103 (lv_at hl 4 rfl) ?_
                    exact hret _ () _ ls _ _ _ _ (by first | (rw [canU_a m_44]) | (rw [canU_b (by omega) n_71 m_100]) | (rw [canU_c m_44 (fun q hq => hz q (by omega))]; rfl)) (by first | rfl | exact nar_b2i _) hG (Nat.le_of_ble_eq_true rfl) (Nat.le_of_ble_eq_true rfl) dX12_canHave_105
        exact lp53 _ (0) (by omega) (fun q h => absurd h (Nat.not_lt_zero q)) (Nat.lt_succ_self _) _ _ hG ls (lv_sub hl [2, 3, 4, 5, 6, 0] rfl)
      · --
        have m_44 : canU n kd fg d 3 (st) (!false) = false := b2i_inj c_44
        refine lv_iload hF.1 hF.2.1 dX12_canHave_47 (lv_at hl 5 rfl) ?_
        exact hret _ () _ ls _ _ _ _ (by first | (rw [canU_a m_44]) | (rw [canU_b (by omega) n_71 m_100]) | (rw [canU_c m_44 (fun q hq => hz q (by omega))]; rfl)) (by first | rfl | exact nar_b2i _) hG (Nat.le_of_ble_eq_true rfl) (Nat.le_of_ble_eq_true rfl) dX12_canHave_49
  · --
    have n_1 : 4 = 0 := (nI_eq (a := 4) (b := 0) (by omega) (by omega)).mp c_1
    exact absurd n_1 (by decide)

abbrev rmX12_canHave_5 : Room := { frames := 6, cells := 0, slots := 0, locals := 150 }
set_option maxHeartbeats 4000000 in
set_option maxRecDepth 100000 in
theorem c_X12_canHave_5 {l : Launch} {D : va_G} {cA : Nat → ClassId} {A : Nat → Prop}  {ob : Nat → Nat} {aS aI aR aM aK aT aZ aE aD aF aN aP aH : Nat → Int32} {vH vT vP vB vE vS : Int32} {n o : Nat} {kd fg : Nat → Nat} (hS : SR aS n o kd fg) {d st : Nat} (hd : d < n) (hst : st < 2 ^ n) {mine : Bool} : Met l yX12_canHave wsX12_canHave rmX12_canHave_5 (va_Pc [.ref (ob 0), .int (nI d), .int (nI st), .int (nI 5), .int (b2i (mine))] (Pre D cA A (MW cA ob aS aI aR aM aK aT aZ aE aD aF aN aP aH vH vT vP vB vE vS))) (va_Qi (fun r _ => r = b2i (canU n kd fg d 5 st mine)) (fun u t => Wd D A ((fun (_ : Unit) => MW cA ob aS aI aR aM aK aT aZ aE aD aF aN aP aH vH vT vP vB vE vS) u) t) A) (0) (0) A := by
  refine k_ofi (S := Unit) (F := fun (_ : Unit) => MW cA ob aS aI aR aM aK aT aZ aE aD aF aN aP aH vH vT vP vB vE vS) (cc := cX12_canHave) (maxL := 7) (by decide) rfl (Nat.le_of_ble_eq_true rfl) ?_
  intro p e s m args below meth c Q hF hini hK hA hG hret ls hl
  have hl : lv_has ls 7 [(0, .ref (ob 0)), (1, .int (nI d)), (2, .int (nI st)), (3, .int (nI 5)), (4, .int (b2i (mine)))] := hl
  have hn : n ≤ 6 := hS.2.2.1
  have ho : o < 64 := hS.o64
  have hp2 : 2 ^ n ≤ 64 := Nat.pow_le_pow_right (by decide) hn
  have hp1 : 1 ≤ 2 ^ n := Nat.one_le_two_pow
  refine lv_iload_n hF.1 hF.2.1 dX12_canHave_0 rfl (lv_at hl 3 rfl) ?_
  refine lv_if_ne (tgt := 19) hF.1 hF.2.1 dX12_canHave_1 (by decide) (fun c_1 => ?_) (fun c_1 => ?_)
  · --
    have n_1 : ¬ (5 = 0) := fun zz9 => c_1 ((nI_eq (a := 5) (b := 0) (by omega) (by omega)).mpr zz9)
    refine lv_aload_n hF.1 hF.2.1 dX12_canHave_19 rfl (lv_at hl 0 rfl) ?_
    refine lv_iload_n hF.1 hF.2.1 dX12_canHave_20 rfl (lv_at hl 1 rfl) ?_
    refine lv_iload_n hF.1 hF.2.1 dX12_canHave_21 rfl (lv_at hl 2 rfl) ?_
    refine lv_iload_n hF.1 hF.2.1 dX12_canHave_22 rfl (lv_at hl 3 rfl) ?_
    refine lv_iconst (v := (nI 1)) hF.1 hF.2.1 dX12_canHave_23 (by decide +kernel) ?_
    refine lv_isub hF.1 hF.2.1 dX12_canHave_24 ?_
    rw [show (nI 5 - nI 1 : Int32) = nI 4 from by decide +kernel]
    refine lv_iload hF.1 hF.2.1 dX12_canHave_25 (lv_at hl 4 rfl) ?_
    refine lv_if_ne (tgt := 34) hF.1 hF.2.1 dX12_canHave_27 (by decide) (fun c_27 => ?_) (fun c_27 => ?_)
    · --
      have n_27 : (mine) = true := b2i_nz.mp c_27
      subst n_27
      refine lv_iconst (v := (nI 0)) hF.1 hF.2.1 dX12_canHave_34 (by decide +kernel) ?_
      refine k_ci (r_V (As := [.int (nI d), .int (nI st), .int (nI 4), .int (nI 0)]) hF hK hA hG (c_X12_canHave_4 (mine := !true) hS hd hst) (cwV 4 hF.2.2.2.2 gX12_canHave_X12_canHave rfl rfl rfl (by decide +kernel) ⟨Nat.le_of_ble_eq_true rfl, Nat.le_of_ble_eq_true rfl⟩) 0 rfl rfl rfl rfl hl.1 rfl (lv_room (Nat.le_of_ble_eq_true rfl)) dX12_canHave_35 ⟨Nat.le_of_ble_eq_true rfl, Nat.le_of_ble_eq_true rfl⟩) hG (fun r_35 u_35 H locs hp_35 hG => ?_)
      subst hp_35
      refine lv_istore (lv' := [(5, .int (b2i (canU n kd fg d 4 (st) (!true)))), (0, .ref (ob 0)), (1, .int (nI d)), (2, .int (nI st)), (3, .int (nI 5)), (4, .int (b2i (true)))]) hF.1 hF.2.1 dX12_canHave_38 hl (by decide) rfl (fun ls hl => ?_)
      refine lv_iload hF.1 hF.2.1 dX12_canHave_40 (lv_at hl 0 rfl) ?_
      refine lv_iload hF.1 hF.2.1 dX12_canHave_42 (lv_at hl 5 rfl) ?_
      refine lv_icmp_ne (tgt := 50) hF.1 hF.2.1 dX12_canHave_44 (by decide) (fun c_44 => ?_) (fun c_44 => ?_)
      · --
        have m_44 : ¬ canU n kd fg d 4 (st) (!true) = true := fun h => c_44 (by rw [h])
        refine lv_iconst (v := (nI 0)) hF.1 hF.2.1 dX12_canHave_50 (by decide +kernel) ?_
        refine lv_istore (lv' := [(6, .int (nI 0)), (5, .int (b2i (canU n kd fg d 4 (st) (!true)))), (0, .ref (ob 0)), (1, .int (nI d)), (2, .int (nI st)), (3, .int (nI 5)), (4, .int (b2i (true)))]) hF.1 hF.2.1 dX12_canHave_51 hl (by decide) rfl (fun ls hl => ?_)
        have lp53 : ∀ (fuel : Nat), ∀ (i : Nat), (hi : i ≤ n) → (hz : ∀ q, q < i → mv (kd q) (fg q) q st = true → ¬ canU n kd fg d 4 (st ^^^ 2 ^ q) (!true) = true) → (n - i) < fuel → ∀ (H : Heap) (locs : List Loc), Gd D A (MW cA ob aS aI aR aM aK aT aZ aE aD aF aN aP aH vH vT vP vB vE vS) s.heap H locs → ∀ ls : Array Slot, lv_has ls 7 [(0, .ref (ob 0)), (1, .int (nI d)), (2, .int (nI st)), (3, .int (nI 5)), (4, .int (b2i (true))), (6, .int (nI i))] → W p l e rmX12_canHave_5 s m args below meth c H locs (0) (0) Q (F0 m 53 ls []) := by
          intro fuel
          induction fuel with
          | zero => intro i hi hz hmu; exact absurd hmu (Nat.not_lt_zero _)
          | succ fuel ih53 =>
            intro i hi hz hmu H locs hG ls hl
            refine lv_iload hF.1 hF.2.1 dX12_canHave_53 (lv_at hl 5 rfl) ?_
            refine lv_aload_n hF.1 hF.2.1 dX12_canHave_55 rfl (lv_at hl 0 rfl) ?_
            refine k_get (C := RX12) (T := TX12) (N := 19) hF hK hG (fun _ h => List.mem_cons_of_mem _ (List.mem_append_right _ h)) 0 rfl rfl 0 (by decide) (List.mem_of_getElem? (i := 1) rfl) (fun _ h9 => h9) rfl dX12_canHave_56 ?_
            refine lv_iconst (v := (nI 0)) hF.1 hF.2.1 dX12_canHave_59 (by decide +kernel) ?_
            refine k_ialdN hF hK hG 1 rfl (0) rfl (by omega) (by omega) dX12_canHave_60 ?_
            rw [hS.1]
            refine lv_icmp_ge (tgt := 112) hF.1 hF.2.1 dX12_canHave_61 (by decide) (fun c_61 => ?_) (fun c_61 => ?_)
            · --
              have n_61 : n ≤ i := (nI_leI (a := n) (b := i) (by omega) (by omega)).mp c_61
              refine lv_iload hF.1 hF.2.1 dX12_canHave_112 (lv_at hl 4 rfl) ?_
              refine lv_if_ne (tgt := 121) hF.1 hF.2.1 dX12_canHave_114 (by decide) (fun c_114 => ?_) (fun c_114 => ?_)
              · --
                have n_114 : (true) = true := b2i_nz.mp c_114
                refine lv_iconst (v := (nI 0)) hF.1 hF.2.1 dX12_canHave_121 (by decide +kernel) ?_
                exact hret _ () _ ls _ _ _ _ (by first | (rw [canU_a m_44]) | (rw [canU_b (by omega) n_71 m_100]) | (rw [canU_c m_44 (fun q hq => hz q (by omega))]; rfl)) (by first | rfl | exact nar_b2i _) hG (Nat.le_of_ble_eq_true rfl) (Nat.le_of_ble_eq_true rfl) dX12_canHave_122
              · --
                have n_114 : (true) = false := b2i_z.mp c_114
                cases n_114
            · --
              have n_61 : ¬ (n ≤ i) := fun zz9 => c_61 ((nI_leI (a := n) (b := i) (by omega) (by omega)).mpr zz9)
              refine lv_aload_n hF.1 hF.2.1 dX12_canHave_64 rfl (lv_at hl 0 rfl) ?_
              refine lv_iload hF.1 hF.2.1 dX12_canHave_65 (lv_at hl 5 rfl) ?_
              refine lv_iload_n hF.1 hF.2.1 dX12_canHave_67 rfl (lv_at hl 2 rfl) ?_
              refine k_ci (r_V (As := [.int (nI i), .int (nI st)]) hF hK hA hG (c_X12_may hS (by omega) (by omega)) (cwV 2 hF.2.2.2.2 gX12_canHave_X12_may rfl rfl rfl (by decide +kernel) ⟨Nat.le_of_ble_eq_true rfl, Nat.le_of_ble_eq_true rfl⟩) 0 rfl rfl rfl rfl hl.1 rfl (lv_room (Nat.le_of_ble_eq_true rfl)) dX12_canHave_68 ⟨Nat.le_of_ble_eq_true rfl, Nat.le_of_ble_eq_true rfl⟩) hG (fun r_68 u_68 H locs hp_68 hG => ?_)
              subst hp_68
              refine lv_if_eq (tgt := 106) hF.1 hF.2.1 dX12_canHave_71 (by decide) (fun c_71 => ?_) (fun c_71 => ?_)
              · --
                have n_71 : (mv (kd i) (fg i) i st) = false := b2i_z.mp c_71
                refine lv_iinc (v := (nI (i + 1))) (lv' := [(6, .int (nI (i + 1))), (0, .ref (ob 0)), (1, .int (nI d)), (2, .int (nI st)), (3, .int (nI 5)), (4, .int (b2i (true)))]) hF.1 hF.2.1 dX12_canHave_106 hl (k := 5) rfl (nI_inc _ _) (by decide) rfl (fun ls hl => ?_)
                refine lv_goto (tgt := 53) hF.1 hF.2.1 dX12_canHave_109 (by decide) ?_
                exact ih53 (i + 1) (by omega) (lt_s hz (fun hm => by first | exact m_100 | (rw [n_71] at hm; cases hm))) (by omega) _ _ hG ls (lv_sub hl [1, 2, 3, 4, 5, 0] rfl)
              · --
                have n_71 : (mv (kd i) (fg i) i st) = true := b2i_nz.mp c_71
                have hx := xor_ltn (n := n) (o := st) (j := i) hst (by omega)
                refine lv_aload_n hF.1 hF.2.1 dX12_canHave_74 rfl (lv_at hl 0 rfl) ?_
                refine lv_iload_n hF.1 hF.2.1 dX12_canHave_75 rfl (lv_at hl 1 rfl) ?_
                refine lv_iload_n hF.1 hF.2.1 dX12_canHave_76 rfl (lv_at hl 2 rfl) ?_
                refine lv_iconst (v := (nI 1)) hF.1 hF.2.1 dX12_canHave_77 (by decide +kernel) ?_
                refine lv_iload hF.1 hF.2.1 dX12_canHave_78 (lv_at hl 5 rfl) ?_
                refine lv_ishl hF.1 hF.2.1 dX12_canHave_80 ?_
                rw [shl_1 (by omega)]
                refine lv_ixor hF.1 hF.2.1 dX12_canHave_81 ?_
                rw [nx_xor]
                refine lv_iload_n hF.1 hF.2.1 dX12_canHave_82 rfl (lv_at hl 3 rfl) ?_
                refine lv_iconst (v := (nI 1)) hF.1 hF.2.1 dX12_canHave_83 (by decide +kernel) ?_
                refine lv_isub hF.1 hF.2.1 dX12_canHave_84 ?_
                rw [show (nI 5 - nI 1 : Int32) = nI 4 from by decide +kernel]
                refine lv_iload hF.1 hF.2.1 dX12_canHave_85 (lv_at hl 4 rfl) ?_
                refine lv_if_ne (tgt := 94) hF.1 hF.2.1 dX12_canHave_87 (by decide) (fun c_87 => ?_) (fun c_87 => ?_)
                · --
                  have n_87 : (true) = true := b2i_nz.mp c_87
                  refine lv_iconst (v := (nI 0)) hF.1 hF.2.1 dX12_canHave_94 (by decide +kernel) ?_
                  refine k_ci (r_V (As := [.int (nI d), .int (nI (st ^^^ 2 ^ i)), .int (nI 4), .int (nI 0)]) hF hK hA hG (c_X12_canHave_4 (mine := !true) hS hd hx) (cwV 4 hF.2.2.2.2 gX12_canHave_X12_canHave rfl rfl rfl (by decide +kernel) ⟨Nat.le_of_ble_eq_true rfl, Nat.le_of_ble_eq_true rfl⟩) 0 rfl rfl rfl rfl hl.1 rfl (lv_room (Nat.le_of_ble_eq_true rfl)) dX12_canHave_95 ⟨Nat.le_of_ble_eq_true rfl, Nat.le_of_ble_eq_true rfl⟩) hG (fun r_95 u_95 H locs hp_95 hG => ?_)
                  subst hp_95
                  refine lv_iload hF.1 hF.2.1 dX12_canHave_98 (lv_at hl 4 rfl) ?_
                  refine lv_icmp_ne (tgt := 106) hF.1 hF.2.1 dX12_canHave_100 (by decide) (fun c_100 => ?_) (fun c_100 => ?_)
                  · --
                    have m_100 : ¬ canU n kd fg d 4 (st ^^^ 2 ^ i) (!true) = true := fun h => c_100 (by rw [h])
                    refine lv_iinc (v := (nI (i + 1))) (lv' := [(6, .int (nI (i + 1))), (0, .ref (ob 0)), (1, .int (nI d)), (2, .int (nI st)), (3, .int (nI 5)), (4, .int (b2i (true)))]) hF.1 hF.2.1 dX12_canHave_106 hl (k := 5) rfl (nI_inc _ _) (by decide) rfl (fun ls hl => ?_)
                    refine lv_goto (tgt := 53) hF.1 hF.2.1 dX12_canHave_109 (by decide) ?_
                    exact ih53 (i + 1) (by omega) (lt_s hz (fun hm => by first | exact m_100 | (rw [n_71] at hm; cases hm))) (by omega) _ _ hG ls (lv_sub hl [1, 2, 3, 4, 5, 0] rfl)
                  · --
                    have m_100 : canU n kd fg d 4 (st ^^^ 2 ^ i) (!true) = true := b2i_inj c_100
                    refine lv_iload hF.1 hF.2.1 dX12_canHave_103 (lv_at hl 4 rfl) ?_
                    exact hret _ () _ ls _ _ _ _ (by first | (rw [canU_a m_44]) | (rw [canU_b (by omega) n_71 m_100]) | (rw [canU_c m_44 (fun q hq => hz q (by omega))]; rfl)) (by first | rfl | exact nar_b2i _) hG (Nat.le_of_ble_eq_true rfl) (Nat.le_of_ble_eq_true rfl) dX12_canHave_105
                · --
                  have n_87 : (true) = false := b2i_z.mp c_87
                  cases n_87
        exact lp53 _ (0) (by omega) (fun q h => absurd h (Nat.not_lt_zero q)) (Nat.lt_succ_self _) _ _ hG ls (lv_sub hl [2, 3, 4, 5, 6, 0] rfl)
      · --
        have m_44 : canU n kd fg d 4 (st) (!true) = true := b2i_inj c_44
        refine lv_iload hF.1 hF.2.1 dX12_canHave_47 (lv_at hl 5 rfl) ?_
        exact hret _ () _ ls _ _ _ _ (by first | (rw [canU_a m_44]) | (rw [canU_b (by omega) n_71 m_100]) | (rw [canU_c m_44 (fun q hq => hz q (by omega))]; rfl)) (by first | rfl | exact nar_b2i _) hG (Nat.le_of_ble_eq_true rfl) (Nat.le_of_ble_eq_true rfl) dX12_canHave_49
    · --
      have n_27 : (mine) = false := b2i_z.mp c_27
      subst n_27
      refine lv_iconst (v := (nI 1)) hF.1 hF.2.1 dX12_canHave_30 (by decide +kernel) ?_
      refine lv_goto (tgt := 35) hF.1 hF.2.1 dX12_canHave_31 (by decide) ?_
      refine k_ci (r_V (As := [.int (nI d), .int (nI st), .int (nI 4), .int (nI 1)]) hF hK hA hG (c_X12_canHave_4 (mine := !false) hS hd hst) (cwV 4 hF.2.2.2.2 gX12_canHave_X12_canHave rfl rfl rfl (by decide +kernel) ⟨Nat.le_of_ble_eq_true rfl, Nat.le_of_ble_eq_true rfl⟩) 0 rfl rfl rfl rfl hl.1 rfl (lv_room (Nat.le_of_ble_eq_true rfl)) dX12_canHave_35 ⟨Nat.le_of_ble_eq_true rfl, Nat.le_of_ble_eq_true rfl⟩) hG (fun r_35 u_35 H locs hp_35 hG => ?_)
      subst hp_35
      refine lv_istore (lv' := [(5, .int (b2i (canU n kd fg d 4 (st) (!false)))), (0, .ref (ob 0)), (1, .int (nI d)), (2, .int (nI st)), (3, .int (nI 5)), (4, .int (b2i (false)))]) hF.1 hF.2.1 dX12_canHave_38 hl (by decide) rfl (fun ls hl => ?_)
      refine lv_iload hF.1 hF.2.1 dX12_canHave_40 (lv_at hl 0 rfl) ?_
      refine lv_iload hF.1 hF.2.1 dX12_canHave_42 (lv_at hl 5 rfl) ?_
      refine lv_icmp_ne (tgt := 50) hF.1 hF.2.1 dX12_canHave_44 (by decide) (fun c_44 => ?_) (fun c_44 => ?_)
      · --
        have m_44 : ¬ canU n kd fg d 4 (st) (!false) = false := fun h => c_44 (by rw [h])
        refine lv_iconst (v := (nI 0)) hF.1 hF.2.1 dX12_canHave_50 (by decide +kernel) ?_
        refine lv_istore (lv' := [(6, .int (nI 0)), (5, .int (b2i (canU n kd fg d 4 (st) (!false)))), (0, .ref (ob 0)), (1, .int (nI d)), (2, .int (nI st)), (3, .int (nI 5)), (4, .int (b2i (false)))]) hF.1 hF.2.1 dX12_canHave_51 hl (by decide) rfl (fun ls hl => ?_)
        have lp53 : ∀ (fuel : Nat), ∀ (i : Nat), (hi : i ≤ n) → (hz : ∀ q, q < i → mv (kd q) (fg q) q st = true → ¬ canU n kd fg d 4 (st ^^^ 2 ^ q) (!false) = false) → (n - i) < fuel → ∀ (H : Heap) (locs : List Loc), Gd D A (MW cA ob aS aI aR aM aK aT aZ aE aD aF aN aP aH vH vT vP vB vE vS) s.heap H locs → ∀ ls : Array Slot, lv_has ls 7 [(0, .ref (ob 0)), (1, .int (nI d)), (2, .int (nI st)), (3, .int (nI 5)), (4, .int (b2i (false))), (6, .int (nI i))] → W p l e rmX12_canHave_5 s m args below meth c H locs (0) (0) Q (F0 m 53 ls []) := by
          intro fuel
          induction fuel with
          | zero => intro i hi hz hmu; exact absurd hmu (Nat.not_lt_zero _)
          | succ fuel ih53 =>
            intro i hi hz hmu H locs hG ls hl
            refine lv_iload hF.1 hF.2.1 dX12_canHave_53 (lv_at hl 5 rfl) ?_
            refine lv_aload_n hF.1 hF.2.1 dX12_canHave_55 rfl (lv_at hl 0 rfl) ?_
            refine k_get (C := RX12) (T := TX12) (N := 19) hF hK hG (fun _ h => List.mem_cons_of_mem _ (List.mem_append_right _ h)) 0 rfl rfl 0 (by decide) (List.mem_of_getElem? (i := 1) rfl) (fun _ h9 => h9) rfl dX12_canHave_56 ?_
            refine lv_iconst (v := (nI 0)) hF.1 hF.2.1 dX12_canHave_59 (by decide +kernel) ?_
            refine k_ialdN hF hK hG 1 rfl (0) rfl (by omega) (by omega) dX12_canHave_60 ?_
            rw [hS.1]
            refine lv_icmp_ge (tgt := 112) hF.1 hF.2.1 dX12_canHave_61 (by decide) (fun c_61 => ?_) (fun c_61 => ?_)
            · --
              have n_61 : n ≤ i := (nI_leI (a := n) (b := i) (by omega) (by omega)).mp c_61
              refine lv_iload hF.1 hF.2.1 dX12_canHave_112 (lv_at hl 4 rfl) ?_
              refine lv_if_ne (tgt := 121) hF.1 hF.2.1 dX12_canHave_114 (by decide) (fun c_114 => ?_) (fun c_114 => ?_)
              · --
                have n_114 : (false) = true := b2i_nz.mp c_114
                cases n_114
              · --
                have n_114 : (false) = false := b2i_z.mp c_114
                refine lv_iconst (v := (nI 1)) hF.1 hF.2.1 dX12_canHave_117 (by decide +kernel) ?_
                refine lv_goto (tgt := 122) hF.1 hF.2.1 dX12_canHave_118 (by decide) ?_
                exact hret _ () _ ls _ _ _ _ (by first | (rw [canU_a m_44]) | (rw [canU_b (by omega) n_71 m_100]) | (rw [canU_c m_44 (fun q hq => hz q (by omega))]; rfl)) (by first | rfl | exact nar_b2i _) hG (Nat.le_of_ble_eq_true rfl) (Nat.le_of_ble_eq_true rfl) dX12_canHave_122
            · --
              have n_61 : ¬ (n ≤ i) := fun zz9 => c_61 ((nI_leI (a := n) (b := i) (by omega) (by omega)).mpr zz9)
              refine lv_aload_n hF.1 hF.2.1 dX12_canHave_64 rfl (lv_at hl 0 rfl) ?_
              refine lv_iload hF.1 hF.2.1 dX12_canHave_65 (lv_at hl 5 rfl) ?_
              refine lv_iload_n hF.1 hF.2.1 dX12_canHave_67 rfl (lv_at hl 2 rfl) ?_
              refine k_ci (r_V (As := [.int (nI i), .int (nI st)]) hF hK hA hG (c_X12_may hS (by omega) (by omega)) (cwV 2 hF.2.2.2.2 gX12_canHave_X12_may rfl rfl rfl (by decide +kernel) ⟨Nat.le_of_ble_eq_true rfl, Nat.le_of_ble_eq_true rfl⟩) 0 rfl rfl rfl rfl hl.1 rfl (lv_room (Nat.le_of_ble_eq_true rfl)) dX12_canHave_68 ⟨Nat.le_of_ble_eq_true rfl, Nat.le_of_ble_eq_true rfl⟩) hG (fun r_68 u_68 H locs hp_68 hG => ?_)
              subst hp_68
              refine lv_if_eq (tgt := 106) hF.1 hF.2.1 dX12_canHave_71 (by decide) (fun c_71 => ?_) (fun c_71 => ?_)
              · --
                have n_71 : (mv (kd i) (fg i) i st) = false := b2i_z.mp c_71
                refine lv_iinc (v := (nI (i + 1))) (lv' := [(6, .int (nI (i + 1))), (0, .ref (ob 0)), (1, .int (nI d)), (2, .int (nI st)), (3, .int (nI 5)), (4, .int (b2i (false)))]) hF.1 hF.2.1 dX12_canHave_106 hl (k := 5) rfl (nI_inc _ _) (by decide) rfl (fun ls hl => ?_)
                refine lv_goto (tgt := 53) hF.1 hF.2.1 dX12_canHave_109 (by decide) ?_
                exact ih53 (i + 1) (by omega) (lt_s hz (fun hm => by first | exact m_100 | (rw [n_71] at hm; cases hm))) (by omega) _ _ hG ls (lv_sub hl [1, 2, 3, 4, 5, 0] rfl)
              · --
                have n_71 : (mv (kd i) (fg i) i st) = true := b2i_nz.mp c_71
                have hx := xor_ltn (n := n) (o := st) (j := i) hst (by omega)
                refine lv_aload_n hF.1 hF.2.1 dX12_canHave_74 rfl (lv_at hl 0 rfl) ?_
                refine lv_iload_n hF.1 hF.2.1 dX12_canHave_75 rfl (lv_at hl 1 rfl) ?_
                refine lv_iload_n hF.1 hF.2.1 dX12_canHave_76 rfl (lv_at hl 2 rfl) ?_
                refine lv_iconst (v := (nI 1)) hF.1 hF.2.1 dX12_canHave_77 (by decide +kernel) ?_
                refine lv_iload hF.1 hF.2.1 dX12_canHave_78 (lv_at hl 5 rfl) ?_
                refine lv_ishl hF.1 hF.2.1 dX12_canHave_80 ?_
                rw [shl_1 (by omega)]
                refine lv_ixor hF.1 hF.2.1 dX12_canHave_81 ?_
                rw [nx_xor]
                refine lv_iload_n hF.1 hF.2.1 dX12_canHave_82 rfl (lv_at hl 3 rfl) ?_
                refine lv_iconst (v := (nI 1)) hF.1 hF.2.1 dX12_canHave_83 (by decide +kernel) ?_
                refine lv_isub hF.1 hF.2.1 dX12_canHave_84 ?_
                rw [show (nI 5 - nI 1 : Int32) = nI 4 from by decide +kernel]
                refine lv_iload hF.1 hF.2.1 dX12_canHave_85 (lv_at hl 4 rfl) ?_
                refine lv_if_ne (tgt := 94) hF.1 hF.2.1 dX12_canHave_87 (by decide) (fun c_87 => ?_) (fun c_87 => ?_)
                · --
                  have n_87 : (false) = true := b2i_nz.mp c_87
                  cases n_87
                · --
                  have n_87 : (false) = false := b2i_z.mp c_87
                  refine lv_iconst (v := (nI 1)) hF.1 hF.2.1 dX12_canHave_90 (by decide +kernel) ?_
                  refine lv_goto (tgt := 95) hF.1 hF.2.1 dX12_canHave_91 (by decide) ?_
                  refine k_ci (r_V (As := [.int (nI d), .int (nI (st ^^^ 2 ^ i)), .int (nI 4), .int (nI 1)]) hF hK hA hG (c_X12_canHave_4 (mine := !false) hS hd hx) (cwV 4 hF.2.2.2.2 gX12_canHave_X12_canHave rfl rfl rfl (by decide +kernel) ⟨Nat.le_of_ble_eq_true rfl, Nat.le_of_ble_eq_true rfl⟩) 0 rfl rfl rfl rfl hl.1 rfl (lv_room (Nat.le_of_ble_eq_true rfl)) dX12_canHave_95 ⟨Nat.le_of_ble_eq_true rfl, Nat.le_of_ble_eq_true rfl⟩) hG (fun r_95 u_95 H locs hp_95 hG => ?_)
                  subst hp_95
                  refine lv_iload hF.1 hF.2.1 dX12_canHave_98 (lv_at hl 4 rfl) ?_
                  refine lv_icmp_ne (tgt := 106) hF.1 hF.2.1 dX12_canHave_100 (by decide) (fun c_100 => ?_) (fun c_100 => ?_)
                  · --
                    have m_100 : ¬ canU n kd fg d 4 (st ^^^ 2 ^ i) (!false) = false := fun h => c_100 (by rw [h])
                    refine lv_iinc (v := (nI (i + 1))) (lv' := [(6, .int (nI (i + 1))), (0, .ref (ob 0)), (1, .int (nI d)), (2, .int (nI st)), (3, .int (nI 5)), (4, .int (b2i (false)))]) hF.1 hF.2.1 dX12_canHave_106 hl (k := 5) rfl (nI_inc _ _) (by decide) rfl (fun ls hl => ?_)
                    refine lv_goto (tgt := 53) hF.1 hF.2.1 dX12_canHave_109 (by decide) ?_
                    exact ih53 (i + 1) (by omega) (lt_s hz (fun hm => by first | exact m_100 | (rw [n_71] at hm; cases hm))) (by omega) _ _ hG ls (lv_sub hl [1, 2, 3, 4, 5, 0] rfl)
                  · --
                    have m_100 : canU n kd fg d 4 (st ^^^ 2 ^ i) (!false) = false := b2i_inj c_100
                    refine lv_iload hF.1 hF.2.1 dX12_canHave_103 (lv_at hl 4 rfl) ?_
                    exact hret _ () _ ls _ _ _ _ (by first | (rw [canU_a m_44]) | (rw [canU_b (by omega) n_71 m_100]) | (rw [canU_c m_44 (fun q hq => hz q (by omega))]; rfl)) (by first | rfl | exact nar_b2i _) hG (Nat.le_of_ble_eq_true rfl) (Nat.le_of_ble_eq_true rfl) dX12_canHave_105
        exact lp53 _ (0) (by omega) (fun q h => absurd h (Nat.not_lt_zero q)) (Nat.lt_succ_self _) _ _ hG ls (lv_sub hl [2, 3, 4, 5, 6, 0] rfl)
      · --
        have m_44 : canU n kd fg d 4 (st) (!false) = false := b2i_inj c_44
        refine lv_iload hF.1 hF.2.1 dX12_canHave_47 (lv_at hl 5 rfl) ?_
        exact hret _ () _ ls _ _ _ _ (by first | (rw [canU_a m_44]) | (rw [canU_b (by omega) n_71 m_100]) | (rw [canU_c m_44 (fun q hq => hz q (by omega))]; rfl)) (by first | rfl | exact nar_b2i _) hG (Nat.le_of_ble_eq_true rfl) (Nat.le_of_ble_eq_true rfl) dX12_canHave_49
  · --
    have n_1 : 5 = 0 := (nI_eq (a := 5) (b := 0) (by omega) (by omega)).mp c_1
    exact absurd n_1 (by decide)
