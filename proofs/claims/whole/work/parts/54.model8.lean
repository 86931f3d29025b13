/-- the first to pull: g is the fewest from a to b -/
def FST (n : Nat) (kd fg : Nat → Nat) (a b : Nat) (g r : Int32) : Prop :=
  (r = -4 ∧ (g ≤ 0 ∨ ∀ i, i < n → mv (kd i) (fg i) i a = true → ¬ DS n kd fg (a ^^^ 2 ^ i) b (g - nI 1))) ∨
  ∃ i, i < n ∧ r = nI i ∧ ¬ g ≤ 0 ∧ mv (kd i) (fg i) i a = true ∧ DS n kd fg (a ^^^ 2 ^ i) b (g - nI 1) ∧ ∀ j, j < i → mv (kd j) (fg j) j a = true → ¬ DS n kd fg (a ^^^ 2 ^ j) b (g - nI 1)
theorem FST.one {n a b : Nat} {kd fg : Nat → Nat} {g r q : Int32} (h : FST n kd fg a b g r) (h' : FST n kd fg a b g q) : r = q := by
  rcases h with ⟨h1, h2⟩ | ⟨i, h0, h1, hg, hm, h2, h3⟩ <;> rcases h' with ⟨g1, g2⟩ | ⟨j, g0, g1, gg, gm, g2, g3⟩
  · rw [h1, g1]
  · rcases h2 with h2 | h2
    · exact absurd h2 gg
    · exact absurd g2 (h2 j g0 gm)
  · rcases g2 with g2 | g2
    · exact absurd g2 hg
    · exact absurd h2 (g2 i h0 hm)
  · rcases Nat.lt_trichotomy i j with e | e | e
    · exact absurd h2 (g3 i e hm)
    · rw [h1, g1, e]
    · exact absurd g2 (h3 j e gm)
def spFirst (n : Nat) (kd fg : Nat → Nat) (f t r : Int32) : Prop := if (inB (2 ^ n) f && inB (2 ^ n) t) = true then ∃ g, DS n kd fg f.toNatClampNeg t.toNatClampNeg g ∧ FST n kd fg f.toNatClampNeg t.toNatClampNeg g r else r = -1
theorem spFirst_f {n : Nat} {kd fg : Nat → Nat} {f t : Int32} (h : inB (2 ^ n) f = false ∨ inB (2 ^ n) t = false) : spFirst n kd fg f t (-1) := by
  unfold spFirst
  rcases h with h | h
  · rw [h]; simp
  · rw [h]; simp
theorem spFirst_t {n i j : Nat} {kd fg : Nat → Nat} {g r : Int32} (hn : n ≤ 6) (hi : i < 2 ^ n) (hj : j < 2 ^ n) (h : DS n kd fg i j g) (h2 : FST n kd fg i j g r) : spFirst n kd fg (nI i) (nI j) r := by
  have h1 : 2 ^ n ≤ 2 ^ 6 := Nat.pow_le_pow_right (by decide) hn
  unfold spFirst
  rw [inB_j (by omega) hi, inB_j (by omega) hj, nI_clamp (by omega), nI_clamp (by omega)]
  exact ⟨g, h, h2⟩
theorem spFirst_one {n : Nat} {kd fg : Nat → Nat} {f t r q : Int32} (h : spFirst n kd fg f t r) (h' : spFirst n kd fg f t q) : r = q := by
  unfold spFirst at h h'
  split at h
  · rename_i e
    rw [if_pos e] at h'
    obtain ⟨g, a1, a2⟩ := h
    obtain ⟨g', b1, b2⟩ := h'
    have e2 : g = g' := IsW.one a1 b1
    subst e2
    exact a2.one b2
  · rename_i e
    rw [if_neg e] at h'
    rw [h, h']
theorem spFewest_one {n : Nat} {kd fg : Nat → Nat} {f t r q : Int32} (h : spFewest n kd fg f t r) (h' : spFewest n kd fg f t q) : r = q := by
  unfold spFewest at h h'
  split at h
  · rename_i e
    rw [if_pos e] at h'
    exact IsW.one h h'
  · rename_i e
    rw [if_neg e] at h'
    rw [h, h']
theorem spHad_one {n o : Nat} {kd fg : Nat → Nat} {t r q : Int32} (h : spHad n o kd fg t r) (h' : spHad n o kd fg t q) : r = q := by
  unfold spHad at h h'
  split at h
  · rename_i e
    rw [if_pos e] at h'
    exact IsW.one h h'
  · rename_i e
    rw [if_neg e] at h'
    rw [h, h']
theorem spPlace_one {n : Nat} {kd fg : Nat → Nat} {t r q : Int32} (h : spPlace n kd fg t r) (h' : spPlace n kd fg t q) : r = q := by
  unfold spPlace at h h'
  split at h
  · rename_i e
    rw [if_pos e] at h'
    split at h
    · rename_i e2
      rw [if_pos e2] at h'
      exact IsW.one h h'
    · rename_i e2
      rw [if_neg e2] at h'
      rw [h, h']
  · rename_i e
    rw [if_neg e] at h'
    rw [h, h']
abbrev rmX12_first : Room := { frames := 3, cells := 0, slots := 0, locals := 71 }
set_option maxHeartbeats 4000000 in
set_option maxRecDepth 100000 in
theorem c_X12_first {l : Launch} {D : va_G} {cA : Nat → ClassId} {A : Nat → Prop}  {ob : Nat → Nat} {aS aI aR aM aK aT aZ aE aD aF aN aP aH : Nat → Int32} {vH vT vP vB vE vS : Int32} {n o : Nat} {kd fg : Nat → Nat} (hS : SR aS n o kd fg) {f t : Int32} : Met l yX12_first wsX12_first rmX12_first (va_Pc [.ref (ob 0), .int f, .int t] (Pre D cA A (MW cA ob aS aI aR aM aK aT aZ aE aD aF aN aP aH vH vT vP vB vE vS))) (va_Qi (fun r (_ : Nat → Int32) => spFirst n kd fg f t r) (fun u t => Wd D A ((fun (u : Nat → Int32) => MW cA ob aS aI aR aM aK aT aZ aE aD aF aN u aH vH vT vP vB vE vS) u) t) A) (0) (0) A := by
  refine k_ofi (S := Nat → Int32) (F := fun (u : Nat → Int32) => MW cA ob aS aI aR aM aK aT aZ aE aD aF aN u aH vH vT vP vB vE vS) (cc := cX12_first) (maxL := 5) (by decide) rfl (Nat.le_of_ble_eq_true rfl) ?_
  intro p e s m args below meth c Q hF hini hK hA hG hret ls hl
  have hl : lv_has ls 5 [(0, .ref (ob 0)), (1, .int f), (2, .int t)] := hl
  have hn : n ≤ 6 := hS.2.2.1
  have ho : o < 64 := hS.o64
  have hp2 : 2 ^ n ≤ 64 := Nat.pow_le_pow_right (by decide) hn
  have hp1 : 1 ≤ 2 ^ n := Nat.one_le_two_pow
  refine lv_aload_n hF.1 hF.2.1 dX12_first_0 rfl (lv_at hl 0 rfl) ?_
  refine lv_iload_n hF.1 hF.2.1 dX12_first_1 rfl (lv_at hl 1 rfl) ?_
  refine k_ci (r_V (As := [.int f]) hF hK hA hG (c_X12_areDrawers hS) (cwV 1 hF.2.2.2.2 gX12_first_X12_areDrawers rfl rfl rfl (by decide +kernel) ⟨Nat.le_of_ble_eq_true rfl, Nat.le_of_ble_eq_true rfl⟩) 0 rfl rfl rfl rfl hl.1 rfl (lv_room (Nat.le_of_ble_eq_true rfl)) dX12_first_2 ⟨Nat.le_of_ble_eq_true rfl, Nat.le_of_ble_eq_true rfl⟩) hG (fun r_2 u_2 H locs hp_2 hG => ?_)
  subst hp_2
  refine lv_if_eq (tgt := 16) hF.1 hF.2.1 dX12_first_5 (by decide) (fun c_5 => ?_) (fun c_5 => ?_)
  · --
    have n_5 : (inB (2 ^ n) f) = false := b2i_z.mp c_5
    refine lv_iconst (v := (-1)) hF.1 hF.2.1 dX12_first_16 (by decide +kernel) ?_
    exact hret _ aP _ ls _ _ _ _ (by first | exact spFirst_f (Or.inl n_5) | exact spFirst_f (Or.inr n_13)) (by first | rfl | exact nar_b2i _) hG (Nat.le_of_ble_eq_true rfl) (Nat.le_of_ble_eq_true rfl) dX12_first_17
  · --
    have n_5 : (inB (2 ^ n) f) = true := b2i_nz.mp c_5
    obtain ⟨a, ha, rfl⟩ := inB_ex (by omega) n_5
    refine lv_aload_n hF.1 hF.2.1 dX12_first_8 rfl (lv_at hl 0 rfl) ?_
    refine lv_iload_n hF.1 hF.2.1 dX12_first_9 rfl (lv_at hl 2 rfl) ?_
    refine k_ci (r_V (As := [.int t]) hF hK hA hG (c_X12_areDrawers hS) (cwV 1 hF.2.2.2.2 gX12_first_X12_areDrawers rfl rfl rfl (by decide +kernel) ⟨Nat.le_of_ble_eq_true rfl, Nat.le_of_ble_eq_true rfl⟩) 0 rfl rfl rfl rfl hl.1 rfl (lv_room (Nat.le_of_ble_eq_true rfl)) dX12_first_10 ⟨Nat.le_of_ble_eq_true rfl, Nat.le_of_ble_eq_true rfl⟩) hG (fun r_10 u_10 H locs hp_10 hG => ?_)
    subst hp_10
    refine lv_if_ne (tgt := 18) hF.1 hF.2.1 dX12_first_13 (by decide) (fun c_13 => ?_) (fun c_13 => ?_)
    · --
      have n_13 : (inB (2 ^ n) t) = true := b2i_nz.mp c_13
      obtain ⟨b, hb, rfl⟩ := inB_ex (by omega) n_13
      refine lv_aload_n hF.1 hF.2.1 dX12_first_18 rfl (lv_at hl 0 rfl) ?_
      refine lv_iload_n hF.1 hF.2.1 dX12_first_19 rfl (lv_at hl 1 rfl) ?_
      refine k_cv (r_V (As := [.int (nI a)]) hF hK hA hG (c_X12_findsPulls hS ha) (cwV 1 hF.2.2.2.2 gX12_first_X12_findsPulls rfl rfl rfl (by decide +kernel) ⟨Nat.le_of_ble_eq_true rfl, Nat.le_of_ble_eq_true rfl⟩) 0 rfl rfl rfl rfl hl.1 rfl (lv_room (Nat.le_of_ble_eq_true rfl)) dX12_first_20 ⟨Nat.le_of_ble_eq_true rfl, Nat.le_of_ble_eq_true rfl⟩) hG (fun u_20 H locs hp_20 hG => ?_)
      refine lv_aload_n hF.1 hF.2.1 dX12_first_23 rfl (lv_at hl 0 rfl) ?_
      refine k_get (C := RX12) (T := TX12) (N := 19) hF hK hG (fun _ h => List.mem_cons_of_mem _ (List.mem_append_right _ h)) 0 rfl rfl 16 (by decide) (List.mem_of_getElem? (i := 1) rfl) (fun _ h9 => h9) rfl dX12_first_24 ?_
      refine lv_iload_n hF.1 hF.2.1 dX12_first_27 rfl (lv_at hl 2 rfl) ?_
      refine k_ialdN hF hK hG 12 rfl (b) rfl (by omega) (by omega) dX12_first_28 ?_
      refine lv_istore_n (lv' := [(3, .int (u_20 b)), (0, .ref (ob 0)), (1, .int (nI a)), (2, .int (nI b))]) hF.1 hF.2.1 dX12_first_29 rfl hl (by decide) rfl (fun ls hl => ?_)
      refine lv_iconst (v := (nI 0)) hF.1 hF.2.1 dX12_first_30 (by decide +kernel) ?_
      refine lv_istore (lv' := [(4, .int (nI 0)), (3, .int (u_20 b)), (0, .ref (ob 0)), (1, .int (nI a)), (2, .int (nI b))]) hF.1 hF.2.1 dX12_first_31 hl (by decide) rfl (fun ls hl => ?_)
      have lp33 : ∀ (fuel : Nat), ∀ (i : Nat) (aP : Nat → Int32), (hi : i ≤ n) → (hz : ∀ q, q < i → mv (kd q) (fg q) q a = true → ¬ DS n kd fg (a ^^^ 2 ^ q) b (u_20 b - nI 1)) → (n - i) < fuel → ∀ (H : Heap) (locs : List Loc), Gd D A (MW cA ob aS aI aR aM aK aT aZ aE aD aF aN aP aH vH vT vP vB vE vS) s.heap H locs → ∀ ls : Array Slot, lv_has ls 5 [(0, .ref (ob 0)), (1, .int (nI a)), (2, .int (nI b)), (3, .int (u_20 b)), (4, .int (nI i))] → W p l e rmX12_first s m args below meth c H locs (0) (0) Q (F0 m 33 ls []) := by
        intro fuel
        induction fuel with
        | zero => intro i aP hi hz hmu; exact absurd hmu (Nat.not_lt_zero _)
        | succ fuel ih33 =>
          intro i aP hi hz hmu H locs hG ls hl
          refine lv_iload hF.1 hF.2.1 dX12_first_33 (lv_at hl 4 rfl) ?_
          refine lv_aload_n hF.1 hF.2.1 dX12_first_35 rfl (lv_at hl 0 rfl) ?_
          refine k_get (C := RX12) (T := TX12) (N := 19) hF hK hG (fun _ h => List.mem_cons_of_mem _ (List.mem_append_right _ h)) 0 rfl rfl 0 (by decide) (List.mem_of_getElem? (i := 2) rfl) (fun _ h9 => h9) rfl dX12_first_36 ?_
          refine lv_iconst (v := (nI 0)) hF.1 hF.2.1 dX12_first_39 (by decide +kernel) ?_
          refine k_ialdN hF hK hG 1 rfl (0) rfl (by omega) (by omega) dX12_first_40 ?_
          rw [hS.1]
          refine lv_icmp_ge (tgt := 92) hF.1 hF.2.1 dX12_first_41 (by decide) (fun c_41 => ?_) (fun c_41 => ?_)
          · --
            have n_41 : n ≤ i := (nI_leI (a := n) (b := i) (by omega) (by omega)).mp c_41
            refine lv_bipush (v := (-4)) hF.1 hF.2.1 dX12_first_92 (by decide +kernel) ?_
            exact hret _ _ _ ls _ _ _ _ (by exact spFirst_t hn ha hb (hp_20 b hb) (Or.inl ⟨rfl, by first | exact Or.inl c_45 | exact Or.inr (fun q hq => hz q (by omega))⟩)) (by first | rfl | exact nar_b2i _) hG (Nat.le_of_ble_eq_true rfl) (Nat.le_of_ble_eq_true rfl) dX12_first_94
          · --
            have n_41 : ¬ (n ≤ i) := fun zz9 => c_41 ((nI_leI (a := n) (b := i) (by omega) (by omega)).mpr zz9)
            refine lv_iload_n hF.1 hF.2.1 dX12_first_44 rfl (lv_at hl 3 rfl) ?_
            refine lv_if_le (tgt := 92) hF.1 hF.2.1 dX12_first_45 (by decide) (fun c_45 => ?_) (fun c_45 => ?_)
            · --
              refine lv_bipush (v := (-4)) hF.1 hF.2.1 dX12_first_92 (by decide +kernel) ?_
              exact hret _ _ _ ls _ _ _ _ (by exact spFirst_t hn ha hb (hp_20 b hb) (Or.inl ⟨rfl, by first | exact Or.inl c_45 | exact Or.inr (fun q hq => hz q (by omega))⟩)) (by first | rfl | exact nar_b2i _) hG (Nat.le_of_ble_eq_true rfl) (Nat.le_of_ble_eq_true rfl) dX12_first_94
            · --
              refine lv_aload_n hF.1 hF.2.1 dX12_first_48 rfl (lv_at hl 0 rfl) ?_
              refine lv_iload hF.1 hF.2.1 dX12_first_49 (lv_at hl 4 rfl) ?_
              refine lv_iload_n hF.1 hF.2.1 dX12_first_51 rfl (lv_at hl 1 rfl) ?_
              refine k_ci (r_V (As := [.int (nI i), .int (nI a)]) hF hK hA hG (c_X12_may hS (by omega) (by omega)) (cwV 2 hF.2.2.2.2 gX12_first_X12_may rfl rfl rfl (by decide +kernel) ⟨Nat.le_of_ble_eq_true rfl, Nat.le_of_ble_eq_true rfl⟩) 0 rfl rfl rfl rfl hl.1 rfl (lv_room (Nat.le_of_ble_eq_true rfl)) dX12_first_52 ⟨Nat.le_of_ble_eq_true rfl, Nat.le_of_ble_eq_true rfl⟩) hG (fun r_52 u_52 H locs hp_52 hG => ?_)
              subst hp_52
              refine lv_if_ne (tgt := 61) hF.1 hF.2.1 dX12_first_55 (by decide) (fun c_55 => ?_) (fun c_55 => ?_)
              · --
                have n_55 : (mv (kd i) (fg i) i a) = true := b2i_nz.mp c_55
                refine lv_aload_n hF.1 hF.2.1 dX12_first_61 rfl (lv_at hl 0 rfl) ?_
                refine lv_iload_n hF.1 hF.2.1 dX12_first_62 rfl (lv_at hl 1 rfl) ?_
                refine lv_iconst (v := (nI 1)) hF.1 hF.2.1 dX12_first_63 (by decide +kernel) ?_
                refine lv_iload hF.1 hF.2.1 dX12_first_64 (lv_at hl 4 rfl) ?_
                refine lv_ishl hF.1 hF.2.1 dX12_first_66 ?_
                rw [shl_1 (by omega)]
                refine lv_ixor hF.1 hF.2.1 dX12_first_67 ?_
                rw [nx_xor]
                have hxa := xor_ltn (n := n) (o := a) (j := i) ha (by omega)
                refine k_cv (r_V (As := [.int (nI (a ^^^ 2 ^ i))]) hF hK hA hG (c_X12_findsPulls hS hxa) (cwV 1 hF.2.2.2.2 gX12_first_X12_findsPulls rfl rfl rfl (by decide +kernel) ⟨Nat.le_of_ble_eq_true rfl, Nat.le_of_ble_eq_true rfl⟩) 0 rfl rfl rfl rfl hl.1 rfl (lv_room (Nat.le_of_ble_eq_true rfl)) dX12_first_68 ⟨Nat.le_of_ble_eq_true rfl, Nat.le_of_ble_eq_true rfl⟩) hG (fun u_68 H locs hp_68 hG => ?_)
                refine lv_aload_n hF.1 hF.2.1 dX12_first_71 rfl (lv_at hl 0 rfl) ?_
                refine k_get (C := RX12) (T := TX12) (N := 19) hF hK hG (fun _ h => List.mem_cons_of_mem _ (List.mem_append_right _ h)) 0 rfl rfl 16 (by decide) (List.mem_of_getElem? (i := 1) rfl) (fun _ h9 => h9) rfl dX12_first_72 ?_
                refine lv_iload_n hF.1 hF.2.1 dX12_first_75 rfl (lv_at hl 2 rfl) ?_
                refine k_ialdN hF hK hG 12 rfl (b) rfl (by omega) (by omega) dX12_first_76 ?_
                refine lv_iload_n hF.1 hF.2.1 dX12_first_77 rfl (lv_at hl 3 rfl) ?_
                refine lv_iconst (v := (nI 1)) hF.1 hF.2.1 dX12_first_78 (by decide +kernel) ?_
                refine lv_isub hF.1 hF.2.1 dX12_first_79 ?_
                refine lv_icmp_ne (tgt := 86) hF.1 hF.2.1 dX12_first_80 (by decide) (fun c_80 => ?_) (fun c_80 => ?_)
                · --
                  refine lv_iinc (v := (nI (i + 1))) (lv' := [(4, .int (nI (i + 1))), (0, .ref (ob 0)), (1, .int (nI a)), (2, .int (nI b)), (3, .int (u_20 b))]) hF.1 hF.2.1 dX12_first_86 hl (k := 4) rfl (nI_inc _ _) (by decide) rfl (fun ls hl => ?_)
                  refine lv_goto (tgt := 33) hF.1 hF.2.1 dX12_first_89 (by decide) ?_
                  exact ih33 (i + 1) (_) (by omega) (lt_s hz (fun hm hd => by first | exact c_80 (IsW.one (hp_68 b hb) hd) | (rw [n_55] at hm; cases hm))) (by omega) _ _ hG ls (lv_sub hl [1, 2, 3, 4, 0] rfl)
                · --
                  refine lv_iload hF.1 hF.2.1 dX12_first_83 (lv_at hl 4 rfl) ?_
                  exact hret _ _ _ ls _ _ _ _ (by exact spFirst_t hn ha hb (hp_20 b hb) (Or.inr ⟨i, by omega, rfl, c_45, n_55, by rw [← c_80]; exact hp_68 b hb, hz⟩)) (by first | rfl | exact nar_b2i _) hG (Nat.le_of_ble_eq_true rfl) (Nat.le_of_ble_eq_true rfl) dX12_first_85
              · --
                have n_55 : (mv (kd i) (fg i) i a) = false := b2i_z.mp c_55
                refine lv_goto (tgt := 86) hF.1 hF.2.1 dX12_first_58 (by decide) ?_
                refine lv_iinc (v := (nI (i + 1))) (lv' := [(4, .int (nI (i + 1))), (0, .ref (ob 0)), (1, .int (nI a)), (2, .int (nI b)), (3, .int (u_20 b))]) hF.1 hF.2.1 dX12_first_86 hl (k := 4) rfl (nI_inc _ _) (by decide) rfl (fun ls hl => ?_)
                refine lv_goto (tgt := 33) hF.1 hF.2.1 dX12_first_89 (by decide) ?_
                exact ih33 (i + 1) (_) (by omega) (lt_s hz (fun hm hd => by first | exact c_80 (IsW.one (hp_68 b hb) hd) | (rw [n_55] at hm; cases hm))) (by omega) _ _ hG ls (lv_sub hl [1, 2, 3, 4, 0] rfl)
      exact lp33 _ (0) (u_20) (by omega) (fun q h => absurd h (Nat.not_lt_zero q)) (Nat.lt_succ_self _) _ _ hG ls (lv_sub hl [2, 3, 4, 1, 0] rfl)
    · --
      have n_13 : (inB (2 ^ n) t) = false := b2i_z.mp c_13
      refine lv_iconst (v := (-1)) hF.1 hF.2.1 dX12_first_16 (by decide +kernel) ?_
      exact hret _ aP _ ls _ _ _ _ (by first | exact spFirst_f (Or.inl n_5) | exact spFirst_f (Or.inr n_13)) (by first | rfl | exact nar_b2i _) hG (Nat.le_of_ble_eq_true rfl) (Nat.le_of_ble_eq_true rfl) dX12_first_17
