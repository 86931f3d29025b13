/-! ===== the fewest to be freed ===== -/
def frK (kd : Nat → Nat) (s m : Nat) (j : Nat) : Nat := if j < m ∧ s.testBit j = true then 1 else kd j
def frF (fg : Nat → Nat) (s m : Nat) (j : Nat) : Nat := if j < m ∧ s.testBit j = true then 0 else fg j
theorem fr_0 (k : Nat → Nat) (s : Nat) : frK k s 0 = k := by
  funext j
  unfold frK
  rw [if_neg (fun h => absurd h.1 (Nat.not_lt_zero j))]
theorem fr_0F (k : Nat → Nat) (s : Nat) : frF k s 0 = k := by
  funext j
  unfold frF
  rw [if_neg (fun h => absurd h.1 (Nat.not_lt_zero j))]
theorem frK_t {kd : Nat → Nat} {s i : Nat} (h : s.testBit i = true) : va_up (frK kd s i) i 1 = frK kd s (i + 1) := by
  funext j
  by_cases e : j = i
  · subst e
    rw [va_up_self]
    unfold frK
    rw [if_pos ⟨Nat.lt_succ_self j, h⟩]
  · rw [va_up_ne _ _ e]
    unfold frK
    by_cases c : j < i ∧ s.testBit j = true
    · rw [if_pos c, if_pos ⟨by omega, c.2⟩]
    · rw [if_neg c, if_neg (fun q => c ⟨by omega, q.2⟩)]
theorem frF_t {kd : Nat → Nat} {s i : Nat} (h : s.testBit i = true) : va_up (frF kd s i) i 0 = frF kd s (i + 1) := by
  funext j
  by_cases e : j = i
  · subst e
    rw [va_up_self]
    unfold frF
    rw [if_pos ⟨Nat.lt_succ_self j, h⟩]
  · rw [va_up_ne _ _ e]
    unfold frF
    by_cases c : j < i ∧ s.testBit j = true
    · rw [if_pos c, if_pos ⟨by omega, c.2⟩]
    · rw [if_neg c, if_neg (fun q => c ⟨by omega, q.2⟩)]
theorem frK_f {kd : Nat → Nat} {s i : Nat} (h : s.testBit i = false) : frK kd s i = frK kd s (i + 1) := by
  funext j
  unfold frK
  by_cases c : j < i ∧ s.testBit j = true
  · rw [if_pos c, if_pos ⟨by omega, c.2⟩]
  · rw [if_neg c, if_neg (fun q => c ⟨(by
      by_cases e : j = i
      · rw [e, h] at q
        cases q.2
      · omega), q.2⟩)]
theorem frF_f {kd : Nat → Nat} {s i : Nat} (h : s.testBit i = false) : frF kd s i = frF kd s (i + 1) := by
  funext j
  unfold frF
  by_cases c : j < i ∧ s.testBit j = true
  · rw [if_pos c, if_pos ⟨by omega, c.2⟩]
  · rw [if_neg c, if_neg (fun q => c ⟨(by
      by_cases e : j = i
      · rw [e, h] at q
        cases q.2
      · omega), q.2⟩)]
/-- with those of the set s free, can the told ones be had -/
def REA (n o : Nat) (kd fg : Nat → Nat) (told s : Nat) : Prop := ∃ m z, Rch (ER n (edH n (frK kd s n) (frF fg s n))) m (64 * o + o) z ∧ z % 64 &&& told = told
theorem REA_t {n o told s : Nat} {kd fg : Nat → Nat} {r : Int32} (h : HAD n o (frK kd s n) (frF fg s n) told r) (hr : ¬ r < 0) : REA n o kd fg told s := by
  rcases h with ⟨h1, -⟩ | ⟨m, -, -, ⟨b, h2, h3⟩, -⟩
  · rw [h1] at hr
    exact absurd (by decide +kernel) hr
  · exact ⟨m, b, h2, h3⟩
theorem REA_f {n o told s : Nat} {kd fg : Nat → Nat} {r : Int32} (h : HAD n o (frK kd s n) (frF fg s n) told r) (hr : r < 0) : ¬ REA n o kd fg told s := by
  rintro ⟨m, z, h1, h2⟩
  rcases h with ⟨-, h3⟩ | ⟨k, h0, h3, -, -⟩
  · exact h3 m z h1 h2
  · rw [h3] at hr
    exact absurd hr (nI_pos (by omega))
theorem tb_all {n j : Nat} : (2 ^ n - 1).testBit j = decide (j < n) := Nat.testBit_two_pow_sub_one n j
/-- if all are free, all can be had -/
theorem REA_all {n o told : Nat} {kd fg : Nat → Nat} (hn : n ≤ 6) (ho : o < 2 ^ n) (ht : told < 2 ^ n) : REA n o kd fg told (2 ^ n - 1) := by
  have h26 : 2 ^ n ≤ 2 ^ 6 := Nat.pow_le_pow_right (by decide) hn
  have hmv : ∀ i c, i < n → mv (frK kd (2 ^ n - 1) n i) (frF fg (2 ^ n - 1) n i) i c = true := by
    intro i c hi
    have e : frK kd (2 ^ n - 1) n i = 1 := by
      unfold frK
      rw [if_pos ⟨hi, by rw [tb_all]; exact decide_eq_true hi⟩]
    rw [e]
    rfl
  have key : ∀ k, k ≤ n → ∃ m z, Rch (ER n (edH n (frK kd (2 ^ n - 1) n) (frF fg (2 ^ n - 1) n))) m (64 * o + o) z ∧ z < 4096 ∧ (∀ i, (z / 64).testBit i = true → (z % 64).testBit i = true) ∧ ∀ i, i < k → (z % 64).testBit i = true := by
    intro k
    induction k with
    | zero =>
      intro _
      refine ⟨0, 64 * o + o, rfl, by omega, fun i hi => ?_, fun i hi => absurd hi (Nat.not_lt_zero i)⟩
      rw [show (64 * o + o) / 64 = o by omega] at hi
      rw [show (64 * o + o) % 64 = o by omega]
      exact hi
    | succ k ih =>
      intro hk
      obtain ⟨m, z, h1, h2, h3, h4⟩ := ih (by omega)
      by_cases c : (z % 64).testBit k = true
      · refine ⟨m, z, h1, h2, h3, fun i hi => ?_⟩
        by_cases e : i = k
        · rw [e]; exact c
        · exact h4 i (by omega)
      · have c1 : (z % 64).testBit k = false := by simpa using c
        have c2 : (z / 64).testBit k = false := by
          cases e : (z / 64).testBit k with
          | false => rfl
          | true => exact absurd (h3 k e) c
        have hb1 : z / 64 ^^^ 2 ^ k < 64 := tog_lt (by omega) (by omega)
        have hb2 : z % 64 ||| (z / 64 ^^^ 2 ^ k) < 64 := Nat.or_lt_two_pow (n := 6) (by omega) hb1
        have hx : ∀ i, (z / 64 ^^^ 2 ^ k).testBit i = if i = k then true else (z / 64).testBit i := by
          intro i
          rw [Nat.testBit_xor, Nat.testBit_two_pow]
          by_cases e : i = k
          · subst e
            rw [c2, if_pos rfl, decide_eq_true rfl]
            rfl
          · rw [if_neg e, decide_eq_false (Ne.symm e), Bool.xor_false]
        refine ⟨m + 1, 64 * (z / 64 ^^^ 2 ^ k) + (z % 64 ||| (z / 64 ^^^ 2 ^ k)), ⟨z, h1, k, by omega, edH_t (hmv k _ (by omega))⟩, by omega, fun i hi => ?_, fun i hi => ?_⟩
        · rw [show (64 * (z / 64 ^^^ 2 ^ k) + (z % 64 ||| (z / 64 ^^^ 2 ^ k))) / 64 = z / 64 ^^^ 2 ^ k by omega] at hi
          rw [show (64 * (z / 64 ^^^ 2 ^ k) + (z % 64 ||| (z / 64 ^^^ 2 ^ k))) % 64 = z % 64 ||| (z / 64 ^^^ 2 ^ k) by omega, Nat.testBit_or, hi, Bool.or_true]
        · rw [show (64 * (z / 64 ^^^ 2 ^ k) + (z % 64 ||| (z / 64 ^^^ 2 ^ k))) % 64 = z % 64 ||| (z / 64 ^^^ 2 ^ k) by omega, Nat.testBit_or]
          by_cases e : i = k
          · rw [hx, if_pos e, Bool.or_true]
          · rw [h4 i (by omega)]
            rfl
  obtain ⟨m, z, h1, h2, -, h4⟩ := key n (Nat.le_refl n)
  refine ⟨m, z, h1, ?_⟩
  apply Nat.eq_of_testBit_eq
  intro i
  rw [Nat.testBit_and]
  by_cases e : i < n
  · rw [h4 i e, Bool.true_and]
  · have : told.testBit i = false := Nat.testBit_lt_two_pow (Nat.lt_of_lt_of_le ht (Nat.pow_le_pow_right (by decide) (by omega)))
    rw [this, Bool.and_false]
/-- the best set among those below s -/
def FRD (n o : Nat) (kd fg : Nat → Nat) (told s b : Nat) : Prop := b < 2 ^ n ∧ REA n o kd fg told b ∧ ∀ t, t < s → REA n o kd fg told t → cnt b < cnt t ∨ (cnt b = cnt t ∧ b ≤ t)
theorem FRD.one {n o told b c : Nat} {kd fg : Nat → Nat} (h : FRD n o kd fg told (2 ^ n) b) (g : FRD n o kd fg told (2 ^ n) c) : b = c := by
  have h1 := h.2.2 c g.1 g.2.1
  have h2 := g.2.2 b h.1 h.2.1
  omega
theorem cnt_top {n s : Nat} (hn : n < 7) (hs : s < 2 ^ n) (h : cnt (2 ^ n - 1) ≤ cnt s) : s = 2 ^ n - 1 := by
  have h26 : 2 ^ n ≤ 2 ^ 6 := Nat.pow_le_pow_right (by decide) (by omega)
  have hs64 : s < 64 := by omega
  revert hs h
  apply fin2 7 64 n s hn hs64
  decide +kernel
theorem FRD.start {n o told : Nat} {kd fg : Nat → Nat} (hn : n ≤ 6) (ho : o < 2 ^ n) (ht : told < 2 ^ n) : FRD n o kd fg told 0 (2 ^ n - 1) :=
  ⟨by have := Nat.one_le_two_pow (n := n); omega, REA_all hn ho ht, fun t h => absurd h (Nat.not_lt_zero t)⟩
theorem FRD.skip {n o told s b : Nat} {kd fg : Nat → Nat} (hn : n ≤ 6) (hs : s < 2 ^ n) (h : FRD n o kd fg told s b) (hb : b < s ∨ b = 2 ^ n - 1) (hc : cnt b ≤ cnt s) : FRD n o kd fg told (s + 1) b := by
  refine ⟨h.1, h.2.1, fun t ht hr => ?_⟩
  by_cases e : t = s
  · subst e
    by_cases e2 : cnt b = cnt t
    · refine Or.inr ⟨e2, ?_⟩
      rcases hb with hb | hb
      · omega
      · rw [hb] at hc
        have := cnt_top (by omega) hs hc
        omega
    · exact Or.inl (by omega)
  · exact h.2.2 t (by omega) hr
theorem FRD.no {n o told s b : Nat} {kd fg : Nat → Nat} (h : FRD n o kd fg told s b) (hr : ¬ REA n o kd fg told s) : FRD n o kd fg told (s + 1) b := by
  refine ⟨h.1, h.2.1, fun t ht hr2 => ?_⟩
  by_cases e : t = s
  · subst e
    exact absurd hr2 hr
  · exact h.2.2 t (by omega) hr2
theorem FRD.yes {n o told s b : Nat} {kd fg : Nat → Nat} (hs : s < 2 ^ n) (h : FRD n o kd fg told s b) (hr : REA n o kd fg told s) (hc : cnt s < cnt b) : FRD n o kd fg told (s + 1) s := by
  refine ⟨hs, hr, fun t ht hr2 => ?_⟩
  by_cases e : t = s
  · subst e
    exact Or.inr ⟨rfl, Nat.le_refl t⟩
  · have := h.2.2 t (by omega) hr2
    exact Or.inl (by omega)
def spFreed (n o : Nat) (kd fg : Nat → Nat) (t r : Int32) : Prop := if inB (2 ^ n) t = true then ∃ b, FRD n o kd fg t.toNatClampNeg (2 ^ n) b ∧ r = nI b else r = -1
theorem spFreed_f {n o : Nat} {kd fg : Nat → Nat} {t : Int32} (h : inB (2 ^ n) t = false) : spFreed n o kd fg t (-1) := by
  unfold spFreed
  rw [h]
  rfl
theorem spFreed_t {n o j b : Nat} {kd fg : Nat → Nat} (hn : n ≤ 6) (hj : j < 2 ^ n) (h : FRD n o kd fg j (2 ^ n) b) : spFreed n o kd fg (nI j) (nI b) := by
  have h1 : 2 ^ n ≤ 2 ^ 6 := Nat.pow_le_pow_right (by decide) hn
  unfold spFreed
  rw [if_pos (inB_j (by omega) hj), nI_clamp (by omega)]
  exact ⟨b, h, rfl⟩
theorem spFreed_one {n o : Nat} {kd fg : Nat → Nat} {t r q : Int32} (h : spFreed n o kd fg t r) (g : spFreed n o kd fg t q) : r = q := by
  unfold spFreed at h g
  split at h
  · rename_i e
    rw [if_pos e] at g
    obtain ⟨b, h1, h2⟩ := h
    obtain ⟨c, g1, g2⟩ := g
    rw [h2, g2, h1.one g1]
  · rename_i e
    rw [if_neg e] at g
    rw [h, g]
abbrev rmX12_next : Room := { frames := 2, cells := 0, slots := 0, locals := 46 }
set_option maxHeartbeats 4000000 in
set_option maxRecDepth 100000 in
theorem c_X12_next {l : Launch} {D : va_G} {cA : Nat → ClassId} {A : Nat → Prop}  {ob : Nat → Nat} {aS aI aR aM aK aT aZ aE aD aF aN aP aH : Nat → Int32} {vH vT vP vB vE vS : Int32} {n o : Nat} {kd fg : Nat → Nat} (hS : SR aS n o kd fg) {y f ks what : Int32} : Met l yX12_next wsX12_next rmX12_next (va_Pc [.ref (ob 0), .int y, .int f, .int ks, .int what] (Pre D cA A (MW cA ob aS aI aR aM aK aT aZ aE aD aF aN aP aH vH vT vP vB vE vS))) (va_Qi (fun r (u : (Nat → Int32) × (Nat → Int32)) => r = spNext n y f ks what ∧ SR u.1 n o kd fg) (fun u t => Wd D A ((fun (u : (Nat → Int32) × (Nat → Int32)) => MW cA ob u.1 aI aR u.2 aK aT aZ aE aD aF aN aP aH vH vT vP vB vE vS) u) t) A) (0) (0) A := by
  refine k_ofi (S := (Nat → Int32) × (Nat → Int32)) (F := fun (u : (Nat → Int32) × (Nat → Int32)) => MW cA ob u.1 aI aR u.2 aK aT aZ aE aD aF aN aP aH vH vT vP vB vE vS) (cc := cX12_next) (maxL := 10) (by decide) rfl (Nat.le_of_ble_eq_true rfl) ?_
  intro p e s m args below meth c Q hF hini hK hA hG hret ls hl
  have hl : lv_has ls 10 [(0, .ref (ob 0)), (1, .int y), (2, .int f), (3, .int ks), (4, .int what)] := hl
  have hn : n ≤ 6 := hS.2.2.1
  have ho : o < 64 := hS.o64
  have hp2 : 2 ^ n ≤ 64 := Nat.pow_le_pow_right (by decide) hn
  have hp1 : 1 ≤ 2 ^ n := Nat.one_le_two_pow
  refine lv_aload_n hF.1 hF.2.1 dX12_next_0 rfl (lv_at hl 0 rfl) ?_
  refine lv_iload_n hF.1 hF.2.1 dX12_next_1 rfl (lv_at hl 1 rfl) ?_
  refine k_ci (r_V (As := [.int y]) hF hK hA hG (c_X12_isDrawer hS) (cwV 1 hF.2.2.2.2 gX12_next_X12_isDrawer rfl rfl rfl (by decide +kernel) ⟨Nat.le_of_ble_eq_true rfl, Nat.le_of_ble_eq_true rfl⟩) 0 rfl rfl rfl rfl hl.1 rfl (lv_room (Nat.le_of_ble_eq_true rfl)) dX12_next_2 ⟨Nat.le_of_ble_eq_true rfl, Nat.le_of_ble_eq_true rfl⟩) hG (fun r_2 u_2 H locs hp_2 hG => ?_)
  subst hp_2
  refine lv_if_eq (tgt := 43) hF.1 hF.2.1 dX12_next_5 (by decide) (fun c_5 => ?_) (fun c_5 => ?_)
  · --
    have n_5 : (inB n y) = false := b2i_z.mp c_5
    refine lv_iconst (v := (-1)) hF.1 hF.2.1 dX12_next_43 (by decide +kernel) ?_
    exact hret _ (aS, aM) _ ls _ _ _ _ (by first | exact ⟨(spNext_f (Or.inl n_5)).symm, hS⟩ | exact ⟨(spNext_f (Or.inr (Or.inl n_17))).symm, hS⟩ | exact ⟨(spNext_f (Or.inr (Or.inr (Or.inl n_29)))).symm, hS⟩ | exact ⟨(spNext_f (Or.inr (Or.inr (Or.inr n_40)))).symm, hS⟩) (by first | rfl | exact nar_b2i _) hG (Nat.le_of_ble_eq_true rfl) (Nat.le_of_ble_eq_true rfl) dX12_next_44
  · --
    have n_5 : (inB n y) = true := b2i_nz.mp c_5
    obtain ⟨i, hi, rfl⟩ := inB_ex (by omega) n_5
    refine lv_iload_n hF.1 hF.2.1 dX12_next_8 rfl (lv_at hl 2 rfl) ?_
    refine lv_i2l hF.1 hF.2.1 dX12_next_9 rfl ?_
    refine lv_lconst (v := 0) hF.1 hF.2.1 dX12_next_10 (by decide +kernel) ?_
    refine lv_ldc2 hF.1 hF.2.1 (own := RX12) hF.2.2.2.1 (hF.2.2.2.2 _ (List.mem_of_getElem? (i := 1) rfl)) dX12_next_11 ?_
    refine k_ci (r_S (As := [.long (f.toInt64), .long (0), .long (9)]) hF hK hA hG (c_X12_isIn) (cwS 3 hF.2.2.2.2 gX12_next_X12_isIn rfl rfl rfl (by decide +kernel) ⟨Nat.le_of_ble_eq_true rfl, Nat.le_of_ble_eq_true rfl⟩) rfl hl.1 rfl (lv_room (Nat.le_of_ble_eq_true rfl)) dX12_next_14 ⟨Nat.le_of_ble_eq_true rfl, Nat.le_of_ble_eq_true rfl⟩) hG (fun r_14 u_14 H locs hp_14 hG => ?_)
    rw [inL (n := 10) (by omega) (by decide +kernel)] at hp_14
    subst hp_14
    refine lv_if_eq (tgt := 43) hF.1 hF.2.1 dX12_next_17 (by decide) (fun c_17 => ?_) (fun c_17 => ?_)
    · --
      have n_17 := b2i_z.mp c_17
      refine lv_iconst (v := (-1)) hF.1 hF.2.1 dX12_next_43 (by decide +kernel) ?_
      exact hret _ (aS, aM) _ ls _ _ _ _ (by first | exact ⟨(spNext_f (Or.inl n_5)).symm, hS⟩ | exact ⟨(spNext_f (Or.inr (Or.inl n_17))).symm, hS⟩ | exact ⟨(spNext_f (Or.inr (Or.inr (Or.inl n_29)))).symm, hS⟩ | exact ⟨(spNext_f (Or.inr (Or.inr (Or.inr n_40)))).symm, hS⟩) (by first | rfl | exact nar_b2i _) hG (Nat.le_of_ble_eq_true rfl) (Nat.le_of_ble_eq_true rfl) dX12_next_44
    · --
      have n_17 := b2i_nz.mp c_17
      obtain ⟨g, hg, rfl⟩ := inB_ex (by omega) n_17
      refine lv_iload_n hF.1 hF.2.1 dX12_next_20 rfl (lv_at hl 3 rfl) ?_
      refine lv_i2l hF.1 hF.2.1 dX12_next_21 rfl ?_
      refine lv_lconst (v := 1) hF.1 hF.2.1 dX12_next_22 (by decide +kernel) ?_
      refine lv_ldc2 hF.1 hF.2.1 (own := RX12) hF.2.2.2.1 (hF.2.2.2.2 _ (List.mem_of_getElem? (i := 2) rfl)) dX12_next_23 ?_
      refine k_ci (r_S (As := [.long (ks.toInt64), .long (1), .long (255)]) hF hK hA hG (c_X12_isIn) (cwS 3 hF.2.2.2.2 gX12_next_X12_isIn rfl rfl rfl (by decide +kernel) ⟨Nat.le_of_ble_eq_true rfl, Nat.le_of_ble_eq_true rfl⟩) rfl hl.1 rfl (lv_room (Nat.le_of_ble_eq_true rfl)) dX12_next_26 ⟨Nat.le_of_ble_eq_true rfl, Nat.le_of_ble_eq_true rfl⟩) hG (fun r_26 u_26 H locs hp_26 hG => ?_)
      rw [inLQ (lo := 1) (hi := 255) (by omega) (by omega) (by decide +kernel) (by decide +kernel)] at hp_26
      subst hp_26
      refine lv_if_eq (tgt := 43) hF.1 hF.2.1 dX12_next_29 (by decide) (fun c_29 => ?_) (fun c_29 => ?_)
      · --
        have n_29 := b2i_z.mp c_29
        refine lv_iconst (v := (-1)) hF.1 hF.2.1 dX12_next_43 (by decide +kernel) ?_
        exact hret _ (aS, aM) _ ls _ _ _ _ (by first | exact ⟨(spNext_f (Or.inl n_5)).symm, hS⟩ | exact ⟨(spNext_f (Or.inr (Or.inl n_17))).symm, hS⟩ | exact ⟨(spNext_f (Or.inr (Or.inr (Or.inl n_29)))).symm, hS⟩ | exact ⟨(spNext_f (Or.inr (Or.inr (Or.inr n_40)))).symm, hS⟩) (by first | rfl | exact nar_b2i _) hG (Nat.le_of_ble_eq_true rfl) (Nat.le_of_ble_eq_true rfl) dX12_next_44
      · --
        have n_29 := b2i_nz.mp c_29
        obtain ⟨K, hK0, hKu, rfl⟩ := inQ_ex (by omega) (by omega) n_29
        refine lv_iload hF.1 hF.2.1 dX12_next_32 (lv_at hl 4 rfl) ?_
        refine lv_i2l hF.1 hF.2.1 dX12_next_34 rfl ?_
        refine lv_lconst (v := 0) hF.1 hF.2.1 dX12_next_35 (by decide +kernel) ?_
        refine lv_lconst (v := 1) hF.1 hF.2.1 dX12_next_36 (by decide +kernel) ?_
        refine k_ci (r_S (As := [.long (what.toInt64), .long (0), .long (1)]) hF hK hA hG (c_X12_isIn) (cwS 3 hF.2.2.2.2 gX12_next_X12_isIn rfl rfl rfl (by decide +kernel) ⟨Nat.le_of_ble_eq_true rfl, Nat.le_of_ble_eq_true rfl⟩) rfl hl.1 rfl (lv_room (Nat.le_of_ble_eq_true rfl)) dX12_next_37 ⟨Nat.le_of_ble_eq_true rfl, Nat.le_of_ble_eq_true rfl⟩) hG (fun r_37 u_37 H locs hp_37 hG => ?_)
        rw [inL (n := 2) (by omega) (by decide +kernel)] at hp_37
        subst hp_37
        refine lv_if_ne (tgt := 45) hF.1 hF.2.1 dX12_next_40 (by decide) (fun c_40 => ?_) (fun c_40 => ?_)
        · --
          have n_40 := b2i_nz.mp c_40
          refine lv_bipush (v := (-4)) hF.1 hF.2.1 dX12_next_45 (by decide +kernel) ?_
          refine lv_istore (lv' := [(5, .int (-4)), (0, .ref (ob 0)), (1, .int (nI i)), (2, .int (nI g)), (3, .int (nI K)), (4, .int what)]) hF.1 hF.2.1 dX12_next_47 hl (by decide) rfl (fun ls hl => ?_)
          refine lv_bipush (v := (-4)) hF.1 hF.2.1 dX12_next_49 (by decide +kernel) ?_
          refine lv_istore (lv' := [(6, .int (-4)), (5, .int (-4)), (0, .ref (ob 0)), (1, .int (nI i)), (2, .int (nI g)), (3, .int (nI K)), (4, .int what)]) hF.1 hF.2.1 dX12_next_51 hl (by decide) rfl (fun ls hl => ?_)
          refine lv_aload_n hF.1 hF.2.1 dX12_next_53 rfl (lv_at hl 2 rfl) ?_
          refine k_cv (r_V (As := []) hF hK hA hG (c_X12_begins) (cwV 0 hF.2.2.2.2 gX12_next_X12_begins rfl rfl rfl (by decide +kernel) ⟨Nat.le_of_ble_eq_true rfl, Nat.le_of_ble_eq_true rfl⟩) 0 rfl rfl rfl rfl hl.1 rfl (lv_room (Nat.le_of_ble_eq_true rfl)) dX12_next_54 ⟨Nat.le_of_ble_eq_true rfl, Nat.le_of_ble_eq_true rfl⟩) hG (fun u_54 H locs hp_54 hG => ?_)
          refine lv_iconst (v := (nI 0)) hF.1 hF.2.1 dX12_next_57 (by decide +kernel) ?_
          refine lv_istore (lv' := [(7, .int (nI 0)), (6, .int (-4)), (5, .int (-4)), (0, .ref (ob 0)), (1, .int (nI i)), (2, .int (nI g)), (3, .int (nI K)), (4, .int what)]) hF.1 hF.2.1 dX12_next_58 hl (by decide) rfl (fun ls hl => ?_)
          have lp60 : ∀ (fuel : Nat), ∀ (k : Nat) (be le : Int32) (bS bM : Nat → Int32), (hk : k ≤ 2 ^ n) → (hb : (k = 0 ∧ be = -4) ∨ (0 < k ∧ be = nI (nxM (nxP K g i) (cnt K + 1) k).1 ∧ le = nI (nxM (nxP K g i) (cnt K + 1) k).2)) → (hSk : SRi bS n o kd fg i) → (hM : SR bM n o kd fg) → (2 ^ n - k) < fuel → ∀ (H : Heap) (locs : List Loc), Gd D A (MW cA ob bS aI aR bM aK aT aZ aE aD aF aN aP aH vH vT vP vB vE vS) s.heap H locs → ∀ ls : Array Slot, lv_has ls 10 [(0, .ref (ob 0)), (1, .int (nI i)), (2, .int (nI g)), (3, .int (nI K)), (4, .int what), (5, .int be), (6, .int le), (7, .int (nI k))] → W p l e rmX12_next s m args below meth c H locs (0) (0) Q (F0 m 60 ls []) := by
            intro fuel
            induction fuel with
            | zero => intro k be le bS bM hk hb hSk hM hmu; exact absurd hmu (Nat.not_lt_zero _)
            | succ fuel ih60 =>
              intro k be le bS bM hk hb hSk hM hmu H locs hG ls hl
              refine lv_iload hF.1 hF.2.1 dX12_next_60 (lv_at hl 7 rfl) ?_
              have hSk2 := hSk
              obtain ⟨k1, g1, hSx⟩ := hSk
              refine lv_aload_n hF.1 hF.2.1 dX12_next_62 rfl (lv_at hl 0 rfl) ?_
              refine k_ci (r_V (As := []) hF hK hA hG (c_X12_everything hSx) (cwV 0 hF.2.2.2.2 gX12_next_X12_everything rfl rfl rfl (by decide +kernel) ⟨Nat.le_of_ble_eq_true rfl, Nat.le_of_ble_eq_true rfl⟩) 0 rfl rfl rfl rfl hl.1 rfl (lv_room (Nat.le_of_ble_eq_true rfl)) dX12_next_63 ⟨Nat.le_of_ble_eq_true rfl, Nat.le_of_ble_eq_true rfl⟩) hG (fun r_63 u_63 H locs hp_63 hG => ?_)
              subst hp_63
              refine lv_icmp_gt (tgt := 183) hF.1 hF.2.1 dX12_next_66 (by decide) (fun c_66 => ?_) (fun c_66 => ?_)
              · --
                have n_66 : 2 ^ n - 1 < k := (nI_ltI (a := 2 ^ n - 1) (b := k) (by omega) (by omega)).mp c_66
                refine lv_aload_n hF.1 hF.2.1 dX12_next_183 rfl (lv_at hl 0 rfl) ?_
                refine k_cv (r_V (As := []) hF hK hA hG (c_X12_ends) (cwV 0 hF.2.2.2.2 gX12_next_X12_ends rfl rfl rfl (by decide +kernel) ⟨Nat.le_of_ble_eq_true rfl, Nat.le_of_ble_eq_true rfl⟩) 0 rfl rfl rfl rfl hl.1 rfl (lv_room (Nat.le_of_ble_eq_true rfl)) dX12_next_184 ⟨Nat.le_of_ble_eq_true rfl, Nat.le_of_ble_eq_true rfl⟩) hG (fun u_184 H locs hp_184 hG => ?_)
                refine lv_iload hF.1 hF.2.1 dX12_next_187 (lv_at hl 4 rfl) ?_
                refine lv_if_ne (tgt := 197) hF.1 hF.2.1 dX12_next_189 (by decide) (fun c_189 => ?_) (fun c_189 => ?_)
                · --
                  replace c_189 : ¬ what = nI 0 := c_189
                  refine lv_iload hF.1 hF.2.1 dX12_next_197 (lv_at hl 6 rfl) ?_
                  exact hret _ (_, _) _ ls _ _ _ _ (by refine ⟨?_, hM.cpy⟩; rw [spNext_t hn hi hg hK0 hKu n_40]; obtain rfl : k = 2 ^ n := (by omega); have hb2 := hb.resolve_left (fun a => absurd a.1 (by omega)); unfold runI; first | (rw [if_pos c_189]; exact hb2.2.1) | (rw [if_neg c_189]; exact hb2.2.2)) (by first | rfl | exact nar_b2i _) hG (Nat.le_of_ble_eq_true rfl) (Nat.le_of_ble_eq_true rfl) dX12_next_199
                · --
                  replace c_189 : what = nI 0 := c_189
                  refine lv_iload hF.1 hF.2.1 dX12_next_192 (lv_at hl 5 rfl) ?_
                  refine lv_goto (tgt := 199) hF.1 hF.2.1 dX12_next_194 (by decide) ?_
                  exact hret _ (_, _) _ ls _ _ _ _ (by refine ⟨?_, hM.cpy⟩; rw [spNext_t hn hi hg hK0 hKu n_40]; obtain rfl : k = 2 ^ n := (by omega); have hb2 := hb.resolve_left (fun a => absurd a.1 (by omega)); unfold runI; first | (rw [if_pos c_189]; exact hb2.2.1) | (rw [if_neg c_189]; exact hb2.2.2)) (by first | rfl | exact nar_b2i _) hG (Nat.le_of_ble_eq_true rfl) (Nat.le_of_ble_eq_true rfl) dX12_next_199
              · --
                have n_66 : ¬ (2 ^ n - 1 < k) := fun zz9 => c_66 ((nI_ltI (a := 2 ^ n - 1) (b := k) (by omega) (by omega)).mpr zz9)
                refine lv_iconst (v := (nI 0)) hF.1 hF.2.1 dX12_next_69 (by decide +kernel) ?_
                refine lv_istore (lv' := [(8, .int (nI 0)), (0, .ref (ob 0)), (1, .int (nI i)), (2, .int (nI g)), (3, .int (nI K)), (4, .int what), (5, .int be), (6, .int le), (7, .int (nI k))]) hF.1 hF.2.1 dX12_next_70 hl (by decide) rfl (fun ls hl => ?_)
                refine lv_iconst (v := (nI 0)) hF.1 hF.2.1 dX12_next_72 (by decide +kernel) ?_
                refine lv_istore (lv' := [(9, .int (nI 0)), (8, .int (nI 0)), (0, .ref (ob 0)), (1, .int (nI i)), (2, .int (nI g)), (3, .int (nI K)), (4, .int what), (5, .int be), (6, .int le), (7, .int (nI k))]) hF.1 hF.2.1 dX12_next_73 hl (by decide) rfl (fun ls hl => ?_)
                have lp75 : ∀ (fuel : Nat), ∀ (q : Nat) (bS : Nat → Int32), (hq : q ≤ 8) → (hSq : SRi bS n o kd fg i) → (8 - q) < fuel → ∀ (H : Heap) (locs : List Loc), Gd D A (MW cA ob bS aI aR bM aK aT aZ aE aD aF aN aP aH vH vT vP vB vE vS) s.heap H locs → ∀ ls : Array Slot, lv_has ls 10 [(0, .ref (ob 0)), (1, .int (nI i)), (2, .int (nI g)), (3, .int (nI K)), (4, .int what), (5, .int be), (6, .int le), (7, .int (nI k)), (8, .int (nI (nxC K g i k q))), (9, .int (nI q))] → W p l e rmX12_next s m args below meth c H locs (0) (0) Q (F0 m 75 ls []) := by
                  intro fuel
                  induction fuel with
                  | zero => intro q bS hq hSq hmu; exact absurd hmu (Nat.not_lt_zero _)
                  | succ fuel ih75 =>
                    intro q bS hq hSq hmu H locs hG ls hl
                    refine lv_iload hF.1 hF.2.1 dX12_next_75 (lv_at hl 9 rfl) ?_
                    refine lv_bipush (v := (nI 8)) hF.1 hF.2.1 dX12_next_77 (by decide +kernel) ?_
                    refine lv_icmp_ge (tgt := 128) hF.1 hF.2.1 dX12_next_79 (by decide) (fun c_79 => ?_) (fun c_79 => ?_)
                    · --
                      have n_79 : 8 ≤ q := (nI_leI (a := 8) (b := q) (by omega) (by omega)).mp c_79
                      obtain rfl : q = 8 := by omega
                      have hc8 := nxC_8 (K := K) (g := g) (i := i) (st := k)
                      have hcK := cnt_8 (v := K) (by omega)
                      refine lv_iload hF.1 hF.2.1 dX12_next_128 (lv_at hl 8 rfl) ?_
                      refine lv_iload_n hF.1 hF.2.1 dX12_next_130 rfl (lv_at hl 3 rfl) ?_
                      refine k_ci (r_S (As := [.int (nI K)]) hF hK hA hG (c_X12_bits (by omega)) (cwS 1 hF.2.2.2.2 gX12_next_X12_bits rfl rfl rfl (by decide +kernel) ⟨Nat.le_of_ble_eq_true rfl, Nat.le_of_ble_eq_true rfl⟩) rfl hl.1 rfl (lv_room (Nat.le_of_ble_eq_true rfl)) dX12_next_131 ⟨Nat.le_of_ble_eq_true rfl, Nat.le_of_ble_eq_true rfl⟩) hG (fun r_131 u_131 H locs hp_131 hG => ?_)
                      subst hp_131
                      refine lv_iload hF.1 hF.2.1 dX12_next_134 (lv_at hl 8 rfl) ?_
                      refine lv_isub hF.1 hF.2.1 dX12_next_136 ?_
                      rw [pk_sub hc8]
                      refine lv_icmp_le (tgt := 145) hF.1 hF.2.1 dX12_next_137 (by decide) (fun c_137 => ?_) (fun c_137 => ?_)
                      · --
                        have n_137 : nxC K g i k 8 ≤ cnt K - nxC K g i k 8 := (nI_leI (a := nxC K g i k 8) (b := cnt K - nxC K g i k 8) (by omega) (by omega)).mp c_137
                        refine lv_iload_n hF.1 hF.2.1 dX12_next_145 rfl (lv_at hl 3 rfl) ?_
                        refine k_ci (r_S (As := [.int (nI K)]) hF hK hA hG (c_X12_bits (by omega)) (cwS 1 hF.2.2.2.2 gX12_next_X12_bits rfl rfl rfl (by decide +kernel) ⟨Nat.le_of_ble_eq_true rfl, Nat.le_of_ble_eq_true rfl⟩) rfl hl.1 rfl (lv_room (Nat.le_of_ble_eq_true rfl)) dX12_next_146 ⟨Nat.le_of_ble_eq_true rfl, Nat.le_of_ble_eq_true rfl⟩) hG (fun r_146 u_146 H locs hp_146 hG => ?_)
                        subst hp_146
                        refine lv_iload hF.1 hF.2.1 dX12_next_149 (lv_at hl 8 rfl) ?_
                        refine lv_isub hF.1 hF.2.1 dX12_next_151 ?_
                        rw [pk_sub hc8]
                        refine lv_istore (lv' := [(9, .int (nI (cnt K - nxC K g i k 8))), (0, .ref (ob 0)), (1, .int (nI i)), (2, .int (nI g)), (3, .int (nI K)), (4, .int what), (5, .int be), (6, .int le), (7, .int (nI k)), (8, .int (nI (nxC K g i k 8)))]) hF.1 hF.2.1 dX12_next_152 hl (by decide) rfl (fun ls hl => ?_)
                        have hP : nxP K g i k = cnt K - nxC K g i k 8 := by unfold nxP; first | exact if_pos n_137 | exact if_neg n_137 | exact if_pos (by omega) | exact if_neg (by omega)
                        have hl : lv_has ls 10 [(9, .int (nI (nxP K g i k))), (0, .ref (ob 0)), (1, .int (nI i)), (2, .int (nI g)), (3, .int (nI K)), (4, .int what), (5, .int be), (6, .int le), (7, .int (nI k)), (8, .int (nI (nxC K g i k 8)))] := by rw [hP]; exact hl
                        refine lv_iload hF.1 hF.2.1 dX12_next_154 (lv_at hl 6 rfl) ?_
                        refine lv_if_lt (tgt := 169) hF.1 hF.2.1 dX12_next_156 (by decide) (fun c_156 => ?_) (fun c_156 => ?_)
                        · --
                          have hk0 : k = 0 := hb.elim (fun a => a.1) (fun a => by rw [a.2.1] at c_156; exact absurd c_156 (nI_pos (by have := nxM_lt (P := nxP K g i) (B := cnt K + 1) k; omega)))
                          subst hk0
                          have hq := nxM_t (P := nxP K g i) (B := cnt K + 1) (k := 0) (show nxP K g i 0 < cnt K + 1 by have := nxP_le (K := K) (g := g) (i := i) (st := 0); omega)
                          refine lv_iload hF.1 hF.2.1 dX12_next_169 (lv_at hl 8 rfl) ?_
                          refine lv_istore (lv' := [(5, .int (nI 0)), (9, .int (nI (nxP K g i 0))), (0, .ref (ob 0)), (1, .int (nI i)), (2, .int (nI g)), (3, .int (nI K)), (4, .int what), (6, .int le), (7, .int (nI 0)), (8, .int (nI (nxC K g i 0 8)))]) hF.1 hF.2.1 dX12_next_171 hl (by decide) rfl (fun ls hl => ?_)
                          refine lv_iload hF.1 hF.2.1 dX12_next_173 (lv_at hl 1 rfl) ?_
                          refine lv_istore (lv' := [(6, .int (nI (nxP K g i 0))), (5, .int (nI 0)), (9, .int (nI (nxP K g i 0))), (0, .ref (ob 0)), (1, .int (nI i)), (2, .int (nI g)), (3, .int (nI K)), (4, .int what), (7, .int (nI 0)), (8, .int (nI (nxC K g i 0 8)))]) hF.1 hF.2.1 dX12_next_175 hl (by decide) rfl (fun ls hl => ?_)
                          refine lv_iinc (v := (nI (0 + 1))) (lv' := [(7, .int (nI (0 + 1))), (6, .int (nI (nxP K g i 0))), (5, .int (nI 0)), (9, .int (nI (nxP K g i 0))), (0, .ref (ob 0)), (1, .int (nI i)), (2, .int (nI g)), (3, .int (nI K)), (4, .int what), (8, .int (nI (nxC K g i 0 8)))]) hF.1 hF.2.1 dX12_next_177 hl (k := 8) rfl (nI_inc _ _) (by decide) rfl (fun ls hl => ?_)
                          refine lv_goto (tgt := 60) hF.1 hF.2.1 dX12_next_180 (by decide) ?_
                          exact ih60 (_) (_) (_) (_) (_) (by omega) (by first | exact Or.inr ⟨Nat.succ_pos _, by rw [hq]; exact hb2.2.1, by rw [hq]; exact hb2.2.2⟩ | exact Or.inr ⟨Nat.succ_pos _, by rw [hq], by rw [hq]⟩) hSq hM (by omega) _ _ hG ls (lv_sub hl [4, 5, 6, 7, 8, 2, 1, 0] rfl)
                        · --
                          have hb2 := hb.resolve_left (fun a => c_156 (by rw [a.2]; decide +kernel))
                          refine lv_iload hF.1 hF.2.1 dX12_next_159 (lv_at hl 0 rfl) ?_
                          refine lv_iload hF.1 hF.2.1 dX12_next_161 (lv_at hl 7 rfl) ?_
                          refine lv_icmp_lt (tgt := 169) hF.1 hF.2.1 dX12_next_163 (by decide) (fun c_163 => ?_) (fun c_163 => ?_)
                          · --
                            have hq := nxM_t (P := nxP K g i) (B := cnt K + 1) (k := k) (by rw [hb2.2.2] at c_163; exact (nI_ltI (by have := nxP_le (K := K) (g := g) (i := i) (st := k); have := cnt_8 (v := K) (by omega); omega) (by have := nxM_le (P := nxP K g i) (B := cnt K + 1) k; have := cnt_8 (v := K) (by omega); omega)).mp c_163)
                            refine lv_iload hF.1 hF.2.1 dX12_next_169 (lv_at hl 8 rfl) ?_
                            refine lv_istore (lv' := [(5, .int (nI k)), (9, .int (nI (nxP K g i k))), (0, .ref (ob 0)), (1, .int (nI i)), (2, .int (nI g)), (3, .int (nI K)), (4, .int what), (6, .int le), (7, .int (nI k)), (8, .int (nI (nxC K g i k 8)))]) hF.1 hF.2.1 dX12_next_171 hl (by decide) rfl (fun ls hl => ?_)
                            refine lv_iload hF.1 hF.2.1 dX12_next_173 (lv_at hl 1 rfl) ?_
                            refine lv_istore (lv' := [(6, .int (nI (nxP K g i k))), (5, .int (nI k)), (9, .int (nI (nxP K g i k))), (0, .ref (ob 0)), (1, .int (nI i)), (2, .int (nI g)), (3, .int (nI K)), (4, .int what), (7, .int (nI k)), (8, .int (nI (nxC K g i k 8)))]) hF.1 hF.2.1 dX12_next_175 hl (by decide) rfl (fun ls hl => ?_)
                            refine lv_iinc (v := (nI (k + 1))) (lv' := [(7, .int (nI (k + 1))), (6, .int (nI (nxP K g i k))), (5, .int (nI k)), (9, .int (nI (nxP K g i k))), (0, .ref (ob 0)), (1, .int (nI i)), (2, .int (nI g)), (3, .int (nI K)), (4, .int what), (8, .int (nI (nxC K g i k 8)))]) hF.1 hF.2.1 dX12_next_177 hl (k := 8) rfl (nI_inc _ _) (by decide) rfl (fun ls hl => ?_)
                            refine lv_goto (tgt := 60) hF.1 hF.2.1 dX12_next_180 (by decide) ?_
                            exact ih60 (_) (_) (_) (_) (_) (by omega) (by first | exact Or.inr ⟨Nat.succ_pos _, by rw [hq]; exact hb2.2.1, by rw [hq]; exact hb2.2.2⟩ | exact Or.inr ⟨Nat.succ_pos _, by rw [hq], by rw [hq]⟩) hSq hM (by omega) _ _ hG ls (lv_sub hl [4, 5, 6, 7, 8, 2, 1, 0] rfl)
                          · --
                            have hq := nxM_f (P := nxP K g i) (B := cnt K + 1) (k := k) (fun a => c_163 (by rw [hb2.2.2]; exact nI_lt a (by have := nxM_le (P := nxP K g i) (B := cnt K + 1) k; have := cnt_8 (v := K) (by omega); omega)))
                            refine lv_goto (tgt := 177) hF.1 hF.2.1 dX12_next_166 (by decide) ?_
                            refine lv_iinc (v := (nI (k + 1))) (lv' := [(7, .int (nI (k + 1))), (9, .int (nI (nxP K g i k))), (0, .ref (ob 0)), (1, .int (nI i)), (2, .int (nI g)), (3, .int (nI K)), (4, .int what), (5, .int be), (6, .int le), (8, .int (nI (nxC K g i k 8)))]) hF.1 hF.2.1 dX12_next_177 hl (k := 8) rfl (nI_inc _ _) (by decide) rfl (fun ls hl => ?_)
                            refine lv_goto (tgt := 60) hF.1 hF.2.1 dX12_next_180 (by decide) ?_
                            exact ih60 (_) (_) (_) (_) (_) (by omega) (by first | exact Or.inr ⟨Nat.succ_pos _, by rw [hq]; exact hb2.2.1, by rw [hq]; exact hb2.2.2⟩ | exact Or.inr ⟨Nat.succ_pos _, by rw [hq], by rw [hq]⟩) hSq hM (by omega) _ _ hG ls (lv_sub hl [2, 3, 4, 5, 6, 7, 8, 0] rfl)
                      · --
                        have n_137 : ¬ (nxC K g i k 8 ≤ cnt K - nxC K g i k 8) := fun zz9 => c_137 ((nI_leI (a := nxC K g i k 8) (b := cnt K - nxC K g i k 8) (by omega) (by omega)).mpr zz9)
                        refine lv_iload hF.1 hF.2.1 dX12_next_140 (lv_at hl 8 rfl) ?_
                        refine lv_goto (tgt := 152) hF.1 hF.2.1 dX12_next_142 (by decide) ?_
                        refine lv_istore (lv' := [(9, .int (nI (nxC K g i k 8))), (0, .ref (ob 0)), (1, .int (nI i)), (2, .int (nI g)), (3, .int (nI K)), (4, .int what), (5, .int be), (6, .int le), (7, .int (nI k)), (8, .int (nI (nxC K g i k 8)))]) hF.1 hF.2.1 dX12_next_152 hl (by decide) rfl (fun ls hl => ?_)
                        have hP : nxP K g i k = nxC K g i k 8 := by unfold nxP; first | exact if_pos n_137 | exact if_neg n_137 | exact if_pos (by omega) | exact if_neg (by omega)
                        have hl : lv_has ls 10 [(9, .int (nI (nxP K g i k))), (0, .ref (ob 0)), (1, .int (nI i)), (2, .int (nI g)), (3, .int (nI K)), (4, .int what), (5, .int be), (6, .int le), (7, .int (nI k)), (8, .int (nI (nxC K g i k 8)))] := by rw [hP]; exact hl
                        refine lv_iload hF.1 hF.2.1 dX12_next_154 (lv_at hl 6 rfl) ?_
                        refine lv_if_lt (tgt := 169) hF.1 hF.2.1 dX12_next_156 (by decide) (fun c_156 => ?_) (fun c_156 => ?_)
                        · --
                          have hk0 : k = 0 := hb.elim (fun a => a.1) (fun a => by rw [a.2.1] at c_156; exact absurd c_156 (nI_pos (by have := nxM_lt (P := nxP K g i) (B := cnt K + 1) k; omega)))
                          subst hk0
                          have hq := nxM_t (P := nxP K g i) (B := cnt K + 1) (k := 0) (show nxP K g i 0 < cnt K + 1 by have := nxP_le (K := K) (g := g) (i := i) (st := 0); omega)
                          refine lv_iload hF.1 hF.2.1 dX12_next_169 (lv_at hl 8 rfl) ?_
                          refine lv_istore (lv' := [(5, .int (nI 0)), (9, .int (nI (nxP K g i 0))), (0, .ref (ob 0)), (1, .int (nI i)), (2, .int (nI g)), (3, .int (nI K)), (4, .int what), (6, .int le), (7, .int (nI 0)), (8, .int (nI (nxC K g i 0 8)))]) hF.1 hF.2.1 dX12_next_171 hl (by decide) rfl (fun ls hl => ?_)
                          refine lv_iload hF.1 hF.2.1 dX12_next_173 (lv_at hl 1 rfl) ?_
                          refine lv_istore (lv' := [(6, .int (nI (nxP K g i 0))), (5, .int (nI 0)), (9, .int (nI (nxP K g i 0))), (0, .ref (ob 0)), (1, .int (nI i)), (2, .int (nI g)), (3, .int (nI K)), (4, .int what), (7, .int (nI 0)), (8, .int (nI (nxC K g i 0 8)))]) hF.1 hF.2.1 dX12_next_175 hl (by decide) rfl (fun ls hl => ?_)
                          refine lv_iinc (v := (nI (0 + 1))) (lv' := [(7, .int (nI (0 + 1))), (6, .int (nI (nxP K g i 0))), (5, .int (nI 0)), (9, .int (nI (nxP K g i 0))), (0, .ref (ob 0)), (1, .int (nI i)), (2, .int (nI g)), (3, .int (nI K)), (4, .int what), (8, .int (nI (nxC K g i 0 8)))]) hF.1 hF.2.1 dX12_next_177 hl (k := 8) rfl (nI_inc _ _) (by decide) rfl (fun ls hl => ?_)
                          refine lv_goto (tgt := 60) hF.1 hF.2.1 dX12_next_180 (by decide) ?_
                          exact ih60 (_) (_) (_) (_) (_) (by omega) (by first | exact Or.inr ⟨Nat.succ_pos _, by rw [hq]; exact hb2.2.1, by rw [hq]; exact hb2.2.2⟩ | exact Or.inr ⟨Nat.succ_pos _, by rw [hq], by rw [hq]⟩) hSq hM (by omega) _ _ hG ls (lv_sub hl [4, 5, 6, 7, 8, 2, 1, 0] rfl)
                        · --
                          have hb2 := hb.resolve_left (fun a => c_156 (by rw [a.2]; decide +kernel))
                          refine lv_iload hF.1 hF.2.1 dX12_next_159 (lv_at hl 0 rfl) ?_
                          refine lv_iload hF.1 hF.2.1 dX12_next_161 (lv_at hl 7 rfl) ?_
                          refine lv_icmp_lt (tgt := 169) hF.1 hF.2.1 dX12_next_163 (by decide) (fun c_163 => ?_) (fun c_163 => ?_)
                          · --
                            have hq := nxM_t (P := nxP K g i) (B := cnt K + 1) (k := k) (by rw [hb2.2.2] at c_163; exact (nI_ltI (by have := nxP_le (K := K) (g := g) (i := i) (st := k); have := cnt_8 (v := K) (by omega); omega) (by have := nxM_le (P := nxP K g i) (B := cnt K + 1) k; have := cnt_8 (v := K) (by omega); omega)).mp c_163)
                            refine lv_iload hF.1 hF.2.1 dX12_next_169 (lv_at hl 8 rfl) ?_
                            refine lv_istore (lv' := [(5, .int (nI k)), (9, .int (nI (nxP K g i k))), (0, .ref (ob 0)), (1, .int (nI i)), (2, .int (nI g)), (3, .int (nI K)), (4, .int what), (6, .int le), (7, .int (nI k)), (8, .int (nI (nxC K g i k 8)))]) hF.1 hF.2.1 dX12_next_171 hl (by decide) rfl (fun ls hl => ?_)
                            refine lv_iload hF.1 hF.2.1 dX12_next_173 (lv_at hl 1 rfl) ?_
                            refine lv_istore (lv' := [(6, .int (nI (nxP K g i k))), (5, .int (nI k)), (9, .int (nI (nxP K g i k))), (0, .ref (ob 0)), (1, .int (nI i)), (2, .int (nI g)), (3, .int (nI K)), (4, .int what), (7, .int (nI k)), (8, .int (nI (nxC K g i k 8)))]) hF.1 hF.2.1 dX12_next_175 hl (by decide) rfl (fun ls hl => ?_)
                            refine lv_iinc (v := (nI (k + 1))) (lv' := [(7, .int (nI (k + 1))), (6, .int (nI (nxP K g i k))), (5, .int (nI k)), (9, .int (nI (nxP K g i k))), (0, .ref (ob 0)), (1, .int (nI i)), (2, .int (nI g)), (3, .int (nI K)), (4, .int what), (8, .int (nI (nxC K g i k 8)))]) hF.1 hF.2.1 dX12_next_177 hl (k := 8) rfl (nI_inc _ _) (by decide) rfl (fun ls hl => ?_)
                            refine lv_goto (tgt := 60) hF.1 hF.2.1 dX12_next_180 (by decide) ?_
                            exact ih60 (_) (_) (_) (_) (_) (by omega) (by first | exact Or.inr ⟨Nat.succ_pos _, by rw [hq]; exact hb2.2.1, by rw [hq]; exact hb2.2.2⟩ | exact Or.inr ⟨Nat.succ_pos _, by rw [hq], by rw [hq]⟩) hSq hM (by omega) _ _ hG ls (lv_sub hl [4, 5, 6, 7, 8, 2, 1, 0] rfl)
                          · --
                            have hq := nxM_f (P := nxP K g i) (B := cnt K + 1) (k := k) (fun a => c_163 (by rw [hb2.2.2]; exact nI_lt a (by have := nxM_le (P := nxP K g i) (B := cnt K + 1) k; have := cnt_8 (v := K) (by omega); omega)))
                            refine lv_goto (tgt := 177) hF.1 hF.2.1 dX12_next_166 (by decide) ?_
                            refine lv_iinc (v := (nI (k + 1))) (lv' := [(7, .int (nI (k + 1))), (9, .int (nI (nxP K g i k))), (0, .ref (ob 0)), (1, .int (nI i)), (2, .int (nI g)), (3, .int (nI K)), (4, .int what), (5, .int be), (6, .int le), (8, .int (nI (nxC K g i k 8)))]) hF.1 hF.2.1 dX12_next_177 hl (k := 8) rfl (nI_inc _ _) (by decide) rfl (fun ls hl => ?_)
                            refine lv_goto (tgt := 60) hF.1 hF.2.1 dX12_next_180 (by decide) ?_
                            exact ih60 (_) (_) (_) (_) (_) (by omega) (by first | exact Or.inr ⟨Nat.succ_pos _, by rw [hq]; exact hb2.2.1, by rw [hq]; exact hb2.2.2⟩ | exact Or.inr ⟨Nat.succ_pos _, by rw [hq], by rw [hq]⟩) hSq hM (by omega) _ _ hG ls (lv_sub hl [2, 3, 4, 5, 6, 7, 8, 0] rfl)
                    · --
                      have n_79 : ¬ (8 ≤ q) := fun zz9 => c_79 ((nI_leI (a := 8) (b := q) (by omega) (by omega)).mpr zz9)
                      refine lv_iload_n hF.1 hF.2.1 dX12_next_82 rfl (lv_at hl 3 rfl) ?_
                      refine lv_iload hF.1 hF.2.1 dX12_next_83 (lv_at hl 9 rfl) ?_
                      refine lv_ishr hF.1 hF.2.1 dX12_next_85 ?_
                      refine lv_iconst (v := (nI 1)) hF.1 hF.2.1 dX12_next_86 (by decide +kernel) ?_
                      refine lv_iand hF.1 hF.2.1 dX12_next_87 ?_
                      rw [bit_b (by omega) (by omega)]
                      refine lv_if_ne (tgt := 94) hF.1 hF.2.1 dX12_next_88 (by decide) (fun c_88 => ?_) (fun c_88 => ?_)
                      · --
                        have n_88 : (K.testBit q) = true := b2i_nz.mp c_88
                        have n_88 := b2i_nz.mp c_88
                        refine lv_aload_n hF.1 hF.2.1 dX12_next_94 rfl (lv_at hl 0 rfl) ?_
                        refine lv_iload_n hF.1 hF.2.1 dX12_next_95 rfl (lv_at hl 1 rfl) ?_
                        refine lv_iload hF.1 hF.2.1 dX12_next_96 (lv_at hl 9 rfl) ?_
                        refine lv_iload_n hF.1 hF.2.1 dX12_next_98 rfl (lv_at hl 2 rfl) ?_
                        refine k_cv (r_V (As := [.int (nI i), .int (nI q), .int (nI g)]) hF hK hA hG (c_X12_setDrawer (show i < 6 by omega)) (cwV 3 hF.2.2.2.2 gX12_next_X12_setDrawer rfl rfl rfl (by decide +kernel) ⟨Nat.le_of_ble_eq_true rfl, Nat.le_of_ble_eq_true rfl⟩) 0 rfl rfl rfl rfl hl.1 rfl (lv_room (Nat.le_of_ble_eq_true rfl)) dX12_next_99 ⟨Nat.le_of_ble_eq_true rfl, Nat.le_of_ble_eq_true rfl⟩) hG (fun u_99 H locs hp_99 hG => ?_)
                        have hS3 := hSq.set (k := q) (by omega) hg
                        refine lv_iload hF.1 hF.2.1 dX12_next_102 (lv_at hl 8 rfl) ?_
                        refine lv_aload_n hF.1 hF.2.1 dX12_next_104 rfl (lv_at hl 0 rfl) ?_
                        refine lv_iload_n hF.1 hF.2.1 dX12_next_105 rfl (lv_at hl 1 rfl) ?_
                        refine lv_iload hF.1 hF.2.1 dX12_next_106 (lv_at hl 7 rfl) ?_
                        refine k_ci (r_V (As := [.int (nI i), .int (nI k)]) hF hK hA hG (c_X12_may hS3 hi (by omega)) (cwV 2 hF.2.2.2.2 gX12_next_X12_may rfl rfl rfl (by decide +kernel) ⟨Nat.le_of_ble_eq_true rfl, Nat.le_of_ble_eq_true rfl⟩) 0 rfl rfl rfl rfl hl.1 rfl (lv_room (Nat.le_of_ble_eq_true rfl)) dX12_next_108 ⟨Nat.le_of_ble_eq_true rfl, Nat.le_of_ble_eq_true rfl⟩) hG (fun r_108 u_108 H locs hp_108 hG => ?_)
                        rw [va_up_self, va_up_self] at hp_108
                        subst hp_108
                        refine lv_if_eq (tgt := 118) hF.1 hF.2.1 dX12_next_111 (by decide) (fun c_111 => ?_) (fun c_111 => ?_)
                        · --
                          have n_111 : (mv q g i k) = false := b2i_z.mp c_111
                          refine lv_iconst (v := (nI 0)) hF.1 hF.2.1 dX12_next_118 (by decide +kernel) ?_
                          refine lv_iadd hF.1 hF.2.1 dX12_next_119 ?_
                          rw [nI_add]
                          refine lv_istore (lv' := [(8, .int (nI (nxC K g i k q + 0))), (0, .ref (ob 0)), (1, .int (nI i)), (2, .int (nI g)), (3, .int (nI K)), (4, .int what), (5, .int be), (6, .int le), (7, .int (nI k)), (9, .int (nI q))]) hF.1 hF.2.1 dX12_next_120 hl (by decide) rfl (fun ls hl => ?_)
                          refine lv_iinc (v := (nI (q + 1))) (lv' := [(9, .int (nI (q + 1))), (8, .int (nI (nxC K g i k q + 0))), (0, .ref (ob 0)), (1, .int (nI i)), (2, .int (nI g)), (3, .int (nI K)), (4, .int what), (5, .int be), (6, .int le), (7, .int (nI k))]) hF.1 hF.2.1 dX12_next_122 hl (k := 9) rfl (nI_inc _ _) (by decide) rfl (fun ls hl => ?_)
                          refine lv_goto (tgt := 75) hF.1 hF.2.1 dX12_next_125 (by decide) ?_
                          exact ih75 (q + 1) (_) (by omega) (by first | exact SRi.mk hS3 | exact hSq) (by omega) _ _ hG ls (lv_sub hl [2, 3, 4, 5, 6, 7, 8, 9, 1, 0] (by first | (rw [nxC_t n_88 n_111]; rfl) | (rw [nxC_g n_111]; rfl) | (rw [nxC_f n_88]; rfl)))
                        · --
                          have n_111 : (mv q g i k) = true := b2i_nz.mp c_111
                          refine lv_iconst (v := (nI 1)) hF.1 hF.2.1 dX12_next_114 (by decide +kernel) ?_
                          refine lv_goto (tgt := 119) hF.1 hF.2.1 dX12_next_115 (by decide) ?_
                          refine lv_iadd hF.1 hF.2.1 dX12_next_119 ?_
                          rw [nI_add]
                          refine lv_istore (lv' := [(8, .int (nI (nxC K g i k q + 1))), (0, .ref (ob 0)), (1, .int (nI i)), (2, .int (nI g)), (3, .int (nI K)), (4, .int what), (5, .int be), (6, .int le), (7, .int (nI k)), (9, .int (nI q))]) hF.1 hF.2.1 dX12_next_120 hl (by decide) rfl (fun ls hl => ?_)
                          refine lv_iinc (v := (nI (q + 1))) (lv' := [(9, .int (nI (q + 1))), (8, .int (nI (nxC K g i k q + 1))), (0, .ref (ob 0)), (1, .int (nI i)), (2, .int (nI g)), (3, .int (nI K)), (4, .int what), (5, .int be), (6, .int le), (7, .int (nI k))]) hF.1 hF.2.1 dX12_next_122 hl (k := 9) rfl (nI_inc _ _) (by decide) rfl (fun ls hl => ?_)
                          refine lv_goto (tgt := 75) hF.1 hF.2.1 dX12_next_125 (by decide) ?_
                          exact ih75 (q + 1) (_) (by omega) (by first | exact SRi.mk hS3 | exact hSq) (by omega) _ _ hG ls (lv_sub hl [2, 3, 4, 5, 6, 7, 8, 9, 1, 0] (by first | (rw [nxC_t n_88 n_111]; rfl) | (rw [nxC_g n_111]; rfl) | (rw [nxC_f n_88]; rfl)))
                      · --
                        have n_88 : (K.testBit q) = false := b2i_z.mp c_88
                        have n_88 := b2i_z.mp c_88
                        refine lv_goto (tgt := 122) hF.1 hF.2.1 dX12_next_91 (by decide) ?_
                        refine lv_iinc (v := (nI (q + 1))) (lv' := [(9, .int (nI (q + 1))), (0, .ref (ob 0)), (1, .int (nI i)), (2, .int (nI g)), (3, .int (nI K)), (4, .int what), (5, .int be), (6, .int le), (7, .int (nI k)), (8, .int (nI (nxC K g i k q)))]) hF.1 hF.2.1 dX12_next_122 hl (k := 9) rfl (nI_inc _ _) (by decide) rfl (fun ls hl => ?_)
                        refine lv_goto (tgt := 75) hF.1 hF.2.1 dX12_next_125 (by decide) ?_
                        exact ih75 (q + 1) (_) (by omega) (by first | exact SRi.mk hS3 | exact hSq) (by omega) _ _ hG ls (lv_sub hl [1, 2, 3, 4, 5, 6, 7, 8, 9, 0] (by first | (rw [nxC_t n_88 n_111]; rfl) | (rw [nxC_g n_111]; rfl) | (rw [nxC_f n_88]; rfl)))
                exact lp75 _ (0) (_) (by omega) hSk2 (Nat.lt_succ_self _) _ _ hG ls (lv_sub hl [2, 3, 4, 5, 6, 7, 8, 9, 1, 0] rfl)
          exact lp60 _ (0) ((-4)) ((-4)) (aS) (_) (by omega) (Or.inl ⟨rfl, rfl⟩) (SRi.of hS i) hS.cpy (Nat.lt_succ_self _) _ _ hG ls (lv_sub hl [3, 4, 5, 6, 7, 2, 1, 0] rfl)
        · --
          have n_40 := b2i_z.mp c_40
          refine lv_iconst (v := (-1)) hF.1 hF.2.1 dX12_next_43 (by decide +kernel) ?_
          exact hret _ (aS, aM) _ ls _ _ _ _ (by first | exact ⟨(spNext_f (Or.inl n_5)).symm, hS⟩ | exact ⟨(spNext_f (Or.inr (Or.inl n_17))).symm, hS⟩ | exact ⟨(spNext_f (Or.inr (Or.inr (Or.inl n_29)))).symm, hS⟩ | exact ⟨(spNext_f (Or.inr (Or.inr (Or.inr n_40)))).symm, hS⟩) (by first | rfl | exact nar_b2i _) hG (Nat.le_of_ble_eq_true rfl) (Nat.le_of_ble_eq_true rfl) dX12_next_44

abbrev rmX12_freed : Room := { frames := 3, cells := 0, slots := 0, locals := 73 }
set_option maxHeartbeats 4000000 in
set_option maxRecDepth 100000 in
theorem c_X12_freed {l : Launch} {D : va_G} {cA : Nat → ClassId} {A : Nat → Prop}  {ob : Nat → Nat} {aS aI aR aM aK aT aZ aE aD aF aN aP aH : Nat → Int32} {vH vT vP vB vE vS : Int32} {n o : Nat} {kd fg : Nat → Nat} (hS : SR aS n o kd fg) {t : Int32} : Met l yX12_freed wsX12_freed rmX12_freed (va_Pc [.ref (ob 0), .int t] (Pre D cA A (MW cA ob aS aI aR aM aK aT aZ aE aD aF aN aP aH vH vT vP vB vE vS))) (va_Qi (fun r (u : (Nat → Int32) × (Nat → Int32) × (Nat → Int32)) => spFreed n o kd fg t r ∧ SR u.1 n o kd fg) (fun u t => Wd D A ((fun (u : (Nat → Int32) × (Nat → Int32) × (Nat → Int32)) => MW cA ob u.1 aI aR u.2.1 aK aT aZ aE aD aF aN aP u.2.2 vH vT vP vB vE vS) u) t) A) (0) (0) A := by
  refine k_ofi (S := (Nat → Int32) × (Nat → Int32) × (Nat → Int32)) (F := fun (u : (Nat → Int32) × (Nat → Int32) × (Nat → Int32)) => MW cA ob u.1 aI aR u.2.1 aK aT aZ aE aD aF aN aP u.2.2 vH vT vP vB vE vS) (cc := cX12_freed) (maxL := 5) (by decide) rfl (Nat.le_of_ble_eq_true rfl) ?_
  intro p e s m args below meth c Q hF hini hK hA hG hret ls hl
  have hl : lv_has ls 5 [(0, .ref (ob 0)), (1, .int t)] := hl
  have hn : n ≤ 6 := hS.2.2.1
  have ho : o < 64 := hS.o64
  have hp2 : 2 ^ n ≤ 64 := Nat.pow_le_pow_right (by decide) hn
  have hp1 : 1 ≤ 2 ^ n := Nat.one_le_two_pow
  refine lv_aload_n hF.1 hF.2.1 dX12_freed_0 rfl (lv_at hl 0 rfl) ?_
  refine lv_iload_n hF.1 hF.2.1 dX12_freed_1 rfl (lv_at hl 1 rfl) ?_
  refine k_ci (r_V (As := [.int t]) hF hK hA hG (c_X12_areDrawers hS) (cwV 1 hF.2.2.2.2 gX12_freed_X12_areDrawers rfl rfl rfl (by decide +kernel) ⟨Nat.le_of_ble_eq_true rfl, Nat.le_of_ble_eq_true rfl⟩) 0 rfl rfl rfl rfl hl.1 rfl (lv_room (Nat.le_of_ble_eq_true rfl)) dX12_freed_2 ⟨Nat.le_of_ble_eq_true rfl, Nat.le_of_ble_eq_true rfl⟩) hG (fun r_2 u_2 H locs hp_2 hG => ?_)
  subst hp_2
  refine lv_if_ne (tgt := 10) hF.1 hF.2.1 dX12_freed_5 (by decide) (fun c_5 => ?_) (fun c_5 => ?_)
  · --
    have n_5 : (inB (2 ^ n) t) = true := b2i_nz.mp c_5
    obtain ⟨j, hj, rfl⟩ := inB_ex (by omega) n_5
    refine lv_aload_n hF.1 hF.2.1 dX12_freed_10 rfl (lv_at hl 0 rfl) ?_
    refine k_ci (r_V (As := []) hF hK hA hG (c_X12_everything hS) (cwV 0 hF.2.2.2.2 gX12_freed_X12_everything rfl rfl rfl (by decide +kernel) ⟨Nat.le_of_ble_eq_true rfl, Nat.le_of_ble_eq_true rfl⟩) 0 rfl rfl rfl rfl hl.1 rfl (lv_room (Nat.le_of_ble_eq_true rfl)) dX12_freed_11 ⟨Nat.le_of_ble_eq_true rfl, Nat.le_of_ble_eq_true rfl⟩) hG (fun r_11 u_11 H locs hp_11 hG => ?_)
    subst hp_11
    refine lv_istore_n (lv' := [(2, .int (nI (2 ^ n - 1))), (0, .ref (ob 0)), (1, .int (nI j))]) hF.1 hF.2.1 dX12_freed_14 rfl hl (by decide) rfl (fun ls hl => ?_)
    refine lv_aload_n hF.1 hF.2.1 dX12_freed_15 rfl (lv_at hl 1 rfl) ?_
    refine k_cv (r_V (As := []) hF hK hA hG (c_X12_begins) (cwV 0 hF.2.2.2.2 gX12_freed_X12_begins rfl rfl rfl (by decide +kernel) ⟨Nat.le_of_ble_eq_true rfl, Nat.le_of_ble_eq_true rfl⟩) 0 rfl rfl rfl rfl hl.1 rfl (lv_room (Nat.le_of_ble_eq_true rfl)) dX12_freed_16 ⟨Nat.le_of_ble_eq_true rfl, Nat.le_of_ble_eq_true rfl⟩) hG (fun u_16 H locs hp_16 hG => ?_)
    refine lv_iconst (v := (nI 0)) hF.1 hF.2.1 dX12_freed_19 (by decide +kernel) ?_
    refine lv_istore_n (lv' := [(3, .int (nI 0)), (2, .int (nI (2 ^ n - 1))), (0, .ref (ob 0)), (1, .int (nI j))]) hF.1 hF.2.1 dX12_freed_20 rfl hl (by decide) rfl (fun ls hl => ?_)
    have lp21 : ∀ (fuel : Nat), ∀ (s_ b : Nat) (bS bM bH : Nat → Int32), (hs : s_ ≤ 2 ^ n) → (hR : FRD n o kd fg j s_ b) → (hbs : b < s_ ∨ b = 2 ^ n - 1) → (hSk : SR bS n o kd fg) → (hM : SR bM n o kd fg) → (2 ^ n - s_) < fuel → ∀ (H : Heap) (locs : List Loc), Gd D A (MW cA ob bS aI aR bM aK aT aZ aE aD aF aN aP bH vH vT vP vB vE vS) s.heap H locs → ∀ ls : Array Slot, lv_has ls 5 [(0, .ref (ob 0)), (1, .int (nI j)), (2, .int (nI b)), (3, .int (nI s_))] → W p l e rmX12_freed s m args below meth c H locs (0) (0) Q (F0 m 21 ls []) := by
      intro fuel
      induction fuel with
      | zero => intro s_ b bS bM bH hs hR hbs hSk hM hmu; exact absurd hmu (Nat.not_lt_zero _)
      | succ fuel ih21 =>
        intro s_ b bS bM bH hs hR hbs hSk hM hmu H locs hG ls hl
        refine lv_iload_n hF.1 hF.2.1 dX12_freed_21 rfl (lv_at hl 3 rfl) ?_
        refine lv_aload_n hF.1 hF.2.1 dX12_freed_22 rfl (lv_at hl 0 rfl) ?_
        refine k_ci (r_V (As := []) hF hK hA hG (c_X12_everything hSk) (cwV 0 hF.2.2.2.2 gX12_freed_X12_everything rfl rfl rfl (by decide +kernel) ⟨Nat.le_of_ble_eq_true rfl, Nat.le_of_ble_eq_true rfl⟩) 0 rfl rfl rfl rfl hl.1 rfl (lv_room (Nat.le_of_ble_eq_true rfl)) dX12_freed_23 ⟨Nat.le_of_ble_eq_true rfl, Nat.le_of_ble_eq_true rfl⟩) hG (fun r_23 u_23 H locs hp_23 hG => ?_)
        subst hp_23
        refine lv_icmp_gt (tgt := 101) hF.1 hF.2.1 dX12_freed_26 (by decide) (fun c_26 => ?_) (fun c_26 => ?_)
        · --
          have n_26 : 2 ^ n - 1 < s_ := (nI_ltI (a := 2 ^ n - 1) (b := s_) (by omega) (by omega)).mp c_26
          refine lv_iload_n hF.1 hF.2.1 dX12_freed_101 rfl (lv_at hl 2 rfl) ?_
          exact hret _ (_, _, _) _ ls _ _ _ _ (by refine ⟨?_, hSk⟩; obtain rfl : s_ = 2 ^ n := (by omega); exact spFreed_t hn hj hR) (by first | rfl | exact nar_b2i _) hG (Nat.le_of_ble_eq_true rfl) (Nat.le_of_ble_eq_true rfl) dX12_freed_102
        · --
          have n_26 : ¬ (2 ^ n - 1 < s_) := fun zz9 => c_26 ((nI_ltI (a := 2 ^ n - 1) (b := s_) (by omega) (by omega)).mpr zz9)
          refine lv_iload_n hF.1 hF.2.1 dX12_freed_29 rfl (lv_at hl 3 rfl) ?_
          refine k_ci (r_S (As := [.int (nI s_)]) hF hK hA hG (c_X12_bits (by omega)) (cwS 1 hF.2.2.2.2 gX12_freed_X12_bits rfl rfl rfl (by decide +kernel) ⟨Nat.le_of_ble_eq_true rfl, Nat.le_of_ble_eq_true rfl⟩) rfl hl.1 rfl (lv_room (Nat.le_of_ble_eq_true rfl)) dX12_freed_30 ⟨Nat.le_of_ble_eq_true rfl, Nat.le_of_ble_eq_true rfl⟩) hG (fun r_30 u_30 H locs hp_30 hG => ?_)
          subst hp_30
          refine lv_iload_n hF.1 hF.2.1 dX12_freed_33 rfl (lv_at hl 2 rfl) ?_
          refine k_ci (r_S (As := [.int (nI b)]) hF hK hA hG (c_X12_bits (by have := hR.1; omega)) (cwS 1 hF.2.2.2.2 gX12_freed_X12_bits rfl rfl rfl (by decide +kernel) ⟨Nat.le_of_ble_eq_true rfl, Nat.le_of_ble_eq_true rfl⟩) rfl hl.1 rfl (lv_room (Nat.le_of_ble_eq_true rfl)) dX12_freed_34 ⟨Nat.le_of_ble_eq_true rfl, Nat.le_of_ble_eq_true rfl⟩) hG (fun r_34 u_34 H locs hp_34 hG => ?_)
          subst hp_34
          have hcb := cnt_lt (st := b) (by have := hR.1; omega)
          have hcs := cnt_lt (st := s_) (by omega)
          refine lv_icmp_lt (tgt := 43) hF.1 hF.2.1 dX12_freed_37 (by decide) (fun c_37 => ?_) (fun c_37 => ?_)
          · --
            have n_37 : cnt s_ < cnt b := (nI_ltI (a := cnt s_) (b := cnt b) (by omega) (by omega)).mp c_37
            refine lv_iconst (v := (nI 0)) hF.1 hF.2.1 dX12_freed_43 (by decide +kernel) ?_
            refine lv_istore (lv' := [(4, .int (nI 0)), (0, .ref (ob 0)), (1, .int (nI j)), (2, .int (nI b)), (3, .int (nI s_))]) hF.1 hF.2.1 dX12_freed_44 hl (by decide) rfl (fun ls hl => ?_)
            have lp46 : ∀ (fuel : Nat), ∀ (i : Nat) (bI : Nat → Int32), (hi : i ≤ n) → (hSi : SR bI n o (frK kd s_ i) (frF fg s_ i)) → (n - i) < fuel → ∀ (H : Heap) (locs : List Loc), Gd D A (MW cA ob bI aI aR bM aK aT aZ aE aD aF aN aP bH vH vT vP vB vE vS) s.heap H locs → ∀ ls : Array Slot, lv_has ls 5 [(0, .ref (ob 0)), (1, .int (nI j)), (2, .int (nI b)), (3, .int (nI s_)), (4, .int (nI i))] → W p l e rmX12_freed s m args below meth c H locs (0) (0) Q (F0 m 46 ls []) := by
              intro fuel
              induction fuel with
              | zero => intro i bI hi hSi hmu; exact absurd hmu (Nat.not_lt_zero _)
              | succ fuel ih46 =>
                intro i bI hi hSi hmu H locs hG ls hl
                refine lv_iload hF.1 hF.2.1 dX12_freed_46 (lv_at hl 4 rfl) ?_
                refine lv_aload_n hF.1 hF.2.1 dX12_freed_48 rfl (lv_at hl 0 rfl) ?_
                refine k_get (C := RX12) (T := TX12) (N := 19) hF hK hG (fun _ h => List.mem_cons_of_mem _ (List.mem_append_right _ h)) 0 rfl rfl 0 (by decide) (List.mem_of_getElem? (i := 1) rfl) (fun _ h9 => h9) rfl dX12_freed_49 ?_
                refine lv_iconst (v := (nI 0)) hF.1 hF.2.1 dX12_freed_52 (by decide +kernel) ?_
                refine k_ialdN hF hK hG 1 rfl (0) rfl (by omega) (by omega) dX12_freed_53 ?_
                rw [hSi.1]
                refine lv_icmp_ge (tgt := 81) hF.1 hF.2.1 dX12_freed_54 (by decide) (fun c_54 => ?_) (fun c_54 => ?_)
                · --
                  have n_54 : n ≤ i := (nI_leI (a := n) (b := i) (by omega) (by omega)).mp c_54
                  have hin : i = n := by omega
                  rw [hin] at hSi
                  have hs64 : s_ < 2 ^ n := by omega
                  refine lv_aload_n hF.1 hF.2.1 dX12_freed_81 rfl (lv_at hl 0 rfl) ?_
                  refine lv_iload_n hF.1 hF.2.1 dX12_freed_82 rfl (lv_at hl 1 rfl) ?_
                  refine k_ci (r_V (As := [.int (nI j)]) hF hK hA hG (c_X12_hadOf hSi (show j < 64 by omega)) (cwV 1 hF.2.2.2.2 gX12_freed_X12_hadOf rfl rfl rfl (by decide +kernel) ⟨Nat.le_of_ble_eq_true rfl, Nat.le_of_ble_eq_true rfl⟩) 0 rfl rfl rfl rfl hl.1 rfl (lv_room (Nat.le_of_ble_eq_true rfl)) dX12_freed_83 ⟨Nat.le_of_ble_eq_true rfl, Nat.le_of_ble_eq_true rfl⟩) hG (fun r_83 u_83 H locs hp_83 hG => ?_)
                  refine lv_if_lt (tgt := 91) hF.1 hF.2.1 dX12_freed_86 (by decide) (fun c_86 => ?_) (fun c_86 => ?_)
                  · --
                    have hF2 := hR.no (REA_f hp_83 c_86)
                    refine lv_aload_n hF.1 hF.2.1 dX12_freed_91 rfl (lv_at hl 0 rfl) ?_
                    refine k_cv (r_V (As := []) hF hK hA hG (c_X12_ends) (cwV 0 hF.2.2.2.2 gX12_freed_X12_ends rfl rfl rfl (by decide +kernel) ⟨Nat.le_of_ble_eq_true rfl, Nat.le_of_ble_eq_true rfl⟩) 0 rfl rfl rfl rfl hl.1 rfl (lv_room (Nat.le_of_ble_eq_true rfl)) dX12_freed_92 ⟨Nat.le_of_ble_eq_true rfl, Nat.le_of_ble_eq_true rfl⟩) hG (fun u_92 H locs hp_92 hG => ?_)
                    refine lv_iinc (v := (nI (s_ + 1))) (lv' := [(3, .int (nI (s_ + 1))), (0, .ref (ob 0)), (1, .int (nI j)), (2, .int (nI b)), (4, .int (nI i))]) hF.1 hF.2.1 dX12_freed_95 hl (k := 3) rfl (nI_inc _ _) (by decide) rfl (fun ls hl => ?_)
                    refine lv_goto (tgt := 21) hF.1 hF.2.1 dX12_freed_98 (by decide) ?_
                    exact ih21 (_) (_) (_) (_) (_) (by omega) (by first | exact hF2 | exact hR.skip hn (by omega) hbs (by omega)) (by omega) (by first | exact hM.cpy | exact hSk) hM (by omega) _ _ hG ls (lv_sub hl [1, 2, 3, 0] rfl)
                  · --
                    have hF2 := hR.yes (by omega) (REA_t hp_83 c_86) n_37
                    refine lv_iload_n hF.1 hF.2.1 dX12_freed_89 rfl (lv_at hl 3 rfl) ?_
                    refine lv_istore_n (lv' := [(2, .int (nI s_)), (0, .ref (ob 0)), (1, .int (nI j)), (3, .int (nI s_)), (4, .int (nI i))]) hF.1 hF.2.1 dX12_freed_90 rfl hl (by decide) rfl (fun ls hl => ?_)
                    refine lv_aload_n hF.1 hF.2.1 dX12_freed_91 rfl (lv_at hl 1 rfl) ?_
                    refine k_cv (r_V (As := []) hF hK hA hG (c_X12_ends) (cwV 0 hF.2.2.2.2 gX12_freed_X12_ends rfl rfl rfl (by decide +kernel) ⟨Nat.le_of_ble_eq_true rfl, Nat.le_of_ble_eq_true rfl⟩) 0 rfl rfl rfl rfl hl.1 rfl (lv_room (Nat.le_of_ble_eq_true rfl)) dX12_freed_92 ⟨Nat.le_of_ble_eq_true rfl, Nat.le_of_ble_eq_true rfl⟩) hG (fun u_92 H locs hp_92 hG => ?_)
                    refine lv_iinc (v := (nI (s_ + 1))) (lv' := [(3, .int (nI (s_ + 1))), (2, .int (nI s_)), (0, .ref (ob 0)), (1, .int (nI j)), (4, .int (nI i))]) hF.1 hF.2.1 dX12_freed_95 hl (k := 3) rfl (nI_inc _ _) (by decide) rfl (fun ls hl => ?_)
                    refine lv_goto (tgt := 21) hF.1 hF.2.1 dX12_freed_98 (by decide) ?_
                    exact ih21 (_) (_) (_) (_) (_) (by omega) (by first | exact hF2 | exact hR.skip hn (by omega) hbs (by omega)) (by omega) (by first | exact hM.cpy | exact hSk) hM (by omega) _ _ hG ls (lv_sub hl [2, 3, 1, 0] rfl)
                · --
                  have n_54 : ¬ (n ≤ i) := fun zz9 => c_54 ((nI_leI (a := n) (b := i) (by omega) (by omega)).mpr zz9)
                  refine lv_iload_n hF.1 hF.2.1 dX12_freed_57 rfl (lv_at hl 3 rfl) ?_
                  refine lv_iload hF.1 hF.2.1 dX12_freed_58 (lv_at hl 4 rfl) ?_
                  refine lv_ishr hF.1 hF.2.1 dX12_freed_60 ?_
                  refine lv_iconst (v := (nI 1)) hF.1 hF.2.1 dX12_freed_61 (by decide +kernel) ?_
                  refine lv_iand hF.1 hF.2.1 dX12_freed_62 ?_
                  rw [bit_b (by omega) (by omega)]
                  refine lv_iconst (v := (nI 1)) hF.1 hF.2.1 dX12_freed_63 (by decide +kernel) ?_
                  refine lv_icmp_ne (tgt := 75) hF.1 hF.2.1 dX12_freed_64 (by decide) (fun c_64 => ?_) (fun c_64 => ?_)
                  · --
                    have n_64 : s_.testBit i = false := by cases e : s_.testBit i with | false => rfl | true => rw [e] at c_64; exact absurd rfl c_64
                    refine lv_iinc (v := (nI (i + 1))) (lv' := [(4, .int (nI (i + 1))), (0, .ref (ob 0)), (1, .int (nI j)), (2, .int (nI b)), (3, .int (nI s_))]) hF.1 hF.2.1 dX12_freed_75 hl (k := 4) rfl (nI_inc _ _) (by decide) rfl (fun ls hl => ?_)
                    refine lv_goto (tgt := 46) hF.1 hF.2.1 dX12_freed_78 (by decide) ?_
                    exact ih46 (i + 1) (_) (by omega) (by first | exact hS3 | (rw [← frK_f n_64, ← frF_f n_64]; exact hSi)) (by omega) _ _ hG ls (lv_sub hl [1, 2, 3, 4, 0] rfl)
                  · --
                    have n_64 : s_.testBit i = true := by cases e : s_.testBit i with | true => rfl | false => rw [e] at c_64; exact absurd c_64 (by decide +kernel)
                    refine lv_aload_n hF.1 hF.2.1 dX12_freed_67 rfl (lv_at hl 0 rfl) ?_
                    refine lv_iload hF.1 hF.2.1 dX12_freed_68 (lv_at hl 4 rfl) ?_
                    refine lv_iconst (v := (nI 1)) hF.1 hF.2.1 dX12_freed_70 (by decide +kernel) ?_
                    refine lv_iconst (v := (nI 0)) hF.1 hF.2.1 dX12_freed_71 (by decide +kernel) ?_
                    refine k_cv (r_V (As := [.int (nI i), .int (nI 1), .int (nI 0)]) hF hK hA hG (c_X12_setDrawer (show i < 6 by omega)) (cwV 3 hF.2.2.2.2 gX12_freed_X12_setDrawer rfl rfl rfl (by decide +kernel) ⟨Nat.le_of_ble_eq_true rfl, Nat.le_of_ble_eq_true rfl⟩) 0 rfl rfl rfl rfl hl.1 rfl (lv_room (Nat.le_of_ble_eq_true rfl)) dX12_freed_72 ⟨Nat.le_of_ble_eq_true rfl, Nat.le_of_ble_eq_true rfl⟩) hG (fun u_72 H locs hp_72 hG => ?_)
                    have hS3 := hSi.setD (i := i) (k := 1) (g := 0) (by decide) (by decide)
                    rw [frK_t n_64, frF_t n_64] at hS3
                    refine lv_iinc (v := (nI (i + 1))) (lv' := [(4, .int (nI (i + 1))), (0, .ref (ob 0)), (1, .int (nI j)), (2, .int (nI b)), (3, .int (nI s_))]) hF.1 hF.2.1 dX12_freed_75 hl (k := 4) rfl (nI_inc _ _) (by decide) rfl (fun ls hl => ?_)
                    refine lv_goto (tgt := 46) hF.1 hF.2.1 dX12_freed_78 (by decide) ?_
                    exact ih46 (i + 1) (_) (by omega) (by first | exact hS3 | (rw [← frK_f n_64, ← frF_f n_64]; exact hSi)) (by omega) _ _ hG ls (lv_sub hl [1, 2, 3, 4, 0] rfl)
            exact lp46 _ (0) (_) (by omega) (by rw [fr_0, fr_0F]; exact hSk) (Nat.lt_succ_self _) _ _ hG ls (lv_sub hl [1, 2, 3, 4, 0] rfl)
          · --
            have n_37 : ¬ (cnt s_ < cnt b) := fun zz9 => c_37 ((nI_ltI (a := cnt s_) (b := cnt b) (by omega) (by omega)).mpr zz9)
            refine lv_goto (tgt := 95) hF.1 hF.2.1 dX12_freed_40 (by decide) ?_
            refine lv_iinc (v := (nI (s_ + 1))) (lv' := [(3, .int (nI (s_ + 1))), (0, .ref (ob 0)), (1, .int (nI j)), (2, .int (nI b))]) hF.1 hF.2.1 dX12_freed_95 hl (k := 3) rfl (nI_inc _ _) (by decide) rfl (fun ls hl => ?_)
            refine lv_goto (tgt := 21) hF.1 hF.2.1 dX12_freed_98 (by decide) ?_
            exact ih21 (_) (_) (_) (_) (_) (by omega) (by first | exact hF2 | exact hR.skip hn (by omega) hbs (by omega)) (by omega) (by first | exact hM.cpy | exact hSk) hM (by omega) _ _ hG ls (lv_sub hl [1, 2, 3, 0] rfl)
    exact lp21 _ (0) (2 ^ n - 1) (aS) (_) (aH) (by omega) (FRD.start hn hS.2.2.2.1 hj) (Or.inr rfl) hS hS.cpy (Nat.lt_succ_self _) _ _ hG ls (lv_sub hl [2, 3, 1, 0] rfl)
  · --
    have n_5 : (inB (2 ^ n) t) = false := b2i_z.mp c_5
    refine lv_iconst (v := (-1)) hF.1 hF.2.1 dX12_freed_8 (by decide +kernel) ?_
    exact hret _ (aS, aM, aH) _ ls _ _ _ _ (by exact ⟨spFreed_f n_5, hS⟩) (by first | rfl | exact nar_b2i _) hG (Nat.le_of_ble_eq_true rfl) (Nat.le_of_ble_eq_true rfl) dX12_freed_9
