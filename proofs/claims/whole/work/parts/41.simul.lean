/-! ===== the class's search and the reference's tell the same ===== -/
theorem IsW.map {R R' : Nat → Nat → Prop} {a a' : Nat} {W W' : Nat → Prop} {r : Int32} (h1 : ∀ m b, Rch R m a b → W b → ∃ c, Rch R' m a' c ∧ W' c) (h2 : ∀ m c, Rch R' m a' c → W' c → ∃ b, Rch R m a b ∧ W b) (h : IsW R' a' W' r) : IsW R a W r := by
  rcases h with ⟨e, h⟩ | ⟨n, h0, e, ⟨b, hb, hw⟩, hm⟩
  · refine Or.inl ⟨e, fun m b hb hw => ?_⟩
    obtain ⟨c, hc, hw'⟩ := h1 m b hb hw
    exact h m c hc hw'
  · refine Or.inr ⟨n, h0, e, h2 n b hb hw, fun m hlt b hb hw => ?_⟩
    obtain ⟨c, hc, hw'⟩ := h1 m b hb hw
    exact hm m hlt c hc hw'
theorem maW_bit {n : Nat} {kd fg : Nat → Nat} {st i : Nat} (hst : st < 2 ^ n) : (maW n kd fg st).testBit i = (decide (i < n) && mv (kd i) (fg i) i st) := by
  unfold maW
  rw [if_pos hst, mayU_bit]
/-- a pair's standing, and which of the told it has had -/
def pj (told b : Nat) : Nat := 64 * (b / 64) + (b % 64 &&& told)
theorem pj_1 {told b : Nat} : pj told b / 64 = b / 64 := by
  unfold pj
  have : b % 64 &&& told ≤ b % 64 := Nat.and_le_left
  omega
theorem pj_2 {told b : Nat} : pj told b % 64 = b % 64 &&& told := by
  unfold pj
  have : b % 64 &&& told ≤ b % 64 := Nat.and_le_left
  omega
theorem edge_t {n told b i : Nat} {kd fg : Nat → Nat} (hn : n ≤ 6) (hb : b / 64 < 2 ^ n) (hi : i < n) (h : mv (kd i) (fg i) i (b / 64) = true) : edQ (maW n kd fg) told (pj told b) i = some (pj told (64 * (b / 64 ^^^ 2 ^ i) + (b % 64 ||| (b / 64 ^^^ 2 ^ i)))) := by
  have h64 : b / 64 < 64 := Nat.lt_of_lt_of_le hb (Nat.pow_le_pow_right (by decide) hn)
  have hx : b / 64 ^^^ 2 ^ i < 64 := tog_lt h64 (by omega)
  have hy : b % 64 ||| (b / 64 ^^^ 2 ^ i) < 64 := Nat.or_lt_two_pow (n := 6) (by omega) hx
  unfold edQ
  rw [pj_1, pj_2, maW_bit hb, if_pos (by simp [hi, h])]
  unfold pj
  rw [show (64 * (b / 64 ^^^ 2 ^ i) + (b % 64 ||| (b / 64 ^^^ 2 ^ i))) / 64 = b / 64 ^^^ 2 ^ i by omega, show (64 * (b / 64 ^^^ 2 ^ i) + (b % 64 ||| (b / 64 ^^^ 2 ^ i))) % 64 = b % 64 ||| (b / 64 ^^^ 2 ^ i) by omega]
  rw [Nat.and_or_distrib_right]
theorem edge_f {n told b i z : Nat} {kd fg : Nat → Nat} (hb : b / 64 < 2 ^ n) (h : edQ (maW n kd fg) told (pj told b) i = some z) : i < n ∧ mv (kd i) (fg i) i (b / 64) = true := by
  unfold edQ at h
  rw [pj_1, maW_bit hb] at h
  by_cases e : (decide (i < n) && mv (kd i) (fg i) i (b / 64)) = true
  · simpa using e
  · rw [if_neg e] at h
    cases h
theorem HAD_of {n o told : Nat} {kd fg : Nat → Nat} {r : Int32} (hn : n ≤ 6) (ho : o < 2 ^ n) (h : IsW (ER 6 (edQ (maW n kd fg) told)) (64 * o + (o &&& told)) (fun c => c % 64 = told) r) : HAD n o kd fg told r := by
  have h64 : o < 64 := Nat.lt_of_lt_of_le ho (Nat.pow_le_pow_right (by decide) hn)
  have ea : pj told (64 * o + o) = 64 * o + (o &&& told) := by
    unfold pj
    rw [show (64 * o + o) / 64 = o by omega, show (64 * o + o) % 64 = o by omega]
  have fwd : ∀ m b, Rch (ER n (edH n kd fg)) m (64 * o + o) b → b / 64 < 2 ^ n ∧ Rch (ER 6 (edQ (maW n kd fg) told)) m (64 * o + (o &&& told)) (pj told b) := by
    intro m
    induction m with
    | zero =>
      intro b hb
      cases hb
      exact ⟨by omega, ea.symm⟩
    | succ m ih =>
      intro b ⟨c, hc, i, hi, he⟩
      obtain ⟨h1, h2⟩ := ih c hc
      by_cases hm : mv (kd i) (fg i) i (c / 64) = true
      · rw [edH_t hm] at he
        cases he
        have hx := xor_ltn h1 hi
        have hx6 : c / 64 ^^^ 2 ^ i < 64 := Nat.lt_of_lt_of_le hx (Nat.pow_le_pow_right (by decide) hn)
        have hy : c % 64 ||| (c / 64 ^^^ 2 ^ i) < 64 := Nat.or_lt_two_pow (n := 6) (by omega) hx6
        exact ⟨by rw [show (64 * (c / 64 ^^^ 2 ^ i) + (c % 64 ||| (c / 64 ^^^ 2 ^ i))) / 64 = c / 64 ^^^ 2 ^ i by omega]; exact hx, pj told c, h2, i, by omega, edge_t hn h1 hi hm⟩
      · rw [edH_f (by simpa using hm)] at he
        cases he
  have bwd : ∀ m c, Rch (ER 6 (edQ (maW n kd fg) told)) m (64 * o + (o &&& told)) c → ∃ b, b / 64 < 2 ^ n ∧ pj told b = c ∧ Rch (ER n (edH n kd fg)) m (64 * o + o) b := by
    intro m
    induction m with
    | zero =>
      intro c hc
      cases hc
      exact ⟨64 * o + o, by omega, ea, rfl⟩
    | succ m ih =>
      intro c ⟨c', hc', i, hi, he⟩
      obtain ⟨b, hb, rfl, hr⟩ := ih c' hc'
      obtain ⟨h1, h2⟩ := edge_f hb he
      rw [edge_t hn hb h1 h2] at he
      have hx := xor_ltn hb h1
      have hx6 : b / 64 ^^^ 2 ^ i < 64 := Nat.lt_of_lt_of_le hx (Nat.pow_le_pow_right (by decide) hn)
      have hy : b % 64 ||| (b / 64 ^^^ 2 ^ i) < 64 := Nat.or_lt_two_pow (n := 6) (by omega) hx6
      exact ⟨_, by rw [show (64 * (b / 64 ^^^ 2 ^ i) + (b % 64 ||| (b / 64 ^^^ 2 ^ i))) / 64 = b / 64 ^^^ 2 ^ i by omega]; exact hx, Option.some.inj he, b, hr, i, h1, edH_t h2⟩
  refine IsW.map (fun m b hb hw => ⟨pj told b, (fwd m b hb).2, by show pj told b % 64 = told; rw [pj_2]; exact hw⟩) (fun m c hc hw => ?_) h
  obtain ⟨b, h1, rfl, h3⟩ := bwd m c hc
  exact ⟨b, h3, by rw [pj_2] at hw; exact hw⟩
theorem DS_of {n st to : Nat} {kd fg : Nat → Nat} {r : Int32} (hn : n ≤ 6) (hst : st < 2 ^ n) (h : IsW (ER 6 (edQ (maW n kd fg) 0)) (64 * st + (st &&& 0)) (fun c => c / 64 = to) r) : DS n kd fg st to r := by
  have e0 : ∀ b, pj 0 b = 64 * (b / 64) := fun b => by unfold pj; rw [Nat.and_zero, Nat.add_zero]
  have fwd : ∀ m b, Rch (ER n (edW n kd fg)) m st b → b < 2 ^ n ∧ Rch (ER 6 (edQ (maW n kd fg) 0)) m (64 * st + (st &&& 0)) (64 * b) := by
    intro m
    induction m with
    | zero =>
      intro b hb
      cases hb
      exact ⟨hst, by rw [Nat.and_zero]; rfl⟩
    | succ m ih =>
      intro b ⟨c, hc, i, hi, he⟩
      obtain ⟨h1, h2⟩ := ih c hc
      have hdiv : 64 * c / 64 = c := by omega
      by_cases hm : mv (kd i) (fg i) i c = true
      · rw [edW_t hm] at he
        cases he
        have hx := xor_ltn h1 hi
        have hx6 : c ^^^ 2 ^ i < 64 := Nat.lt_of_lt_of_le hx (Nat.pow_le_pow_right (by decide) hn)
        have hz : 64 * c % 64 = 0 := by omega
        have hed := edge_t (told := 0) (b := 64 * c) hn (by rw [hdiv]; exact h1) hi (by rw [hdiv]; exact hm)
        rw [e0, e0, hdiv, hz, Nat.zero_or, show (64 * (c ^^^ 2 ^ i) + (c ^^^ 2 ^ i)) / 64 = c ^^^ 2 ^ i by omega] at hed
        exact ⟨hx, 64 * c, h2, i, by omega, hed⟩
      · rw [edW_f (by simpa using hm)] at he
        cases he
  have bwd : ∀ m c, Rch (ER 6 (edQ (maW n kd fg) 0)) m (64 * st + (st &&& 0)) c → ∃ b, b < 2 ^ n ∧ 64 * b = c ∧ Rch (ER n (edW n kd fg)) m st b := by
    intro m
    induction m with
    | zero =>
      intro c hc
      cases hc
      exact ⟨st, hst, by rw [Nat.and_zero]; rfl, rfl⟩
    | succ m ih =>
      intro c ⟨c', hc', i, hi, he⟩
      obtain ⟨b, hb, rfl, hr⟩ := ih c' hc'
      have hdiv : 64 * b / 64 = b := by omega
      have hz : 64 * b % 64 = 0 := by omega
      have hp : pj 0 (64 * b) = 64 * b := by rw [e0, hdiv]
      rw [← hp] at he
      obtain ⟨h1, h2⟩ := edge_f (by rw [hdiv]; exact hb) he
      rw [edge_t hn (by rw [hdiv]; exact hb) h1 h2] at he
      rw [hdiv] at h2
      have hx := xor_ltn hb h1
      have hx6 : b ^^^ 2 ^ i < 64 := Nat.lt_of_lt_of_le hx (Nat.pow_le_pow_right (by decide) hn)
      rw [e0, hdiv, hz, Nat.zero_or, show (64 * (b ^^^ 2 ^ i) + (b ^^^ 2 ^ i)) / 64 = b ^^^ 2 ^ i by omega] at he
      exact ⟨b ^^^ 2 ^ i, hx, Option.some.inj he, b, hr, i, h1, edW_t h2⟩
  refine IsW.map (fun m b hb hw => ?_) (fun m c hc hw => ?_) h
  · have hw : b = to := hw
    refine ⟨64 * b, (fwd m b hb).2, ?_⟩
    show 64 * b / 64 = to
    omega
  · obtain ⟨b, h1, rfl, h3⟩ := bwd m c hc
    have hw : 64 * b / 64 = to := hw
    exact ⟨b, h3, by show b = to; omega⟩
/-- what the class's two searches answer -/
theorem find_to {n st to : Nat} {kd fg : Nat → Nat} (hn : n ≤ 6) (hst : st < 2 ^ n) : DS n kd fg st to (optI (findQ (maW n kd fg) 0 (fun q => q.1 == to) 729 0 [(st, st &&& 0, 0)])) := by
  have h64 : st < 64 := Nat.lt_of_lt_of_le hst (Nat.pow_le_pow_right (by decide) hn)
  exact DS_of hn hst (BI.find (by decide) (fun q hq => by rw [cd_1 hq]; exact beq_iff_eq) 729 0 _ (BI.start h64 (by decide)) (fun j q hj => absurd hj (Nat.not_lt_zero _)) (by omega))
theorem find_had {n o told : Nat} {kd fg : Nat → Nat} (hn : n ≤ 6) (ho : o < 2 ^ n) (ht : told < 64) : HAD n o kd fg told (optI (findQ (maW n kd fg) told (fun q => q.2.1 == told) 729 0 [(o, o &&& told, 0)])) := by
  have h64 : o < 64 := Nat.lt_of_lt_of_le ho (Nat.pow_le_pow_right (by decide) hn)
  exact HAD_of hn ho (BI.find ht (fun q hq => by rw [cd_2 hq]; exact beq_iff_eq) 729 0 _ (BI.start h64 ht) (fun j q hj => absurd hj (Nat.not_lt_zero _)) (by omega))
