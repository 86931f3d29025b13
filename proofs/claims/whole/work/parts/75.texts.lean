/-! ===== two by turns; texts by a machine of states; a row into another ===== -/
def wbU (kd fg : Nat → Nat) (L : Nat → Bool) (fi : Bool) (st : Nat) : Nat → Bool
  | 0 => L st
  | k + 1 => if mv (kd k) (fg k) k st = true then (if fi = true then wbU kd fg L fi st k || L (st ^^^ 2 ^ k) else wbU kd fg L fi st k && L (st ^^^ 2 ^ k)) else wbU kd fg L fi st k
section WB
variable {kd fg : Nat → Nat} {L : Nat → Bool} {fi : Bool} {st k : Nat}
theorem wbU_f (h : mv (kd k) (fg k) k st = false) : wbU kd fg L fi st (k + 1) = wbU kd fg L fi st k := by
  show (if mv (kd k) (fg k) k st = true then _ else _) = _
  rw [h]
  rfl
theorem wbU_t (h : mv (kd k) (fg k) k st = true) : wbU kd fg L fi st (k + 1) = if fi = true then wbU kd fg L fi st k || L (st ^^^ 2 ^ k) else wbU kd fg L fi st k && L (st ^^^ 2 ^ k) := if_pos h
theorem wbU_1 (h : mv (kd k) (fg k) k st = true) (hf : fi = true) : wbU kd fg L fi st (k + 1) = (wbU kd fg L fi st k || L (st ^^^ 2 ^ k)) := by rw [wbU_t h, if_pos hf]
theorem wbU_2 (h : mv (kd k) (fg k) k st = true) (hf : fi = false) : wbU kd fg L fi st (k + 1) = (wbU kd fg L fi st k && L (st ^^^ 2 ^ k)) := by
  rw [wbU_t h, hf]
  rfl
theorem wbU_iff : ∀ k, wbU kd fg L fi st k = fi ↔ (L st = fi ∨ ∃ i, i < k ∧ mv (kd i) (fg i) i st = true ∧ L (st ^^^ 2 ^ i) = fi) := by
  intro k
  induction k with
  | zero => exact ⟨Or.inl, fun h => h.elim id (fun ⟨i, hi, _⟩ => absurd hi (Nat.not_lt_zero i))⟩
  | succ k ih =>
    have up : (∃ i, i < k + 1 ∧ mv (kd i) (fg i) i st = true ∧ L (st ^^^ 2 ^ i) = fi) ↔ ((∃ i, i < k ∧ mv (kd i) (fg i) i st = true ∧ L (st ^^^ 2 ^ i) = fi) ∨ (mv (kd k) (fg k) k st = true ∧ L (st ^^^ 2 ^ k) = fi)) := by
      constructor
      · rintro ⟨i, h1, h2, h3⟩
        by_cases e : i = k
        · subst e; exact Or.inr ⟨h2, h3⟩
        · exact Or.inl ⟨i, by omega, h2, h3⟩
      · rintro (⟨i, h1, h2, h3⟩ | ⟨h2, h3⟩)
        · exact ⟨i, by omega, h2, h3⟩
        · exact ⟨k, by omega, h2, h3⟩
    rw [up, ← or_assoc, ← ih]
    cases hm : mv (kd k) (fg k) k st with
    | false =>
      rw [wbU_f hm]
      exact ⟨Or.inl, fun h => h.elim id (fun h => by cases h.1)⟩
    | true =>
      cases fi with
      | true =>
        rw [wbU_1 hm rfl, Bool.or_eq_true]
        exact ⟨fun h => h.imp id (fun h => ⟨rfl, h⟩), fun h => h.imp id (fun h => h.2)⟩
      | false =>
        rw [wbU_2 hm rfl, Bool.and_eq_false_iff]
        exact ⟨fun h => h.imp id (fun h => ⟨rfl, h⟩), fun h => h.imp id (fun h => h.2)⟩
end WB
theorem can_step {n d t st : Nat} {kd fg : Nat → Nat} {L : Nat → Bool} {m : Bool} (hL : ∀ z, z < 2 ^ n → L z = canU n kd fg d t z (!m)) (hst : st < 2 ^ n) : wbU kd fg L m st n = canU n kd fg d (t + 1) st m := by
  have key := wbU_iff (kd := kd) (fg := fg) (L := L) (fi := m) (st := st) n
  by_cases h : wbU kd fg L m st n = m
  · rw [h]
    rcases key.mp h with h1 | ⟨i, hi, hm, h1⟩
    · rw [hL st hst] at h1
      exact (canU_a h1).symm
    · rw [hL _ (xor_ltn hst hi)] at h1
      exact (canU_b hi hm h1).symm
  · have h1 : ¬ canU n kd fg d t st (!m) = m := fun q => h (key.mpr (Or.inl (by rw [hL st hst]; exact q)))
    have h2 : ∀ i, i < n → mv (kd i) (fg i) i st = true → ¬ canU n kd fg d t (st ^^^ 2 ^ i) (!m) = m := fun i hi hm q => h (key.mpr (Or.inr ⟨i, hi, hm, by rw [hL _ (xor_ltn hst hi)]; exact q⟩))
    rw [canU_c h1 h2]
    cases hw : wbU kd fg L m st n <;> cases m <;> first | rfl | exact absurd hw h
theorem bs_t {f : Nat → Bool} {z q : Nat} (h : f z = true) : ((decide (q < z) && f q) || decide (q = z)) = (decide (q < z + 1) && f q) := by
  by_cases e : q = z
  · subst e
    rw [decide_eq_true (show q = q from rfl), Bool.or_true, decide_eq_true (Nat.lt_succ_self q), h]
    rfl
  · rw [decide_eq_false e, Bool.or_false]
    congr 1
    rw [decide_eq_decide]
    omega
theorem bs_f {f : Nat → Bool} {z q : Nat} (h : f z = false) : (decide (q < z) && f q) = (decide (q < z + 1) && f q) := by
  by_cases e : q = z
  · subst e
    rw [h, Bool.and_false, Bool.and_false]
  · congr 1
    rw [decide_eq_decide]
    omega
theorem dec_i (x : Int32) : x + (-1) = x - nI 1 := by
  rw [Int32.sub_eq_add_neg]
  rfl
theorem spGame_t {n o i t : Nat} {kd fg : Nat → Nat} (hn : n ≤ 6) (hi : i < n) (ht : t < 6) : spGame n o kd fg (nI i) (nI t) = b2i (canU n kd fg i t o true) := by
  unfold spGame
  rw [inB_j (by omega) hi, inB_j (by omega) ht, nI_clamp (by omega), nI_clamp (by omega)]
  rfl
theorem spGame_f {n o : Nat} {kd fg : Nat → Nat} {d t : Int32} (h : inB n d = false ∨ inB 6 t = false) : spGame n o kd fg d t = -1 := by
  unfold spGame
  rcases h with h | h
  · rw [h]; rfl
  · rw [h, Bool.and_false]; rfl
/-- what is wanted behind a byte -/
def wB (w : Nat) (v : Int32) : Nat := match w with
  | 0 => if v = nI 100 then 1 else if v = nI 111 ∨ v = nI 115 ∨ v = nI 112 then 2 else 4
  | 1 => if inQ 48 57 v = true then 2 else 4
  | 2 => if inQ 48 57 v = true then 3 else 4
  | _ => if v = nI 59 then 0 else 4
section WBS
variable {v : Int32}
theorem wB_d (h : v = nI 100) : wB 0 v = 1 := if_pos h
theorem wB_o (h0 : ¬ v = nI 100) (h : v = nI 111 ∨ v = nI 115 ∨ v = nI 112) : wB 0 v = 2 := by
  show (if v = nI 100 then 1 else if v = nI 111 ∨ v = nI 115 ∨ v = nI 112 then 2 else 4) = 2
  rw [if_neg h0, if_pos h]
theorem wB_n (h0 : ¬ v = nI 100) (h : ¬ (v = nI 111 ∨ v = nI 115 ∨ v = nI 112)) : wB 0 v = 4 := by
  show (if v = nI 100 then 1 else if v = nI 111 ∨ v = nI 115 ∨ v = nI 112 then 2 else 4) = 4
  rw [if_neg h0, if_neg h]
theorem wB_1t (h : inQ 48 57 v = true) : wB 1 v = 2 := if_pos h
theorem wB_1f (h : inQ 48 57 v = false) : wB 1 v = 4 := by
  show (if inQ 48 57 v = true then 2 else 4) = 4
  rw [h]
  rfl
theorem wB_2t (h : inQ 48 57 v = true) : wB 2 v = 3 := if_pos h
theorem wB_2f (h : inQ 48 57 v = false) : wB 2 v = 4 := by
  show (if inQ 48 57 v = true then 3 else 4) = 4
  rw [h]
  rfl
theorem wB_3t (h : v = nI 59) : wB 3 v = 0 := if_pos h
theorem wB_3f (h : ¬ v = nI 59) : wB 3 v = 4 := if_neg h
theorem wB_le (w : Nat) (v : Int32) : wB w v ≤ 4 := by
  unfold wB
  split
  · split
    · decide
    · split <;> decide
  · split <;> decide
  · split <;> decide
  · split <;> decide
end WBS
def wst (f : Nat → Int32) : Nat → Nat
  | 0 => 0
  | i + 1 => wB (wst f i) (f i)
theorem wst_s {f : Nat → Int32} {i w : Nat} (h : wst f i = w) : wst f (i + 1) = wB w (f i) := by rw [← h]; rfl
theorem rdD_w {f : Nat → Int32} {sz : Nat} : ∀ (k p : Nat), k ≤ 2 → p ≤ sz → wst f p = 3 - k → p ≤ (rdD f sz k p).2 ∧ (rdD f sz k p).2 ≤ sz ∧ (∀ j, p ≤ j → j ≤ (rdD f sz k p).2 → wst f j < 4 ∧ ¬ wst f j = 0) ∧ ((rdD f sz k p).1 = true → wst f (rdD f sz k p).2 = 3) ∧ ((rdD f sz k p).1 = false → (rdD f sz k p).2 < sz → wst f ((rdD f sz k p).2 + 1) = 4) := by
  intro k
  induction k with
  | zero =>
    intro p _ hp hw
    refine ⟨Nat.le_refl p, hp, fun j h1 h2 => ?_, fun _ => hw, fun h => by cases h⟩
    have e : j = p := Nat.le_antisymm h2 h1
    rw [e, hw]
    decide
  | succ k ih =>
    intro p hk hp hw
    have here : ∀ j, p ≤ j → j ≤ p → wst f j < 4 ∧ ¬ wst f j = 0 := fun j h1 h2 => by
      have e : j = p := Nat.le_antisymm h2 h1
      rw [e, hw]
      omega
    by_cases c : inQ 48 57 (rdC f sz p) = true
    · obtain ⟨c1, c2⟩ := rd_dg c
      rw [rdD_t c]
      rw [c2] at c
      have hw2 : wst f (p + 1) = 3 - k := by
        rw [wst_s hw]
        have hk2 : k = 0 ∨ k = 1 := by omega
        rcases hk2 with rfl | rfl
        · exact wB_2t c
        · exact wB_1t c
      obtain ⟨g1, g2, g3, g4, g5⟩ := ih (p + 1) (by omega) (by omega) hw2
      refine ⟨by omega, g2, fun j h1 h2 => ?_, g4, g5⟩
      by_cases e : j = p
      · exact here j h1 (by omega)
      · exact g3 j (by omega) h2
    · have c0 : inQ 48 57 (rdC f sz p) = false := by simpa using c
      rw [rdD_f c0]
      refine ⟨Nat.le_refl p, hp, here, fun h => (by cases h), fun _ h => ?_⟩
      have h : p < sz := h
      rw [rdC_t h] at c0
      show wst f (p + 1) = 4
      rw [wst_s hw]
      have hk2 : k = 0 ∨ k = 1 := by omega
      rcases hk2 with rfl | rfl
      · exact wB_2f c0
      · exact wB_1f c0
theorem rdS_w {f : Nat → Int32} {sz p : Nat} (hp : p ≤ sz) (hw : wst f p = 0) : p ≤ (rdS f sz p).2 ∧ (rdS f sz p).2 ≤ sz ∧ (∀ j, p ≤ j → j ≤ (rdS f sz p).2 → wst f j < 4) ∧ ((rdS f sz p).1 = true → wst f (rdS f sz p).2 = 0) ∧ ((rdS f sz p).1 = false → ((rdS f sz p).2 < sz → wst f ((rdS f sz p).2 + 1) = 4) ∧ ((rdS f sz p).2 = p ∨ ¬ wst f (rdS f sz p).2 = 0)) := by
  have here : ∀ j, p ≤ j → j ≤ p → wst f j < 4 := fun j h1 h2 => by
    have e : j = p := Nat.le_antisymm h2 h1
    rw [e, hw]
    decide
  by_cases c : manyC (rdC f sz p) = 0
  · rw [rdS_0 c]
    refine ⟨Nat.le_refl p, hp, here, fun h => (by cases h), fun _ => ⟨fun h => ?_, Or.inl rfl⟩⟩
    have h : p < sz := h
    rw [rdC_t h] at c
    show wst f (p + 1) = 4
    rw [wst_s hw]
    unfold manyC at c
    by_cases h1 : f p = nI 100
    · rw [if_pos h1] at c
      cases c
    · rw [if_neg h1] at c
      by_cases h2 : f p = nI 111 ∨ f p = nI 115 ∨ f p = nI 112
      · rw [if_pos h2] at c
        cases c
      · exact wB_n h1 h2
  · have hlt := many_lt c
    have e := rdC_t (f := f) hlt
    rw [e] at c
    obtain ⟨m, hm, hm2, hw1⟩ : ∃ m, manyC (f p) = m + 1 ∧ m + 1 ≤ 2 ∧ wst f (p + 1) = 3 - (m + 1) := by
      by_cases h1 : f p = nI 100
      · refine ⟨1, ?_, by decide, ?_⟩
        · unfold manyC
          rw [if_pos h1]
        · rw [wst_s hw, wB_d h1]
      · by_cases h2 : f p = nI 111 ∨ f p = nI 115 ∨ f p = nI 112
        · refine ⟨0, ?_, by decide, ?_⟩
          · unfold manyC
            rw [if_neg h1, if_pos h2]
          · rw [wst_s hw, wB_o h1 h2]
        · unfold manyC at c
          rw [if_neg h1, if_neg h2] at c
          exact absurd rfl c
    rw [rdS_m (m := m) (by rw [e]; exact hm)]
    obtain ⟨g1, g2, g3, g4, g5⟩ := rdD_w (f := f) (sz := sz) (m + 1) (p + 1) hm2 (by omega) hw1
    cases d : (rdD f sz (m + 1) (p + 1)).1 with
    | false =>
      rw [rdE_n d]
      refine ⟨by omega, g2, fun j h1 h2 => ?_, fun h => (by rw [d] at h; cases h), fun _ => ⟨g5 d, Or.inr (g3 _ g1 (Nat.le_refl _)).2⟩⟩
      by_cases e : j = p
      · exact here j h1 (by omega)
      · exact (g3 j (by omega) h2).1
    | true =>
      have h3 := g4 d
      by_cases c2 : rdC f sz (rdD f sz (m + 1) (p + 1)).2 = nI 59
      · have hlt2 : (rdD f sz (m + 1) (p + 1)).2 < sz := by
          by_cases q : (rdD f sz (m + 1) (p + 1)).2 < sz
          · exact q
          · rw [rdC_f q] at c2
            exact absurd c2 (by decide +kernel)
        rw [rdE_t d c2]
        rw [rdC_t hlt2] at c2
        have hz : wst f ((rdD f sz (m + 1) (p + 1)).2 + 1) = 0 := by rw [wst_s h3]; exact wB_3t c2
        refine ⟨by show p ≤ _ + 1; omega, hlt2, fun j h1 h2 => ?_, fun _ => hz, fun h => (by cases h)⟩
        have h2 : j ≤ (rdD f sz (m + 1) (p + 1)).2 + 1 := h2
        by_cases e : j = p
        · exact here j h1 (by omega)
        · by_cases e2 : j = (rdD f sz (m + 1) (p + 1)).2 + 1
          · rw [e2, hz]
            decide
          · exact (g3 j (by omega) (by omega)).1
      · rw [rdE_f d c2]
        refine ⟨by show p ≤ _; omega, g2, fun j h1 h2 => ?_, fun h => (by cases h), fun _ => ⟨fun h => ?_, Or.inr (g3 _ g1 (Nat.le_refl _)).2⟩⟩
        · have h2 : j ≤ (rdD f sz (m + 1) (p + 1)).2 := h2
          by_cases e : j = p
          · exact here j h1 (by omega)
          · exact (g3 j (by omega) h2).1
        · have h : (rdD f sz (m + 1) (p + 1)).2 < sz := h
          rw [rdC_t h] at c2
          show wst f ((rdD f sz (m + 1) (p + 1)).2 + 1) = 4
          rw [wst_s h3]
          exact wB_3f c2
theorem p1_brk {f : Nat → Int32} {sz : Nat} : ∀ (fu p k : Nat), wst f p = 0 → sz ≤ p + fu → p ≤ sz →
    (∃ q, p1 f sz (fu + 1) p k = .inl q ∧ p ≤ q ∧ q ≤ sz ∧ (∀ j, p ≤ j → j ≤ q → wst f j < 4) ∧ (q < sz → wst f (q + 1) = 4) ∧ (q = p ∨ ¬ wst f q = 0 ∨ q < sz)) ∨ (∃ K, p1 f sz (fu + 1) p k = .inr K ∧ p < sz ∧ wst f sz = 0 ∧ ∀ j, p ≤ j → j ≤ sz → wst f j < 4) := by
  intro fu
  induction fu with
  | zero =>
    intro p k hw hf hp
    have e : p = sz := by omega
    left
    have hS : rdS f sz p = (false, p) := rdS_0 (by rw [rdC_f (by omega)]; exact many_k)
    refine ⟨p, by rw [p1_f (by rw [hS]), hS], Nat.le_refl p, hp, fun j h1 h2 => ?_, fun h => absurd h (by omega), Or.inl rfl⟩
    have e2 : j = p := Nat.le_antisymm h2 h1
    rw [e2, hw]
    decide
  | succ fu ih =>
    intro p k hw hf hp
    obtain ⟨g1, g2, g3, g4, g5⟩ := rdS_w (f := f) (sz := sz) hp hw
    cases d : (rdS f sz p).1 with
    | false =>
      left
      obtain ⟨g6, g7⟩ := g5 d
      refine ⟨(rdS f sz p).2, p1_f d, g1, g2, g3, g6, ?_⟩
      rcases g7 with g7 | g7
      · exact Or.inl g7
      · exact Or.inr (Or.inl g7)
    | true =>
      have h0 := g4 d
      have hok := rdS_ok d
      by_cases c : (rdS f sz p).2 < sz
      · rw [p1_t d c]
        rcases ih (rdS f sz p).2 (k + 1) h0 (by omega) g2 with ⟨q, a1, a2, a3, a4, a5, a6⟩ | ⟨K, a1, a2, a3, a4⟩
        · left
          refine ⟨q, a1, by omega, a3, fun j h1 h2 => ?_, a5, ?_⟩
          · by_cases e : j ≤ (rdS f sz p).2
            · exact g3 j h1 e
            · exact a4 j (by omega) h2
          · rcases a6 with a6 | a6
            · exact Or.inr (Or.inr (by omega))
            · exact Or.inr a6
        · right
          refine ⟨K, a1, by omega, a3, fun j h1 h2 => ?_⟩
          by_cases e : j ≤ (rdS f sz p).2
          · exact g3 j h1 e
          · exact a4 j (by omega) h2
      · rw [p1_e d c]
        right
        have e : (rdS f sz p).2 = sz := by omega
        rw [e] at h0 g3
        exact ⟨k + 1, rfl, hok.1, h0, g3⟩
def brI (r : Nat ⊕ Nat) : Int32 := match r with
  | .inl q => nI q
  | .inr _ => -4
theorem brk_A {f : Nat → Int32} {sz i : Nat} (hi : i < sz) (hno : ∀ q, q ≤ i → wst f q < 4) (h4 : wst f (i + 1) = 4) : p1 f sz (sz + 1) 0 0 = .inl i := by
  rcases p1_brk (f := f) (sz := sz) sz 0 0 rfl (by omega) (Nat.zero_le _) with ⟨q, a1, a2, a3, a4, a5, a6⟩ | ⟨K, a1, a2, a3, a4⟩
  · rw [a1]
    by_cases c : q < i
    · have := a5 (by omega)
      have := hno (q + 1) (by omega)
      omega
    · by_cases c2 : i < q
      · have := a4 (i + 1) (Nat.zero_le _) (by omega)
        omega
      · rw [show q = i by omega]
  · have := a4 (i + 1) (Nat.zero_le _) (by omega)
    omega
theorem brk_B {f : Nat → Int32} {sz : Nat} (hno : ∀ q, q ≤ sz → wst f q < 4) (h0 : wst f sz = 0) (hs : 0 < sz) : ∃ K, p1 f sz (sz + 1) 0 0 = .inr K := by
  rcases p1_brk (f := f) (sz := sz) sz 0 0 rfl (by omega) (Nat.zero_le _) with ⟨q, a1, a2, a3, a4, a5, a6⟩ | ⟨K, a1, a2, a3, a4⟩
  · by_cases c : q < sz
    · have := a5 c
      have := hno (q + 1) (by omega)
      omega
    · have e : q = sz := by omega
      rw [e] at a6
      rcases a6 with a6 | a6 | a6
      · omega
      · exact absurd h0 a6
      · omega
  · exact ⟨K, a1⟩
theorem brk_C {f : Nat → Int32} {sz : Nat} (hno : ∀ q, q ≤ sz → wst f q < 4) (h : ¬ wst f sz = 0 ∨ sz = 0) : p1 f sz (sz + 1) 0 0 = .inl sz := by
  rcases p1_brk (f := f) (sz := sz) sz 0 0 rfl (by omega) (Nat.zero_le _) with ⟨q, a1, a2, a3, a4, a5, a6⟩ | ⟨K, a1, a2, a3, a4⟩
  · rw [a1]
    by_cases c : q < sz
    · have := a5 c
      have := hno (q + 1) (by omega)
      omega
    · rw [show q = sz by omega]
  · rcases h with h | h
    · exact absurd a3 h
    · omega
theorem p1_q {f : Nat → Int32} {sz q : Nat} (h : p1 f sz (sz + 1) 0 0 = .inl q) : q ≤ sz := by
  rcases p1_brk (f := f) (sz := sz) sz 0 0 rfl (by omega) (Nat.zero_le _) with ⟨q2, a1, a2, a3, a4, a5, a6⟩ | ⟨K, a1, a2, a3, a4⟩
  · rw [a1] at h
    cases h
    exact a3
  · rw [a1] at h
    cases h
theorem p1_r2 {f : Nat → Int32} {sz fu p k K : Nat} (h : p1 f sz fu p k = .inr K) : (rdS f sz p).1 = true ∧ ((rdS f sz p).2 < sz → ∃ fu', p1 f sz fu' (rdS f sz p).2 (k + 1) = .inr K) ∧ (¬ (rdS f sz p).2 < sz → K = k + 1) := by
  cases fu with
  | zero => cases h
  | succ fu =>
    cases e : (rdS f sz p).1 with
    | false =>
      rw [p1_f e] at h
      cases h
    | true =>
      refine ⟨rfl, fun h2 => ?_, fun h2 => ?_⟩
      · rw [p1_t e h2] at h
        exact ⟨fu, h⟩
      · rw [p1_e e h2] at h
        cases h
        rfl
theorem dig_59 {v : Int32} (h : inQ 48 57 v = true) : ¬ v = nI 59 := by
  intro q
  rw [q] at h
  exact absurd h (by decide +kernel)
theorem let_59 {v : Int32} (h : ¬ manyC v = 0) : ¬ v = nI 59 := by
  intro q
  rw [q] at h
  exact h (by decide +kernel)
/-- the only ; of a statement is its last byte -/
theorem semi {f : Nat → Int32} {sz p j : Nat} (h : (rdS f sz p).1 = true) (h1 : p ≤ j) (h2 : j < (rdS f sz p).2) (h3 : f j = nI 59) : (rdS f sz p).2 = j + 1 := by
  obtain ⟨g1, g2, g3, g4, g5, g6⟩ := rdS_ok h
  by_cases e : j = p
  · rw [e] at h3
    exact absurd h3 (let_59 g2)
  · by_cases c : j < p + 1 + manyC (f p)
    · have := g5 (j - (p + 1)) (by omega)
      rw [show p + 1 + (j - (p + 1)) = j by omega] at this
      exact absurd h3 (dig_59 this)
    · omega
theorem semi_n {f : Nat → Int32} {sz p j : Nat} (h : (rdS f sz p).1 = true) (h1 : p ≤ j) (h2 : j < (rdS f sz p).2) (h3 : ¬ f j = nI 59) : j + 1 < (rdS f sz p).2 := by
  obtain ⟨g1, g2, g3, g4, g5, g6⟩ := rdS_ok h
  by_cases e : j + 1 = (rdS f sz p).2
  · rw [g3] at e
    rw [show p + 1 + manyC (f p) = j by omega] at g6
    exact absurd g6 h3
  · omega
section CPY
variable {x : Nat → Sf} {cA : Nat → ClassId} {pool : va_W} {dk rk : Nat → Option Nat} {P : Nat → Nat}
theorem hn_n {a : Nat} (ha : a < 8) (h : hnB (sfA x (nI a)) = true) : x a = none := by
  rw [sfA_j x ha] at h
  cases e : x a with
  | none => rfl
  | some v =>
    rw [e] at h
    cases h
theorem hn_s {a : Nat} (ha : a < 8) (h : hnB (sfA x (nI a)) = false) : ∃ v, x a = some v := by
  rw [sfA_j x ha] at h
  cases e : x a with
  | none =>
    rw [e] at h
    cases h
  | some v => exact ⟨v, rfl⟩
theorem rk_n {a : Nat} (hX : SX cA pool dk rk x P) (ha : a < 8) (h : hnB (sfA x (nI a)) = false) (h2 : none = shA rk (nI a)) : ∃ u, x a = some (.inl u) := by
  obtain ⟨v, hv⟩ := hn_s ha h
  cases v with
  | inl u => exact ⟨u, hv⟩
  | inr z =>
    have h1 := hX.1 a ha
    rw [hv] at h1
    obtain ⟨-, r, arr, qr, h3, -⟩ := h1
    rw [shA_j rk ha, h3] at h2
    cases h2
theorem shR_a {a b : Nat} (hX : SX cA pool dk rk x P) (ha : a < 8) (h : some b = shA rk (nI a)) : ∃ (z : Nat × Nat × (Nat → Int32)) (arr qr : Nat), x a = some (.inr z) ∧ RW cA pool b arr qr (P a) z.1 z.2.1 z.2.2 ∧ some b = rk a := by
  obtain ⟨j, z, arr, qr, hj, e, hx, hR⟩ := shR_s hX h
  obtain rfl : a = j := (nI_eq (by omega) (by omega)).mp e
  exact ⟨z, arr, qr, hx, hR, h.trans (shA_j rk ha)⟩
end CPY
section COPYI
variable {p : Program} {l : Launch} {e : Env} {R : Room} {s : State} {m : MethodId} {args : Array Value} {below : List Frame} {meth : Method} {c : Code} {H H0 : Heap} {locs : List Loc} {cells slots : Nat} {Q : State → Prop}
variable {cc : ByteArray} {pc nL : Nat} {ls : Array Slot} {rest : List Value} {D : va_G} {cA : Nat → ClassId} {A : Nat → Prop} {a a0 : Nat} {ws : va_W} {Ts : List Cond} {own : String}
theorem k_copyi (hF : CallFix p m c cc nL s args Ts own) (hK : KK D cA s) (hG : Gd D A ws H0 H locs) (hml : c.maxLocals = ls.size) {index : Nat} (hlink : Cond.methodLink own index arraycopyName ∈ Ts) (hnat : Cond.native arraycopyName ∈ Ts) (hstat : Cond.static arraycopyName ∈ Ts) (hini : Cond.initialized "java/lang/System" ∈ Ts)
    (q0 q1 : Nat) {n0 n1 I J N : Nat} {f g : Nat → Int32} (ha0 : ws[q0]? = some (a0, .inl (cA 0, n0, .inl f))) (ha1 : ws[q1]? = some (a, .inl (cA 0, n1, .inl g))) (h0 : I + N ≤ n0) (h1 : J + N ≤ n1) (hn0 : n0 ≤ 100) (hn1 : n1 ≤ 100)
    (hframes : 1 ≤ R.frames) (hlocals : (rest.map fun v => v.category).sum + (nativeFrameWords "java/lang/System" "arraycopy" 5 + 11) ≤ R.locals) (hdg : decode cc pc = .ok (.invokestatic index, 3))
    (kk : ∀ (H1 : Heap) (locs1 : List Loc), Gd D A (ws.set q1 (a, .inl (cA 0, n1, .inl (va_cpy f g I J N)))) H0 H1 locs1 → W p l e R s m args below meth c H1 locs1 cells slots Q (F0 m (pc + 3) ls rest)) : W p l e R s m args below meth c H locs cells slots Q (F0 m pc ls (.int (nI N) :: .int (nI J) :: .ref a :: .int (nI I) :: .ref a0 :: rest)) := by
  refine va_copyi hF.1 hF.2.1 hml hF.2.2.2.1 (hF.2.2.2.2 _ hlink) (hF.2.2.2.2 _ hnat) (hF.2.2.2.2 _ hstat) (hF.2.2.2.2 _ hini) hK.1 hG.1 hG.2.1 hG.2.2 q0 q1 0 0 ha0 ha1 rfl rfl rfl (nI_pos (by omega)) (nI_pos (by omega)) (nI_pos (by omega)) (by rw [nI_clamp (by omega), nI_clamp (by omega)]; exact h0) (by rw [nI_clamp (by omega), nI_clamp (by omega)]; exact h1) (fun _ _ => rfl) hframes hlocals hdg (fun H1 locs1 hP hD hS => ?_)
  rw [nI_clamp (by omega), nI_clamp (by omega), nI_clamp (by omega)] at hP hD
  exact kk H1 locs1 ⟨hP, hD, hS⟩
end COPYI
theorem many_p {c : Int32} (h : ¬ manyC c = 0) (h1 : ¬ c = nI 100) (h2 : ¬ c = nI 111) (h3 : ¬ c = nI 115) : c = nI 112 := by
  unfold manyC at h
  rw [if_neg h1] at h
  by_cases q : c = nI 111 ∨ c = nI 115 ∨ c = nI 112
  · rcases q with q | q | q
    · exact absurd q h2
    · exact absurd q h3
    · exact q
  · rw [if_neg q] at h
    exact absurd rfl h
abbrev rmX11_wonBefore : Room := { frames := 4, cells := 0, slots := 0, locals := 89 }
set_option maxHeartbeats 4000000 in
set_option maxRecDepth 100000 in
theorem c_X11_wonBefore {l : Launch} {D : va_G} {cA : Nat → ClassId} {A : Nat → Prop}  {ob : Nat → Nat} {mb ss sh sp : Nat → Int32} {mt : Nat → Int64} {rc n o : Nat} {dr : Nat → Option Nat} {n1 o1 : Nat} {dr1 : Nat → Option Nat} {n2 o2 : Nat} {dr2 dk rk : Nat → Option Nat} {kt : Nat → Int32} {tk : Int32} {pool : va_W} {kd fg : Nat → Nat} (hI : WI pool n o dr kd fg) {won : Int64} {fi : Bool} : Met l yX11_wonBefore wsX11_wonBefore rmX11_wonBefore (va_Pc [.ref (ob 6), .long won, .int (b2i (fi))] (Pre D cA A (XW cA ob mb ss sh sp mt rc n o dr n1 o1 dr1 n2 o2 dr2 dk rk kt tk pool))) (va_Ql (fun r _ => ∀ z, z < 2 ^ n → lb r z = wbU kd fg (lb won) fi z n) (fun u t => Wd D A ((fun (_ : Unit) => XW cA ob mb ss sh sp mt rc n o dr n1 o1 dr1 n2 o2 dr2 dk rk kt tk pool) u) t) A) (0) (0) A := by
  refine k_ofl (S := Unit) (F := fun (_ : Unit) => XW cA ob mb ss sh sp mt rc n o dr n1 o1 dr1 n2 o2 dr2 dk rk kt tk pool) (cc := cX11_wonBefore) (maxL := 10) (by decide) rfl (Nat.le_of_ble_eq_true rfl) ?_
  intro p e s m args below meth c Q hF hini hK hA hG hret ls hl
  have hl : lv_has ls 10 [(0, .ref (ob 6)), (1, .long won), (3, .int (b2i (fi)))] := hl
  have hn : n ≤ 6 := hI.1
  have ho : o < 64 := hI.o64
  have hp2 : 2 ^ n ≤ 64 := Nat.pow_le_pow_right (by decide) hn
  have hp1 : 1 ≤ 2 ^ n := Nat.one_le_two_pow
  refine lv_lconst (v := 0) hF.1 hF.2.1 dX11_wonBefore_0 (by decide +kernel) ?_
  refine lv_lstore (lv' := [(4, .long (0)), (0, .ref (ob 6)), (1, .long won), (3, .int (b2i (fi)))]) hF.1 hF.2.1 dX11_wonBefore_1 hl (by decide) rfl (fun ls hl => ?_)
  refine lv_iconst (v := (nI 0)) hF.1 hF.2.1 dX11_wonBefore_3 (by decide +kernel) ?_
  refine lv_istore (lv' := [(6, .int (nI 0)), (4, .long (0)), (0, .ref (ob 6)), (1, .long won), (3, .int (b2i (fi)))]) hF.1 hF.2.1 dX11_wonBefore_4 hl (by decide) rfl (fun ls hl => ?_)
  have lp6 : ∀ (fuel : Nat), ∀ (z_ : Nat) (be : Int64), (hz : z_ ≤ 2 ^ n) → (hbe : ∀ q, q < 64 → lb be q = (decide (q < z_) && wbU kd fg (lb won) fi q n)) → (2 ^ n - z_) < fuel → ∀ (H : Heap) (locs : List Loc), Gd D A (XW cA ob mb ss sh sp mt rc n o dr n1 o1 dr1 n2 o2 dr2 dk rk kt tk pool) s.heap H locs → ∀ ls : Array Slot, lv_has ls 10 [(0, .ref (ob 6)), (1, .long won), (3, .int (b2i (fi))), (4, .long be), (6, .int (nI z_))] → W p l e rmX11_wonBefore s m args below meth c H locs (0) (0) Q (F0 m 6 ls []) := by
    intro fuel
    induction fuel with
    | zero => intro z_ be hz hbe hmu; exact absurd hmu (Nat.not_lt_zero _)
    | succ fuel ih6 =>
      intro z_ be hz hbe hmu H locs hG ls hl
      refine lv_iload hF.1 hF.2.1 dX11_wonBefore_6 (lv_at hl 4 rfl) ?_
      refine lv_aload_n hF.1 hF.2.1 dX11_wonBefore_8 rfl (lv_at hl 0 rfl) ?_
      refine k_get (C := RX11) (T := TX11) (N := 8) hF hK hG (fun _ h => List.mem_cons_of_mem _ (List.mem_append_left _ (List.mem_append_left _ (List.mem_append_left _ (List.mem_append_left _ (List.mem_append_left _ (List.mem_append_left _ (List.mem_append_left _ (List.mem_append_left _ (List.mem_append_left _ (List.mem_append_right _ h))))))))))) 6 rfl rfl 0 (by decide) (List.mem_of_getElem? (i := 1) rfl) (fun _ h9 => h9) rfl dX11_wonBefore_9 ?_
      refine k_ci (r_V (As := []) hF hK hA hG (c_X9_allBits hI.w0) (cwV 0 hF.2.2.2.2 gX11_wonBefore_X9_allBits rfl rfl rfl (by decide +kernel) ⟨Nat.le_of_ble_eq_true rfl, Nat.le_of_ble_eq_true rfl⟩) 7 rfl rfl rfl rfl hl.1 rfl (lv_room (Nat.le_of_ble_eq_true rfl)) dX11_wonBefore_12 ⟨Nat.le_of_ble_eq_true rfl, Nat.le_of_ble_eq_true rfl⟩) hG (fun r_12 u_12 H locs hp_12 hG => ?_)
      subst hp_12
      refine lv_icmp_gt (tgt := 133) hF.1 hF.2.1 dX11_wonBefore_15 (by decide) (fun c_15 => ?_) (fun c_15 => ?_)
      · --
        have n_15 : 2 ^ n - 1 < z_ := (nI_ltI (a := 2 ^ n - 1) (b := z_) (by omega) (by omega)).mp c_15
        refine lv_lload hF.1 hF.2.1 dX11_wonBefore_133 (lv_at hl 3 rfl) ?_
        exact hret _ () _ ls _ _ _ _ (by intro z hz2; rw [hbe z (by omega), decide_eq_true (show z < z_ by omega)]; rfl) hG (Nat.le_of_ble_eq_true rfl) (Nat.le_of_ble_eq_true rfl) dX11_wonBefore_135
      · --
        have n_15 : ¬ (2 ^ n - 1 < z_) := fun zz9 => c_15 ((nI_ltI (a := 2 ^ n - 1) (b := z_) (by omega) (by omega)).mpr zz9)
        have hz64 : z_ < 64 := by omega
        refine lv_lload_n hF.1 hF.2.1 dX11_wonBefore_18 rfl (lv_at hl 1 rfl) ?_
        refine lv_iload hF.1 hF.2.1 dX11_wonBefore_19 (lv_at hl 4 rfl) ?_
        refine k_ci (r_S (As := [.long won, .int (nI z_)]) hF hK hA hG (c_X11_isAmong hz64) (cwS 2 hF.2.2.2.2 gX11_wonBefore_X11_isAmong rfl rfl rfl (by decide +kernel) ⟨Nat.le_of_ble_eq_true rfl, Nat.le_of_ble_eq_true rfl⟩) rfl hl.1 rfl (lv_room (Nat.le_of_ble_eq_true rfl)) dX11_wonBefore_21 ⟨Nat.le_of_ble_eq_true rfl, Nat.le_of_ble_eq_true rfl⟩) hG (fun r_21 u_21 H locs hp_21 hG => ?_)
        subst hp_21
        refine lv_istore (lv' := [(7, .int (b2i (lb won z_))), (0, .ref (ob 6)), (1, .long won), (3, .int (b2i (fi))), (4, .long be), (6, .int (nI z_))]) hF.1 hF.2.1 dX11_wonBefore_24 hl (by decide) rfl (fun ls hl => ?_)
        refine lv_iconst (v := (nI 0)) hF.1 hF.2.1 dX11_wonBefore_26 (by decide +kernel) ?_
        refine lv_istore (lv' := [(8, .int (nI 0)), (7, .int (b2i (lb won z_))), (0, .ref (ob 6)), (1, .long won), (3, .int (b2i (fi))), (4, .long be), (6, .int (nI z_))]) hF.1 hF.2.1 dX11_wonBefore_27 hl (by decide) rfl (fun ls hl => ?_)
        have lp29 : ∀ (fuel : Nat), ∀ (k : Nat), (hk : k ≤ n) → (n - k) < fuel → ∀ (H : Heap) (locs : List Loc), Gd D A (XW cA ob mb ss sh sp mt rc n o dr n1 o1 dr1 n2 o2 dr2 dk rk kt tk pool) s.heap H locs → ∀ ls : Array Slot, lv_has ls 10 [(0, .ref (ob 6)), (1, .long won), (3, .int (b2i (fi))), (4, .long be), (6, .int (nI z_)), (7, .int (b2i (wbU kd fg (lb won) fi z_ k))), (8, .int (nI k))] → W p l e rmX11_wonBefore s m args below meth c H locs (0) (0) Q (F0 m 29 ls []) := by
          intro fuel
          induction fuel with
          | zero => intro k hk hmu; exact absurd hmu (Nat.not_lt_zero _)
          | succ fuel ih29 =>
            intro k hk hmu H locs hG ls hl
            refine lv_iload hF.1 hF.2.1 dX11_wonBefore_29 (lv_at hl 6 rfl) ?_
            refine lv_aload_n hF.1 hF.2.1 dX11_wonBefore_31 rfl (lv_at hl 0 rfl) ?_
            refine k_get (C := RX11) (T := TX11) (N := 8) hF hK hG (fun _ h => List.mem_cons_of_mem _ (List.mem_append_left _ (List.mem_append_left _ (List.mem_append_left _ (List.mem_append_left _ (List.mem_append_left _ (List.mem_append_left _ (List.mem_append_left _ (List.mem_append_left _ (List.mem_append_left _ (List.mem_append_right _ h))))))))))) 6 rfl rfl 0 (by decide) (List.mem_of_getElem? (i := 1) rfl) (fun _ h9 => h9) rfl dX11_wonBefore_32 ?_
            refine k_get (C := RX9) (T := TX9) (N := 3) hF hK hG (fun _ h => List.mem_cons_of_mem _ (List.mem_append_left _ (List.mem_append_left _ (List.mem_append_left _ (List.mem_append_left _ (List.mem_append_left _ (List.mem_append_left _ (List.mem_append_left _ (List.mem_append_left _ (List.mem_append_right _ h)))))))))) 7 rfl rfl 1 (by decide) (List.mem_of_getElem? (i := 2) rfl) (fun _ h9 => h9) rfl dX11_wonBefore_35 ?_
            refine lv_icmp_ge (tgt := 113) hF.1 hF.2.1 dX11_wonBefore_38 (by decide) (fun c_38 => ?_) (fun c_38 => ?_)
            · --
              have n_38 : n ≤ k := (nI_leI (a := n) (b := k) (by omega) (by omega)).mp c_38
              have hkn : k = n := by omega
              refine lv_iload hF.1 hF.2.1 dX11_wonBefore_113 (lv_at hl 5 rfl) ?_
              refine lv_if_eq (tgt := 127) hF.1 hF.2.1 dX11_wonBefore_115 (by decide) (fun c_115 => ?_) (fun c_115 => ?_)
              · --
                have n_115 : (wbU kd fg (lb won) fi z_ k) = false := b2i_z.mp c_115
                rw [hkn] at n_115
                have hbe2 : ∀ q, q < 64 → lb be q = (decide (q < z_ + 1) && wbU kd fg (lb won) fi q n) := fun q hq => (hbe q hq).trans (bs_f (f := fun q => wbU kd fg (lb won) fi q n) n_115)
                refine lv_iinc (v := (nI (z_ + 1))) (lv' := [(6, .int (nI (z_ + 1))), (0, .ref (ob 6)), (1, .long won), (3, .int (b2i (fi))), (4, .long be), (7, .int (b2i (wbU kd fg (lb won) fi z_ k))), (8, .int (nI k))]) hF.1 hF.2.1 dX11_wonBefore_127 hl (k := 4) rfl (nI_inc _ _) (by decide) rfl (fun ls hl => ?_)
                refine lv_goto (tgt := 6) hF.1 hF.2.1 dX11_wonBefore_130 (by decide) ?_
                exact ih6 (z_ + 1) (_) (by omega) hbe2 (by omega) _ _ hG ls (lv_sub hl [1, 2, 3, 4, 0] rfl)
              · --
                have n_115 : (wbU kd fg (lb won) fi z_ k) = true := b2i_nz.mp c_115
                rw [hkn] at n_115
                refine lv_lload hF.1 hF.2.1 dX11_wonBefore_118 (lv_at hl 3 rfl) ?_
                refine lv_lconst (v := 1) hF.1 hF.2.1 dX11_wonBefore_120 (by decide +kernel) ?_
                refine lv_iload hF.1 hF.2.1 dX11_wonBefore_121 (lv_at hl 4 rfl) ?_
                refine lv_lshl hF.1 hF.2.1 dX11_wonBefore_123 rfl ?_
                refine lv_lor hF.1 hF.2.1 dX11_wonBefore_124 ?_
                have hbe2 : ∀ q, q < 64 → lb (be ||| (1 <<< ((nI z_).toInt64 &&& 63))) q = (decide (q < z_ + 1) && wbU kd fg (lb won) fi q n) := fun q hq => by rw [lb_or be hz64 hq, hbe q hq]; exact bs_t (f := fun q => wbU kd fg (lb won) fi q n) n_115
                refine lv_lstore (lv' := [(4, .long (be ||| ((1) <<< ((nI z_).toInt64 &&& 63)))), (0, .ref (ob 6)), (1, .long won), (3, .int (b2i (fi))), (6, .int (nI z_)), (7, .int (b2i (wbU kd fg (lb won) fi z_ k))), (8, .int (nI k))]) hF.1 hF.2.1 dX11_wonBefore_125 hl (by decide) rfl (fun ls hl => ?_)
                refine lv_iinc (v := (nI (z_ + 1))) (lv' := [(6, .int (nI (z_ + 1))), (4, .long (be ||| ((1) <<< ((nI z_).toInt64 &&& 63)))), (0, .ref (ob 6)), (1, .long won), (3, .int (b2i (fi))), (7, .int (b2i (wbU kd fg (lb won) fi z_ k))), (8, .int (nI k))]) hF.1 hF.2.1 dX11_wonBefore_127 hl (k := 4) rfl (nI_inc _ _) (by decide) rfl (fun ls hl => ?_)
                refine lv_goto (tgt := 6) hF.1 hF.2.1 dX11_wonBefore_130 (by decide) ?_
                exact ih6 (z_ + 1) (_) (by omega) hbe2 (by omega) _ _ hG ls (lv_sub hl [2, 3, 4, 1, 0] rfl)
            · --
              have n_38 : ¬ (n ≤ k) := fun zz9 => c_38 ((nI_leI (a := n) (b := k) (by omega) (by omega)).mpr zz9)
              refine lv_aload_n hF.1 hF.2.1 dX11_wonBefore_41 rfl (lv_at hl 0 rfl) ?_
              refine k_get (C := RX11) (T := TX11) (N := 8) hF hK hG (fun _ h => List.mem_cons_of_mem _ (List.mem_append_left _ (List.mem_append_left _ (List.mem_append_left _ (List.mem_append_left _ (List.mem_append_left _ (List.mem_append_left _ (List.mem_append_left _ (List.mem_append_left _ (List.mem_append_left _ (List.mem_append_right _ h))))))))))) 6 rfl rfl 0 (by decide) (List.mem_of_getElem? (i := 1) rfl) (fun _ h9 => h9) rfl dX11_wonBefore_42 ?_
              refine lv_iload hF.1 hF.2.1 dX11_wonBefore_45 (lv_at hl 6 rfl) ?_
              refine lv_iload hF.1 hF.2.1 dX11_wonBefore_47 (lv_at hl 4 rfl) ?_
              refine k_ci (r_V (As := [.int (nI k), .int (nI z_)]) hF hK hA hG (c_X9_may hI.w0 hz64) (cwV 2 hF.2.2.2.2 gX11_wonBefore_X9_may rfl rfl rfl (by decide +kernel) ⟨Nat.le_of_ble_eq_true rfl, Nat.le_of_ble_eq_true rfl⟩) 7 rfl rfl rfl rfl hl.1 rfl (lv_room (Nat.le_of_ble_eq_true rfl)) dX11_wonBefore_49 ⟨Nat.le_of_ble_eq_true rfl, Nat.le_of_ble_eq_true rfl⟩) hG (fun r_49 u_49 H locs hp_49 hG => ?_)
              subst hp_49
              refine lv_if_eq (tgt := 107) hF.1 hF.2.1 dX11_wonBefore_52 (by decide) (fun c_52 => ?_) (fun c_52 => ?_)
              · --
                have n_52 : (mayZ n kd fg (nI k) z_) = false := b2i_z.mp c_52
                rw [mayZ_t hn (show k < n by omega)] at n_52
                have hw : wbU kd fg (lb won) fi z_ (k + 1) = wbU kd fg (lb won) fi z_ k := wbU_f n_52
                refine lv_iinc (v := (nI (k + 1))) (lv' := [(8, .int (nI (k + 1))), (0, .ref (ob 6)), (1, .long won), (3, .int (b2i (fi))), (4, .long be), (6, .int (nI z_)), (7, .int (b2i (wbU kd fg (lb won) fi z_ k)))]) hF.1 hF.2.1 dX11_wonBefore_107 hl (k := 6) rfl (nI_inc _ _) (by decide) rfl (fun ls hl => ?_)
                refine lv_goto (tgt := 29) hF.1 hF.2.1 dX11_wonBefore_110 (by decide) ?_
                exact ih29 (k + 1) (by omega) (by omega) _ _ hG ls (lv_sub hl [1, 2, 3, 4, 5, 6, 0] (by rw [hw]; rfl))
              · --
                have n_52 : (mayZ n kd fg (nI k) z_) = true := b2i_nz.mp c_52
                rw [mayZ_t hn (show k < n by omega)] at n_52
                refine lv_lload_n hF.1 hF.2.1 dX11_wonBefore_55 rfl (lv_at hl 1 rfl) ?_
                refine lv_iload hF.1 hF.2.1 dX11_wonBefore_56 (lv_at hl 4 rfl) ?_
                refine lv_iload hF.1 hF.2.1 dX11_wonBefore_58 (lv_at hl 6 rfl) ?_
                refine k_ci (r_S (As := [.int (nI z_), .int (nI k)]) hF hK hA hG (c_X11_turned (show k < 6 by omega)) (cwS 2 hF.2.2.2.2 gX11_wonBefore_X11_turned rfl rfl rfl (by decide +kernel) ⟨Nat.le_of_ble_eq_true rfl, Nat.le_of_ble_eq_true rfl⟩) rfl hl.1 rfl (lv_room (Nat.le_of_ble_eq_true rfl)) dX11_wonBefore_60 ⟨Nat.le_of_ble_eq_true rfl, Nat.le_of_ble_eq_true rfl⟩) hG (fun r_60 u_60 H locs hp_60 hG => ?_)
                subst hp_60
                refine k_ci (r_S (As := [.long won, .int (nI (z_ ^^^ 2 ^ k))]) hF hK hA hG (c_X11_isAmong (tog_lt hz64 (show k < 6 by omega))) (cwS 2 hF.2.2.2.2 gX11_wonBefore_X11_isAmong rfl rfl rfl (by decide +kernel) ⟨Nat.le_of_ble_eq_true rfl, Nat.le_of_ble_eq_true rfl⟩) rfl hl.1 rfl (lv_room (Nat.le_of_ble_eq_true rfl)) dX11_wonBefore_63 ⟨Nat.le_of_ble_eq_true rfl, Nat.le_of_ble_eq_true rfl⟩) hG (fun r_63 u_63 H locs hp_63 hG => ?_)
                subst hp_63
                refine lv_istore (lv' := [(9, .int (b2i (lb won (z_ ^^^ 2 ^ k)))), (0, .ref (ob 6)), (1, .long won), (3, .int (b2i (fi))), (4, .long be), (6, .int (nI z_)), (7, .int (b2i (wbU kd fg (lb won) fi z_ k))), (8, .int (nI k))]) hF.1 hF.2.1 dX11_wonBefore_66 hl (by decide) rfl (fun ls hl => ?_)
                refine lv_iload_n hF.1 hF.2.1 dX11_wonBefore_68 rfl (lv_at hl 3 rfl) ?_
                refine lv_if_eq (tgt := 90) hF.1 hF.2.1 dX11_wonBefore_69 (by decide) (fun c_69 => ?_) (fun c_69 => ?_)
                · --
                  have n_69 : (fi) = false := b2i_z.mp c_69
                  refine lv_iload hF.1 hF.2.1 dX11_wonBefore_90 (lv_at hl 6 rfl) ?_
                  refine lv_if_eq (tgt := 104) hF.1 hF.2.1 dX11_wonBefore_92 (by decide) (fun c_92 => ?_) (fun c_92 => ?_)
                  · --
                    have n_92 : (wbU kd fg (lb won) fi z_ k) = false := b2i_z.mp c_92
                    refine lv_iconst (v := (nI 0)) hF.1 hF.2.1 dX11_wonBefore_104 (by decide +kernel) ?_
                    have hw : wbU kd fg (lb won) fi z_ (k + 1) = false := by first | (rw [wbU_1 n_52 n_69]; first | (rw [n_74]; rfl) | (rw [n_74, n_79]; rfl)) | (rw [wbU_2 n_52 n_69]; first | (rw [n_92]; rfl) | (rw [n_92, n_97]; rfl))
                    refine lv_istore (lv' := [(7, .int (nI 0)), (9, .int (b2i (lb won (z_ ^^^ 2 ^ k)))), (0, .ref (ob 6)), (1, .long won), (3, .int (b2i (fi))), (4, .long be), (6, .int (nI z_)), (8, .int (nI k))]) hF.1 hF.2.1 dX11_wonBefore_105 hl (by decide) rfl (fun ls hl => ?_)
                    refine lv_iinc (v := (nI (k + 1))) (lv' := [(8, .int (nI (k + 1))), (7, .int (nI 0)), (9, .int (b2i (lb won (z_ ^^^ 2 ^ k)))), (0, .ref (ob 6)), (1, .long won), (3, .int (b2i (fi))), (4, .long be), (6, .int (nI z_))]) hF.1 hF.2.1 dX11_wonBefore_107 hl (k := 7) rfl (nI_inc _ _) (by decide) rfl (fun ls hl => ?_)
                    refine lv_goto (tgt := 29) hF.1 hF.2.1 dX11_wonBefore_110 (by decide) ?_
                    exact ih29 (k + 1) (by omega) (by omega) _ _ hG ls (lv_sub hl [3, 4, 5, 6, 7, 1, 0] (by rw [hw]; rfl))
                  · --
                    have n_92 : (wbU kd fg (lb won) fi z_ k) = true := b2i_nz.mp c_92
                    refine lv_iload hF.1 hF.2.1 dX11_wonBefore_95 (lv_at hl 0 rfl) ?_
                    refine lv_if_eq (tgt := 104) hF.1 hF.2.1 dX11_wonBefore_97 (by decide) (fun c_97 => ?_) (fun c_97 => ?_)
                    · --
                      have n_97 : (lb won (z_ ^^^ 2 ^ k)) = false := b2i_z.mp c_97
                      refine lv_iconst (v := (nI 0)) hF.1 hF.2.1 dX11_wonBefore_104 (by decide +kernel) ?_
                      have hw : wbU kd fg (lb won) fi z_ (k + 1) = false := by first | (rw [wbU_1 n_52 n_69]; first | (rw [n_74]; rfl) | (rw [n_74, n_79]; rfl)) | (rw [wbU_2 n_52 n_69]; first | (rw [n_92]; rfl) | (rw [n_92, n_97]; rfl))
                      refine lv_istore (lv' := [(7, .int (nI 0)), (9, .int (b2i (lb won (z_ ^^^ 2 ^ k)))), (0, .ref (ob 6)), (1, .long won), (3, .int (b2i (fi))), (4, .long be), (6, .int (nI z_)), (8, .int (nI k))]) hF.1 hF.2.1 dX11_wonBefore_105 hl (by decide) rfl (fun ls hl => ?_)
                      refine lv_iinc (v := (nI (k + 1))) (lv' := [(8, .int (nI (k + 1))), (7, .int (nI 0)), (9, .int (b2i (lb won (z_ ^^^ 2 ^ k)))), (0, .ref (ob 6)), (1, .long won), (3, .int (b2i (fi))), (4, .long be), (6, .int (nI z_))]) hF.1 hF.2.1 dX11_wonBefore_107 hl (k := 7) rfl (nI_inc _ _) (by decide) rfl (fun ls hl => ?_)
                      refine lv_goto (tgt := 29) hF.1 hF.2.1 dX11_wonBefore_110 (by decide) ?_
                      exact ih29 (k + 1) (by omega) (by omega) _ _ hG ls (lv_sub hl [3, 4, 5, 6, 7, 1, 0] (by rw [hw]; rfl))
                    · --
                      have n_97 : (lb won (z_ ^^^ 2 ^ k)) = true := b2i_nz.mp c_97
                      refine lv_iconst (v := (nI 1)) hF.1 hF.2.1 dX11_wonBefore_100 (by decide +kernel) ?_
                      refine lv_goto (tgt := 105) hF.1 hF.2.1 dX11_wonBefore_101 (by decide) ?_
                      have hw : wbU kd fg (lb won) fi z_ (k + 1) = true := by first | (rw [wbU_1 n_52 n_69]; first | (rw [n_74]; rfl) | (rw [n_74, n_79]; rfl)) | (rw [wbU_2 n_52 n_69]; first | (rw [n_92]; rfl) | (rw [n_92, n_97]; rfl))
                      refine lv_istore (lv' := [(7, .int (nI 1)), (9, .int (b2i (lb won (z_ ^^^ 2 ^ k)))), (0, .ref (ob 6)), (1, .long won), (3, .int (b2i (fi))), (4, .long be), (6, .int (nI z_)), (8, .int (nI k))]) hF.1 hF.2.1 dX11_wonBefore_105 hl (by decide) rfl (fun ls hl => ?_)
                      refine lv_iinc (v := (nI (k + 1))) (lv' := [(8, .int (nI (k + 1))), (7, .int (nI 1)), (9, .int (b2i (lb won (z_ ^^^ 2 ^ k)))), (0, .ref (ob 6)), (1, .long won), (3, .int (b2i (fi))), (4, .long be), (6, .int (nI z_))]) hF.1 hF.2.1 dX11_wonBefore_107 hl (k := 7) rfl (nI_inc _ _) (by decide) rfl (fun ls hl => ?_)
                      refine lv_goto (tgt := 29) hF.1 hF.2.1 dX11_wonBefore_110 (by decide) ?_
                      exact ih29 (k + 1) (by omega) (by omega) _ _ hG ls (lv_sub hl [3, 4, 5, 6, 7, 1, 0] (by rw [hw]; rfl))
                · --
                  have n_69 : (fi) = true := b2i_nz.mp c_69
                  refine lv_iload hF.1 hF.2.1 dX11_wonBefore_72 (lv_at hl 6 rfl) ?_
                  refine lv_if_ne (tgt := 82) hF.1 hF.2.1 dX11_wonBefore_74 (by decide) (fun c_74 => ?_) (fun c_74 => ?_)
                  · --
                    have n_74 : (wbU kd fg (lb won) fi z_ k) = true := b2i_nz.mp c_74
                    refine lv_iconst (v := (nI 1)) hF.1 hF.2.1 dX11_wonBefore_82 (by decide +kernel) ?_
                    refine lv_goto (tgt := 105) hF.1 hF.2.1 dX11_wonBefore_83 (by decide) ?_
                    have hw : wbU kd fg (lb won) fi z_ (k + 1) = true := by first | (rw [wbU_1 n_52 n_69]; first | (rw [n_74]; rfl) | (rw [n_74, n_79]; rfl)) | (rw [wbU_2 n_52 n_69]; first | (rw [n_92]; rfl) | (rw [n_92, n_97]; rfl))
                    refine lv_istore (lv' := [(7, .int (nI 1)), (9, .int (b2i (lb won (z_ ^^^ 2 ^ k)))), (0, .ref (ob 6)), (1, .long won), (3, .int (b2i (fi))), (4, .long be), (6, .int (nI z_)), (8, .int (nI k))]) hF.1 hF.2.1 dX11_wonBefore_105 hl (by decide) rfl (fun ls hl => ?_)
                    refine lv_iinc (v := (nI (k + 1))) (lv' := [(8, .int (nI (k + 1))), (7, .int (nI 1)), (9, .int (b2i (lb won (z_ ^^^ 2 ^ k)))), (0, .ref (ob 6)), (1, .long won), (3, .int (b2i (fi))), (4, .long be), (6, .int (nI z_))]) hF.1 hF.2.1 dX11_wonBefore_107 hl (k := 7) rfl (nI_inc _ _) (by decide) rfl (fun ls hl => ?_)
                    refine lv_goto (tgt := 29) hF.1 hF.2.1 dX11_wonBefore_110 (by decide) ?_
                    exact ih29 (k + 1) (by omega) (by omega) _ _ hG ls (lv_sub hl [3, 4, 5, 6, 7, 1, 0] (by rw [hw]; rfl))
                  · --
                    have n_74 : (wbU kd fg (lb won) fi z_ k) = false := b2i_z.mp c_74
                    refine lv_iload hF.1 hF.2.1 dX11_wonBefore_77 (lv_at hl 0 rfl) ?_
                    refine lv_if_eq (tgt := 86) hF.1 hF.2.1 dX11_wonBefore_79 (by decide) (fun c_79 => ?_) (fun c_79 => ?_)
                    · --
                      have n_79 : (lb won (z_ ^^^ 2 ^ k)) = false := b2i_z.mp c_79
                      refine lv_iconst (v := (nI 0)) hF.1 hF.2.1 dX11_wonBefore_86 (by decide +kernel) ?_
                      refine lv_goto (tgt := 105) hF.1 hF.2.1 dX11_wonBefore_87 (by decide) ?_
                      have hw : wbU kd fg (lb won) fi z_ (k + 1) = false := by first | (rw [wbU_1 n_52 n_69]; first | (rw [n_74]; rfl) | (rw [n_74, n_79]; rfl)) | (rw [wbU_2 n_52 n_69]; first | (rw [n_92]; rfl) | (rw [n_92, n_97]; rfl))
                      refine lv_istore (lv' := [(7, .int (nI 0)), (9, .int (b2i (lb won (z_ ^^^ 2 ^ k)))), (0, .ref (ob 6)), (1, .long won), (3, .int (b2i (fi))), (4, .long be), (6, .int (nI z_)), (8, .int (nI k))]) hF.1 hF.2.1 dX11_wonBefore_105 hl (by decide) rfl (fun ls hl => ?_)
                      refine lv_iinc (v := (nI (k + 1))) (lv' := [(8, .int (nI (k + 1))), (7, .int (nI 0)), (9, .int (b2i (lb won (z_ ^^^ 2 ^ k)))), (0, .ref (ob 6)), (1, .long won), (3, .int (b2i (fi))), (4, .long be), (6, .int (nI z_))]) hF.1 hF.2.1 dX11_wonBefore_107 hl (k := 7) rfl (nI_inc _ _) (by decide) rfl (fun ls hl => ?_)
                      refine lv_goto (tgt := 29) hF.1 hF.2.1 dX11_wonBefore_110 (by decide) ?_
                      exact ih29 (k + 1) (by omega) (by omega) _ _ hG ls (lv_sub hl [3, 4, 5, 6, 7, 1, 0] (by rw [hw]; rfl))
                    · --
                      have n_79 : (lb won (z_ ^^^ 2 ^ k)) = true := b2i_nz.mp c_79
                      refine lv_iconst (v := (nI 1)) hF.1 hF.2.1 dX11_wonBefore_82 (by decide +kernel) ?_
                      refine lv_goto (tgt := 105) hF.1 hF.2.1 dX11_wonBefore_83 (by decide) ?_
                      have hw : wbU kd fg (lb won) fi z_ (k + 1) = true := by first | (rw [wbU_1 n_52 n_69]; first | (rw [n_74]; rfl) | (rw [n_74, n_79]; rfl)) | (rw [wbU_2 n_52 n_69]; first | (rw [n_92]; rfl) | (rw [n_92, n_97]; rfl))
                      refine lv_istore (lv' := [(7, .int (nI 1)), (9, .int (b2i (lb won (z_ ^^^ 2 ^ k)))), (0, .ref (ob 6)), (1, .long won), (3, .int (b2i (fi))), (4, .long be), (6, .int (nI z_)), (8, .int (nI k))]) hF.1 hF.2.1 dX11_wonBefore_105 hl (by decide) rfl (fun ls hl => ?_)
                      refine lv_iinc (v := (nI (k + 1))) (lv' := [(8, .int (nI (k + 1))), (7, .int (nI 1)), (9, .int (b2i (lb won (z_ ^^^ 2 ^ k)))), (0, .ref (ob 6)), (1, .long won), (3, .int (b2i (fi))), (4, .long be), (6, .int (nI z_))]) hF.1 hF.2.1 dX11_wonBefore_107 hl (k := 7) rfl (nI_inc _ _) (by decide) rfl (fun ls hl => ?_)
                      refine lv_goto (tgt := 29) hF.1 hF.2.1 dX11_wonBefore_110 (by decide) ?_
                      exact ih29 (k + 1) (by omega) (by omega) _ _ hG ls (lv_sub hl [3, 4, 5, 6, 7, 1, 0] (by rw [hw]; rfl))
        exact lp29 _ (0) (by omega) (Nat.lt_succ_self _) _ _ hG ls (lv_sub hl [2, 3, 4, 5, 6, 1, 0] rfl)
  exact lp6 _ (0) (_) (by omega) (fun q _ => by rw [lb_0]; rfl) (Nat.lt_succ_self _) _ _ hG ls (lv_sub hl [2, 3, 4, 1, 0] rfl)

abbrev rmX11_game : Room := { frames := 5, cells := 0, slots := 0, locals := 118 }
set_option maxHeartbeats 4000000 in
set_option maxRecDepth 100000 in
theorem c_X11_game {l : Launch} {D : va_G} {cA : Nat → ClassId} {A : Nat → Prop}  {ob : Nat → Nat} {mb ss sh sp : Nat → Int32} {mt : Nat → Int64} {rc n o : Nat} {dr : Nat → Option Nat} {n1 o1 : Nat} {dr1 : Nat → Option Nat} {n2 o2 : Nat} {dr2 dk rk : Nat → Option Nat} {kt : Nat → Int32} {tk : Int32} {pool : va_W} {kd fg : Nat → Nat} (hI : WI pool n o dr kd fg) {kd1 fg1 : Nat → Nat} (hJ : WI pool n1 o1 dr1 kd1 fg1) {kd2 fg2 : Nat → Nat} (hM : WI pool n2 o2 dr2 kd2 fg2) {x : Nat → Sf} {P : Nat → Nat} (hX : SX cA pool dk rk x P) {tkb : Bool} (htk : tk = b2i tkb) {d y : Int32} : Met l yX11_game wsX11_game rmX11_game (va_Pc [.ref (ob 6), .int d, .int y] (Pre D cA A (XW cA ob mb ss sh sp mt rc n o dr n1 o1 dr1 n2 o2 dr2 dk rk kt tk pool))) (va_Qi (fun r (u : XS) => (r = spGame n o kd fg d y) ∧ XI cA u (n, o, kd, fg) (n1, o1, kd1, fg1) tkb x) (fun u t => Wd D A ((fun (u : XS) => XV cA ob u) u) t) A) (0) (0) A := by
  refine k_ofi (S := XS) (F := fun (u : XS) => XV cA ob u) (cc := cX11_game) (maxL := 6) (by decide) rfl (Nat.le_of_ble_eq_true rfl) ?_
  intro p e s m args below meth c Q hF hini hK hA hG hret ls hl
  have hl : lv_has ls 6 [(0, .ref (ob 6)), (1, .int d), (2, .int y)] := hl
  have hn : n ≤ 6 := hI.1
  have ho : o < 64 := hI.o64
  have hp2 : 2 ^ n ≤ 64 := Nat.pow_le_pow_right (by decide) hn
  have hp1 : 1 ≤ 2 ^ n := Nat.one_le_two_pow
  refine lv_aload_n hF.1 hF.2.1 dX11_game_0 rfl (lv_at hl 0 rfl) ?_
  refine k_get (C := RX11) (T := TX11) (N := 8) hF hK hG (fun _ h => List.mem_cons_of_mem _ (List.mem_append_left _ (List.mem_append_left _ (List.mem_append_left _ (List.mem_append_left _ (List.mem_append_left _ (List.mem_append_left _ (List.mem_append_left _ (List.mem_append_left _ (List.mem_append_left _ (List.mem_append_right _ h))))))))))) 6 rfl rfl 0 (by decide) (List.mem_of_getElem? (i := 1) rfl) (fun _ h9 => h9) rfl dX11_game_1 ?_
  refine lv_iload_n hF.1 hF.2.1 dX11_game_4 rfl (lv_at hl 1 rfl) ?_
  refine k_ci (r_V (As := [.int d]) hF hK hA hG (c_X9_has hI.w0) (cwV 1 hF.2.2.2.2 gX11_game_X9_has rfl rfl rfl (by decide +kernel) ⟨Nat.le_of_ble_eq_true rfl, Nat.le_of_ble_eq_true rfl⟩) 7 rfl rfl rfl rfl hl.1 rfl (lv_room (Nat.le_of_ble_eq_true rfl)) dX11_game_5 ⟨Nat.le_of_ble_eq_true rfl, Nat.le_of_ble_eq_true rfl⟩) hG (fun r_5 u_5 H locs hp_5 hG => ?_)
  subst hp_5
  refine lv_if_eq (tgt := 20) hF.1 hF.2.1 dX11_game_8 (by decide) (fun c_8 => ?_) (fun c_8 => ?_)
  · --
    have n_8 : (inB n d) = false := b2i_z.mp c_8
    refine lv_iconst (v := (-1)) hF.1 hF.2.1 dX11_game_20 (by decide +kernel) ?_
    exact hret _ (_, _, _, _, _, _, _, _, _, _, _, _, _, _, _, _, _, _, _, _) _ ls _ _ _ _ (by refine ⟨?_, ⟨⟨rfl, rfl⟩, ⟨rfl, rfl⟩, htk, hI, hJ, ⟨_, _, hM⟩, ⟨_, hX⟩⟩⟩; first | exact (spGame_f (Or.inl n_8)).symm | exact (spGame_f (Or.inr (inB_l c_12))).symm | exact (spGame_f (Or.inr (inM_f (m := 5) (by omega) c_17))).symm) (by first | rfl | exact nar_b2i _) hG (Nat.le_of_ble_eq_true rfl) (Nat.le_of_ble_eq_true rfl) dX11_game_21
  · --
    have n_8 : (inB n d) = true := b2i_nz.mp c_8
    obtain ⟨i, hi, rfl⟩ := inB_ex (by omega) n_8
    refine lv_iload_n hF.1 hF.2.1 dX11_game_11 rfl (lv_at hl 2 rfl) ?_
    refine lv_if_lt (tgt := 20) hF.1 hF.2.1 dX11_game_12 (by decide) (fun c_12 => ?_) (fun c_12 => ?_)
    · --
      refine lv_iconst (v := (-1)) hF.1 hF.2.1 dX11_game_20 (by decide +kernel) ?_
      exact hret _ (_, _, _, _, _, _, _, _, _, _, _, _, _, _, _, _, _, _, _, _) _ ls _ _ _ _ (by refine ⟨?_, ⟨⟨rfl, rfl⟩, ⟨rfl, rfl⟩, htk, hI, hJ, ⟨_, _, hM⟩, ⟨_, hX⟩⟩⟩; first | exact (spGame_f (Or.inl n_8)).symm | exact (spGame_f (Or.inr (inB_l c_12))).symm | exact (spGame_f (Or.inr (inM_f (m := 5) (by omega) c_17))).symm) (by first | rfl | exact nar_b2i _) hG (Nat.le_of_ble_eq_true rfl) (Nat.le_of_ble_eq_true rfl) dX11_game_21
    · --
      refine lv_iload_n hF.1 hF.2.1 dX11_game_15 rfl (lv_at hl 2 rfl) ?_
      refine lv_iconst (v := (nI 5)) hF.1 hF.2.1 dX11_game_16 (by decide +kernel) ?_
      refine lv_icmp_le (tgt := 22) hF.1 hF.2.1 dX11_game_17 (by decide) (fun c_17 => ?_) (fun c_17 => ?_)
      · --
        have hy6 := inM_t (m := 5) (by omega) c_12 c_17
        obtain ⟨N_, hN, rfl⟩ := inB_ex (by omega) hy6
        refine lv_lconst (v := 0) hF.1 hF.2.1 dX11_game_22 (by decide +kernel) ?_
        refine lv_lstore_n (lv' := [(3, .long (0)), (0, .ref (ob 6)), (1, .int (nI i)), (2, .int (nI N_))]) hF.1 hF.2.1 dX11_game_23 rfl hl (by decide) rfl (fun ls hl => ?_)
        refine lv_iconst (v := (nI 0)) hF.1 hF.2.1 dX11_game_24 (by decide +kernel) ?_
        refine lv_istore (lv' := [(5, .int (nI 0)), (3, .long (0)), (0, .ref (ob 6)), (1, .int (nI i)), (2, .int (nI N_))]) hF.1 hF.2.1 dX11_game_25 hl (by decide) rfl (fun ls hl => ?_)
        have lp27 : ∀ (fuel : Nat), ∀ (z_ : Nat) (won : Int64), (hz : z_ ≤ 2 ^ n) → (hwo : ∀ q, q < 64 → lb won q = (decide (q < z_) && q.testBit i)) → (2 ^ n - z_) < fuel → ∀ (H : Heap) (locs : List Loc), Gd D A (XW cA ob mb ss sh sp mt rc n o dr n1 o1 dr1 n2 o2 dr2 dk rk kt tk pool) s.heap H locs → ∀ ls : Array Slot, lv_has ls 6 [(0, .ref (ob 6)), (1, .int (nI i)), (2, .int (nI N_)), (3, .long won), (5, .int (nI z_))] → W p l e rmX11_game s m args below meth c H locs (0) (0) Q (F0 m 27 ls []) := by
          intro fuel
          induction fuel with
          | zero => intro z_ won hz hwo hmu; exact absurd hmu (Nat.not_lt_zero _)
          | succ fuel ih27 =>
            intro z_ won hz hwo hmu H locs hG ls hl
            refine lv_iload hF.1 hF.2.1 dX11_game_27 (lv_at hl 4 rfl) ?_
            refine lv_aload_n hF.1 hF.2.1 dX11_game_29 rfl (lv_at hl 0 rfl) ?_
            refine k_get (C := RX11) (T := TX11) (N := 8) hF hK hG (fun _ h => List.mem_cons_of_mem _ (List.mem_append_left _ (List.mem_append_left _ (List.mem_append_left _ (List.mem_append_left _ (List.mem_append_left _ (List.mem_append_left _ (List.mem_append_left _ (List.mem_append_left _ (List.mem_append_left _ (List.mem_append_right _ h))))))))))) 6 rfl rfl 0 (by decide) (List.mem_of_getElem? (i := 1) rfl) (fun _ h9 => h9) rfl dX11_game_30 ?_
            refine k_ci (r_V (As := []) hF hK hA hG (c_X9_allBits hI.w0) (cwV 0 hF.2.2.2.2 gX11_game_X9_allBits rfl rfl rfl (by decide +kernel) ⟨Nat.le_of_ble_eq_true rfl, Nat.le_of_ble_eq_true rfl⟩) 7 rfl rfl rfl rfl hl.1 rfl (lv_room (Nat.le_of_ble_eq_true rfl)) dX11_game_33 ⟨Nat.le_of_ble_eq_true rfl, Nat.le_of_ble_eq_true rfl⟩) hG (fun r_33 u_33 H locs hp_33 hG => ?_)
            subst hp_33
            refine lv_icmp_gt (tgt := 61) hF.1 hF.2.1 dX11_game_36 (by decide) (fun c_36 => ?_) (fun c_36 => ?_)
            · --
              have n_36 : 2 ^ n - 1 < z_ := (nI_ltI (a := 2 ^ n - 1) (b := z_) (by omega) (by omega)).mp c_36
              refine lv_iload_n hF.1 hF.2.1 dX11_game_61 rfl (lv_at hl 2 rfl) ?_
              refine lv_iconst (v := (nI 1)) hF.1 hF.2.1 dX11_game_62 (by decide +kernel) ?_
              refine lv_isub hF.1 hF.2.1 dX11_game_63 ?_
              refine lv_istore (lv' := [(5, .int ((nI N_) - (nI 1))), (0, .ref (ob 6)), (1, .int (nI i)), (2, .int (nI N_)), (3, .long won)]) hF.1 hF.2.1 dX11_game_64 hl (by decide) rfl (fun ls hl => ?_)
              have lp66 : ∀ (fuel : Nat), ∀ (t : Nat) (won : Int64), (ht : t ≤ N_) → (hwo : ∀ q, q < 2 ^ n → lb won q = canU n kd fg i (N_ - t) q (t % 2 == 0)) → (t) < fuel → ∀ (H : Heap) (locs : List Loc), Gd D A (XW cA ob mb ss sh sp mt rc n o dr n1 o1 dr1 n2 o2 dr2 dk rk kt tk pool) s.heap H locs → ∀ ls : Array Slot, lv_has ls 6 [(0, .ref (ob 6)), (1, .int (nI i)), (2, .int (nI N_)), (3, .long won), (5, .int (nI t - nI 1))] → W p l e rmX11_game s m args below meth c H locs (0) (0) Q (F0 m 66 ls []) := by
                intro fuel
                induction fuel with
                | zero => intro t won ht hwo hmu; exact absurd hmu (Nat.not_lt_zero _)
                | succ fuel ih66 =>
                  intro t won ht hwo hmu H locs hG ls hl
                  refine lv_iload hF.1 hF.2.1 dX11_game_66 (lv_at hl 4 rfl) ?_
                  refine lv_if_lt (tgt := 95) hF.1 hF.2.1 dX11_game_68 (by decide) (fun c_68 => ?_) (fun c_68 => ?_)
                  · --
                    have ht0 : t = 0 := by
                      apply Nat.eq_zero_of_not_pos
                      intro q
                      rw [pk_sub q] at c_68
                      exact absurd c_68 (nI_pos (by omega))
                    have hfin : lb won o = canU n kd fg i N_ o true := by have h9 := hwo o hI.2.1; rw [ht0] at h9; exact h9
                    refine lv_lload_n hF.1 hF.2.1 dX11_game_95 rfl (lv_at hl 3 rfl) ?_
                    refine lv_aload_n hF.1 hF.2.1 dX11_game_96 rfl (lv_at hl 0 rfl) ?_
                    refine k_get (C := RX11) (T := TX11) (N := 8) hF hK hG (fun _ h => List.mem_cons_of_mem _ (List.mem_append_left _ (List.mem_append_left _ (List.mem_append_left _ (List.mem_append_left _ (List.mem_append_left _ (List.mem_append_left _ (List.mem_append_left _ (List.mem_append_left _ (List.mem_append_left _ (List.mem_append_right _ h))))))))))) 6 rfl rfl 0 (by decide) (List.mem_of_getElem? (i := 1) rfl) (fun _ h9 => h9) rfl dX11_game_97 ?_
                    refine k_get (C := RX9) (T := TX9) (N := 3) hF hK hG (fun _ h => List.mem_cons_of_mem _ (List.mem_append_left _ (List.mem_append_left _ (List.mem_append_left _ (List.mem_append_left _ (List.mem_append_left _ (List.mem_append_left _ (List.mem_append_left _ (List.mem_append_left _ (List.mem_append_right _ h)))))))))) 7 rfl rfl 2 (by decide) (List.mem_of_getElem? (i := 2) rfl) (fun _ h9 => h9) rfl dX11_game_100 ?_
                    refine k_ci (r_S (As := [.long won, .int (nI o)]) hF hK hA hG (c_X11_isAmong ho) (cwS 2 hF.2.2.2.2 gX11_game_X11_isAmong rfl rfl rfl (by decide +kernel) ⟨Nat.le_of_ble_eq_true rfl, Nat.le_of_ble_eq_true rfl⟩) rfl hl.1 rfl (lv_room (Nat.le_of_ble_eq_true rfl)) dX11_game_103 ⟨Nat.le_of_ble_eq_true rfl, Nat.le_of_ble_eq_true rfl⟩) hG (fun r_103 u_103 H locs hp_103 hG => ?_)
                    subst hp_103
                    refine lv_if_eq (tgt := 113) hF.1 hF.2.1 dX11_game_106 (by decide) (fun c_106 => ?_) (fun c_106 => ?_)
                    · --
                      have n_106 : (lb won o) = false := b2i_z.mp c_106
                      refine lv_iconst (v := (nI 0)) hF.1 hF.2.1 dX11_game_113 (by decide +kernel) ?_
                      exact hret _ (_, _, _, _, _, _, _, _, _, _, _, _, _, _, _, _, _, _, _, _) _ ls _ _ _ _ (by refine ⟨?_, ⟨⟨rfl, rfl⟩, ⟨rfl, rfl⟩, htk, hI, hJ, ⟨_, _, hM⟩, ⟨_, hX⟩⟩⟩; rw [spGame_t hn hi hN, ← hfin, n_106]; rfl) (by first | rfl | exact nar_b2i _) hG (Nat.le_of_ble_eq_true rfl) (Nat.le_of_ble_eq_true rfl) dX11_game_114
                    · --
                      have n_106 : (lb won o) = true := b2i_nz.mp c_106
                      refine lv_iconst (v := (nI 1)) hF.1 hF.2.1 dX11_game_109 (by decide +kernel) ?_
                      refine lv_goto (tgt := 114) hF.1 hF.2.1 dX11_game_110 (by decide) ?_
                      exact hret _ (_, _, _, _, _, _, _, _, _, _, _, _, _, _, _, _, _, _, _, _) _ ls _ _ _ _ (by refine ⟨?_, ⟨⟨rfl, rfl⟩, ⟨rfl, rfl⟩, htk, hI, hJ, ⟨_, _, hM⟩, ⟨_, hX⟩⟩⟩; rw [spGame_t hn hi hN, ← hfin, n_106]; rfl) (by first | rfl | exact nar_b2i _) hG (Nat.le_of_ble_eq_true rfl) (Nat.le_of_ble_eq_true rfl) dX11_game_114
                  · --
                    obtain ⟨t2, rfl⟩ : ∃ t2, t = t2 + 1 := by
                      cases t with
                      | zero => exact absurd (by decide +kernel) c_68
                      | succ t2 => exact ⟨t2, rfl⟩
                    have hl : lv_has ls 6 [(0, .ref (ob 6)), (1, .int (nI i)), (2, .int (nI N_)), (3, .long won), (5, .int (nI t2))] := by rw [pk_sub (a := t2 + 1) (b := 1) (by omega)] at hl; exact hl
                    refine lv_aload_n hF.1 hF.2.1 dX11_game_71 rfl (lv_at hl 0 rfl) ?_
                    refine lv_lload_n hF.1 hF.2.1 dX11_game_72 rfl (lv_at hl 3 rfl) ?_
                    refine lv_iload hF.1 hF.2.1 dX11_game_73 (lv_at hl 4 rfl) ?_
                    refine lv_iconst (v := (nI 2)) hF.1 hF.2.1 dX11_game_75 (by decide +kernel) ?_
                    refine lv_irem hF.1 hF.2.1 dX11_game_76 (by decide +kernel) ?_
                    rw [pk_rem (by omega) (by decide) (by omega)]
                    refine lv_if_ne (tgt := 84) hF.1 hF.2.1 dX11_game_77 (by decide) (fun c_77 => ?_) (fun c_77 => ?_)
                    · --
                      have h78 : ¬ t2 % 2 = 0 := fun a => c_77 (by rw [a]; rfl)
                      have h77 : t2 % 2 = 1 := by omega
                      have hfi : (t2 % 2 == 0) = false := by rw [h77]; rfl
                      have hfi2 : ((t2 + 1) % 2 == 0) = !false := by rw [show (t2 + 1) % 2 = 0 by omega]; rfl
                      refine lv_iconst (v := (nI 0)) hF.1 hF.2.1 dX11_game_84 (by decide +kernel) ?_
                      refine k_cl (r_V (As := [.long won, .int (nI 0)]) hF hK hA hG (c_X11_wonBefore hI (fi := false)) (cwV 2 hF.2.2.2.2 gX11_game_X11_wonBefore rfl rfl rfl (by decide +kernel) ⟨Nat.le_of_ble_eq_true rfl, Nat.le_of_ble_eq_true rfl⟩) 6 rfl rfl rfl rfl hl.1 rfl (lv_room (Nat.le_of_ble_eq_true rfl)) dX11_game_85 ⟨Nat.le_of_ble_eq_true rfl, Nat.le_of_ble_eq_true rfl⟩) hG (fun r_85 u_85 H locs hp_85 hG => ?_)
                      have hcs : ∀ q, q < 2 ^ n → lb r_85 q = canU n kd fg i (N_ - t2) q (t2 % 2 == 0) := fun q hq => by rw [hp_85 q hq, show N_ - t2 = (N_ - (t2 + 1)) + 1 by omega, hfi]; exact can_step (fun z hz => by rw [hwo z hz, hfi2]) hq
                      refine lv_lstore_n (lv' := [(3, .long r_85), (0, .ref (ob 6)), (1, .int (nI i)), (2, .int (nI N_)), (5, .int (nI t2))]) hF.1 hF.2.1 dX11_game_88 rfl hl (by decide) rfl (fun ls hl => ?_)
                      refine lv_iinc (v := ((nI t2) + (-1))) (lv' := [(5, .int ((nI t2) + (-1))), (3, .long r_85), (0, .ref (ob 6)), (1, .int (nI i)), (2, .int (nI N_))]) hF.1 hF.2.1 dX11_game_89 hl (k := 4) rfl (rfl) (by decide) rfl (fun ls hl => ?_)
                      refine lv_goto (tgt := 66) hF.1 hF.2.1 dX11_game_92 (by decide) ?_
                      exact ih66 (t2) (_) (by omega) hcs (by omega) _ _ hG ls (lv_sub hl [2, 3, 4, 1, 0] (by rw [← dec_i]; rfl))
                    · --
                      have h77 : t2 % 2 = 0 := (nI_eq (by omega) (by omega)).mp c_77
                      have hfi : (t2 % 2 == 0) = true := by rw [h77]; rfl
                      have hfi2 : ((t2 + 1) % 2 == 0) = !true := by rw [show (t2 + 1) % 2 = 1 by omega]; rfl
                      refine lv_iconst (v := (nI 1)) hF.1 hF.2.1 dX11_game_80 (by decide +kernel) ?_
                      refine lv_goto (tgt := 85) hF.1 hF.2.1 dX11_game_81 (by decide) ?_
                      refine k_cl (r_V (As := [.long won, .int (nI 1)]) hF hK hA hG (c_X11_wonBefore hI (fi := true)) (cwV 2 hF.2.2.2.2 gX11_game_X11_wonBefore rfl rfl rfl (by decide +kernel) ⟨Nat.le_of_ble_eq_true rfl, Nat.le_of_ble_eq_true rfl⟩) 6 rfl rfl rfl rfl hl.1 rfl (lv_room (Nat.le_of_ble_eq_true rfl)) dX11_game_85 ⟨Nat.le_of_ble_eq_true rfl, Nat.le_of_ble_eq_true rfl⟩) hG (fun r_85 u_85 H locs hp_85 hG => ?_)
                      have hcs : ∀ q, q < 2 ^ n → lb r_85 q = canU n kd fg i (N_ - t2) q (t2 % 2 == 0) := fun q hq => by rw [hp_85 q hq, show N_ - t2 = (N_ - (t2 + 1)) + 1 by omega, hfi]; exact can_step (fun z hz => by rw [hwo z hz, hfi2]) hq
                      refine lv_lstore_n (lv' := [(3, .long r_85), (0, .ref (ob 6)), (1, .int (nI i)), (2, .int (nI N_)), (5, .int (nI t2))]) hF.1 hF.2.1 dX11_game_88 rfl hl (by decide) rfl (fun ls hl => ?_)
                      refine lv_iinc (v := ((nI t2) + (-1))) (lv' := [(5, .int ((nI t2) + (-1))), (3, .long r_85), (0, .ref (ob 6)), (1, .int (nI i)), (2, .int (nI N_))]) hF.1 hF.2.1 dX11_game_89 hl (k := 4) rfl (rfl) (by decide) rfl (fun ls hl => ?_)
                      refine lv_goto (tgt := 66) hF.1 hF.2.1 dX11_game_92 (by decide) ?_
                      exact ih66 (t2) (_) (by omega) hcs (by omega) _ _ hG ls (lv_sub hl [2, 3, 4, 1, 0] (by rw [← dec_i]; rfl))
              exact lp66 _ (N_) (_) (by omega) (fun q hq => by rw [hwo q (by omega), decide_eq_true (show q < z_ by omega), Nat.sub_self]; rfl) (Nat.lt_succ_self _) _ _ hG ls (lv_sub hl [1, 2, 3, 4, 0] rfl)
            · --
              have n_36 : ¬ (2 ^ n - 1 < z_) := fun zz9 => c_36 ((nI_ltI (a := 2 ^ n - 1) (b := z_) (by omega) (by omega)).mpr zz9)
              refine lv_iload hF.1 hF.2.1 dX11_game_39 (lv_at hl 4 rfl) ?_
              refine lv_iload_n hF.1 hF.2.1 dX11_game_41 rfl (lv_at hl 1 rfl) ?_
              refine k_ci (r_S (As := [.int (nI z_), .int (nI i)]) hF hK hA hG (c_X11_isOpen (show z_ < 64 by omega) (show i < 64 by omega)) (cwS 2 hF.2.2.2.2 gX11_game_X11_isOpen rfl rfl rfl (by decide +kernel) ⟨Nat.le_of_ble_eq_true rfl, Nat.le_of_ble_eq_true rfl⟩) rfl hl.1 rfl (lv_room (Nat.le_of_ble_eq_true rfl)) dX11_game_42 ⟨Nat.le_of_ble_eq_true rfl, Nat.le_of_ble_eq_true rfl⟩) hG (fun r_42 u_42 H locs hp_42 hG => ?_)
              subst hp_42
              refine lv_if_eq (tgt := 55) hF.1 hF.2.1 dX11_game_45 (by decide) (fun c_45 => ?_) (fun c_45 => ?_)
              · --
                have n_45 : ((decide (i < 6) && z_.testBit i)) = false := b2i_z.mp c_45
                rw [decide_eq_true (show i < 6 by omega), Bool.true_and] at n_45
                have hwo2 : ∀ q, q < 64 → lb won q = (decide (q < z_ + 1) && q.testBit i) := fun q hq => (hwo q hq).trans (bs_f (f := fun q => q.testBit i) n_45)
                refine lv_iinc (v := (nI (z_ + 1))) (lv' := [(5, .int (nI (z_ + 1))), (0, .ref (ob 6)), (1, .int (nI i)), (2, .int (nI N_)), (3, .long won)]) hF.1 hF.2.1 dX11_game_55 hl (k := 4) rfl (nI_inc _ _) (by decide) rfl (fun ls hl => ?_)
                refine lv_goto (tgt := 27) hF.1 hF.2.1 dX11_game_58 (by decide) ?_
                exact ih27 (z_ + 1) (_) (by omega) hwo2 (by omega) _ _ hG ls (lv_sub hl [1, 2, 3, 4, 0] rfl)
              · --
                have n_45 : ((decide (i < 6) && z_.testBit i)) = true := b2i_nz.mp c_45
                rw [decide_eq_true (show i < 6 by omega), Bool.true_and] at n_45
                refine lv_lload_n hF.1 hF.2.1 dX11_game_48 rfl (lv_at hl 3 rfl) ?_
                refine lv_lconst (v := 1) hF.1 hF.2.1 dX11_game_49 (by decide +kernel) ?_
                refine lv_iload hF.1 hF.2.1 dX11_game_50 (lv_at hl 4 rfl) ?_
                refine lv_lshl hF.1 hF.2.1 dX11_game_52 rfl ?_
                refine lv_lor hF.1 hF.2.1 dX11_game_53 ?_
                have hwo2 : ∀ q, q < 64 → lb (won ||| (1 <<< ((nI z_).toInt64 &&& 63))) q = (decide (q < z_ + 1) && q.testBit i) := fun q hq => by rw [lb_or won (by omega) hq, hwo q hq]; exact bs_t (f := fun q => q.testBit i) n_45
                refine lv_lstore_n (lv' := [(3, .long (won ||| ((1) <<< ((nI z_).toInt64 &&& 63)))), (0, .ref (ob 6)), (1, .int (nI i)), (2, .int (nI N_)), (5, .int (nI z_))]) hF.1 hF.2.1 dX11_game_54 rfl hl (by decide) rfl (fun ls hl => ?_)
                refine lv_iinc (v := (nI (z_ + 1))) (lv' := [(5, .int (nI (z_ + 1))), (3, .long (won ||| ((1) <<< ((nI z_).toInt64 &&& 63)))), (0, .ref (ob 6)), (1, .int (nI i)), (2, .int (nI N_))]) hF.1 hF.2.1 dX11_game_55 hl (k := 4) rfl (nI_inc _ _) (by decide) rfl (fun ls hl => ?_)
                refine lv_goto (tgt := 27) hF.1 hF.2.1 dX11_game_58 (by decide) ?_
                exact ih27 (z_ + 1) (_) (by omega) hwo2 (by omega) _ _ hG ls (lv_sub hl [2, 3, 4, 1, 0] rfl)
        exact lp27 _ (0) (_) (by omega) (fun q _ => by rw [lb_0]; rfl) (Nat.lt_succ_self _) _ _ hG ls (lv_sub hl [2, 3, 4, 1, 0] rfl)
      · --
        refine lv_iconst (v := (-1)) hF.1 hF.2.1 dX11_game_20 (by decide +kernel) ?_
        exact hret _ (_, _, _, _, _, _, _, _, _, _, _, _, _, _, _, _, _, _, _, _) _ ls _ _ _ _ (by refine ⟨?_, ⟨⟨rfl, rfl⟩, ⟨rfl, rfl⟩, htk, hI, hJ, ⟨_, _, hM⟩, ⟨_, hX⟩⟩⟩; first | exact (spGame_f (Or.inl n_8)).symm | exact (spGame_f (Or.inr (inB_l c_12))).symm | exact (spGame_f (Or.inr (inM_f (m := 5) (by omega) c_17))).symm) (by first | rfl | exact nar_b2i _) hG (Nat.le_of_ble_eq_true rfl) (Nat.le_of_ble_eq_true rfl) dX11_game_21

abbrev rmX11_wantedBehind : Room := { frames := 1, cells := 0, slots := 0, locals := 20 }
set_option maxHeartbeats 4000000 in
set_option maxRecDepth 100000 in
theorem c_X11_wantedBehind {l : Launch} {D : va_G} {cA : Nat → ClassId} {A : Nat → Prop} {ws : va_W} {w_ : Nat} {v : Int32} (hw_ : w_ < 4) : Met l yX11_wantedBehind wsX11_wantedBehind rmX11_wantedBehind (va_Pc [.int (nI w_), .int v] (Pre D cA A (ws))) (va_Qi (fun r _ => r = nI (wB w_ v)) (fun u t => Wd D A ((fun (_ : Unit) => ws) u) t) A) (0) (0) A := by
  refine k_ofi (S := Unit) (F := fun (_ : Unit) => ws) (cc := cX11_wantedBehind) (maxL := 2) (by decide) rfl (Nat.le_of_ble_eq_true rfl) ?_
  intro p e s m args below meth c Q hF hini hK hA hG hret ls hl
  have hl : lv_has ls 2 [(0, .int (nI w_)), (1, .int v)] := hl
  refine lv_iload_n hF.1 hF.2.1 dX11_wantedBehind_0 rfl (lv_at hl 0 rfl) ?_
  rcases (show w_ = 0 ∨ w_ = 1 ∨ w_ = 2 ∨ w_ = 3 by omega) with ek | ek | ek | ek
  · --
    rw [ek]
    refine lv_tableIn (tgt := 28) hF.1 hF.2.1 dX11_wantedBehind_1 (by decide +kernel) (by decide +kernel) rfl (by decide) ?_
    refine lv_iload_n hF.1 hF.2.1 dX11_wantedBehind_28 rfl (lv_at hl 1 rfl) ?_
    refine lv_bipush (v := (nI 100)) hF.1 hF.2.1 dX11_wantedBehind_29 (by decide +kernel) ?_
    refine lv_icmp_ne (tgt := 36) hF.1 hF.2.1 dX11_wantedBehind_31 (by decide) (fun c_31 => ?_) (fun c_31 => ?_)
    · --
      refine lv_iload_n hF.1 hF.2.1 dX11_wantedBehind_36 rfl (lv_at hl 1 rfl) ?_
      refine lv_bipush (v := (nI 111)) hF.1 hF.2.1 dX11_wantedBehind_37 (by decide +kernel) ?_
      refine lv_icmp_eq (tgt := 54) hF.1 hF.2.1 dX11_wantedBehind_39 (by decide) (fun c_39 => ?_) (fun c_39 => ?_)
      · --
        refine lv_iconst (v := (nI 2)) hF.1 hF.2.1 dX11_wantedBehind_54 (by decide +kernel) ?_
        refine lv_goto (tgt := 59) hF.1 hF.2.1 dX11_wantedBehind_55 (by decide) ?_
        exact hret _ () _ ls _ _ _ _ (by rw [ek]; first | rw [wB_d c_31] | rw [wB_o c_31 (Or.inl c_39)] | rw [wB_o c_31 (Or.inr (Or.inl c_45))] | rw [wB_o c_31 (Or.inr (Or.inr c_51))] | rw [wB_n c_31 (fun h => h.elim c_39 (fun h => h.elim c_45 c_51))] | rw [wB_1t n_64] | rw [wB_1f n_64] | rw [wB_2t n_77] | rw [wB_2f n_77] | rw [wB_3t c_89] | rw [wB_3f c_89]) (by first | rfl | exact nar_b2i _) hG (Nat.le_of_ble_eq_true rfl) (Nat.le_of_ble_eq_true rfl) dX11_wantedBehind_59
      · --
        refine lv_iload_n hF.1 hF.2.1 dX11_wantedBehind_42 rfl (lv_at hl 1 rfl) ?_
        refine lv_bipush (v := (nI 115)) hF.1 hF.2.1 dX11_wantedBehind_43 (by decide +kernel) ?_
        refine lv_icmp_eq (tgt := 54) hF.1 hF.2.1 dX11_wantedBehind_45 (by decide) (fun c_45 => ?_) (fun c_45 => ?_)
        · --
          refine lv_iconst (v := (nI 2)) hF.1 hF.2.1 dX11_wantedBehind_54 (by decide +kernel) ?_
          refine lv_goto (tgt := 59) hF.1 hF.2.1 dX11_wantedBehind_55 (by decide) ?_
          exact hret _ () _ ls _ _ _ _ (by rw [ek]; first | rw [wB_d c_31] | rw [wB_o c_31 (Or.inl c_39)] | rw [wB_o c_31 (Or.inr (Or.inl c_45))] | rw [wB_o c_31 (Or.inr (Or.inr c_51))] | rw [wB_n c_31 (fun h => h.elim c_39 (fun h => h.elim c_45 c_51))] | rw [wB_1t n_64] | rw [wB_1f n_64] | rw [wB_2t n_77] | rw [wB_2f n_77] | rw [wB_3t c_89] | rw [wB_3f c_89]) (by first | rfl | exact nar_b2i _) hG (Nat.le_of_ble_eq_true rfl) (Nat.le_of_ble_eq_true rfl) dX11_wantedBehind_59
        · --
          refine lv_iload_n hF.1 hF.2.1 dX11_wantedBehind_48 rfl (lv_at hl 1 rfl) ?_
          refine lv_bipush (v := (nI 112)) hF.1 hF.2.1 dX11_wantedBehind_49 (by decide +kernel) ?_
          refine lv_icmp_ne (tgt := 58) hF.1 hF.2.1 dX11_wantedBehind_51 (by decide) (fun c_51 => ?_) (fun c_51 => ?_)
          · --
            refine lv_iconst (v := (nI 4)) hF.1 hF.2.1 dX11_wantedBehind_58 (by decide +kernel) ?_
            exact hret _ () _ ls _ _ _ _ (by rw [ek]; first | rw [wB_d c_31] | rw [wB_o c_31 (Or.inl c_39)] | rw [wB_o c_31 (Or.inr (Or.inl c_45))] | rw [wB_o c_31 (Or.inr (Or.inr c_51))] | rw [wB_n c_31 (fun h => h.elim c_39 (fun h => h.elim c_45 c_51))] | rw [wB_1t n_64] | rw [wB_1f n_64] | rw [wB_2t n_77] | rw [wB_2f n_77] | rw [wB_3t c_89] | rw [wB_3f c_89]) (by first | rfl | exact nar_b2i _) hG (Nat.le_of_ble_eq_true rfl) (Nat.le_of_ble_eq_true rfl) dX11_wantedBehind_59
          · --
            refine lv_iconst (v := (nI 2)) hF.1 hF.2.1 dX11_wantedBehind_54 (by decide +kernel) ?_
            refine lv_goto (tgt := 59) hF.1 hF.2.1 dX11_wantedBehind_55 (by decide) ?_
            exact hret _ () _ ls _ _ _ _ (by rw [ek]; first | rw [wB_d c_31] | rw [wB_o c_31 (Or.inl c_39)] | rw [wB_o c_31 (Or.inr (Or.inl c_45))] | rw [wB_o c_31 (Or.inr (Or.inr c_51))] | rw [wB_n c_31 (fun h => h.elim c_39 (fun h => h.elim c_45 c_51))] | rw [wB_1t n_64] | rw [wB_1f n_64] | rw [wB_2t n_77] | rw [wB_2f n_77] | rw [wB_3t c_89] | rw [wB_3f c_89]) (by first | rfl | exact nar_b2i _) hG (Nat.le_of_ble_eq_true rfl) (Nat.le_of_ble_eq_true rfl) dX11_wantedBehind_59
    · --
      refine lv_iconst (v := (nI 1)) hF.1 hF.2.1 dX11_wantedBehind_34 (by decide +kernel) ?_
      exact hret _ () _ ls _ _ _ _ (by rw [ek]; first | rw [wB_d c_31] | rw [wB_o c_31 (Or.inl c_39)] | rw [wB_o c_31 (Or.inr (Or.inl c_45))] | rw [wB_o c_31 (Or.inr (Or.inr c_51))] | rw [wB_n c_31 (fun h => h.elim c_39 (fun h => h.elim c_45 c_51))] | rw [wB_1t n_64] | rw [wB_1f n_64] | rw [wB_2t n_77] | rw [wB_2f n_77] | rw [wB_3t c_89] | rw [wB_3f c_89]) (by first | rfl | exact nar_b2i _) hG (Nat.le_of_ble_eq_true rfl) (Nat.le_of_ble_eq_true rfl) dX11_wantedBehind_35
  · --
    rw [ek]
    refine lv_tableIn (tgt := 60) hF.1 hF.2.1 dX11_wantedBehind_1 (by decide +kernel) (by decide +kernel) rfl (by decide) ?_
    refine lv_iload_n hF.1 hF.2.1 dX11_wantedBehind_60 rfl (lv_at hl 1 rfl) ?_
    refine k_ci (r_S (As := [.int v]) hF hK hA hG (c_X11_isDigit) (cwS 1 hF.2.2.2.2 gX11_wantedBehind_X11_isDigit rfl rfl rfl (by decide +kernel) ⟨Nat.le_of_ble_eq_true rfl, Nat.le_of_ble_eq_true rfl⟩) rfl hl.1 rfl (lv_room (Nat.le_of_ble_eq_true rfl)) dX11_wantedBehind_61 ⟨Nat.le_of_ble_eq_true rfl, Nat.le_of_ble_eq_true rfl⟩) hG (fun r_61 u_61 H locs hp_61 hG => ?_)
    subst hp_61
    refine lv_if_eq (tgt := 71) hF.1 hF.2.1 dX11_wantedBehind_64 (by decide) (fun c_64 => ?_) (fun c_64 => ?_)
    · --
      have n_64 : (inQ 48 57 v) = false := b2i_z.mp c_64
      refine lv_iconst (v := (nI 4)) hF.1 hF.2.1 dX11_wantedBehind_71 (by decide +kernel) ?_
      exact hret _ () _ ls _ _ _ _ (by rw [ek]; first | rw [wB_d c_31] | rw [wB_o c_31 (Or.inl c_39)] | rw [wB_o c_31 (Or.inr (Or.inl c_45))] | rw [wB_o c_31 (Or.inr (Or.inr c_51))] | rw [wB_n c_31 (fun h => h.elim c_39 (fun h => h.elim c_45 c_51))] | rw [wB_1t n_64] | rw [wB_1f n_64] | rw [wB_2t n_77] | rw [wB_2f n_77] | rw [wB_3t c_89] | rw [wB_3f c_89]) (by first | rfl | exact nar_b2i _) hG (Nat.le_of_ble_eq_true rfl) (Nat.le_of_ble_eq_true rfl) dX11_wantedBehind_72
    · --
      have n_64 : (inQ 48 57 v) = true := b2i_nz.mp c_64
      refine lv_iconst (v := (nI 2)) hF.1 hF.2.1 dX11_wantedBehind_67 (by decide +kernel) ?_
      refine lv_goto (tgt := 72) hF.1 hF.2.1 dX11_wantedBehind_68 (by decide) ?_
      exact hret _ () _ ls _ _ _ _ (by rw [ek]; first | rw [wB_d c_31] | rw [wB_o c_31 (Or.inl c_39)] | rw [wB_o c_31 (Or.inr (Or.inl c_45))] | rw [wB_o c_31 (Or.inr (Or.inr c_51))] | rw [wB_n c_31 (fun h => h.elim c_39 (fun h => h.elim c_45 c_51))] | rw [wB_1t n_64] | rw [wB_1f n_64] | rw [wB_2t n_77] | rw [wB_2f n_77] | rw [wB_3t c_89] | rw [wB_3f c_89]) (by first | rfl | exact nar_b2i _) hG (Nat.le_of_ble_eq_true rfl) (Nat.le_of_ble_eq_true rfl) dX11_wantedBehind_72
  · --
    rw [ek]
    refine lv_tableIn (tgt := 73) hF.1 hF.2.1 dX11_wantedBehind_1 (by decide +kernel) (by decide +kernel) rfl (by decide) ?_
    refine lv_iload_n hF.1 hF.2.1 dX11_wantedBehind_73 rfl (lv_at hl 1 rfl) ?_
    refine k_ci (r_S (As := [.int v]) hF hK hA hG (c_X11_isDigit) (cwS 1 hF.2.2.2.2 gX11_wantedBehind_X11_isDigit rfl rfl rfl (by decide +kernel) ⟨Nat.le_of_ble_eq_true rfl, Nat.le_of_ble_eq_true rfl⟩) rfl hl.1 rfl (lv_room (Nat.le_of_ble_eq_true rfl)) dX11_wantedBehind_74 ⟨Nat.le_of_ble_eq_true rfl, Nat.le_of_ble_eq_true rfl⟩) hG (fun r_74 u_74 H locs hp_74 hG => ?_)
    subst hp_74
    refine lv_if_eq (tgt := 84) hF.1 hF.2.1 dX11_wantedBehind_77 (by decide) (fun c_77 => ?_) (fun c_77 => ?_)
    · --
      have n_77 : (inQ 48 57 v) = false := b2i_z.mp c_77
      refine lv_iconst (v := (nI 4)) hF.1 hF.2.1 dX11_wantedBehind_84 (by decide +kernel) ?_
      exact hret _ () _ ls _ _ _ _ (by rw [ek]; first | rw [wB_d c_31] | rw [wB_o c_31 (Or.inl c_39)] | rw [wB_o c_31 (Or.inr (Or.inl c_45))] | rw [wB_o c_31 (Or.inr (Or.inr c_51))] | rw [wB_n c_31 (fun h => h.elim c_39 (fun h => h.elim c_45 c_51))] | rw [wB_1t n_64] | rw [wB_1f n_64] | rw [wB_2t n_77] | rw [wB_2f n_77] | rw [wB_3t c_89] | rw [wB_3f c_89]) (by first | rfl | exact nar_b2i _) hG (Nat.le_of_ble_eq_true rfl) (Nat.le_of_ble_eq_true rfl) dX11_wantedBehind_85
    · --
      have n_77 : (inQ 48 57 v) = true := b2i_nz.mp c_77
      refine lv_iconst (v := (nI 3)) hF.1 hF.2.1 dX11_wantedBehind_80 (by decide +kernel) ?_
      refine lv_goto (tgt := 85) hF.1 hF.2.1 dX11_wantedBehind_81 (by decide) ?_
      exact hret _ () _ ls _ _ _ _ (by rw [ek]; first | rw [wB_d c_31] | rw [wB_o c_31 (Or.inl c_39)] | rw [wB_o c_31 (Or.inr (Or.inl c_45))] | rw [wB_o c_31 (Or.inr (Or.inr c_51))] | rw [wB_n c_31 (fun h => h.elim c_39 (fun h => h.elim c_45 c_51))] | rw [wB_1t n_64] | rw [wB_1f n_64] | rw [wB_2t n_77] | rw [wB_2f n_77] | rw [wB_3t c_89] | rw [wB_3f c_89]) (by first | rfl | exact nar_b2i _) hG (Nat.le_of_ble_eq_true rfl) (Nat.le_of_ble_eq_true rfl) dX11_wantedBehind_85
  · --
    rw [ek]
    refine lv_tableOut (tgt := 86) hF.1 hF.2.1 dX11_wantedBehind_1 (by decide +kernel) (by decide) ?_
    refine lv_iload_n hF.1 hF.2.1 dX11_wantedBehind_86 rfl (lv_at hl 1 rfl) ?_
    refine lv_bipush (v := (nI 59)) hF.1 hF.2.1 dX11_wantedBehind_87 (by decide +kernel) ?_
    refine lv_icmp_ne (tgt := 96) hF.1 hF.2.1 dX11_wantedBehind_89 (by decide) (fun c_89 => ?_) (fun c_89 => ?_)
    · --
      refine lv_iconst (v := (nI 4)) hF.1 hF.2.1 dX11_wantedBehind_96 (by decide +kernel) ?_
      exact hret _ () _ ls _ _ _ _ (by rw [ek]; first | rw [wB_d c_31] | rw [wB_o c_31 (Or.inl c_39)] | rw [wB_o c_31 (Or.inr (Or.inl c_45))] | rw [wB_o c_31 (Or.inr (Or.inr c_51))] | rw [wB_n c_31 (fun h => h.elim c_39 (fun h => h.elim c_45 c_51))] | rw [wB_1t n_64] | rw [wB_1f n_64] | rw [wB_2t n_77] | rw [wB_2f n_77] | rw [wB_3t c_89] | rw [wB_3f c_89]) (by first | rfl | exact nar_b2i _) hG (Nat.le_of_ble_eq_true rfl) (Nat.le_of_ble_eq_true rfl) dX11_wantedBehind_97
    · --
      refine lv_iconst (v := (nI 0)) hF.1 hF.2.1 dX11_wantedBehind_92 (by decide +kernel) ?_
      refine lv_goto (tgt := 97) hF.1 hF.2.1 dX11_wantedBehind_93 (by decide) ?_
      exact hret _ () _ ls _ _ _ _ (by rw [ek]; first | rw [wB_d c_31] | rw [wB_o c_31 (Or.inl c_39)] | rw [wB_o c_31 (Or.inr (Or.inl c_45))] | rw [wB_o c_31 (Or.inr (Or.inr c_51))] | rw [wB_n c_31 (fun h => h.elim c_39 (fun h => h.elim c_45 c_51))] | rw [wB_1t n_64] | rw [wB_1f n_64] | rw [wB_2t n_77] | rw [wB_2f n_77] | rw [wB_3t c_89] | rw [wB_3f c_89]) (by first | rfl | exact nar_b2i _) hG (Nat.le_of_ble_eq_true rfl) (Nat.le_of_ble_eq_true rfl) dX11_wantedBehind_97

abbrev rmX11_brokenAt : Room := { frames := 2, cells := 0, slots := 0, locals := 42 }
set_option maxHeartbeats 4000000 in
set_option maxRecDepth 100000 in
theorem c_X11_brokenAt {l : Launch} {D : va_G} {cA : Nat → ClassId} {A : Nat → Prop}  {ob : Nat → Nat} {mb ss sh sp : Nat → Int32} {mt : Nat → Int64} {rc n o : Nat} {dr : Nat → Option Nat} {n1 o1 : Nat} {dr1 : Nat → Option Nat} {n2 o2 : Nat} {dr2 dk rk : Nat → Option Nat} {kt : Nat → Int32} {tk : Int32} {pool : va_W} {b arr qr qa : Nat} {z : Nat × Nat × (Nat → Int32)} (hR : RW cA pool b arr qr qa z.1 z.2.1 z.2.2) : Met l yX11_brokenAt wsX11_brokenAt rmX11_brokenAt (va_Pc [.ref b] (Pre D cA A (XW cA ob mb ss sh sp mt rc n o dr n1 o1 dr1 n2 o2 dr2 dk rk kt tk pool))) (va_Qi (fun r _ => r = brI (p1 z.2.2 z.2.1 (z.2.1 + 1) 0 0)) (fun u t => Wd D A ((fun (_ : Unit) => XW cA ob mb ss sh sp mt rc n o dr n1 o1 dr1 n2 o2 dr2 dk rk kt tk pool) u) t) A) (0) (0) A := by
  refine k_ofi (S := Unit) (F := fun (_ : Unit) => XW cA ob mb ss sh sp mt rc n o dr n1 o1 dr1 n2 o2 dr2 dk rk kt tk pool) (cc := cX11_brokenAt) (maxL := 3) (by decide) rfl (Nat.le_of_ble_eq_true rfl) ?_
  intro p e s m args below meth c Q hF hini hK hA hG hret ls hl
  have hl : lv_has ls 3 [(0, .ref b)] := hl
  have hz100 := hR.2.2.1
  refine lv_iconst (v := (nI 0)) hF.1 hF.2.1 dX11_brokenAt_0 (by decide +kernel) ?_
  refine lv_istore_n (lv' := [(1, .int (nI 0)), (0, .ref b)]) hF.1 hF.2.1 dX11_brokenAt_1 rfl hl (by decide) rfl (fun ls hl => ?_)
  refine lv_iconst (v := (nI 0)) hF.1 hF.2.1 dX11_brokenAt_2 (by decide +kernel) ?_
  refine lv_istore_n (lv' := [(2, .int (nI 0)), (1, .int (nI 0)), (0, .ref b)]) hF.1 hF.2.1 dX11_brokenAt_3 rfl hl (by decide) rfl (fun ls hl => ?_)
  have lp4 : ∀ (fuel : Nat), ∀ (i : Nat), (hi : i ≤ z.2.1) → (hno : ∀ q, q ≤ i → wst z.2.2 q < 4) → (z.2.1 - i) < fuel → ∀ (H : Heap) (locs : List Loc), Gd D A (XW cA ob mb ss sh sp mt rc n o dr n1 o1 dr1 n2 o2 dr2 dk rk kt tk pool) s.heap H locs → ∀ ls : Array Slot, lv_has ls 3 [(0, .ref b), (1, .int (nI (wst z.2.2 i))), (2, .int (nI i))] → W p l e rmX11_brokenAt s m args below meth c H locs (0) (0) Q (F0 m 4 ls []) := by
    intro fuel
    induction fuel with
    | zero => intro i hi hno hmu; exact absurd hmu (Nat.not_lt_zero _)
    | succ fuel ih4 =>
      intro i hi hno hmu H locs hG ls hl
      have hwi := hno i (Nat.le_refl i)
      refine lv_iload_n hF.1 hF.2.1 dX11_brokenAt_4 rfl (lv_at hl 2 rfl) ?_
      refine lv_aload_n hF.1 hF.2.1 dX11_brokenAt_5 rfl (lv_at hl 0 rfl) ?_
      refine k_get (C := RX6) (T := TX6) (N := 3) hF hK hG (fun _ h => List.mem_cons_of_mem _ (List.mem_append_right _ h)) (qr + 16) hR.c16.1 rfl 1 (by decide) (List.mem_of_getElem? (i := 1) rfl) (fun _ h9 => h9) rfl dX11_brokenAt_6 ?_
      refine lv_icmp_ge (tgt := 35) hF.1 hF.2.1 dX11_brokenAt_9 (by decide) (fun c_9 => ?_) (fun c_9 => ?_)
      · --
        have n_9 : z.2.1 ≤ i := (nI_leI (a := z.2.1) (b := i) (by omega) (by omega)).mp c_9
        refine lv_iload_n hF.1 hF.2.1 dX11_brokenAt_35 rfl (lv_at hl 1 rfl) ?_
        refine lv_if_ne (tgt := 51) hF.1 hF.2.1 dX11_brokenAt_36 (by decide) (fun c_36 => ?_) (fun c_36 => ?_)
        · --
          have n_36 : ¬ (wst z.2.2 i = 0) := fun zz9 => c_36 ((nI_eq (a := wst z.2.2 i) (b := 0) (by omega) (by omega)).mpr zz9)
          refine lv_aload_n hF.1 hF.2.1 dX11_brokenAt_51 rfl (lv_at hl 0 rfl) ?_
          refine k_get (C := RX6) (T := TX6) (N := 3) hF hK hG (fun _ h => List.mem_cons_of_mem _ (List.mem_append_right _ h)) (qr + 16) hR.c16.1 rfl 1 (by decide) (List.mem_of_getElem? (i := 1) rfl) (fun _ h9 => h9) rfl dX11_brokenAt_52 ?_
          exact hret _ () _ ls _ _ _ _ (by obtain rfl : i = z.2.1 := (by omega); first | (obtain ⟨K, hKt⟩ := brk_B hno n_36 (by omega); rw [hKt]; rfl) | (rw [brk_C hno (Or.inl n_36)]; rfl) | (rw [brk_C hno (Or.inr (by omega))]; rfl)) (by first | rfl | exact nar_b2i _) hG (Nat.le_of_ble_eq_true rfl) (Nat.le_of_ble_eq_true rfl) dX11_brokenAt_55
        · --
          have n_36 : wst z.2.2 i = 0 := (nI_eq (a := wst z.2.2 i) (b := 0) (by omega) (by omega)).mp c_36
          refine lv_aload_n hF.1 hF.2.1 dX11_brokenAt_39 rfl (lv_at hl 0 rfl) ?_
          refine k_get (C := RX6) (T := TX6) (N := 3) hF hK hG (fun _ h => List.mem_cons_of_mem _ (List.mem_append_right _ h)) (qr + 16) hR.c16.1 rfl 1 (by decide) (List.mem_of_getElem? (i := 1) rfl) (fun _ h9 => h9) rfl dX11_brokenAt_40 ?_
          refine lv_if_le (tgt := 51) hF.1 hF.2.1 dX11_brokenAt_43 (by decide) (fun c_43 => ?_) (fun c_43 => ?_)
          · --
            have n_43 : z.2.1 ≤ 0 := (nI_leI (a := z.2.1) (b := 0) (by omega) (by omega)).mp c_43
            refine lv_aload_n hF.1 hF.2.1 dX11_brokenAt_51 rfl (lv_at hl 0 rfl) ?_
            refine k_get (C := RX6) (T := TX6) (N := 3) hF hK hG (fun _ h => List.mem_cons_of_mem _ (List.mem_append_right _ h)) (qr + 16) hR.c16.1 rfl 1 (by decide) (List.mem_of_getElem? (i := 1) rfl) (fun _ h9 => h9) rfl dX11_brokenAt_52 ?_
            exact hret _ () _ ls _ _ _ _ (by obtain rfl : i = z.2.1 := (by omega); first | (obtain ⟨K, hKt⟩ := brk_B hno n_36 (by omega); rw [hKt]; rfl) | (rw [brk_C hno (Or.inl n_36)]; rfl) | (rw [brk_C hno (Or.inr (by omega))]; rfl)) (by first | rfl | exact nar_b2i _) hG (Nat.le_of_ble_eq_true rfl) (Nat.le_of_ble_eq_true rfl) dX11_brokenAt_55
          · --
            have n_43 : ¬ (z.2.1 ≤ 0) := fun zz9 => c_43 ((nI_leI (a := z.2.1) (b := 0) (by omega) (by omega)).mpr zz9)
            refine lv_bipush (v := (-4)) hF.1 hF.2.1 dX11_brokenAt_46 (by decide +kernel) ?_
            refine lv_goto (tgt := 55) hF.1 hF.2.1 dX11_brokenAt_48 (by decide) ?_
            exact hret _ () _ ls _ _ _ _ (by obtain rfl : i = z.2.1 := (by omega); first | (obtain ⟨K, hKt⟩ := brk_B hno n_36 (by omega); rw [hKt]; rfl) | (rw [brk_C hno (Or.inl n_36)]; rfl) | (rw [brk_C hno (Or.inr (by omega))]; rfl)) (by first | rfl | exact nar_b2i _) hG (Nat.le_of_ble_eq_true rfl) (Nat.le_of_ble_eq_true rfl) dX11_brokenAt_55
      · --
        have n_9 : ¬ (z.2.1 ≤ i) := fun zz9 => c_9 ((nI_leI (a := z.2.1) (b := i) (by omega) (by omega)).mpr zz9)
        refine lv_iload_n hF.1 hF.2.1 dX11_brokenAt_12 rfl (lv_at hl 1 rfl) ?_
        refine lv_aload_n hF.1 hF.2.1 dX11_brokenAt_13 rfl (lv_at hl 0 rfl) ?_
        refine lv_iload_n hF.1 hF.2.1 dX11_brokenAt_14 rfl (lv_at hl 2 rfl) ?_
        refine k_ci (r_V (As := [.int (nI i)]) hF hK hA hG (c_X6_valueAt hR.c16) (cwV 1 hF.2.2.2.2 gX11_brokenAt_X6_valueAt rfl rfl rfl (by decide +kernel) ⟨Nat.le_of_ble_eq_true rfl, Nat.le_of_ble_eq_true rfl⟩) (qr + 16) hR.c16.1 rfl rfl rfl hl.1 rfl (lv_room (Nat.le_of_ble_eq_true rfl)) dX11_brokenAt_15 ⟨Nat.le_of_ble_eq_true rfl, Nat.le_of_ble_eq_true rfl⟩) hG (fun r_15 u_15 H locs hp_15 hG => ?_)
        rw [getR_t hR.2.2.1 (by omega)] at hp_15
        subst hp_15
        refine k_ci (r_S (As := [.int (nI (wst z.2.2 i)), .int (z.2.2 (i))]) hF hK hA hG (c_X11_wantedBehind (hno i (Nat.le_refl i))) (cwS 2 hF.2.2.2.2 gX11_brokenAt_X11_wantedBehind rfl rfl rfl (by decide +kernel) ⟨Nat.le_of_ble_eq_true rfl, Nat.le_of_ble_eq_true rfl⟩) rfl hl.1 rfl (lv_room (Nat.le_of_ble_eq_true rfl)) dX11_brokenAt_18 ⟨Nat.le_of_ble_eq_true rfl, Nat.le_of_ble_eq_true rfl⟩) hG (fun r_18 u_18 H locs hp_18 hG => ?_)
        subst hp_18
        refine lv_istore_n (lv' := [(1, .int (nI (wst z.2.2 (i + 1)))), (0, .ref b), (2, .int (nI i))]) hF.1 hF.2.1 dX11_brokenAt_21 rfl hl (by decide) rfl (fun ls hl => ?_)
        have hwl : wst z.2.2 (i + 1) ≤ 4 := wB_le _ _
        refine lv_iload_n hF.1 hF.2.1 dX11_brokenAt_22 rfl (lv_at hl 0 rfl) ?_
        refine lv_iconst (v := (nI 4)) hF.1 hF.2.1 dX11_brokenAt_23 (by decide +kernel) ?_
        refine lv_icmp_ne (tgt := 29) hF.1 hF.2.1 dX11_brokenAt_24 (by decide) (fun c_24 => ?_) (fun c_24 => ?_)
        · --
          have n_24 : ¬ (wst z.2.2 (i + 1) = 4) := fun zz9 => c_24 ((nI_eq (a := wst z.2.2 (i + 1)) (b := 4) (by omega) (by omega)).mpr zz9)
          refine lv_iinc (v := (nI (i + 1))) (lv' := [(2, .int (nI (i + 1))), (1, .int (nI (wst z.2.2 (i + 1)))), (0, .ref b)]) hF.1 hF.2.1 dX11_brokenAt_29 hl (k := 2) rfl (nI_inc _ _) (by decide) rfl (fun ls hl => ?_)
          refine lv_goto (tgt := 4) hF.1 hF.2.1 dX11_brokenAt_32 (by decide) ?_
          exact ih4 (i + 1) (by omega) (fun q h => by by_cases e9 : q = i + 1; rw [e9]; omega; exact hno q (by omega)) (by omega) _ _ hG ls (lv_sub hl [2, 1, 0] rfl)
        · --
          have n_24 : wst z.2.2 (i + 1) = 4 := (nI_eq (a := wst z.2.2 (i + 1)) (b := 4) (by omega) (by omega)).mp c_24
          refine lv_iload_n hF.1 hF.2.1 dX11_brokenAt_27 rfl (lv_at hl 2 rfl) ?_
          exact hret _ () _ ls _ _ _ _ (by rw [brk_A (i := i) (by omega) hno n_24]; rfl) (by first | rfl | exact nar_b2i _) hG (Nat.le_of_ble_eq_true rfl) (Nat.le_of_ble_eq_true rfl) dX11_brokenAt_28
  exact lp4 _ (0) (by omega) (fun q h => by rw [Nat.le_zero.mp h]; exact (by decide : (0 : Nat) < 4)) (Nat.lt_succ_self _) _ _ hG ls (lv_sub hl [2, 1, 0] rfl)

abbrev rmX11_carriedOut : Room := { frames := 6, cells := 1, slots := 1, locals := 129 }
set_option maxHeartbeats 4000000 in
set_option maxRecDepth 100000 in
theorem c_X11_carriedOut {l : Launch} {D : va_G} {cA : Nat → ClassId} {A : Nat → Prop}  {ob : Nat → Nat} {mb ss sh sp : Nat → Int32} {mt : Nat → Int64} {rc n o : Nat} {dr : Nat → Option Nat} {n1 o1 : Nat} {dr1 : Nat → Option Nat} {n2 o2 : Nat} {dr2 dk rk : Nat → Option Nat} {kt : Nat → Int32} {tk : Int32} {pool : va_W} {kd2 fg2 : Nat → Nat} (hM : WI pool n2 o2 dr2 kd2 fg2) {b arr qr qa : Nat} {z : Nat × Nat × (Nat → Int32)} (hR : RW cA pool b arr qr qa z.1 z.2.1 z.2.2) {po : Nat} (hok : (rdS z.2.2 z.2.1 po).1 = true) : Met l yX11_carriedOut wsX11_carriedOut rmX11_carriedOut (va_Pc [.ref (ob 6), .ref b, .int (nI po)] (Pre D cA A (XW cA ob mb ss sh sp mt rc n o dr n1 o1 dr1 n2 o2 dr2 dk rk kt tk pool))) (va_Qi (fun r (u : Nat × Nat × (Nat → Option Nat) × va_W) => (exU z.2.2 po (n2, o2, kd2, fg2) = none ∧ r = b2i false ∧ ∃ k3 f3, WI (pool ++ u.2.2.2) u.1 u.2.1 u.2.2.1 k3 f3) ∨ ∃ w, exU z.2.2 po (n2, o2, kd2, fg2) = some w ∧ r = b2i true ∧ u.1 = w.1 ∧ u.2.1 = w.2.1 ∧ WI (pool ++ u.2.2.2) w.1 w.2.1 u.2.2.1 w.2.2.1 w.2.2.2) (fun u t => Wd D A ((fun (u : Nat × Nat × (Nat → Option Nat) × va_W) => XW cA ob mb ss sh sp mt rc n o dr n1 o1 dr1 u.1 u.2.1 u.2.2.1 dk rk kt tk (pool ++ u.2.2.2)) u) t) A) (1) (1) A := by
  refine k_ofi (S := Nat × Nat × (Nat → Option Nat) × va_W) (F := fun (u : Nat × Nat × (Nat → Option Nat) × va_W) => XW cA ob mb ss sh sp mt rc n o dr n1 o1 dr1 u.1 u.2.1 u.2.2.1 dk rk kt tk (pool ++ u.2.2.2)) (cc := cX11_carriedOut) (maxL := 4) (by decide) rfl (Nat.le_of_ble_eq_true rfl) ?_
  intro p e s m args below meth c Q hF hini hK hA hG hret ls hl
  have hl : lv_has ls 4 [(0, .ref (ob 6)), (1, .ref b), (2, .int (nI po))] := hl
  have hn2 : n2 ≤ 6 := hM.1
  have ho2 : o2 < 64 := hM.o64
  have hz100 := hR.2.2.1
  obtain ⟨k1, k2, k3, k4, k5, k6⟩ := rdS_ok hok
  have g0 : z.2.2 (po + 1) - nI 48 = nI (dgN (z.2.2 (po + 1))) ∧ dgN (z.2.2 (po + 1)) < 10 := dg_n (k5 0 (by omega))
  have ha10 := g0.2
  refine lv_aload_n hF.1 hF.2.1 dX11_carriedOut_0 rfl (lv_at hl 1 rfl) ?_
  refine lv_iload_n hF.1 hF.2.1 dX11_carriedOut_1 rfl (lv_at hl 2 rfl) ?_
  refine lv_iconst (v := (nI 1)) hF.1 hF.2.1 dX11_carriedOut_2 (by decide +kernel) ?_
  refine lv_iadd hF.1 hF.2.1 dX11_carriedOut_3 ?_
  rw [nI_add]
  refine k_ci (r_V (As := [.int (nI (po + 1))]) hF hK hA hG (c_X6_valueAt hR.c16) (cwV 1 hF.2.2.2.2 gX11_carriedOut_X6_valueAt rfl rfl rfl (by decide +kernel) ⟨Nat.le_of_ble_eq_true rfl, Nat.le_of_ble_eq_true rfl⟩) (qr + 16) hR.c16.1 rfl rfl rfl hl.1 rfl (lv_room (Nat.le_of_ble_eq_true rfl)) dX11_carriedOut_4 ⟨Nat.le_of_ble_eq_true rfl, Nat.le_of_ble_eq_true rfl⟩) hG (fun r_4 u_4 H locs hp_4 hG => ?_)
  rw [getR_t hR.2.2.1 (by omega)] at hp_4
  subst hp_4
  refine lv_bipush (v := (nI 48)) hF.1 hF.2.1 dX11_carriedOut_7 (by decide +kernel) ?_
  refine lv_isub hF.1 hF.2.1 dX11_carriedOut_9 ?_
  rw [g0.1]
  refine lv_istore_n (lv' := [(3, .int (nI (dgN (z.2.2 (po + 1))))), (0, .ref (ob 6)), (1, .ref b), (2, .int (nI po))]) hF.1 hF.2.1 dX11_carriedOut_10 rfl hl (by decide) rfl (fun ls hl => ?_)
  refine lv_aload_n hF.1 hF.2.1 dX11_carriedOut_11 rfl (lv_at hl 2 rfl) ?_
  refine lv_iload_n hF.1 hF.2.1 dX11_carriedOut_12 rfl (lv_at hl 3 rfl) ?_
  refine k_ci (r_V (As := [.int (nI po)]) hF hK hA hG (c_X6_valueAt hR.c16) (cwV 1 hF.2.2.2.2 gX11_carriedOut_X6_valueAt rfl rfl rfl (by decide +kernel) ⟨Nat.le_of_ble_eq_true rfl, Nat.le_of_ble_eq_true rfl⟩) (qr + 16) hR.c16.1 rfl rfl rfl hl.1 rfl (lv_room (Nat.le_of_ble_eq_true rfl)) dX11_carriedOut_13 ⟨Nat.le_of_ble_eq_true rfl, Nat.le_of_ble_eq_true rfl⟩) hG (fun r_13 u_13 H locs hp_13 hG => ?_)
  rw [getR_t hR.2.2.1 (by omega)] at hp_13
  subst hp_13
  refine sw_by (nI 100) (fun e16_100 => ?_) (fun e16_100 => ?_)
  · --
    refine lv_lookup (tgt := 52) hF.1 hF.2.1 dX11_carriedOut_16 (by decide +kernel) rfl (by decide) ?_
    have hm2 : manyC (z.2.2 (po)) = 2 := by unfold manyC; rw [if_pos e16_100]
    have g1 : z.2.2 (po + 2) - nI 48 = nI (dgN (z.2.2 (po + 2))) ∧ dgN (z.2.2 (po + 2)) < 10 := dg_n (k5 1 (by omega))
    refine lv_iload_n hF.1 hF.2.1 dX11_carriedOut_52 rfl (lv_at hl 0 rfl) ?_
    refine lv_bipush (v := (nI 8)) hF.1 hF.2.1 dX11_carriedOut_53 (by decide +kernel) ?_
    refine lv_icmp_ge (tgt := 86) hF.1 hF.2.1 dX11_carriedOut_55 (by decide) (fun c_55 => ?_) (fun c_55 => ?_)
    · --
      have n_55 : 8 ≤ dgN (z.2.2 (po + 1)) := (nI_leI (a := 8) (b := dgN (z.2.2 (po + 1))) (by omega) (by omega)).mp c_55
      have hG : Gd D A (XW cA ob mb ss sh sp mt rc n o dr n1 o1 dr1 n2 o2 dr2 dk rk kt tk (pool ++ [])) s.heap H locs := by rw [List.append_nil]; exact hG
      refine lv_iconst (v := (nI 0)) hF.1 hF.2.1 dX11_carriedOut_86 (by decide +kernel) ?_
      exact hret _ (_, _, _, _) _ ls _ _ _ _ (by first | exact Or.inr ⟨_, exN_d e16_100 (by omega) h6, rfl, rfl, rfl, (hM.push (l := [_])).add h6 hdn⟩ | exact Or.inl ⟨exN_dn e16_100 (Or.inr (by omega)), rfl, _, _, hM.push⟩ | exact Or.inl ⟨exN_dn e16_100 (Or.inl (by omega)), rfl, _, _, by rw [List.append_nil]; exact hM⟩) (by first | rfl | exact nar_b2i _) hG (Nat.le_of_ble_eq_true rfl) (Nat.le_of_ble_eq_true rfl) dX11_carriedOut_87
    · --
      have n_55 : ¬ (8 ≤ dgN (z.2.2 (po + 1))) := fun zz9 => c_55 ((nI_leI (a := 8) (b := dgN (z.2.2 (po + 1))) (by omega) (by omega)).mpr zz9)
      rcases Nat.lt_or_ge n2 6 with h6 | h6
      · --
        refine lv_aload_n hF.1 hF.2.1 dX11_carriedOut_58 rfl (lv_at hl 1 rfl) ?_
        refine k_get (C := RX11) (T := TX11) (N := 8) hF hK hG (fun _ h => List.mem_cons_of_mem _ (List.mem_append_left _ (List.mem_append_left _ (List.mem_append_left _ (List.mem_append_left _ (List.mem_append_left _ (List.mem_append_left _ (List.mem_append_left _ (List.mem_append_left _ (List.mem_append_left _ (List.mem_append_left _ (List.mem_append_right _ h)))))))))))) 6 rfl rfl 2 (by decide) (List.mem_of_getElem? (i := 1) rfl) (fun _ h9 => h9) rfl dX11_carriedOut_59 ?_
        refine lv_iload_n hF.1 hF.2.1 dX11_carriedOut_62 rfl (lv_at hl 0 rfl) ?_
        refine lv_aload_n hF.1 hF.2.1 dX11_carriedOut_63 rfl (lv_at hl 2 rfl) ?_
        refine lv_iload_n hF.1 hF.2.1 dX11_carriedOut_64 rfl (lv_at hl 3 rfl) ?_
        refine lv_iconst (v := (nI 2)) hF.1 hF.2.1 dX11_carriedOut_65 (by decide +kernel) ?_
        refine lv_iadd hF.1 hF.2.1 dX11_carriedOut_66 ?_
        rw [nI_add]
        refine k_ci (r_V (As := [.int (nI (po + 2))]) hF hK hA hG (c_X6_valueAt hR.c16) (cwV 1 hF.2.2.2.2 gX11_carriedOut_X6_valueAt rfl rfl rfl (by decide +kernel) ⟨Nat.le_of_ble_eq_true rfl, Nat.le_of_ble_eq_true rfl⟩) (qr + 16) hR.c16.1 rfl rfl rfl hl.1 rfl (lv_room (Nat.le_of_ble_eq_true rfl)) dX11_carriedOut_67 ⟨Nat.le_of_ble_eq_true rfl, Nat.le_of_ble_eq_true rfl⟩) hG (fun r_67 u_67 H locs hp_67 hG => ?_)
        rw [getR_t hR.2.2.1 (by omega)] at hp_67
        subst hp_67
        refine lv_bipush (v := (nI 48)) hF.1 hF.2.1 dX11_carriedOut_70 (by decide +kernel) ?_
        refine lv_isub hF.1 hF.2.1 dX11_carriedOut_72 ?_
        rw [g1.1]
        refine k_cq (r_S (As := [.int (nI (dgN (z.2.2 (po + 1)))), .int (nI (dgN (z.2.2 (po + 2))))]) hF hK hA hG (c_X11_made (show dgN (z.2.2 (po + 1)) < 8 by omega)) (cwS 2 hF.2.2.2.2 gX11_carriedOut_X11_made rfl rfl rfl (by decide +kernel) ⟨Nat.le_of_ble_eq_true rfl, Nat.le_of_ble_eq_true rfl⟩) rfl hl.1 rfl (lv_room (Nat.le_of_ble_eq_true rfl)) dX11_carriedOut_73 ⟨Nat.le_of_ble_eq_true rfl, Nat.le_of_ble_eq_true rfl⟩) hG (fun r_73 u_73 H locs hp_73 hG => ?_)
        obtain rfl := hp_73
        have hG : Gd D A (XW cA ob mb ss sh sp mt rc n o dr n1 o1 dr1 n2 o2 dr2 dk rk kt tk (pool ++ [(u_73, .inr (kcI (dgN (z.2.2 (po + 1))), [.int (nI (dgN (z.2.2 (po + 2))))]))])) s.heap H locs := hG
        have hdn : DR (pool ++ [(u_73, .inr (kcI (dgN (z.2.2 (po + 1))), [.int (nI (dgN (z.2.2 (po + 2))))]))]) u_73 (dgN (z.2.2 (po + 1))) (dgN (z.2.2 (po + 2))) := ⟨by omega, g1.2, pool.length, at_last pool _⟩
        show W p l e rmX11_carriedOut s m args below meth c _ _ _ _ Q (F0 m 76 ls (.ref u_73 :: [.ref (ob 9)]))
        refine k_ci (r_V (As := [.ref u_73]) hF hK hA hG (c_X9_add_t (hM.push (l := [_])).w2 hdn.c16 h6) (cwV 1 hF.2.2.2.2 gX11_carriedOut_X9_add rfl rfl rfl (by decide +kernel) ⟨Nat.le_of_ble_eq_true rfl, Nat.le_of_ble_eq_true rfl⟩) 9 rfl rfl rfl rfl hl.1 rfl (lv_room (Nat.le_of_ble_eq_true rfl)) dX11_carriedOut_76 ⟨Nat.le_of_ble_eq_true rfl, Nat.le_of_ble_eq_true rfl⟩) hG (fun r_76 u_76 H locs hp_76 hG => ?_)
        subst hp_76
        have hG : Gd D A (XW cA ob mb ss sh sp mt rc n o dr n1 o1 dr1 (n2 + 1) o2 (va_up dr2 n2 (some u_73)) dk rk kt tk (pool ++ [(u_73, .inr (kcI (dgN (z.2.2 (po + 1))), [.int (nI (dgN (z.2.2 (po + 2))))]))])) s.heap H locs := hG
        refine lv_if_eq (tgt := 86) hF.1 hF.2.1 dX11_carriedOut_79 (by decide) (fun c_79 => absurd c_79 (by decide +kernel)) (fun c_79 => ?_)
        refine lv_iconst (v := (nI 1)) hF.1 hF.2.1 dX11_carriedOut_82 (by decide +kernel) ?_
        refine lv_goto (tgt := 87) hF.1 hF.2.1 dX11_carriedOut_83 (by decide) ?_
        exact hret _ (_, _, _, _) _ ls _ _ _ _ (by first | exact Or.inr ⟨_, exN_d e16_100 (by omega) h6, rfl, rfl, rfl, (hM.push (l := [_])).add h6 hdn⟩ | exact Or.inl ⟨exN_dn e16_100 (Or.inr (by omega)), rfl, _, _, hM.push⟩ | exact Or.inl ⟨exN_dn e16_100 (Or.inl (by omega)), rfl, _, _, by rw [List.append_nil]; exact hM⟩) (by first | rfl | exact nar_b2i _) hG (Nat.le_of_ble_eq_true rfl) (Nat.le_of_ble_eq_true rfl) dX11_carriedOut_87
      · --
        refine lv_aload_n hF.1 hF.2.1 dX11_carriedOut_58 rfl (lv_at hl 1 rfl) ?_
        refine k_get (C := RX11) (T := TX11) (N := 8) hF hK hG (fun _ h => List.mem_cons_of_mem _ (List.mem_append_left _ (List.mem_append_left _ (List.mem_append_left _ (List.mem_append_left _ (List.mem_append_left _ (List.mem_append_left _ (List.mem_append_left _ (List.mem_append_left _ (List.mem_append_left _ (List.mem_append_left _ (List.mem_append_right _ h)))))))))))) 6 rfl rfl 2 (by decide) (List.mem_of_getElem? (i := 1) rfl) (fun _ h9 => h9) rfl dX11_carriedOut_59 ?_
        refine lv_iload_n hF.1 hF.2.1 dX11_carriedOut_62 rfl (lv_at hl 0 rfl) ?_
        refine lv_aload_n hF.1 hF.2.1 dX11_carriedOut_63 rfl (lv_at hl 2 rfl) ?_
        refine lv_iload_n hF.1 hF.2.1 dX11_carriedOut_64 rfl (lv_at hl 3 rfl) ?_
        refine lv_iconst (v := (nI 2)) hF.1 hF.2.1 dX11_carriedOut_65 (by decide +kernel) ?_
        refine lv_iadd hF.1 hF.2.1 dX11_carriedOut_66 ?_
        rw [nI_add]
        refine k_ci (r_V (As := [.int (nI (po + 2))]) hF hK hA hG (c_X6_valueAt hR.c16) (cwV 1 hF.2.2.2.2 gX11_carriedOut_X6_valueAt rfl rfl rfl (by decide +kernel) ⟨Nat.le_of_ble_eq_true rfl, Nat.le_of_ble_eq_true rfl⟩) (qr + 16) hR.c16.1 rfl rfl rfl hl.1 rfl (lv_room (Nat.le_of_ble_eq_true rfl)) dX11_carriedOut_67 ⟨Nat.le_of_ble_eq_true rfl, Nat.le_of_ble_eq_true rfl⟩) hG (fun r_67 u_67 H locs hp_67 hG => ?_)
        rw [getR_t hR.2.2.1 (by omega)] at hp_67
        subst hp_67
        refine lv_bipush (v := (nI 48)) hF.1 hF.2.1 dX11_carriedOut_70 (by decide +kernel) ?_
        refine lv_isub hF.1 hF.2.1 dX11_carriedOut_72 ?_
        rw [g1.1]
        refine k_cq (r_S (As := [.int (nI (dgN (z.2.2 (po + 1)))), .int (nI (dgN (z.2.2 (po + 2))))]) hF hK hA hG (c_X11_made (show dgN (z.2.2 (po + 1)) < 8 by omega)) (cwS 2 hF.2.2.2.2 gX11_carriedOut_X11_made rfl rfl rfl (by decide +kernel) ⟨Nat.le_of_ble_eq_true rfl, Nat.le_of_ble_eq_true rfl⟩) rfl hl.1 rfl (lv_room (Nat.le_of_ble_eq_true rfl)) dX11_carriedOut_73 ⟨Nat.le_of_ble_eq_true rfl, Nat.le_of_ble_eq_true rfl⟩) hG (fun r_73 u_73 H locs hp_73 hG => ?_)
        obtain rfl := hp_73
        have hG : Gd D A (XW cA ob mb ss sh sp mt rc n o dr n1 o1 dr1 n2 o2 dr2 dk rk kt tk (pool ++ [(u_73, .inr (kcI (dgN (z.2.2 (po + 1))), [.int (nI (dgN (z.2.2 (po + 2))))]))])) s.heap H locs := hG
        have hdn : DR (pool ++ [(u_73, .inr (kcI (dgN (z.2.2 (po + 1))), [.int (nI (dgN (z.2.2 (po + 2))))]))]) u_73 (dgN (z.2.2 (po + 1))) (dgN (z.2.2 (po + 2))) := ⟨by omega, g1.2, pool.length, at_last pool _⟩
        show W p l e rmX11_carriedOut s m args below meth c _ _ _ _ Q (F0 m 76 ls (.ref u_73 :: [.ref (ob 9)]))
        refine k_ci (r_V (As := [.ref u_73]) hF hK hA hG (c_X9_add_f (hM.push (l := [_])).w2 (by omega)) (cwV 1 hF.2.2.2.2 gX11_carriedOut_X9_add rfl rfl rfl (by decide +kernel) ⟨Nat.le_of_ble_eq_true rfl, Nat.le_of_ble_eq_true rfl⟩) 9 rfl rfl rfl rfl hl.1 rfl (lv_room (Nat.le_of_ble_eq_true rfl)) dX11_carriedOut_76 ⟨Nat.le_of_ble_eq_true rfl, Nat.le_of_ble_eq_true rfl⟩) hG (fun r_76 u_76 H locs hp_76 hG => ?_)
        subst hp_76
        refine lv_if_eq (tgt := 86) hF.1 hF.2.1 dX11_carriedOut_79 (by decide) (fun c_79 => ?_) (fun c_79 => absurd rfl c_79)
        refine lv_iconst (v := (nI 0)) hF.1 hF.2.1 dX11_carriedOut_86 (by decide +kernel) ?_
        exact hret _ (_, _, _, _) _ ls _ _ _ _ (by first | exact Or.inr ⟨_, exN_d e16_100 (by omega) h6, rfl, rfl, rfl, (hM.push (l := [_])).add h6 hdn⟩ | exact Or.inl ⟨exN_dn e16_100 (Or.inr (by omega)), rfl, _, _, hM.push⟩ | exact Or.inl ⟨exN_dn e16_100 (Or.inl (by omega)), rfl, _, _, by rw [List.append_nil]; exact hM⟩) (by first | rfl | exact nar_b2i _) hG (Nat.le_of_ble_eq_true rfl) (Nat.le_of_ble_eq_true rfl) dX11_carriedOut_87
  refine sw_by (nI 111) (fun e16_111 => ?_) (fun e16_111 => ?_)
  · --
    refine lv_lookup (tgt := 88) hF.1 hF.2.1 dX11_carriedOut_16 (by decide +kernel) rfl (by decide) ?_
    refine lv_aload_n hF.1 hF.2.1 dX11_carriedOut_88 rfl (lv_at hl 1 rfl) ?_
    refine k_get (C := RX11) (T := TX11) (N := 8) hF hK hG (fun _ h => List.mem_cons_of_mem _ (List.mem_append_left _ (List.mem_append_left _ (List.mem_append_left _ (List.mem_append_left _ (List.mem_append_left _ (List.mem_append_left _ (List.mem_append_left _ (List.mem_append_left _ (List.mem_append_left _ (List.mem_append_left _ (List.mem_append_right _ h)))))))))))) 6 rfl rfl 2 (by decide) (List.mem_of_getElem? (i := 1) rfl) (fun _ h9 => h9) rfl dX11_carriedOut_89 ?_
    refine lv_iload_n hF.1 hF.2.1 dX11_carriedOut_92 rfl (lv_at hl 0 rfl) ?_
    refine lv_iconst (v := (nI 1)) hF.1 hF.2.1 dX11_carriedOut_93 (by decide +kernel) ?_
    refine k_ci (r_V (As := [.int (nI (dgN (z.2.2 (po + 1)))), .int (nI 1)]) hF hK hA hG (c_X9_becomes hM.w2 (op := true)) (cwV 2 hF.2.2.2.2 gX11_carriedOut_X9_becomes rfl rfl rfl (by decide +kernel) ⟨Nat.le_of_ble_eq_true rfl, Nat.le_of_ble_eq_true rfl⟩) 9 rfl rfl rfl rfl hl.1 rfl (lv_room (Nat.le_of_ble_eq_true rfl)) dX11_carriedOut_94 ⟨Nat.le_of_ble_eq_true rfl, Nat.le_of_ble_eq_true rfl⟩) hG (fun r_94 u_94 H locs hp_94 hG => ?_)
    subst hp_94
    have hG : Gd D A (XW cA ob mb ss sh sp mt rc n o dr n1 o1 dr1 n2 (becO n2 (nI (dgN (z.2.2 (po + 1)))) true o2) dr2 dk rk kt tk pool) s.heap H locs := hG
    have hG : Gd D A (XW cA ob mb ss sh sp mt rc n o dr n1 o1 dr1 n2 (becO n2 (nI (dgN (z.2.2 (po + 1)))) true o2) dr2 dk rk kt tk (pool ++ [])) s.heap H locs := by rw [List.append_nil]; exact hG
    exact hret _ (n2, becO n2 (nI (dgN (z.2.2 (po + 1)))) true o2, dr2, []) _ ls _ _ _ _ (by by_cases han : dgN (z.2.2 (po + 1)) < n2; (rw [becO_t hn2 han]; refine Or.inr ⟨_, exN_o e16_111 han, by rw [inB_j (by omega) han], rfl, rfl, ?_⟩; rw [List.append_nil]; exact hM.setO (Nat.or_lt_two_pow hM.2.1 (Nat.pow_lt_pow_right (by decide) han))); (have hib : inB n2 (nI (dgN (z.2.2 (po + 1)))) = false := inB_r (nI_le (by omega) (by omega)); refine Or.inl ⟨exN_n e16_100 han, by rw [hib], kd2, fg2, ?_⟩; rw [List.append_nil, becO_f hib]; exact hM)) (by first | rfl | exact nar_b2i _) hG (Nat.le_of_ble_eq_true rfl) (Nat.le_of_ble_eq_true rfl) dX11_carriedOut_97
  refine sw_by (nI 115) (fun e16_115 => ?_) (fun e16_115 => ?_)
  · --
    refine lv_lookup (tgt := 98) hF.1 hF.2.1 dX11_carriedOut_16 (by decide +kernel) rfl (by decide) ?_
    refine lv_aload_n hF.1 hF.2.1 dX11_carriedOut_98 rfl (lv_at hl 1 rfl) ?_
    refine k_get (C := RX11) (T := TX11) (N := 8) hF hK hG (fun _ h => List.mem_cons_of_mem _ (List.mem_append_left _ (List.mem_append_left _ (List.mem_append_left _ (List.mem_append_left _ (List.mem_append_left _ (List.mem_append_left _ (List.mem_append_left _ (List.mem_append_left _ (List.mem_append_left _ (List.mem_append_left _ (List.mem_append_right _ h)))))))))))) 6 rfl rfl 2 (by decide) (List.mem_of_getElem? (i := 1) rfl) (fun _ h9 => h9) rfl dX11_carriedOut_99 ?_
    refine lv_iload_n hF.1 hF.2.1 dX11_carriedOut_102 rfl (lv_at hl 0 rfl) ?_
    refine lv_iconst (v := (nI 0)) hF.1 hF.2.1 dX11_carriedOut_103 (by decide +kernel) ?_
    refine k_ci (r_V (As := [.int (nI (dgN (z.2.2 (po + 1)))), .int (nI 0)]) hF hK hA hG (c_X9_becomes hM.w2 (op := false)) (cwV 2 hF.2.2.2.2 gX11_carriedOut_X9_becomes rfl rfl rfl (by decide +kernel) ⟨Nat.le_of_ble_eq_true rfl, Nat.le_of_ble_eq_true rfl⟩) 9 rfl rfl rfl rfl hl.1 rfl (lv_room (Nat.le_of_ble_eq_true rfl)) dX11_carriedOut_104 ⟨Nat.le_of_ble_eq_true rfl, Nat.le_of_ble_eq_true rfl⟩) hG (fun r_104 u_104 H locs hp_104 hG => ?_)
    subst hp_104
    have hG : Gd D A (XW cA ob mb ss sh sp mt rc n o dr n1 o1 dr1 n2 (becO n2 (nI (dgN (z.2.2 (po + 1)))) false o2) dr2 dk rk kt tk pool) s.heap H locs := hG
    have hG : Gd D A (XW cA ob mb ss sh sp mt rc n o dr n1 o1 dr1 n2 (becO n2 (nI (dgN (z.2.2 (po + 1)))) false o2) dr2 dk rk kt tk (pool ++ [])) s.heap H locs := by rw [List.append_nil]; exact hG
    exact hret _ (n2, becO n2 (nI (dgN (z.2.2 (po + 1)))) false o2, dr2, []) _ ls _ _ _ _ (by by_cases han : dgN (z.2.2 (po + 1)) < n2; (rw [becO_s hn2 han]; refine Or.inr ⟨_, exN_s e16_100 (by rw [e16_115]; decide +kernel) e16_111 han, by rw [inB_j (by omega) han], rfl, rfl, ?_⟩; rw [List.append_nil]; exact hM.setO (by split; exact Nat.lt_of_le_of_lt (Nat.sub_le _ _) hM.2.1; exact hM.2.1)); (have hib : inB n2 (nI (dgN (z.2.2 (po + 1)))) = false := inB_r (nI_le (by omega) (by omega)); refine Or.inl ⟨exN_n e16_100 han, by rw [hib], kd2, fg2, ?_⟩; rw [List.append_nil, becO_f hib]; exact hM)) (by first | rfl | exact nar_b2i _) hG (Nat.le_of_ble_eq_true rfl) (Nat.le_of_ble_eq_true rfl) dX11_carriedOut_107
  have e112 : z.2.2 (po) = nI 112 := many_p k2 e16_100 e16_111 e16_115
  refine lv_lookup (off := 92) (tgt := 108) hF.1 hF.2.1 dX11_carriedOut_16 (by decide +kernel) ((lv_osw e16_100 (by decide +kernel)).trans ((lv_osw e16_111 (by decide +kernel)).trans ((lv_osw e16_115 (by decide +kernel)).trans rfl))) (by decide) ?_
  refine lv_aload_n hF.1 hF.2.1 dX11_carriedOut_108 rfl (lv_at hl 1 rfl) ?_
  refine k_get (C := RX11) (T := TX11) (N := 8) hF hK hG (fun _ h => List.mem_cons_of_mem _ (List.mem_append_left _ (List.mem_append_left _ (List.mem_append_left _ (List.mem_append_left _ (List.mem_append_left _ (List.mem_append_left _ (List.mem_append_left _ (List.mem_append_left _ (List.mem_append_left _ (List.mem_append_left _ (List.mem_append_right _ h)))))))))))) 6 rfl rfl 2 (by decide) (List.mem_of_getElem? (i := 1) rfl) (fun _ h9 => h9) rfl dX11_carriedOut_109 ?_
  refine lv_iload_n hF.1 hF.2.1 dX11_carriedOut_112 rfl (lv_at hl 0 rfl) ?_
  refine k_ci (r_V (As := [.int (nI (dgN (z.2.2 (po + 1))))]) hF hK hA hG (c_X9_pulled hM.w2) (cwV 1 hF.2.2.2.2 gX11_carriedOut_X9_pulled rfl rfl rfl (by decide +kernel) ⟨Nat.le_of_ble_eq_true rfl, Nat.le_of_ble_eq_true rfl⟩) 9 rfl rfl rfl rfl hl.1 rfl (lv_room (Nat.le_of_ble_eq_true rfl)) dX11_carriedOut_113 ⟨Nat.le_of_ble_eq_true rfl, Nat.le_of_ble_eq_true rfl⟩) hG (fun r_113 u_113 H locs hp_113 hG => ?_)
  subst hp_113
  have hG : Gd D A (XW cA ob mb ss sh sp mt rc n o dr n1 o1 dr1 n2 (pullO n2 kd2 fg2 (nI (dgN (z.2.2 (po + 1)))) o2) dr2 dk rk kt tk pool) s.heap H locs := hG
  have hG : Gd D A (XW cA ob mb ss sh sp mt rc n o dr n1 o1 dr1 n2 (pullO n2 kd2 fg2 (nI (dgN (z.2.2 (po + 1)))) o2) dr2 dk rk kt tk (pool ++ [])) s.heap H locs := by rw [List.append_nil]; exact hG
  exact hret _ (n2, pullO n2 kd2 fg2 (nI (dgN (z.2.2 (po + 1)))) o2, dr2, []) _ ls _ _ _ _ (by by_cases han : dgN (z.2.2 (po + 1)) < n2; (cases hm : mv (kd2 (dgN (z.2.2 (po + 1)))) (fg2 (dgN (z.2.2 (po + 1)))) (dgN (z.2.2 (po + 1))) o2 with | true => (rw [pullO_j hn2 han hm]; refine Or.inr ⟨_, exN_p e112 han hm, by rw [mayZ_t hn2 han, hm], rfl, rfl, ?_⟩; rw [List.append_nil]; exact hM.setO (xor_ltn hM.2.1 han)) | false => (rw [pullO_n hn2 han hm]; refine Or.inl ⟨exN_pn e112 han hm, by rw [mayZ_t hn2 han, hm], kd2, fg2, ?_⟩; rw [List.append_nil]; exact hM)); (have hib : inB n2 (nI (dgN (z.2.2 (po + 1)))) = false := inB_r (nI_le (by omega) (by omega)); refine Or.inl ⟨exN_n e16_100 han, by rw [mayZ_f hib], kd2, fg2, ?_⟩; rw [List.append_nil, pullO_f (mayZ_f hib)]; exact hM)) (by first | rfl | exact nar_b2i _) hG (Nat.le_of_ble_eq_true rfl) (Nat.le_of_ble_eq_true rfl) dX11_carriedOut_116

abbrev rmX11_wall : Room := { frames := 7, cells := 34, slots := 34, locals := 152 }
set_option maxHeartbeats 4000000 in
set_option maxRecDepth 100000 in
theorem c_X11_wall {l : Launch} {D : va_G} {cA : Nat → ClassId} {A : Nat → Prop}  {ob : Nat → Nat} {mb ss sh sp : Nat → Int32} {mt : Nat → Int64} {rc n o : Nat} {dr : Nat → Option Nat} {n1 o1 : Nat} {dr1 : Nat → Option Nat} {n2 o2 : Nat} {dr2 dk rk : Nat → Option Nat} {kt : Nat → Int32} {tk : Int32} {pool : va_W} {kd fg : Nat → Nat} (hI : WI pool n o dr kd fg) {kd1 fg1 : Nat → Nat} (hJ : WI pool n1 o1 dr1 kd1 fg1) {kd2 fg2 : Nat → Nat} (hM : WI pool n2 o2 dr2 kd2 fg2) {x : Nat → Sf} {P : Nat → Nat} (hX : SX cA pool dk rk x P) {tkb : Bool} (htk : tk = b2i tkb) {d : Int32} : Met l yX11_wall wsX11_wall rmX11_wall (va_Pc [.ref (ob 6), .int d] (Pre D cA A (XW cA ob mb ss sh sp mt rc n o dr n1 o1 dr1 n2 o2 dr2 dk rk kt tk pool))) (va_Qi (fun r (u : XS) => (r = (spWall (n, o, kd, fg) (sfA x d)).1) ∧ XI cA u (spWall (n, o, kd, fg) (sfA x d)).2 (n1, o1, kd1, fg1) tkb x) (fun u t => Wd D A ((fun (u : XS) => XV cA ob u) u) t) A) (34) (34) A := by
  refine k_ofi (S := XS) (F := fun (u : XS) => XV cA ob u) (cc := cX11_wall) (maxL := 7) (by decide) rfl (Nat.le_of_ble_eq_true rfl) ?_
  intro p e s m args below meth c Q hF hini hK hA hG hret ls hl
  have hl : lv_has ls 7 [(0, .ref (ob 6)), (1, .int d)] := hl
  have hn : n ≤ 6 := hI.1
  have ho : o < 64 := hI.o64
  have hp2 : 2 ^ n ≤ 64 := Nat.pow_le_pow_right (by decide) hn
  have hp1 : 1 ≤ 2 ^ n := Nat.one_le_two_pow
  refine lv_aload_n hF.1 hF.2.1 dX11_wall_0 rfl (lv_at hl 0 rfl) ?_
  refine lv_iload_n hF.1 hF.2.1 dX11_wall_1 rfl (lv_at hl 1 rfl) ?_
  refine k_cq (r_V (As := [.int d]) hF hK hA hG (c_X11_bytesOn hX) (cwV 1 hF.2.2.2.2 gX11_wall_X11_bytesOn rfl rfl rfl (by decide +kernel) ⟨Nat.le_of_ble_eq_true rfl, Nat.le_of_ble_eq_true rfl⟩) 6 rfl rfl rfl rfl hl.1 rfl (lv_room (Nat.le_of_ble_eq_true rfl)) dX11_wall_2 ⟨Nat.le_of_ble_eq_true rfl, Nat.le_of_ble_eq_true rfl⟩) hG (fun r_2 u_2 H locs hp_2 hG => ?_)
  cases r_2 with
  | none =>
    show W p l e rmX11_wall s m args below meth c _ _ _ _ Q (F0 m 5 ls (.null :: []))
    refine lv_astore_nN (lv' := [(2, .null), (0, .ref (ob 6)), (1, .int d)]) hF.1 hF.2.1 dX11_wall_5 rfl hl (by decide) rfl (fun ls hl => ?_)
    refine lv_aload_nN hF.1 hF.2.1 dX11_wall_6 rfl (lv_at hl 0 rfl) ?_
    refine lv_ifnonnullN hF.1 hF.2.1 dX11_wall_7 ?_
    refine lv_aload_n hF.1 hF.2.1 dX11_wall_10 rfl (lv_at hl 1 rfl) ?_
    refine lv_iload_n hF.1 hF.2.1 dX11_wall_11 rfl (lv_at hl 2 rfl) ?_
    refine k_ci (r_V (As := [.int d]) hF hK hA hG (c_X11_lacking hX) (cwV 1 hF.2.2.2.2 gX11_wall_X11_lacking rfl rfl rfl (by decide +kernel) ⟨Nat.le_of_ble_eq_true rfl, Nat.le_of_ble_eq_true rfl⟩) 6 rfl rfl rfl rfl hl.1 rfl (lv_room (Nat.le_of_ble_eq_true rfl)) dX11_wall_12 ⟨Nat.le_of_ble_eq_true rfl, Nat.le_of_ble_eq_true rfl⟩) hG (fun r_12 u_12 H locs hp_12 hG => ?_)
    subst hp_12
    exact hret _ (_, _, _, _, _, _, _, _, _, _, _, _, _, _, _, _, _, _, _, _) _ ls _ _ _ _ (by rw [spWall_n hp_2.2]; exact ⟨hp_2.1, ⟨⟨rfl, rfl⟩, ⟨rfl, rfl⟩, htk, hI, hJ, ⟨_, _, hM⟩, ⟨_, hX⟩⟩⟩) (by first | rfl | exact nar_b2i _) hG (Nat.le_of_ble_eq_true rfl) (Nat.le_of_ble_eq_true rfl) dX11_wall_15
  | some b =>
    obtain ⟨j, z, arr, qr, hj, rfl, hx, hz0, hR⟩ := hp_2
    have hz100 := hR.2.2.1
    show W p l e rmX11_wall s m args below meth c _ _ _ _ Q (F0 m 5 ls (.ref b :: []))
    refine lv_astore_n (lv' := [(2, .ref b), (0, .ref (ob 6)), (1, .int (nI j))]) hF.1 hF.2.1 dX11_wall_5 rfl hl (by decide) rfl (fun ls hl => ?_)
    refine lv_aload_n hF.1 hF.2.1 dX11_wall_6 rfl (lv_at hl 0 rfl) ?_
    refine lv_ifnonnull (tgt := 16) hF.1 hF.2.1 dX11_wall_7 (by decide) ?_
    refine lv_aload_n hF.1 hF.2.1 dX11_wall_16 rfl (lv_at hl 0 rfl) ?_
    refine k_ci (r_S (As := [.ref b]) hF hK hA hG (c_X11_brokenAt hR) (cwS 1 hF.2.2.2.2 gX11_wall_X11_brokenAt rfl rfl rfl (by decide +kernel) ⟨Nat.le_of_ble_eq_true rfl, Nat.le_of_ble_eq_true rfl⟩) rfl hl.1 rfl (lv_room (Nat.le_of_ble_eq_true rfl)) dX11_wall_17 ⟨Nat.le_of_ble_eq_true rfl, Nat.le_of_ble_eq_true rfl⟩) hG (fun r_17 u_17 H locs hp_17 hG => ?_)
    subst hp_17
    refine lv_istore_n (lv' := [(3, .int (brI (p1 z.2.2 z.2.1 (z.2.1 + 1) 0 0))), (2, .ref b), (0, .ref (ob 6)), (1, .int (nI j))]) hF.1 hF.2.1 dX11_wall_20 rfl hl (by decide) rfl (fun ls hl => ?_)
    rcases hq : p1 z.2.2 z.2.1 (z.2.1 + 1) 0 0 with q9 | K9
    · --
      have hq9 := p1_q hq
      have hl : lv_has ls 7 [(3, .int (nI q9)), (2, .ref b), (0, .ref (ob 6)), (1, .int (nI j))] := by rw [hq] at hl; exact hl
      refine lv_iload_n hF.1 hF.2.1 dX11_wall_21 rfl (lv_at hl 0 rfl) ?_
      refine lv_if_lt (tgt := 31) hF.1 hF.2.1 dX11_wall_22 (by decide) (fun c_22 => absurd c_22 (nI_pos (by omega))) (fun c_22 => ?_)
      refine lv_iconst (v := (nI 1)) hF.1 hF.2.1 dX11_wall_25 (by decide +kernel) ?_
      refine lv_iload_n hF.1 hF.2.1 dX11_wall_26 rfl (lv_at hl 0 rfl) ?_
      refine k_ci (r_S (As := [.int (nI 1), .int (nI q9)]) hF hK hA hG (c_X11_fault) (cwS 2 hF.2.2.2.2 gX11_wall_X11_fault rfl rfl rfl (by decide +kernel) ⟨Nat.le_of_ble_eq_true rfl, Nat.le_of_ble_eq_true rfl⟩) rfl hl.1 rfl (lv_room (Nat.le_of_ble_eq_true rfl)) dX11_wall_27 ⟨Nat.le_of_ble_eq_true rfl, Nat.le_of_ble_eq_true rfl⟩) hG (fun r_27 u_27 H locs hp_27 hG => ?_)
      subst hp_27
      exact hret _ (_, _, _, _, _, _, _, _, _, _, _, _, _, _, _, _, _, _, _, _) _ ls _ _ _ _ (by rw [sfA_j x hj, hx, spWall_t hz0]; rw [spTxt_1 hq]; exact ⟨congrArg (fun v : Int32 => v - nI q9) (show (-1000 : Int32) * nI 1 = -1000 from by decide +kernel), ⟨⟨rfl, rfl⟩, ⟨rfl, rfl⟩, htk, hI, hJ, ⟨_, _, hM⟩, ⟨_, hX⟩⟩⟩) (by first | rfl | exact nar_b2i _) hG (Nat.le_of_ble_eq_true rfl) (Nat.le_of_ble_eq_true rfl) dX11_wall_30
    · --
      have hl : lv_has ls 7 [(3, .int (-4)), (2, .ref b), (0, .ref (ob 6)), (1, .int (nI j))] := by rw [hq] at hl; exact hl
      refine lv_iload_n hF.1 hF.2.1 dX11_wall_21 rfl (lv_at hl 0 rfl) ?_
      refine lv_if_lt (tgt := 31) hF.1 hF.2.1 dX11_wall_22 (by decide) (fun c_22 => ?_) (fun c_22 => absurd lng_m4 c_22)
      refine lv_aload_n hF.1 hF.2.1 dX11_wall_31 rfl (lv_at hl 2 rfl) ?_
      refine k_get (C := RX11) (T := TX11) (N := 8) hF hK hG (fun _ h => List.mem_cons_of_mem _ (List.mem_append_left _ (List.mem_append_left _ (List.mem_append_left _ (List.mem_append_left _ (List.mem_append_left _ (List.mem_append_left _ (List.mem_append_left _ (List.mem_append_left _ (List.mem_append_left _ (List.mem_append_left _ (List.mem_append_right _ h)))))))))))) 6 rfl rfl 2 (by decide) (List.mem_of_getElem? (i := 1) rfl) (fun _ h9 => h9) rfl dX11_wall_32 ?_
      refine lv_aload_n hF.1 hF.2.1 dX11_wall_35 rfl (lv_at hl 2 rfl) ?_
      refine k_get (C := RX11) (T := TX11) (N := 8) hF hK hG (fun _ h => List.mem_cons_of_mem _ (List.mem_append_left _ (List.mem_append_left _ (List.mem_append_left _ (List.mem_append_left _ (List.mem_append_left _ (List.mem_append_left _ (List.mem_append_left _ (List.mem_append_left _ (List.mem_append_left _ (List.mem_append_left _ (List.mem_append_right _ h)))))))))))) 6 rfl rfl 0 (by decide) (List.mem_of_getElem? (i := 2) rfl) (fun _ h9 => h9) rfl dX11_wall_36 ?_
      refine k_cv (r_V (As := [.ref (ob 7)]) hF hK hA hG (c_X9_takeFrom hM.w2 hI.w0 (fun h => absurd (hG.2.1.1 9 7 _ _ rfl rfl h) (by decide)) (fun h => absurd (hG.2.1.1 12 10 _ _ rfl rfl h) (by decide))) (cwV 1 hF.2.2.2.2 gX11_wall_X9_takeFrom rfl rfl rfl (by decide +kernel) ⟨Nat.le_of_ble_eq_true rfl, Nat.le_of_ble_eq_true rfl⟩) 9 rfl rfl rfl rfl hl.1 rfl (lv_room (Nat.le_of_ble_eq_true rfl)) dX11_wall_39 ⟨Nat.le_of_ble_eq_true rfl, Nat.le_of_ble_eq_true rfl⟩) hG (fun u_39 H locs hp_39 hG => ?_)
      have hG : Gd D A (XW cA ob mb ss sh sp mt rc n o dr n1 o1 dr1 n o dr dk rk kt tk pool) s.heap H locs := hG
      refine lv_iconst (v := (nI 0)) hF.1 hF.2.1 dX11_wall_42 (by decide +kernel) ?_
      refine lv_istore (lv' := [(4, .int (nI 0)), (3, .int (-4)), (2, .ref b), (0, .ref (ob 6)), (1, .int (nI j))]) hF.1 hF.2.1 dX11_wall_43 hl (by decide) rfl (fun ls hl => ?_)
      refine lv_iconst (v := (nI 0)) hF.1 hF.2.1 dX11_wall_45 (by decide +kernel) ?_
      refine lv_istore (lv' := [(5, .int (nI 0)), (4, .int (nI 0)), (3, .int (-4)), (2, .ref b), (0, .ref (ob 6)), (1, .int (nI j))]) hF.1 hF.2.1 dX11_wall_46 hl (by decide) rfl (fun ls hl => ?_)
      refine lv_iconst (v := (nI 0)) hF.1 hF.2.1 dX11_wall_48 (by decide +kernel) ?_
      refine lv_istore (lv' := [(6, .int (nI 0)), (5, .int (nI 0)), (4, .int (nI 0)), (3, .int (-4)), (2, .ref b), (0, .ref (ob 6)), (1, .int (nI j))]) hF.1 hF.2.1 dX11_wall_49 hl (by decide) rfl (fun ls hl => ?_)
      have lp51 : ∀ (fuel : Nat), ∀ (i bg cnt_ fu : Nat) (w : Wl) (dm : Nat → Option Nat) (pl : va_W), (hbi : bg ≤ i) → (hiz : i ≤ z.2.1) → (hib : bg < z.2.1 → i < (rdS z.2.2 z.2.1 bg).2) → (hib2 : ¬ bg < z.2.1 → i = z.2.1) → (hall : bg < z.2.1 → ∃ fu2, p1 z.2.2 z.2.1 fu2 bg cnt_ = .inr K9) → (hall2 : ¬ bg < z.2.1 → K9 = cnt_) → (h2 : p2 z.2.2 z.2.1 (fu + 1) bg w = p2 z.2.2 z.2.1 (z.2.1 + 1) 0 (n, o, kd, fg)) → (hfu : z.2.1 ≤ bg + fu) → (hcb : 3 * cnt_ ≤ bg) → (hIl : WI pl n o dr kd fg) → (hJl : WI pl n1 o1 dr1 kd1 fg1) → (hMl : WI pl w.1 w.2.1 dm w.2.2.1 w.2.2.2) → (hXl : SX cA pl dk rk x P) → (hRl : RW cA pl b arr qr (P j) z.1 z.2.1 z.2.2) → (z.2.1 - i) < fuel → ∀ (H : Heap) (locs : List Loc), Gd D A (XW cA ob mb ss sh sp mt rc n o dr n1 o1 dr1 w.1 w.2.1 dm dk rk kt tk pl) s.heap H locs → ∀ ls : Array Slot, lv_has ls 7 [(0, .ref (ob 6)), (2, .ref b), (4, .int (nI cnt_)), (5, .int (nI bg)), (6, .int (nI i))] → W p l e rmX11_wall s m args below meth c H locs (cnt_) (cnt_) Q (F0 m 51 ls []) := by
        intro fuel
        induction fuel with
        | zero => intro i bg cnt_ fu w dm pl hbi hiz hib hib2 hall hall2 h2 hfu hcb hIl hJl hMl hXl hRl hmu; exact absurd hmu (Nat.not_lt_zero _)
        | succ fuel ih51 =>
          intro i bg cnt_ fu w dm pl hbi hiz hib hib2 hall hall2 h2 hfu hcb hIl hJl hMl hXl hRl hmu H locs hG ls hl
          refine lv_iload hF.1 hF.2.1 dX11_wall_51 (lv_at hl 4 rfl) ?_
          refine lv_aload_n hF.1 hF.2.1 dX11_wall_53 rfl (lv_at hl 1 rfl) ?_
          refine k_get (C := RX6) (T := TX6) (N := 3) hF hK hG (fun _ h => List.mem_cons_of_mem _ (List.mem_append_left _ (List.mem_append_left _ (List.mem_append_left _ (List.mem_append_left _ (List.mem_append_left _ (List.mem_append_left _ (List.mem_append_left _ (List.mem_append_left _ (List.mem_append_left _ (List.mem_append_right _ h))))))))))) (qr + 16) hRl.c16.1 rfl 1 (by decide) (List.mem_of_getElem? (i := 3) rfl) (fun _ h9 => h9) rfl dX11_wall_54 ?_
          refine lv_icmp_ge (tgt := 103) hF.1 hF.2.1 dX11_wall_57 (by decide) (fun c_57 => ?_) (fun c_57 => ?_)
          · --
            have n_57 : z.2.1 ≤ i := (nI_leI (a := z.2.1) (b := i) (by omega) (by omega)).mp c_57
            have hbz : bg = z.2.1 := by
              by_cases q : bg < z.2.1
              · have h8 := hib q
                obtain ⟨fu2, h9⟩ := hall q
                have h7 := (rdS_ok (p1_r2 h9).1).2.2.2.1
                omega
              · omega
            refine lv_aload_n hF.1 hF.2.1 dX11_wall_103 rfl (lv_at hl 0 rfl) ?_
            refine k_get (C := RX11) (T := TX11) (N := 8) hF hK hG (fun _ h => List.mem_cons_of_mem _ (List.mem_append_left _ (List.mem_append_left _ (List.mem_append_left _ (List.mem_append_left _ (List.mem_append_left _ (List.mem_append_left _ (List.mem_append_left _ (List.mem_append_left _ (List.mem_append_left _ (List.mem_append_left _ (List.mem_append_right _ h)))))))))))) 6 rfl rfl 0 (by decide) (List.mem_of_getElem? (i := 2) rfl) (fun _ h9 => h9) rfl dX11_wall_104 ?_
            refine lv_aload_n hF.1 hF.2.1 dX11_wall_107 rfl (lv_at hl 0 rfl) ?_
            refine k_get (C := RX11) (T := TX11) (N := 8) hF hK hG (fun _ h => List.mem_cons_of_mem _ (List.mem_append_left _ (List.mem_append_left _ (List.mem_append_left _ (List.mem_append_left _ (List.mem_append_left _ (List.mem_append_left _ (List.mem_append_left _ (List.mem_append_left _ (List.mem_append_left _ (List.mem_append_left _ (List.mem_append_right _ h)))))))))))) 6 rfl rfl 2 (by decide) (List.mem_of_getElem? (i := 1) rfl) (fun _ h9 => h9) rfl dX11_wall_108 ?_
            refine k_cv (r_V (As := [.ref (ob 9)]) hF hK hA hG (c_X9_takeFrom hIl.w0 hMl.w2 (fun h => absurd (hG.2.1.1 7 9 _ _ rfl rfl h) (by decide)) (fun h => absurd (hG.2.1.1 10 12 _ _ rfl rfl h) (by decide))) (cwV 1 hF.2.2.2.2 gX11_wall_X9_takeFrom rfl rfl rfl (by decide +kernel) ⟨Nat.le_of_ble_eq_true rfl, Nat.le_of_ble_eq_true rfl⟩) 7 rfl rfl rfl rfl hl.1 rfl (lv_room (Nat.le_of_ble_eq_true rfl)) dX11_wall_111 ⟨by show _ ≤ 34; omega, by show _ ≤ 34; omega⟩) hG (fun u_111 H locs hp_111 hG => ?_)
            have hG : Gd D A (XW cA ob mb ss sh sp mt rc w.1 w.2.1 dm n1 o1 dr1 w.1 w.2.1 dm dk rk kt tk pl) s.heap H locs := hG
            refine lv_iload hF.1 hF.2.1 dX11_wall_114 (lv_at hl 2 rfl) ?_
            exact hret _ (_, _, _, _, _, _, _, _, _, _, _, _, _, _, _, _, _, _, _, _) _ ls _ _ _ _ (by rw [sfA_j x hj, hx, spWall_t hz0]; rw [spTxt_3 hq (h2.symm.trans (p2_e (by omega)))]; exact ⟨by rw [hall2 (by omega)], ⟨⟨rfl, rfl⟩, ⟨rfl, rfl⟩, htk, hMl, hJl, ⟨_, _, hMl⟩, ⟨_, hXl⟩⟩⟩) (by first | rfl | exact nar_b2i _) hG (by omega) (by omega) dX11_wall_116
          · --
            have n_57 : ¬ (z.2.1 ≤ i) := fun zz9 => c_57 ((nI_leI (a := z.2.1) (b := i) (by omega) (by omega)).mpr zz9)
            have hbz : bg < z.2.1 := by
              by_cases q : bg < z.2.1
              · exact q
              · have h8 := hib2 q
                omega
            obtain ⟨fu2, h9⟩ := hall hbz
            have hpr := p1_r2 h9
            have hok := rdS_ok hpr.1
            have hib9 := hib hbz
            refine lv_aload_n hF.1 hF.2.1 dX11_wall_60 rfl (lv_at hl 1 rfl) ?_
            refine lv_iload hF.1 hF.2.1 dX11_wall_61 (lv_at hl 4 rfl) ?_
            refine k_ci (r_V (As := [.int (nI i)]) hF hK hA hG (c_X6_valueAt hRl.c16) (cwV 1 hF.2.2.2.2 gX11_wall_X6_valueAt rfl rfl rfl (by decide +kernel) ⟨Nat.le_of_ble_eq_true rfl, Nat.le_of_ble_eq_true rfl⟩) (qr + 16) hRl.c16.1 rfl rfl rfl hl.1 rfl (lv_room (Nat.le_of_ble_eq_true rfl)) dX11_wall_63 ⟨by show _ ≤ 34; omega, by show _ ≤ 34; omega⟩) hG (fun r_63 u_63 H locs hp_63 hG => ?_)
            rw [getR_t hRl.2.2.1 (by omega)] at hp_63
            subst hp_63
            refine lv_bipush (v := (nI 59)) hF.1 hF.2.1 dX11_wall_66 (by decide +kernel) ?_
            refine lv_icmp_ne (tgt := 97) hF.1 hF.2.1 dX11_wall_68 (by decide) (fun c_68 => ?_) (fun c_68 => ?_)
            · --
              have hsn := semi_n hpr.1 hbi hib9 c_68
              refine lv_iinc (v := (nI (i + 1))) (lv' := [(6, .int (nI (i + 1))), (0, .ref (ob 6)), (2, .ref b), (4, .int (nI cnt_)), (5, .int (nI bg))]) hF.1 hF.2.1 dX11_wall_97 hl (k := 4) rfl (nI_inc _ _) (by decide) rfl (fun ls hl => ?_)
              refine lv_goto (tgt := 51) hF.1 hF.2.1 dX11_wall_100 (by decide) ?_
              exact ih51 (i + 1) (bg) (cnt_) (fu) (w) (_) (_) (by omega) (by omega) (by first | exact fun _ => hsn | exact hy1) (by omega) (by first | exact hall | exact hy2) (by first | exact hall2 | exact hy3) (by first | exact h2 | exact hy4) (by omega) (by omega) (by first | exact hIl | exact hIl.push) (by first | exact hJl | exact hJl.push) (by first | exact hMl | exact hw5) (by first | exact hXl | exact hXl.push) (by first | exact hRl | exact hRl.push) (by omega) _ _ hG ls (lv_sub hl [1, 2, 3, 4, 0] rfl)
            · --
              have hsm := semi hpr.1 hbi hib9 c_68
              refine lv_aload_n hF.1 hF.2.1 dX11_wall_71 rfl (lv_at hl 0 rfl) ?_
              refine lv_aload_n hF.1 hF.2.1 dX11_wall_72 rfl (lv_at hl 1 rfl) ?_
              refine lv_iload hF.1 hF.2.1 dX11_wall_73 (lv_at hl 3 rfl) ?_
              refine k_ci (r_V (As := [.ref b, .int (nI bg)]) hF hK hA hG (c_X11_carriedOut hMl hRl (po := bg) hpr.1) (cwV 2 hF.2.2.2.2 gX11_wall_X11_carriedOut rfl rfl rfl (by decide +kernel) ⟨Nat.le_of_ble_eq_true rfl, Nat.le_of_ble_eq_true rfl⟩) 6 rfl rfl rfl rfl hl.1 rfl (lv_room (Nat.le_of_ble_eq_true rfl)) dX11_wall_75 ⟨by show _ ≤ 34; omega, by show _ ≤ 34; omega⟩) hG (fun r_75 u_75 H locs hp_75 hG => ?_)
              have hG : Gd D A (XW cA ob mb ss sh sp mt rc n o dr n1 o1 dr1 u_75.1 u_75.2.1 u_75.2.2.1 dk rk kt tk (pl ++ u_75.2.2.2)) s.heap H locs := hG
              refine lv_if_ne (tgt := 88) hF.1 hF.2.1 dX11_wall_78 (by decide) (fun c_78 => ?_) (fun c_78 => ?_)
              · --
                obtain ⟨w2, hx2, -, e1, e2, hw5⟩ := hp_75.resolve_left (fun a => c_78 (by rw [a.2.1]; rfl))
                have hG : Gd D A (XW cA ob mb ss sh sp mt rc n o dr n1 o1 dr1 w2.1 w2.2.1 u_75.2.2.1 dk rk kt tk (pl ++ u_75.2.2.2)) s.heap H locs := by rw [e1, e2] at hG; exact hG
                have hy1 : i + 1 < z.2.1 → i + 1 < (rdS z.2.2 z.2.1 (i + 1)).2 := fun q => by obtain ⟨fu3, h8⟩ := hpr.2.1 (by rw [hsm]; exact q); rw [hsm] at h8; have h7 := rdS_ok (p1_r2 h8).1; omega
                have hy2 : i + 1 < z.2.1 → ∃ fu2, p1 z.2.2 z.2.1 fu2 (i + 1) (cnt_ + 1) = .inr K9 := fun q => by rw [← hsm] at q ⊢; exact hpr.2.1 q
                have hy3 : ¬ i + 1 < z.2.1 → K9 = cnt_ + 1 := fun q => hpr.2.2 (by rw [hsm]; exact q)
                have hy4 : p2 z.2.2 z.2.1 (fu - 1 + 1) (i + 1) w2 = p2 z.2.2 z.2.1 (z.2.1 + 1) 0 (n, o, kd, fg) := by rw [← h2, show fu - 1 + 1 = fu by omega, p2_s hbz hx2, hsm]
                refine lv_iinc (v := (nI (cnt_ + 1))) (lv' := [(4, .int (nI (cnt_ + 1))), (0, .ref (ob 6)), (2, .ref b), (5, .int (nI bg)), (6, .int (nI i))]) hF.1 hF.2.1 dX11_wall_88 hl (k := 2) rfl (nI_inc _ _) (by decide) rfl (fun ls hl => ?_)
                refine lv_iload hF.1 hF.2.1 dX11_wall_91 (lv_at hl 4 rfl) ?_
                refine lv_iconst (v := (nI 1)) hF.1 hF.2.1 dX11_wall_93 (by decide +kernel) ?_
                refine lv_iadd hF.1 hF.2.1 dX11_wall_94 ?_
                rw [nI_add]
                refine lv_istore (lv' := [(5, .int (nI (i + 1))), (4, .int (nI (cnt_ + 1))), (0, .ref (ob 6)), (2, .ref b), (6, .int (nI i))]) hF.1 hF.2.1 dX11_wall_95 hl (by decide) rfl (fun ls hl => ?_)
                refine lv_iinc (v := (nI (i + 1))) (lv' := [(6, .int (nI (i + 1))), (5, .int (nI (i + 1))), (4, .int (nI (cnt_ + 1))), (0, .ref (ob 6)), (2, .ref b)]) hF.1 hF.2.1 dX11_wall_97 hl (k := 4) rfl (nI_inc _ _) (by decide) rfl (fun ls hl => ?_)
                refine lv_goto (tgt := 51) hF.1 hF.2.1 dX11_wall_100 (by decide) ?_
                exact ih51 (i + 1) (i + 1) (cnt_ + 1) (fu - 1) (w2) (_) (_) (by omega) (by omega) (by first | exact fun _ => hsn | exact hy1) (by omega) (by first | exact hall | exact hy2) (by first | exact hall2 | exact hy3) (by first | exact h2 | exact hy4) (by omega) (by omega) (by first | exact hIl | exact hIl.push) (by first | exact hJl | exact hJl.push) (by first | exact hMl | exact hw5) (by first | exact hXl | exact hXl.push) (by first | exact hRl | exact hRl.push) (by omega) _ _ hG ls (lv_sub hl [3, 4, 2, 1, 0] rfl)
              · --
                refine lv_iconst (v := (nI 2)) hF.1 hF.2.1 dX11_wall_81 (by decide +kernel) ?_
                refine lv_iload hF.1 hF.2.1 dX11_wall_82 (lv_at hl 3 rfl) ?_
                refine k_ci (r_S (As := [.int (nI 2), .int (nI bg)]) hF hK hA hG (c_X11_fault) (cwS 2 hF.2.2.2.2 gX11_wall_X11_fault rfl rfl rfl (by decide +kernel) ⟨Nat.le_of_ble_eq_true rfl, Nat.le_of_ble_eq_true rfl⟩) rfl hl.1 rfl (lv_room (Nat.le_of_ble_eq_true rfl)) dX11_wall_84 ⟨by show _ ≤ 34; omega, by show _ ≤ 34; omega⟩) hG (fun r_84 u_84 H locs hp_84 hG => ?_)
                subst hp_84
                have hx2 := hp_75.resolve_right (fun a => by obtain ⟨w2, -, a2, -⟩ := a; rw [a2] at c_78; exact absurd c_78 (by decide +kernel))
                obtain ⟨hx3, -, k3, f3, hx4⟩ := hx2
                exact hret _ (_, _, _, _, _, _, _, _, _, _, _, _, _, _, _, _, _, _, _, _) _ ls _ _ _ _ (by rw [sfA_j x hj, hx, spWall_t hz0]; rw [spTxt_2 hq (h2.symm.trans (p2_n hbz hx3))]; exact ⟨congrArg (fun v : Int32 => v - nI bg) (show (-1000 : Int32) * nI 2 = -2000 from by decide +kernel), ⟨⟨rfl, rfl⟩, ⟨rfl, rfl⟩, htk, hIl.push, hJl.push, ⟨_, _, hx4⟩, ⟨_, hXl.push⟩⟩⟩) (by first | rfl | exact nar_b2i _) hG (by omega) (by omega) dX11_wall_87
      exact lp51 _ (0) (0) (0) (z.2.1) ((n, o, kd, fg)) (dr) (pool) (by omega) (by omega) (fun h => by have h9 := rdS_ok (p1_r2 hq).1; omega) (by omega) (fun _ => ⟨_, hq⟩) (fun h => by have h9 := rdS_ok (p1_r2 hq).1; omega) rfl (by omega) (by omega) hI hJ hI hX hR (Nat.lt_succ_self _) _ _ hG ls (lv_sub hl [5, 4, 2, 1, 0] rfl)

abbrev rmX11_copy : Room := { frames := 3, cells := 0, slots := 0, locals := 80 }
set_option maxHeartbeats 4000000 in
set_option maxRecDepth 100000 in
theorem c_X11_copy {l : Launch} {D : va_G} {cA : Nat → ClassId} {A : Nat → Prop}  {ob : Nat → Nat} {mb ss sh sp : Nat → Int32} {mt : Nat → Int64} {rc n o : Nat} {dr : Nat → Option Nat} {n1 o1 : Nat} {dr1 : Nat → Option Nat} {n2 o2 : Nat} {dr2 dk rk : Nat → Option Nat} {kt : Nat → Int32} {tk : Int32} {pool : va_W} {kd fg : Nat → Nat} (hI : WI pool n o dr kd fg) {kd1 fg1 : Nat → Nat} (hJ : WI pool n1 o1 dr1 kd1 fg1) {kd2 fg2 : Nat → Nat} (hM : WI pool n2 o2 dr2 kd2 fg2) {x : Nat → Sf} {P : Nat → Nat} (hX : SX cA pool dk rk x P) {tkb : Bool} (htk : tk = b2i tkb) {d i y_ j mm : Int32} : Met l yX11_copy wsX11_copy rmX11_copy (va_Pc [.ref (ob 6), .int d, .int i, .int y_, .int j, .int mm] (Pre D cA A (XW cA ob mb ss sh sp mt rc n o dr n1 o1 dr1 n2 o2 dr2 dk rk kt tk pool))) (va_Qi (fun r (u : XS) => (r = (spCopy x d i y_ j mm).1) ∧ XI cA u (n, o, kd, fg) (n1, o1, kd1, fg1) tkb (spCopy x d i y_ j mm).2) (fun u t => Wd D A ((fun (u : XS) => XV cA ob u) u) t) A) (0) (0) A := by
  refine k_ofi (S := XS) (F := fun (u : XS) => XV cA ob u) (cc := cX11_copy) (maxL := 8) (by decide) rfl (Nat.le_of_ble_eq_true rfl) ?_
  intro p e s m args below meth c Q hF hini hK hA hG hret ls hl
  have hl : lv_has ls 8 [(0, .ref (ob 6)), (1, .int d), (2, .int i), (3, .int y_), (4, .int j), (5, .int mm)] := hl
  have hn : n ≤ 6 := hI.1
  have ho : o < 64 := hI.o64
  have hp2 : 2 ^ n ≤ 64 := Nat.pow_le_pow_right (by decide) hn
  have hp1 : 1 ≤ 2 ^ n := Nat.one_le_two_pow
  refine lv_iload_n hF.1 hF.2.1 dX11_copy_0 rfl (lv_at hl 1 rfl) ?_
  refine k_ci (r_S (As := [.int d]) hF hK hA hG (c_X11_isShelf) (cwS 1 hF.2.2.2.2 gX11_copy_X11_isShelf rfl rfl rfl (by decide +kernel) ⟨Nat.le_of_ble_eq_true rfl, Nat.le_of_ble_eq_true rfl⟩) rfl hl.1 rfl (lv_room (Nat.le_of_ble_eq_true rfl)) dX11_copy_1 ⟨Nat.le_of_ble_eq_true rfl, Nat.le_of_ble_eq_true rfl⟩) hG (fun r_1 u_1 H locs hp_1 hG => ?_)
  subst hp_1
  refine lv_if_eq (tgt := 14) hF.1 hF.2.1 dX11_copy_4 (by decide) (fun c_4 => ?_) (fun c_4 => ?_)
  · --
    have n_4 : (inB 8 d) = false := b2i_z.mp c_4
    refine lv_iconst (v := (-1)) hF.1 hF.2.1 dX11_copy_14 (by decide +kernel) ?_
    exact hret _ (_, _, _, _, _, _, _, _, _, _, _, _, _, _, _, _, _, _, _, _) _ ls _ _ _ _ (by first | (rw [spCopy_1 n_4]; exact ⟨rfl, ⟨⟨rfl, rfl⟩, ⟨rfl, rfl⟩, htk, hI, hJ, ⟨_, _, hM⟩, ⟨_, hX⟩⟩⟩) | (rw [spCopy_2 ha n_11]; exact ⟨rfl, ⟨⟨rfl, rfl⟩, ⟨rfl, rfl⟩, htk, hI, hJ, ⟨_, _, hM⟩, ⟨_, hX⟩⟩⟩)) (by first | rfl | exact nar_b2i _) hG (Nat.le_of_ble_eq_true rfl) (Nat.le_of_ble_eq_true rfl) dX11_copy_15
  · --
    have n_4 : (inB 8 d) = true := b2i_nz.mp c_4
    obtain ⟨a, ha, rfl⟩ := inB_ex (by omega) n_4
    refine lv_iload_n hF.1 hF.2.1 dX11_copy_7 rfl (lv_at hl 3 rfl) ?_
    refine k_ci (r_S (As := [.int y_]) hF hK hA hG (c_X11_isShelf) (cwS 1 hF.2.2.2.2 gX11_copy_X11_isShelf rfl rfl rfl (by decide +kernel) ⟨Nat.le_of_ble_eq_true rfl, Nat.le_of_ble_eq_true rfl⟩) rfl hl.1 rfl (lv_room (Nat.le_of_ble_eq_true rfl)) dX11_copy_8 ⟨Nat.le_of_ble_eq_true rfl, Nat.le_of_ble_eq_true rfl⟩) hG (fun r_8 u_8 H locs hp_8 hG => ?_)
    subst hp_8
    refine lv_if_ne (tgt := 16) hF.1 hF.2.1 dX11_copy_11 (by decide) (fun c_11 => ?_) (fun c_11 => ?_)
    · --
      have n_11 : (inB 8 y_) = true := b2i_nz.mp c_11
      obtain ⟨b, hb, rfl⟩ := inB_ex (by omega) n_11
      refine lv_aload_n hF.1 hF.2.1 dX11_copy_16 rfl (lv_at hl 0 rfl) ?_
      refine lv_iload_n hF.1 hF.2.1 dX11_copy_17 rfl (lv_at hl 1 rfl) ?_
      refine k_ci (r_V (As := [.int (nI a)]) hF hK hA hG (c_X11_holdsNothing hX) (cwV 1 hF.2.2.2.2 gX11_copy_X11_holdsNothing rfl rfl rfl (by decide +kernel) ⟨Nat.le_of_ble_eq_true rfl, Nat.le_of_ble_eq_true rfl⟩) 6 rfl rfl rfl rfl hl.1 rfl (lv_room (Nat.le_of_ble_eq_true rfl)) dX11_copy_18 ⟨Nat.le_of_ble_eq_true rfl, Nat.le_of_ble_eq_true rfl⟩) hG (fun r_18 u_18 H locs hp_18 hG => ?_)
      subst hp_18
      refine lv_if_ne (tgt := 32) hF.1 hF.2.1 dX11_copy_21 (by decide) (fun c_21 => ?_) (fun c_21 => ?_)
      · --
        have n_21 : (hnB (sfA x (nI a))) = true := b2i_nz.mp c_21
        refine lv_bipush (v := (-11)) hF.1 hF.2.1 dX11_copy_32 (by decide +kernel) ?_
        exact hret _ (_, _, _, _, _, _, _, _, _, _, _, _, _, _, _, _, _, _, _, _) _ ls _ _ _ _ (by first | (rw [spCopy_3 ha hb (hn_n ha n_21)]; exact ⟨rfl, ⟨⟨rfl, rfl⟩, ⟨rfl, rfl⟩, htk, hI, hJ, ⟨_, _, hM⟩, ⟨_, hX⟩⟩⟩) | (rw [spCopy_4 ha hb (hn_n hb n_29)]; exact ⟨rfl, ⟨⟨rfl, rfl⟩, ⟨rfl, rfl⟩, htk, hI, hJ, ⟨_, _, hM⟩, ⟨_, hX⟩⟩⟩)) (by first | rfl | exact nar_b2i _) hG (Nat.le_of_ble_eq_true rfl) (Nat.le_of_ble_eq_true rfl) dX11_copy_34
      · --
        have n_21 : (hnB (sfA x (nI a))) = false := b2i_z.mp c_21
        refine lv_aload_n hF.1 hF.2.1 dX11_copy_24 rfl (lv_at hl 0 rfl) ?_
        refine lv_iload_n hF.1 hF.2.1 dX11_copy_25 rfl (lv_at hl 3 rfl) ?_
        refine k_ci (r_V (As := [.int (nI b)]) hF hK hA hG (c_X11_holdsNothing hX) (cwV 1 hF.2.2.2.2 gX11_copy_X11_holdsNothing rfl rfl rfl (by decide +kernel) ⟨Nat.le_of_ble_eq_true rfl, Nat.le_of_ble_eq_true rfl⟩) 6 rfl rfl rfl rfl hl.1 rfl (lv_room (Nat.le_of_ble_eq_true rfl)) dX11_copy_26 ⟨Nat.le_of_ble_eq_true rfl, Nat.le_of_ble_eq_true rfl⟩) hG (fun r_26 u_26 H locs hp_26 hG => ?_)
        subst hp_26
        refine lv_if_eq (tgt := 35) hF.1 hF.2.1 dX11_copy_29 (by decide) (fun c_29 => ?_) (fun c_29 => ?_)
        · --
          have n_29 : (hnB (sfA x (nI b))) = false := b2i_z.mp c_29
          refine lv_aload_n hF.1 hF.2.1 dX11_copy_35 rfl (lv_at hl 0 rfl) ?_
          refine lv_iload_n hF.1 hF.2.1 dX11_copy_36 rfl (lv_at hl 1 rfl) ?_
          refine k_cq (r_V (As := [.int (nI a)]) hF hK hA hG (c_X11_rowOn) (cwV 1 hF.2.2.2.2 gX11_copy_X11_rowOn rfl rfl rfl (by decide +kernel) ⟨Nat.le_of_ble_eq_true rfl, Nat.le_of_ble_eq_true rfl⟩) 6 rfl rfl rfl rfl hl.1 rfl (lv_room (Nat.le_of_ble_eq_true rfl)) dX11_copy_37 ⟨Nat.le_of_ble_eq_true rfl, Nat.le_of_ble_eq_true rfl⟩) hG (fun r_37 u_37 H locs hp_37 hG => ?_)
          cases r_37 with
          | none =>
            obtain ⟨u9, hu9⟩ := rk_n hX ha n_21 hp_37
            obtain ⟨v9, hv9⟩ := hn_s hb n_29
            have h12 := fun (i j n : Int32) => spCopy_5 (x := x) (i := i) (j := j) (n := n) ha hb hu9 hv9
            show W p l e rmX11_copy s m args below meth c _ _ _ _ Q (F0 m 40 ls (.null :: []))
            refine lv_astoreN (lv' := [(6, .null), (0, .ref (ob 6)), (1, .int (nI a)), (2, .int i), (3, .int (nI b)), (4, .int j), (5, .int mm)]) hF.1 hF.2.1 dX11_copy_40 hl (by decide) rfl (fun ls hl => ?_)
            refine lv_aload_n hF.1 hF.2.1 dX11_copy_42 rfl (lv_at hl 1 rfl) ?_
            refine lv_iload_n hF.1 hF.2.1 dX11_copy_43 rfl (lv_at hl 4 rfl) ?_
            refine k_cq (r_V (As := [.int (nI b)]) hF hK hA hG (c_X11_rowOn) (cwV 1 hF.2.2.2.2 gX11_copy_X11_rowOn rfl rfl rfl (by decide +kernel) ⟨Nat.le_of_ble_eq_true rfl, Nat.le_of_ble_eq_true rfl⟩) 6 rfl rfl rfl rfl hl.1 rfl (lv_room (Nat.le_of_ble_eq_true rfl)) dX11_copy_44 ⟨Nat.le_of_ble_eq_true rfl, Nat.le_of_ble_eq_true rfl⟩) hG (fun r_44 u_44 H locs hp_44 hG => ?_)
            cases r_44 with
            | none =>
              show W p l e rmX11_copy s m args below meth c _ _ _ _ Q (F0 m 47 ls (.null :: []))
              refine lv_astoreN (lv' := [(7, .null), (6, .null), (0, .ref (ob 6)), (1, .int (nI a)), (2, .int i), (3, .int (nI b)), (4, .int j), (5, .int mm)]) hF.1 hF.2.1 dX11_copy_47 hl (by decide) rfl (fun ls hl => ?_)
              refine lv_aloadN hF.1 hF.2.1 dX11_copy_49 (lv_at hl 1 rfl) ?_
              refine lv_ifnullN (tgt := 72) hF.1 hF.2.1 dX11_copy_51 (by decide) ?_
              refine lv_bipush (v := (-12)) hF.1 hF.2.1 dX11_copy_72 (by decide +kernel) ?_
              exact hret _ (_, _, _, _, _, _, _, _, _, _, _, _, _, _, _, _, _, _, _, _) _ ls _ _ _ _ (by rw [h12]; exact ⟨rfl, ⟨⟨rfl, rfl⟩, ⟨rfl, rfl⟩, htk, hI, hJ, ⟨_, _, hM⟩, ⟨_, hX⟩⟩⟩) (by first | rfl | exact nar_b2i _) hG (Nat.le_of_ble_eq_true rfl) (Nat.le_of_ble_eq_true rfl) dX11_copy_74
            | some v2 =>
              obtain ⟨y, arr2, qr2, hxb, hR2, hbk⟩ := shR_a hX hb hp_44
              have hz3 := hR2.2.2.2
              show W p l e rmX11_copy s m args below meth c _ _ _ _ Q (F0 m 47 ls (.ref v2 :: []))
              refine lv_astore (lv' := [(7, .ref v2), (6, .null), (0, .ref (ob 6)), (1, .int (nI a)), (2, .int i), (3, .int (nI b)), (4, .int j), (5, .int mm)]) hF.1 hF.2.1 dX11_copy_47 hl (by decide) rfl (fun ls hl => ?_)
              refine lv_aloadN hF.1 hF.2.1 dX11_copy_49 (lv_at hl 1 rfl) ?_
              refine lv_ifnullN (tgt := 72) hF.1 hF.2.1 dX11_copy_51 (by decide) ?_
              refine lv_bipush (v := (-12)) hF.1 hF.2.1 dX11_copy_72 (by decide +kernel) ?_
              exact hret _ (_, _, _, _, _, _, _, _, _, _, _, _, _, _, _, _, _, _, _, _) _ ls _ _ _ _ (by rw [h12]; exact ⟨rfl, ⟨⟨rfl, rfl⟩, ⟨rfl, rfl⟩, htk, hI, hJ, ⟨_, _, hM⟩, ⟨_, hX⟩⟩⟩) (by first | rfl | exact nar_b2i _) hG (Nat.le_of_ble_eq_true rfl) (Nat.le_of_ble_eq_true rfl) dX11_copy_74
          | some v1 =>
            obtain ⟨z, arr1, qr1, hxa, hR1, -⟩ := shR_a hX ha hp_37
            have hz3a := hR1.2.2.2
            show W p l e rmX11_copy s m args below meth c _ _ _ _ Q (F0 m 40 ls (.ref v1 :: []))
            refine lv_astore (lv' := [(6, .ref v1), (0, .ref (ob 6)), (1, .int (nI a)), (2, .int i), (3, .int (nI b)), (4, .int j), (5, .int mm)]) hF.1 hF.2.1 dX11_copy_40 hl (by decide) rfl (fun ls hl => ?_)
            refine lv_aload_n hF.1 hF.2.1 dX11_copy_42 rfl (lv_at hl 1 rfl) ?_
            refine lv_iload_n hF.1 hF.2.1 dX11_copy_43 rfl (lv_at hl 4 rfl) ?_
            refine k_cq (r_V (As := [.int (nI b)]) hF hK hA hG (c_X11_rowOn) (cwV 1 hF.2.2.2.2 gX11_copy_X11_rowOn rfl rfl rfl (by decide +kernel) ⟨Nat.le_of_ble_eq_true rfl, Nat.le_of_ble_eq_true rfl⟩) 6 rfl rfl rfl rfl hl.1 rfl (lv_room (Nat.le_of_ble_eq_true rfl)) dX11_copy_44 ⟨Nat.le_of_ble_eq_true rfl, Nat.le_of_ble_eq_true rfl⟩) hG (fun r_44 u_44 H locs hp_44 hG => ?_)
            cases r_44 with
            | none =>
              obtain ⟨u9, hu9⟩ := rk_n hX hb n_29 hp_44
              have h12 := fun (i j n : Int32) => spCopy_6 (x := x) (i := i) (j := j) (n := n) ha hb hu9 hxa
              show W p l e rmX11_copy s m args below meth c _ _ _ _ Q (F0 m 47 ls (.null :: []))
              refine lv_astoreN (lv' := [(7, .null), (6, .ref v1), (0, .ref (ob 6)), (1, .int (nI a)), (2, .int i), (3, .int (nI b)), (4, .int j), (5, .int mm)]) hF.1 hF.2.1 dX11_copy_47 hl (by decide) rfl (fun ls hl => ?_)
              refine lv_aload hF.1 hF.2.1 dX11_copy_49 (lv_at hl 1 rfl) ?_
              refine lv_ifnull hF.1 hF.2.1 dX11_copy_51 ?_
              refine lv_aloadN hF.1 hF.2.1 dX11_copy_54 (lv_at hl 0 rfl) ?_
              refine lv_ifnullN (tgt := 72) hF.1 hF.2.1 dX11_copy_56 (by decide) ?_
              refine lv_bipush (v := (-12)) hF.1 hF.2.1 dX11_copy_72 (by decide +kernel) ?_
              exact hret _ (_, _, _, _, _, _, _, _, _, _, _, _, _, _, _, _, _, _, _, _) _ ls _ _ _ _ (by rw [h12]; exact ⟨rfl, ⟨⟨rfl, rfl⟩, ⟨rfl, rfl⟩, htk, hI, hJ, ⟨_, _, hM⟩, ⟨_, hX⟩⟩⟩) (by first | rfl | exact nar_b2i _) hG (Nat.le_of_ble_eq_true rfl) (Nat.le_of_ble_eq_true rfl) dX11_copy_74
            | some v2 =>
              obtain ⟨y, arr2, qr2, hxb, hR2, hbk⟩ := shR_a hX hb hp_44
              have hz3 := hR2.2.2.2
              show W p l e rmX11_copy s m args below meth c _ _ _ _ Q (F0 m 47 ls (.ref v2 :: []))
              refine lv_astore (lv' := [(7, .ref v2), (6, .ref v1), (0, .ref (ob 6)), (1, .int (nI a)), (2, .int i), (3, .int (nI b)), (4, .int j), (5, .int mm)]) hF.1 hF.2.1 dX11_copy_47 hl (by decide) rfl (fun ls hl => ?_)
              refine lv_aload hF.1 hF.2.1 dX11_copy_49 (lv_at hl 1 rfl) ?_
              refine lv_ifnull hF.1 hF.2.1 dX11_copy_51 ?_
              refine lv_aload hF.1 hF.2.1 dX11_copy_54 (lv_at hl 0 rfl) ?_
              refine lv_ifnull hF.1 hF.2.1 dX11_copy_56 ?_
              refine lv_aload hF.1 hF.2.1 dX11_copy_59 (lv_at hl 1 rfl) ?_
              refine k_get (C := RX6) (T := TX6) (N := 3) hF hK hG (fun _ h => List.mem_cons_of_mem _ (List.mem_append_left _ (List.mem_append_right _ h))) (qr1 + 16) hR1.c16.1 rfl 0 (by decide) (List.mem_of_getElem? (i := 1) rfl) (fun _ h9 => h9) rfl dX11_copy_61 ?_
              refine lv_aload hF.1 hF.2.1 dX11_copy_64 (lv_at hl 0 rfl) ?_
              refine k_get (C := RX6) (T := TX6) (N := 3) hF hK hG (fun _ h => List.mem_cons_of_mem _ (List.mem_append_left _ (List.mem_append_right _ h))) (qr2 + 16) hR2.c16.1 rfl 0 (by decide) (List.mem_of_getElem? (i := 1) rfl) (fun _ h9 => h9) rfl dX11_copy_66 ?_
              refine lv_icmp_eq (tgt := 75) hF.1 hF.2.1 dX11_copy_69 (by decide) (fun c_69 => ?_) (fun c_69 => ?_)
              · --
                have n_69 : z.1 = y.1 := (nI_eq (a := z.1) (b := y.1) (by omega) (by omega)).mp c_69
                have hzy : z.1 = y.1 := (nI_eq (by omega) (by omega)).mp c_69
                refine lv_aload hF.1 hF.2.1 dX11_copy_75 (lv_at hl 1 rfl) ?_
                refine lv_iload_n hF.1 hF.2.1 dX11_copy_77 rfl (lv_at hl 4 rfl) ?_
                refine lv_iload hF.1 hF.2.1 dX11_copy_78 (lv_at hl 7 rfl) ?_
                refine k_ci (r_V (As := [.int i, .int mm]) hF hK hA hG (c_X6_hasPlaces hR1.c16) (cwV 2 hF.2.2.2.2 gX11_copy_X6_hasPlaces rfl rfl rfl (by decide +kernel) ⟨Nat.le_of_ble_eq_true rfl, Nat.le_of_ble_eq_true rfl⟩) (qr1 + 16) hR1.c16.1 rfl rfl rfl hl.1 rfl (lv_room (Nat.le_of_ble_eq_true rfl)) dX11_copy_80 ⟨Nat.le_of_ble_eq_true rfl, Nat.le_of_ble_eq_true rfl⟩) hG (fun r_80 u_80 H locs hp_80 hG => ?_)
                subst hp_80
                refine lv_if_eq (tgt := 98) hF.1 hF.2.1 dX11_copy_83 (by decide) (fun c_83 => ?_) (fun c_83 => ?_)
                · --
                  have n_83 : (plB z.2.1 i mm) = false := b2i_z.mp c_83
                  refine lv_bipush (v := (-13)) hF.1 hF.2.1 dX11_copy_98 (by decide +kernel) ?_
                  exact hret _ (_, _, _, _, _, _, _, _, _, _, _, _, _, _, _, _, _, _, _, _) _ ls _ _ _ _ (by rw [spCopy_8 ha hb hxa hxb hzy (by first | exact Or.inl n_83 | exact Or.inr n_95)]; exact ⟨rfl, ⟨⟨rfl, rfl⟩, ⟨rfl, rfl⟩, htk, hI, hJ, ⟨_, _, hM⟩, ⟨_, hX⟩⟩⟩) (by first | rfl | exact nar_b2i _) hG (Nat.le_of_ble_eq_true rfl) (Nat.le_of_ble_eq_true rfl) dX11_copy_100
                · --
                  have n_83 : (plB z.2.1 i mm) = true := b2i_nz.mp c_83
                  refine lv_aload hF.1 hF.2.1 dX11_copy_86 (lv_at hl 0 rfl) ?_
                  refine lv_iload hF.1 hF.2.1 dX11_copy_88 (lv_at hl 6 rfl) ?_
                  refine lv_iload hF.1 hF.2.1 dX11_copy_90 (lv_at hl 7 rfl) ?_
                  refine k_ci (r_V (As := [.int j, .int mm]) hF hK hA hG (c_X6_hasPlaces hR2.c16) (cwV 2 hF.2.2.2.2 gX11_copy_X6_hasPlaces rfl rfl rfl (by decide +kernel) ⟨Nat.le_of_ble_eq_true rfl, Nat.le_of_ble_eq_true rfl⟩) (qr2 + 16) hR2.c16.1 rfl rfl rfl hl.1 rfl (lv_room (Nat.le_of_ble_eq_true rfl)) dX11_copy_92 ⟨Nat.le_of_ble_eq_true rfl, Nat.le_of_ble_eq_true rfl⟩) hG (fun r_92 u_92 H locs hp_92 hG => ?_)
                  subst hp_92
                  refine lv_if_ne (tgt := 101) hF.1 hF.2.1 dX11_copy_95 (by decide) (fun c_95 => ?_) (fun c_95 => ?_)
                  · --
                    have n_95 : (plB y.2.1 j mm) = true := b2i_nz.mp c_95
                    have q100 := hR1.2.2.1
                    have y100 := hR2.2.2.1
                    obtain ⟨I_, N_, e1, rfl, rfl⟩ := pl_ex z.2.1 q100 n_83
                    obtain ⟨J_, N2, e2, rfl, hN2⟩ := pl_ex y.2.1 y100 n_95
                    obtain rfl : N_ = N2 := (nI_eq (by omega) (by omega)).mp hN2
                    refine lv_aload hF.1 hF.2.1 dX11_copy_101 (lv_at hl 1 rfl) ?_
                    refine k_get (C := RX6) (T := TX6) (N := 3) hF hK hG (fun _ h => List.mem_cons_of_mem _ (List.mem_append_left _ (List.mem_append_right _ h))) (qr1 + 16) hR1.c16.1 rfl 2 (by decide) (List.mem_of_getElem? (i := 2) rfl) (fun _ h9 => h9) rfl dX11_copy_103 ?_
                    refine lv_iload_n hF.1 hF.2.1 dX11_copy_106 rfl (lv_at hl 4 rfl) ?_
                    refine lv_aload hF.1 hF.2.1 dX11_copy_107 (lv_at hl 0 rfl) ?_
                    refine k_get (C := RX6) (T := TX6) (N := 3) hF hK hG (fun _ h => List.mem_cons_of_mem _ (List.mem_append_left _ (List.mem_append_right _ h))) (qr2 + 16) hR2.c16.1 rfl 2 (by decide) (List.mem_of_getElem? (i := 2) rfl) (fun _ h9 => h9) rfl dX11_copy_109 ?_
                    refine lv_iload hF.1 hF.2.1 dX11_copy_112 (lv_at hl 6 rfl) ?_
                    refine lv_iload hF.1 hF.2.1 dX11_copy_114 (lv_at hl 7 rfl) ?_
                    refine k_copyi hF hK hG (hF.2.2.1.trans hl.1.symm) (List.mem_of_getElem? (i := 3) rfl) (List.mem_of_getElem? (i := 4) rfl) (List.mem_of_getElem? (i := 5) rfl) (List.mem_of_getElem? (i := 6) rfl) (P a + 16) (P b + 16) hR1.c16.2.1 hR2.c16.2.1 e1 e2 q100 y100 (Nat.le_of_ble_eq_true rfl) (Nat.le_of_ble_eq_true rfl) dX11_copy_116 (fun H locs hG => ?_)
                    have hG : Gd D A (XW cA ob mb ss sh sp mt rc n o dr n1 o1 dr1 n2 o2 dr2 dk rk kt tk (pool.set (P b) (arr2, .inl (cA 0, y.2.1, .inl (va_cpy z.2.2 y.2.2 I_ J_ N_))))) s.heap H locs := hG
                    refine lv_iload hF.1 hF.2.1 dX11_copy_119 (lv_at hl 7 rfl) ?_
                    exact hret _ (_, _, _, _, _, _, _, _, _, _, _, _, _, _, _, _, _, _, _, _) _ ls _ _ _ _ (by rw [spCopy_t ha hb hxa hxb hzy n_83 n_95 (by omega) (by omega) (by omega)]; exact ⟨rfl, ⟨⟨rfl, rfl⟩, ⟨rfl, rfl⟩, htk, hI.keepA hR2.2.1, hJ.keepA hR2.2.1, ⟨_, _, hM.keepA hR2.2.1⟩, ⟨_, hX.put hb hxb hR2 hbk⟩⟩⟩) (by first | rfl | exact nar_b2i _) hG (Nat.le_of_ble_eq_true rfl) (Nat.le_of_ble_eq_true rfl) dX11_copy_121
                  · --
                    have n_95 : (plB y.2.1 j mm) = false := b2i_z.mp c_95
                    refine lv_bipush (v := (-13)) hF.1 hF.2.1 dX11_copy_98 (by decide +kernel) ?_
                    exact hret _ (_, _, _, _, _, _, _, _, _, _, _, _, _, _, _, _, _, _, _, _) _ ls _ _ _ _ (by rw [spCopy_8 ha hb hxa hxb hzy (by first | exact Or.inl n_83 | exact Or.inr n_95)]; exact ⟨rfl, ⟨⟨rfl, rfl⟩, ⟨rfl, rfl⟩, htk, hI, hJ, ⟨_, _, hM⟩, ⟨_, hX⟩⟩⟩) (by first | rfl | exact nar_b2i _) hG (Nat.le_of_ble_eq_true rfl) (Nat.le_of_ble_eq_true rfl) dX11_copy_100
              · --
                have n_69 : ¬ (z.1 = y.1) := fun zz9 => c_69 ((nI_eq (a := z.1) (b := y.1) (by omega) (by omega)).mpr zz9)
                have hzy : ¬ z.1 = y.1 := fun q => c_69 (by rw [q])
                have h12 := fun (i j n : Int32) => spCopy_7 (x := x) (i := i) (j := j) (n := n) ha hb hxa hxb hzy
                refine lv_bipush (v := (-12)) hF.1 hF.2.1 dX11_copy_72 (by decide +kernel) ?_
                exact hret _ (_, _, _, _, _, _, _, _, _, _, _, _, _, _, _, _, _, _, _, _) _ ls _ _ _ _ (by rw [h12]; exact ⟨rfl, ⟨⟨rfl, rfl⟩, ⟨rfl, rfl⟩, htk, hI, hJ, ⟨_, _, hM⟩, ⟨_, hX⟩⟩⟩) (by first | rfl | exact nar_b2i _) hG (Nat.le_of_ble_eq_true rfl) (Nat.le_of_ble_eq_true rfl) dX11_copy_74
        · --
          have n_29 : (hnB (sfA x (nI b))) = true := b2i_nz.mp c_29
          refine lv_bipush (v := (-11)) hF.1 hF.2.1 dX11_copy_32 (by decide +kernel) ?_
          exact hret _ (_, _, _, _, _, _, _, _, _, _, _, _, _, _, _, _, _, _, _, _) _ ls _ _ _ _ (by first | (rw [spCopy_3 ha hb (hn_n ha n_21)]; exact ⟨rfl, ⟨⟨rfl, rfl⟩, ⟨rfl, rfl⟩, htk, hI, hJ, ⟨_, _, hM⟩, ⟨_, hX⟩⟩⟩) | (rw [spCopy_4 ha hb (hn_n hb n_29)]; exact ⟨rfl, ⟨⟨rfl, rfl⟩, ⟨rfl, rfl⟩, htk, hI, hJ, ⟨_, _, hM⟩, ⟨_, hX⟩⟩⟩)) (by first | rfl | exact nar_b2i _) hG (Nat.le_of_ble_eq_true rfl) (Nat.le_of_ble_eq_true rfl) dX11_copy_34
    · --
      have n_11 : (inB 8 y_) = false := b2i_z.mp c_11
      refine lv_iconst (v := (-1)) hF.1 hF.2.1 dX11_copy_14 (by decide +kernel) ?_
      exact hret _ (_, _, _, _, _, _, _, _, _, _, _, _, _, _, _, _, _, _, _, _) _ ls _ _ _ _ (by first | (rw [spCopy_1 n_4]; exact ⟨rfl, ⟨⟨rfl, rfl⟩, ⟨rfl, rfl⟩, htk, hI, hJ, ⟨_, _, hM⟩, ⟨_, hX⟩⟩⟩) | (rw [spCopy_2 ha n_11]; exact ⟨rfl, ⟨⟨rfl, rfl⟩, ⟨rfl, rfl⟩, htk, hI, hJ, ⟨_, _, hM⟩, ⟨_, hX⟩⟩⟩)) (by first | rfl | exact nar_b2i _) hG (Nat.le_of_ble_eq_true rfl) (Nat.le_of_ble_eq_true rfl) dX11_copy_15
