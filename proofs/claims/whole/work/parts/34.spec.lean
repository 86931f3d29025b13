/-! ===== what each call answers, and how all stands behind it ===== -/
abbrev Wl : Type := Nat × Nat × (Nat → Nat) × (Nat → Nat)
def SRW (a : Nat → Int32) (w : Wl) : Prop := SR a w.1 w.2.1 w.2.2.1 w.2.2.2
def sfA (x : Nat → Sf) (d : Int32) : Option Sf := if inB 8 d = true then some (x d.toNatClampNeg) else none
theorem sfA_j (x : Nat → Sf) {j : Nat} (hj : j < 8) : sfA x (nI j) = some (x j) := by
  unfold sfA
  rw [if_pos (inB_j (by omega) hj), nI_clamp (by omega)]
theorem sfA_f (x : Nat → Sf) {d : Int32} (h : inB 8 d = false) : sfA x d = none := by
  unfold sfA
  rw [h]
  rfl
def wkI (y : Option Sf) : Int32 := match y with
  | none => -1
  | some none => -11
  | some (some (.inl _)) => nI 0
  | some (some (.inr _)) => -12
def wr0 (y : Option Sf) : Int32 := match y with
  | none => -1
  | some none => -11
  | some (some (.inl _)) => -12
  | some (some (.inr z)) => if z.1 = 0 then nI 0 else -12
def wrA (y : Option Sf) : Int32 := match y with
  | none => -1
  | some none => -11
  | some (some (.inl _)) => -12
  | some (some (.inr _)) => nI 0
theorem m1_0 : ¬ (-1 : Int32) = 0 := by decide +kernel
theorem m11_0 : ¬ (-11 : Int32) = 0 := by decide +kernel
theorem m12_0 : ¬ (-12 : Int32) = 0 := by decide +kernel
theorem sfA_ex {x : Nat → Sf} {d : Int32} {y : Sf} (h : sfA x d = some y) : ∃ j, j < 8 ∧ d = nI j ∧ x j = y := by
  by_cases hb : inB 8 d = true
  · obtain ⟨j, hj, rfl⟩ := inB_ex (by omega) hb
    rw [sfA_j x hj] at h
    exact ⟨j, hj, rfl, Option.some.inj h⟩
  · rw [sfA_f x (by simpa using hb)] at h
    cases h
theorem wk_0 {x : Nat → Sf} {d : Int32} (h : wkI (sfA x d) = 0) : ∃ (j : Nat) (z : Nat × Nat), j < 8 ∧ d = nI j ∧ x j = some (.inl z) := by
  cases e : sfA x d with
  | none => rw [e] at h; exact absurd h m1_0
  | some y =>
    obtain ⟨j, hj, rfl, hx⟩ := sfA_ex e
    rw [e] at h
    cases y with
    | none => exact absurd h m11_0
    | some y =>
      cases y with
      | inl z => exact ⟨j, z, hj, rfl, hx⟩
      | inr z => exact absurd h m12_0
theorem wr_0 {x : Nat → Sf} {d : Int32} (h : wr0 (sfA x d) = 0) : ∃ (j : Nat) (z : Nat × Nat × (Nat → Int32)), j < 8 ∧ d = nI j ∧ x j = some (.inr z) ∧ z.1 = 0 := by
  cases e : sfA x d with
  | none => rw [e] at h; exact absurd h m1_0
  | some y =>
    obtain ⟨j, hj, rfl, hx⟩ := sfA_ex e
    rw [e] at h
    cases y with
    | none => exact absurd h m11_0
    | some y =>
      cases y with
      | inl z => exact absurd h m12_0
      | inr z =>
        by_cases h0 : z.1 = 0
        · exact ⟨j, z, hj, rfl, hx, h0⟩
        · have : wr0 (some (some (.inr z))) = -12 := by show (if z.1 = 0 then nI 0 else -12) = _; rw [if_neg h0]
          rw [this] at h
          exact absurd h m12_0
theorem wa_0 {x : Nat → Sf} {d : Int32} (h : wrA (sfA x d) = 0) : ∃ (j : Nat) (z : Nat × Nat × (Nat → Int32)), j < 8 ∧ d = nI j ∧ x j = some (.inr z) := by
  cases e : sfA x d with
  | none => rw [e] at h; exact absurd h m1_0
  | some y =>
    obtain ⟨j, hj, rfl, hx⟩ := sfA_ex e
    rw [e] at h
    cases y with
    | none => exact absurd h m11_0
    | some y =>
      cases y with
      | inl z => exact absurd h m12_0
      | inr z => exact ⟨j, z, hj, rfl, hx⟩
section SFL
variable {aK aT aZ aE aD aF : Nat → Int32} {d : Nat} {y : Sf}
theorem sf_n (h : SF aK aT aZ aE aD aF d none) : aK d = nI 0 := h
theorem sf_l {x : Nat → Sf} {z : Nat × Nat} (h : SF aK aT aZ aE aD aF d (x d)) (hx : x d = some (.inl z)) : aK d = nI 1 ∧ aD d = nI z.1 ∧ aF d = nI z.2 ∧ z.1 < 8 ∧ z.2 < 10 := by
  rw [hx] at h
  exact h
theorem sf_r {x : Nat → Sf} {z : Nat × Nat × (Nat → Int32)} (h : SF aK aT aZ aE aD aF d (x d)) (hx : x d = some (.inr z)) : aK d = nI 2 ∧ aT d = nI z.1 ∧ aZ d = nI z.2.1 ∧ z.1 < 3 ∧ z.2.1 ≤ 100 ∧ ∀ i, i < z.2.1 → aE (100 * d + i) = z.2.2 i := by
  rw [hx] at h
  exact h
/-- what kind a shelf's number tells -/
theorem sf_k (h : SF aK aT aZ aE aD aF d y) : (aK d = nI 0 ∧ y = none) ∨ (aK d = nI 1 ∧ ∃ z, y = some (.inl z)) ∨ (aK d = nI 2 ∧ ∃ z, y = some (.inr z) ∧ aT d = nI z.1 ∧ z.1 < 3) := by
  cases y with
  | none => exact Or.inl ⟨h, rfl⟩
  | some y =>
    cases y with
    | inl z => exact Or.inr (Or.inl ⟨h.1, z, rfl⟩)
    | inr z => exact Or.inr (Or.inr ⟨h.1, z, rfl, h.2.1, h.2.2.2.1⟩)
theorem sf_0 (h : SF aK aT aZ aE aD aF d y) (c : aK d = 0) : y = none := by
  rcases sf_k h with ⟨k1, k2⟩ | ⟨k1, k2⟩ | ⟨k1, k2⟩
  · exact k2
  · rw [k1] at c
    exact absurd c (by decide +kernel)
  · rw [k1] at c
    exact absurd c (by decide +kernel)
theorem sf_1 (h : SF aK aT aZ aE aD aF d y) (c : aK d = nI 1) : ∃ z, y = some (.inl z) := by
  rcases sf_k h with ⟨k1, k2⟩ | ⟨k1, k2⟩ | ⟨k1, k2⟩
  · rw [k1] at c
    exact absurd c (by decide +kernel)
  · exact k2
  · rw [k1] at c
    exact absurd c (by decide +kernel)
theorem sf_2 (h : SF aK aT aZ aE aD aF d y) (c : aK d = nI 2) : ∃ z, y = some (.inr z) ∧ aT d = nI z.1 ∧ z.1 < 3 := by
  rcases sf_k h with ⟨k1, k2⟩ | ⟨k1, k2⟩ | ⟨k1, k2⟩
  · rw [k1] at c
    exact absurd c (by decide +kernel)
  · rw [k1] at c
    exact absurd c (by decide +kernel)
  · exact k2
theorem sf_n2 (h : SF aK aT aZ aE aD aF d y) (c0 : ¬ aK d = 0) (c : ¬ aK d = nI 2) : ∃ z, y = some (.inl z) := by
  rcases sf_k h with ⟨k1, k2⟩ | ⟨k1, k2⟩ | ⟨k1, k2⟩
  · exact absurd k1 c0
  · exact k2
  · exact absurd k1 c
theorem sf_n1 (h : SF aK aT aZ aE aD aF d y) (c0 : ¬ aK d = 0) (c : ¬ aK d = nI 1) : ∃ z, y = some (.inr z) ∧ aT d = nI z.1 ∧ z.1 < 3 := by
  rcases sf_k h with ⟨k1, k2⟩ | ⟨k1, k2⟩ | ⟨k1, k2⟩
  · exact absurd k1 c0
  · exact absurd k1 c
  · exact k2
end SFL
theorem wk_l0 {aK aT aZ aE aD aF : Nat → Int32} {x : Nat → Sf} {j : Nat} (hj : j < 8) (h : SF aK aT aZ aE aD aF j (x j)) (c : aK j = 0) : (-11 : Int32) = wkI (sfA x (nI j)) := by rw [sfA_j x hj, sf_0 h c]; rfl
theorem wk_l1 {aK aT aZ aE aD aF : Nat → Int32} {x : Nat → Sf} {j : Nat} (hj : j < 8) (h : SF aK aT aZ aE aD aF j (x j)) (c : aK j = nI 1) : nI 0 = wkI (sfA x (nI j)) := by obtain ⟨z, e⟩ := sf_1 h c; rw [sfA_j x hj, e]; rfl
theorem wk_l2 {aK aT aZ aE aD aF : Nat → Int32} {x : Nat → Sf} {j : Nat} (hj : j < 8) (h : SF aK aT aZ aE aD aF j (x j)) (c0 : ¬ aK j = 0) (c : ¬ aK j = nI 1) : (-12 : Int32) = wkI (sfA x (nI j)) := by obtain ⟨z, e, -⟩ := sf_n1 h c0 c; rw [sfA_j x hj, e]; rfl
theorem wr_l0 {aK aT aZ aE aD aF : Nat → Int32} {x : Nat → Sf} {j : Nat} (hj : j < 8) (h : SF aK aT aZ aE aD aF j (x j)) (c : aK j = 0) : (-11 : Int32) = wr0 (sfA x (nI j)) := by rw [sfA_j x hj, sf_0 h c]; rfl
theorem wr_l1 {aK aT aZ aE aD aF : Nat → Int32} {x : Nat → Sf} {j : Nat} (hj : j < 8) (h : SF aK aT aZ aE aD aF j (x j)) (c0 : ¬ aK j = 0) (c : ¬ aK j = nI 2) : (-12 : Int32) = wr0 (sfA x (nI j)) := by obtain ⟨z, e⟩ := sf_n2 h c0 c; rw [sfA_j x hj, e]; rfl
theorem wr_l2 {aK aT aZ aE aD aF : Nat → Int32} {x : Nat → Sf} {j : Nat} (hj : j < 8) (h : SF aK aT aZ aE aD aF j (x j)) (c : aK j = nI 2) (c2 : aT j = nI 0) : nI 0 = wr0 (sfA x (nI j)) := by
  obtain ⟨z, e, e1, e2⟩ := sf_2 h c
  rw [sfA_j x hj, e]
  exact (if_pos ((nI_eq (by omega) (by omega)).mp (e1.symm.trans c2))).symm
theorem wr_l3 {aK aT aZ aE aD aF : Nat → Int32} {x : Nat → Sf} {j : Nat} (hj : j < 8) (h : SF aK aT aZ aE aD aF j (x j)) (c : aK j = nI 2) (c2 : ¬ aT j = nI 0) : (-12 : Int32) = wr0 (sfA x (nI j)) := by
  obtain ⟨z, e, e1, e2⟩ := sf_2 h c
  rw [sfA_j x hj, e]
  exact (if_neg (fun q => c2 (by rw [e1, q]))).symm
theorem wa_l0 {aK aT aZ aE aD aF : Nat → Int32} {x : Nat → Sf} {j : Nat} (hj : j < 8) (h : SF aK aT aZ aE aD aF j (x j)) (c : aK j = 0) : (-11 : Int32) = wrA (sfA x (nI j)) := by rw [sfA_j x hj, sf_0 h c]; rfl
theorem wa_l1 {aK aT aZ aE aD aF : Nat → Int32} {x : Nat → Sf} {j : Nat} (hj : j < 8) (h : SF aK aT aZ aE aD aF j (x j)) (c0 : ¬ aK j = 0) (c : ¬ aK j = nI 2) : (-12 : Int32) = wrA (sfA x (nI j)) := by obtain ⟨z, e⟩ := sf_n2 h c0 c; rw [sfA_j x hj, e]; rfl
theorem wa_l2 {aK aT aZ aE aD aF : Nat → Int32} {x : Nat → Sf} {j : Nat} (hj : j < 8) (h : SF aK aT aZ aE aD aF j (x j)) (c : aK j = nI 2) : nI 0 = wrA (sfA x (nI j)) := by obtain ⟨z, e, -⟩ := sf_2 h c; rw [sfA_j x hj, e]; rfl
def spDrawer (n o : Nat) (kd fg : Nat → Nat) (i what : Int32) : Int32 :=
  if inB n i = true then (if what = nI 0 then nI (kd i.toNatClampNeg) else if what = nI 1 then nI (fg i.toNatClampNeg) else if what = nI 2 then nI (o.testBit i.toNatClampNeg).toNat else if what = nI 3 then b2i (mv (kd i.toNatClampNeg) (fg i.toNatClampNeg) i.toNatClampNeg o) else -1) else -1
def spComes (n o : Nat) (kd fg : Nat → Nat) (y : Option Sf) : Int32 × Wl := match y with
  | some (some (.inl z)) => if n < 6 then (nI n, n + 1, o, va_up kd n z.1, va_up fg n z.2) else (-2, n, o, kd, fg)
  | y => (wkI y, n, o, kd, fg)
theorem spComes_n {n o : Nat} {kd fg : Nat → Nat} {y : Option Sf} (h : ¬ wkI y = 0) : spComes n o kd fg y = (wkI y, n, o, kd, fg) := by
  match y, h with
  | none, _ => rfl
  | some none, _ => rfl
  | some (some (.inl z)), h => exact absurd (by decide +kernel : nI 0 = 0) h
  | some (some (.inr z)), _ => rfl
theorem spComes_t {n o : Nat} {kd fg : Nat → Nat} {z : Nat × Nat} (h : n < 6) : spComes n o kd fg (some (some (.inl z))) = (nI n, n + 1, o, va_up kd n z.1, va_up fg n z.2) := if_pos h
theorem spComes_f {n o : Nat} {kd fg : Nat → Nat} {z : Nat × Nat} (h : ¬ n < 6) : spComes n o kd fg (some (some (.inl z))) = (-2, n, o, kd, fg) := if_neg h
def spChanges (n o : Nat) (kd fg : Nat → Nat) (y : Option Sf) (i : Int32) : Int32 × Wl := if inB n i = true then (match y with
  | some (some (.inl z)) => (nI (kd i.toNatClampNeg), n, o, va_up kd i.toNatClampNeg z.1, va_up fg i.toNatClampNeg z.2)
  | y => (wkI y, n, o, kd, fg)) else (-1, n, o, kd, fg)
theorem spChanges_f {n o : Nat} {kd fg : Nat → Nat} {y : Option Sf} {i : Int32} (h : inB n i = false) : spChanges n o kd fg y i = (-1, n, o, kd, fg) := by
  unfold spChanges
  rw [h]
  rfl
theorem spChanges_n {n o j : Nat} {kd fg : Nat → Nat} {y : Option Sf} (hn : n ≤ 6) (hj : j < n) (h : ¬ wkI y = 0) : spChanges n o kd fg y (nI j) = (wkI y, n, o, kd, fg) := by
  unfold spChanges
  rw [if_pos (inB_j (by omega) hj)]
  match y, h with
  | none, _ => rfl
  | some none, _ => rfl
  | some (some (.inl z)), h => exact absurd (by decide +kernel : nI 0 = 0) h
  | some (some (.inr z)), _ => rfl
theorem spChanges_t {n o j : Nat} {kd fg : Nat → Nat} {z : Nat × Nat} (hn : n ≤ 6) (hj : j < n) : spChanges n o kd fg (some (some (.inl z))) (nI j) = (nI (kd j), n, o, va_up kd j z.1, va_up fg j z.2) := by
  unfold spChanges
  rw [if_pos (inB_j (by omega) hj), nI_clamp (by omega)]
def spPull (n o : Nat) (kd fg : Nat → Nat) (i : Int32) : Int32 := if inB n i = true then (if mayZ n kd fg i o = true then nI (pullO n kd fg i o) else -3) else -1
def spStanding (n o : Nat) (kd fg : Nat → Nat) (what : Int32) : Int32 := if what = nI 0 then nI o else if what = nI 1 then nI (mayU kd fg o n) else -1
def spStand (n o : Nat) (st : Int32) : Int32 × Nat := if inB (2 ^ n) st = true then (nI o, st.toNatClampNeg) else (-1, o)
theorem spStand_f {n o : Nat} {st : Int32} (h : inB (2 ^ n) st = false) : spStand n o st = (-1, o) := by
  unfold spStand
  rw [h]
  rfl
theorem spStand_t {n o j : Nat} (hn : n ≤ 6) (hj : j < 2 ^ n) : spStand n o (nI j) = (nI o, j) := by
  have h1 : 2 ^ n ≤ 2 ^ 6 := Nat.pow_le_pow_right (by decide) hn
  unfold spStand
  rw [if_pos (inB_j (by omega) hj), nI_clamp (by omega)]
def DS (n : Nat) (kd fg : Nat → Nat) (a b : Nat) (r : Int32) : Prop := IsW (ER n (edW n kd fg)) a (fun z => z = b) r
def spFewest (n : Nat) (kd fg : Nat → Nat) (f t r : Int32) : Prop := if (inB (2 ^ n) f && inB (2 ^ n) t) = true then DS n kd fg f.toNatClampNeg t.toNatClampNeg r else r = -1
theorem spFewest_f {n : Nat} {kd fg : Nat → Nat} {f t : Int32} (h : inB (2 ^ n) f = false ∨ inB (2 ^ n) t = false) : spFewest n kd fg f t (-1) := by
  unfold spFewest
  rcases h with h | h
  · rw [h]; simp
  · rw [h]; simp
theorem spFewest_t {n i j : Nat} {kd fg : Nat → Nat} {r : Int32} (hn : n ≤ 6) (hi : i < 2 ^ n) (hj : j < 2 ^ n) (h : DS n kd fg i j r) : spFewest n kd fg (nI i) (nI j) r := by
  have h1 : 2 ^ n ≤ 2 ^ 6 := Nat.pow_le_pow_right (by decide) hn
  unfold spFewest
  rw [inB_j (by omega) hi, inB_j (by omega) hj, nI_clamp (by omega), nI_clamp (by omega)]
  exact h
def spHad (n o : Nat) (kd fg : Nat → Nat) (t r : Int32) : Prop := if inB (2 ^ n) t = true then HAD n o kd fg t.toNatClampNeg r else r = -1
theorem spHad_f {n o : Nat} {kd fg : Nat → Nat} {t : Int32} (h : inB (2 ^ n) t = false) : spHad n o kd fg t (-1) := by
  unfold spHad
  rw [h]
  rfl
theorem spHad_t {n o j : Nat} {kd fg : Nat → Nat} {r : Int32} (hn : n ≤ 6) (hj : j < 2 ^ n) (h : HAD n o kd fg j r) : spHad n o kd fg (nI j) r := by
  have h1 : 2 ^ n ≤ 2 ^ 6 := Nat.pow_le_pow_right (by decide) hn
  unfold spHad
  rw [if_pos (inB_j (by omega) hj), nI_clamp (by omega)]
  exact h
def joi (n : Nat) (kd : Nat → Nat) : Bool := decide (howU kd 0 n = n)
theorem howU_all {kd : Nat → Nat} {k : Nat} : ∀ n, howU kd k n = n → ∀ j, j < n → kd j = k := by
  intro n
  induction n with
  | zero => intro _ j hj; exact absurd hj (Nat.not_lt_zero _)
  | succ n ih =>
    intro h j hj
    have hle := howU_le kd k n
    by_cases e : kd n = k
    · rw [howU_t e] at h
      by_cases e2 : j = n
      · rw [e2]; exact e
      · exact ih (by omega) j (by omega)
    · rw [howU_f e] at h
      omega
theorem joi_t {n : Nat} {kd : Nat → Nat} (h : ∀ j, j < n → kd j = 0) : joi n kd = true := by
  have key : ∀ m, m ≤ n → howU kd 0 m = m := by
    intro m
    induction m with
    | zero => intro _; rfl
    | succ m ih => intro hm; rw [howU_t (h m (by omega)), ih (by omega)]
  exact decide_eq_true (key n (Nat.le_refl n))
theorem joi_f {n j : Nat} {kd : Nat → Nat} (hj : j < n) (h : ¬ kd j = 0) : joi n kd = false := decide_eq_false (fun q => h (howU_all n q j hj))
def spPlace (n : Nat) (kd fg : Nat → Nat) (t r : Int32) : Prop := if inB (2 ^ n) t = true then (if joi n kd = true then DS n kd fg (2 ^ n - 1) t.toNatClampNeg r else r = -3) else r = -1
