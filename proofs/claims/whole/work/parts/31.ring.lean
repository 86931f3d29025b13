/-! ===== rings: breadth by rounds, over a row of numbers ===== -/
def Rch (R : Nat → Nat → Prop) : Nat → Nat → Nat → Prop
  | 0, a, b => a = b
  | n + 1, a, b => ∃ c, Rch R n a c ∧ R c b
/-- r is the least number of steps from a to one that is wanted, or -4 -/
def IsW (R : Nat → Nat → Prop) (a : Nat) (W : Nat → Prop) (r : Int32) : Prop :=
  (r = -4 ∧ ∀ n b, Rch R n a b → ¬ W b) ∨ ∃ n, n < 5000 ∧ r = nI n ∧ (∃ b, Rch R n a b ∧ W b) ∧ ∀ m, m < n → ∀ b, Rch R m a b → ¬ W b
theorem nI_ne4 {n : Nat} (h : n < 2 ^ 31) : nI n ≠ -4 := by
  intro q
  have h1 := nI_toInt h
  rw [q] at h1
  have h2 : (-4 : Int32).toInt = -4 := by decide +kernel
  omega
theorem IsW.one {R : Nat → Nat → Prop} {a : Nat} {W : Nat → Prop} {r q : Int32} (h : IsW R a W r) (g : IsW R a W q) : r = q := by
  rcases h with ⟨h1, h2⟩ | ⟨n, h0, h1, ⟨b, h2, h3⟩, h4⟩ <;> rcases g with ⟨g1, g2⟩ | ⟨m, g0, g1, ⟨c, g2, g3⟩, g4⟩
  · rw [h1, g1]
  · exact absurd g3 (h2 m c g2)
  · exact absurd h3 (g2 n b h2)
  · rcases Nat.lt_trichotomy n m with e | e | e
    · exact absurd h3 (g4 n e b h2)
    · rw [h1, g1, e]
    · exact absurd g3 (h4 m e c g2)
def ER (nd : Nat) (ed : Nat → Nat → Option Nat) (c b : Nat) : Prop := ∃ i, i < nd ∧ ed c i = some b
/-- round n, at the place k, its edge i -/
def RI (K nd : Nat) (ed : Nat → Nat → Option Nat) (W : Nat → Prop) (a n : Nat) (P : Nat → Int32) (k i : Nat) : Prop :=
  (∀ z, z < K → P z = -4 ∨ ∃ m, m ≤ n + 1 ∧ P z = nI m ∧ Rch (ER nd ed) m a z ∧ ∀ m', m' < m → ¬ Rch (ER nd ed) m' a z) ∧
  (∀ z, z < K → P z = -4 → ∀ m, m ≤ n → ¬ Rch (ER nd ed) m a z) ∧
  (∀ k' i', (k' < k ∨ (k' = k ∧ i' < i)) → k' < K → i' < nd → P k' = nI n → ∀ z, ed k' i' = some z → P z ≠ -4) ∧
  (∀ z, z < K → W z → ∀ m, m < n → P z ≠ nI m) ∧
  (∀ k', k' < k → k' < K → W k' → P k' ≠ nI n)
section RING
variable {K nd : Nat} {ed : Nat → Nat → Option Nat} {W : Nat → Prop} {a n : Nat} {P : Nat → Int32} {k i : Nat}
theorem RI.skip (h : RI K nd ed W a n P k 0) (hk : ¬ P k = nI n) : RI K nd ed W a n P (k + 1) 0 := by
  obtain ⟨h1, h2, h3, h4, h5⟩ := h
  refine ⟨h1, h2, fun k' i' hl hK hi hP z hz => ?_, h4, fun k' hl hK hw => ?_⟩
  · rcases hl with hl | ⟨-, hl⟩
    · by_cases e : k' = k
      · subst e
        exact absurd hP hk
      · exact h3 k' i' (Or.inl (by omega)) hK hi hP z hz
    · exact absurd hl (Nat.not_lt_zero _)
  · by_cases e : k' = k
    · subst e
      exact hk
    · exact h5 k' (by omega) hK hw
theorem RI.next (h : RI K nd ed W a n P k i) (hi : nd ≤ i) (hw : ¬ W k) : RI K nd ed W a n P (k + 1) 0 := by
  obtain ⟨h1, h2, h3, h4, h5⟩ := h
  refine ⟨h1, h2, fun k' i' hl hK hi' hP z hz => ?_, h4, fun k' hl hK hw' => ?_⟩
  · rcases hl with hl | ⟨-, hl⟩
    · by_cases e : k' = k
      · subst e
        exact h3 k' i' (Or.inr ⟨rfl, by omega⟩) hK hi' hP z hz
      · exact h3 k' i' (Or.inl (by omega)) hK hi' hP z hz
    · exact absurd hl (Nat.not_lt_zero _)
  · by_cases e : k' = k
    · subst e
      exact absurd hw' hw
    · exact h5 k' (by omega) hK hw'
theorem RI.none (h : RI K nd ed W a n P k i) (he : ed k i = none) : RI K nd ed W a n P k (i + 1) := by
  obtain ⟨h1, h2, h3, h4, h5⟩ := h
  refine ⟨h1, h2, fun k' i' hl hK hi' hP z hz => ?_, h4, h5⟩
  by_cases e : k' = k ∧ i' = i
  · obtain ⟨rfl, rfl⟩ := e
    rw [he] at hz
    cases hz
  · exact h3 k' i' (by omega) hK hi' hP z hz
theorem RI.had {z0 : Nat} (h : RI K nd ed W a n P k i) (he : ed k i = some z0) (hz0 : P z0 ≠ -4) : RI K nd ed W a n P k (i + 1) := by
  obtain ⟨h1, h2, h3, h4, h5⟩ := h
  refine ⟨h1, h2, fun k' i' hl hK hi' hP z hz => ?_, h4, h5⟩
  by_cases e : k' = k ∧ i' = i
  · obtain ⟨rfl, rfl⟩ := e
    rw [he] at hz
    cases hz
    exact hz0
  · exact h3 k' i' (by omega) hK hi' hP z hz
theorem RI.at (h : RI K nd ed W a n P k i) (hn : n < 5000) {z : Nat} (hz : z < K) {m : Nat} (hm : m < 5002) (hP : P z = nI m) : Rch (ER nd ed) m a z ∧ ∀ m', m' < m → ¬ Rch (ER nd ed) m' a z := by
  rcases h.1 z hz with g | ⟨m2, g1, g2, g3, g4⟩
  · rw [hP] at g
    exact absurd g (nI_ne4 (by omega))
  · rw [hP] at g2
    have : m = m2 := (nI_eq (by omega) (by omega)).mp g2
    subst this
    exact ⟨g3, g4⟩
theorem RI.put {z0 : Nat} (h : RI K nd ed W a n P k i) (hn : n < 5000) (hk : k < K) (hi : i < nd) (hP : P k = nI n) (he : ed k i = some z0) (hz0 : P z0 = -4) (hzK : z0 < K) : RI K nd ed W a n (upd P z0 (nI (n + 1))) k (i + 1) := by
  obtain ⟨h1, h2, h3, h4, h5⟩ := id h
  have hkz : k ≠ z0 := fun e => by rw [e, hz0] at hP; exact nI_ne4 (by omega) hP.symm
  refine ⟨fun z hz => ?_, fun z hz hz4 => ?_, fun k' i' hl hK hi' hP' z hz => ?_, fun z hz hw m hm => ?_, fun k' hl hK hw => ?_⟩
  · by_cases e : z = z0
    · subst e
      refine Or.inr ⟨n + 1, Nat.le_refl _, pk_us, ⟨k, (h.at hn hk (by omega) hP).1, i, hi, he⟩, fun m' hm' => h2 z hzK hz0 m' (by omega)⟩
    · rw [pk_un e]
      exact h1 z hz
  · by_cases e : z = z0
    · subst e
      rw [pk_us] at hz4
      exact absurd hz4 (nI_ne4 (by omega))
    · rw [pk_un e] at hz4
      exact h2 z hz hz4
  · by_cases e : z = z0
    · subst e
      rw [pk_us]
      exact nI_ne4 (by omega)
    · rw [pk_un e]
      by_cases e2 : k' = z0
      · subst e2
        rw [pk_us] at hP'
        have : n + 1 = n := (nI_eq (by omega) (by omega)).mp hP'
        omega
      · rw [pk_un e2] at hP'
        by_cases e3 : k' = k ∧ i' = i
        · obtain ⟨rfl, rfl⟩ := e3
          rw [he] at hz
          exact absurd (Option.some.inj hz).symm e
        · exact h3 k' i' (by omega) hK hi' hP' z hz
  · by_cases e : z = z0
    · subst e
      rw [pk_us]
      intro q
      have : n + 1 = m := (nI_eq (by omega) (by omega)).mp q
      omega
    · rw [pk_un e]
      exact h4 z hz hw m hm
  · by_cases e : k' = z0
    · subst e
      rw [pk_us]
      intro q
      have : n + 1 = n := (nI_eq (by omega) (by omega)).mp q
      omega
    · rw [pk_un e]
      exact h5 k' hl hK hw
theorem RI.reach (h : RI K nd ed W a n P K 0) (hn : n < 5000) (hE : ∀ c, c < K → ∀ i, i < nd → ∀ z, ed c i = some z → z < K) (ha : a < K) : ∀ m z, Rch (ER nd ed) m a z → z < K := by
  intro m
  induction m with
  | zero => intro z hz; cases hz; exact ha
  | succ m ih =>
    intro z ⟨c, hc, i, hi, he⟩
    exact hE c (ih c hc) i hi z he
theorem RI.ring (h : RI K nd ed W a n P K 0) (hn : n < 5000) (hE : ∀ c, c < K → ∀ i, i < nd → ∀ z, ed c i = some z → z < K) (ha : a < K) : RI K nd ed W a (n + 1) P 0 0 := by
  obtain ⟨h1, h2, h3, h4, h5⟩ := id h
  refine ⟨fun z hz => ?_, fun z hz hz4 m hm hr => ?_, fun k' i' hl => ?_, fun z hz hw m hm => ?_, fun k' hl => absurd hl (Nat.not_lt_zero _)⟩
  · rcases h1 z hz with g | ⟨m, g1, g2⟩
    · exact Or.inl g
    · exact Or.inr ⟨m, by omega, g2⟩
  · by_cases e : m ≤ n
    · exact h2 z hz hz4 m e hr
    · obtain rfl : m = n + 1 := by omega
      obtain ⟨c, hc, i, hi, he⟩ := hr
      have hcK := h.reach hn hE ha n c hc
      rcases h1 c hcK with g | ⟨m2, g1, g2, g3, g4⟩
      · exact h2 c hcK g n (Nat.le_refl n) hc
      · have hm2 : m2 ≤ n := by
          apply Nat.le_of_not_lt
          intro q
          exact g4 n q hc
        by_cases e2 : m2 = n
        · subst e2
          exact h3 c i (Or.inl hcK) hcK hi g2 z he hz4
        · exact h2 z hz hz4 (m2 + 1) (by omega) ⟨c, g3, i, hi, he⟩
  · rcases hl with hl | ⟨-, hl⟩
    · exact absurd hl (Nat.not_lt_zero _)
    · exact absurd hl (Nat.not_lt_zero _)
  · by_cases e : m = n
    · subst e
      exact h5 z hz hz hw
    · exact h4 z hz hw m (by omega)
/-- behind a round that met nothing new -/
theorem RI.done (h : RI K nd ed W a n P K 0) (hn : n < 5000) (hE : ∀ c, c < K → ∀ i, i < nd → ∀ z, ed c i = some z → z < K) (ha : a < K) (hno : ∀ z, z < K → P z ≠ nI (n + 1)) : ∀ m z, Rch (ER nd ed) m a z → P z ≠ -4 ∧ ¬ W z := by
  obtain ⟨h1, h2, h3, h4, h5⟩ := id h
  have hr := h.reach hn hE ha
  have hle : ∀ z, z < K → P z ≠ -4 → ∃ m, m ≤ n ∧ P z = nI m ∧ Rch (ER nd ed) m a z := by
    intro z hz q
    rcases h1 z hz with g | ⟨m, g1, g2, g3, g4⟩
    · exact absurd g q
    · refine ⟨m, ?_, g2, g3⟩
      apply Nat.le_of_not_lt
      intro q2
      exact hno z hz (by rw [g2, show m = n + 1 by omega])
  have hx := h.ring hn hE ha
  have key : ∀ m z, Rch (ER nd ed) m a z → P z ≠ -4 := by
    intro m
    induction m with
    | zero =>
      intro z hz q
      cases hz
      exact h2 a ha q 0 (Nat.zero_le _) rfl
    | succ m ih =>
      intro z hz q
      obtain ⟨c, hc, i, hi, he⟩ := id hz
      obtain ⟨m2, g1, g2, g3⟩ := hle c (hr m c hc) (ih c hc)
      exact hx.2.1 z (hr _ z hz) q (m2 + 1) (by omega) ⟨c, g3, i, hi, he⟩
  intro m z hz
  refine ⟨key m z hz, fun hw => ?_⟩
  obtain ⟨m2, g1, g2, g3⟩ := hle z (hr m z hz) (key m z hz)
  by_cases e : m2 = n
  · subst e
    exact h5 z (hr m z hz) (hr m z hz) hw g2
  · exact h4 z (hr m z hz) hw m2 (by omega) g2
/-- at the first that is wanted -/
theorem RI.found (h : RI K nd ed W a n P k 0) (hn : n < 5000) (hk : k < K) (hP : P k = nI n) (hw : W k) (hr : ∀ m z, Rch (ER nd ed) m a z → z < K) : IsW (ER nd ed) a W (nI n) := by
  obtain ⟨h1, h2, h3, h4, h5⟩ := id h
  refine Or.inr ⟨n, hn, rfl, ⟨k, (h.at hn hk (by omega) hP).1, hw⟩, fun m hm b hb hwb => ?_⟩
  have hbK := hr m b hb
  rcases h1 b hbK with g | ⟨m2, g1, g2, g3, g4⟩
  · exact h2 b hbK g m (by omega) hb
  · have hm2 : m2 ≤ m := Nat.le_of_not_lt (fun q => g4 m q hb)
    exact h4 b hbK hwb m2 (by omega) g2
end RING
/-- how many places below K hold no number yet -/
def cU : Nat → (Nat → Int32) → Nat
  | 0, _ => 0
  | K + 1, P => cU K P + (if P K = -4 then 1 else 0)
theorem cU_ne (P : Nat → Int32) (z : Nat) (v : Int32) : ∀ K, K ≤ z → cU K (upd P z v) = cU K P := by
  intro K
  induction K with
  | zero => intro _; rfl
  | succ K ih =>
    intro h
    show cU K (upd P z v) + (if upd P z v K = -4 then 1 else 0) = cU K P + (if P K = -4 then 1 else 0)
    rw [ih (by omega), pk_un (by omega)]
theorem cU_upd {P : Nat → Int32} {z : Nat} {v : Int32} (hz : P z = -4) (hv : v ≠ -4) : ∀ K, z < K → cU K (upd P z v) + 1 = cU K P := by
  intro K
  induction K with
  | zero => intro h; exact absurd h (Nat.not_lt_zero _)
  | succ K ih =>
    intro h
    show cU K (upd P z v) + (if upd P z v K = -4 then 1 else 0) + 1 = cU K P + (if P K = -4 then 1 else 0)
    by_cases e : z = K
    · subst e
      rw [cU_ne P z v z (Nat.le_refl _), pk_us, if_neg hv, if_pos hz]
    · rw [pk_un (fun q => e q.symm), ← ih (by omega)]
      omega
theorem cU_le (P : Nat → Int32) : ∀ K, cU K P ≤ K := by
  intro K
  induction K with
  | zero => exact Nat.le_refl 0
  | succ K ih =>
    show cU K P + (if P K = -4 then 1 else 0) ≤ K + 1
    split <;> omega
/-- the drawers of a wall: by drawer i from the standing c -/
def edW (n : Nat) (kd fg : Nat → Nat) (c i : Nat) : Option Nat := if mv (kd i) (fg i) i c = true then some (c ^^^ 2 ^ i) else none
theorem edW_t {n : Nat} {kd fg : Nat → Nat} {c i : Nat} (h : mv (kd i) (fg i) i c = true) : edW n kd fg c i = some (c ^^^ 2 ^ i) := by
  unfold edW
  rw [if_pos h]
theorem edW_f {n : Nat} {kd fg : Nat → Nat} {c i : Nat} (h : mv (kd i) (fg i) i c = false) : edW n kd fg c i = none := by
  unfold edW
  rw [h]
  rfl
theorem edW_lt {n : Nat} {kd fg : Nat → Nat} : ∀ c, c < 2 ^ n → ∀ i, i < n → ∀ z, edW n kd fg c i = some z → z < 2 ^ n := by
  intro c hc i hi z hz
  unfold edW at hz
  split at hz
  · cases hz
    exact xor_ltn hc hi
  · cases hz
theorem RI.top {K nd : Nat} {ed : Nat → Nat → Option Nat} {W : Nat → Prop} {a n : Nat} {P : Nat → Int32} {k i : Nat} (h : RI K nd ed W a n P k i) (hn : n < 5000) : ∀ z, z < K → P z ≠ nI (n + 1 + 1) := by
  intro z hz q
  rcases h.1 z hz with g | ⟨m, g1, g2, -⟩
  · rw [g] at q
    exact nI_ne4 (by omega) q.symm
  · rw [g2] at q
    have := (nI_eq (by omega) (by omega)).mp q
    omega
theorem RI.neg {K nd : Nat} {ed : Nat → Nat → Option Nat} {W : Nat → Prop} {a n : Nat} {P : Nat → Int32} {k i : Nat} (h : RI K nd ed W a n P k i) (hn : n < 5000) {z : Nat} (hz : z < K) (hP : P z < 0) : P z = -4 := by
  rcases h.1 z hz with g | ⟨m, g1, g2, -⟩
  · exact g
  · rw [g2] at hP
    exact absurd hP (nI_pos (by omega))
theorem ne4_of {x : Int32} (h : ¬ x < 0) : x ≠ -4 := by
  intro q
  rw [q] at h
  exact h (by decide +kernel)
/-- all told: behind the last round every number is right -/
theorem RI.all {K nd : Nat} {ed : Nat → Nat → Option Nat} {a n : Nat} {P : Nat → Int32} (h : RI K nd ed (fun _ => False) a n P K 0) (hn : n < 4999) (hE : ∀ c, c < K → ∀ i, i < nd → ∀ z, ed c i = some z → z < K) (ha : a < K) (hno : ∀ z, z < K → P z ≠ nI (n + 1)) : ∀ z, z < K → IsW (ER nd ed) a (fun b => b = z) (P z) := by
  intro z hz
  have hd := h.done (by omega) hE ha hno
  rcases h.1 z hz with g | ⟨m, g1, g2, g3, g4⟩
  · refine Or.inl ⟨g, fun m b hb e => ?_⟩
    have e : b = z := e
    subst e
    exact (hd m b hb).1 g
  · refine Or.inr ⟨m, by omega, g2, ⟨z, g3, rfl⟩, fun m' hm' b hb e => ?_⟩
    have e : b = z := e
    subst e
    exact g4 m' hm' hb
theorem RI.start {K nd : Nat} {ed : Nat → Nat → Option Nat} {W : Nat → Prop} {a : Nat} {P : Nat → Int32} (hP : ∀ z, z < K → P z = if z = a then nI 0 else -4) : RI K nd ed W a 0 P 0 0 := by
  refine ⟨fun z hz => ?_, fun z hz h4 m hm hr => ?_, fun k' i' hl => ?_, fun z hz hw m hm => absurd hm (Nat.not_lt_zero _), fun k' hl => absurd hl (Nat.not_lt_zero _)⟩
  · rw [hP z hz]
    by_cases e : z = a
    · rw [if_pos e]
      exact Or.inr ⟨0, Nat.zero_le _, rfl, e.symm, fun m' hm' => absurd hm' (Nat.not_lt_zero _)⟩
    · rw [if_neg e]
      exact Or.inl rfl
  · obtain rfl : m = 0 := by omega
    cases hr
    rw [hP _ hz, if_pos rfl] at h4
    exact nI_ne4 (by omega) h4
  · rcases hl with hl | ⟨-, hl⟩
    · exact absurd hl (Nat.not_lt_zero _)
    · exact absurd hl (Nat.not_lt_zero _)
theorem cU_a {K a : Nat} {P : Nat → Int32} (ha : a < K) (hP : P a = nI 0) : cU K P < K := by
  have h1 : P a ≠ -4 := by rw [hP]; exact nI_ne4 (by omega)
  have h2 : P = upd (upd P a (-4)) a (P a) := by
    funext k
    by_cases e : k = a
    · subst e
      rw [pk_us]
    · rw [pk_un e, pk_un e]
  have h3 := cU_upd (P := upd P a (-4)) (v := P a) (z := a) pk_us h1 K ha
  rw [← h2] at h3
  have := cU_le (upd P a (-4)) K
  omega
theorem start_no {K a : Nat} {P : Nat → Int32} (hP : ∀ z, z < K → P z = if z = a then nI 0 else -4) : ∀ z, z < K → P z ≠ nI (0 + 1) := by
  intro z hz
  rw [hP z hz]
  by_cases e : z = a
  · rw [if_pos e]
    decide +kernel
  · rw [if_neg e]
    decide +kernel
