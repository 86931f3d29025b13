/-! ===== told pulls, seeds, laws that fit, the next trial: what the calls answer ===== -/
def allB (p : Nat → Bool) : Nat → Bool
  | 0 => true
  | k + 1 => allB p k && p k
theorem allB_t {p : Nat → Bool} : ∀ k, (∀ i, i < k → p i = true) → allB p k = true := by
  intro k
  induction k with
  | zero => intro _; rfl
  | succ k ih =>
    intro h
    show (allB p k && p k) = true
    rw [ih (fun i hi => h i (by omega)), h k (by omega)]
    rfl
theorem allB_i {p : Nat → Bool} : ∀ k, allB p k = true → ∀ i, i < k → p i = true := by
  intro k
  induction k with
  | zero => intro _ i hi; exact absurd hi (Nat.not_lt_zero i)
  | succ k ih =>
    intro h i hi
    have h2 : (allB p k && p k) = true := h
    rw [Bool.and_eq_true] at h2
    by_cases e : i = k
    · rw [e]; exact h2.2
    · exact ih h2.1 i (by omega)
theorem allB_f {p : Nat → Bool} {i k : Nat} (hi : i < k) (hp : p i = false) : allB p k = false := by
  cases e : allB p k with
  | false => rfl
  | true =>
    rw [allB_i k e i hi] at hp
    cases hp
theorem toN_b (b : Bool) : nI b.toNat = b2i b := by cases b <;> rfl
theorem bit_b {st i : Nat} (hs : st < 256) (hi : i < 16) : (nI st >>> (nI i &&& 31)) &&& nI 1 = b2i (st.testBit i) := by
  rw [← toN_b]
  apply fin2 256 16 st i hs hi
  decide +kernel
def inQ (lo hi : Nat) (d : Int32) : Bool := decide (¬ d < nI lo ∧ ¬ nI hi < d)
theorem inQ_t {lo hi : Nat} {d : Int32} (h1 : ¬ d < nI lo) (h2 : ¬ nI hi < d) : inQ lo hi d = true := decide_eq_true ⟨h1, h2⟩
theorem inQ_l {lo hi : Nat} {d : Int32} (h : d < nI lo) : inQ lo hi d = false := decide_eq_false (fun q => q.1 h)
theorem inQ_r {lo hi : Nat} {d : Int32} (h : nI hi < d) : inQ lo hi d = false := decide_eq_false (fun q => q.2 h)
theorem inQ_ex {lo hi : Nat} {d : Int32} (h1 : lo < 2 ^ 31) (h2 : hi < 2 ^ 31) (h : inQ lo hi d = true) : ∃ j, lo ≤ j ∧ j ≤ hi ∧ d = nI j := by
  obtain ⟨q1, q2⟩ := of_decide_eq_true h
  have q3 := q1
  rw [Int32.lt_iff_toInt_lt, nI_toInt h1] at q1
  rw [Int32.lt_iff_toInt_lt, nI_toInt h2] at q2
  have h0 : ¬ d < 0 := by
    rw [Int32.lt_iff_toInt_lt]
    show ¬ d.toInt < (0 : Int)
    omega
  obtain ⟨j, hj, rfl⟩ := nI_of h0
  rw [nI_toInt hj] at q1 q2
  exact ⟨j, by omega, by omega, rfl⟩
theorem inQ_j {lo hi j : Nat} (h1 : lo ≤ j) (h2 : j ≤ hi) (h : hi < 2 ^ 31) : inQ lo hi (nI j) = true := inQ_t (nI_nlt h1 (by omega)) (nI_nlt h2 (by omega))
theorem inLQ {lo hi : Nat} {d : Int32} {a b : Int64} (h1 : lo < 2 ^ 31) (h2 : hi < 2 ^ 31) (ha : a.toInt = (lo : Int)) (hb : b.toInt = (hi : Int)) : decide (a ≤ d.toInt64 ∧ d.toInt64 ≤ b) = inQ lo hi d := by
  unfold inQ
  rw [decide_eq_decide, Int64.le_iff_toInt_le, Int64.le_iff_toInt_le, Int32.toInt_toInt64, ha, hb, Int32.lt_iff_toInt_lt, Int32.lt_iff_toInt_lt, nI_toInt h1, nI_toInt h2]
  omega
/-- what a row of bytes answers -/
def byR (y : Option Sf) (a : Nat × Nat × (Nat → Int32) → Int32) : Int32 := match y with
  | some (some (.inr z)) => if z.1 = 0 then a z else -12
  | y => wr0 y
theorem byR_n {y : Option Sf} {a : Nat × Nat × (Nat → Int32) → Int32} (h : ¬ wr0 y = 0) : byR y a = wr0 y := by
  match y, h with
  | none, _ => rfl
  | some none, _ => rfl
  | some (some (.inl z)), _ => rfl
  | some (some (.inr z)), h =>
    by_cases h0 : z.1 = 0
    · exact absurd (show wr0 (some (some (.inr z))) = 0 from if_pos h0) h
    · exact (if_neg h0).trans (if_neg h0).symm
theorem byR_t {z : Nat × Nat × (Nat → Int32)} {a : Nat × Nat × (Nat → Int32) → Int32} (h : z.1 = 0) : byR (some (some (.inr z))) a = a z := if_pos h
def runI (p : Nat × Nat) (what : Int32) : Int32 := if what = nI 0 then nI p.1 else nI p.2
def inAll (n : Nat) (z : Nat × Nat × (Nat → Int32)) : Bool := allB (fun q => inB n (z.2.2 q)) z.2.1
def spRun (n o : Nat) (kd fg : Nat → Nat) (y : Option Sf) (what : Int32) : Int32 := if inB 2 what = true then byR y (fun z => if inAll n z = true then runI (runU n kd fg z.2.2 o z.2.1) what else -13) else -1
theorem spRun_f {n o : Nat} {kd fg : Nat → Nat} {y : Option Sf} {what : Int32} (h : inB 2 what = false) : spRun n o kd fg y what = -1 := by
  unfold spRun
  rw [h]
  rfl
theorem spRun_s {n o : Nat} {kd fg : Nat → Nat} {what : Int32} : spRun n o kd fg none what = -1 := by
  unfold spRun
  split <;> rfl
theorem spRun_n {n o : Nat} {kd fg : Nat → Nat} {y : Option Sf} {what : Int32} (h : inB 2 what = true) (h2 : ¬ wr0 y = 0) : spRun n o kd fg y what = wr0 y := by
  unfold spRun
  rw [if_pos h]
  exact byR_n h2
theorem spRun_c {n o : Nat} {kd fg : Nat → Nat} {z : Nat × Nat × (Nat → Int32)} {what : Int32} (h : inB 2 what = true) (h2 : z.1 = 0) (h3 : inAll n z = false) : spRun n o kd fg (some (some (.inr z))) what = -13 := by
  unfold spRun
  rw [if_pos h, byR_t h2, h3]
  rfl
theorem spRun_t {n o : Nat} {kd fg : Nat → Nat} {z : Nat × Nat × (Nat → Int32)} {what : Int32} (h : inB 2 what = true) (h2 : z.1 = 0) (h3 : inAll n z = true) : spRun n o kd fg (some (some (.inr z))) what = runI (runU n kd fg z.2.2 o z.2.1) what := by
  unfold spRun
  rw [if_pos h, byR_t h2, if_pos h3]
theorem runU_c {n o : Nat} {kd fg : Nat → Nat} {f : Nat → Int32} : ∀ i, (runU n kd fg f o i).2 ≤ i := by
  intro i
  induction i with
  | zero => exact Nat.le_refl 0
  | succ i ih =>
    show (runU n kd fg f o i).2 + (mayZ n kd fg (f i) (runU n kd fg f o i).1).toNat ≤ i + 1
    have := Bool.toNat_le (mayZ n kd fg (f i) (runU n kd fg f o i).1)
    omega
theorem runU_2t {n o i : Nat} {kd fg : Nat → Nat} {f : Nat → Int32} (h : mayZ n kd fg (f i) (runU n kd fg f o i).1 = true) : (runU n kd fg f o (i + 1)).2 = (runU n kd fg f o i).2 + 1 := by
  show (runU n kd fg f o i).2 + (mayZ n kd fg (f i) (runU n kd fg f o i).1).toNat = _
  rw [h]
  rfl
theorem runU_2f {n o i : Nat} {kd fg : Nat → Nat} {f : Nat → Int32} (h : mayZ n kd fg (f i) (runU n kd fg f o i).1 = false) : (runU n kd fg f o (i + 1)).2 = (runU n kd fg f o i).2 + 0 := by
  show (runU n kd fg f o i).2 + (mayZ n kd fg (f i) (runU n kd fg f o i).1).toNat = _
  rw [h]
  rfl
/-- seeds one behind another, and the drawers they draw -/
def sdS (z : Int32) : Nat → Int32
  | 0 => z
  | k + 1 => sdN (sdS z k)
def sdF (n : Nat) (z : Int32) (k : Nat) : Int32 := nI (drN (sdN (sdS z k)) n)
theorem drN_lt {n : Nat} (s : Int32) (h : 0 < n) : drN s n < n := Nat.mod_lt _ h
def spSeeded (n o : Nat) (kd fg : Nat → Nat) (m z what : Int32) : Int32 := if (inQ 1 60 m && inB 2 what) = true then (if n = 0 then -3 else runI (runU n kd fg (sdF n z) o m.toNatClampNeg) what) else -1
theorem spSeeded_f {n o : Nat} {kd fg : Nat → Nat} {m z what : Int32} (h : inQ 1 60 m = false ∨ inB 2 what = false) : spSeeded n o kd fg m z what = -1 := by
  unfold spSeeded
  rcases h with h | h
  · rw [h]; rfl
  · rw [h, Bool.and_false]; rfl
theorem spSeeded_0 {n o : Nat} {kd fg : Nat → Nat} {m z what : Int32} (h : inQ 1 60 m = true) (h2 : inB 2 what = true) (h0 : n = 0) : spSeeded n o kd fg m z what = -3 := by
  unfold spSeeded
  rw [h, h2, if_pos (show (true && true) = true from rfl), if_pos h0]
theorem spSeeded_t {n o j : Nat} {kd fg : Nat → Nat} {z what : Int32} (h : inQ 1 60 (nI j) = true) (hj : j ≤ 60) (h2 : inB 2 what = true) (h0 : ¬ n = 0) : spSeeded n o kd fg (nI j) z what = runI (runU n kd fg (sdF n z) o j) what := by
  unfold spSeeded
  rw [h, h2, if_pos (show (true && true) = true from rfl), if_neg h0, nI_clamp (by omega)]
/-- trials by twos -/
def evF (f : Nat → Int32) (q : Nat) : Int32 := f (2 * q)
def fitB (n : Nat) (kd fg : Nat → Nat) (f : Nat → Int32) (o q : Nat) : Bool := mayZ n kd fg (f (2 * q)) (runU n kd fg (evF f) o q).1 == decide (f (2 * q + 1) = nI 1)
def FIT (n : Nat) (kd fg : Nat → Nat) (f : Nat → Int32) (o m : Nat) : Bool := allB (fitB n kd fg f o) m
theorem fit_1 {M : Bool} {v : Int32} (h : v = nI 1) (c : b2i M = nI 1) : (M == decide (v = nI 1)) = true := by
  rw [decide_eq_true h]
  cases M
  · exact absurd c (by decide +kernel)
  · rfl
theorem fit_0 {M : Bool} {v : Int32} (h : ¬ v = nI 1) (c : b2i M = nI 0) : (M == decide (v = nI 1)) = true := by
  rw [decide_eq_false h]
  cases M
  · rfl
  · exact absurd c (by decide +kernel)
theorem fit_1n {M : Bool} {v : Int32} (h : v = nI 1) (c : ¬ b2i M = nI 1) : (M == decide (v = nI 1)) = false := by
  rw [decide_eq_true h]
  cases M
  · rfl
  · exact absurd rfl c
theorem fit_0n {M : Bool} {v : Int32} (h : ¬ v = nI 1) (c : ¬ b2i M = nI 0) : (M == decide (v = nI 1)) = false := by
  rw [decide_eq_false h]
  cases M
  · exact absurd rfl c
  · rfl
def trB (n : Nat) (f : Nat → Int32) (q : Nat) : Bool := inB n (f (2 * q)) && inB 2 (f (2 * q + 1))
def trOk (n : Nat) (z : Nat × Nat × (Nat → Int32)) : Bool := decide (z.2.1 % 2 = 0) && allB (trB n z.2.2) (z.2.1 / 2)
theorem trOk_o {n : Nat} {z : Nat × Nat × (Nat → Int32)} (h : ¬ z.2.1 % 2 = 0) : trOk n z = false := by
  unfold trOk
  rw [decide_eq_false h]
  rfl
theorem trOk_f {n q : Nat} {z : Nat × Nat × (Nat → Int32)} (hq : 2 * q < z.2.1) (h0 : z.2.1 % 2 = 0) (h : trB n z.2.2 q = false) : trOk n z = false := by
  unfold trOk
  rw [allB_f (i := q) (by omega) h, Bool.and_false]
theorem trOk_t {n : Nat} {z : Nat × Nat × (Nat → Int32)} (h0 : z.2.1 % 2 = 0) (h : ∀ q, 2 * q < z.2.1 → trB n z.2.2 q = true) : trOk n z = true := by
  unfold trOk
  rw [decide_eq_true h0, allB_t _ (fun i hi => h i (by omega))]
  rfl
def triU (n o : Nat) (kd fg : Nat → Nat) (i g : Nat) (f : Nat → Int32) (m : Nat) : Nat → Nat
  | 0 => 0
  | k + 1 => if FIT n (va_up kd i k) (va_up fg i g) f o m = true then triU n o kd fg i g f m k ||| 2 ^ k else triU n o kd fg i g f m k
theorem triU_t {n o i g m k : Nat} {kd fg : Nat → Nat} {f : Nat → Int32} (h : FIT n (va_up kd i k) (va_up fg i g) f o m = true) : triU n o kd fg i g f m (k + 1) = triU n o kd fg i g f m k ||| 2 ^ k := if_pos h
theorem triU_f {n o i g m k : Nat} {kd fg : Nat → Nat} {f : Nat → Int32} (h : FIT n (va_up kd i k) (va_up fg i g) f o m = false) : triU n o kd fg i g f m (k + 1) = triU n o kd fg i g f m k ||| 0 := by
  show (if FIT n (va_up kd i k) (va_up fg i g) f o m = true then _ else _) = _
  rw [h, Nat.or_zero]
  rfl
theorem triU_f2 {n o i g m k : Nat} {kd fg : Nat → Nat} {f : Nat → Int32} (h : FIT n (va_up kd i k) (va_up fg i g) f o m = false) : triU n o kd fg i g f m (k + 1) = triU n o kd fg i g f m k := by
  rw [triU_f h, Nat.or_zero]
def spTried (n o : Nat) (kd fg : Nat → Nat) (y : Option Sf) (i g : Int32) : Int32 := if (inB n i && inB 10 g) = true then byR y (fun z => if trOk n z = true then nI (triU n o kd fg i.toNatClampNeg g.toNatClampNeg z.2.2 (z.2.1 / 2) 8) else -13) else -1
theorem spTried_f {n o : Nat} {kd fg : Nat → Nat} {y : Option Sf} {i g : Int32} (h : inB n i = false ∨ inB 10 g = false) : spTried n o kd fg y i g = -1 := by
  unfold spTried
  rcases h with h | h
  · rw [h]; rfl
  · rw [h, Bool.and_false]; rfl
theorem spTried_s {n o : Nat} {kd fg : Nat → Nat} {i g : Int32} : spTried n o kd fg none i g = -1 := by
  unfold spTried
  split <;> rfl
theorem spTried_n {n o : Nat} {kd fg : Nat → Nat} {y : Option Sf} {i g : Int32} (h : inB n i = true) (h1 : inB 10 g = true) (h2 : ¬ wr0 y = 0) : spTried n o kd fg y i g = wr0 y := by
  unfold spTried
  rw [h, h1, if_pos (show (true && true) = true from rfl)]
  exact byR_n h2
theorem spTried_c {n o : Nat} {kd fg : Nat → Nat} {z : Nat × Nat × (Nat → Int32)} {i g : Int32} (h : inB n i = true) (h1 : inB 10 g = true) (h2 : z.1 = 0) (h3 : trOk n z = false) : spTried n o kd fg (some (some (.inr z))) i g = -13 := by
  unfold spTried
  rw [h, h1, if_pos (show (true && true) = true from rfl), byR_t h2, h3]
  rfl
theorem spTried_t {n o i g : Nat} {kd fg : Nat → Nat} {z : Nat × Nat × (Nat → Int32)} (hn : n ≤ 6) (h : i < n) (h1 : g < 10) (h2 : z.1 = 0) (h3 : trOk n z = true) : spTried n o kd fg (some (some (.inr z))) (nI i) (nI g) = nI (triU n o kd fg i g z.2.2 (z.2.1 / 2) 8) := by
  unfold spTried
  rw [inB_j (by omega) h, inB_j (by omega) h1, if_pos (show (true && true) = true from rfl), byR_t h2, if_pos h3, nI_clamp (by omega), nI_clamp (by omega)]
/-- a wall one of whose drawers has had its kind and its figure changed -/
def SRi (a : Nat → Int32) (n o : Nat) (kd fg : Nat → Nat) (i : Nat) : Prop := ∃ k0 g0, SR a n o (va_up kd i k0) (va_up fg i g0)
theorem va_same {α : Type} (f : Nat → α) (i : Nat) : va_up f i (f i) = f := by
  funext j
  by_cases e : j = i
  · rw [e, va_up_self]
  · rw [va_up_ne _ _ e]
theorem SRi.of {a : Nat → Int32} {n o : Nat} {kd fg : Nat → Nat} (h : SR a n o kd fg) (i : Nat) : SRi a n o kd fg i := ⟨kd i, fg i, by rw [va_same, va_same]; exact h⟩
theorem SRi.set {a : Nat → Int32} {n o i k g : Nat} {kd fg : Nat → Nat} (h : SRi a n o kd fg i) (hk : k < 8) (hg : g < 10) : SR (upd (upd a (2 + 2 * i) (nI k)) (2 + 2 * i + 1) (nI g)) n o (va_up kd i k) (va_up fg i g) := by
  obtain ⟨k0, g0, h⟩ := h
  have h2 := h.setD (i := i) hk hg
  rw [bx_uu, bx_uu] at h2
  exact h2
theorem SRi.mk {a : Nat → Int32} {n o i k g : Nat} {kd fg : Nat → Nat} (h : SR a n o (va_up kd i k) (va_up fg i g)) : SRi a n o kd fg i := ⟨k, g, h⟩
/-- of the kinds K how many may be pulled at a standing -/
def nxC (K g i st : Nat) : Nat → Nat
  | 0 => 0
  | k + 1 => if (K.testBit k && mv k g i st) = true then nxC K g i st k + 1 else nxC K g i st k
theorem nxC_t {K g i st k : Nat} (h : K.testBit k = true) (h2 : mv k g i st = true) : nxC K g i st (k + 1) = nxC K g i st k + 1 := by
  show (if (K.testBit k && mv k g i st) = true then _ else _) = _
  rw [h, h2]
  rfl
theorem nxC_f {K g i st k : Nat} (h : K.testBit k = false) : nxC K g i st (k + 1) = nxC K g i st k := by
  show (if (K.testBit k && mv k g i st) = true then _ else _) = _
  rw [h]
  rfl
theorem nxC_g {K g i st k : Nat} (h2 : mv k g i st = false) : nxC K g i st (k + 1) = nxC K g i st k + 0 := by
  show (if (K.testBit k && mv k g i st) = true then _ else _) = _
  rw [h2, Bool.and_false]
  rfl
def bitC (K : Nat) : Nat → Nat
  | 0 => 0
  | k + 1 => bitC K k + (K.testBit k).toNat
theorem bitC_8 (K : Nat) : bitC K 8 = cnt K := by
  show 0 + (K.testBit 0).toNat + (K.testBit 1).toNat + (K.testBit 2).toNat + (K.testBit 3).toNat + (K.testBit 4).toNat + (K.testBit 5).toNat + (K.testBit 6).toNat + (K.testBit 7).toNat = _
  rw [Nat.zero_add]
  rfl
theorem nxC_le {K g i st : Nat} : ∀ k, nxC K g i st k ≤ bitC K k := by
  intro k
  induction k with
  | zero => exact Nat.le_refl 0
  | succ k ih =>
    show (if (K.testBit k && mv k g i st) = true then nxC K g i st k + 1 else nxC K g i st k) ≤ bitC K k + (K.testBit k).toNat
    split
    · rename_i e
      rw [Bool.and_eq_true] at e
      rw [e.1]
      exact Nat.succ_le_succ ih
    · omega
theorem nxC_8 {K g i st : Nat} : nxC K g i st 8 ≤ cnt K := by
  rw [← bitC_8]
  exact nxC_le 8
def nxP (K g i st : Nat) : Nat := if cnt K - nxC K g i st 8 < nxC K g i st 8 then nxC K g i st 8 else cnt K - nxC K g i st 8
theorem nxP_le {K g i st : Nat} : nxP K g i st ≤ cnt K := by
  have := nxC_8 (K := K) (g := g) (i := i) (st := st)
  unfold nxP
  split <;> omega
def nxM (P : Nat → Nat) (B : Nat) : Nat → Nat × Nat
  | 0 => (0, B)
  | k + 1 => if P k < (nxM P B k).2 then (k, P k) else nxM P B k
theorem nxM_t {P : Nat → Nat} {B k : Nat} (h : P k < (nxM P B k).2) : nxM P B (k + 1) = (k, P k) := if_pos h
theorem nxM_f {P : Nat → Nat} {B k : Nat} (h : ¬ P k < (nxM P B k).2) : nxM P B (k + 1) = nxM P B k := if_neg h
theorem nxM_le {P : Nat → Nat} {B : Nat} : ∀ k, (nxM P B k).2 ≤ B := by
  intro k
  induction k with
  | zero => exact Nat.le_refl B
  | succ k ih =>
    by_cases h : P k < (nxM P B k).2
    · rw [nxM_t h]
      exact Nat.le_trans (Nat.le_of_lt h) ih
    · rw [nxM_f h]
      exact ih
theorem nxM_lt {P : Nat → Nat} {B : Nat} : ∀ k, (nxM P B k).1 ≤ k := by
  intro k
  induction k with
  | zero => exact Nat.le_refl 0
  | succ k ih =>
    by_cases h : P k < (nxM P B k).2
    · rw [nxM_t h]
      exact Nat.le_succ k
    · rw [nxM_f h]
      exact Nat.le_succ_of_le ih
def nxOk (n : Nat) (i g K what : Int32) : Bool := inB n i && (inB 10 g && (inQ 1 255 K && inB 2 what))
def spNext (n : Nat) (i g K what : Int32) : Int32 := if nxOk n i g K what = true then runI (nxM (nxP K.toNatClampNeg g.toNatClampNeg i.toNatClampNeg) (cnt K.toNatClampNeg + 1) (2 ^ n)) what else -1
theorem spNext_f {n : Nat} {i g K what : Int32} (h : inB n i = false ∨ inB 10 g = false ∨ inQ 1 255 K = false ∨ inB 2 what = false) : spNext n i g K what = -1 := by
  unfold spNext nxOk
  rcases h with h | h | h | h
  · rw [h]; rfl
  · rw [h]; simp
  · rw [h]; simp
  · rw [h]; simp
theorem spNext_t {n i g K : Nat} {what : Int32} (hn : n ≤ 6) (hi : i < n) (hg : g < 10) (h0 : 1 ≤ K) (hK : K ≤ 255) (hw : inB 2 what = true) : spNext n (nI i) (nI g) (nI K) what = runI (nxM (nxP K g i) (cnt K + 1) (2 ^ n)) what := by
  unfold spNext nxOk
  rw [inB_j (by omega) hi, inB_j (by omega) hg, inQ_j h0 hK (by omega), hw, nI_clamp (by omega), nI_clamp (by omega), nI_clamp (by omega)]
  rfl
theorem m13_0 : ¬ (-13 : Int32) = 0 := by decide +kernel
abbrev rmX12_run : Room := { frames := 3, cells := 0, slots := 0, locals := 67 }
set_option maxHeartbeats 4000000 in
set_option maxRecDepth 100000 in
theorem c_X12_run {l : Launch} {D : va_G} {cA : Nat → ClassId} {A : Nat → Prop}  {ob : Nat → Nat} {aS aI aR aM aK aT aZ aE aD aF aN aP aH : Nat → Int32} {vH vT vP vB vE vS : Int32} {n o : Nat} {kd fg : Nat → Nat} (hS : SR aS n o kd fg) {x : Nat → Sf} (hXF : ∀ d, d < 8 → SF aK aT aZ aE aD aF d (x d)) {d what : Int32} : Met l yX12_run wsX12_run rmX12_run (va_Pc [.ref (ob 0), .int d, .int what] (Pre D cA A (MW cA ob aS aI aR aM aK aT aZ aE aD aF aN aP aH vH vT vP vB vE vS))) (va_Qi (fun r (u : (Nat → Int32) × (Nat → Int32)) => r = spRun n o kd fg (sfA x d) what ∧ SR u.1 n o kd fg) (fun u t => Wd D A ((fun (u : (Nat → Int32) × (Nat → Int32)) => MW cA ob u.1 aI aR u.2 aK aT aZ aE aD aF aN aP aH vH vT vP vB vE vS) u) t) A) (0) (0) A := by
  refine k_ofi (S := (Nat → Int32) × (Nat → Int32)) (F := fun (u : (Nat → Int32) × (Nat → Int32)) => MW cA ob u.1 aI aR u.2 aK aT aZ aE aD aF aN aP aH vH vT vP vB vE vS) (cc := cX12_run) (maxL := 6) (by decide) rfl (Nat.le_of_ble_eq_true rfl) ?_
  intro p e s m args below meth c Q hF hini hK hA hG hret ls hl
  have hl : lv_has ls 6 [(0, .ref (ob 0)), (1, .int d), (2, .int what)] := hl
  have hn : n ≤ 6 := hS.2.2.1
  have ho : o < 64 := hS.o64
  refine lv_iload_n hF.1 hF.2.1 dX12_run_0 rfl (lv_at hl 1 rfl) ?_
  refine k_ci (r_S (As := [.int d]) hF hK hA hG (c_X12_isShelf) (cwS 1 hF.2.2.2.2 gX12_run_X12_isShelf rfl rfl rfl (by decide +kernel) ⟨Nat.le_of_ble_eq_true rfl, Nat.le_of_ble_eq_true rfl⟩) rfl hl.1 rfl (lv_room (Nat.le_of_ble_eq_true rfl)) dX12_run_1 ⟨Nat.le_of_ble_eq_true rfl, Nat.le_of_ble_eq_true rfl⟩) hG (fun r_1 u_1 H locs hp_1 hG => ?_)
  subst hp_1
  refine lv_if_eq (tgt := 17) hF.1 hF.2.1 dX12_run_4 (by decide) (fun c_4 => ?_) (fun c_4 => ?_)
  · --
    have n_4 : (inB 8 d) = false := b2i_z.mp c_4
    refine lv_iconst (v := (-1)) hF.1 hF.2.1 dX12_run_17 (by decide +kernel) ?_
    refine lv_goto (tgt := 27) hF.1 hF.2.1 dX12_run_18 (by decide) ?_
    refine lv_istore_n (lv' := [(3, .int (-1)), (0, .ref (ob 0)), (1, .int d), (2, .int what)]) hF.1 hF.2.1 dX12_run_27 rfl hl (by decide) rfl (fun ls hl => ?_)
    refine lv_iconst (v := (nI 0)) hF.1 hF.2.1 dX12_run_28 (by decide +kernel) ?_
    refine lv_istore (lv' := [(4, .int (nI 0)), (3, .int (-1)), (0, .ref (ob 0)), (1, .int d), (2, .int what)]) hF.1 hF.2.1 dX12_run_29 hl (by decide) rfl (fun ls hl => ?_)
    refine lv_iload_n hF.1 hF.2.1 dX12_run_31 rfl (lv_at hl 1 rfl) ?_
    refine lv_if_ne (tgt := 73) hF.1 hF.2.1 dX12_run_32 (by decide) (fun c_32 => ?_) (fun c_32 => absurd c_32 m1_0)
    refine lv_iload_n hF.1 hF.2.1 dX12_run_73 rfl (lv_at hl 1 rfl) ?_
    refine lv_if_eq (tgt := 79) hF.1 hF.2.1 dX12_run_74 (by decide) (fun c_74 => ?_) (fun c_74 => ?_)
    · --
      exact absurd c_74 c_32
    · --
      refine lv_iload_n hF.1 hF.2.1 dX12_run_77 rfl (lv_at hl 1 rfl) ?_
      exact hret _ (aS, aM) _ ls _ _ _ _ (by first | (rw [sfA_f x n_4]; exact ⟨spRun_s.symm, hS⟩) | exact ⟨(spRun_f n_14).symm, hS⟩ | exact ⟨(spRun_n n_14 c28).symm, hS⟩ | (refine ⟨?_, hS⟩; rcases hno with g | ⟨g1, q, g2, g3⟩; exact absurd g.1 c_32; rw [sfA_j x hj, hx, spRun_c n_14 hz0 (allB_f g2 g3)]; exact g1)) (by first | rfl | exact nar_b2i _) hG (Nat.le_of_ble_eq_true rfl) (Nat.le_of_ble_eq_true rfl) dX12_run_78
  · --
    have n_4 : (inB 8 d) = true := b2i_nz.mp c_4
    refine lv_iload_n hF.1 hF.2.1 dX12_run_7 rfl (lv_at hl 2 rfl) ?_
    refine lv_i2l hF.1 hF.2.1 dX12_run_8 rfl ?_
    refine lv_lconst (v := 0) hF.1 hF.2.1 dX12_run_9 (by decide +kernel) ?_
    refine lv_lconst (v := 1) hF.1 hF.2.1 dX12_run_10 (by decide +kernel) ?_
    refine k_ci (r_S (As := [.long (what.toInt64), .long (0), .long (1)]) hF hK hA hG (c_X12_isIn) (cwS 3 hF.2.2.2.2 gX12_run_X12_isIn rfl rfl rfl (by decide +kernel) ⟨Nat.le_of_ble_eq_true rfl, Nat.le_of_ble_eq_true rfl⟩) rfl hl.1 rfl (lv_room (Nat.le_of_ble_eq_true rfl)) dX12_run_11 ⟨Nat.le_of_ble_eq_true rfl, Nat.le_of_ble_eq_true rfl⟩) hG (fun r_11 u_11 H locs hp_11 hG => ?_)
    rw [inL (n := 2) (by omega) (by decide +kernel)] at hp_11
    subst hp_11
    refine lv_if_ne (tgt := 21) hF.1 hF.2.1 dX12_run_14 (by decide) (fun c_14 => ?_) (fun c_14 => ?_)
    · --
      have n_14 := b2i_nz.mp c_14
      refine lv_aload_n hF.1 hF.2.1 dX12_run_21 rfl (lv_at hl 0 rfl) ?_
      refine lv_iload_n hF.1 hF.2.1 dX12_run_22 rfl (lv_at hl 1 rfl) ?_
      refine lv_iconst (v := (nI 0)) hF.1 hF.2.1 dX12_run_23 (by decide +kernel) ?_
      refine k_ci (r_V (As := [.int d, .int (nI 0)]) hF hK hA hG (c_X12_wrongRow_0 hXF) (cwV 2 hF.2.2.2.2 gX12_run_X12_wrongRow rfl rfl rfl (by decide +kernel) ⟨Nat.le_of_ble_eq_true rfl, Nat.le_of_ble_eq_true rfl⟩) 0 rfl rfl rfl rfl hl.1 rfl (lv_room (Nat.le_of_ble_eq_true rfl)) dX12_run_24 ⟨Nat.le_of_ble_eq_true rfl, Nat.le_of_ble_eq_true rfl⟩) hG (fun r_24 u_24 H locs hp_24 hG => ?_)
      subst hp_24
      refine lv_istore_n (lv' := [(3, .int (wr0 (sfA x d))), (0, .ref (ob 0)), (1, .int d), (2, .int what)]) hF.1 hF.2.1 dX12_run_27 rfl hl (by decide) rfl (fun ls hl => ?_)
      rcases Decidable.em (wr0 (sfA x d) = 0) with c28 | c28
      · --
        obtain ⟨j, z, hj, rfl, hx, hz0⟩ := wr_0 c28
        obtain ⟨f1, f2, f3, f4, f5, f6⟩ := sf_r (hXF j hj) hx
        have hl : lv_has ls 6 [(3, .int (nI 0)), (0, .ref (ob 0)), (1, .int (nI j)), (2, .int what)] := by rw [c28] at hl; exact hl
        refine lv_iconst (v := (nI 0)) hF.1 hF.2.1 dX12_run_28 (by decide +kernel) ?_
        refine lv_istore (lv' := [(4, .int (nI 0)), (3, .int (nI 0)), (0, .ref (ob 0)), (1, .int (nI j)), (2, .int what)]) hF.1 hF.2.1 dX12_run_29 hl (by decide) rfl (fun ls hl => ?_)
        have lp31 : ∀ (fuel : Nat), ∀ (i : Nat) (no : Int32), (hi : i ≤ z.2.1) → (hno : (no = nI 0 ∧ ∀ q, q < i → inB n (z.2.2 q) = true) ∨ (no = -13 ∧ ∃ q, q < z.2.1 ∧ inB n (z.2.2 q) = false)) → (z.2.1 - i) < fuel → ∀ (H : Heap) (locs : List Loc), Gd D A (MW cA ob aS aI aR aM aK aT aZ aE aD aF aN aP aH vH vT vP vB vE vS) s.heap H locs → ∀ ls : Array Slot, lv_has ls 6 [(0, .ref (ob 0)), (1, .int (nI j)), (2, .int what), (3, .int no), (4, .int (nI i))] → W p l e rmX12_run s m args below meth c H locs (0) (0) Q (F0 m 31 ls []) := by
          intro fuel
          induction fuel with
          | zero => intro i no hi hno hmu; exact absurd hmu (Nat.not_lt_zero _)
          | succ fuel ih31 =>
            intro i no hi hno hmu H locs hG ls hl
            refine lv_iload_n hF.1 hF.2.1 dX12_run_31 rfl (lv_at hl 3 rfl) ?_
            refine lv_if_ne (tgt := 73) hF.1 hF.2.1 dX12_run_32 (by decide) (fun c_32 => ?_) (fun c_32 => ?_)
            · --
              refine lv_iload_n hF.1 hF.2.1 dX12_run_73 rfl (lv_at hl 3 rfl) ?_
              refine lv_if_eq (tgt := 79) hF.1 hF.2.1 dX12_run_74 (by decide) (fun c_74 => ?_) (fun c_74 => ?_)
              · --
                exact absurd c_74 c_32
              · --
                refine lv_iload_n hF.1 hF.2.1 dX12_run_77 rfl (lv_at hl 3 rfl) ?_
                exact hret _ (aS, aM) _ ls _ _ _ _ (by first | (rw [sfA_f x n_4]; exact ⟨spRun_s.symm, hS⟩) | exact ⟨(spRun_f n_14).symm, hS⟩ | exact ⟨(spRun_n n_14 c28).symm, hS⟩ | (refine ⟨?_, hS⟩; rcases hno with g | ⟨g1, q, g2, g3⟩; exact absurd g.1 c_32; rw [sfA_j x hj, hx, spRun_c n_14 hz0 (allB_f g2 g3)]; exact g1)) (by first | rfl | exact nar_b2i _) hG (Nat.le_of_ble_eq_true rfl) (Nat.le_of_ble_eq_true rfl) dX12_run_78
            · --
              have hall : no = nI 0 ∧ ∀ q, q < i → inB n (z.2.2 q) = true := hno.elim id (fun g => absurd c_32 (by rw [g.1]; decide +kernel))
              refine lv_iload hF.1 hF.2.1 dX12_run_35 (lv_at hl 4 rfl) ?_
              refine lv_aload_n hF.1 hF.2.1 dX12_run_37 rfl (lv_at hl 0 rfl) ?_
              refine k_get (C := RX12) (T := TX12) (N := 19) hF hK hG (fun _ h => List.mem_cons_of_mem _ (List.mem_append_right _ h)) 0 rfl rfl 6 (by decide) (List.mem_of_getElem? (i := 1) rfl) (fun _ h9 => h9) rfl dX12_run_38 ?_
              refine lv_iload_n hF.1 hF.2.1 dX12_run_41 rfl (lv_at hl 1 rfl) ?_
              refine k_ialdN hF hK hG 7 rfl (j) rfl (by omega) (by omega) dX12_run_42 ?_
              rw [f3]
              refine lv_icmp_ge (tgt := 73) hF.1 hF.2.1 dX12_run_43 (by decide) (fun c_43 => ?_) (fun c_43 => ?_)
              · --
                have n_43 : z.2.1 ≤ i := (nI_leI (a := z.2.1) (b := i) (by omega) (by omega)).mp c_43
                refine lv_iload_n hF.1 hF.2.1 dX12_run_73 rfl (lv_at hl 3 rfl) ?_
                refine lv_if_eq (tgt := 79) hF.1 hF.2.1 dX12_run_74 (by decide) (fun c_74 => ?_) (fun c_74 => ?_)
                · --
                  have hall2 : ∀ q, q < z.2.1 → inB n (z.2.2 q) = true := fun q hq => hall.2 q (by omega)
                  refine lv_aload_n hF.1 hF.2.1 dX12_run_79 rfl (lv_at hl 0 rfl) ?_
                  refine k_cv (r_V (As := []) hF hK hA hG (c_X12_begins) (cwV 0 hF.2.2.2.2 gX12_run_X12_begins rfl rfl rfl (by decide +kernel) ⟨Nat.le_of_ble_eq_true rfl, Nat.le_of_ble_eq_true rfl⟩) 0 rfl rfl rfl rfl hl.1 rfl (lv_room (Nat.le_of_ble_eq_true rfl)) dX12_run_80 ⟨Nat.le_of_ble_eq_true rfl, Nat.le_of_ble_eq_true rfl⟩) hG (fun u_80 H locs hp_80 hG => ?_)
                  refine lv_iconst (v := (nI 0)) hF.1 hF.2.1 dX12_run_83 (by decide +kernel) ?_
                  refine lv_istore (lv' := [(4, .int (nI 0)), (0, .ref (ob 0)), (1, .int (nI j)), (2, .int what), (3, .int no)]) hF.1 hF.2.1 dX12_run_84 hl (by decide) rfl (fun ls hl => ?_)
                  refine lv_iconst (v := (nI 0)) hF.1 hF.2.1 dX12_run_86 (by decide +kernel) ?_
                  refine lv_istore (lv' := [(5, .int (nI 0)), (4, .int (nI 0)), (0, .ref (ob 0)), (1, .int (nI j)), (2, .int what), (3, .int no)]) hF.1 hF.2.1 dX12_run_87 hl (by decide) rfl (fun ls hl => ?_)
                  have lp89 : ∀ (fuel : Nat), ∀ (i : Nat) (bS : Nat → Int32), (hi : i ≤ z.2.1) → (hSi : SR bS n (runU n kd fg z.2.2 o (i)).1 kd fg) → (z.2.1 - i) < fuel → ∀ (H : Heap) (locs : List Loc), Gd D A (MW cA ob bS aI aR (cpyN 14 aS aM) aK aT aZ aE aD aF aN aP aH vH vT vP vB vE vS) s.heap H locs → ∀ ls : Array Slot, lv_has ls 6 [(0, .ref (ob 0)), (1, .int (nI j)), (2, .int what), (4, .int (nI ((runU n kd fg z.2.2 o (i)).2))), (5, .int (nI i))] → W p l e rmX12_run s m args below meth c H locs (0) (0) Q (F0 m 89 ls []) := by
                    intro fuel
                    induction fuel with
                    | zero => intro i bS hi hSi hmu; exact absurd hmu (Nat.not_lt_zero _)
                    | succ fuel ih89 =>
                      intro i bS hi hSi hmu H locs hG ls hl
                      refine lv_iload hF.1 hF.2.1 dX12_run_89 (lv_at hl 4 rfl) ?_
                      refine lv_aload_n hF.1 hF.2.1 dX12_run_91 rfl (lv_at hl 0 rfl) ?_
                      refine k_get (C := RX12) (T := TX12) (N := 19) hF hK hG (fun _ h => List.mem_cons_of_mem _ (List.mem_append_right _ h)) 0 rfl rfl 6 (by decide) (List.mem_of_getElem? (i := 1) rfl) (fun _ h9 => h9) rfl dX12_run_92 ?_
                      refine lv_iload_n hF.1 hF.2.1 dX12_run_95 rfl (lv_at hl 1 rfl) ?_
                      refine k_ialdN hF hK hG 7 rfl (j) rfl (by omega) (by omega) dX12_run_96 ?_
                      rw [f3]
                      refine lv_icmp_ge (tgt := 130) hF.1 hF.2.1 dX12_run_97 (by decide) (fun c_97 => ?_) (fun c_97 => ?_)
                      · --
                        have n_97 : z.2.1 ≤ i := (nI_leI (a := z.2.1) (b := i) (by omega) (by omega)).mp c_97
                        refine lv_aload_n hF.1 hF.2.1 dX12_run_130 rfl (lv_at hl 0 rfl) ?_
                        refine k_get (C := RX12) (T := TX12) (N := 19) hF hK hG (fun _ h => List.mem_cons_of_mem _ (List.mem_append_right _ h)) 0 rfl rfl 0 (by decide) (List.mem_of_getElem? (i := 2) rfl) (fun _ h9 => h9) rfl dX12_run_131 ?_
                        refine lv_iconst (v := (nI 1)) hF.1 hF.2.1 dX12_run_134 (by decide +kernel) ?_
                        refine k_ialdN hF hK hG 1 rfl (1) rfl (by omega) (by omega) dX12_run_135 ?_
                        rw [hSi.2.1]
                        refine lv_istore (lv' := [(5, .int (nI ((runU n kd fg z.2.2 o (i)).1))), (0, .ref (ob 0)), (1, .int (nI j)), (2, .int what), (4, .int (nI ((runU n kd fg z.2.2 o (i)).2)))]) hF.1 hF.2.1 dX12_run_136 hl (by decide) rfl (fun ls hl => ?_)
                        refine lv_aload_n hF.1 hF.2.1 dX12_run_138 rfl (lv_at hl 1 rfl) ?_
                        refine k_cv (r_V (As := []) hF hK hA hG (c_X12_ends) (cwV 0 hF.2.2.2.2 gX12_run_X12_ends rfl rfl rfl (by decide +kernel) ⟨Nat.le_of_ble_eq_true rfl, Nat.le_of_ble_eq_true rfl⟩) 0 rfl rfl rfl rfl hl.1 rfl (lv_room (Nat.le_of_ble_eq_true rfl)) dX12_run_139 ⟨Nat.le_of_ble_eq_true rfl, Nat.le_of_ble_eq_true rfl⟩) hG (fun u_139 H locs hp_139 hG => ?_)
                        refine lv_iload_n hF.1 hF.2.1 dX12_run_142 rfl (lv_at hl 3 rfl) ?_
                        refine lv_if_ne (tgt := 151) hF.1 hF.2.1 dX12_run_143 (by decide) (fun c_143 => ?_) (fun c_143 => ?_)
                        · --
                          replace c_143 : ¬ what = nI 0 := c_143
                          refine lv_iload hF.1 hF.2.1 dX12_run_151 (lv_at hl 4 rfl) ?_
                          exact hret _ (_, _) _ ls _ _ _ _ (by refine ⟨?_, (hS.cpy (g := aM)).cpy⟩; rw [sfA_j x hj, hx, spRun_t n_14 hz0 (allB_t _ hall2)]; obtain rfl : i = z.2.1 := (by omega); unfold runI; first | rw [if_pos c_143] | rw [if_neg c_143]) (by first | rfl | exact nar_b2i _) hG (Nat.le_of_ble_eq_true rfl) (Nat.le_of_ble_eq_true rfl) dX12_run_153
                        · --
                          replace c_143 : what = nI 0 := c_143
                          refine lv_iload hF.1 hF.2.1 dX12_run_146 (lv_at hl 0 rfl) ?_
                          refine lv_goto (tgt := 153) hF.1 hF.2.1 dX12_run_148 (by decide) ?_
                          exact hret _ (_, _) _ ls _ _ _ _ (by refine ⟨?_, (hS.cpy (g := aM)).cpy⟩; rw [sfA_j x hj, hx, spRun_t n_14 hz0 (allB_t _ hall2)]; obtain rfl : i = z.2.1 := (by omega); unfold runI; first | rw [if_pos c_143] | rw [if_neg c_143]) (by first | rfl | exact nar_b2i _) hG (Nat.le_of_ble_eq_true rfl) (Nat.le_of_ble_eq_true rfl) dX12_run_153
                      · --
                        have n_97 : ¬ (z.2.1 ≤ i) := fun zz9 => c_97 ((nI_leI (a := z.2.1) (b := i) (by omega) (by omega)).mpr zz9)
                        refine lv_iload hF.1 hF.2.1 dX12_run_100 (lv_at hl 3 rfl) ?_
                        refine lv_aload_n hF.1 hF.2.1 dX12_run_102 rfl (lv_at hl 0 rfl) ?_
                        refine lv_aload_n hF.1 hF.2.1 dX12_run_103 rfl (lv_at hl 0 rfl) ?_
                        refine lv_iload_n hF.1 hF.2.1 dX12_run_104 rfl (lv_at hl 1 rfl) ?_
                        refine lv_iload hF.1 hF.2.1 dX12_run_105 (lv_at hl 4 rfl) ?_
                        refine k_ci (r_V (As := [.int (nI j), .int (nI i)]) hF hK hA hG (c_X12_told hj (show i < 100 by omega)) (cwV 2 hF.2.2.2.2 gX12_run_X12_told rfl rfl rfl (by decide +kernel) ⟨Nat.le_of_ble_eq_true rfl, Nat.le_of_ble_eq_true rfl⟩) 0 rfl rfl rfl rfl hl.1 rfl (lv_room (Nat.le_of_ble_eq_true rfl)) dX12_run_107 ⟨Nat.le_of_ble_eq_true rfl, Nat.le_of_ble_eq_true rfl⟩) hG (fun r_107 u_107 H locs hp_107 hG => ?_)
                        rw [f6 (i) (by omega)] at hp_107
                        subst hp_107
                        obtain ⟨k, hk, ek⟩ := inB_ex (by omega) (hall.2 i (by omega))
                        rw [ek]
                        refine k_ci (r_V (As := [.int (nI k)]) hF hK hA hG (c_X12_pulls hSi hk) (cwV 1 hF.2.2.2.2 gX12_run_X12_pulls rfl rfl rfl (by decide +kernel) ⟨Nat.le_of_ble_eq_true rfl, Nat.le_of_ble_eq_true rfl⟩) 0 rfl rfl rfl rfl hl.1 rfl (lv_room (Nat.le_of_ble_eq_true rfl)) dX12_run_110 ⟨Nat.le_of_ble_eq_true rfl, Nat.le_of_ble_eq_true rfl⟩) hG (fun r_110 u_110 H locs hp_110 hG => ?_)
                        obtain ⟨hp1, hp2⟩ := hp_110
                        subst hp1
                        rw [← ek] at hp2
                        refine lv_if_eq (tgt := 120) hF.1 hF.2.1 dX12_run_113 (by decide) (fun c_113 => ?_) (fun c_113 => ?_)
                        · --
                          have n_113 : (mayZ n kd fg (nI k) (runU n kd fg z.2.2 o (i)).1) = false := b2i_z.mp c_113
                          rw [← ek] at n_113
                          have hc2 := runU_2f (i := i) n_113
                          refine lv_iconst (v := (nI 0)) hF.1 hF.2.1 dX12_run_120 (by decide +kernel) ?_
                          refine lv_iadd hF.1 hF.2.1 dX12_run_121 ?_
                          rw [nI_add]
                          refine lv_istore (lv' := [(4, .int (nI ((runU n kd fg z.2.2 o (i)).2 + 0))), (0, .ref (ob 0)), (1, .int (nI j)), (2, .int what), (5, .int (nI i))]) hF.1 hF.2.1 dX12_run_122 hl (by decide) rfl (fun ls hl => ?_)
                          refine lv_iinc (v := (nI (i + 1))) (lv' := [(5, .int (nI (i + 1))), (4, .int (nI ((runU n kd fg z.2.2 o (i)).2 + 0))), (0, .ref (ob 0)), (1, .int (nI j)), (2, .int what)]) hF.1 hF.2.1 dX12_run_124 hl (k := 4) rfl (nI_inc _ _) (by decide) rfl (fun ls hl => ?_)
                          refine lv_goto (tgt := 89) hF.1 hF.2.1 dX12_run_127 (by decide) ?_
                          exact ih89 (i + 1) (_) (by omega) hp2 (by omega) _ _ hG ls (lv_sub hl [2, 3, 4, 1, 0] (by rw [hc2]; rfl))
                        · --
                          have n_113 : (mayZ n kd fg (nI k) (runU n kd fg z.2.2 o (i)).1) = true := b2i_nz.mp c_113
                          rw [← ek] at n_113
                          have hc2 := runU_2t (i := i) n_113
                          refine lv_iconst (v := (nI 1)) hF.1 hF.2.1 dX12_run_116 (by decide +kernel) ?_
                          refine lv_goto (tgt := 121) hF.1 hF.2.1 dX12_run_117 (by decide) ?_
                          refine lv_iadd hF.1 hF.2.1 dX12_run_121 ?_
                          rw [nI_add]
                          refine lv_istore (lv' := [(4, .int (nI ((runU n kd fg z.2.2 o (i)).2 + 1))), (0, .ref (ob 0)), (1, .int (nI j)), (2, .int what), (5, .int (nI i))]) hF.1 hF.2.1 dX12_run_122 hl (by decide) rfl (fun ls hl => ?_)
                          refine lv_iinc (v := (nI (i + 1))) (lv' := [(5, .int (nI (i + 1))), (4, .int (nI ((runU n kd fg z.2.2 o (i)).2 + 1))), (0, .ref (ob 0)), (1, .int (nI j)), (2, .int what)]) hF.1 hF.2.1 dX12_run_124 hl (k := 4) rfl (nI_inc _ _) (by decide) rfl (fun ls hl => ?_)
                          refine lv_goto (tgt := 89) hF.1 hF.2.1 dX12_run_127 (by decide) ?_
                          exact ih89 (i + 1) (_) (by omega) hp2 (by omega) _ _ hG ls (lv_sub hl [2, 3, 4, 1, 0] (by rw [hc2]; rfl))
                  exact lp89 _ (0) (aS) (by omega) hS (Nat.lt_succ_self _) _ _ hG ls (lv_sub hl [2, 3, 4, 1, 0] rfl)
                · --
                  exact absurd c_32 c_74
              · --
                have n_43 : ¬ (z.2.1 ≤ i) := fun zz9 => c_43 ((nI_leI (a := z.2.1) (b := i) (by omega) (by omega)).mpr zz9)
                refine lv_aload_n hF.1 hF.2.1 dX12_run_46 rfl (lv_at hl 0 rfl) ?_
                refine lv_aload_n hF.1 hF.2.1 dX12_run_47 rfl (lv_at hl 0 rfl) ?_
                refine lv_iload_n hF.1 hF.2.1 dX12_run_48 rfl (lv_at hl 1 rfl) ?_
                refine lv_iload hF.1 hF.2.1 dX12_run_49 (lv_at hl 4 rfl) ?_
                refine k_ci (r_V (As := [.int (nI j), .int (nI i)]) hF hK hA hG (c_X12_told hj (show i < 100 by omega)) (cwV 2 hF.2.2.2.2 gX12_run_X12_told rfl rfl rfl (by decide +kernel) ⟨Nat.le_of_ble_eq_true rfl, Nat.le_of_ble_eq_true rfl⟩) 0 rfl rfl rfl rfl hl.1 rfl (lv_room (Nat.le_of_ble_eq_true rfl)) dX12_run_51 ⟨Nat.le_of_ble_eq_true rfl, Nat.le_of_ble_eq_true rfl⟩) hG (fun r_51 u_51 H locs hp_51 hG => ?_)
                rw [f6 (i) (by omega)] at hp_51
                subst hp_51
                refine k_ci (r_V (As := [.int (z.2.2 (i))]) hF hK hA hG (c_X12_isDrawer hS) (cwV 1 hF.2.2.2.2 gX12_run_X12_isDrawer rfl rfl rfl (by decide +kernel) ⟨Nat.le_of_ble_eq_true rfl, Nat.le_of_ble_eq_true rfl⟩) 0 rfl rfl rfl rfl hl.1 rfl (lv_room (Nat.le_of_ble_eq_true rfl)) dX12_run_54 ⟨Nat.le_of_ble_eq_true rfl, Nat.le_of_ble_eq_true rfl⟩) hG (fun r_54 u_54 H locs hp_54 hG => ?_)
                subst hp_54
                refine lv_if_eq (tgt := 64) hF.1 hF.2.1 dX12_run_57 (by decide) (fun c_57 => ?_) (fun c_57 => ?_)
                · --
                  have n_57 : (inB n (z.2.2 (i))) = false := b2i_z.mp c_57
                  refine lv_bipush (v := (-13)) hF.1 hF.2.1 dX12_run_64 (by decide +kernel) ?_
                  refine lv_istore_n (lv' := [(3, .int (-13)), (0, .ref (ob 0)), (1, .int (nI j)), (2, .int what), (4, .int (nI i))]) hF.1 hF.2.1 dX12_run_66 rfl hl (by decide) rfl (fun ls hl => ?_)
                  refine lv_iinc (v := (nI (i + 1))) (lv' := [(4, .int (nI (i + 1))), (3, .int (-13)), (0, .ref (ob 0)), (1, .int (nI j)), (2, .int what)]) hF.1 hF.2.1 dX12_run_67 hl (k := 4) rfl (nI_inc _ _) (by decide) rfl (fun ls hl => ?_)
                  refine lv_goto (tgt := 31) hF.1 hF.2.1 dX12_run_70 (by decide) ?_
                  exact ih31 (i + 1) (_) (by omega) (by first | exact Or.inl ⟨rfl, lt_s hall.2 n_57⟩ | exact Or.inr ⟨rfl, i, by omega, n_57⟩) (by omega) _ _ hG ls (lv_sub hl [2, 3, 4, 1, 0] rfl)
                · --
                  have n_57 : (inB n (z.2.2 (i))) = true := b2i_nz.mp c_57
                  refine lv_iconst (v := (nI 0)) hF.1 hF.2.1 dX12_run_60 (by decide +kernel) ?_
                  refine lv_goto (tgt := 66) hF.1 hF.2.1 dX12_run_61 (by decide) ?_
                  refine lv_istore_n (lv' := [(3, .int (nI 0)), (0, .ref (ob 0)), (1, .int (nI j)), (2, .int what), (4, .int (nI i))]) hF.1 hF.2.1 dX12_run_66 rfl hl (by decide) rfl (fun ls hl => ?_)
                  refine lv_iinc (v := (nI (i + 1))) (lv' := [(4, .int (nI (i + 1))), (3, .int (nI 0)), (0, .ref (ob 0)), (1, .int (nI j)), (2, .int what)]) hF.1 hF.2.1 dX12_run_67 hl (k := 4) rfl (nI_inc _ _) (by decide) rfl (fun ls hl => ?_)
                  refine lv_goto (tgt := 31) hF.1 hF.2.1 dX12_run_70 (by decide) ?_
                  exact ih31 (i + 1) (_) (by omega) (by first | exact Or.inl ⟨rfl, lt_s hall.2 n_57⟩ | exact Or.inr ⟨rfl, i, by omega, n_57⟩) (by omega) _ _ hG ls (lv_sub hl [2, 3, 4, 1, 0] rfl)
        exact lp31 _ (0) (nI 0) (by omega) (Or.inl ⟨rfl, fun q h => absurd h (Nat.not_lt_zero q)⟩) (Nat.lt_succ_self _) _ _ hG ls (lv_sub hl [2, 3, 4, 1, 0] rfl)
      · --
        refine lv_iconst (v := (nI 0)) hF.1 hF.2.1 dX12_run_28 (by decide +kernel) ?_
        refine lv_istore (lv' := [(4, .int (nI 0)), (3, .int (wr0 (sfA x d))), (0, .ref (ob 0)), (1, .int d), (2, .int what)]) hF.1 hF.2.1 dX12_run_29 hl (by decide) rfl (fun ls hl => ?_)
        refine lv_iload_n hF.1 hF.2.1 dX12_run_31 rfl (lv_at hl 1 rfl) ?_
        refine lv_if_ne (tgt := 73) hF.1 hF.2.1 dX12_run_32 (by decide) (fun c_32 => ?_) (fun c_32 => absurd c_32 c28)
        refine lv_iload_n hF.1 hF.2.1 dX12_run_73 rfl (lv_at hl 1 rfl) ?_
        refine lv_if_eq (tgt := 79) hF.1 hF.2.1 dX12_run_74 (by decide) (fun c_74 => ?_) (fun c_74 => ?_)
        · --
          exact absurd c_74 c_32
        · --
          refine lv_iload_n hF.1 hF.2.1 dX12_run_77 rfl (lv_at hl 1 rfl) ?_
          exact hret _ (aS, aM) _ ls _ _ _ _ (by first | (rw [sfA_f x n_4]; exact ⟨spRun_s.symm, hS⟩) | exact ⟨(spRun_f n_14).symm, hS⟩ | exact ⟨(spRun_n n_14 c28).symm, hS⟩ | (refine ⟨?_, hS⟩; rcases hno with g | ⟨g1, q, g2, g3⟩; exact absurd g.1 c_32; rw [sfA_j x hj, hx, spRun_c n_14 hz0 (allB_f g2 g3)]; exact g1)) (by first | rfl | exact nar_b2i _) hG (Nat.le_of_ble_eq_true rfl) (Nat.le_of_ble_eq_true rfl) dX12_run_78
    · --
      have n_14 := b2i_z.mp c_14
      refine lv_iconst (v := (-1)) hF.1 hF.2.1 dX12_run_17 (by decide +kernel) ?_
      refine lv_goto (tgt := 27) hF.1 hF.2.1 dX12_run_18 (by decide) ?_
      refine lv_istore_n (lv' := [(3, .int (-1)), (0, .ref (ob 0)), (1, .int d), (2, .int what)]) hF.1 hF.2.1 dX12_run_27 rfl hl (by decide) rfl (fun ls hl => ?_)
      refine lv_iconst (v := (nI 0)) hF.1 hF.2.1 dX12_run_28 (by decide +kernel) ?_
      refine lv_istore (lv' := [(4, .int (nI 0)), (3, .int (-1)), (0, .ref (ob 0)), (1, .int d), (2, .int what)]) hF.1 hF.2.1 dX12_run_29 hl (by decide) rfl (fun ls hl => ?_)
      refine lv_iload_n hF.1 hF.2.1 dX12_run_31 rfl (lv_at hl 1 rfl) ?_
      refine lv_if_ne (tgt := 73) hF.1 hF.2.1 dX12_run_32 (by decide) (fun c_32 => ?_) (fun c_32 => absurd c_32 m1_0)
      refine lv_iload_n hF.1 hF.2.1 dX12_run_73 rfl (lv_at hl 1 rfl) ?_
      refine lv_if_eq (tgt := 79) hF.1 hF.2.1 dX12_run_74 (by decide) (fun c_74 => ?_) (fun c_74 => ?_)
      · --
        exact absurd c_74 c_32
      · --
        refine lv_iload_n hF.1 hF.2.1 dX12_run_77 rfl (lv_at hl 1 rfl) ?_
        exact hret _ (aS, aM) _ ls _ _ _ _ (by first | (rw [sfA_f x n_4]; exact ⟨spRun_s.symm, hS⟩) | exact ⟨(spRun_f n_14).symm, hS⟩ | exact ⟨(spRun_n n_14 c28).symm, hS⟩ | (refine ⟨?_, hS⟩; rcases hno with g | ⟨g1, q, g2, g3⟩; exact absurd g.1 c_32; rw [sfA_j x hj, hx, spRun_c n_14 hz0 (allB_f g2 g3)]; exact g1)) (by first | rfl | exact nar_b2i _) hG (Nat.le_of_ble_eq_true rfl) (Nat.le_of_ble_eq_true rfl) dX12_run_78

abbrev rmX12_seeded : Room := { frames := 3, cells := 0, slots := 0, locals := 67 }
set_option maxHeartbeats 4000000 in
set_option maxRecDepth 100000 in
theorem c_X12_seeded {l : Launch} {D : va_G} {cA : Nat → ClassId} {A : Nat → Prop}  {ob : Nat → Nat} {aS aI aR aM aK aT aZ aE aD aF aN aP aH : Nat → Int32} {vH vT vP vB vE vS : Int32} {n o : Nat} {kd fg : Nat → Nat} (hS : SR aS n o kd fg) {mm z what : Int32} : Met l yX12_seeded wsX12_seeded rmX12_seeded (va_Pc [.ref (ob 0), .int mm, .int z, .int what] (Pre D cA A (MW cA ob aS aI aR aM aK aT aZ aE aD aF aN aP aH vH vT vP vB vE vS))) (va_Qi (fun r (u : (Nat → Int32) × (Nat → Int32) × Int32) => r = spSeeded n o kd fg mm z what ∧ SR u.1 n o kd fg) (fun u t => Wd D A ((fun (u : (Nat → Int32) × (Nat → Int32) × Int32) => MW cA ob u.1 aI aR u.2.1 aK aT aZ aE aD aF aN aP aH vH vT vP vB vE u.2.2) u) t) A) (0) (0) A := by
  refine k_ofi (S := (Nat → Int32) × (Nat → Int32) × Int32) (F := fun (u : (Nat → Int32) × (Nat → Int32) × Int32) => MW cA ob u.1 aI aR u.2.1 aK aT aZ aE aD aF aN aP aH vH vT vP vB vE u.2.2) (cc := cX12_seeded) (maxL := 6) (by decide) rfl (Nat.le_of_ble_eq_true rfl) ?_
  intro p e s m args below meth c Q hF hini hK hA hG hret ls hl
  have hl : lv_has ls 6 [(0, .ref (ob 0)), (1, .int mm), (2, .int z), (3, .int what)] := hl
  have hn : n ≤ 6 := hS.2.2.1
  have ho : o < 64 := hS.o64
  refine lv_iload_n hF.1 hF.2.1 dX12_seeded_0 rfl (lv_at hl 1 rfl) ?_
  refine lv_i2l hF.1 hF.2.1 dX12_seeded_1 rfl ?_
  refine lv_lconst (v := 1) hF.1 hF.2.1 dX12_seeded_2 (by decide +kernel) ?_
  refine lv_ldc2 hF.1 hF.2.1 (own := RX12) hF.2.2.2.1 (hF.2.2.2.2 _ (List.mem_of_getElem? (i := 1) rfl)) dX12_seeded_3 ?_
  refine k_ci (r_S (As := [.long (mm.toInt64), .long (1), .long (60)]) hF hK hA hG (c_X12_isIn) (cwS 3 hF.2.2.2.2 gX12_seeded_X12_isIn rfl rfl rfl (by decide +kernel) ⟨Nat.le_of_ble_eq_true rfl, Nat.le_of_ble_eq_true rfl⟩) rfl hl.1 rfl (lv_room (Nat.le_of_ble_eq_true rfl)) dX12_seeded_6 ⟨Nat.le_of_ble_eq_true rfl, Nat.le_of_ble_eq_true rfl⟩) hG (fun r_6 u_6 H locs hp_6 hG => ?_)
  rw [inLQ (lo := 1) (hi := 60) (by omega) (by omega) (by decide +kernel) (by decide +kernel)] at hp_6
  subst hp_6
  refine lv_if_eq (tgt := 22) hF.1 hF.2.1 dX12_seeded_9 (by decide) (fun c_9 => ?_) (fun c_9 => ?_)
  · --
    have n_9 := b2i_z.mp c_9
    refine lv_iconst (v := (-1)) hF.1 hF.2.1 dX12_seeded_22 (by decide +kernel) ?_
    exact hret _ (aS, aM, vS) _ ls _ _ _ _ (by first | exact ⟨(spSeeded_f (Or.inl n_9)).symm, hS⟩ | exact ⟨(spSeeded_f (Or.inr n_19)).symm, hS⟩) (by first | rfl | exact nar_b2i _) hG (Nat.le_of_ble_eq_true rfl) (Nat.le_of_ble_eq_true rfl) dX12_seeded_23
  · --
    have n_9 := b2i_nz.mp c_9
    obtain ⟨j, hj0, hj, rfl⟩ := inQ_ex (by omega) (by omega) n_9
    refine lv_iload_n hF.1 hF.2.1 dX12_seeded_12 rfl (lv_at hl 3 rfl) ?_
    refine lv_i2l hF.1 hF.2.1 dX12_seeded_13 rfl ?_
    refine lv_lconst (v := 0) hF.1 hF.2.1 dX12_seeded_14 (by decide +kernel) ?_
    refine lv_lconst (v := 1) hF.1 hF.2.1 dX12_seeded_15 (by decide +kernel) ?_
    refine k_ci (r_S (As := [.long (what.toInt64), .long (0), .long (1)]) hF hK hA hG (c_X12_isIn) (cwS 3 hF.2.2.2.2 gX12_seeded_X12_isIn rfl rfl rfl (by decide +kernel) ⟨Nat.le_of_ble_eq_true rfl, Nat.le_of_ble_eq_true rfl⟩) rfl hl.1 rfl (lv_room (Nat.le_of_ble_eq_true rfl)) dX12_seeded_16 ⟨Nat.le_of_ble_eq_true rfl, Nat.le_of_ble_eq_true rfl⟩) hG (fun r_16 u_16 H locs hp_16 hG => ?_)
    rw [inL (n := 2) (by omega) (by decide +kernel)] at hp_16
    subst hp_16
    refine lv_if_ne (tgt := 24) hF.1 hF.2.1 dX12_seeded_19 (by decide) (fun c_19 => ?_) (fun c_19 => ?_)
    · --
      have n_19 := b2i_nz.mp c_19
      refine lv_aload_n hF.1 hF.2.1 dX12_seeded_24 rfl (lv_at hl 0 rfl) ?_
      refine k_get (C := RX12) (T := TX12) (N := 19) hF hK hG (fun _ h => List.mem_cons_of_mem _ (List.mem_append_right _ h)) 0 rfl rfl 0 (by decide) (List.mem_of_getElem? (i := 2) rfl) (fun _ h9 => h9) rfl dX12_seeded_25 ?_
      refine lv_iconst (v := (nI 0)) hF.1 hF.2.1 dX12_seeded_28 (by decide +kernel) ?_
      refine k_ialdN hF hK hG 1 rfl (0) rfl (by omega) (by omega) dX12_seeded_29 ?_
      rw [hS.1]
      refine lv_if_ne (tgt := 36) hF.1 hF.2.1 dX12_seeded_30 (by decide) (fun c_30 => ?_) (fun c_30 => ?_)
      · --
        have n_30 : ¬ (n = 0) := fun zz9 => c_30 ((nI_eq (a := n) (b := 0) (by omega) (by omega)).mpr zz9)
        refine lv_aload_n hF.1 hF.2.1 dX12_seeded_36 rfl (lv_at hl 0 rfl) ?_
        refine k_cv (r_V (As := []) hF hK hA hG (c_X12_begins) (cwV 0 hF.2.2.2.2 gX12_seeded_X12_begins rfl rfl rfl (by decide +kernel) ⟨Nat.le_of_ble_eq_true rfl, Nat.le_of_ble_eq_true rfl⟩) 0 rfl rfl rfl rfl hl.1 rfl (lv_room (Nat.le_of_ble_eq_true rfl)) dX12_seeded_37 ⟨Nat.le_of_ble_eq_true rfl, Nat.le_of_ble_eq_true rfl⟩) hG (fun u_37 H locs hp_37 hG => ?_)
        refine lv_aload_n hF.1 hF.2.1 dX12_seeded_40 rfl (lv_at hl 0 rfl) ?_
        refine lv_iload_n hF.1 hF.2.1 dX12_seeded_41 rfl (lv_at hl 2 rfl) ?_
        refine k_put (C := RX12) (T := TX12) (N := 19) hF hK hG (fun _ h => List.mem_cons_of_mem _ (List.mem_append_right _ h)) tyX12 tyX12_ok nmX12 0 rfl rfl 18 (by decide) (List.mem_of_getElem? (i := 3) rfl) (fun _ h9 => h9) rfl rfl rfl (Nat.le_of_ble_eq_true rfl) dX12_seeded_42 (fun H locs hG => ?_)
        refine lv_iconst (v := (nI 0)) hF.1 hF.2.1 dX12_seeded_45 (by decide +kernel) ?_
        refine lv_istore (lv' := [(4, .int (nI 0)), (0, .ref (ob 0)), (1, .int (nI j)), (2, .int z), (3, .int what)]) hF.1 hF.2.1 dX12_seeded_46 hl (by decide) rfl (fun ls hl => ?_)
        refine lv_iconst (v := (nI 0)) hF.1 hF.2.1 dX12_seeded_48 (by decide +kernel) ?_
        refine lv_istore (lv' := [(5, .int (nI 0)), (4, .int (nI 0)), (0, .ref (ob 0)), (1, .int (nI j)), (2, .int z), (3, .int what)]) hF.1 hF.2.1 dX12_seeded_49 hl (by decide) rfl (fun ls hl => ?_)
        have lp51 : ∀ (fuel : Nat), ∀ (i : Nat) (bS : Nat → Int32), (hi : i ≤ j) → (hSi : SR bS n (runU n kd fg (sdF n z) o (i)).1 kd fg) → (j - i) < fuel → ∀ (H : Heap) (locs : List Loc), Gd D A (MW cA ob bS aI aR (cpyN 14 aS aM) aK aT aZ aE aD aF aN aP aH vH vT vP vB vE (sdS z i)) s.heap H locs → ∀ ls : Array Slot, lv_has ls 6 [(0, .ref (ob 0)), (1, .int (nI j)), (2, .int z), (3, .int what), (4, .int (nI ((runU n kd fg (sdF n z) o (i)).2))), (5, .int (nI i))] → W p l e rmX12_seeded s m args below meth c H locs (0) (0) Q (F0 m 51 ls []) := by
          intro fuel
          induction fuel with
          | zero => intro i bS hi hSi hmu; exact absurd hmu (Nat.not_lt_zero _)
          | succ fuel ih51 =>
            intro i bS hi hSi hmu H locs hG ls hl
            refine lv_iload hF.1 hF.2.1 dX12_seeded_51 (lv_at hl 5 rfl) ?_
            refine lv_iload_n hF.1 hF.2.1 dX12_seeded_53 rfl (lv_at hl 1 rfl) ?_
            refine lv_icmp_ge (tgt := 90) hF.1 hF.2.1 dX12_seeded_54 (by decide) (fun c_54 => ?_) (fun c_54 => ?_)
            · --
              have n_54 : j ≤ i := (nI_leI (a := j) (b := i) (by omega) (by omega)).mp c_54
              refine lv_aload_n hF.1 hF.2.1 dX12_seeded_90 rfl (lv_at hl 0 rfl) ?_
              refine k_get (C := RX12) (T := TX12) (N := 19) hF hK hG (fun _ h => List.mem_cons_of_mem _ (List.mem_append_right _ h)) 0 rfl rfl 0 (by decide) (List.mem_of_getElem? (i := 2) rfl) (fun _ h9 => h9) rfl dX12_seeded_91 ?_
              refine lv_iconst (v := (nI 1)) hF.1 hF.2.1 dX12_seeded_94 (by decide +kernel) ?_
              refine k_ialdN hF hK hG 1 rfl (1) rfl (by omega) (by omega) dX12_seeded_95 ?_
              rw [hSi.2.1]
              refine lv_istore (lv' := [(5, .int (nI ((runU n kd fg (sdF n z) o (i)).1))), (0, .ref (ob 0)), (1, .int (nI j)), (2, .int z), (3, .int what), (4, .int (nI ((runU n kd fg (sdF n z) o (i)).2)))]) hF.1 hF.2.1 dX12_seeded_96 hl (by decide) rfl (fun ls hl => ?_)
              refine lv_aload_n hF.1 hF.2.1 dX12_seeded_98 rfl (lv_at hl 1 rfl) ?_
              refine k_cv (r_V (As := []) hF hK hA hG (c_X12_ends) (cwV 0 hF.2.2.2.2 gX12_seeded_X12_ends rfl rfl rfl (by decide +kernel) ⟨Nat.le_of_ble_eq_true rfl, Nat.le_of_ble_eq_true rfl⟩) 0 rfl rfl rfl rfl hl.1 rfl (lv_room (Nat.le_of_ble_eq_true rfl)) dX12_seeded_99 ⟨Nat.le_of_ble_eq_true rfl, Nat.le_of_ble_eq_true rfl⟩) hG (fun u_99 H locs hp_99 hG => ?_)
              refine lv_iload_n hF.1 hF.2.1 dX12_seeded_102 rfl (lv_at hl 4 rfl) ?_
              refine lv_if_ne (tgt := 111) hF.1 hF.2.1 dX12_seeded_103 (by decide) (fun c_103 => ?_) (fun c_103 => ?_)
              · --
                replace c_103 : ¬ what = nI 0 := c_103
                refine lv_iload hF.1 hF.2.1 dX12_seeded_111 (lv_at hl 5 rfl) ?_
                exact hret _ (_, _, _) _ ls _ _ _ _ (by refine ⟨?_, (hS.cpy (g := aM)).cpy⟩; rw [spSeeded_t n_9 hj n_19 n_30]; obtain rfl : i = j := (by omega); unfold runI; first | rw [if_pos c_103] | rw [if_neg c_103]) (by first | rfl | exact nar_b2i _) hG (Nat.le_of_ble_eq_true rfl) (Nat.le_of_ble_eq_true rfl) dX12_seeded_113
              · --
                replace c_103 : what = nI 0 := c_103
                refine lv_iload hF.1 hF.2.1 dX12_seeded_106 (lv_at hl 0 rfl) ?_
                refine lv_goto (tgt := 113) hF.1 hF.2.1 dX12_seeded_108 (by decide) ?_
                exact hret _ (_, _, _) _ ls _ _ _ _ (by refine ⟨?_, (hS.cpy (g := aM)).cpy⟩; rw [spSeeded_t n_9 hj n_19 n_30]; obtain rfl : i = j := (by omega); unfold runI; first | rw [if_pos c_103] | rw [if_neg c_103]) (by first | rfl | exact nar_b2i _) hG (Nat.le_of_ble_eq_true rfl) (Nat.le_of_ble_eq_true rfl) dX12_seeded_113
            · --
              have n_54 : ¬ (j ≤ i) := fun zz9 => c_54 ((nI_leI (a := j) (b := i) (by omega) (by omega)).mpr zz9)
              refine lv_iload hF.1 hF.2.1 dX12_seeded_57 (lv_at hl 4 rfl) ?_
              refine lv_aload_n hF.1 hF.2.1 dX12_seeded_59 rfl (lv_at hl 0 rfl) ?_
              refine lv_aload_n hF.1 hF.2.1 dX12_seeded_60 rfl (lv_at hl 0 rfl) ?_
              refine lv_aload_n hF.1 hF.2.1 dX12_seeded_61 rfl (lv_at hl 0 rfl) ?_
              refine k_get (C := RX12) (T := TX12) (N := 19) hF hK hG (fun _ h => List.mem_cons_of_mem _ (List.mem_append_right _ h)) 0 rfl rfl 0 (by decide) (List.mem_of_getElem? (i := 2) rfl) (fun _ h9 => h9) rfl dX12_seeded_62 ?_
              refine lv_iconst (v := (nI 0)) hF.1 hF.2.1 dX12_seeded_65 (by decide +kernel) ?_
              refine k_ialdN hF hK hG 1 rfl (0) rfl (by omega) (by omega) dX12_seeded_66 ?_
              rw [hSi.1]
              refine k_ci (r_V (As := [.int (nI n)]) hF hK hA hG (c_X12_drawn (show 0 < n by omega) (by omega)) (cwV 1 hF.2.2.2.2 gX12_seeded_X12_drawn rfl rfl rfl (by decide +kernel) ⟨Nat.le_of_ble_eq_true rfl, Nat.le_of_ble_eq_true rfl⟩) 0 rfl rfl rfl rfl hl.1 rfl (lv_room (Nat.le_of_ble_eq_true rfl)) dX12_seeded_67 ⟨Nat.le_of_ble_eq_true rfl, Nat.le_of_ble_eq_true rfl⟩) hG (fun r_67 u_67 H locs hp_67 hG => ?_)
              obtain rfl : r_67 = sdF n z i := hp_67
              obtain ⟨k, hk, ek⟩ : ∃ k, k < n ∧ sdF n z i = nI k := ⟨_, drN_lt _ (show 0 < n by omega), rfl⟩
              rw [ek]
              refine k_ci (r_V (As := [.int (nI k)]) hF hK hA hG (c_X12_pulls hSi hk) (cwV 1 hF.2.2.2.2 gX12_seeded_X12_pulls rfl rfl rfl (by decide +kernel) ⟨Nat.le_of_ble_eq_true rfl, Nat.le_of_ble_eq_true rfl⟩) 0 rfl rfl rfl rfl hl.1 rfl (lv_room (Nat.le_of_ble_eq_true rfl)) dX12_seeded_70 ⟨Nat.le_of_ble_eq_true rfl, Nat.le_of_ble_eq_true rfl⟩) hG (fun r_70 u_70 H locs hp_70 hG => ?_)
              obtain ⟨hp1, hp2⟩ := hp_70
              subst hp1
              rw [← ek] at hp2
              refine lv_if_eq (tgt := 80) hF.1 hF.2.1 dX12_seeded_73 (by decide) (fun c_73 => ?_) (fun c_73 => ?_)
              · --
                have n_73 : (mayZ n kd fg (nI k) (runU n kd fg (sdF n z) o (i)).1) = false := b2i_z.mp c_73
                rw [← ek] at n_73
                have hc2 := runU_2f (i := i) n_73
                refine lv_iconst (v := (nI 0)) hF.1 hF.2.1 dX12_seeded_80 (by decide +kernel) ?_
                refine lv_iadd hF.1 hF.2.1 dX12_seeded_81 ?_
                rw [nI_add]
                refine lv_istore (lv' := [(4, .int (nI ((runU n kd fg (sdF n z) o (i)).2 + 0))), (0, .ref (ob 0)), (1, .int (nI j)), (2, .int z), (3, .int what), (5, .int (nI i))]) hF.1 hF.2.1 dX12_seeded_82 hl (by decide) rfl (fun ls hl => ?_)
                refine lv_iinc (v := (nI (i + 1))) (lv' := [(5, .int (nI (i + 1))), (4, .int (nI ((runU n kd fg (sdF n z) o (i)).2 + 0))), (0, .ref (ob 0)), (1, .int (nI j)), (2, .int z), (3, .int what)]) hF.1 hF.2.1 dX12_seeded_84 hl (k := 5) rfl (nI_inc _ _) (by decide) rfl (fun ls hl => ?_)
                refine lv_goto (tgt := 51) hF.1 hF.2.1 dX12_seeded_87 (by decide) ?_
                exact ih51 (i + 1) (_) (by omega) hp2 (by omega) _ _ hG ls (lv_sub hl [2, 3, 4, 5, 1, 0] (by rw [hc2]; rfl))
              · --
                have n_73 : (mayZ n kd fg (nI k) (runU n kd fg (sdF n z) o (i)).1) = true := b2i_nz.mp c_73
                rw [← ek] at n_73
                have hc2 := runU_2t (i := i) n_73
                refine lv_iconst (v := (nI 1)) hF.1 hF.2.1 dX12_seeded_76 (by decide +kernel) ?_
                refine lv_goto (tgt := 81) hF.1 hF.2.1 dX12_seeded_77 (by decide) ?_
                refine lv_iadd hF.1 hF.2.1 dX12_seeded_81 ?_
                rw [nI_add]
                refine lv_istore (lv' := [(4, .int (nI ((runU n kd fg (sdF n z) o (i)).2 + 1))), (0, .ref (ob 0)), (1, .int (nI j)), (2, .int z), (3, .int what), (5, .int (nI i))]) hF.1 hF.2.1 dX12_seeded_82 hl (by decide) rfl (fun ls hl => ?_)
                refine lv_iinc (v := (nI (i + 1))) (lv' := [(5, .int (nI (i + 1))), (4, .int (nI ((runU n kd fg (sdF n z) o (i)).2 + 1))), (0, .ref (ob 0)), (1, .int (nI j)), (2, .int z), (3, .int what)]) hF.1 hF.2.1 dX12_seeded_84 hl (k := 5) rfl (nI_inc _ _) (by decide) rfl (fun ls hl => ?_)
                refine lv_goto (tgt := 51) hF.1 hF.2.1 dX12_seeded_87 (by decide) ?_
                exact ih51 (i + 1) (_) (by omega) hp2 (by omega) _ _ hG ls (lv_sub hl [2, 3, 4, 5, 1, 0] (by rw [hc2]; rfl))
        exact lp51 _ (0) (aS) (by omega) hS (Nat.lt_succ_self _) _ _ hG ls (lv_sub hl [2, 3, 4, 5, 1, 0] rfl)
      · --
        have n_30 : n = 0 := (nI_eq (a := n) (b := 0) (by omega) (by omega)).mp c_30
        refine lv_bipush (v := (-3)) hF.1 hF.2.1 dX12_seeded_33 (by decide +kernel) ?_
        exact hret _ (aS, aM, vS) _ ls _ _ _ _ (by exact ⟨(spSeeded_0 n_9 n_19 n_30).symm, hS⟩) (by first | rfl | exact nar_b2i _) hG (Nat.le_of_ble_eq_true rfl) (Nat.le_of_ble_eq_true rfl) dX12_seeded_35
    · --
      have n_19 := b2i_z.mp c_19
      refine lv_iconst (v := (-1)) hF.1 hF.2.1 dX12_seeded_22 (by decide +kernel) ?_
      exact hret _ (aS, aM, vS) _ ls _ _ _ _ (by first | exact ⟨(spSeeded_f (Or.inl n_9)).symm, hS⟩ | exact ⟨(spSeeded_f (Or.inr n_19)).symm, hS⟩) (by first | rfl | exact nar_b2i _) hG (Nat.le_of_ble_eq_true rfl) (Nat.le_of_ble_eq_true rfl) dX12_seeded_23

abbrev rmX12_isTriedSo : Room := { frames := 3, cells := 0, slots := 0, locals := 67 }
set_option maxHeartbeats 4000000 in
set_option maxRecDepth 100000 in
theorem c_X12_isTriedSo {l : Launch} {D : va_G} {cA : Nat → ClassId} {A : Nat → Prop}  {ob : Nat → Nat} {aS aI aR aM aK aT aZ aE aD aF aN aP aH : Nat → Int32} {vH vT vP vB vE vS : Int32} {n o : Nat} {kd fg : Nat → Nat} (hS : SR aS n o kd fg) {x : Nat → Sf} (hXF : ∀ d, d < 8 → SF aK aT aZ aE aD aF d (x d)) {j mh : Nat} {z : Nat × Nat × (Nat → Int32)} (hj : j < 8) (hx : x j = some (.inr z)) (hm : z.2.1 = 2 * mh) (hin : ∀ q, q < mh → inB n (z.2.2 (2 * q)) = true) : Met l yX12_isTriedSo wsX12_isTriedSo rmX12_isTriedSo (va_Pc [.ref (ob 0), .int (nI j)] (Pre D cA A (MW cA ob aS aI aR aM aK aT aZ aE aD aF aN aP aH vH vT vP vB vE vS))) (va_Qi (fun r (_ : Nat → Int32) => r = b2i (FIT n kd fg z.2.2 o mh)) (fun u t => Wd D A ((fun (u : Nat → Int32) => MW cA ob u aI aR aM aK aT aZ aE aD aF aN aP aH vH vT vP vB vE vS) u) t) A) (0) (0) A := by
  refine k_ofi (S := Nat → Int32) (F := fun (u : Nat → Int32) => MW cA ob u aI aR aM aK aT aZ aE aD aF aN aP aH vH vT vP vB vE vS) (cc := cX12_isTriedSo) (maxL := 3) (by decide) rfl (Nat.le_of_ble_eq_true rfl) ?_
  intro p e s m args below meth c Q hF hini hK hA hG hret ls hl
  have hl : lv_has ls 3 [(0, .ref (ob 0)), (1, .int (nI j))] := hl
  have hn : n ≤ 6 := hS.2.2.1
  have ho : o < 64 := hS.o64
  obtain ⟨f1, f2, f3, f4, f5, f6⟩ := sf_r (hXF j hj) hx
  refine lv_iconst (v := (nI 0)) hF.1 hF.2.1 dX12_isTriedSo_0 (by decide +kernel) ?_
  refine lv_istore_n (lv' := [(2, .int (nI 0)), (0, .ref (ob 0)), (1, .int (nI j))]) hF.1 hF.2.1 dX12_isTriedSo_1 rfl hl (by decide) rfl (fun ls hl => ?_)
  have lp2 : ∀ (fuel : Nat), ∀ (q : Nat) (bS : Nat → Int32), (hq : q ≤ mh) → (hfa : allB (fitB n kd fg z.2.2 o) q = true) → (hSi : SR bS n (runU n kd fg (evF z.2.2) o (q)).1 kd fg) → (mh - q) < fuel → ∀ (H : Heap) (locs : List Loc), Gd D A (MW cA ob bS aI aR aM aK aT aZ aE aD aF aN aP aH vH vT vP vB vE vS) s.heap H locs → ∀ ls : Array Slot, lv_has ls 3 [(0, .ref (ob 0)), (1, .int (nI j)), (2, .int (nI (2 * q)))] → W p l e rmX12_isTriedSo s m args below meth c H locs (0) (0) Q (F0 m 2 ls []) := by
    intro fuel
    induction fuel with
    | zero => intro q bS hq hfa hSi hmu; exact absurd hmu (Nat.not_lt_zero _)
    | succ fuel ih2 =>
      intro q bS hq hfa hSi hmu H locs hG ls hl
      refine lv_iload_n hF.1 hF.2.1 dX12_isTriedSo_2 rfl (lv_at hl 2 rfl) ?_
      refine lv_aload_n hF.1 hF.2.1 dX12_isTriedSo_3 rfl (lv_at hl 0 rfl) ?_
      refine k_get (C := RX12) (T := TX12) (N := 19) hF hK hG (fun _ h => List.mem_cons_of_mem _ (List.mem_append_right _ h)) 0 rfl rfl 6 (by decide) (List.mem_of_getElem? (i := 1) rfl) (fun _ h9 => h9) rfl dX12_isTriedSo_4 ?_
      refine lv_iload_n hF.1 hF.2.1 dX12_isTriedSo_7 rfl (lv_at hl 1 rfl) ?_
      refine k_ialdN hF hK hG 7 rfl (j) rfl (by omega) (by omega) dX12_isTriedSo_8 ?_
      rw [f3]
      refine lv_icmp_ge (tgt := 50) hF.1 hF.2.1 dX12_isTriedSo_9 (by decide) (fun c_9 => ?_) (fun c_9 => ?_)
      · --
        have n_9 : z.2.1 ≤ 2 * q := (nI_leI (a := z.2.1) (b := 2 * q) (by omega) (by omega)).mp c_9
        refine lv_iconst (v := (nI 1)) hF.1 hF.2.1 dX12_isTriedSo_50 (by decide +kernel) ?_
        exact hret _ _ _ ls _ _ _ _ (by obtain rfl : q = mh := (by omega); rw [show FIT n kd fg z.2.2 o q = true from hfa]; rfl) (by first | rfl | exact nar_b2i _) hG (Nat.le_of_ble_eq_true rfl) (Nat.le_of_ble_eq_true rfl) dX12_isTriedSo_51
      · --
        have n_9 : ¬ (z.2.1 ≤ 2 * q) := fun zz9 => c_9 ((nI_leI (a := z.2.1) (b := 2 * q) (by omega) (by omega)).mpr zz9)
        refine lv_aload_n hF.1 hF.2.1 dX12_isTriedSo_12 rfl (lv_at hl 0 rfl) ?_
        refine lv_aload_n hF.1 hF.2.1 dX12_isTriedSo_13 rfl (lv_at hl 0 rfl) ?_
        refine lv_iload_n hF.1 hF.2.1 dX12_isTriedSo_14 rfl (lv_at hl 1 rfl) ?_
        refine lv_iload_n hF.1 hF.2.1 dX12_isTriedSo_15 rfl (lv_at hl 2 rfl) ?_
        refine k_ci (r_V (As := [.int (nI j), .int (nI (2 * q))]) hF hK hA hG (c_X12_told hj (show 2 * q < 100 by omega)) (cwV 2 hF.2.2.2.2 gX12_isTriedSo_X12_told rfl rfl rfl (by decide +kernel) ⟨Nat.le_of_ble_eq_true rfl, Nat.le_of_ble_eq_true rfl⟩) 0 rfl rfl rfl rfl hl.1 rfl (lv_room (Nat.le_of_ble_eq_true rfl)) dX12_isTriedSo_16 ⟨Nat.le_of_ble_eq_true rfl, Nat.le_of_ble_eq_true rfl⟩) hG (fun r_16 u_16 H locs hp_16 hG => ?_)
        rw [f6 (2 * q) (by omega)] at hp_16
        subst hp_16
        obtain ⟨k, hk, ek⟩ := inB_ex (by omega) (hin q (by omega))
        rw [ek]
        refine k_ci (r_V (As := [.int (nI k)]) hF hK hA hG (c_X12_pulls hSi hk) (cwV 1 hF.2.2.2.2 gX12_isTriedSo_X12_pulls rfl rfl rfl (by decide +kernel) ⟨Nat.le_of_ble_eq_true rfl, Nat.le_of_ble_eq_true rfl⟩) 0 rfl rfl rfl rfl hl.1 rfl (lv_room (Nat.le_of_ble_eq_true rfl)) dX12_isTriedSo_19 ⟨Nat.le_of_ble_eq_true rfl, Nat.le_of_ble_eq_true rfl⟩) hG (fun r_19 u_19 H locs hp_19 hG => ?_)
        obtain ⟨hp1, hp2⟩ := hp_19
        subst hp1
        rw [← ek] at hp2
        refine lv_aload_n hF.1 hF.2.1 dX12_isTriedSo_22 rfl (lv_at hl 0 rfl) ?_
        refine lv_iload_n hF.1 hF.2.1 dX12_isTriedSo_23 rfl (lv_at hl 1 rfl) ?_
        refine lv_iload_n hF.1 hF.2.1 dX12_isTriedSo_24 rfl (lv_at hl 2 rfl) ?_
        refine lv_iconst (v := (nI 1)) hF.1 hF.2.1 dX12_isTriedSo_25 (by decide +kernel) ?_
        refine lv_iadd hF.1 hF.2.1 dX12_isTriedSo_26 ?_
        rw [nI_add]
        refine k_ci (r_V (As := [.int (nI j), .int (nI (2 * q + 1))]) hF hK hA hG (c_X12_told hj (show 2 * q + 1 < 100 by omega)) (cwV 2 hF.2.2.2.2 gX12_isTriedSo_X12_told rfl rfl rfl (by decide +kernel) ⟨Nat.le_of_ble_eq_true rfl, Nat.le_of_ble_eq_true rfl⟩) 0 rfl rfl rfl rfl hl.1 rfl (lv_room (Nat.le_of_ble_eq_true rfl)) dX12_isTriedSo_27 ⟨Nat.le_of_ble_eq_true rfl, Nat.le_of_ble_eq_true rfl⟩) hG (fun r_27 u_27 H locs hp_27 hG => ?_)
        rw [f6 (2 * q + 1) (by omega)] at hp_27
        subst hp_27
        refine lv_iconst (v := (nI 1)) hF.1 hF.2.1 dX12_isTriedSo_30 (by decide +kernel) ?_
        refine lv_icmp_ne (tgt := 38) hF.1 hF.2.1 dX12_isTriedSo_31 (by decide) (fun c_31 => ?_) (fun c_31 => ?_)
        · --
          refine lv_iconst (v := (nI 0)) hF.1 hF.2.1 dX12_isTriedSo_38 (by decide +kernel) ?_
          refine lv_icmp_eq (tgt := 44) hF.1 hF.2.1 dX12_isTriedSo_39 (by decide) (fun c_39 => ?_) (fun c_39 => ?_)
          · --
            have n_39 : (mayZ n kd fg (nI k) (runU n kd fg (evF z.2.2) o (q)).1) = false := b2i_z.mp c_39
            have hf10 : fitB n kd fg z.2.2 o q = true := by unfold fitB; rw [ek]; first | exact fit_1 c_31 c_39 | exact fit_0 c_31 c_39
            refine lv_iinc (v := (nI (2 * q + 2))) (lv' := [(2, .int (nI (2 * q + 2))), (0, .ref (ob 0)), (1, .int (nI j))]) hF.1 hF.2.1 dX12_isTriedSo_44 hl (k := 2) rfl (nI_inc _ _) (by decide) rfl (fun ls hl => ?_)
            refine lv_goto (tgt := 2) hF.1 hF.2.1 dX12_isTriedSo_47 (by decide) ?_
            exact ih2 (q + 1) (_) (by omega) (by show (allB (fitB n kd fg z.2.2 o) q && fitB n kd fg z.2.2 o q) = true; rw [hfa, hf10]; rfl) hp2 (by omega) _ _ hG ls (lv_sub hl [1, 2, 0] rfl)
          · --
            have n_39 : (mayZ n kd fg (nI k) (runU n kd fg (evF z.2.2) o (q)).1) = true := b2i_nz.mp c_39
            have hf10 : fitB n kd fg z.2.2 o q = false := by unfold fitB; rw [ek]; first | exact fit_1n c_31 c_39 | exact fit_0n c_31 c_39
            refine lv_iconst (v := (nI 0)) hF.1 hF.2.1 dX12_isTriedSo_42 (by decide +kernel) ?_
            exact hret _ _ _ ls _ _ _ _ (by rw [show FIT n kd fg z.2.2 o mh = false from allB_f (i := q) (by omega) hf10]; rfl) (by first | rfl | exact nar_b2i _) hG (Nat.le_of_ble_eq_true rfl) (Nat.le_of_ble_eq_true rfl) dX12_isTriedSo_43
        · --
          refine lv_iconst (v := (nI 1)) hF.1 hF.2.1 dX12_isTriedSo_34 (by decide +kernel) ?_
          refine lv_goto (tgt := 39) hF.1 hF.2.1 dX12_isTriedSo_35 (by decide) ?_
          refine lv_icmp_eq (tgt := 44) hF.1 hF.2.1 dX12_isTriedSo_39 (by decide) (fun c_39 => ?_) (fun c_39 => ?_)
          · --
            have hf10 : fitB n kd fg z.2.2 o q = true := by unfold fitB; rw [ek]; first | exact fit_1 c_31 c_39 | exact fit_0 c_31 c_39
            refine lv_iinc (v := (nI (2 * q + 2))) (lv' := [(2, .int (nI (2 * q + 2))), (0, .ref (ob 0)), (1, .int (nI j))]) hF.1 hF.2.1 dX12_isTriedSo_44 hl (k := 2) rfl (nI_inc _ _) (by decide) rfl (fun ls hl => ?_)
            refine lv_goto (tgt := 2) hF.1 hF.2.1 dX12_isTriedSo_47 (by decide) ?_
            exact ih2 (q + 1) (_) (by omega) (by show (allB (fitB n kd fg z.2.2 o) q && fitB n kd fg z.2.2 o q) = true; rw [hfa, hf10]; rfl) hp2 (by omega) _ _ hG ls (lv_sub hl [1, 2, 0] rfl)
          · --
            have hf10 : fitB n kd fg z.2.2 o q = false := by unfold fitB; rw [ek]; first | exact fit_1n c_31 c_39 | exact fit_0n c_31 c_39
            refine lv_iconst (v := (nI 0)) hF.1 hF.2.1 dX12_isTriedSo_42 (by decide +kernel) ?_
            exact hret _ _ _ ls _ _ _ _ (by rw [show FIT n kd fg z.2.2 o mh = false from allB_f (i := q) (by omega) hf10]; rfl) (by first | rfl | exact nar_b2i _) hG (Nat.le_of_ble_eq_true rfl) (Nat.le_of_ble_eq_true rfl) dX12_isTriedSo_43
  exact lp2 _ (0) (aS) (by omega) rfl hS (Nat.lt_succ_self _) _ _ hG ls (lv_sub hl [1, 2, 0] rfl)

abbrev rmX12_tried : Room := { frames := 4, cells := 0, slots := 0, locals := 89 }
set_option maxHeartbeats 4000000 in
set_option maxRecDepth 100000 in
theorem c_X12_tried {l : Launch} {D : va_G} {cA : Nat → ClassId} {A : Nat → Prop}  {ob : Nat → Nat} {aS aI aR aM aK aT aZ aE aD aF aN aP aH : Nat → Int32} {vH vT vP vB vE vS : Int32} {n o : Nat} {kd fg : Nat → Nat} (hS : SR aS n o kd fg) {x : Nat → Sf} (hXF : ∀ d, d < 8 → SF aK aT aZ aE aD aF d (x d)) {d y f : Int32} : Met l yX12_tried wsX12_tried rmX12_tried (va_Pc [.ref (ob 0), .int d, .int y, .int f] (Pre D cA A (MW cA ob aS aI aR aM aK aT aZ aE aD aF aN aP aH vH vT vP vB vE vS))) (va_Qi (fun r (u : (Nat → Int32) × (Nat → Int32)) => r = spTried n o kd fg (sfA x d) y f ∧ SR u.1 n o kd fg) (fun u t => Wd D A ((fun (u : (Nat → Int32) × (Nat → Int32)) => MW cA ob u.1 aI aR u.2 aK aT aZ aE aD aF aN aP aH vH vT vP vB vE vS) u) t) A) (0) (0) A := by
  refine k_ofi (S := (Nat → Int32) × (Nat → Int32)) (F := fun (u : (Nat → Int32) × (Nat → Int32)) => MW cA ob u.1 aI aR u.2 aK aT aZ aE aD aF aN aP aH vH vT vP vB vE vS) (cc := cX12_tried) (maxL := 7) (by decide) rfl (Nat.le_of_ble_eq_true rfl) ?_
  intro p e s m args below meth c Q hF hini hK hA hG hret ls hl
  have hl : lv_has ls 7 [(0, .ref (ob 0)), (1, .int d), (2, .int y), (3, .int f)] := hl
  have hn : n ≤ 6 := hS.2.2.1
  have ho : o < 64 := hS.o64
  refine lv_iload_n hF.1 hF.2.1 dX12_tried_0 rfl (lv_at hl 1 rfl) ?_
  refine k_ci (r_S (As := [.int d]) hF hK hA hG (c_X12_isShelf) (cwS 1 hF.2.2.2.2 gX12_tried_X12_isShelf rfl rfl rfl (by decide +kernel) ⟨Nat.le_of_ble_eq_true rfl, Nat.le_of_ble_eq_true rfl⟩) rfl hl.1 rfl (lv_room (Nat.le_of_ble_eq_true rfl)) dX12_tried_1 ⟨Nat.le_of_ble_eq_true rfl, Nat.le_of_ble_eq_true rfl⟩) hG (fun r_1 u_1 H locs hp_1 hG => ?_)
  subst hp_1
  refine lv_if_eq (tgt := 27) hF.1 hF.2.1 dX12_tried_4 (by decide) (fun c_4 => ?_) (fun c_4 => ?_)
  · --
    have n_4 : (inB 8 d) = false := b2i_z.mp c_4
    refine lv_iconst (v := (-1)) hF.1 hF.2.1 dX12_tried_27 (by decide +kernel) ?_
    refine lv_goto (tgt := 37) hF.1 hF.2.1 dX12_tried_28 (by decide) ?_
    refine lv_istore (lv' := [(4, .int (-1)), (0, .ref (ob 0)), (1, .int d), (2, .int y), (3, .int f)]) hF.1 hF.2.1 dX12_tried_37 hl (by decide) rfl (fun ls hl => ?_)
    refine lv_iload hF.1 hF.2.1 dX12_tried_39 (lv_at hl 0 rfl) ?_
    refine lv_if_ne (tgt := 59) hF.1 hF.2.1 dX12_tried_41 (by decide) (fun c_41 => ?_) (fun c_41 => absurd c_41 m1_0)
    refine lv_iconst (v := (nI 0)) hF.1 hF.2.1 dX12_tried_59 (by decide +kernel) ?_
    refine lv_istore (lv' := [(5, .int (nI 0)), (4, .int (-1)), (0, .ref (ob 0)), (1, .int d), (2, .int y), (3, .int f)]) hF.1 hF.2.1 dX12_tried_60 hl (by decide) rfl (fun ls hl => ?_)
    refine lv_iload hF.1 hF.2.1 dX12_tried_62 (lv_at hl 1 rfl) ?_
    refine lv_if_ne (tgt := 124) hF.1 hF.2.1 dX12_tried_64 (by decide) (fun c_64 => ?_) (fun c_64 => absurd c_64 m1_0)
    refine lv_iload hF.1 hF.2.1 dX12_tried_124 (lv_at hl 1 rfl) ?_
    refine lv_if_eq (tgt := 132) hF.1 hF.2.1 dX12_tried_126 (by decide) (fun c_126 => ?_) (fun c_126 => ?_)
    · --
      exact absurd c_126 c_64
    · --
      refine lv_iload hF.1 hF.2.1 dX12_tried_129 (lv_at hl 1 rfl) ?_
      exact hret _ (aS, aM) _ ls _ _ _ _ (by first | (rw [sfA_f x n_4]; exact ⟨spTried_s.symm, hS⟩) | exact ⟨(spTried_f (Or.inl n_12)).symm, hS⟩ | exact ⟨(spTried_f (Or.inr n_24)).symm, hS⟩ | exact ⟨(spTried_n n_12 n_24 c28).symm, hS⟩ | (rw [sfA_j x hj, hx, spTried_c n_12 n_24 hz0 (trOk_o hev)]; exact ⟨rfl, hS⟩) | (refine ⟨?_, hS⟩; rcases hno with g | ⟨g1, b, g2, g3⟩; exact absurd g.1 c_64; rw [sfA_j x hj, hx, spTried_c n_12 n_24 hz0 (trOk_f g2 hev g3)]; exact g1)) (by first | rfl | exact nar_b2i _) hG (Nat.le_of_ble_eq_true rfl) (Nat.le_of_ble_eq_true rfl) dX12_tried_131
  · --
    have n_4 : (inB 8 d) = true := b2i_nz.mp c_4
    refine lv_aload_n hF.1 hF.2.1 dX12_tried_7 rfl (lv_at hl 0 rfl) ?_
    refine lv_iload_n hF.1 hF.2.1 dX12_tried_8 rfl (lv_at hl 2 rfl) ?_
    refine k_ci (r_V (As := [.int y]) hF hK hA hG (c_X12_isDrawer hS) (cwV 1 hF.2.2.2.2 gX12_tried_X12_isDrawer rfl rfl rfl (by decide +kernel) ⟨Nat.le_of_ble_eq_true rfl, Nat.le_of_ble_eq_true rfl⟩) 0 rfl rfl rfl rfl hl.1 rfl (lv_room (Nat.le_of_ble_eq_true rfl)) dX12_tried_9 ⟨Nat.le_of_ble_eq_true rfl, Nat.le_of_ble_eq_true rfl⟩) hG (fun r_9 u_9 H locs hp_9 hG => ?_)
    subst hp_9
    refine lv_if_eq (tgt := 27) hF.1 hF.2.1 dX12_tried_12 (by decide) (fun c_12 => ?_) (fun c_12 => ?_)
    · --
      have n_12 : (inB n y) = false := b2i_z.mp c_12
      refine lv_iconst (v := (-1)) hF.1 hF.2.1 dX12_tried_27 (by decide +kernel) ?_
      refine lv_goto (tgt := 37) hF.1 hF.2.1 dX12_tried_28 (by decide) ?_
      refine lv_istore (lv' := [(4, .int (-1)), (0, .ref (ob 0)), (1, .int d), (2, .int y), (3, .int f)]) hF.1 hF.2.1 dX12_tried_37 hl (by decide) rfl (fun ls hl => ?_)
      refine lv_iload hF.1 hF.2.1 dX12_tried_39 (lv_at hl 0 rfl) ?_
      refine lv_if_ne (tgt := 59) hF.1 hF.2.1 dX12_tried_41 (by decide) (fun c_41 => ?_) (fun c_41 => absurd c_41 m1_0)
      refine lv_iconst (v := (nI 0)) hF.1 hF.2.1 dX12_tried_59 (by decide +kernel) ?_
      refine lv_istore (lv' := [(5, .int (nI 0)), (4, .int (-1)), (0, .ref (ob 0)), (1, .int d), (2, .int y), (3, .int f)]) hF.1 hF.2.1 dX12_tried_60 hl (by decide) rfl (fun ls hl => ?_)
      refine lv_iload hF.1 hF.2.1 dX12_tried_62 (lv_at hl 1 rfl) ?_
      refine lv_if_ne (tgt := 124) hF.1 hF.2.1 dX12_tried_64 (by decide) (fun c_64 => ?_) (fun c_64 => absurd c_64 m1_0)
      refine lv_iload hF.1 hF.2.1 dX12_tried_124 (lv_at hl 1 rfl) ?_
      refine lv_if_eq (tgt := 132) hF.1 hF.2.1 dX12_tried_126 (by decide) (fun c_126 => ?_) (fun c_126 => ?_)
      · --
        exact absurd c_126 c_64
      · --
        refine lv_iload hF.1 hF.2.1 dX12_tried_129 (lv_at hl 1 rfl) ?_
        exact hret _ (aS, aM) _ ls _ _ _ _ (by first | (rw [sfA_f x n_4]; exact ⟨spTried_s.symm, hS⟩) | exact ⟨(spTried_f (Or.inl n_12)).symm, hS⟩ | exact ⟨(spTried_f (Or.inr n_24)).symm, hS⟩ | exact ⟨(spTried_n n_12 n_24 c28).symm, hS⟩ | (rw [sfA_j x hj, hx, spTried_c n_12 n_24 hz0 (trOk_o hev)]; exact ⟨rfl, hS⟩) | (refine ⟨?_, hS⟩; rcases hno with g | ⟨g1, b, g2, g3⟩; exact absurd g.1 c_64; rw [sfA_j x hj, hx, spTried_c n_12 n_24 hz0 (trOk_f g2 hev g3)]; exact g1)) (by first | rfl | exact nar_b2i _) hG (Nat.le_of_ble_eq_true rfl) (Nat.le_of_ble_eq_true rfl) dX12_tried_131
    · --
      have n_12 : (inB n y) = true := b2i_nz.mp c_12
      refine lv_iload_n hF.1 hF.2.1 dX12_tried_15 rfl (lv_at hl 3 rfl) ?_
      refine lv_i2l hF.1 hF.2.1 dX12_tried_16 rfl ?_
      refine lv_lconst (v := 0) hF.1 hF.2.1 dX12_tried_17 (by decide +kernel) ?_
      refine lv_ldc2 hF.1 hF.2.1 (own := RX12) hF.2.2.2.1 (hF.2.2.2.2 _ (List.mem_of_getElem? (i := 1) rfl)) dX12_tried_18 ?_
      refine k_ci (r_S (As := [.long (f.toInt64), .long (0), .long (9)]) hF hK hA hG (c_X12_isIn) (cwS 3 hF.2.2.2.2 gX12_tried_X12_isIn rfl rfl rfl (by decide +kernel) ⟨Nat.le_of_ble_eq_true rfl, Nat.le_of_ble_eq_true rfl⟩) rfl hl.1 rfl (lv_room (Nat.le_of_ble_eq_true rfl)) dX12_tried_21 ⟨Nat.le_of_ble_eq_true rfl, Nat.le_of_ble_eq_true rfl⟩) hG (fun r_21 u_21 H locs hp_21 hG => ?_)
      rw [inL (n := 10) (by omega) (by decide +kernel)] at hp_21
      subst hp_21
      refine lv_if_ne (tgt := 31) hF.1 hF.2.1 dX12_tried_24 (by decide) (fun c_24 => ?_) (fun c_24 => ?_)
      · --
        have n_24 := b2i_nz.mp c_24
        refine lv_aload_n hF.1 hF.2.1 dX12_tried_31 rfl (lv_at hl 0 rfl) ?_
        refine lv_iload_n hF.1 hF.2.1 dX12_tried_32 rfl (lv_at hl 1 rfl) ?_
        refine lv_iconst (v := (nI 0)) hF.1 hF.2.1 dX12_tried_33 (by decide +kernel) ?_
        refine k_ci (r_V (As := [.int d, .int (nI 0)]) hF hK hA hG (c_X12_wrongRow_0 hXF) (cwV 2 hF.2.2.2.2 gX12_tried_X12_wrongRow rfl rfl rfl (by decide +kernel) ⟨Nat.le_of_ble_eq_true rfl, Nat.le_of_ble_eq_true rfl⟩) 0 rfl rfl rfl rfl hl.1 rfl (lv_room (Nat.le_of_ble_eq_true rfl)) dX12_tried_34 ⟨Nat.le_of_ble_eq_true rfl, Nat.le_of_ble_eq_true rfl⟩) hG (fun r_34 u_34 H locs hp_34 hG => ?_)
        subst hp_34
        refine lv_istore (lv' := [(4, .int (wr0 (sfA x d))), (0, .ref (ob 0)), (1, .int d), (2, .int y), (3, .int f)]) hF.1 hF.2.1 dX12_tried_37 hl (by decide) rfl (fun ls hl => ?_)
        rcases Decidable.em (wr0 (sfA x d) = 0) with c28 | c28
        · --
          obtain ⟨j, z, hj, rfl, hx, hz0⟩ := wr_0 c28
          obtain ⟨f1, f2, f3, f4, f5, f6⟩ := sf_r (hXF j hj) hx
          have hl : lv_has ls 7 [(4, .int (nI 0)), (0, .ref (ob 0)), (1, .int (nI j)), (2, .int y), (3, .int f)] := by rw [c28] at hl; exact hl
          refine lv_iload hF.1 hF.2.1 dX12_tried_39 (lv_at hl 0 rfl) ?_
          refine lv_if_ne (tgt := 59) hF.1 hF.2.1 dX12_tried_41 (by decide) (fun c_41 => absurd nI_0 c_41) (fun c_41 => ?_)
          refine lv_aload_n hF.1 hF.2.1 dX12_tried_44 rfl (lv_at hl 1 rfl) ?_
          refine k_get (C := RX12) (T := TX12) (N := 19) hF hK hG (fun _ h => List.mem_cons_of_mem _ (List.mem_append_right _ h)) 0 rfl rfl 6 (by decide) (List.mem_of_getElem? (i := 2) rfl) (fun _ h9 => h9) rfl dX12_tried_45 ?_
          refine lv_iload_n hF.1 hF.2.1 dX12_tried_48 rfl (lv_at hl 2 rfl) ?_
          refine k_ialdN hF hK hG 7 rfl (j) rfl (by omega) (by omega) dX12_tried_49 ?_
          rw [f3]
          refine lv_iconst (v := (nI 2)) hF.1 hF.2.1 dX12_tried_50 (by decide +kernel) ?_
          refine lv_irem hF.1 hF.2.1 dX12_tried_51 (by decide +kernel) ?_
          rw [pk_rem (by omega) (by decide) (by omega)]
          refine lv_if_eq (tgt := 59) hF.1 hF.2.1 dX12_tried_52 (by decide) (fun c_52 => ?_) (fun c_52 => ?_)
          · --
            have hev : z.2.1 % 2 = 0 := (nI_eq (by omega) (by omega)).mp c_52
            refine lv_iconst (v := (nI 0)) hF.1 hF.2.1 dX12_tried_59 (by decide +kernel) ?_
            refine lv_istore (lv' := [(5, .int (nI 0)), (4, .int (nI 0)), (0, .ref (ob 0)), (1, .int (nI j)), (2, .int y), (3, .int f)]) hF.1 hF.2.1 dX12_tried_60 hl (by decide) rfl (fun ls hl => ?_)
            have lp62 : ∀ (fuel : Nat), ∀ (q : Nat) (no : Int32), (hq : 2 * q ≤ z.2.1 + 1) → (hno : (no = nI 0 ∧ ∀ b, b < q → trB n z.2.2 b = true) ∨ (no = -13 ∧ ∃ b, 2 * b < z.2.1 ∧ trB n z.2.2 b = false)) → (z.2.1 - q) < fuel → ∀ (H : Heap) (locs : List Loc), Gd D A (MW cA ob aS aI aR aM aK aT aZ aE aD aF aN aP aH vH vT vP vB vE vS) s.heap H locs → ∀ ls : Array Slot, lv_has ls 7 [(0, .ref (ob 0)), (1, .int (nI j)), (2, .int y), (3, .int f), (4, .int no), (5, .int (nI (2 * q)))] → W p l e rmX12_tried s m args below meth c H locs (0) (0) Q (F0 m 62 ls []) := by
              intro fuel
              induction fuel with
              | zero => intro q no hq hno hmu; exact absurd hmu (Nat.not_lt_zero _)
              | succ fuel ih62 =>
                intro q no hq hno hmu H locs hG ls hl
                refine lv_iload hF.1 hF.2.1 dX12_tried_62 (lv_at hl 4 rfl) ?_
                refine lv_if_ne (tgt := 124) hF.1 hF.2.1 dX12_tried_64 (by decide) (fun c_64 => ?_) (fun c_64 => ?_)
                · --
                  refine lv_iload hF.1 hF.2.1 dX12_tried_124 (lv_at hl 4 rfl) ?_
                  refine lv_if_eq (tgt := 132) hF.1 hF.2.1 dX12_tried_126 (by decide) (fun c_126 => ?_) (fun c_126 => ?_)
                  · --
                    exact absurd c_126 c_64
                  · --
                    refine lv_iload hF.1 hF.2.1 dX12_tried_129 (lv_at hl 4 rfl) ?_
                    exact hret _ (aS, aM) _ ls _ _ _ _ (by first | (rw [sfA_f x n_4]; exact ⟨spTried_s.symm, hS⟩) | exact ⟨(spTried_f (Or.inl n_12)).symm, hS⟩ | exact ⟨(spTried_f (Or.inr n_24)).symm, hS⟩ | exact ⟨(spTried_n n_12 n_24 c28).symm, hS⟩ | (rw [sfA_j x hj, hx, spTried_c n_12 n_24 hz0 (trOk_o hev)]; exact ⟨rfl, hS⟩) | (refine ⟨?_, hS⟩; rcases hno with g | ⟨g1, b, g2, g3⟩; exact absurd g.1 c_64; rw [sfA_j x hj, hx, spTried_c n_12 n_24 hz0 (trOk_f g2 hev g3)]; exact g1)) (by first | rfl | exact nar_b2i _) hG (Nat.le_of_ble_eq_true rfl) (Nat.le_of_ble_eq_true rfl) dX12_tried_131
                · --
                  have hall : no = nI 0 ∧ ∀ b, b < q → trB n z.2.2 b = true := hno.elim id (fun g => absurd c_64 (by rw [g.1]; decide +kernel))
                  refine lv_iload hF.1 hF.2.1 dX12_tried_67 (lv_at hl 5 rfl) ?_
                  refine lv_aload_n hF.1 hF.2.1 dX12_tried_69 rfl (lv_at hl 0 rfl) ?_
                  refine k_get (C := RX12) (T := TX12) (N := 19) hF hK hG (fun _ h => List.mem_cons_of_mem _ (List.mem_append_right _ h)) 0 rfl rfl 6 (by decide) (List.mem_of_getElem? (i := 2) rfl) (fun _ h9 => h9) rfl dX12_tried_70 ?_
                  refine lv_iload_n hF.1 hF.2.1 dX12_tried_73 rfl (lv_at hl 1 rfl) ?_
                  refine k_ialdN hF hK hG 7 rfl (j) rfl (by omega) (by omega) dX12_tried_74 ?_
                  rw [f3]
                  refine lv_icmp_ge (tgt := 124) hF.1 hF.2.1 dX12_tried_75 (by decide) (fun c_75 => ?_) (fun c_75 => ?_)
                  · --
                    have n_75 : z.2.1 ≤ 2 * q := (nI_leI (a := z.2.1) (b := 2 * q) (by omega) (by omega)).mp c_75
                    refine lv_iload hF.1 hF.2.1 dX12_tried_124 (lv_at hl 4 rfl) ?_
                    refine lv_if_eq (tgt := 132) hF.1 hF.2.1 dX12_tried_126 (by decide) (fun c_126 => ?_) (fun c_126 => ?_)
                    · --
                      have htr : ∀ b, 2 * b < z.2.1 → trB n z.2.2 b = true := fun b hb => hall.2 b (by omega)
                      obtain ⟨i, hi, rfl⟩ := inB_ex (by omega) n_12
                      obtain ⟨g, hg, rfl⟩ := inB_ex (by omega) n_24
                      refine lv_iconst (v := (nI 0)) hF.1 hF.2.1 dX12_tried_132 (by decide +kernel) ?_
                      refine lv_istore (lv' := [(5, .int (nI 0)), (0, .ref (ob 0)), (1, .int (nI j)), (2, .int (nI i)), (3, .int (nI g)), (4, .int no)]) hF.1 hF.2.1 dX12_tried_133 hl (by decide) rfl (fun ls hl => ?_)
                      refine lv_aload_n hF.1 hF.2.1 dX12_tried_135 rfl (lv_at hl 1 rfl) ?_
                      refine k_cv (r_V (As := []) hF hK hA hG (c_X12_begins) (cwV 0 hF.2.2.2.2 gX12_tried_X12_begins rfl rfl rfl (by decide +kernel) ⟨Nat.le_of_ble_eq_true rfl, Nat.le_of_ble_eq_true rfl⟩) 0 rfl rfl rfl rfl hl.1 rfl (lv_room (Nat.le_of_ble_eq_true rfl)) dX12_tried_136 ⟨Nat.le_of_ble_eq_true rfl, Nat.le_of_ble_eq_true rfl⟩) hG (fun u_136 H locs hp_136 hG => ?_)
                      refine lv_iconst (v := (nI 0)) hF.1 hF.2.1 dX12_tried_139 (by decide +kernel) ?_
                      refine lv_istore (lv' := [(6, .int (nI 0)), (5, .int (nI 0)), (0, .ref (ob 0)), (1, .int (nI j)), (2, .int (nI i)), (3, .int (nI g)), (4, .int no)]) hF.1 hF.2.1 dX12_tried_140 hl (by decide) rfl (fun ls hl => ?_)
                      have lp142 : ∀ (fuel : Nat), ∀ (k : Nat) (bS : Nat → Int32) (bM : Nat → Int32), (hk : k ≤ 8) → (hSk : SR bS n o kd fg) → (hM : SR bM n o kd fg) → (8 - k) < fuel → ∀ (H : Heap) (locs : List Loc), Gd D A (MW cA ob bS aI aR bM aK aT aZ aE aD aF aN aP aH vH vT vP vB vE vS) s.heap H locs → ∀ ls : Array Slot, lv_has ls 7 [(0, .ref (ob 0)), (1, .int (nI j)), (2, .int (nI i)), (3, .int (nI g)), (5, .int (nI (triU n o kd fg i g z.2.2 (z.2.1 / 2) k))), (6, .int (nI k))] → W p l e rmX12_tried s m args below meth c H locs (0) (0) Q (F0 m 142 ls []) := by
                        intro fuel
                        induction fuel with
                        | zero => intro k bS bM hk hSk hM hmu; exact absurd hmu (Nat.not_lt_zero _)
                        | succ fuel ih142 =>
                          intro k bS bM hk hSk hM hmu H locs hG ls hl
                          refine lv_iload hF.1 hF.2.1 dX12_tried_142 (lv_at hl 5 rfl) ?_
                          refine lv_bipush (v := (nI 8)) hF.1 hF.2.1 dX12_tried_144 (by decide +kernel) ?_
                          refine lv_icmp_ge (tgt := 188) hF.1 hF.2.1 dX12_tried_146 (by decide) (fun c_146 => ?_) (fun c_146 => ?_)
                          · --
                            have n_146 : 8 ≤ k := (nI_leI (a := 8) (b := k) (by omega) (by omega)).mp c_146
                            refine lv_iload hF.1 hF.2.1 dX12_tried_188 (lv_at hl 4 rfl) ?_
                            exact hret _ (bS, bM) _ ls _ _ _ _ (by obtain rfl : k = 8 := (by omega); rw [sfA_j x hj, hx, spTried_t hn hi hg hz0 (trOk_t hev htr)]; exact ⟨rfl, hSk⟩) (by first | rfl | exact nar_b2i _) hG (Nat.le_of_ble_eq_true rfl) (Nat.le_of_ble_eq_true rfl) dX12_tried_190
                          · --
                            have n_146 : ¬ (8 ≤ k) := fun zz9 => c_146 ((nI_leI (a := 8) (b := k) (by omega) (by omega)).mpr zz9)
                            refine lv_aload_n hF.1 hF.2.1 dX12_tried_149 rfl (lv_at hl 0 rfl) ?_
                            refine lv_iload_n hF.1 hF.2.1 dX12_tried_150 rfl (lv_at hl 2 rfl) ?_
                            refine lv_iload hF.1 hF.2.1 dX12_tried_151 (lv_at hl 5 rfl) ?_
                            refine lv_iload_n hF.1 hF.2.1 dX12_tried_153 rfl (lv_at hl 3 rfl) ?_
                            refine k_cv (r_V (As := [.int (nI i), .int (nI k), .int (nI g)]) hF hK hA hG (c_X12_setDrawer (show i < 6 by omega)) (cwV 3 hF.2.2.2.2 gX12_tried_X12_setDrawer rfl rfl rfl (by decide +kernel) ⟨Nat.le_of_ble_eq_true rfl, Nat.le_of_ble_eq_true rfl⟩) 0 rfl rfl rfl rfl hl.1 rfl (lv_room (Nat.le_of_ble_eq_true rfl)) dX12_tried_154 ⟨Nat.le_of_ble_eq_true rfl, Nat.le_of_ble_eq_true rfl⟩) hG (fun u_154 H locs hp_154 hG => ?_)
                            have hS3 := (SRi.of hSk i).set (k := k) (by omega) hg
                            refine lv_iload hF.1 hF.2.1 dX12_tried_157 (lv_at hl 4 rfl) ?_
                            refine lv_aload_n hF.1 hF.2.1 dX12_tried_159 rfl (lv_at hl 0 rfl) ?_
                            refine lv_iload_n hF.1 hF.2.1 dX12_tried_160 rfl (lv_at hl 1 rfl) ?_
                            refine k_ci (r_V (As := [.int (nI j)]) hF hK hA hG (c_X12_isTriedSo hS3 hXF hj hx (mh := z.2.1 / 2) (by omega) (fun q hq => ((Bool.and_eq_true _ _).mp (htr q (by omega))).1)) (cwV 1 hF.2.2.2.2 gX12_tried_X12_isTriedSo rfl rfl rfl (by decide +kernel) ⟨Nat.le_of_ble_eq_true rfl, Nat.le_of_ble_eq_true rfl⟩) 0 rfl rfl rfl rfl hl.1 rfl (lv_room (Nat.le_of_ble_eq_true rfl)) dX12_tried_161 ⟨Nat.le_of_ble_eq_true rfl, Nat.le_of_ble_eq_true rfl⟩) hG (fun r_161 u_161 H locs hp_161 hG => ?_)
                            subst hp_161
                            refine lv_if_eq (tgt := 174) hF.1 hF.2.1 dX12_tried_164 (by decide) (fun c_164 => ?_) (fun c_164 => ?_)
                            · --
                              have n_164 : (FIT n (va_up kd i k) (va_up fg i g) z.2.2 o (z.2.1 / 2)) = false := b2i_z.mp c_164
                              refine lv_iconst (v := (nI 0)) hF.1 hF.2.1 dX12_tried_174 (by decide +kernel) ?_
                              refine lv_ior hF.1 hF.2.1 dX12_tried_175 ?_
                              rw [nx_or]
                              refine lv_istore (lv' := [(5, .int (nI (triU n o kd fg i g z.2.2 (z.2.1 / 2) k ||| 0))), (0, .ref (ob 0)), (1, .int (nI j)), (2, .int (nI i)), (3, .int (nI g)), (6, .int (nI k))]) hF.1 hF.2.1 dX12_tried_176 hl (by decide) rfl (fun ls hl => ?_)
                              refine lv_aload_n hF.1 hF.2.1 dX12_tried_178 rfl (lv_at hl 1 rfl) ?_
                              refine k_cv (r_V (As := []) hF hK hA hG (c_X12_ends) (cwV 0 hF.2.2.2.2 gX12_tried_X12_ends rfl rfl rfl (by decide +kernel) ⟨Nat.le_of_ble_eq_true rfl, Nat.le_of_ble_eq_true rfl⟩) 0 rfl rfl rfl rfl hl.1 rfl (lv_room (Nat.le_of_ble_eq_true rfl)) dX12_tried_179 ⟨Nat.le_of_ble_eq_true rfl, Nat.le_of_ble_eq_true rfl⟩) hG (fun u_179 H locs hp_179 hG => ?_)
                              refine lv_iinc (v := (nI (k + 1))) (lv' := [(6, .int (nI (k + 1))), (5, .int (nI (triU n o kd fg i g z.2.2 (z.2.1 / 2) k ||| 0))), (0, .ref (ob 0)), (1, .int (nI j)), (2, .int (nI i)), (3, .int (nI g))]) hF.1 hF.2.1 dX12_tried_182 hl (k := 5) rfl (nI_inc _ _) (by decide) rfl (fun ls hl => ?_)
                              refine lv_goto (tgt := 142) hF.1 hF.2.1 dX12_tried_185 (by decide) ?_
                              exact ih142 (k + 1) (_) (_) (by omega) hM.cpy hM (by omega) _ _ hG ls (lv_sub hl [2, 3, 4, 5, 1, 0] (by first | (rw [triU_t n_164]; rfl) | (rw [triU_f n_164]; rfl)))
                            · --
                              have n_164 : (FIT n (va_up kd i k) (va_up fg i g) z.2.2 o (z.2.1 / 2)) = true := b2i_nz.mp c_164
                              refine lv_iconst (v := (nI 1)) hF.1 hF.2.1 dX12_tried_167 (by decide +kernel) ?_
                              refine lv_iload hF.1 hF.2.1 dX12_tried_168 (lv_at hl 5 rfl) ?_
                              refine lv_ishl hF.1 hF.2.1 dX12_tried_170 ?_
                              rw [shl_1 (by omega)]
                              refine lv_goto (tgt := 175) hF.1 hF.2.1 dX12_tried_171 (by decide) ?_
                              refine lv_ior hF.1 hF.2.1 dX12_tried_175 ?_
                              rw [nx_or]
                              refine lv_istore (lv' := [(5, .int (nI (triU n o kd fg i g z.2.2 (z.2.1 / 2) k ||| 2 ^ k))), (0, .ref (ob 0)), (1, .int (nI j)), (2, .int (nI i)), (3, .int (nI g)), (6, .int (nI k))]) hF.1 hF.2.1 dX12_tried_176 hl (by decide) rfl (fun ls hl => ?_)
                              refine lv_aload_n hF.1 hF.2.1 dX12_tried_178 rfl (lv_at hl 1 rfl) ?_
                              refine k_cv (r_V (As := []) hF hK hA hG (c_X12_ends) (cwV 0 hF.2.2.2.2 gX12_tried_X12_ends rfl rfl rfl (by decide +kernel) ⟨Nat.le_of_ble_eq_true rfl, Nat.le_of_ble_eq_true rfl⟩) 0 rfl rfl rfl rfl hl.1 rfl (lv_room (Nat.le_of_ble_eq_true rfl)) dX12_tried_179 ⟨Nat.le_of_ble_eq_true rfl, Nat.le_of_ble_eq_true rfl⟩) hG (fun u_179 H locs hp_179 hG => ?_)
                              refine lv_iinc (v := (nI (k + 1))) (lv' := [(6, .int (nI (k + 1))), (5, .int (nI (triU n o kd fg i g z.2.2 (z.2.1 / 2) k ||| 2 ^ k))), (0, .ref (ob 0)), (1, .int (nI j)), (2, .int (nI i)), (3, .int (nI g))]) hF.1 hF.2.1 dX12_tried_182 hl (k := 5) rfl (nI_inc _ _) (by decide) rfl (fun ls hl => ?_)
                              refine lv_goto (tgt := 142) hF.1 hF.2.1 dX12_tried_185 (by decide) ?_
                              exact ih142 (k + 1) (_) (_) (by omega) hM.cpy hM (by omega) _ _ hG ls (lv_sub hl [2, 3, 4, 5, 1, 0] (by first | (rw [triU_t n_164]; rfl) | (rw [triU_f n_164]; rfl)))
                      exact lp142 _ (0) (aS) (_) (by omega) hS hS.cpy (Nat.lt_succ_self _) _ _ hG ls (lv_sub hl [2, 3, 4, 5, 1, 0] rfl)
                    · --
                      exact absurd c_64 c_126
                  · --
                    have n_75 : ¬ (z.2.1 ≤ 2 * q) := fun zz9 => c_75 ((nI_leI (a := z.2.1) (b := 2 * q) (by omega) (by omega)).mpr zz9)
                    refine lv_aload_n hF.1 hF.2.1 dX12_tried_78 rfl (lv_at hl 0 rfl) ?_
                    refine lv_aload_n hF.1 hF.2.1 dX12_tried_79 rfl (lv_at hl 0 rfl) ?_
                    refine lv_iload_n hF.1 hF.2.1 dX12_tried_80 rfl (lv_at hl 1 rfl) ?_
                    refine lv_iload hF.1 hF.2.1 dX12_tried_81 (lv_at hl 5 rfl) ?_
                    refine k_ci (r_V (As := [.int (nI j), .int (nI (2 * q))]) hF hK hA hG (c_X12_told hj (show 2 * q < 100 by omega)) (cwV 2 hF.2.2.2.2 gX12_tried_X12_told rfl rfl rfl (by decide +kernel) ⟨Nat.le_of_ble_eq_true rfl, Nat.le_of_ble_eq_true rfl⟩) 0 rfl rfl rfl rfl hl.1 rfl (lv_room (Nat.le_of_ble_eq_true rfl)) dX12_tried_83 ⟨Nat.le_of_ble_eq_true rfl, Nat.le_of_ble_eq_true rfl⟩) hG (fun r_83 u_83 H locs hp_83 hG => ?_)
                    rw [f6 (2 * q) (by omega)] at hp_83
                    subst hp_83
                    refine k_ci (r_V (As := [.int (z.2.2 (2 * q))]) hF hK hA hG (c_X12_isDrawer hS) (cwV 1 hF.2.2.2.2 gX12_tried_X12_isDrawer rfl rfl rfl (by decide +kernel) ⟨Nat.le_of_ble_eq_true rfl, Nat.le_of_ble_eq_true rfl⟩) 0 rfl rfl rfl rfl hl.1 rfl (lv_room (Nat.le_of_ble_eq_true rfl)) dX12_tried_86 ⟨Nat.le_of_ble_eq_true rfl, Nat.le_of_ble_eq_true rfl⟩) hG (fun r_86 u_86 H locs hp_86 hG => ?_)
                    subst hp_86
                    refine lv_if_eq (tgt := 114) hF.1 hF.2.1 dX12_tried_89 (by decide) (fun c_89 => ?_) (fun c_89 => ?_)
                    · --
                      have n_89 : (inB n (z.2.2 (2 * q))) = false := b2i_z.mp c_89
                      have htq : trB n z.2.2 q = false := by unfold trB; rw [n_89]; rfl
                      refine lv_bipush (v := (-13)) hF.1 hF.2.1 dX12_tried_114 (by decide +kernel) ?_
                      refine lv_istore (lv' := [(4, .int (-13)), (0, .ref (ob 0)), (1, .int (nI j)), (2, .int y), (3, .int f), (5, .int (nI (2 * q)))]) hF.1 hF.2.1 dX12_tried_116 hl (by decide) rfl (fun ls hl => ?_)
                      refine lv_iinc (v := (nI (2 * q + 2))) (lv' := [(5, .int (nI (2 * q + 2))), (4, .int (-13)), (0, .ref (ob 0)), (1, .int (nI j)), (2, .int y), (3, .int f)]) hF.1 hF.2.1 dX12_tried_118 hl (k := 5) rfl (nI_inc _ _) (by decide) rfl (fun ls hl => ?_)
                      refine lv_goto (tgt := 62) hF.1 hF.2.1 dX12_tried_121 (by decide) ?_
                      exact ih62 (q + 1) (_) (by omega) (by first | exact Or.inl ⟨rfl, lt_s hall.2 htq⟩ | exact Or.inr ⟨rfl, q, by omega, htq⟩) (by omega) _ _ hG ls (lv_sub hl [2, 3, 4, 5, 1, 0] rfl)
                    · --
                      have n_89 : (inB n (z.2.2 (2 * q))) = true := b2i_nz.mp c_89
                      refine lv_aload_n hF.1 hF.2.1 dX12_tried_92 rfl (lv_at hl 0 rfl) ?_
                      refine lv_iload_n hF.1 hF.2.1 dX12_tried_93 rfl (lv_at hl 1 rfl) ?_
                      refine lv_iload hF.1 hF.2.1 dX12_tried_94 (lv_at hl 5 rfl) ?_
                      refine lv_iconst (v := (nI 1)) hF.1 hF.2.1 dX12_tried_96 (by decide +kernel) ?_
                      refine lv_iadd hF.1 hF.2.1 dX12_tried_97 ?_
                      rw [nI_add]
                      refine k_ci (r_V (As := [.int (nI j), .int (nI (2 * q + 1))]) hF hK hA hG (c_X12_told hj (show 2 * q + 1 < 100 by omega)) (cwV 2 hF.2.2.2.2 gX12_tried_X12_told rfl rfl rfl (by decide +kernel) ⟨Nat.le_of_ble_eq_true rfl, Nat.le_of_ble_eq_true rfl⟩) 0 rfl rfl rfl rfl hl.1 rfl (lv_room (Nat.le_of_ble_eq_true rfl)) dX12_tried_98 ⟨Nat.le_of_ble_eq_true rfl, Nat.le_of_ble_eq_true rfl⟩) hG (fun r_98 u_98 H locs hp_98 hG => ?_)
                      rw [f6 (2 * q + 1) (by omega)] at hp_98
                      subst hp_98
                      refine lv_i2l hF.1 hF.2.1 dX12_tried_101 rfl ?_
                      refine lv_lconst (v := 0) hF.1 hF.2.1 dX12_tried_102 (by decide +kernel) ?_
                      refine lv_lconst (v := 1) hF.1 hF.2.1 dX12_tried_103 (by decide +kernel) ?_
                      refine k_ci (r_S (As := [.long ((z.2.2 (2 * q + 1)).toInt64), .long (0), .long (1)]) hF hK hA hG (c_X12_isIn) (cwS 3 hF.2.2.2.2 gX12_tried_X12_isIn rfl rfl rfl (by decide +kernel) ⟨Nat.le_of_ble_eq_true rfl, Nat.le_of_ble_eq_true rfl⟩) rfl hl.1 rfl (lv_room (Nat.le_of_ble_eq_true rfl)) dX12_tried_104 ⟨Nat.le_of_ble_eq_true rfl, Nat.le_of_ble_eq_true rfl⟩) hG (fun r_104 u_104 H locs hp_104 hG => ?_)
                      rw [inL (n := 2) (by omega) (by decide +kernel)] at hp_104
                      subst hp_104
                      refine lv_if_eq (tgt := 114) hF.1 hF.2.1 dX12_tried_107 (by decide) (fun c_107 => ?_) (fun c_107 => ?_)
                      · --
                        have n_107 := b2i_z.mp c_107
                        have htq : trB n z.2.2 q = false := by unfold trB; rw [n_107, Bool.and_false]
                        refine lv_bipush (v := (-13)) hF.1 hF.2.1 dX12_tried_114 (by decide +kernel) ?_
                        refine lv_istore (lv' := [(4, .int (-13)), (0, .ref (ob 0)), (1, .int (nI j)), (2, .int y), (3, .int f), (5, .int (nI (2 * q)))]) hF.1 hF.2.1 dX12_tried_116 hl (by decide) rfl (fun ls hl => ?_)
                        refine lv_iinc (v := (nI (2 * q + 2))) (lv' := [(5, .int (nI (2 * q + 2))), (4, .int (-13)), (0, .ref (ob 0)), (1, .int (nI j)), (2, .int y), (3, .int f)]) hF.1 hF.2.1 dX12_tried_118 hl (k := 5) rfl (nI_inc _ _) (by decide) rfl (fun ls hl => ?_)
                        refine lv_goto (tgt := 62) hF.1 hF.2.1 dX12_tried_121 (by decide) ?_
                        exact ih62 (q + 1) (_) (by omega) (by first | exact Or.inl ⟨rfl, lt_s hall.2 htq⟩ | exact Or.inr ⟨rfl, q, by omega, htq⟩) (by omega) _ _ hG ls (lv_sub hl [2, 3, 4, 5, 1, 0] rfl)
                      · --
                        have n_107 := b2i_nz.mp c_107
                        have htq : trB n z.2.2 q = true := by unfold trB; rw [n_89, n_107]; rfl
                        refine lv_iconst (v := (nI 0)) hF.1 hF.2.1 dX12_tried_110 (by decide +kernel) ?_
                        refine lv_goto (tgt := 116) hF.1 hF.2.1 dX12_tried_111 (by decide) ?_
                        refine lv_istore (lv' := [(4, .int (nI 0)), (0, .ref (ob 0)), (1, .int (nI j)), (2, .int y), (3, .int f), (5, .int (nI (2 * q)))]) hF.1 hF.2.1 dX12_tried_116 hl (by decide) rfl (fun ls hl => ?_)
                        refine lv_iinc (v := (nI (2 * q + 2))) (lv' := [(5, .int (nI (2 * q + 2))), (4, .int (nI 0)), (0, .ref (ob 0)), (1, .int (nI j)), (2, .int y), (3, .int f)]) hF.1 hF.2.1 dX12_tried_118 hl (k := 5) rfl (nI_inc _ _) (by decide) rfl (fun ls hl => ?_)
                        refine lv_goto (tgt := 62) hF.1 hF.2.1 dX12_tried_121 (by decide) ?_
                        exact ih62 (q + 1) (_) (by omega) (by first | exact Or.inl ⟨rfl, lt_s hall.2 htq⟩ | exact Or.inr ⟨rfl, q, by omega, htq⟩) (by omega) _ _ hG ls (lv_sub hl [2, 3, 4, 5, 1, 0] rfl)
            exact lp62 _ (0) (nI 0) (by omega) (Or.inl ⟨rfl, fun q h => absurd h (Nat.not_lt_zero q)⟩) (Nat.lt_succ_self _) _ _ hG ls (lv_sub hl [2, 3, 4, 5, 1, 0] rfl)
          · --
            have hev : ¬ z.2.1 % 2 = 0 := fun e => c_52 (by rw [e]; rfl)
            refine lv_bipush (v := (-13)) hF.1 hF.2.1 dX12_tried_55 (by decide +kernel) ?_
            refine lv_istore (lv' := [(4, .int (-13)), (0, .ref (ob 0)), (1, .int (nI j)), (2, .int y), (3, .int f)]) hF.1 hF.2.1 dX12_tried_57 hl (by decide) rfl (fun ls hl => ?_)
            refine lv_iconst (v := (nI 0)) hF.1 hF.2.1 dX12_tried_59 (by decide +kernel) ?_
            refine lv_istore (lv' := [(5, .int (nI 0)), (4, .int (-13)), (0, .ref (ob 0)), (1, .int (nI j)), (2, .int y), (3, .int f)]) hF.1 hF.2.1 dX12_tried_60 hl (by decide) rfl (fun ls hl => ?_)
            refine lv_iload hF.1 hF.2.1 dX12_tried_62 (lv_at hl 1 rfl) ?_
            refine lv_if_ne (tgt := 124) hF.1 hF.2.1 dX12_tried_64 (by decide) (fun c_64 => ?_) (fun c_64 => absurd c_64 m13_0)
            refine lv_iload hF.1 hF.2.1 dX12_tried_124 (lv_at hl 1 rfl) ?_
            refine lv_if_eq (tgt := 132) hF.1 hF.2.1 dX12_tried_126 (by decide) (fun c_126 => ?_) (fun c_126 => ?_)
            · --
              exact absurd c_126 c_64
            · --
              refine lv_iload hF.1 hF.2.1 dX12_tried_129 (lv_at hl 1 rfl) ?_
              exact hret _ (aS, aM) _ ls _ _ _ _ (by first | (rw [sfA_f x n_4]; exact ⟨spTried_s.symm, hS⟩) | exact ⟨(spTried_f (Or.inl n_12)).symm, hS⟩ | exact ⟨(spTried_f (Or.inr n_24)).symm, hS⟩ | exact ⟨(spTried_n n_12 n_24 c28).symm, hS⟩ | (rw [sfA_j x hj, hx, spTried_c n_12 n_24 hz0 (trOk_o hev)]; exact ⟨rfl, hS⟩) | (refine ⟨?_, hS⟩; rcases hno with g | ⟨g1, b, g2, g3⟩; exact absurd g.1 c_64; rw [sfA_j x hj, hx, spTried_c n_12 n_24 hz0 (trOk_f g2 hev g3)]; exact g1)) (by first | rfl | exact nar_b2i _) hG (Nat.le_of_ble_eq_true rfl) (Nat.le_of_ble_eq_true rfl) dX12_tried_131
        · --
          refine lv_iload hF.1 hF.2.1 dX12_tried_39 (lv_at hl 0 rfl) ?_
          refine lv_if_ne (tgt := 59) hF.1 hF.2.1 dX12_tried_41 (by decide) (fun c_41 => ?_) (fun c_41 => absurd c_41 c28)
          refine lv_iconst (v := (nI 0)) hF.1 hF.2.1 dX12_tried_59 (by decide +kernel) ?_
          refine lv_istore (lv' := [(5, .int (nI 0)), (4, .int (wr0 (sfA x d))), (0, .ref (ob 0)), (1, .int d), (2, .int y), (3, .int f)]) hF.1 hF.2.1 dX12_tried_60 hl (by decide) rfl (fun ls hl => ?_)
          refine lv_iload hF.1 hF.2.1 dX12_tried_62 (lv_at hl 1 rfl) ?_
          refine lv_if_ne (tgt := 124) hF.1 hF.2.1 dX12_tried_64 (by decide) (fun c_64 => ?_) (fun c_64 => absurd c_64 c28)
          refine lv_iload hF.1 hF.2.1 dX12_tried_124 (lv_at hl 1 rfl) ?_
          refine lv_if_eq (tgt := 132) hF.1 hF.2.1 dX12_tried_126 (by decide) (fun c_126 => ?_) (fun c_126 => ?_)
          · --
            exact absurd c_126 c_64
          · --
            refine lv_iload hF.1 hF.2.1 dX12_tried_129 (lv_at hl 1 rfl) ?_
            exact hret _ (aS, aM) _ ls _ _ _ _ (by first | (rw [sfA_f x n_4]; exact ⟨spTried_s.symm, hS⟩) | exact ⟨(spTried_f (Or.inl n_12)).symm, hS⟩ | exact ⟨(spTried_f (Or.inr n_24)).symm, hS⟩ | exact ⟨(spTried_n n_12 n_24 c28).symm, hS⟩ | (rw [sfA_j x hj, hx, spTried_c n_12 n_24 hz0 (trOk_o hev)]; exact ⟨rfl, hS⟩) | (refine ⟨?_, hS⟩; rcases hno with g | ⟨g1, b, g2, g3⟩; exact absurd g.1 c_64; rw [sfA_j x hj, hx, spTried_c n_12 n_24 hz0 (trOk_f g2 hev g3)]; exact g1)) (by first | rfl | exact nar_b2i _) hG (Nat.le_of_ble_eq_true rfl) (Nat.le_of_ble_eq_true rfl) dX12_tried_131
      · --
        have n_24 := b2i_z.mp c_24
        refine lv_iconst (v := (-1)) hF.1 hF.2.1 dX12_tried_27 (by decide +kernel) ?_
        refine lv_goto (tgt := 37) hF.1 hF.2.1 dX12_tried_28 (by decide) ?_
        refine lv_istore (lv' := [(4, .int (-1)), (0, .ref (ob 0)), (1, .int d), (2, .int y), (3, .int f)]) hF.1 hF.2.1 dX12_tried_37 hl (by decide) rfl (fun ls hl => ?_)
        refine lv_iload hF.1 hF.2.1 dX12_tried_39 (lv_at hl 0 rfl) ?_
        refine lv_if_ne (tgt := 59) hF.1 hF.2.1 dX12_tried_41 (by decide) (fun c_41 => ?_) (fun c_41 => absurd c_41 m1_0)
        refine lv_iconst (v := (nI 0)) hF.1 hF.2.1 dX12_tried_59 (by decide +kernel) ?_
        refine lv_istore (lv' := [(5, .int (nI 0)), (4, .int (-1)), (0, .ref (ob 0)), (1, .int d), (2, .int y), (3, .int f)]) hF.1 hF.2.1 dX12_tried_60 hl (by decide) rfl (fun ls hl => ?_)
        refine lv_iload hF.1 hF.2.1 dX12_tried_62 (lv_at hl 1 rfl) ?_
        refine lv_if_ne (tgt := 124) hF.1 hF.2.1 dX12_tried_64 (by decide) (fun c_64 => ?_) (fun c_64 => absurd c_64 m1_0)
        refine lv_iload hF.1 hF.2.1 dX12_tried_124 (lv_at hl 1 rfl) ?_
        refine lv_if_eq (tgt := 132) hF.1 hF.2.1 dX12_tried_126 (by decide) (fun c_126 => ?_) (fun c_126 => ?_)
        · --
          exact absurd c_126 c_64
        · --
          refine lv_iload hF.1 hF.2.1 dX12_tried_129 (lv_at hl 1 rfl) ?_
          exact hret _ (aS, aM) _ ls _ _ _ _ (by first | (rw [sfA_f x n_4]; exact ⟨spTried_s.symm, hS⟩) | exact ⟨(spTried_f (Or.inl n_12)).symm, hS⟩ | exact ⟨(spTried_f (Or.inr n_24)).symm, hS⟩ | exact ⟨(spTried_n n_12 n_24 c28).symm, hS⟩ | (rw [sfA_j x hj, hx, spTried_c n_12 n_24 hz0 (trOk_o hev)]; exact ⟨rfl, hS⟩) | (refine ⟨?_, hS⟩; rcases hno with g | ⟨g1, b, g2, g3⟩; exact absurd g.1 c_64; rw [sfA_j x hj, hx, spTried_c n_12 n_24 hz0 (trOk_f g2 hev g3)]; exact g1)) (by first | rfl | exact nar_b2i _) hG (Nat.le_of_ble_eq_true rfl) (Nat.le_of_ble_eq_true rfl) dX12_tried_131
