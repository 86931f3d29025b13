/-! ===== the queue finds the least number of steps ===== -/
theorem mayU_bit (kd fg : Nat → Nat) (st : Nat) : ∀ n i, (mayU kd fg st n).testBit i = (decide (i < n) && mv (kd i) (fg i) i st) := by
  intro n
  induction n with
  | zero => intro i; simp [mayU]
  | succ n ih =>
    intro i
    by_cases h : mv (kd n) (fg n) n st = true
    · rw [mayU_t2 h, Nat.testBit_or, ih i, Nat.testBit_two_pow]
      by_cases e : n = i
      · subst e
        simp [h]
      · have e1 : decide (i < n + 1) = decide (i < n) := decide_eq_decide.mpr (by omega)
        rw [e1]
        simp [e]
    · have h : mv (kd n) (fg n) n st = false := by simpa using h
      rw [mayU_f2 h, Nat.or_zero, ih i]
      by_cases e : n = i
      · subst e
        simp [h]
      · have e1 : decide (i < n + 1) = decide (i < n) := decide_eq_decide.mpr (by omega)
        rw [e1]
/-- the stops' graph, a stop being a number -/
def edQ (ma : Nat → Nat) (told : Nat) (c i : Nat) : Option Nat := if (ma (c / 64)).testBit i = true then some (64 * (c / 64 ^^^ 2 ^ i) + (c % 64 ||| ((c / 64 ^^^ 2 ^ i) &&& told))) else none
def cd (q : Stop) : Nat := 64 * q.1 + q.2.1
theorem cd_1 {q : Stop} (h : q.2.1 < 64) : cd q / 64 = q.1 := by unfold cd; omega
theorem cd_2 {q : Stop} (h : q.2.1 < 64) : cd q % 64 = q.2.1 := by unfold cd; omega
/-- what a stop keeps to: the told that are open now have been, and nothing but told -/
def okS (told c : Nat) : Bool := (c / 64 &&& told &&& (c % 64)) == (c / 64 &&& told) && (c % 64 &&& told) == c % 64
def cntS (P : Nat → Bool) : Nat → Nat
  | 0 => 0
  | K + 1 => cntS P K + (P K).toNat
theorem nodup_cnt (P : Nat → Bool) : ∀ (K : Nat) (l : List Nat), l.Nodup → (∀ x ∈ l, x < K ∧ P x = true) → l.length ≤ cntS P K := by
  intro K
  induction K with
  | zero =>
    intro l _ h
    cases l with
    | nil => exact Nat.le_refl 0
    | cons x l => exact absurd (h x List.mem_cons_self).1 (Nat.not_lt_zero _)
  | succ K ih =>
    intro l hn h
    by_cases hk : K ∈ l
    · have h1 := ih (l.erase K) (hn.erase K) (fun x hx => by
        have hx2 := (hn.mem_erase_iff).mp hx
        have h3 := h x hx2.2
        exact ⟨by have := hx2.1; omega, h3.2⟩)
      have h2 := List.length_erase_of_mem hk
      have h3 := (h K hk).2
      have h4 : 0 < l.length := List.length_pos_of_mem hk
      show l.length ≤ cntS P K + (P K).toNat
      rw [h3]
      show l.length ≤ cntS P K + 1
      omega
    · have h1 := ih l hn (fun x hx => by
        have h3 := h x hx
        have : x ≠ K := fun e => hk (e ▸ hx)
        exact ⟨by omega, h3.2⟩)
      show l.length ≤ cntS P K + (P K).toNat
      omega
section BFS
variable {ma : Nat → Nat} {told a : Nat}
/-- the queue, while the stop s goes on and its first i drawers have been looked at -/
def BI (ma : Nat → Nat) (told a : Nat) (Q : List Stop) (s : Nat) : Prop :=
  (∀ q ∈ Q, q.1 < 64 ∧ q.2.1 < 64 ∧ okS told (cd q) = true ∧ Rch (ER 6 (edQ ma told)) q.2.2 a (cd q) ∧ ∀ m, m < q.2.2 → ¬ Rch (ER 6 (edQ ma told)) m a (cd q)) ∧
  (Q.map cd).Nodup ∧
  (∀ (i j : Nat) (p q : Stop), i ≤ j → Q[i]? = some p → Q[j]? = some q → p.2.2 ≤ q.2.2) ∧
  (∀ (j : Nat) (p q : Stop), Q[s]? = some p → Q[j]? = some q → q.2.2 ≤ p.2.2 + 1) ∧
  (∀ (j : Nat) (q : Stop), j < s → Q[j]? = some q → ∀ i z, i < 6 → edQ ma told (cd q) i = some z → z ∈ Q.map cd) ∧
  (∀ (p : Stop), Q[s]? = some p → ∀ m z, m ≤ p.2.2 → Rch (ER 6 (edQ ma told)) m a z → z ∈ Q.map cd) ∧
  (∀ (j : Nat) (q : Stop), Q[j]? = some q → q.2.2 ≤ j) ∧ a ∈ Q.map cd
/-- while the stop s, which is p, goes on: those below its drawer i are met -/
def BJ (ma : Nat → Nat) (told a : Nat) (Q : List Stop) (s : Nat) (p : Stop) (i : Nat) : Prop :=
  BI ma told a Q s ∧ Q[s]? = some p ∧ ∀ i' z, i' < i → edQ ma told (cd p) i' = some z → z ∈ Q.map cd
theorem metQ_iff {Q : List Stop} {st had : Nat} (hQ : ∀ q ∈ Q, q.1 < 64 ∧ q.2.1 < 64) (hst : st < 64) (hh : had < 64) : metQ Q st had = true ↔ 64 * st + had ∈ Q.map cd := by
  unfold metQ
  rw [List.any_eq_true, List.mem_map]
  constructor
  · rintro ⟨q, hq, h⟩
    refine ⟨q, hq, ?_⟩
    simp only [Bool.and_eq_true, beq_iff_eq] at h
    unfold cd
    rw [h.1, h.2]
  · rintro ⟨q, hq, h⟩
    obtain ⟨h1, h2⟩ := hQ q hq
    refine ⟨q, hq, ?_⟩
    unfold cd at h
    have e1 : q.1 = st := by omega
    have e2 : q.2.1 = had := by omega
    simp [e1, e2]
theorem okS_len {Q : List Stop} (hn : (Q.map cd).Nodup) (h : ∀ c ∈ Q.map cd, c < 4096 ∧ okS told c = true) (ht : told < 64) : Q.length ≤ 729 := by
  have h1 := nodup_cnt (okS told) 4096 (Q.map cd) hn h
  have h2 : cntS (okS told) 4096 ≤ 729 := by
    have key : ∀ t : Fin 64, cntS (okS t.val) 4096 ≤ 729 := by decide +kernel
    exact key ⟨told, ht⟩
  rw [List.length_map] at h1
  omega
theorem okS_go {st had i : Nat} (hst : st < 64) (hh : had < 64) (hi : i < 6) (ht : told < 64) (h : okS told (64 * st + had) = true) : okS told (64 * (st ^^^ 2 ^ i) + (had ||| ((st ^^^ 2 ^ i) &&& told))) = true := by
  have hs2 : st ^^^ 2 ^ i < 64 := tog_lt hst hi
  have hh2 : had ||| ((st ^^^ 2 ^ i) &&& told) < 64 := or64 hh hs2
  unfold okS at h ⊢
  rw [show (64 * st + had) / 64 = st by omega, show (64 * st + had) % 64 = had by omega] at h
  rw [show (64 * (st ^^^ 2 ^ i) + (had ||| ((st ^^^ 2 ^ i) &&& told))) / 64 = st ^^^ 2 ^ i by omega, show (64 * (st ^^^ 2 ^ i) + (had ||| ((st ^^^ 2 ^ i) &&& told))) % 64 = had ||| ((st ^^^ 2 ^ i) &&& told) by omega]
  simp only [Bool.and_eq_true, beq_iff_eq] at h ⊢
  obtain ⟨-, h2⟩ := h
  refine ⟨?_, ?_⟩
  · apply Nat.eq_of_testBit_eq
    intro k
    simp only [Nat.testBit_and, Nat.testBit_or]
    cases (st ^^^ 2 ^ i).testBit k <;> cases told.testBit k <;> cases had.testBit k <;> rfl
  · apply Nat.eq_of_testBit_eq
    intro k
    have h3 := congrArg (fun z => z.testBit k) h2
    simp only [Nat.testBit_and] at h3
    simp only [Nat.testBit_and, Nat.testBit_or]
    revert h3
    cases (st ^^^ 2 ^ i).testBit k <;> cases told.testBit k <;> cases had.testBit k <;> simp
theorem BJ.step {Q : List Stop} {s i : Nat} {p : Stop} (h : BJ ma told a Q s p i) (ht : told < 64) (hi : i < 6) (hm : (ma p.1).testBit i = true) : BJ ma told a (meetQ Q (p.1 ^^^ 2 ^ i) (p.2.1 ||| ((p.1 ^^^ 2 ^ i) &&& told)) (p.2.2 + 1)) s p (i + 1) := by
  obtain ⟨⟨h1, h2, h3, h4, h5, h6, h7, h8⟩, hp, hx⟩ := h
  obtain ⟨p1, p2, p3, p4, p5⟩ := h1 p (List.mem_of_getElem? hp)
  have hs2 : p.1 ^^^ 2 ^ i < 64 := tog_lt p1 hi
  have hh2 : p.2.1 ||| ((p.1 ^^^ 2 ^ i) &&& told) < 64 := or64 p2 hs2
  have hz : edQ ma told (cd p) i = some (64 * (p.1 ^^^ 2 ^ i) + (p.2.1 ||| ((p.1 ^^^ 2 ^ i) &&& told))) := by
    unfold edQ
    rw [cd_1 p2, cd_2 p2, if_pos hm]
  have hok := okS_go p1 p2 hi ht (show okS told (64 * p.1 + p.2.1) = true from p3)
  have hlt : s < Q.length := (List.getElem?_eq_some_iff.mp hp).1
  have hmi := metQ_iff (Q := Q) (fun q hq => ⟨(h1 q hq).1, (h1 q hq).2.1⟩) hs2 hh2
  generalize hzz : 64 * (p.1 ^^^ 2 ^ i) + (p.2.1 ||| ((p.1 ^^^ 2 ^ i) &&& told)) = z at hz hok hmi
  by_cases hmet : metQ Q (p.1 ^^^ 2 ^ i) (p.2.1 ||| ((p.1 ^^^ 2 ^ i) &&& told)) = true
  · unfold meetQ
    rw [if_pos (Or.inl hmet)]
    refine ⟨⟨h1, h2, h3, h4, h5, h6, h7, h8⟩, hp, fun i' z' hi' hz' => ?_⟩
    by_cases e : i' = i
    · subst e
      rw [hz] at hz'
      cases hz'
      exact hmi.mp hmet
    · exact hx i' z' (by omega) hz'
  · have hnz : z ∉ Q.map cd := fun q => hmet (hmi.mpr q)
    have hnd : ((Q ++ [(p.1 ^^^ 2 ^ i, p.2.1 ||| ((p.1 ^^^ 2 ^ i) &&& told), p.2.2 + 1)]).map cd).Nodup := by
      rw [List.map_append]
      refine List.nodup_append.mpr ⟨h2, by simp, fun x hx y hy e => ?_⟩
      have hy : y = z := by
        simp only [List.map_cons, List.map_nil, List.mem_singleton] at hy
        rw [hy, ← hzz]
        rfl
      exact hnz (by rw [← hy, ← e]; exact hx)
    have hall : ∀ q ∈ Q ++ [(p.1 ^^^ 2 ^ i, p.2.1 ||| ((p.1 ^^^ 2 ^ i) &&& told), p.2.2 + 1)], q.1 < 64 ∧ q.2.1 < 64 ∧ okS told (cd q) = true ∧ Rch (ER 6 (edQ ma told)) q.2.2 a (cd q) ∧ ∀ m, m < q.2.2 → ¬ Rch (ER 6 (edQ ma told)) m a (cd q) := by
      intro q hq
      rcases List.mem_append.mp hq with hq | hq
      · exact h1 q hq
      · rw [List.mem_singleton] at hq
        subst hq
        have hc : cd (p.1 ^^^ 2 ^ i, p.2.1 ||| ((p.1 ^^^ 2 ^ i) &&& told), p.2.2 + 1) = z := hzz
        refine ⟨hs2, hh2, by rw [hc]; exact hok, by rw [hc]; exact ⟨cd p, p4, i, hi, hz⟩, fun m hm hr => ?_⟩
        rw [hc] at hr
        exact hnz (h6 p hp m z (by have : m < p.2.2 + 1 := hm; omega) hr)
    have hlen : (Q ++ [(p.1 ^^^ 2 ^ i, p.2.1 ||| ((p.1 ^^^ 2 ^ i) &&& told), p.2.2 + 1)]).length ≤ 729 := okS_len hnd (fun c hc => by
      obtain ⟨q, hq, rfl⟩ := List.mem_map.mp hc
      obtain ⟨a1, a2, a3, -⟩ := hall q hq
      exact ⟨by unfold cd; omega, a3⟩) ht
    rw [List.length_append, List.length_singleton] at hlen
    unfold meetQ
    rw [if_neg (fun q => q.elim hmet (fun q => by omega))]
    have hget : ∀ j q, (Q ++ [(p.1 ^^^ 2 ^ i, p.2.1 ||| ((p.1 ^^^ 2 ^ i) &&& told), p.2.2 + 1)])[j]? = some q → Q[j]? = some q ∨ (j = Q.length ∧ q = (p.1 ^^^ 2 ^ i, p.2.1 ||| ((p.1 ^^^ 2 ^ i) &&& told), p.2.2 + 1)) := by
      intro j q hq
      by_cases hj : j < Q.length
      · rw [List.getElem?_append_left hj] at hq
        exact Or.inl hq
      · have hj2 := (List.getElem?_eq_some_iff.mp hq).1
        rw [List.length_append, List.length_singleton] at hj2
        have hj3 : j = Q.length := by omega
        subst hj3
        rw [List.getElem?_append_right (Nat.le_refl _), Nat.sub_self] at hq
        exact Or.inr ⟨rfl, (Option.some.inj hq).symm⟩
    have hp' : (Q ++ [(p.1 ^^^ 2 ^ i, p.2.1 ||| ((p.1 ^^^ 2 ^ i) &&& told), p.2.2 + 1)])[s]? = some p := by
      rw [List.getElem?_append_left hlt]
      exact hp
    have hsub : ∀ c, c ∈ Q.map cd → c ∈ (Q ++ [(p.1 ^^^ 2 ^ i, p.2.1 ||| ((p.1 ^^^ 2 ^ i) &&& told), p.2.2 + 1)]).map cd := by
      intro c hc
      rw [List.map_append]
      exact List.mem_append_left _ hc
    refine ⟨⟨hall, hnd, fun j1 j2 q1 q2 hj hq1 hq2 => ?_, fun j p' q hp2 hq => ?_, fun j q hj hq i' z' hi' hz' => ?_, fun p' hp2 m z' hm hr => ?_, fun j q hq => ?_, hsub a h8⟩, hp', fun i' z' hi' hz' => ?_⟩
    · rcases hget j1 q1 hq1 with g1 | ⟨g1, g1'⟩ <;> rcases hget j2 q2 hq2 with g2 | ⟨g2, g2'⟩
      · exact h3 j1 j2 q1 q2 hj g1 g2
      · rw [g2']
        exact h4 j1 p q1 hp g1
      · have := (List.getElem?_eq_some_iff.mp g2).1
        omega
      · rw [g1', g2']
        exact Nat.le_refl _
    · rw [hp'] at hp2
      cases hp2
      rcases hget j q hq with g | ⟨g, g'⟩
      · exact h4 j p q hp g
      · rw [g']
        exact Nat.le_refl _
    · rcases hget j q hq with g | ⟨g, g'⟩
      · exact hsub _ (h5 j q hj g i' z' hi' hz')
      · omega
    · rw [hp'] at hp2
      cases hp2
      exact hsub _ (h6 p hp m z' hm hr)
    · rcases hget j q hq with g | ⟨g, g'⟩
      · exact h7 j q g
      · rw [g', g]
        have := h7 s p hp
        show p.2.2 + 1 ≤ Q.length
        omega
    · by_cases e : i' = i
      · subst e
        rw [hz] at hz'
        cases hz'
        rw [List.map_append]
        exact List.mem_append_right _ (by rw [← hzz]; exact List.mem_singleton.mpr rfl)
      · exact hsub _ (hx i' z' (by omega) hz')
theorem BJ.skip {Q : List Stop} {s i : Nat} {p : Stop} (h : BJ ma told a Q s p i) (hm : ¬ (ma p.1).testBit i = true) : BJ ma told a Q s p (i + 1) := by
  obtain ⟨h0, hp, hx⟩ := h
  refine ⟨h0, hp, fun i' z' hi' hz' => ?_⟩
  by_cases e : i' = i
  · subst e
    have p2 := (h0.1 p (List.mem_of_getElem? hp)).2.1
    unfold edQ at hz'
    rw [cd_1 p2, if_neg hm] at hz'
    cases hz'
  · exact hx i' z' (by omega) hz'
theorem BJ.go {Q : List Stop} {s : Nat} {p : Stop} (h : BI ma told a Q s) (hp : Q[s]? = some p) (ht : told < 64) : ∀ i, i ≤ 6 → BJ ma told a (goU (ma p.1) p.1 p.2.1 p.2.2 told i Q) s p i := by
  intro i
  induction i with
  | zero => intro _; exact ⟨h, hp, fun i' z' hi' => absurd hi' (Nat.not_lt_zero _)⟩
  | succ i ih =>
    intro hi
    by_cases hm : (ma p.1).testBit i = true
    · rw [goU_t (by rw [hm]; rfl)]
      exact (ih (by omega)).step ht (by omega) hm
    · rw [goU_f (fun q => hm (by cases e : (ma p.1).testBit i with | true => rfl | false => rw [e] at q; cases q))]
      exact (ih (by omega)).skip hm
theorem BI.next {Q : List Stop} {s : Nat} (h : BI ma told a Q s) (hs : s < Q.length) (ht : told < 64) : BI ma told a (goQ ma told Q s) (s + 1) ∧ ∃ e, goQ ma told Q s = Q ++ e := by
  obtain ⟨p, hp⟩ := get_ex hs
  rw [goQ_at hp]
  have hJ := BJ.go h hp ht 6 (Nat.le_refl 6)
  have hpre : ∀ i, ∃ e, goU (ma p.1) p.1 p.2.1 p.2.2 told i Q = Q ++ e := by
    intro i
    induction i with
    | zero => exact ⟨[], (List.append_nil Q).symm⟩
    | succ i ih =>
      obtain ⟨e, he⟩ := ih
      show ∃ e, (if (ma p.1).testBit i = true then meetQ (goU (ma p.1) p.1 p.2.1 p.2.2 told i Q) (p.1 ^^^ 2 ^ i) (p.2.1 ||| ((p.1 ^^^ 2 ^ i) &&& told)) (p.2.2 + 1) else goU (ma p.1) p.1 p.2.1 p.2.2 told i Q) = Q ++ e
      split
      · rw [he]
        unfold meetQ
        split
        · exact ⟨e, rfl⟩
        · exact ⟨e ++ [_], List.append_assoc ..⟩
      · exact ⟨e, he⟩
  refine ⟨?_, hpre 6⟩
  generalize goU (ma p.1) p.1 p.2.1 p.2.2 told 6 Q = Z at hJ
  obtain ⟨⟨h1, h2, h3, h4, h5, h6, h7, h8⟩, hpZ, hx⟩ := hJ
  refine ⟨h1, h2, h3, fun j p' q hp' hq => ?_, fun j q hj hq i z hi hz => ?_, fun p' hp' m z hm hr => ?_, h7, h8⟩
  · have a1 := h4 j p q hpZ hq
    have a2 := h3 s (s + 1) p p' (by omega) hpZ hp'
    omega
  · by_cases e : j = s
    · subst e
      rw [hpZ] at hq
      cases hq
      exact hx i z hi hz
    · exact h5 j q (by omega) hq i z hi hz
  · by_cases hm2 : m ≤ p.2.2
    · exact h6 p hpZ m z hm2 hr
    · have a1 := h4 (s + 1) p p' hpZ hp'
      obtain rfl : m = p.2.2 + 1 := by omega
      obtain ⟨c, hc, i, hi, he⟩ := hr
      have hcQ := h6 p hpZ p.2.2 c (Nat.le_refl _) hc
      obtain ⟨q, hq, rfl⟩ := List.mem_map.mp hcQ
      obtain ⟨j, hj⟩ := List.getElem?_of_mem hq
      have hle : q.2.2 ≤ p.2.2 := Nat.le_of_not_lt (fun g => (h1 q hq).2.2.2.2 p.2.2 g hc)
      by_cases hjs : j ≤ s
      · by_cases e : j = s
        · subst e
          rw [hpZ] at hj
          cases hj
          exact hx i z hi he
        · exact h5 j q (by omega) hj i z hi he
      · have := h3 (s + 1) j p' q (by omega) hp' hj
        omega
theorem BI.all {Q : List Stop} {s : Nat} (h : BI ma told a Q s) (hs : Q.length ≤ s) : ∀ m z, Rch (ER 6 (edQ ma told)) m a z → z ∈ Q.map cd := by
  obtain ⟨h1, h2, h3, h4, h5, h6, h7, h8⟩ := h
  intro m
  induction m with
  | zero => intro z hz; cases hz; exact h8
  | succ m ih =>
    intro z ⟨c, hc, i, hi, he⟩
    obtain ⟨q, hq, rfl⟩ := List.mem_map.mp (ih c hc)
    obtain ⟨j, hj⟩ := List.getElem?_of_mem hq
    have := (List.getElem?_eq_some_iff.mp hj).1
    exact h5 j q (by omega) hj i z hi he
theorem BI.find {W : Nat → Prop} {w : Stop → Bool} (ht : told < 64) (hw : ∀ q : Stop, q.2.1 < 64 → (w q = true ↔ W (cd q))) : ∀ (f s : Nat) (Q : List Stop), BI ma told a Q s → (∀ j q, j < s → Q[j]? = some q → w q = false) → 729 ≤ s + f → IsW (ER 6 (edQ ma told)) a W (optI (findQ ma told w f s Q)) := by
  intro f
  induction f with
  | zero =>
    intro s Q h hn hf
    have hlen : Q.length ≤ 729 := okS_len h.2.1 (fun c hc => by
      obtain ⟨q, hq, rfl⟩ := List.mem_map.mp hc
      obtain ⟨a1, a2, a3, -⟩ := h.1 q hq
      exact ⟨by unfold cd; omega, a3⟩) ht
    refine Or.inl ⟨rfl, fun m z hz hW => ?_⟩
    obtain ⟨q, hq, rfl⟩ := List.mem_map.mp (h.all (by omega) m z hz)
    obtain ⟨j, hj⟩ := List.getElem?_of_mem hq
    have h1 := (List.getElem?_eq_some_iff.mp hj).1
    have h2 := hn j q (by omega) hj
    rw [(hw q (h.1 q hq).2.1).mpr hW] at h2
    cases h2
  | succ f ih =>
    intro s Q h hn hf
    by_cases hs : s < Q.length
    · obtain ⟨q, hq⟩ := get_ex hs
      have hqm := List.mem_of_getElem? hq
      by_cases hwq : w q = true
      · rw [find_hit hq hwq]
        have h7 := h.2.2.2.2.2.2.1 s q hq
        have hlen : Q.length ≤ 729 := okS_len h.2.1 (fun c hc => by
          obtain ⟨q, hq, rfl⟩ := List.mem_map.mp hc
          obtain ⟨a1, a2, a3, -⟩ := h.1 q hq
          exact ⟨by unfold cd; omega, a3⟩) ht
        refine Or.inr ⟨q.2.2, by omega, rfl, ⟨cd q, (h.1 q hqm).2.2.2.1, (hw q (h.1 q hqm).2.1).mp hwq⟩, fun m hm z hz hW => ?_⟩
        obtain ⟨q2, hq2, rfl⟩ := List.mem_map.mp (h.2.2.2.2.2.1 q hq m z (by omega) hz)
        obtain ⟨j, hj⟩ := List.getElem?_of_mem hq2
        have hle : q2.2.2 ≤ m := Nat.le_of_not_lt (fun g => (h.1 q2 hq2).2.2.2.2 m g hz)
        by_cases hjs : j < s
        · have h2 := hn j q2 hjs hj
          rw [(hw q2 (h.1 q2 hq2).2.1).mpr hW] at h2
          cases h2
        · have := h.2.2.1 s j q q2 (by omega) hq hj
          omega
      · have hwq : w q = false := by simpa using hwq
        rw [find_go hq hwq]
        obtain ⟨hb, e, he⟩ := h.next hs ht
        refine ih (s + 1) _ hb (fun j q2 hj hq2 => ?_) (by omega)
        rw [he, List.getElem?_append_left (by omega)] at hq2
        by_cases e2 : j = s
        · subst e2
          rw [hq] at hq2
          cases hq2
          exact hwq
        · exact hn j q2 (by omega) hq2
    · rw [find_end hs]
      refine Or.inl ⟨rfl, fun m z hz hW => ?_⟩
      obtain ⟨q, hq, rfl⟩ := List.mem_map.mp (h.all (by omega) m z hz)
      obtain ⟨j, hj⟩ := List.getElem?_of_mem hq
      have h1 := (List.getElem?_eq_some_iff.mp hj).1
      have h2 := hn j q (by omega) hj
      rw [(hw q (h.1 q hq).2.1).mpr hW] at h2
      cases h2
theorem BI.start {st : Nat} (hst : st < 64) (ht : told < 64) : BI ma told (64 * st + (st &&& told)) [(st, st &&& told, 0)] 0 := by
  have h2 : st &&& told < 64 := Nat.lt_of_le_of_lt Nat.and_le_right ht
  have hc : cd (st, st &&& told, 0) = 64 * st + (st &&& told) := rfl
  have one : ∀ (j : Nat) (q : Stop), ([(st, st &&& told, 0)] : List Stop)[j]? = some q → j = 0 ∧ q = (st, st &&& told, 0) := by
    intro j q hq
    cases j with
    | zero => exact ⟨rfl, (Option.some.inj hq).symm⟩
    | succ j => simp at hq
  refine ⟨fun q hq => ?_, by simp, fun i j p q hij hp hq => ?_, fun j p q hp hq => ?_, fun j q hj => absurd hj (Nat.not_lt_zero _), fun p hp m z hm hr => ?_, fun j q hq => ?_, by simp [hc]⟩
  · rw [List.mem_singleton] at hq
    subst hq
    refine ⟨hst, h2, ?_, rfl, fun m hm => absurd hm (Nat.not_lt_zero _)⟩
    rw [hc]
    unfold okS
    rw [show (64 * st + (st &&& told)) / 64 = st by omega, show (64 * st + (st &&& told)) % 64 = st &&& told by omega]
    simp only [Bool.and_eq_true, beq_iff_eq]
    refine ⟨Nat.and_self _, ?_⟩
    rw [Nat.and_assoc, Nat.and_self]
  · obtain ⟨-, rfl⟩ := one i p hp
    obtain ⟨-, rfl⟩ := one j q hq
    exact Nat.le_refl _
  · obtain ⟨-, rfl⟩ := one 0 p hp
    obtain ⟨-, rfl⟩ := one j q hq
    exact Nat.zero_le _
  · obtain ⟨-, rfl⟩ := one 0 p hp
    have hm : m ≤ 0 := hm
    obtain rfl : m = 0 := by omega
    cases hr
    simp [hc]
  · obtain ⟨rfl, rfl⟩ := one j q hq
    exact Nat.le_refl _
end BFS
