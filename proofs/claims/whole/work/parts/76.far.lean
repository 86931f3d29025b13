/-! ===== how far one comes: the queue against the reference's row of numbers ===== -/
theorem bfs_BI {ma : Nat → Nat} {told a : Nat} (ht : told < 64) : ∀ (f s : Nat) (Q : List Stop), BI ma told a Q s → 729 ≤ s + f → ∃ s2, BI ma told a (bfsQ ma told f s Q) s2 ∧ (bfsQ ma told f s Q).length ≤ s2 := by
  intro f
  induction f with
  | zero =>
    intro s Q h hf
    refine ⟨s, h, ?_⟩
    have hlen : Q.length ≤ 729 := okS_len h.2.1 (fun c hc => by
      obtain ⟨q, hq, rfl⟩ := List.mem_map.mp hc
      obtain ⟨a1, a2, a3, -⟩ := h.1 q hq
      exact ⟨by unfold cd; omega, a3⟩) ht
    show Q.length ≤ s
    omega
  | succ f ih =>
    intro s Q h hf
    by_cases hs : s < Q.length
    · have e : bfsQ ma told (f + 1) s Q = bfsQ ma told f (s + 1) (goQ ma told Q s) := if_pos hs
      rw [e]
      exact ih (s + 1) _ (h.next hs ht).1 (by omega)
    · have e : bfsQ ma told (f + 1) s Q = Q := if_neg hs
      rw [e]
      exact ⟨s, h, by omega⟩
def SPR (n : Nat) (kd fg : Nat → Nat) (st : Nat) (Q : List Stop) : Prop :=
  (∀ q ∈ Q, q.1 < 2 ^ n ∧ q.2.2 < 729 ∧ DS n kd fg st q.1 (nI q.2.2)) ∧ (∀ z r, DS n kd fg st z r → ¬ r < 0 → ∃ q, q ∈ Q ∧ q.1 = z ∧ r = nI q.2.2) ∧ (Q.map (fun q => q.1)).Nodup ∧ (∀ (i j : Nat) (p q : Stop), i ≤ j → Q[i]? = some p → Q[j]? = some q → p.2.2 ≤ q.2.2) ∧ 0 < Q.length
theorem SPR_of {n st : Nat} {kd fg : Nat → Nat} (hn : n ≤ 6) (hst : st < 2 ^ n) : SPR n kd fg st (bfsQ (maW n kd fg) 0 729 0 [(st, st &&& 0, 0)]) := by
  have h64 : st < 64 := Nat.lt_of_lt_of_le hst (Nat.pow_le_pow_right (by decide) hn)
  obtain ⟨s2, hB, hl⟩ := bfs_BI (ma := maW n kd fg) (told := 0) (a := 64 * st + (st &&& 0)) (by decide) 729 0 _ (BI.start h64 (by decide)) (by omega)
  generalize bfsQ (maW n kd fg) 0 729 0 [(st, st &&& 0, 0)] = Q at hB hl
  have hall := hB.all hl
  obtain ⟨h1, h2, h3, h4, h5, h6, h7, h8⟩ := hB
  have h0 : ∀ q ∈ Q, q.2.1 = 0 := fun q hq => by
    obtain ⟨a1, a2, a3, -⟩ := h1 q hq
    unfold okS at a3
    rw [cd_2 a2, Nat.and_zero, Nat.and_zero, Bool.and_eq_true, beq_iff_eq, beq_iff_eq] at a3
    exact a3.2.symm
  have hcd : ∀ q ∈ Q, cd q = 64 * q.1 := fun q hq => by
    unfold cd
    rw [h0 q hq]
    rfl
  have hlen : Q.length ≤ 729 := okS_len h2 (fun c hc => by
    obtain ⟨q, hq, rfl⟩ := List.mem_map.mp hc
    obtain ⟨a1, a2, a3, -⟩ := h1 q hq
    exact ⟨by unfold cd; omega, a3⟩) (by decide)
  have hp729 : ∀ q ∈ Q, q.2.2 < 729 := fun q hq => by
    obtain ⟨j, hj⟩ := List.getElem?_of_mem hq
    have b1 := h7 j q hj
    have b2 := (List.getElem?_eq_some_iff.mp hj).1
    omega
  have hDS : ∀ q ∈ Q, DS n kd fg st q.1 (nI q.2.2) := fun q hq => by
    obtain ⟨a1, a2, a3, a4, a5⟩ := h1 q hq
    refine DS_of hn hst (Or.inr ⟨q.2.2, by have := hp729 q hq; omega, rfl, ⟨cd q, a4, cd_1 a2⟩, fun m hm z hz hW => ?_⟩)
    obtain ⟨q2, hq2, rfl⟩ := List.mem_map.mp (hall m z hz)
    have hW : cd q2 / 64 = q.1 := hW
    rw [hcd q2 hq2] at hW hz
    refine a5 m hm ?_
    rw [hcd q hq]
    rw [show q.1 = q2.1 by omega]
    exact hz
  refine ⟨fun q hq => ⟨?_, hp729 q hq, hDS q hq⟩, fun z r hz hr => ?_, ?_, h3, ?_⟩
  · rcases hDS q hq with ⟨e, -⟩ | ⟨m, -, -, ⟨b, hb, rfl⟩, -⟩
    · exact absurd e (nI_ne4 (by have := hp729 q hq; omega))
    · exact Rch.lt edW_lt hst m _ hb
  · by_cases c : ∃ q, q ∈ Q ∧ q.1 = z
    · obtain ⟨q, hq, rfl⟩ := c
      exact ⟨q, hq, rfl, IsW.one hz (hDS q hq)⟩
    · have hno : DS n kd fg st z (-4) := DS_of hn hst (Or.inl ⟨rfl, fun m b hb hW => by
        obtain ⟨q, hq, rfl⟩ := List.mem_map.mp (hall m b hb)
        have hW : cd q / 64 = z := hW
        rw [cd_1 (h1 q hq).2.1] at hW
        exact c ⟨q, hq, hW⟩⟩)
      have := IsW.one hz hno
      rw [this] at hr
      exact absurd (by decide +kernel) hr
  · have e : Q.map cd = (Q.map (fun q => q.1)).map (fun v => 64 * v) := by
      rw [List.map_map]
      exact List.map_congr_left (fun q hq => hcd q hq)
    rw [e] at h2
    exact List.Pairwise.of_map (fun v => 64 * v) (fun a b h e => h (by rw [e])) h2
  · cases Q with
    | nil => simp at h8
    | cons q Q => exact Nat.succ_pos _
theorem nodup_eq (p : Nat → Bool) : ∀ (K : Nat) (l : List Nat), l.Nodup → (∀ x, x ∈ l ↔ x < K ∧ p x = true) → l.length = cntS p K := by
  intro K
  induction K with
  | zero =>
    intro l _ h
    cases l with
    | nil => rfl
    | cons x l => exact absurd ((h x).mp List.mem_cons_self).1 (Nat.not_lt_zero _)
  | succ K ih =>
    intro l hn h
    by_cases hk : K ∈ l
    · have h1 := ih (l.erase K) (hn.erase K) (fun x => by
        rw [hn.mem_erase_iff, h x]
        constructor
        · rintro ⟨q1, q2, q3⟩
          exact ⟨by omega, q3⟩
        · rintro ⟨q1, q2⟩
          exact ⟨by omega, by omega, q2⟩)
      have h2 := List.length_erase_of_mem hk
      have h3 := ((h K).mp hk).2
      have h4 : 0 < l.length := List.length_pos_of_mem hk
      show l.length = cntS p K + (p K).toNat
      rw [h3]
      show l.length = cntS p K + 1
      omega
    · have h1 := ih l hn (fun x => by
        rw [h x]
        constructor
        · intro q
          refine ⟨?_, q.2⟩
          have : x ≠ K := fun e => hk (e ▸ (h x).mpr q)
          omega
        · intro q
          exact ⟨by omega, q.2⟩)
      have h3 : p K = false := by
        cases e : p K with
        | false => rfl
        | true => exact absurd ((h K).mpr ⟨Nat.lt_succ_self K, e⟩) hk
      show l.length = cntS p K + (p K).toNat
      rw [h3]
      exact h1
theorem farC_cnt (P : Nat → Int32) : ∀ K, farC P K = cntS (fun z => !decide (P z < 0)) K := by
  intro K
  induction K with
  | zero => rfl
  | succ K ih =>
    show farC P K + (if P K < 0 then 0 else 1) = cntS (fun z => !decide (P z < 0)) K + (!decide (P K < 0)).toNat
    rw [ih]
    by_cases h : P K < 0
    · rw [if_pos h, decide_eq_true h]
      rfl
    · rw [if_neg h, decide_eq_false h]
      rfl
section FAR
variable {n o : Nat} {kd fg : Nat → Nat} {Q : List Stop} {P : Nat → Int32}
theorem far_n (hS : SPR n kd fg o Q) (hP : ∀ z, z < 2 ^ n → DS n kd fg o z (P z)) : Q.length = farC P (2 ^ n) := by
  rw [farC_cnt, ← nodup_eq _ (2 ^ n) (Q.map (fun q => q.1)) hS.2.2.1 (fun x => ?_), List.length_map]
  constructor
  · intro h
    obtain ⟨q, hq, rfl⟩ := List.mem_map.mp h
    obtain ⟨a1, a2, a3⟩ := hS.1 q hq
    refine ⟨a1, ?_⟩
    have e := IsW.one (hP q.1 a1) a3
    show (!decide (P q.1 < 0)) = true
    rw [e, decide_eq_false (nI_pos (by omega))]
    rfl
  · rintro ⟨h1, h2⟩
    have h3 : ¬ P x < 0 := by
      intro q
      have h2 : (!decide (P x < 0)) = true := h2
      rw [decide_eq_true q] at h2
      cases h2
    obtain ⟨q, hq, e, -⟩ := hS.2.1 x (P x) (hP x h1) h3
    exact List.mem_map.mpr ⟨q, hq, e⟩
theorem farM_spec (P : Nat → Int32) : ∀ K, (farM P K = (0, -1) ∧ ∀ z, z < K → ¬ (-1 : Int32) < P z) ∨ ∃ z0, z0 < K ∧ farM P K = (z0, P z0) ∧ (-1 : Int32) < P z0 ∧ ∀ z, z < K → ¬ P z0 < P z ∧ (z < z0 → P z < P z0) := by
  intro K
  induction K with
  | zero => exact Or.inl ⟨rfl, fun z h => absurd h (Nat.not_lt_zero z)⟩
  | succ K ih =>
    rcases ih with ⟨e, h⟩ | ⟨z0, h0, e, h1, h2⟩
    · by_cases c : (-1 : Int32) < P K
      · right
        refine ⟨K, Nat.lt_succ_self K, farM_t (by rw [e]; exact c), c, fun z hz => ?_⟩
        by_cases q : z = K
        · subst q
          exact ⟨Int32.lt_irrefl, fun h => absurd h (Nat.lt_irrefl z)⟩
        · have h3 := h z (by omega)
          rw [Int32.lt_iff_toInt_lt] at c h3
          rw [Int32.lt_iff_toInt_lt, Int32.lt_iff_toInt_lt]
          exact ⟨by omega, fun _ => by omega⟩
      · left
        refine ⟨(farM_f (by rw [e]; exact c)).trans e, fun z hz => ?_⟩
        by_cases q : z = K
        · rw [q]; exact c
        · exact h z (by omega)
    · right
      by_cases c : P z0 < P K
      · refine ⟨K, Nat.lt_succ_self K, farM_t (by rw [e]; exact c), ?_, fun z hz => ?_⟩
        · rw [Int32.lt_iff_toInt_lt] at h1 c ⊢
          omega
        · by_cases q : z = K
          · subst q
            exact ⟨Int32.lt_irrefl, fun h => absurd h (Nat.lt_irrefl z)⟩
          · have h3 := (h2 z (by omega)).1
            rw [Int32.lt_iff_toInt_lt] at c h3
            rw [Int32.lt_iff_toInt_lt, Int32.lt_iff_toInt_lt]
            exact ⟨by omega, fun _ => by omega⟩
      · refine ⟨z0, by omega, (farM_f (by rw [e]; exact c)).trans e, h1, fun z hz => ?_⟩
        by_cases q : z = K
        · subst q
          exact ⟨c, fun h => absurd h (by omega)⟩
        · exact h2 z (by omega)
theorem lfU_spec (Q : List Stop) (m : Nat) : ∀ j, j ≤ Q.length → (∀ (i : Nat) (q : Stop), i < j → Q[i]? = some q → q.2.2 = m → lfU Q m j ≤ q.1) ∧ (lfU Q m j = 64 ∨ ∃ (i : Nat) (q : Stop), i < j ∧ Q[i]? = some q ∧ q.2.2 = m ∧ q.1 = lfU Q m j) := by
  intro j
  induction j with
  | zero => intro _; exact ⟨fun i q h => absurd h (Nat.not_lt_zero i), Or.inl rfl⟩
  | succ j ih =>
    intro hj
    obtain ⟨h1, h2⟩ := ih (by omega)
    obtain ⟨p, hp⟩ := get_ex (show j < Q.length by omega)
    by_cases c : p.2.2 = m
    · rw [lfU_t hp c]
      by_cases d : p.1 < lfU Q m j
      · rw [if_pos d]
        refine ⟨fun i q hi hq hm => ?_, Or.inr ⟨j, p, Nat.lt_succ_self j, hp, c, rfl⟩⟩
        by_cases e : i = j
        · subst e
          rw [hp] at hq
          cases hq
          exact Nat.le_refl _
        · have := h1 i q (by omega) hq hm
          omega
      · rw [if_neg d]
        refine ⟨fun i q hi hq hm => ?_, ?_⟩
        · by_cases e : i = j
          · subst e
            rw [hp] at hq
            cases hq
            omega
          · exact h1 i q (by omega) hq hm
        · rcases h2 with h2 | ⟨i, q, a1, a2, a3, a4⟩
          · exact Or.inl h2
          · exact Or.inr ⟨i, q, by omega, a2, a3, a4⟩
    · rw [lfU_f hp c]
      refine ⟨fun i q hi hq hm => ?_, ?_⟩
      · by_cases e : i = j
        · subst e
          rw [hp] at hq
          cases hq
          exact absurd hm c
        · exact h1 i q (by omega) hq hm
      · rcases h2 with h2 | ⟨i, q, a1, a2, a3, a4⟩
        · exact Or.inl h2
        · exact Or.inr ⟨i, q, by omega, a2, a3, a4⟩
theorem far_m (hn : n ≤ 6) (ho : o < 2 ^ n) (hS : SPR n kd fg o Q) (hP : ∀ z, z < 2 ^ n → DS n kd fg o z (P z)) {ql : Stop} (hq : Q[Q.length - 1]? = some ql) : (farM P (2 ^ n)).2 = nI ql.2.2 ∧ (farM P (2 ^ n)).1 = lfU Q ql.2.2 Q.length := by
  have h26 : 2 ^ n ≤ 2 ^ 6 := Nat.pow_le_pow_right (by decide) hn
  have hqm := List.mem_of_getElem? hq
  obtain ⟨b1, b2, b3⟩ := hS.1 ql hqm
  have e1 : P ql.1 = nI ql.2.2 := IsW.one (hP ql.1 b1) b3
  have hm1 : (-1 : Int32) < P ql.1 := by
    rw [e1, Int32.lt_iff_toInt_lt, nI_toInt (by omega)]
    have : (-1 : Int32).toInt = -1 := by decide +kernel
    omega
  rcases farM_spec P (2 ^ n) with ⟨-, h⟩ | ⟨z0, h0, e, h1, h2⟩
  · exact absurd hm1 (h _ b1)
  · have h3 : ¬ P z0 < 0 := by
      rw [Int32.lt_iff_toInt_lt] at h1 ⊢
      have e4 : (-1 : Int32).toInt = -1 := by decide +kernel
      have e5 : (0 : Int32).toInt = 0 := by decide +kernel
      omega
    obtain ⟨q, hqQ, eq, er⟩ := hS.2.1 z0 (P z0) (hP z0 h0) h3
    obtain ⟨j, hj⟩ := List.getElem?_of_mem hqQ
    have hjl := (List.getElem?_eq_some_iff.mp hj).1
    have hle : q.2.2 ≤ ql.2.2 := hS.2.2.2.1 j (Q.length - 1) q ql (by omega) hj hq
    obtain ⟨c1, c2, c3⟩ := hS.1 q hqQ
    have hge : ql.2.2 ≤ q.2.2 := by
      apply Nat.le_of_not_lt
      intro g
      refine (h2 ql.1 b1).1 ?_
      rw [e1, er]
      exact nI_lt g (by omega)
    have hm : q.2.2 = ql.2.2 := by omega
    rw [e]
    refine ⟨by show P z0 = _; rw [er, hm], ?_⟩
    show z0 = _
    obtain ⟨l1, l2⟩ := lfU_spec Q ql.2.2 Q.length (Nat.le_refl _)
    have h5 := l1 j q hjl hj hm
    rcases l2 with l2 | ⟨i, p, a1, a2, a3, a4⟩
    · omega
    · have hpm := List.mem_of_getElem? a2
      obtain ⟨d1, d2, d3⟩ := hS.1 p hpm
      have ep : P p.1 = nI p.2.2 := IsW.one (hP p.1 d1) d3
      have h6 : ¬ p.1 < z0 := by
        intro g
        have := (h2 p.1 d1).2 g
        rw [ep, er, a3, hm] at this
        exact absurd this (by rw [Int32.lt_iff_toInt_lt]; omega)
      omega
theorem emU_bit (ma : Nat → Nat) (Q : List Stop) (i : Nat) : ∀ j, j ≤ Q.length → ((emU ma Q j).testBit i = true ↔ ∃ (k : Nat) (q : Stop), k < j ∧ Q[k]? = some q ∧ (ma q.1).testBit i = true) := by
  intro j
  induction j with
  | zero =>
    intro _
    constructor
    · intro h
      rw [show emU ma Q 0 = 0 from rfl, Nat.zero_testBit] at h
      cases h
    · rintro ⟨k, q, h, -⟩
      exact absurd h (Nat.not_lt_zero k)
  | succ j ih =>
    intro hj
    obtain ⟨p, hp⟩ := get_ex (show j < Q.length by omega)
    rw [emU_t hp, Nat.testBit_or, Bool.or_eq_true, ih (by omega)]
    constructor
    · rintro (⟨k, q, a1, a2, a3⟩ | h)
      · exact ⟨k, q, by omega, a2, a3⟩
      · exact ⟨j, p, Nat.lt_succ_self j, hp, h⟩
    · rintro ⟨k, q, a1, a2, a3⟩
      by_cases e : k = j
      · subst e
        rw [hp] at a2
        cases a2
        exact Or.inr a3
      · exact Or.inl ⟨k, q, by omega, a2, a3⟩
theorem sub_bit {x i : Nat} (hx : x < 64) : (63 - x).testBit i = (decide (i < 6) && !x.testBit i) := by
  by_cases hi : i < 6
  · apply fin2 64 6 x i hx hi
    decide +kernel
  · rw [decide_eq_false hi]
    exact Nat.testBit_lt_two_pow (Nat.lt_of_lt_of_le (show 63 - x < 2 ^ 6 by omega) (Nat.pow_le_pow_right (by decide) (by omega)))
theorem nevU_bit (hn : n ≤ 6) (i : Nat) : ∀ K, (nevU n kd fg P K).testBit i = true ↔ i < n ∧ ∀ z, z < K → ¬ P z < 0 → (mayU kd fg z n).testBit i = false := by
  have h26 : 2 ^ n ≤ 2 ^ 6 := Nat.pow_le_pow_right (by decide) hn
  intro K
  induction K with
  | zero =>
    show (2 ^ n - 1).testBit i = true ↔ _
    rw [tb_all, decide_eq_true_iff]
    exact ⟨fun h => ⟨h, fun z hz => absurd hz (Nat.not_lt_zero z)⟩, fun h => h.1⟩
  | succ K ih =>
    by_cases c : P K < 0
    · rw [nevU_t c, ih]
      constructor
      · rintro ⟨h1, h2⟩
        refine ⟨h1, fun z hz hr => ?_⟩
        by_cases e : z = K
        · subst e; exact absurd c hr
        · exact h2 z (by omega) hr
      · rintro ⟨h1, h2⟩
        exact ⟨h1, fun z hz hr => h2 z (by omega) hr⟩
    · have hlt : mayU kd fg K n < 64 := Nat.lt_of_lt_of_le (mayU_lt kd fg K n) h26
      rw [nevU_f c, Nat.testBit_and, Bool.and_eq_true, ih, sub_bit hlt]
      constructor
      · rintro ⟨⟨h1, h2⟩, h3⟩
        refine ⟨h1, fun z hz hr => ?_⟩
        by_cases e : z = K
        · subst e
          rw [Bool.and_eq_true] at h3
          simpa using h3.2
        · exact h2 z (by omega) hr
      · rintro ⟨h1, h2⟩
        refine ⟨⟨h1, fun z hz hr => h2 z (by omega) hr⟩, ?_⟩
        rw [h2 K (Nat.lt_succ_self K) c, decide_eq_true (show i < 6 by omega)]
        rfl
theorem emU_lt (hn : n ≤ 6) (Q : List Stop) : ∀ j, j ≤ Q.length → emU (maW n kd fg) Q j < 64 := by
  intro j
  induction j with
  | zero => intro _; exact (by decide : (0 : Nat) < 64)
  | succ j ih =>
    intro hj
    obtain ⟨p, hp⟩ := get_ex (show j < Q.length by omega)
    rw [emU_t hp]
    exact Nat.or_lt_two_pow (n := 6) (ih (by omega)) (maW_lt hn)
theorem never_ok (hn : n ≤ 6) (hS : SPR n kd fg o Q) (hP : ∀ z, z < 2 ^ n → DS n kd fg o z (P z)) : (2 ^ n - 1) &&& (63 - emU (maW n kd fg) Q Q.length) = nevU n kd fg P (2 ^ n) := by
  apply Nat.eq_of_testBit_eq
  intro i
  have hlt := emU_lt (kd := kd) (fg := fg) hn Q Q.length (Nat.le_refl _)
  rw [Nat.testBit_and, tb_all, sub_bit hlt]
  rw [Bool.eq_iff_iff, nevU_bit hn i (2 ^ n)]
  rw [Bool.and_eq_true, Bool.and_eq_true, decide_eq_true_iff, decide_eq_true_iff]
  constructor
  · rintro ⟨h1, -, h3⟩
    refine ⟨h1, fun z hz hr => ?_⟩
    obtain ⟨q, hq, e, -⟩ := hS.2.1 z (P z) (hP z hz) hr
    subst e
    obtain ⟨j, hj⟩ := List.getElem?_of_mem hq
    have hjl := (List.getElem?_eq_some_iff.mp hj).1
    cases c : (mayU kd fg q.1 n).testBit i with
    | false => rfl
    | true =>
      have : (emU (maW n kd fg) Q Q.length).testBit i = true := (emU_bit _ Q i Q.length (Nat.le_refl _)).mpr ⟨j, q, hjl, hj, by unfold maW; rw [if_pos hz]; exact c⟩
      rw [this] at h3
      cases h3
  · rintro ⟨h1, h2⟩
    refine ⟨h1, by omega, ?_⟩
    cases c : (emU (maW n kd fg) Q Q.length).testBit i with
    | false => rfl
    | true =>
      obtain ⟨k, q, a1, a2, a3⟩ := (emU_bit _ Q i Q.length (Nat.le_refl _)).mp c
      obtain ⟨b1, b2, b3⟩ := hS.1 q (List.mem_of_getElem? a2)
      have e := IsW.one (hP q.1 b1) b3
      have h4 := h2 q.1 b1 (by rw [e]; exact nI_pos (by omega))
      unfold maW at a3
      rw [if_pos b1, h4] at a3
      cases a3
end FAR
/-- the number of a standing on the joiner's long way -/
def gx (n z : Nat) : Nat := let g := 2 ^ n - 1 - z; g ^^^ g / 2 ^^^ g / 4 ^^^ g / 8 ^^^ g / 16 ^^^ g / 32
theorem gx_0 {n : Nat} (hn : n < 7) : gx n (2 ^ n - 1) = 0 := by
  apply fin1 7 n hn
  decide +kernel
theorem gx_up {n z i : Nat} (hn : n < 7) (hz : z < 2 ^ n) (hi : i < n) (h : jn i z = true) : gx n (z ^^^ 2 ^ i) ≤ gx n z + 1 := by
  have h26 : 2 ^ n ≤ 2 ^ 6 := Nat.pow_le_pow_right (by decide) (by omega)
  have hz64 : z < 64 := by omega
  have hi6 : i < 6 := by omega
  revert hz hi h
  apply fin3 7 64 6 n z i hn hz64 hi6
  decide +kernel
theorem gx_dn {n z : Nat} (hn : n < 7) (hz : z < 2 ^ n) (h : gx n z ≠ 0) : ∃ i : Fin 6, i.val < n ∧ jn i.val (z ^^^ 2 ^ i.val) = true ∧ gx n (z ^^^ 2 ^ i.val) + 1 = gx n z := by
  have h26 : 2 ^ n ≤ 2 ^ 6 := Nat.pow_le_pow_right (by decide) (by omega)
  have hz64 : z < 64 := by omega
  revert hz h
  apply fin2 7 64 n z hn hz64
  decide +kernel
theorem gx_inj {n y z : Nat} (hn : n < 7) (hy : y < 2 ^ n) (hz : z < 2 ^ n) (h : gx n y = gx n z) : y = z := by
  have h26 : 2 ^ n ≤ 2 ^ 6 := Nat.pow_le_pow_right (by decide) (by omega)
  have hy64 : y < 64 := by omega
  have hz64 : z < 64 := by omega
  revert hy hz h
  apply fin3 7 64 64 n y z hn hy64 hz64
  decide +kernel
theorem gx_le {n z : Nat} (hn : n < 7) (hz : z < 2 ^ n) : gx n z < 64 := by
  have h26 : 2 ^ n ≤ 2 ^ 6 := Nat.pow_le_pow_right (by decide) (by omega)
  have hz64 : z < 64 := by omega
  revert hz
  apply fin2 7 64 n z hn hz64
  decide +kernel
section JOIN
variable {n : Nat} {kd fg : Nat → Nat}
theorem xor_back {z i : Nat} : z ^^^ 2 ^ i ^^^ 2 ^ i = z := by rw [Nat.xor_assoc, Nat.xor_self, Nat.xor_zero]
theorem gx_DS (hn : n ≤ 6) (hj : ∀ j, j < n → kd j = 0) : ∀ z, z < 2 ^ n → DS n kd fg (2 ^ n - 1) z (nI (gx n z)) := by
  have hp1 : 1 ≤ 2 ^ n := Nat.one_le_two_pow
  have hmv : ∀ i c, i < n → mv (kd i) (fg i) i c = jn i c := fun i c hi => by
    rw [hj i hi]
    rfl
  have up : ∀ t z, z < 2 ^ n → gx n z = t → Rch (ER n (edW n kd fg)) t (2 ^ n - 1) z := by
    intro t
    induction t with
    | zero =>
      intro z hz h
      exact gx_inj (by omega) (by omega) hz ((gx_0 (by omega)).trans h.symm)
    | succ t ih =>
      intro z hz h
      obtain ⟨i, hi, h1, h2⟩ := gx_dn (by omega) hz (by omega)
      have hx : z ^^^ 2 ^ i.val < 2 ^ n := xor_ltn hz hi
      refine ⟨z ^^^ 2 ^ i.val, ih _ hx (by omega), i.val, hi, ?_⟩
      rw [edW_t (by rw [hmv _ _ hi]; exact h1), xor_back]
  have dn : ∀ m z, Rch (ER n (edW n kd fg)) m (2 ^ n - 1) z → z < 2 ^ n ∧ gx n z ≤ m := by
    intro m
    induction m with
    | zero =>
      intro z hz
      cases hz
      exact ⟨by omega, by rw [gx_0 (by omega)]; exact Nat.le_refl 0⟩
    | succ m ih =>
      intro z ⟨c, hc, i, hi, he⟩
      obtain ⟨h1, h2⟩ := ih c hc
      by_cases hm : mv (kd i) (fg i) i c = true
      · rw [edW_t hm] at he
        cases he
        rw [hmv _ _ hi] at hm
        have := gx_up (by omega) h1 hi hm
        exact ⟨xor_ltn h1 hi, by omega⟩
      · rw [edW_f (by simpa using hm)] at he
        cases he
  intro z hz
  refine Or.inr ⟨gx n z, by have := gx_le (by omega) hz; omega, rfl, ⟨z, up _ z hz rfl, rfl⟩, fun m hm b hb hW => ?_⟩
  have hW : b = z := hW
  subst hW
  have := (dn m b hb).2
  omega
theorem at_ok {Q : List Stop} {k : Int32} (hn : n ≤ 6) (hj : ∀ j, j < n → kd j = 0) (hS : SPR n kd fg (2 ^ n - 1) Q) (hk : ¬ k < 0) : ATK n kd fg k (optI ((Q.find? (fun q => decide (nI q.2.2 = k))).map (fun q => q.1))) := by
  cases e : Q.find? (fun q => decide (nI q.2.2 = k)) with
  | none =>
    refine Or.inl ⟨rfl, fun z hz hd => ?_⟩
    obtain ⟨q, hq, -, h2⟩ := hS.2.1 z k hd hk
    have := List.find?_eq_none.mp e q hq
    exact this (decide_eq_true h2.symm)
  | some q =>
    have hq := List.mem_of_find?_eq_some e
    have h1 : nI q.2.2 = k := of_decide_eq_true (List.find?_some (p := fun q : Stop => decide (nI q.2.2 = k)) e)
    obtain ⟨a1, a2, a3⟩ := hS.1 q hq
    rw [h1] at a3
    refine Or.inr ⟨q.1, a1, rfl, a3, fun y hy hd => ?_⟩
    have hy2 : y < 2 ^ n := by omega
    have e1 := IsW.one hd (gx_DS (fg := fg) hn hj y hy2)
    have e2 := IsW.one a3 (gx_DS (fg := fg) hn hj q.1 a1)
    have b1 := gx_le (n := n) (by omega) hy2
    have b2 := gx_le (n := n) (by omega) a1
    have e3 : gx n y = gx n q.1 := (nI_eq (by omega) (by omega)).mp (e1.symm.trans e2)
    have := gx_inj (by omega) hy2 a1 e3
    omega
end JOIN
abbrev rmX11_far : Room := { frames := 6, cells := 0, slots := 0, locals := 134 }
set_option maxHeartbeats 4000000 in
set_option maxRecDepth 100000 in
theorem c_X11_far {l : Launch} {D : va_G} {cA : Nat → ClassId} {A : Nat → Prop}  {ob : Nat → Nat} {mb ss sh sp : Nat → Int32} {mt : Nat → Int64} {rc n o : Nat} {dr : Nat → Option Nat} {n1 o1 : Nat} {dr1 : Nat → Option Nat} {n2 o2 : Nat} {dr2 dk rk : Nat → Option Nat} {kt : Nat → Int32} {tk : Int32} {pool : va_W} {kd fg : Nat → Nat} (hI : WI pool n o dr kd fg) {kd1 fg1 : Nat → Nat} (hJ : WI pool n1 o1 dr1 kd1 fg1) {kd2 fg2 : Nat → Nat} (hM : WI pool n2 o2 dr2 kd2 fg2) {x : Nat → Sf} {P : Nat → Nat} (hX : SX cA pool dk rk x P) {tkb : Bool} (htk : tk = b2i tkb) {what : Int32} : Met l yX11_far wsX11_far rmX11_far (va_Pc [.ref (ob 6), .int what] (Pre D cA A (XW cA ob mb ss sh sp mt rc n o dr n1 o1 dr1 n2 o2 dr2 dk rk kt tk pool))) (va_Qi (fun r (u : XS) => (spFar n o kd fg what r) ∧ XI cA u (n, o, kd, fg) (n1, o1, kd1, fg1) tkb x) (fun u t => Wd D A ((fun (u : XS) => XV cA ob u) u) t) A) (0) (0) A := by
  refine k_ofi (S := XS) (F := fun (u : XS) => XV cA ob u) (cc := cX11_far) (maxL := 2) (by decide) rfl (Nat.le_of_ble_eq_true rfl) ?_
  intro p e s m args below meth c Q hF hini hK hA hG hret ls hl
  have hl : lv_has ls 2 [(0, .ref (ob 6)), (1, .int what)] := hl
  have hn : n ≤ 6 := hI.1
  have ho : o < 64 := hI.o64
  have hp2 : 2 ^ n ≤ 64 := Nat.pow_le_pow_right (by decide) hn
  have hp1 : 1 ≤ 2 ^ n := Nat.one_le_two_pow
  refine lv_iload_n hF.1 hF.2.1 dX11_far_0 rfl (lv_at hl 1 rfl) ?_
  refine lv_if_lt (tgt := 9) hF.1 hF.2.1 dX11_far_1 (by decide) (fun c_1 => ?_) (fun c_1 => ?_)
  · --
    refine lv_iconst (v := (-1)) hF.1 hF.2.1 dX11_far_9 (by decide +kernel) ?_
    exact hret _ (_, _, _, _, _, _, _, _, _, _, _, _, _, _, _, _, _, _, _, _) _ ls _ _ _ _ (by refine ⟨?_, ⟨⟨rfl, rfl⟩, ⟨rfl, rfl⟩, htk, hI, hJ, ⟨_, _, hM⟩, ⟨_, hX⟩⟩⟩; unfold spFar; first | (rw [inB_l c_1]; rfl) | (rw [inM_f (m := 2) (by omega) c_6]; rfl)) (by first | rfl | exact nar_b2i _) hG (Nat.le_of_ble_eq_true rfl) (Nat.le_of_ble_eq_true rfl) dX11_far_10
  · --
    refine lv_iload_n hF.1 hF.2.1 dX11_far_4 rfl (lv_at hl 1 rfl) ?_
    refine lv_iconst (v := (nI 2)) hF.1 hF.2.1 dX11_far_5 (by decide +kernel) ?_
    refine lv_icmp_le (tgt := 11) hF.1 hF.2.1 dX11_far_6 (by decide) (fun c_6 => ?_) (fun c_6 => ?_)
    · --
      have hw3 := inM_t (m := 2) (by omega) c_1 c_6
      refine lv_aload_n hF.1 hF.2.1 dX11_far_11 rfl (lv_at hl 0 rfl) ?_
      refine k_get (C := RX11) (T := TX11) (N := 8) hF hK hG (fun _ h => List.mem_cons_of_mem _ (List.mem_append_left _ (List.mem_append_left _ (List.mem_append_left _ (List.mem_append_left _ (List.mem_append_left _ (List.mem_append_left _ (List.mem_append_left _ (List.mem_append_left _ (List.mem_append_left _ (List.mem_append_left _ (List.mem_append_right _ h)))))))))))) 6 rfl rfl 3 (by decide) (List.mem_of_getElem? (i := 1) rfl) (fun _ h9 => h9) rfl dX11_far_12 ?_
      refine lv_aload_n hF.1 hF.2.1 dX11_far_15 rfl (lv_at hl 0 rfl) ?_
      refine k_get (C := RX11) (T := TX11) (N := 8) hF hK hG (fun _ h => List.mem_cons_of_mem _ (List.mem_append_left _ (List.mem_append_left _ (List.mem_append_left _ (List.mem_append_left _ (List.mem_append_left _ (List.mem_append_left _ (List.mem_append_left _ (List.mem_append_left _ (List.mem_append_left _ (List.mem_append_left _ (List.mem_append_right _ h)))))))))))) 6 rfl rfl 0 (by decide) (List.mem_of_getElem? (i := 2) rfl) (fun _ h9 => h9) rfl dX11_far_16 ?_
      refine k_cv (r_V (As := [.ref (ob 7)]) hF hK hA hG (c_X10_learn hI.w0) (cwV 1 hF.2.2.2.2 gX11_far_X10_learn rfl rfl rfl (by decide +kernel) ⟨Nat.le_of_ble_eq_true rfl, Nat.le_of_ble_eq_true rfl⟩) 0 rfl rfl rfl rfl hl.1 rfl (lv_room (Nat.le_of_ble_eq_true rfl)) dX11_far_19 ⟨Nat.le_of_ble_eq_true rfl, Nat.le_of_ble_eq_true rfl⟩) hG (fun u_19 H locs hp_19 hG => ?_)
      have hG : Gd D A (XW cA ob u_19 ss sh sp mt rc n o dr n1 o1 dr1 n2 o2 dr2 dk rk kt tk pool) s.heap H locs := hG
      have hma : ∀ z, z < 64 → u_19 z = nI (maW n kd fg z) ∧ maW n kd fg z < 64 := fun z hz => ⟨hp_19 z hz, maW_lt hn⟩
      refine lv_aload_n hF.1 hF.2.1 dX11_far_22 rfl (lv_at hl 0 rfl) ?_
      refine k_get (C := RX11) (T := TX11) (N := 8) hF hK hG (fun _ h => List.mem_cons_of_mem _ (List.mem_append_left _ (List.mem_append_left _ (List.mem_append_left _ (List.mem_append_left _ (List.mem_append_left _ (List.mem_append_left _ (List.mem_append_left _ (List.mem_append_left _ (List.mem_append_left _ (List.mem_append_left _ (List.mem_append_right _ h)))))))))))) 6 rfl rfl 3 (by decide) (List.mem_of_getElem? (i := 1) rfl) (fun _ h9 => h9) rfl dX11_far_23 ?_
      refine lv_aload_n hF.1 hF.2.1 dX11_far_26 rfl (lv_at hl 0 rfl) ?_
      refine k_get (C := RX11) (T := TX11) (N := 8) hF hK hG (fun _ h => List.mem_cons_of_mem _ (List.mem_append_left _ (List.mem_append_left _ (List.mem_append_left _ (List.mem_append_left _ (List.mem_append_left _ (List.mem_append_left _ (List.mem_append_left _ (List.mem_append_left _ (List.mem_append_left _ (List.mem_append_left _ (List.mem_append_right _ h)))))))))))) 6 rfl rfl 0 (by decide) (List.mem_of_getElem? (i := 2) rfl) (fun _ h9 => h9) rfl dX11_far_27 ?_
      refine k_get (C := RX9) (T := TX9) (N := 3) hF hK hG (fun _ h => List.mem_cons_of_mem _ (List.mem_append_left _ (List.mem_append_left _ (List.mem_append_left _ (List.mem_append_left _ (List.mem_append_left _ (List.mem_append_left _ (List.mem_append_left _ (List.mem_append_left _ (List.mem_append_left _ (List.mem_append_right _ h))))))))))) 7 rfl rfl 2 (by decide) (List.mem_of_getElem? (i := 3) rfl) (fun _ h9 => h9) rfl dX11_far_30 ?_
      refine k_cv (r_V (As := [.int (nI o)]) hF hK hA hG (c_X10_spread hma ho) (cwV 1 hF.2.2.2.2 gX11_far_X10_spread rfl rfl rfl (by decide +kernel) ⟨Nat.le_of_ble_eq_true rfl, Nat.le_of_ble_eq_true rfl⟩) 0 rfl rfl rfl rfl hl.1 rfl (lv_room (Nat.le_of_ble_eq_true rfl)) dX11_far_33 ⟨Nat.le_of_ble_eq_true rfl, Nat.le_of_ble_eq_true rfl⟩) hG (fun u_33 H locs hp_33 hG => ?_)
      have hG : Gd D A (XW cA ob u_19 u_33.1 u_33.2.1 u_33.2.2.1 u_33.2.2.2.1 u_33.2.2.2.2 n o dr n1 o1 dr1 n2 o2 dr2 dk rk kt tk pool) s.heap H locs := hG
      have hS := SPR_of (kd := kd) (fg := fg) hn hI.2.1
      refine lv_iload_n hF.1 hF.2.1 dX11_far_36 rfl (lv_at hl 1 rfl) ?_
      refine lv_if_ne (tgt := 48) hF.1 hF.2.1 dX11_far_37 (by decide) (fun c_37 => ?_) (fun c_37 => ?_)
      · --
        replace c_37 : ¬ what = nI 0 := c_37
        have hP : ∀ z, z < 2 ^ n → DS n kd fg o z ((fun z => optI (findQ (maW n kd fg) 0 (fun q => q.1 == z) 729 0 [(o, o &&& 0, 0)])) z) := fun z _ => find_to hn hI.2.1
        obtain ⟨ql, hql⟩ := get_ex (show (bfsQ (maW n kd fg) 0 729 0 [(o, o &&& 0, 0)]).length - 1 < (bfsQ (maW n kd fg) 0 729 0 [(o, o &&& 0, 0)]).length by have := hS.2.2.2.2; omega)
        refine lv_iload_n hF.1 hF.2.1 dX11_far_48 rfl (lv_at hl 1 rfl) ?_
        refine lv_iconst (v := (nI 1)) hF.1 hF.2.1 dX11_far_49 (by decide +kernel) ?_
        refine lv_icmp_ne (tgt := 63) hF.1 hF.2.1 dX11_far_50 (by decide) (fun c_50 => ?_) (fun c_50 => ?_)
        · --
          refine lv_aload_n hF.1 hF.2.1 dX11_far_63 rfl (lv_at hl 0 rfl) ?_
          refine k_get (C := RX11) (T := TX11) (N := 8) hF hK hG (fun _ h => List.mem_cons_of_mem _ (List.mem_append_left _ (List.mem_append_left _ (List.mem_append_left _ (List.mem_append_left _ (List.mem_append_left _ (List.mem_append_left _ (List.mem_append_left _ (List.mem_append_left _ (List.mem_append_left _ (List.mem_append_left _ (List.mem_append_right _ h)))))))))))) 6 rfl rfl 3 (by decide) (List.mem_of_getElem? (i := 1) rfl) (fun _ h9 => h9) rfl dX11_far_64 ?_
          refine k_ci (r_V (As := []) hF hK hA hG (c_X10_leastFarthest hp_33 hql) (cwV 0 hF.2.2.2.2 gX11_far_X10_leastFarthest rfl rfl rfl (by decide +kernel) ⟨Nat.le_of_ble_eq_true rfl, Nat.le_of_ble_eq_true rfl⟩) 0 rfl rfl rfl rfl hl.1 rfl (lv_room (Nat.le_of_ble_eq_true rfl)) dX11_far_67 ⟨Nat.le_of_ble_eq_true rfl, Nat.le_of_ble_eq_true rfl⟩) hG (fun r_67 u_67 H locs hp_67 hG => ?_)
          subst hp_67
          exact hret _ (_, _, _, _, _, _, _, _, _, _, _, _, _, _, _, _, _, _, _, _) _ ls _ _ _ _ (by refine ⟨?_, ⟨⟨rfl, rfl⟩, ⟨rfl, rfl⟩, htk, hI, hJ, ⟨_, _, hM⟩, ⟨_, hX⟩⟩⟩; unfold spFar; rw [if_pos hw3]; refine ⟨_, hP, ?_⟩; unfold farI; rw [if_neg c_37]; first | (rw [if_pos c_50]; exact (far_m hn hI.2.1 hS hP hql).1.symm) | (rw [if_neg c_50, (far_m hn hI.2.1 hS hP hql).2])) (by first | rfl | exact nar_b2i _) hG (Nat.le_of_ble_eq_true rfl) (Nat.le_of_ble_eq_true rfl) dX11_far_70
        · --
          refine lv_aload_n hF.1 hF.2.1 dX11_far_53 rfl (lv_at hl 0 rfl) ?_
          refine k_get (C := RX11) (T := TX11) (N := 8) hF hK hG (fun _ h => List.mem_cons_of_mem _ (List.mem_append_left _ (List.mem_append_left _ (List.mem_append_left _ (List.mem_append_left _ (List.mem_append_left _ (List.mem_append_left _ (List.mem_append_left _ (List.mem_append_left _ (List.mem_append_left _ (List.mem_append_left _ (List.mem_append_right _ h)))))))))))) 6 rfl rfl 3 (by decide) (List.mem_of_getElem? (i := 1) rfl) (fun _ h9 => h9) rfl dX11_far_54 ?_
          refine k_ci (r_V (As := []) hF hK hA hG (c_X10_mostPulls hp_33 hql) (cwV 0 hF.2.2.2.2 gX11_far_X10_mostPulls rfl rfl rfl (by decide +kernel) ⟨Nat.le_of_ble_eq_true rfl, Nat.le_of_ble_eq_true rfl⟩) 0 rfl rfl rfl rfl hl.1 rfl (lv_room (Nat.le_of_ble_eq_true rfl)) dX11_far_57 ⟨Nat.le_of_ble_eq_true rfl, Nat.le_of_ble_eq_true rfl⟩) hG (fun r_57 u_57 H locs hp_57 hG => ?_)
          subst hp_57
          refine lv_goto (tgt := 70) hF.1 hF.2.1 dX11_far_60 (by decide) ?_
          exact hret _ (_, _, _, _, _, _, _, _, _, _, _, _, _, _, _, _, _, _, _, _) _ ls _ _ _ _ (by refine ⟨?_, ⟨⟨rfl, rfl⟩, ⟨rfl, rfl⟩, htk, hI, hJ, ⟨_, _, hM⟩, ⟨_, hX⟩⟩⟩; unfold spFar; rw [if_pos hw3]; refine ⟨_, hP, ?_⟩; unfold farI; rw [if_neg c_37]; first | (rw [if_pos c_50]; exact (far_m hn hI.2.1 hS hP hql).1.symm) | (rw [if_neg c_50, (far_m hn hI.2.1 hS hP hql).2])) (by first | rfl | exact nar_b2i _) hG (Nat.le_of_ble_eq_true rfl) (Nat.le_of_ble_eq_true rfl) dX11_far_70
      · --
        replace c_37 : what = nI 0 := c_37
        have hP : ∀ z, z < 2 ^ n → DS n kd fg o z ((fun z => optI (findQ (maW n kd fg) 0 (fun q => q.1 == z) 729 0 [(o, o &&& 0, 0)])) z) := fun z _ => find_to hn hI.2.1
        refine lv_aload_n hF.1 hF.2.1 dX11_far_40 rfl (lv_at hl 0 rfl) ?_
        refine k_get (C := RX11) (T := TX11) (N := 8) hF hK hG (fun _ h => List.mem_cons_of_mem _ (List.mem_append_left _ (List.mem_append_left _ (List.mem_append_left _ (List.mem_append_left _ (List.mem_append_left _ (List.mem_append_left _ (List.mem_append_left _ (List.mem_append_left _ (List.mem_append_left _ (List.mem_append_left _ (List.mem_append_right _ h)))))))))))) 6 rfl rfl 3 (by decide) (List.mem_of_getElem? (i := 1) rfl) (fun _ h9 => h9) rfl dX11_far_41 ?_
        refine k_get (C := RX10) (T := TX10) (N := 6) hF hK hG (fun _ h => List.mem_cons_of_mem _ (List.mem_append_left _ (List.mem_append_left _ (List.mem_append_left _ (List.mem_append_left _ (List.mem_append_left _ (List.mem_append_left _ (List.mem_append_left _ (List.mem_append_left _ (List.mem_append_right _ h)))))))))) 0 rfl rfl 5 (by decide) (List.mem_of_getElem? (i := 4) rfl) (fun _ h9 => h9) rfl dX11_far_44 ?_
        exact hret _ (_, _, _, _, _, _, _, _, _, _, _, _, _, _, _, _, _, _, _, _) _ ls _ _ _ _ (by refine ⟨?_, ⟨⟨rfl, rfl⟩, ⟨rfl, rfl⟩, htk, hI, hJ, ⟨_, _, hM⟩, ⟨_, hX⟩⟩⟩; unfold spFar; rw [if_pos hw3]; refine ⟨_, hP, ?_⟩; unfold farI; rw [if_pos c_37, hp_33.1, far_n hS hP]) (by first | rfl | exact nar_b2i _) hG (Nat.le_of_ble_eq_true rfl) (Nat.le_of_ble_eq_true rfl) dX11_far_47
    · --
      refine lv_iconst (v := (-1)) hF.1 hF.2.1 dX11_far_9 (by decide +kernel) ?_
      exact hret _ (_, _, _, _, _, _, _, _, _, _, _, _, _, _, _, _, _, _, _, _) _ ls _ _ _ _ (by refine ⟨?_, ⟨⟨rfl, rfl⟩, ⟨rfl, rfl⟩, htk, hI, hJ, ⟨_, _, hM⟩, ⟨_, hX⟩⟩⟩; unfold spFar; first | (rw [inB_l c_1]; rfl) | (rw [inM_f (m := 2) (by omega) c_6]; rfl)) (by first | rfl | exact nar_b2i _) hG (Nat.le_of_ble_eq_true rfl) (Nat.le_of_ble_eq_true rfl) dX11_far_10

abbrev rmX11_never : Room := { frames := 6, cells := 0, slots := 0, locals := 134 }
set_option maxHeartbeats 4000000 in
set_option maxRecDepth 100000 in
theorem c_X11_never {l : Launch} {D : va_G} {cA : Nat → ClassId} {A : Nat → Prop}  {ob : Nat → Nat} {mb ss sh sp : Nat → Int32} {mt : Nat → Int64} {rc n o : Nat} {dr : Nat → Option Nat} {n1 o1 : Nat} {dr1 : Nat → Option Nat} {n2 o2 : Nat} {dr2 dk rk : Nat → Option Nat} {kt : Nat → Int32} {tk : Int32} {pool : va_W} {kd fg : Nat → Nat} (hI : WI pool n o dr kd fg) {kd1 fg1 : Nat → Nat} (hJ : WI pool n1 o1 dr1 kd1 fg1) {kd2 fg2 : Nat → Nat} (hM : WI pool n2 o2 dr2 kd2 fg2) {x : Nat → Sf} {P : Nat → Nat} (hX : SX cA pool dk rk x P) {tkb : Bool} (htk : tk = b2i tkb) : Met l yX11_never wsX11_never rmX11_never (va_Pc [.ref (ob 6)] (Pre D cA A (XW cA ob mb ss sh sp mt rc n o dr n1 o1 dr1 n2 o2 dr2 dk rk kt tk pool))) (va_Qi (fun r (u : XS) => (spNever n o kd fg r) ∧ XI cA u (n, o, kd, fg) (n1, o1, kd1, fg1) tkb x) (fun u t => Wd D A ((fun (u : XS) => XV cA ob u) u) t) A) (0) (0) A := by
  refine k_ofi (S := XS) (F := fun (u : XS) => XV cA ob u) (cc := cX11_never) (maxL := 1) (by decide) rfl (Nat.le_of_ble_eq_true rfl) ?_
  intro p e s m args below meth c Q hF hini hK hA hG hret ls hl
  have hl : lv_has ls 1 [(0, .ref (ob 6))] := hl
  have hn : n ≤ 6 := hI.1
  have ho : o < 64 := hI.o64
  have hp2 : 2 ^ n ≤ 64 := Nat.pow_le_pow_right (by decide) hn
  have hp1 : 1 ≤ 2 ^ n := Nat.one_le_two_pow
  refine lv_aload_n hF.1 hF.2.1 dX11_never_0 rfl (lv_at hl 0 rfl) ?_
  refine k_get (C := RX11) (T := TX11) (N := 8) hF hK hG (fun _ h => List.mem_cons_of_mem _ (List.mem_append_left _ (List.mem_append_left _ (List.mem_append_left _ (List.mem_append_left _ (List.mem_append_left _ (List.mem_append_left _ (List.mem_append_left _ (List.mem_append_left _ (List.mem_append_left _ (List.mem_append_left _ (List.mem_append_right _ h)))))))))))) 6 rfl rfl 3 (by decide) (List.mem_of_getElem? (i := 1) rfl) (fun _ h9 => h9) rfl dX11_never_1 ?_
  refine lv_aload_n hF.1 hF.2.1 dX11_never_4 rfl (lv_at hl 0 rfl) ?_
  refine k_get (C := RX11) (T := TX11) (N := 8) hF hK hG (fun _ h => List.mem_cons_of_mem _ (List.mem_append_left _ (List.mem_append_left _ (List.mem_append_left _ (List.mem_append_left _ (List.mem_append_left _ (List.mem_append_left _ (List.mem_append_left _ (List.mem_append_left _ (List.mem_append_left _ (List.mem_append_left _ (List.mem_append_right _ h)))))))))))) 6 rfl rfl 0 (by decide) (List.mem_of_getElem? (i := 2) rfl) (fun _ h9 => h9) rfl dX11_never_5 ?_
  refine k_cv (r_V (As := [.ref (ob 7)]) hF hK hA hG (c_X10_learn hI.w0) (cwV 1 hF.2.2.2.2 gX11_never_X10_learn rfl rfl rfl (by decide +kernel) ⟨Nat.le_of_ble_eq_true rfl, Nat.le_of_ble_eq_true rfl⟩) 0 rfl rfl rfl rfl hl.1 rfl (lv_room (Nat.le_of_ble_eq_true rfl)) dX11_never_8 ⟨Nat.le_of_ble_eq_true rfl, Nat.le_of_ble_eq_true rfl⟩) hG (fun u_8 H locs hp_8 hG => ?_)
  have hG : Gd D A (XW cA ob u_8 ss sh sp mt rc n o dr n1 o1 dr1 n2 o2 dr2 dk rk kt tk pool) s.heap H locs := hG
  have hma : ∀ z, z < 64 → u_8 z = nI (maW n kd fg z) ∧ maW n kd fg z < 64 := fun z hz => ⟨hp_8 z hz, maW_lt hn⟩
  refine lv_aload_n hF.1 hF.2.1 dX11_never_11 rfl (lv_at hl 0 rfl) ?_
  refine k_get (C := RX11) (T := TX11) (N := 8) hF hK hG (fun _ h => List.mem_cons_of_mem _ (List.mem_append_left _ (List.mem_append_left _ (List.mem_append_left _ (List.mem_append_left _ (List.mem_append_left _ (List.mem_append_left _ (List.mem_append_left _ (List.mem_append_left _ (List.mem_append_left _ (List.mem_append_left _ (List.mem_append_right _ h)))))))))))) 6 rfl rfl 3 (by decide) (List.mem_of_getElem? (i := 1) rfl) (fun _ h9 => h9) rfl dX11_never_12 ?_
  refine lv_aload_n hF.1 hF.2.1 dX11_never_15 rfl (lv_at hl 0 rfl) ?_
  refine k_get (C := RX11) (T := TX11) (N := 8) hF hK hG (fun _ h => List.mem_cons_of_mem _ (List.mem_append_left _ (List.mem_append_left _ (List.mem_append_left _ (List.mem_append_left _ (List.mem_append_left _ (List.mem_append_left _ (List.mem_append_left _ (List.mem_append_left _ (List.mem_append_left _ (List.mem_append_left _ (List.mem_append_right _ h)))))))))))) 6 rfl rfl 0 (by decide) (List.mem_of_getElem? (i := 2) rfl) (fun _ h9 => h9) rfl dX11_never_16 ?_
  refine k_get (C := RX9) (T := TX9) (N := 3) hF hK hG (fun _ h => List.mem_cons_of_mem _ (List.mem_append_left _ (List.mem_append_left _ (List.mem_append_left _ (List.mem_append_left _ (List.mem_append_left _ (List.mem_append_left _ (List.mem_append_left _ (List.mem_append_left _ (List.mem_append_left _ (List.mem_append_right _ h))))))))))) 7 rfl rfl 2 (by decide) (List.mem_of_getElem? (i := 3) rfl) (fun _ h9 => h9) rfl dX11_never_19 ?_
  refine k_cv (r_V (As := [.int (nI o)]) hF hK hA hG (c_X10_spread hma ho) (cwV 1 hF.2.2.2.2 gX11_never_X10_spread rfl rfl rfl (by decide +kernel) ⟨Nat.le_of_ble_eq_true rfl, Nat.le_of_ble_eq_true rfl⟩) 0 rfl rfl rfl rfl hl.1 rfl (lv_room (Nat.le_of_ble_eq_true rfl)) dX11_never_22 ⟨Nat.le_of_ble_eq_true rfl, Nat.le_of_ble_eq_true rfl⟩) hG (fun u_22 H locs hp_22 hG => ?_)
  have hG : Gd D A (XW cA ob u_8 u_22.1 u_22.2.1 u_22.2.2.1 u_22.2.2.2.1 u_22.2.2.2.2 n o dr n1 o1 dr1 n2 o2 dr2 dk rk kt tk pool) s.heap H locs := hG
  have hS := SPR_of (kd := kd) (fg := fg) hn hI.2.1
  refine lv_aload_n hF.1 hF.2.1 dX11_never_25 rfl (lv_at hl 0 rfl) ?_
  refine k_get (C := RX11) (T := TX11) (N := 8) hF hK hG (fun _ h => List.mem_cons_of_mem _ (List.mem_append_left _ (List.mem_append_left _ (List.mem_append_left _ (List.mem_append_left _ (List.mem_append_left _ (List.mem_append_left _ (List.mem_append_left _ (List.mem_append_left _ (List.mem_append_left _ (List.mem_append_left _ (List.mem_append_right _ h)))))))))))) 6 rfl rfl 0 (by decide) (List.mem_of_getElem? (i := 2) rfl) (fun _ h9 => h9) rfl dX11_never_26 ?_
  refine k_ci (r_V (As := []) hF hK hA hG (c_X9_allBits hI.w0) (cwV 0 hF.2.2.2.2 gX11_never_X9_allBits rfl rfl rfl (by decide +kernel) ⟨Nat.le_of_ble_eq_true rfl, Nat.le_of_ble_eq_true rfl⟩) 7 rfl rfl rfl rfl hl.1 rfl (lv_room (Nat.le_of_ble_eq_true rfl)) dX11_never_29 ⟨Nat.le_of_ble_eq_true rfl, Nat.le_of_ble_eq_true rfl⟩) hG (fun r_29 u_29 H locs hp_29 hG => ?_)
  subst hp_29
  refine lv_aload_n hF.1 hF.2.1 dX11_never_32 rfl (lv_at hl 0 rfl) ?_
  refine k_get (C := RX11) (T := TX11) (N := 8) hF hK hG (fun _ h => List.mem_cons_of_mem _ (List.mem_append_left _ (List.mem_append_left _ (List.mem_append_left _ (List.mem_append_left _ (List.mem_append_left _ (List.mem_append_left _ (List.mem_append_left _ (List.mem_append_left _ (List.mem_append_left _ (List.mem_append_left _ (List.mem_append_right _ h)))))))))))) 6 rfl rfl 3 (by decide) (List.mem_of_getElem? (i := 1) rfl) (fun _ h9 => h9) rfl dX11_never_33 ?_
  refine k_ci (r_V (As := []) hF hK hA hG (c_X10_everMay hma hp_22) (cwV 0 hF.2.2.2.2 gX11_never_X10_everMay rfl rfl rfl (by decide +kernel) ⟨Nat.le_of_ble_eq_true rfl, Nat.le_of_ble_eq_true rfl⟩) 0 rfl rfl rfl rfl hl.1 rfl (lv_room (Nat.le_of_ble_eq_true rfl)) dX11_never_36 ⟨Nat.le_of_ble_eq_true rfl, Nat.le_of_ble_eq_true rfl⟩) hG (fun r_36 u_36 H locs hp_36 hG => ?_)
  subst hp_36
  refine lv_iconst (v := (-1)) hF.1 hF.2.1 dX11_never_39 (by decide +kernel) ?_
  refine lv_ixor hF.1 hF.2.1 dX11_never_40 ?_
  refine lv_iand hF.1 hF.2.1 dX11_never_41 ?_
  rw [and_not (show 2 ^ n - 1 < 64 by omega) (emU_lt (kd := kd) (fg := fg) hn (bfsQ (maW n kd fg) 0 729 0 [(o, o &&& 0, 0)]) _ (Nat.le_refl _))]
  exact hret _ (_, _, _, _, _, _, _, _, _, _, _, _, _, _, _, _, _, _, _, _) _ ls _ _ _ _ (by refine ⟨⟨(fun z => optI (findQ (maW n kd fg) 0 (fun q => q.1 == z) 729 0 [(o, o &&& 0, 0)])), fun z _ => find_to hn hI.2.1, ?_⟩, ⟨⟨rfl, rfl⟩, ⟨rfl, rfl⟩, htk, hI, hJ, ⟨_, _, hM⟩, ⟨_, hX⟩⟩⟩; rw [never_ok hn hS (fun z _ => find_to hn hI.2.1)]) (by first | rfl | exact nar_b2i _) hG (Nat.le_of_ble_eq_true rfl) (Nat.le_of_ble_eq_true rfl) dX11_never_42

abbrev rmX11_at : Room := { frames := 6, cells := 0, slots := 0, locals := 134 }
set_option maxHeartbeats 4000000 in
set_option maxRecDepth 100000 in
theorem c_X11_at {l : Launch} {D : va_G} {cA : Nat → ClassId} {A : Nat → Prop}  {ob : Nat → Nat} {mb ss sh sp : Nat → Int32} {mt : Nat → Int64} {rc n o : Nat} {dr : Nat → Option Nat} {n1 o1 : Nat} {dr1 : Nat → Option Nat} {n2 o2 : Nat} {dr2 dk rk : Nat → Option Nat} {kt : Nat → Int32} {tk : Int32} {pool : va_W} {kd fg : Nat → Nat} (hI : WI pool n o dr kd fg) {kd1 fg1 : Nat → Nat} (hJ : WI pool n1 o1 dr1 kd1 fg1) {kd2 fg2 : Nat → Nat} (hM : WI pool n2 o2 dr2 kd2 fg2) {x : Nat → Sf} {P : Nat → Nat} (hX : SX cA pool dk rk x P) {tkb : Bool} (htk : tk = b2i tkb) {k : Int32} : Met l yX11_at wsX11_at rmX11_at (va_Pc [.ref (ob 6), .int k] (Pre D cA A (XW cA ob mb ss sh sp mt rc n o dr n1 o1 dr1 n2 o2 dr2 dk rk kt tk pool))) (va_Qi (fun r (u : XS) => (spAt n kd fg k r) ∧ XI cA u (n, o, kd, fg) (n1, o1, kd1, fg1) tkb x) (fun u t => Wd D A ((fun (u : XS) => XV cA ob u) u) t) A) (0) (0) A := by
  refine k_ofi (S := XS) (F := fun (u : XS) => XV cA ob u) (cc := cX11_at) (maxL := 2) (by decide) rfl (Nat.le_of_ble_eq_true rfl) ?_
  intro p e s m args below meth c Q hF hini hK hA hG hret ls hl
  have hl : lv_has ls 2 [(0, .ref (ob 6)), (1, .int k)] := hl
  have hn : n ≤ 6 := hI.1
  have ho : o < 64 := hI.o64
  have hp2 : 2 ^ n ≤ 64 := Nat.pow_le_pow_right (by decide) hn
  have hp1 : 1 ≤ 2 ^ n := Nat.one_le_two_pow
  refine lv_iload_n hF.1 hF.2.1 dX11_at_0 rfl (lv_at hl 1 rfl) ?_
  refine lv_if_ge (tgt := 6) hF.1 hF.2.1 dX11_at_1 (by decide) (fun c_1 => ?_) (fun c_1 => ?_)
  · --
    refine lv_aload_n hF.1 hF.2.1 dX11_at_6 rfl (lv_at hl 0 rfl) ?_
    refine k_get (C := RX11) (T := TX11) (N := 8) hF hK hG (fun _ h => List.mem_cons_of_mem _ (List.mem_append_left _ (List.mem_append_left _ (List.mem_append_left _ (List.mem_append_left _ (List.mem_append_left _ (List.mem_append_left _ (List.mem_append_left _ (List.mem_append_left _ (List.mem_append_left _ (List.mem_append_left _ (List.mem_append_right _ h)))))))))))) 6 rfl rfl 0 (by decide) (List.mem_of_getElem? (i := 1) rfl) (fun _ h9 => h9) rfl dX11_at_7 ?_
    refine k_ci (r_V (As := []) hF hK hA hG (c_X9_isJoiners hI.w0) (cwV 0 hF.2.2.2.2 gX11_at_X9_isJoiners rfl rfl rfl (by decide +kernel) ⟨Nat.le_of_ble_eq_true rfl, Nat.le_of_ble_eq_true rfl⟩) 7 rfl rfl rfl rfl hl.1 rfl (lv_room (Nat.le_of_ble_eq_true rfl)) dX11_at_10 ⟨Nat.le_of_ble_eq_true rfl, Nat.le_of_ble_eq_true rfl⟩) hG (fun r_10 u_10 H locs hp_10 hG => ?_)
    subst hp_10
    refine lv_if_ne (tgt := 19) hF.1 hF.2.1 dX11_at_13 (by decide) (fun c_13 => ?_) (fun c_13 => ?_)
    · --
      have n_13 : (joi n kd) = true := b2i_nz.mp c_13
      refine lv_aload_n hF.1 hF.2.1 dX11_at_19 rfl (lv_at hl 0 rfl) ?_
      refine k_get (C := RX11) (T := TX11) (N := 8) hF hK hG (fun _ h => List.mem_cons_of_mem _ (List.mem_append_left _ (List.mem_append_left _ (List.mem_append_left _ (List.mem_append_left _ (List.mem_append_left _ (List.mem_append_left _ (List.mem_append_left _ (List.mem_append_left _ (List.mem_append_left _ (List.mem_append_left _ (List.mem_append_right _ h)))))))))))) 6 rfl rfl 3 (by decide) (List.mem_of_getElem? (i := 2) rfl) (fun _ h9 => h9) rfl dX11_at_20 ?_
      refine lv_aload_n hF.1 hF.2.1 dX11_at_23 rfl (lv_at hl 0 rfl) ?_
      refine k_get (C := RX11) (T := TX11) (N := 8) hF hK hG (fun _ h => List.mem_cons_of_mem _ (List.mem_append_left _ (List.mem_append_left _ (List.mem_append_left _ (List.mem_append_left _ (List.mem_append_left _ (List.mem_append_left _ (List.mem_append_left _ (List.mem_append_left _ (List.mem_append_left _ (List.mem_append_left _ (List.mem_append_right _ h)))))))))))) 6 rfl rfl 0 (by decide) (List.mem_of_getElem? (i := 1) rfl) (fun _ h9 => h9) rfl dX11_at_24 ?_
      refine k_cv (r_V (As := [.ref (ob 7)]) hF hK hA hG (c_X10_learn hI.w0) (cwV 1 hF.2.2.2.2 gX11_at_X10_learn rfl rfl rfl (by decide +kernel) ⟨Nat.le_of_ble_eq_true rfl, Nat.le_of_ble_eq_true rfl⟩) 0 rfl rfl rfl rfl hl.1 rfl (lv_room (Nat.le_of_ble_eq_true rfl)) dX11_at_27 ⟨Nat.le_of_ble_eq_true rfl, Nat.le_of_ble_eq_true rfl⟩) hG (fun u_27 H locs hp_27 hG => ?_)
      have hG : Gd D A (XW cA ob u_27 ss sh sp mt rc n o dr n1 o1 dr1 n2 o2 dr2 dk rk kt tk pool) s.heap H locs := hG
      have hma : ∀ z, z < 64 → u_27 z = nI (maW n kd fg z) ∧ maW n kd fg z < 64 := fun z hz => ⟨hp_27 z hz, maW_lt hn⟩
      refine lv_aload_n hF.1 hF.2.1 dX11_at_30 rfl (lv_at hl 0 rfl) ?_
      refine k_get (C := RX11) (T := TX11) (N := 8) hF hK hG (fun _ h => List.mem_cons_of_mem _ (List.mem_append_left _ (List.mem_append_left _ (List.mem_append_left _ (List.mem_append_left _ (List.mem_append_left _ (List.mem_append_left _ (List.mem_append_left _ (List.mem_append_left _ (List.mem_append_left _ (List.mem_append_left _ (List.mem_append_right _ h)))))))))))) 6 rfl rfl 3 (by decide) (List.mem_of_getElem? (i := 2) rfl) (fun _ h9 => h9) rfl dX11_at_31 ?_
      refine lv_aload_n hF.1 hF.2.1 dX11_at_34 rfl (lv_at hl 0 rfl) ?_
      refine k_get (C := RX11) (T := TX11) (N := 8) hF hK hG (fun _ h => List.mem_cons_of_mem _ (List.mem_append_left _ (List.mem_append_left _ (List.mem_append_left _ (List.mem_append_left _ (List.mem_append_left _ (List.mem_append_left _ (List.mem_append_left _ (List.mem_append_left _ (List.mem_append_left _ (List.mem_append_left _ (List.mem_append_right _ h)))))))))))) 6 rfl rfl 0 (by decide) (List.mem_of_getElem? (i := 1) rfl) (fun _ h9 => h9) rfl dX11_at_35 ?_
      refine k_ci (r_V (As := []) hF hK hA hG (c_X9_allBits hI.w0) (cwV 0 hF.2.2.2.2 gX11_at_X9_allBits rfl rfl rfl (by decide +kernel) ⟨Nat.le_of_ble_eq_true rfl, Nat.le_of_ble_eq_true rfl⟩) 7 rfl rfl rfl rfl hl.1 rfl (lv_room (Nat.le_of_ble_eq_true rfl)) dX11_at_38 ⟨Nat.le_of_ble_eq_true rfl, Nat.le_of_ble_eq_true rfl⟩) hG (fun r_38 u_38 H locs hp_38 hG => ?_)
      subst hp_38
      refine k_cv (r_V (As := [.int (nI (2 ^ n - 1))]) hF hK hA hG (c_X10_spread hma (show 2 ^ n - 1 < 64 by omega)) (cwV 1 hF.2.2.2.2 gX11_at_X10_spread rfl rfl rfl (by decide +kernel) ⟨Nat.le_of_ble_eq_true rfl, Nat.le_of_ble_eq_true rfl⟩) 0 rfl rfl rfl rfl hl.1 rfl (lv_room (Nat.le_of_ble_eq_true rfl)) dX11_at_41 ⟨Nat.le_of_ble_eq_true rfl, Nat.le_of_ble_eq_true rfl⟩) hG (fun u_41 H locs hp_41 hG => ?_)
      have hG : Gd D A (XW cA ob u_27 u_41.1 u_41.2.1 u_41.2.2.1 u_41.2.2.2.1 u_41.2.2.2.2 n o dr n1 o1 dr1 n2 o2 dr2 dk rk kt tk pool) s.heap H locs := hG
      have hS := SPR_of (kd := kd) (fg := fg) hn (show 2 ^ n - 1 < 2 ^ n by omega)
      refine lv_aload_n hF.1 hF.2.1 dX11_at_44 rfl (lv_at hl 0 rfl) ?_
      refine k_get (C := RX11) (T := TX11) (N := 8) hF hK hG (fun _ h => List.mem_cons_of_mem _ (List.mem_append_left _ (List.mem_append_left _ (List.mem_append_left _ (List.mem_append_left _ (List.mem_append_left _ (List.mem_append_left _ (List.mem_append_left _ (List.mem_append_left _ (List.mem_append_left _ (List.mem_append_left _ (List.mem_append_right _ h)))))))))))) 6 rfl rfl 3 (by decide) (List.mem_of_getElem? (i := 2) rfl) (fun _ h9 => h9) rfl dX11_at_45 ?_
      refine lv_iload_n hF.1 hF.2.1 dX11_at_48 rfl (lv_at hl 1 rfl) ?_
      refine k_ci (r_V (As := [.int k]) hF hK hA hG (c_X10_standingBehind hp_41) (cwV 1 hF.2.2.2.2 gX11_at_X10_standingBehind rfl rfl rfl (by decide +kernel) ⟨Nat.le_of_ble_eq_true rfl, Nat.le_of_ble_eq_true rfl⟩) 0 rfl rfl rfl rfl hl.1 rfl (lv_room (Nat.le_of_ble_eq_true rfl)) dX11_at_49 ⟨Nat.le_of_ble_eq_true rfl, Nat.le_of_ble_eq_true rfl⟩) hG (fun r_49 u_49 H locs hp_49 hG => ?_)
      exact hret _ (_, _, _, _, _, _, _, _, _, _, _, _, _, _, _, _, _, _, _, _) _ ls _ _ _ _ (by refine ⟨?_, ⟨⟨rfl, rfl⟩, ⟨rfl, rfl⟩, htk, hI, hJ, ⟨_, _, hM⟩, ⟨_, hX⟩⟩⟩; unfold spAt; rw [if_neg (Int32.not_lt.mpr c_1), if_pos n_13, hp_49]; exact at_ok hn (howU_all n (of_decide_eq_true n_13)) hS (Int32.not_lt.mpr c_1)) (by first | rfl | exact nar_b2i _) hG (Nat.le_of_ble_eq_true rfl) (Nat.le_of_ble_eq_true rfl) dX11_at_52
    · --
      have n_13 : (joi n kd) = false := b2i_z.mp c_13
      refine lv_bipush (v := (-3)) hF.1 hF.2.1 dX11_at_16 (by decide +kernel) ?_
      exact hret _ (_, _, _, _, _, _, _, _, _, _, _, _, _, _, _, _, _, _, _, _) _ ls _ _ _ _ (by refine ⟨?_, ⟨⟨rfl, rfl⟩, ⟨rfl, rfl⟩, htk, hI, hJ, ⟨_, _, hM⟩, ⟨_, hX⟩⟩⟩; unfold spAt; rw [if_neg (Int32.not_lt.mpr c_1), n_13]; rfl) (by first | rfl | exact nar_b2i _) hG (Nat.le_of_ble_eq_true rfl) (Nat.le_of_ble_eq_true rfl) dX11_at_18
  · --
    refine lv_iconst (v := (-1)) hF.1 hF.2.1 dX11_at_4 (by decide +kernel) ?_
    exact hret _ (_, _, _, _, _, _, _, _, _, _, _, _, _, _, _, _, _, _, _, _) _ ls _ _ _ _ (by refine ⟨?_, ⟨⟨rfl, rfl⟩, ⟨rfl, rfl⟩, htk, hI, hJ, ⟨_, _, hM⟩, ⟨_, hX⟩⟩⟩; unfold spAt; rw [if_pos (Int32.not_le.mp c_1)]) (by first | rfl | exact nar_b2i _) hG (Nat.le_of_ble_eq_true rfl) (Nat.le_of_ble_eq_true rfl) dX11_at_5
