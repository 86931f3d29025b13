/-! ===== the class's world ===== -/
abbrev XW (cA : Nat → ClassId) (ob : Nat → Nat) (mb ss sh sp : Nat → Int32) (mt : Nat → Int64) (rc n o : Nat) (dr : Nat → Option Nat) (n1 o1 : Nat) (dr1 : Nat → Option Nat) (n2 o2 : Nat) (dr2 dk rk : Nat → Option Nat) (kt : Nat → Int32) (tk : Int32) (pool : va_W) : va_W :=
  YW cA (ob 0) (ob 1) (ob 2) (ob 3) (ob 4) (ob 5) mb ss sh sp mt rc ((ob 6, .inr (11, [.ref (ob 7), .ref (ob 8), .ref (ob 9), .ref (ob 0), .ref (ob 13), .ref (ob 14), .ref (ob 15), .int tk])) :: (ob 7, .inr (9, [.ref (ob 10), .int (nI n), .int (nI o)])) :: (ob 8, .inr (9, [.ref (ob 11), .int (nI n1), .int (nI o1)])) :: (ob 9, .inr (9, [.ref (ob 12), .int (nI n2), .int (nI o2)])) :: (ob 10, .inl (cA 2, 6, .inr (.inr (.inr (.inr dr))))) :: (ob 11, .inl (cA 2, 6, .inr (.inr (.inr (.inr dr1))))) :: (ob 12, .inl (cA 2, 6, .inr (.inr (.inr (.inr dr2))))) :: (ob 13, .inl (cA 2, 8, .inr (.inr (.inr (.inr dk))))) :: (ob 14, .inl (cA 3, 8, .inr (.inr (.inr (.inr rk))))) :: (ob 15, .inl (cA 0, 64, .inl kt)) :: pool)
theorem DR.cons {ws : va_W} {z : Nat × va_E} {b k f : Nat} (h : DR ws b k f) : DR (z :: ws) b k f := by
  obtain ⟨h1, h2, q, h3⟩ := h
  refine ⟨h1, h2, q + 1, ?_⟩
  rw [List.getElem?_cons_succ]
  exact h3
theorem DP.cons {ws : va_W} {z : Nat × va_E} {dr : Nat → Option Nat} {m : Nat} {kd fg : Nat → Nat} (h : DP ws dr m kd fg) : DP (z :: ws) dr m kd fg := ⟨fun j hj => let ⟨b, e1, e2⟩ := h.1 j hj; ⟨b, e1, e2.cons⟩, h.2⟩
/-- a wall's inside, over the drawers of the pool -/
def WI (pool : va_W) (n o : Nat) (dr : Nat → Option Nat) (kd fg : Nat → Nat) : Prop := n ≤ 6 ∧ o < 2 ^ n ∧ DP pool dr n kd fg
theorem WI.o64 {pool : va_W} {n o : Nat} {dr : Nat → Option Nat} {kd fg : Nat → Nat} (h : WI pool n o dr kd fg) : o < 64 := Nat.lt_of_lt_of_le h.2.1 (Nat.pow_le_pow_right (by decide) h.1)
theorem WI.push {pool l : va_W} {n o : Nat} {dr : Nat → Option Nat} {kd fg : Nat → Nat} (h : WI pool n o dr kd fg) : WI (pool ++ l) n o dr kd fg := ⟨h.1, h.2.1, h.2.2.push⟩
theorem WI.keepA {pool : va_W} {n o q0 a c m : Nat} {dr : Nat → Option Nat} {kd fg : Nat → Nat} {x : (Nat → Int32) ⊕ (Nat → Int64) ⊕ (Nat → UInt32) ⊕ (Nat → UInt64) ⊕ (Nat → Option Nat)} {e : Nat × va_E} (h : WI pool n o dr kd fg) (h0 : pool[q0]? = some (a, .inl (c, m, x))) : WI (pool.set q0 e) n o dr kd fg := ⟨h.1, h.2.1, h.2.2.keepA h0⟩
theorem WI.setO {pool : va_W} {n o o' : Nat} {dr : Nat → Option Nat} {kd fg : Nat → Nat} (h : WI pool n o dr kd fg) (ho : o' < 2 ^ n) : WI pool n o' dr kd fg := ⟨h.1, ho, h.2.2⟩
theorem WI.rep {pool : va_W} {n o j b k f : Nat} {dr : Nat → Option Nat} {kd fg : Nat → Nat} (h : WI pool n o dr kd fg) (hj : j < n) (hb : DR pool b k f) : WI pool n o (va_up dr j (some b)) (va_up kd j k) (va_up fg j f) := by
  refine ⟨h.1, h.2.1, fun i hi => ?_, fun i hi => ?_⟩
  · by_cases e : i = j
    · subst e
      rw [va_up_self, va_up_self, va_up_self]
      exact ⟨b, rfl, hb⟩
    · rw [va_up_ne _ _ e, va_up_ne _ _ e, va_up_ne _ _ e]
      exact h.2.2.1 i hi
  · rw [va_up_ne _ _ (by omega)]
    exact h.2.2.2 i hi
theorem WI.add {pool : va_W} {n o b k f : Nat} {dr : Nat → Option Nat} {kd fg : Nat → Nat} (h : WI pool n o dr kd fg) (hn : n < 6) (hb : DR pool b k f) : WI pool (n + 1) o (va_up dr n (some b)) (va_up kd n k) (va_up fg n f) := by
  refine ⟨by omega, Nat.lt_trans h.2.1 (Nat.pow_lt_pow_right (by decide) (Nat.lt_succ_self n)), fun i hi => ?_, fun i hi => ?_⟩
  · by_cases e : i = n
    · subst e
      rw [va_up_self, va_up_self, va_up_self]
      exact ⟨b, rfl, hb⟩
    · rw [va_up_ne _ _ e, va_up_ne _ _ e, va_up_ne _ _ e]
      exact h.2.2.1 i (by omega)
  · rw [va_up_ne _ _ (by omega)]
    exact h.2.2.2 i (by omega)
section XWS
variable {cA : Nat → ClassId} {ob : Nat → Nat} {mb ss sh sp : Nat → Int32} {mt : Nat → Int64} {rc n o : Nat} {dr : Nat → Option Nat} {n1 o1 : Nat} {dr1 : Nat → Option Nat} {n2 o2 : Nat} {dr2 dk rk : Nat → Option Nat} {kt : Nat → Int32} {tk : Int32} {pool : va_W}
theorem DR.c16 {b k f : Nat} (h : DR pool b k f) : DR (XW cA ob mb ss sh sp mt rc n o dr n1 o1 dr1 n2 o2 dr2 dk rk kt tk pool) b k f := h.cons.cons.cons.cons.cons.cons.cons.cons.cons.cons.cons.cons.cons.cons.cons.cons
theorem DP.c16 {d : Nat → Option Nat} {m : Nat} {kd fg : Nat → Nat} (h : DP pool d m kd fg) : DP (XW cA ob mb ss sh sp mt rc n o dr n1 o1 dr1 n2 o2 dr2 dk rk kt tk pool) d m kd fg := h.cons.cons.cons.cons.cons.cons.cons.cons.cons.cons.cons.cons.cons.cons.cons.cons
theorem WI.w0 {kd fg : Nat → Nat} (h : WI pool n o dr kd fg) : WL cA (XW cA ob mb ss sh sp mt rc n o dr n1 o1 dr1 n2 o2 dr2 dk rk kt tk pool) (ob 7) (ob 10) 7 10 dr n o kd fg := ⟨rfl, rfl, h.1, h.2.1, h.2.2.c16⟩
theorem WI.w1 {kd fg : Nat → Nat} (h : WI pool n1 o1 dr1 kd fg) : WL cA (XW cA ob mb ss sh sp mt rc n o dr n1 o1 dr1 n2 o2 dr2 dk rk kt tk pool) (ob 8) (ob 11) 8 11 dr1 n1 o1 kd fg := ⟨rfl, rfl, h.1, h.2.1, h.2.2.c16⟩
theorem WI.w2 {kd fg : Nat → Nat} (h : WI pool n2 o2 dr2 kd fg) : WL cA (XW cA ob mb ss sh sp mt rc n o dr n1 o1 dr1 n2 o2 dr2 dk rk kt tk pool) (ob 9) (ob 12) 9 12 dr2 n2 o2 kd fg := ⟨rfl, rfl, h.1, h.2.1, h.2.2.c16⟩
theorem RW.cons {ws : va_W} {z : Nat × va_E} {r arr qr qa so m : Nat} {f : Nat → Int32} (h : RW cA ws r arr qr qa so m f) : RW cA (z :: ws) r arr (qr + 1) (qa + 1) so m f := by
  obtain ⟨h1, h2, h3⟩ := h
  exact ⟨by rw [List.getElem?_cons_succ]; exact h1, by rw [List.getElem?_cons_succ]; exact h2, h3⟩
theorem RW.c16 {r arr qr qa so m : Nat} {f : Nat → Int32} (h : RW cA pool r arr qr qa so m f) : RW cA (XW cA ob mb ss sh sp mt rc n o dr n1 o1 dr1 n2 o2 dr2 dk rk kt tk pool) r arr (qr + 16) (qa + 16) so m f := h.cons.cons.cons.cons.cons.cons.cons.cons.cons.cons.cons.cons.cons.cons.cons.cons
theorem RW.push {ws l : va_W} {r arr qr qa so m : Nat} {f : Nat → Int32} (h : RW cA ws r arr qr qa so m f) : RW cA (ws ++ l) r arr qr qa so m f := ⟨pushK h.1, pushK h.2.1, h.2.2⟩
/-- what a shelf of the class holds -/
def SQ (cA : Nat → ClassId) (pool : va_W) (a b : Option Nat) (p : Nat) (y : Sf) : Prop := match y with
  | none => a = none ∧ b = none
  | some (.inl z) => (∃ w, a = some w ∧ DR pool w z.1 z.2) ∧ b = none
  | some (.inr z) => a = none ∧ ∃ r arr qr, b = some r ∧ RW cA pool r arr qr p z.1 z.2.1 z.2.2
def isRw (y : Sf) : Prop := ∃ z, y = some (.inr z)
def SX (cA : Nat → ClassId) (pool : va_W) (dk rk : Nat → Option Nat) (x : Nat → Sf) (P : Nat → Nat) : Prop := (∀ d, d < 8 → SQ cA pool (dk d) (rk d) (P d) (x d)) ∧ ∀ d e, d < 8 → e < 8 → d ≠ e → isRw (x d) → isRw (x e) → P d ≠ P e
def shA (f : Nat → Option Nat) (d : Int32) : Option Nat := if inB 8 d = true then f d.toNatClampNeg else none
theorem shA_j (f : Nat → Option Nat) {j : Nat} (hj : j < 8) : shA f (nI j) = f j := by
  unfold shA
  rw [if_pos (inB_j (by omega) hj), nI_clamp (by omega)]
theorem shA_f (f : Nat → Option Nat) {d : Int32} (h : inB 8 d = false) : shA f d = none := by
  unfold shA
  rw [h]
  rfl
def lkI (y : Option Sf) : Int32 := match y with
  | none => -1
  | some none => -11
  | some (some _) => -12
def hnB (y : Option Sf) : Bool := match y with
  | some (some _) => false
  | _ => true
variable {x : Nat → Sf} {P : Nat → Nat} {d : Int32}
theorem shA_n (hX : SX cA pool dk rk x P) (h : none = shA dk d) : lkI (sfA x d) = wkI (sfA x d) ∧ ¬ wkI (sfA x d) = 0 := by
  by_cases hb : inB 8 d = true
  · obtain ⟨j, hj, rfl⟩ := inB_ex (by omega) hb
    rw [shA_j dk hj] at h
    rw [sfA_j x hj]
    have h1 := hX.1 j hj
    cases e : x j with
    | none => exact ⟨rfl, m11_0⟩
    | some y =>
      rw [e] at h1
      cases y with
      | inl z =>
        obtain ⟨⟨w, h2, -⟩, -⟩ := h1
        rw [h2] at h
        cases h
      | inr z => exact ⟨rfl, m12_0⟩
  · rw [sfA_f x (by simpa using hb)]
    exact ⟨rfl, m1_0⟩
theorem shA_s (hX : SX cA pool dk rk x P) {b : Nat} (h : some b = shA dk d) : ∃ (j : Nat) (z : Nat × Nat), j < 8 ∧ d = nI j ∧ x j = some (.inl z) ∧ DR pool b z.1 z.2 := by
  by_cases hb : inB 8 d = true
  · obtain ⟨j, hj, rfl⟩ := inB_ex (by omega) hb
    rw [shA_j dk hj] at h
    have h1 := hX.1 j hj
    cases e : x j with
    | none =>
      rw [e] at h1
      rw [h1.1] at h
      cases h
    | some y =>
      rw [e] at h1
      cases y with
      | inl z =>
        obtain ⟨⟨w, h2, h3⟩, -⟩ := h1
        rw [h2] at h
        cases h
        exact ⟨j, z, hj, rfl, e, h3⟩
      | inr z =>
        rw [h1.1] at h
        cases h
  · rw [shA_f dk (by simpa using hb)] at h
    cases h
theorem shR_n (hX : SX cA pool dk rk x P) (h : none = shA rk d) : lkI (sfA x d) = wrA (sfA x d) ∧ ¬ wrA (sfA x d) = 0 := by
  by_cases hb : inB 8 d = true
  · obtain ⟨j, hj, rfl⟩ := inB_ex (by omega) hb
    rw [shA_j rk hj] at h
    rw [sfA_j x hj]
    have h1 := hX.1 j hj
    cases e : x j with
    | none => exact ⟨rfl, m11_0⟩
    | some y =>
      rw [e] at h1
      cases y with
      | inl z => exact ⟨rfl, m12_0⟩
      | inr z =>
        obtain ⟨-, r, arr, qr, h2, -⟩ := h1
        rw [h2] at h
        cases h
  · rw [sfA_f x (by simpa using hb)]
    exact ⟨rfl, m1_0⟩
theorem shR_s (hX : SX cA pool dk rk x P) {b : Nat} (h : some b = shA rk d) : ∃ (j : Nat) (z : Nat × Nat × (Nat → Int32)) (arr qr : Nat), j < 8 ∧ d = nI j ∧ x j = some (.inr z) ∧ RW cA pool b arr qr (P j) z.1 z.2.1 z.2.2 := by
  by_cases hb : inB 8 d = true
  · obtain ⟨j, hj, rfl⟩ := inB_ex (by omega) hb
    rw [shA_j rk hj] at h
    have h1 := hX.1 j hj
    cases e : x j with
    | none =>
      rw [e] at h1
      rw [h1.2] at h
      cases h
    | some y =>
      rw [e] at h1
      cases y with
      | inl z =>
        rw [h1.2] at h
        cases h
      | inr z =>
        obtain ⟨-, r, arr, qr, h2, h3⟩ := h1
        rw [h2] at h
        cases h
        exact ⟨j, z, arr, qr, hj, rfl, e, h3⟩
  · rw [shA_f rk (by simpa using hb)] at h
    cases h
theorem hn_t (hX : SX cA pool dk rk x P) (h1 : none = shA dk d) (h2 : none = shA rk d) : hnB (sfA x d) = true := by
  have a1 := (shA_n hX h1).2
  have a2 := (shR_n hX h2).2
  match sfA x d, a1, a2 with
  | none, _, _ => rfl
  | some none, _, _ => rfl
  | some (some (.inl z)), a1, _ => exact absurd (by decide +kernel : nI 0 = 0) a1
  | some (some (.inr z)), _, a2 => exact absurd (by decide +kernel : nI 0 = 0) a2
theorem hn_f1 (hX : SX cA pool dk rk x P) {b : Nat} (h : some b = shA dk d) : hnB (sfA x d) = false := by
  obtain ⟨j, z, hj, rfl, hx, -⟩ := shA_s hX h
  rw [sfA_j x hj, hx]
  rfl
theorem hn_f2 (hX : SX cA pool dk rk x P) {b : Nat} (h : some b = shA rk d) : hnB (sfA x d) = false := by
  obtain ⟨j, z, arr, qr, hj, rfl, hx, -⟩ := shR_s hX h
  rw [sfA_j x hj, hx]
  rfl
theorem lk_f (x : Nat → Sf) (h : inB 8 d = false) : lkI (sfA x d) = -1 := by
  rw [sfA_f x h]
  rfl
theorem lk_t (x : Nat → Sf) (h : inB 8 d = true) (h2 : hnB (sfA x d) = true) : lkI (sfA x d) = -11 := by
  obtain ⟨j, hj, rfl⟩ := inB_ex (by omega) h
  rw [sfA_j x hj] at h2 ⊢
  cases e : x j with
  | none => rfl
  | some y =>
    rw [e] at h2
    cases h2
theorem lk_s (x : Nat → Sf) (h2 : hnB (sfA x d) = false) : lkI (sfA x d) = -12 := by
  match sfA x d, h2 with
  | some (some z), _ => rfl
/-- what bytesOn answers -/
def byP (cA : Nat → ClassId) (pool : va_W) (x : Nat → Sf) (P : Nat → Nat) (d : Int32) (r : Option Nat) : Prop := match r with
  | none => lkI (sfA x d) = wr0 (sfA x d) ∧ ¬ wr0 (sfA x d) = 0
  | some b => ∃ (j : Nat) (z : Nat × Nat × (Nat → Int32)) (arr qr : Nat), j < 8 ∧ d = nI j ∧ x j = some (.inr z) ∧ z.1 = 0 ∧ RW cA pool b arr qr (P j) z.1 z.2.1 z.2.2
theorem by_n (h : lkI (sfA x d) = wrA (sfA x d) ∧ ¬ wrA (sfA x d) = 0) : byP cA pool x P d none := by
  show lkI (sfA x d) = wr0 (sfA x d) ∧ ¬ wr0 (sfA x d) = 0
  match sfA x d, h with
  | none, h => exact h
  | some none, h => exact h
  | some (some (.inl z)), h => exact h
  | some (some (.inr z)), h => exact absurd (by decide +kernel : nI 0 = 0) h.2
theorem by_w {j : Nat} {z : Nat × Nat × (Nat → Int32)} (hj : j < 8) (hx : x j = some (.inr z)) (h : ¬ z.1 = 0) : byP cA pool x P (nI j) none := by
  show lkI (sfA x (nI j)) = wr0 (sfA x (nI j)) ∧ ¬ wr0 (sfA x (nI j)) = 0
  rw [sfA_j x hj, hx]
  have : wr0 (some (some (.inr z))) = -12 := if_neg h
  rw [this]
  exact ⟨rfl, m12_0⟩
theorem SX.push (hX : SX cA pool dk rk x P) {l : va_W} : SX cA (pool ++ l) dk rk x P := by
  refine ⟨fun d hd => ?_, hX.2⟩
  have h1 := hX.1 d hd
  cases e : x d with
  | none =>
    rw [e] at h1
    exact h1
  | some y =>
    rw [e] at h1
    cases y with
    | inl z =>
      obtain ⟨⟨w, h2, h3⟩, h4⟩ := h1
      exact ⟨⟨w, h2, h3.push⟩, h4⟩
    | inr z =>
      obtain ⟨h0, r, arr, qr, h2, h3⟩ := h1
      exact ⟨h0, r, arr, qr, h2, h3.push⟩
/-- one shelf anew -/
theorem SX.one {pool' : va_W} {dk' rk' : Nat → Option Nat} {P' : Nat → Nat} {j : Nat} {y : Sf} (hX : SX cA pool dk rk x P) (hj : j < 8) (hy : SQ cA pool' (dk' j) (rk' j) (P' j) y)
    (hs : ∀ d, d < 8 → d ≠ j → dk' d = dk d ∧ rk' d = rk d ∧ P' d = P d ∧ ∀ a b, SQ cA pool a b (P d) (x d) → SQ cA pool' a b (P d) (x d)) (hn : isRw y → ∀ d, d < 8 → d ≠ j → isRw (x d) → P' j ≠ P d) : SX cA pool' dk' rk' (va_up x j y) P' := by
  refine ⟨fun d hd => ?_, fun d e hd he hde i1 i2 => ?_⟩
  · by_cases c : d = j
    · subst c
      rw [va_up_self]
      exact hy
    · rw [va_up_ne _ _ c]
      obtain ⟨a1, a2, a3, a4⟩ := hs d hd c
      rw [a1, a2, a3]
      exact a4 _ _ (hX.1 d hd)
  · by_cases c : d = j
    · subst c
      rw [va_up_self] at i1
      rw [va_up_ne _ _ (Ne.symm hde)] at i2
      rw [(hs e he (Ne.symm hde)).2.2.1]
      exact hn i1 e he (Ne.symm hde) i2
    · rw [va_up_ne _ _ c] at i1
      by_cases c2 : e = j
      · subst c2
        rw [va_up_self] at i2
        rw [(hs d hd c).2.2.1]
        exact (hn i2 d hd c i1).symm
      · rw [va_up_ne _ _ c2] at i2
        rw [(hs d hd c).2.2.1, (hs e he c2).2.2.1]
        exact hX.2 d e hd he hde i1 i2
theorem SX.setN (hX : SX cA pool dk rk x P) {j : Nat} (hj : j < 8) : SX cA pool (va_up dk j none) (va_up rk j none) (va_up x j none) P :=
  hX.one hj ⟨va_up_self _ _ _, va_up_self _ _ _⟩ (fun d _ c => ⟨va_up_ne _ _ c, va_up_ne _ _ c, rfl, fun _ _ h => h⟩) (fun h => by obtain ⟨z, h⟩ := h; cases h)
theorem SQ.push {l : va_W} {a b : Option Nat} {p : Nat} {y : Sf} (h : SQ cA pool a b p y) : SQ cA (pool ++ l) a b p y := by
  cases y with
  | none => exact h
  | some y =>
    cases y with
    | inl z =>
      obtain ⟨⟨w, h2, h3⟩, h4⟩ := h
      exact ⟨⟨w, h2, h3.push⟩, h4⟩
    | inr z =>
      obtain ⟨h0, r, arr, qr, h2, h3⟩ := h
      exact ⟨h0, r, arr, qr, h2, h3.push⟩
theorem SX.setD (hX : SX cA pool dk rk x P) {j q k f : Nat} (hj : j < 8) (hk : k < 8) (hf : f < 10) : SX cA (pool ++ [(q, .inr (kcI k, [.int (nI f)]))]) (va_up dk j (some q)) (va_up rk j none) (va_up x j (some (.inl (k, f)))) P :=
  hX.one hj ⟨⟨q, va_up_self _ _ _, hk, hf, pool.length, at_last pool _⟩, va_up_self _ _ _⟩ (fun d _ c => ⟨va_up_ne _ _ c, va_up_ne _ _ c, rfl, fun _ _ h => h.push⟩) (fun h => by obtain ⟨z, h⟩ := h; cases h)
theorem SX.lt (hX : SX cA pool dk rk x P) {d : Nat} (hd : d < 8) (h : isRw (x d)) : P d < pool.length := by
  obtain ⟨z, hz⟩ := h
  have h1 := hX.1 d hd
  rw [hz] at h1
  obtain ⟨-, r, arr, qr, -, h3⟩ := h1
  exact (List.getElem?_eq_some_iff.mp h3.2.1).1
theorem SX.setR (hX : SX cA pool dk rk x P) {j r arr so m : Nat} (hj : j < 8) (hso : so < 3) (hm : m ≤ 100) : SX cA (pool ++ [(r, .inr (6, [.int (nI so), .int (nI m), .ref arr])), (arr, .inl (cA 0, m, .inl (fun _ => 0)))]) (va_up dk j none) (va_up rk j (some r)) (va_up x j (some (.inr (so, m, fun _ => 0)))) (va_up P j (pool.length + 1)) :=
  hX.one hj ⟨va_up_self _ _ _, r, arr, pool.length, va_up_self _ _ _, by simp, by rw [va_up_self]; simp, hm, hso⟩ (fun d _ c => ⟨va_up_ne _ _ c, va_up_ne _ _ c, va_up_ne _ _ c, fun _ _ h => h.push⟩) (fun _ d hd c hz => by rw [va_up_self]; have := hX.lt hd hz; omega)
theorem SX.put (hX : SX cA pool dk rk x P) {j : Nat} {z : Nat × Nat × (Nat → Int32)} {b arr qr : Nat} {f : Nat → Int32} (hj : j < 8) (hx : x j = some (.inr z)) (hR : RW cA pool b arr qr (P j) z.1 z.2.1 z.2.2) (hb : some b = rk j) : SX cA (pool.set (P j) (arr, .inl (cA 0, z.2.1, .inl f))) dk rk (va_up x j (some (.inr (z.1, z.2.1, f)))) P := by
  have h1 := hX.1 j hj
  rw [hx] at h1
  refine hX.one hj ⟨h1.1, b, arr, qr, hb.symm, keep hR.2.1 hR.1 ne_ai, hit hR.2.1, hR.2.2⟩ (fun d hd c => ⟨rfl, rfl, rfl, fun u v h => ?_⟩) (fun _ d hd c hz => hX.2 j d hj hd (Ne.symm c) ⟨z, hx⟩ hz)
  cases e : x d with
  | none =>
    rw [e] at h
    exact h
  | some y =>
    rw [e] at h
    cases y with
    | inl z2 =>
      obtain ⟨⟨w, h2, h3⟩, h4⟩ := h
      exact ⟨⟨w, h2, h3.keepA hR.2.1⟩, h4⟩
    | inr z2 =>
      obtain ⟨h0, r, arr2, qr2, h2, h3⟩ := h
      refine ⟨h0, r, arr2, qr2, h2, keep hR.2.1 h3.1 ne_ai, ?_, h3.2.2⟩
      rw [List.getElem?_set_ne (hX.2 j d hj hd (Ne.symm c) ⟨z, hx⟩ ⟨z2, e⟩)]
      exact h3.2.1
end XWS
theorem st_app {ws l : va_W} {q : Nat} {z e1 e2 : Nat × va_E} (h : ws[q]? = some z) : (ws.set q e1 ++ l).set q e2 = ws.set q e2 ++ l := by
  have hq := (List.getElem?_eq_some_iff.mp h).1
  rw [List.set_append_left _ _ (by simpa using hq), List.set_set]
abbrev rmX9_init : Room := { frames := 1, cells := 1, slots := 6, locals := 24 }
set_option maxHeartbeats 4000000 in
set_option maxRecDepth 100000 in
theorem c_X9_init {l : Launch} {D : va_G} {cA : Nat → ClassId} {A : Nat → Prop} {ws : va_W} {w qw : Nat} (h1 : ws[qw]? = some (w, .inr (9, [.null, .int 0, .int 0]))) : Met l yX9_init wsX9_init rmX9_init (va_Pc [.ref w] (Pre D cA A (ws))) (va_Qv (fun _ => True) (fun u t => Wd D A ((fun (q1 : Nat) => (ws.set qw (w, .inr (9, [.ref q1, .int (nI 0), .int (nI 0)])) ++ ([(q1, .inl (cA 2, 6, .inr (.inr (.inr (.inr (fun _ => none))))))] : va_W))) u) t) A) (1) (6) A := by
  refine k_ofv (S := Nat) (F := fun (q1 : Nat) => (ws.set qw (w, .inr (9, [.ref q1, .int (nI 0), .int (nI 0)])) ++ ([(q1, .inl (cA 2, 6, .inr (.inr (.inr (.inr (fun _ => none))))))] : va_W))) (cc := cX9_init) (maxL := 1) (by decide) rfl (Nat.le_of_ble_eq_true rfl) ?_
  intro p e s m args below meth c Q hF hini hK hA hG hret ls hl
  have hl : lv_has ls 1 [(0, .ref w)] := hl
  refine lv_aload_n hF.1 hF.2.1 dX9_init_0 rfl (lv_at hl 0 rfl) ?_
  refine W.objInit hF.1 hF.2.1 hF.2.2.2.1 (hF.2.2.2.2 _ (List.mem_of_getElem? (i := 1) rfl)) (hF.2.2.2.2 _ (List.mem_of_getElem? (i := 2) rfl)) (hF.2.2.2.2 _ (List.mem_of_getElem? (i := 3) rfl)) rfl (by rw [hF.2.2.1]; exact hl.1) rfl dX9_init_1 (Nat.le_of_ble_eq_true rfl) (Nat.le_of_ble_eq_true rfl) ?_
  refine W.eq (g2 := F0 m 4 ls []) rfl ?_
  have hG : Gd D A (ws.set qw (w, .inr (9, [.null, .int 0, .int 0])) ++ ([] : va_W)) s.heap s.heap [] := by rw [set_same h1, List.append_nil]; exact hG
  refine lv_aload_n hF.1 hF.2.1 dX9_init_4 rfl (lv_at hl 0 rfl) ?_
  refine lv_bipush (v := (nI 6)) hF.1 hF.2.1 dX9_init_5 (by decide +kernel) ?_
  refine k_newq (t := 2) hF hK hA hG (List.mem_of_getElem? (i := 4) rfl) hK.2.2.1 rfl (N' := 6) rfl (by omega) (Nat.le_of_ble_eq_true rfl) (Nat.le_of_ble_eq_true rfl) dX9_init_7 (fun q1 H hG => ?_)
  have hG : Gd D A (ws.set qw (w, .inr (9, [.null, .int 0, .int 0])) ++ ([(q1, .inl (cA 2, 6, .inr (.inr (.inr (.inr (fun _ => none))))))] : va_W)) s.heap H [] := by rw [List.append_assoc] at hG; exact hG
  refine k_putF (C := RX9) (T := TX9) (N := 3) hF hK hG (fun _ h => List.mem_cons_of_mem _ (List.mem_append_right _ h)) tyX9 tyX9_ok nmX9 qw (pushK (hit h1)) rfl 0 (by decide) (List.mem_of_getElem? (i := 5) rfl) (fun _ h9 => h9) rfl hini rfl rfl rfl (Nat.le_of_ble_eq_true rfl) dX9_init_10 (fun H locs hG => ?_)
  have hG : Gd D A (ws.set qw (w, .inr (9, [.ref q1, .int 0, .int 0])) ++ ([(q1, .inl (cA 2, 6, .inr (.inr (.inr (.inr (fun _ => none))))))] : va_W)) s.heap H locs := by rw [st_app h1] at hG; exact hG
  refine lv_aload_n hF.1 hF.2.1 dX9_init_13 rfl (lv_at hl 0 rfl) ?_
  refine lv_iconst (v := (nI 0)) hF.1 hF.2.1 dX9_init_14 (by decide +kernel) ?_
  refine k_put (C := RX9) (T := TX9) (N := 3) hF hK hG (fun _ h => List.mem_cons_of_mem _ (List.mem_append_right _ h)) tyX9 tyX9_ok nmX9 qw (pushK (hit h1)) rfl 1 (by decide) (List.mem_of_getElem? (i := 6) rfl) (fun _ h9 => h9) rfl rfl rfl (Nat.le_of_ble_eq_true rfl) dX9_init_15 (fun H locs hG => ?_)
  have hG : Gd D A (ws.set qw (w, .inr (9, [.ref q1, .int (nI 0), .int 0])) ++ ([(q1, .inl (cA 2, 6, .inr (.inr (.inr (.inr (fun _ => none))))))] : va_W)) s.heap H locs := by rw [st_app h1] at hG; exact hG
  refine lv_aload_n hF.1 hF.2.1 dX9_init_18 rfl (lv_at hl 0 rfl) ?_
  refine lv_iconst (v := (nI 0)) hF.1 hF.2.1 dX9_init_19 (by decide +kernel) ?_
  refine k_put (C := RX9) (T := TX9) (N := 3) hF hK hG (fun _ h => List.mem_cons_of_mem _ (List.mem_append_right _ h)) tyX9 tyX9_ok nmX9 qw (pushK (hit h1)) rfl 2 (by decide) (List.mem_of_getElem? (i := 7) rfl) (fun _ h9 => h9) rfl rfl rfl (Nat.le_of_ble_eq_true rfl) dX9_init_20 (fun H locs hG => ?_)
  have hG : Gd D A (ws.set qw (w, .inr (9, [.ref q1, .int (nI 0), .int (nI 0)])) ++ ([(q1, .inl (cA 2, 6, .inr (.inr (.inr (.inr (fun _ => none))))))] : va_W)) s.heap H locs := by rw [st_app h1] at hG; exact hG
  exact hret q1 _ ls _ _ _ _ (by trivial) hG (Nat.le_of_ble_eq_true rfl) (Nat.le_of_ble_eq_true rfl) dX9_init_23

abbrev rmX10_init : Room := { frames := 1, cells := 5, slots := 2315, locals := 24 }
set_option maxHeartbeats 4000000 in
set_option maxRecDepth 100000 in
theorem c_X10_init {l : Launch} {D : va_G} {cA : Nat → ClassId} {A : Nat → Prop} {ws : va_W} {w qw : Nat} (h1 : ws[qw]? = some (w, .inr (10, [.null, .null, .null, .null, .null, .int 0]))) : Met l yX10_init wsX10_init rmX10_init (va_Pc [.ref w] (Pre D cA A (ws))) (va_Qv (fun _ => True) (fun u t => Wd D A ((fun (q : Nat → Nat) => (ws.set qw (w, .inr (10, [.ref (q 1), .ref (q 2), .ref (q 3), .ref (q 4), .ref (q 5), .int (nI 0)])) ++ ([((q 1), .inl (cA 0, 64, .inl (fun _ => 0))), ((q 2), .inl (cA 1, 64, .inr (.inl (fun _ => 0)))), ((q 3), .inl (cA 0, 729, .inl (fun _ => 0))), ((q 4), .inl (cA 0, 729, .inl (fun _ => 0))), ((q 5), .inl (cA 0, 729, .inl (fun _ => 0)))] : va_W))) u) t) A) (5) (2315) A := by
  refine k_ofv (S := Nat → Nat) (F := fun (q : Nat → Nat) => (ws.set qw (w, .inr (10, [.ref (q 1), .ref (q 2), .ref (q 3), .ref (q 4), .ref (q 5), .int (nI 0)])) ++ ([((q 1), .inl (cA 0, 64, .inl (fun _ => 0))), ((q 2), .inl (cA 1, 64, .inr (.inl (fun _ => 0)))), ((q 3), .inl (cA 0, 729, .inl (fun _ => 0))), ((q 4), .inl (cA 0, 729, .inl (fun _ => 0))), ((q 5), .inl (cA 0, 729, .inl (fun _ => 0)))] : va_W))) (cc := cX10_init) (maxL := 1) (by decide) rfl (Nat.le_of_ble_eq_true rfl) ?_
  intro p e s m args below meth c Q hF hini hK hA hG hret ls hl
  have hl : lv_has ls 1 [(0, .ref w)] := hl
  refine lv_aload_n hF.1 hF.2.1 dX10_init_0 rfl (lv_at hl 0 rfl) ?_
  refine W.objInit hF.1 hF.2.1 hF.2.2.2.1 (hF.2.2.2.2 _ (List.mem_of_getElem? (i := 1) rfl)) (hF.2.2.2.2 _ (List.mem_of_getElem? (i := 2) rfl)) (hF.2.2.2.2 _ (List.mem_of_getElem? (i := 3) rfl)) rfl (by rw [hF.2.2.1]; exact hl.1) rfl dX10_init_1 (Nat.le_of_ble_eq_true rfl) (Nat.le_of_ble_eq_true rfl) ?_
  refine W.eq (g2 := F0 m 4 ls []) rfl ?_
  have hG : Gd D A (ws.set qw (w, .inr (10, [.null, .null, .null, .null, .null, .int 0])) ++ ([] : va_W)) s.heap s.heap [] := by rw [set_same h1, List.append_nil]; exact hG
  refine lv_aload_n hF.1 hF.2.1 dX10_init_4 rfl (lv_at hl 0 rfl) ?_
  refine lv_bipush (v := (nI 64)) hF.1 hF.2.1 dX10_init_5 (by decide +kernel) ?_
  refine k_newi hF hK hA hG (List.mem_of_getElem? (i := 4) rfl) (N' := 64) rfl (by omega) (Nat.le_of_ble_eq_true rfl) (Nat.le_of_ble_eq_true rfl) dX10_init_7 (fun q1 H hG => ?_)
  have hG : Gd D A (ws.set qw (w, .inr (10, [.null, .null, .null, .null, .null, .int 0])) ++ ([(q1, .inl (cA 0, 64, .inl (fun _ => 0)))] : va_W)) s.heap H [] := by rw [List.append_assoc] at hG; exact hG
  refine k_putF (C := RX10) (T := TX10) (N := 6) hF hK hG (fun _ h => List.mem_cons_of_mem _ (List.mem_append_right _ h)) tyX10 tyX10_ok nmX10 qw (pushK (hit h1)) rfl 0 (by decide) (List.mem_of_getElem? (i := 5) rfl) (fun _ h9 => h9) rfl hini rfl rfl rfl (Nat.le_of_ble_eq_true rfl) dX10_init_9 (fun H locs hG => ?_)
  have hG : Gd D A (ws.set qw (w, .inr (10, [.ref q1, .null, .null, .null, .null, .int 0])) ++ ([(q1, .inl (cA 0, 64, .inl (fun _ => 0)))] : va_W)) s.heap H locs := by rw [st_app h1] at hG; exact hG
  refine lv_aload_n hF.1 hF.2.1 dX10_init_12 rfl (lv_at hl 0 rfl) ?_
  refine lv_bipush (v := (nI 64)) hF.1 hF.2.1 dX10_init_13 (by decide +kernel) ?_
  refine k_newl hF hK hA hG (List.mem_of_getElem? (i := 6) rfl) (N' := 64) rfl (by omega) (Nat.le_of_ble_eq_true rfl) (Nat.le_of_ble_eq_true rfl) dX10_init_15 (fun q2 H hG => ?_)
  have hG : Gd D A (ws.set qw (w, .inr (10, [.ref q1, .null, .null, .null, .null, .int 0])) ++ ([(q1, .inl (cA 0, 64, .inl (fun _ => 0))), (q2, .inl (cA 1, 64, .inr (.inl (fun _ => 0))))] : va_W)) s.heap H locs := by rw [List.append_assoc] at hG; exact hG
  refine k_putF (C := RX10) (T := TX10) (N := 6) hF hK hG (fun _ h => List.mem_cons_of_mem _ (List.mem_append_right _ h)) tyX10 tyX10_ok nmX10 qw (pushK (hit h1)) rfl 1 (by decide) (List.mem_of_getElem? (i := 7) rfl) (fun _ h9 => h9) rfl hini rfl rfl rfl (Nat.le_of_ble_eq_true rfl) dX10_init_17 (fun H locs hG => ?_)
  have hG : Gd D A (ws.set qw (w, .inr (10, [.ref q1, .ref q2, .null, .null, .null, .int 0])) ++ ([(q1, .inl (cA 0, 64, .inl (fun _ => 0))), (q2, .inl (cA 1, 64, .inr (.inl (fun _ => 0))))] : va_W)) s.heap H locs := by rw [st_app h1] at hG; exact hG
  refine lv_aload_n hF.1 hF.2.1 dX10_init_20 rfl (lv_at hl 0 rfl) ?_
  refine lv_sipush (v := (nI 729)) hF.1 hF.2.1 dX10_init_21 (by decide +kernel) ?_
  refine k_newi hF hK hA hG (List.mem_of_getElem? (i := 4) rfl) (N' := 729) rfl (by omega) (Nat.le_of_ble_eq_true rfl) (Nat.le_of_ble_eq_true rfl) dX10_init_24 (fun q3 H hG => ?_)
  have hG : Gd D A (ws.set qw (w, .inr (10, [.ref q1, .ref q2, .null, .null, .null, .int 0])) ++ ([(q1, .inl (cA 0, 64, .inl (fun _ => 0))), (q2, .inl (cA 1, 64, .inr (.inl (fun _ => 0)))), (q3, .inl (cA 0, 729, .inl (fun _ => 0)))] : va_W)) s.heap H locs := by rw [List.append_assoc] at hG; exact hG
  refine k_putF (C := RX10) (T := TX10) (N := 6) hF hK hG (fun _ h => List.mem_cons_of_mem _ (List.mem_append_right _ h)) tyX10 tyX10_ok nmX10 qw (pushK (hit h1)) rfl 2 (by decide) (List.mem_of_getElem? (i := 8) rfl) (fun _ h9 => h9) rfl hini rfl rfl rfl (Nat.le_of_ble_eq_true rfl) dX10_init_26 (fun H locs hG => ?_)
  have hG : Gd D A (ws.set qw (w, .inr (10, [.ref q1, .ref q2, .ref q3, .null, .null, .int 0])) ++ ([(q1, .inl (cA 0, 64, .inl (fun _ => 0))), (q2, .inl (cA 1, 64, .inr (.inl (fun _ => 0)))), (q3, .inl (cA 0, 729, .inl (fun _ => 0)))] : va_W)) s.heap H locs := by rw [st_app h1] at hG; exact hG
  refine lv_aload_n hF.1 hF.2.1 dX10_init_29 rfl (lv_at hl 0 rfl) ?_
  refine lv_sipush (v := (nI 729)) hF.1 hF.2.1 dX10_init_30 (by decide +kernel) ?_
  refine k_newi hF hK hA hG (List.mem_of_getElem? (i := 4) rfl) (N' := 729) rfl (by omega) (Nat.le_of_ble_eq_true rfl) (Nat.le_of_ble_eq_true rfl) dX10_init_33 (fun q4 H hG => ?_)
  have hG : Gd D A (ws.set qw (w, .inr (10, [.ref q1, .ref q2, .ref q3, .null, .null, .int 0])) ++ ([(q1, .inl (cA 0, 64, .inl (fun _ => 0))), (q2, .inl (cA 1, 64, .inr (.inl (fun _ => 0)))), (q3, .inl (cA 0, 729, .inl (fun _ => 0))), (q4, .inl (cA 0, 729, .inl (fun _ => 0)))] : va_W)) s.heap H locs := by rw [List.append_assoc] at hG; exact hG
  refine k_putF (C := RX10) (T := TX10) (N := 6) hF hK hG (fun _ h => List.mem_cons_of_mem _ (List.mem_append_right _ h)) tyX10 tyX10_ok nmX10 qw (pushK (hit h1)) rfl 3 (by decide) (List.mem_of_getElem? (i := 9) rfl) (fun _ h9 => h9) rfl hini rfl rfl rfl (Nat.le_of_ble_eq_true rfl) dX10_init_35 (fun H locs hG => ?_)
  have hG : Gd D A (ws.set qw (w, .inr (10, [.ref q1, .ref q2, .ref q3, .ref q4, .null, .int 0])) ++ ([(q1, .inl (cA 0, 64, .inl (fun _ => 0))), (q2, .inl (cA 1, 64, .inr (.inl (fun _ => 0)))), (q3, .inl (cA 0, 729, .inl (fun _ => 0))), (q4, .inl (cA 0, 729, .inl (fun _ => 0)))] : va_W)) s.heap H locs := by rw [st_app h1] at hG; exact hG
  refine lv_aload_n hF.1 hF.2.1 dX10_init_38 rfl (lv_at hl 0 rfl) ?_
  refine lv_sipush (v := (nI 729)) hF.1 hF.2.1 dX10_init_39 (by decide +kernel) ?_
  refine k_newi hF hK hA hG (List.mem_of_getElem? (i := 4) rfl) (N' := 729) rfl (by omega) (Nat.le_of_ble_eq_true rfl) (Nat.le_of_ble_eq_true rfl) dX10_init_42 (fun q5 H hG => ?_)
  have hG : Gd D A (ws.set qw (w, .inr (10, [.ref q1, .ref q2, .ref q3, .ref q4, .null, .int 0])) ++ ([(q1, .inl (cA 0, 64, .inl (fun _ => 0))), (q2, .inl (cA 1, 64, .inr (.inl (fun _ => 0)))), (q3, .inl (cA 0, 729, .inl (fun _ => 0))), (q4, .inl (cA 0, 729, .inl (fun _ => 0))), (q5, .inl (cA 0, 729, .inl (fun _ => 0)))] : va_W)) s.heap H locs := by rw [List.append_assoc] at hG; exact hG
  refine k_putF (C := RX10) (T := TX10) (N := 6) hF hK hG (fun _ h => List.mem_cons_of_mem _ (List.mem_append_right _ h)) tyX10 tyX10_ok nmX10 qw (pushK (hit h1)) rfl 4 (by decide) (List.mem_of_getElem? (i := 10) rfl) (fun _ h9 => h9) rfl hini rfl rfl rfl (Nat.le_of_ble_eq_true rfl) dX10_init_44 (fun H locs hG => ?_)
  have hG : Gd D A (ws.set qw (w, .inr (10, [.ref q1, .ref q2, .ref q3, .ref q4, .ref q5, .int 0])) ++ ([(q1, .inl (cA 0, 64, .inl (fun _ => 0))), (q2, .inl (cA 1, 64, .inr (.inl (fun _ => 0)))), (q3, .inl (cA 0, 729, .inl (fun _ => 0))), (q4, .inl (cA 0, 729, .inl (fun _ => 0))), (q5, .inl (cA 0, 729, .inl (fun _ => 0)))] : va_W)) s.heap H locs := by rw [st_app h1] at hG; exact hG
  refine lv_aload_n hF.1 hF.2.1 dX10_init_47 rfl (lv_at hl 0 rfl) ?_
  refine lv_iconst (v := (nI 0)) hF.1 hF.2.1 dX10_init_48 (by decide +kernel) ?_
  refine k_put (C := RX10) (T := TX10) (N := 6) hF hK hG (fun _ h => List.mem_cons_of_mem _ (List.mem_append_right _ h)) tyX10 tyX10_ok nmX10 qw (pushK (hit h1)) rfl 5 (by decide) (List.mem_of_getElem? (i := 11) rfl) (fun _ h9 => h9) rfl rfl rfl (Nat.le_of_ble_eq_true rfl) dX10_init_49 (fun H locs hG => ?_)
  have hG : Gd D A (ws.set qw (w, .inr (10, [.ref q1, .ref q2, .ref q3, .ref q4, .ref q5, .int (nI 0)])) ++ ([(q1, .inl (cA 0, 64, .inl (fun _ => 0))), (q2, .inl (cA 1, 64, .inr (.inl (fun _ => 0)))), (q3, .inl (cA 0, 729, .inl (fun _ => 0))), (q4, .inl (cA 0, 729, .inl (fun _ => 0))), (q5, .inl (cA 0, 729, .inl (fun _ => 0)))] : va_W)) s.heap H locs := by rw [st_app h1] at hG; exact hG
  exact hret (fun k => ([w, q1, q2, q3, q4, q5] : List Nat).getD k 0) _ ls _ _ _ _ (by trivial) hG (Nat.le_of_ble_eq_true rfl) (Nat.le_of_ble_eq_true rfl) dX10_init_52

abbrev rmX11_init : Room := { frames := 2, cells := 15, slots := 2431, locals := 44 }
set_option maxHeartbeats 4000000 in
set_option maxRecDepth 100000 in
theorem c_X11_init {l : Launch} {D : va_G} {cA : Nat → ClassId} {A : Nat → Prop}  {w : Nat} : Met l yX11_init wsX11_init rmX11_init (va_Pc [.ref w] (Pre D cA A ([((w, .inr (11, [.null, .null, .null, .null, .null, .null, .null, .int 0])) : Nat × va_E)]))) (va_Qv (fun (ob : Nat → Nat) => ob 6 = w) (fun u t => Wd D A ((fun (ob : Nat → Nat) => XW cA ob (fun _ => 0) (fun _ => 0) (fun _ => 0) (fun _ => 0) (fun _ => 0) 0 0 0 (fun _ => none) 0 0 (fun _ => none) 0 0 (fun _ => none) (fun _ => none) (fun _ => none) (fun _ => 0) (nI 0) []) u) t) A) (15) (2431) A := by
  refine k_ofv (S := Nat → Nat) (F := fun (ob : Nat → Nat) => XW cA ob (fun _ => 0) (fun _ => 0) (fun _ => 0) (fun _ => 0) (fun _ => 0) 0 0 0 (fun _ => none) 0 0 (fun _ => none) 0 0 (fun _ => none) (fun _ => none) (fun _ => none) (fun _ => 0) (nI 0) []) (cc := cX11_init) (maxL := 1) (by decide) rfl (Nat.le_of_ble_eq_true rfl) ?_
  intro p e s m args below meth c Q hF hini hK hA hG hret ls hl
  have hl : lv_has ls 1 [(0, .ref w)] := hl
  refine lv_aload_n hF.1 hF.2.1 dX11_init_0 rfl (lv_at hl 0 rfl) ?_
  refine W.objInit hF.1 hF.2.1 hF.2.2.2.1 (hF.2.2.2.2 _ (List.mem_of_getElem? (i := 1) rfl)) (hF.2.2.2.2 _ (List.mem_of_getElem? (i := 2) rfl)) (hF.2.2.2.2 _ (List.mem_of_getElem? (i := 3) rfl)) rfl (by rw [hF.2.2.1]; exact hl.1) rfl dX11_init_1 (Nat.le_of_ble_eq_true rfl) (Nat.le_of_ble_eq_true rfl) ?_
  refine W.eq (g2 := F0 m 4 ls []) rfl ?_
  refine lv_aload_n hF.1 hF.2.1 dX11_init_4 rfl (lv_at hl 0 rfl) ?_
  refine k_new (C := RX9) (T := TX9) (N := 3) (ci := 9) (fs := [.null, .int 0, .int 0]) hF hK hA hG (fun _ h => List.mem_cons_of_mem _ (List.mem_append_left _ (List.mem_append_left _ (List.mem_append_right _ h)))) tyX9 tyX9_ok (List.mem_of_getElem? (i := 4) rfl) (List.mem_of_getElem? (i := 5) rfl) (List.mem_of_getElem? (i := 6) rfl) rfl (by decide +kernel) (Nat.le_of_ble_eq_true rfl) (Nat.le_of_ble_eq_true rfl) dX11_init_5 (fun w0 H hG => ?_)
  have hG : Gd D A ([(w, .inr (11, [.null, .null, .null, .null, .null, .null, .null, .int 0])), (w0, .inr (9, [.null, .int 0, .int 0]))] : va_W) s.heap H _ := hG
  refine lv_dup hF.1 hF.2.1 dX11_init_8 rfl ?_
  refine k_cv (r_IN (As := []) hF hK hA hG (c_X9_init (qw := 1) rfl) ⟨(va_cnB 0 hF.2.2.2.2 gX11_init_X9_init_n9 rfl rfl rfl (hK.2.2.2.2 _ (List.mem_of_getElem? (i := 1) rfl)) (hF.2.2.2.2 _ (List.mem_of_getElem? (i := 6) rfl)) (by decide +kernel) ⟨Nat.le_of_ble_eq_true rfl, Nat.le_of_ble_eq_true rfl⟩), rfl, hF.2.2.2.2 _ (List.mem_of_getElem? (i := 21) rfl)⟩ rfl hl.1 rfl (lv_room (Nat.le_of_ble_eq_true rfl)) dX11_init_9 ⟨Nat.le_of_ble_eq_true rfl, Nat.le_of_ble_eq_true rfl⟩) hG (fun a0 H locs hp_9 hG => ?_)
  have hG : Gd D A ([(w, .inr (11, [.null, .null, .null, .null, .null, .null, .null, .int 0])), (w0, .inr (9, [.ref a0, .int (nI 0), .int (nI 0)])), (a0, .inl (cA 2, 6, .inr (.inr (.inr (.inr (fun _ => none))))))] : va_W) s.heap H _ := hG
  refine k_putF (C := RX11) (T := TX11) (N := 8) hF hK hG (fun _ h => List.mem_cons_of_mem _ (List.mem_append_left _ (List.mem_append_right _ h))) tyX11 tyX11_ok nmX11 0 rfl rfl 0 (by decide) (List.mem_of_getElem? (i := 7) rfl) (fun _ h9 => h9) rfl hini rfl rfl rfl (Nat.le_of_ble_eq_true rfl) dX11_init_12 (fun H locs hG => ?_)
  have hG : Gd D A ([(w, .inr (11, [.ref w0, .null, .null, .null, .null, .null, .null, .int 0])), (w0, .inr (9, [.ref a0, .int (nI 0), .int (nI 0)])), (a0, .inl (cA 2, 6, .inr (.inr (.inr (.inr (fun _ => none))))))] : va_W) s.heap H _ := hG
  refine lv_aload_n hF.1 hF.2.1 dX11_init_15 rfl (lv_at hl 0 rfl) ?_
  refine k_new (C := RX9) (T := TX9) (N := 3) (ci := 9) (fs := [.null, .int 0, .int 0]) hF hK hA hG (fun _ h => List.mem_cons_of_mem _ (List.mem_append_left _ (List.mem_append_left _ (List.mem_append_right _ h)))) tyX9 tyX9_ok (List.mem_of_getElem? (i := 4) rfl) (List.mem_of_getElem? (i := 5) rfl) (List.mem_of_getElem? (i := 6) rfl) rfl (by decide +kernel) (Nat.le_of_ble_eq_true rfl) (Nat.le_of_ble_eq_true rfl) dX11_init_16 (fun w1 H hG => ?_)
  have hG : Gd D A ([(w, .inr (11, [.ref w0, .null, .null, .null, .null, .null, .null, .int 0])), (w0, .inr (9, [.ref a0, .int (nI 0), .int (nI 0)])), (a0, .inl (cA 2, 6, .inr (.inr (.inr (.inr (fun _ => none)))))), (w1, .inr (9, [.null, .int 0, .int 0]))] : va_W) s.heap H _ := hG
  refine lv_dup hF.1 hF.2.1 dX11_init_19 rfl ?_
  refine k_cv (r_IN (As := []) hF hK hA hG (c_X9_init (qw := 3) rfl) ⟨(va_cnB 0 hF.2.2.2.2 gX11_init_X9_init_n9 rfl rfl rfl (hK.2.2.2.2 _ (List.mem_of_getElem? (i := 1) rfl)) (hF.2.2.2.2 _ (List.mem_of_getElem? (i := 6) rfl)) (by decide +kernel) ⟨Nat.le_of_ble_eq_true rfl, Nat.le_of_ble_eq_true rfl⟩), rfl, hF.2.2.2.2 _ (List.mem_of_getElem? (i := 21) rfl)⟩ rfl hl.1 rfl (lv_room (Nat.le_of_ble_eq_true rfl)) dX11_init_20 ⟨Nat.le_of_ble_eq_true rfl, Nat.le_of_ble_eq_true rfl⟩) hG (fun a1 H locs hp_20 hG => ?_)
  have hG : Gd D A ([(w, .inr (11, [.ref w0, .null, .null, .null, .null, .null, .null, .int 0])), (w0, .inr (9, [.ref a0, .int (nI 0), .int (nI 0)])), (a0, .inl (cA 2, 6, .inr (.inr (.inr (.inr (fun _ => none)))))), (w1, .inr (9, [.ref a1, .int (nI 0), .int (nI 0)])), (a1, .inl (cA 2, 6, .inr (.inr (.inr (.inr (fun _ => none))))))] : va_W) s.heap H _ := hG
  refine k_putF (C := RX11) (T := TX11) (N := 8) hF hK hG (fun _ h => List.mem_cons_of_mem _ (List.mem_append_left _ (List.mem_append_right _ h))) tyX11 tyX11_ok nmX11 0 rfl rfl 1 (by decide) (List.mem_of_getElem? (i := 8) rfl) (fun _ h9 => h9) rfl hini rfl rfl rfl (Nat.le_of_ble_eq_true rfl) dX11_init_23 (fun H locs hG => ?_)
  have hG : Gd D A ([(w, .inr (11, [.ref w0, .ref w1, .null, .null, .null, .null, .null, .int 0])), (w0, .inr (9, [.ref a0, .int (nI 0), .int (nI 0)])), (a0, .inl (cA 2, 6, .inr (.inr (.inr (.inr (fun _ => none)))))), (w1, .inr (9, [.ref a1, .int (nI 0), .int (nI 0)])), (a1, .inl (cA 2, 6, .inr (.inr (.inr (.inr (fun _ => none))))))] : va_W) s.heap H _ := hG
  refine lv_aload_n hF.1 hF.2.1 dX11_init_26 rfl (lv_at hl 0 rfl) ?_
  refine k_new (C := RX9) (T := TX9) (N := 3) (ci := 9) (fs := [.null, .int 0, .int 0]) hF hK hA hG (fun _ h => List.mem_cons_of_mem _ (List.mem_append_left _ (List.mem_append_left _ (List.mem_append_right _ h)))) tyX9 tyX9_ok (List.mem_of_getElem? (i := 4) rfl) (List.mem_of_getElem? (i := 5) rfl) (List.mem_of_getElem? (i := 6) rfl) rfl (by decide +kernel) (Nat.le_of_ble_eq_true rfl) (Nat.le_of_ble_eq_true rfl) dX11_init_27 (fun w2 H hG => ?_)
  have hG : Gd D A ([(w, .inr (11, [.ref w0, .ref w1, .null, .null, .null, .null, .null, .int 0])), (w0, .inr (9, [.ref a0, .int (nI 0), .int (nI 0)])), (a0, .inl (cA 2, 6, .inr (.inr (.inr (.inr (fun _ => none)))))), (w1, .inr (9, [.ref a1, .int (nI 0), .int (nI 0)])), (a1, .inl (cA 2, 6, .inr (.inr (.inr (.inr (fun _ => none)))))), (w2, .inr (9, [.null, .int 0, .int 0]))] : va_W) s.heap H _ := hG
  refine lv_dup hF.1 hF.2.1 dX11_init_30 rfl ?_
  refine k_cv (r_IN (As := []) hF hK hA hG (c_X9_init (qw := 5) rfl) ⟨(va_cnB 0 hF.2.2.2.2 gX11_init_X9_init_n9 rfl rfl rfl (hK.2.2.2.2 _ (List.mem_of_getElem? (i := 1) rfl)) (hF.2.2.2.2 _ (List.mem_of_getElem? (i := 6) rfl)) (by decide +kernel) ⟨Nat.le_of_ble_eq_true rfl, Nat.le_of_ble_eq_true rfl⟩), rfl, hF.2.2.2.2 _ (List.mem_of_getElem? (i := 21) rfl)⟩ rfl hl.1 rfl (lv_room (Nat.le_of_ble_eq_true rfl)) dX11_init_31 ⟨Nat.le_of_ble_eq_true rfl, Nat.le_of_ble_eq_true rfl⟩) hG (fun a2 H locs hp_31 hG => ?_)
  have hG : Gd D A ([(w, .inr (11, [.ref w0, .ref w1, .null, .null, .null, .null, .null, .int 0])), (w0, .inr (9, [.ref a0, .int (nI 0), .int (nI 0)])), (a0, .inl (cA 2, 6, .inr (.inr (.inr (.inr (fun _ => none)))))), (w1, .inr (9, [.ref a1, .int (nI 0), .int (nI 0)])), (a1, .inl (cA 2, 6, .inr (.inr (.inr (.inr (fun _ => none)))))), (w2, .inr (9, [.ref a2, .int (nI 0), .int (nI 0)])), (a2, .inl (cA 2, 6, .inr (.inr (.inr (.inr (fun _ => none))))))] : va_W) s.heap H _ := hG
  refine k_putF (C := RX11) (T := TX11) (N := 8) hF hK hG (fun _ h => List.mem_cons_of_mem _ (List.mem_append_left _ (List.mem_append_right _ h))) tyX11 tyX11_ok nmX11 0 rfl rfl 2 (by decide) (List.mem_of_getElem? (i := 9) rfl) (fun _ h9 => h9) rfl hini rfl rfl rfl (Nat.le_of_ble_eq_true rfl) dX11_init_34 (fun H locs hG => ?_)
  have hG : Gd D A ([(w, .inr (11, [.ref w0, .ref w1, .ref w2, .null, .null, .null, .null, .int 0])), (w0, .inr (9, [.ref a0, .int (nI 0), .int (nI 0)])), (a0, .inl (cA 2, 6, .inr (.inr (.inr (.inr (fun _ => none)))))), (w1, .inr (9, [.ref a1, .int (nI 0), .int (nI 0)])), (a1, .inl (cA 2, 6, .inr (.inr (.inr (.inr (fun _ => none)))))), (w2, .inr (9, [.ref a2, .int (nI 0), .int (nI 0)])), (a2, .inl (cA 2, 6, .inr (.inr (.inr (.inr (fun _ => none))))))] : va_W) s.heap H _ := hG
  refine lv_aload_n hF.1 hF.2.1 dX11_init_37 rfl (lv_at hl 0 rfl) ?_
  refine k_new (C := RX10) (T := TX10) (N := 6) (ci := 10) (fs := [.null, .null, .null, .null, .null, .int 0]) hF hK hA hG (fun _ h => List.mem_cons_of_mem _ (List.mem_append_right _ h)) tyX10 tyX10_ok (List.mem_of_getElem? (i := 10) rfl) (List.mem_of_getElem? (i := 11) rfl) (List.mem_of_getElem? (i := 12) rfl) rfl (by decide +kernel) (Nat.le_of_ble_eq_true rfl) (Nat.le_of_ble_eq_true rfl) dX11_init_38 (fun y H hG => ?_)
  have hG : Gd D A ([(w, .inr (11, [.ref w0, .ref w1, .ref w2, .null, .null, .null, .null, .int 0])), (w0, .inr (9, [.ref a0, .int (nI 0), .int (nI 0)])), (a0, .inl (cA 2, 6, .inr (.inr (.inr (.inr (fun _ => none)))))), (w1, .inr (9, [.ref a1, .int (nI 0), .int (nI 0)])), (a1, .inl (cA 2, 6, .inr (.inr (.inr (.inr (fun _ => none)))))), (w2, .inr (9, [.ref a2, .int (nI 0), .int (nI 0)])), (a2, .inl (cA 2, 6, .inr (.inr (.inr (.inr (fun _ => none)))))), (y, .inr (10, [.null, .null, .null, .null, .null, .int 0]))] : va_W) s.heap H _ := hG
  refine lv_dup hF.1 hF.2.1 dX11_init_41 rfl ?_
  refine k_cv (r_IN (As := []) hF hK hA hG (c_X10_init (qw := 7) rfl) ⟨(va_cnB 0 hF.2.2.2.2 gX11_init_X10_init_n24 rfl rfl rfl (hK.2.2.2.2 _ (List.mem_of_getElem? (i := 0) rfl)) (hF.2.2.2.2 _ (List.mem_of_getElem? (i := 12) rfl)) (by decide +kernel) ⟨Nat.le_of_ble_eq_true rfl, Nat.le_of_ble_eq_true rfl⟩), rfl, hF.2.2.2.2 _ (List.mem_of_getElem? (i := 28) rfl)⟩ rfl hl.1 rfl (lv_room (Nat.le_of_ble_eq_true rfl)) dX11_init_42 ⟨Nat.le_of_ble_eq_true rfl, Nat.le_of_ble_eq_true rfl⟩) hG (fun uy H locs hp_42 hG => ?_)
  have hG : Gd D A ([(w, .inr (11, [.ref w0, .ref w1, .ref w2, .null, .null, .null, .null, .int 0])), (w0, .inr (9, [.ref a0, .int (nI 0), .int (nI 0)])), (a0, .inl (cA 2, 6, .inr (.inr (.inr (.inr (fun _ => none)))))), (w1, .inr (9, [.ref a1, .int (nI 0), .int (nI 0)])), (a1, .inl (cA 2, 6, .inr (.inr (.inr (.inr (fun _ => none)))))), (w2, .inr (9, [.ref a2, .int (nI 0), .int (nI 0)])), (a2, .inl (cA 2, 6, .inr (.inr (.inr (.inr (fun _ => none)))))), (y, .inr (10, [.ref (uy 1), .ref (uy 2), .ref (uy 3), .ref (uy 4), .ref (uy 5), .int (nI 0)])), (uy 1, .inl (cA 0, 64, .inl (fun _ => 0))), (uy 2, .inl (cA 1, 64, .inr (.inl (fun _ => 0)))), (uy 3, .inl (cA 0, 729, .inl (fun _ => 0))), (uy 4, .inl (cA 0, 729, .inl (fun _ => 0))), (uy 5, .inl (cA 0, 729, .inl (fun _ => 0)))] : va_W) s.heap H _ := hG
  refine k_putF (C := RX11) (T := TX11) (N := 8) hF hK hG (fun _ h => List.mem_cons_of_mem _ (List.mem_append_left _ (List.mem_append_right _ h))) tyX11 tyX11_ok nmX11 0 rfl rfl 3 (by decide) (List.mem_of_getElem? (i := 13) rfl) (fun _ h9 => h9) rfl hini rfl rfl rfl (Nat.le_of_ble_eq_true rfl) dX11_init_45 (fun H locs hG => ?_)
  have hG : Gd D A ([(w, .inr (11, [.ref w0, .ref w1, .ref w2, .ref y, .null, .null, .null, .int 0])), (w0, .inr (9, [.ref a0, .int (nI 0), .int (nI 0)])), (a0, .inl (cA 2, 6, .inr (.inr (.inr (.inr (fun _ => none)))))), (w1, .inr (9, [.ref a1, .int (nI 0), .int (nI 0)])), (a1, .inl (cA 2, 6, .inr (.inr (.inr (.inr (fun _ => none)))))), (w2, .inr (9, [.ref a2, .int (nI 0), .int (nI 0)])), (a2, .inl (cA 2, 6, .inr (.inr (.inr (.inr (fun _ => none)))))), (y, .inr (10, [.ref (uy 1), .ref (uy 2), .ref (uy 3), .ref (uy 4), .ref (uy 5), .int (nI 0)])), (uy 1, .inl (cA 0, 64, .inl (fun _ => 0))), (uy 2, .inl (cA 1, 64, .inr (.inl (fun _ => 0)))), (uy 3, .inl (cA 0, 729, .inl (fun _ => 0))), (uy 4, .inl (cA 0, 729, .inl (fun _ => 0))), (uy 5, .inl (cA 0, 729, .inl (fun _ => 0)))] : va_W) s.heap H _ := hG
  refine lv_aload_n hF.1 hF.2.1 dX11_init_48 rfl (lv_at hl 0 rfl) ?_
  refine lv_bipush (v := (nI 8)) hF.1 hF.2.1 dX11_init_49 (by decide +kernel) ?_
  refine k_newq (t := 2) hF hK hA hG (List.mem_of_getElem? (i := 14) rfl) hK.2.2.1 rfl (N' := 8) rfl (by omega) (Nat.le_of_ble_eq_true rfl) (Nat.le_of_ble_eq_true rfl) dX11_init_51 (fun kd H hG => ?_)
  have hG : Gd D A ([(w, .inr (11, [.ref w0, .ref w1, .ref w2, .ref y, .null, .null, .null, .int 0])), (w0, .inr (9, [.ref a0, .int (nI 0), .int (nI 0)])), (a0, .inl (cA 2, 6, .inr (.inr (.inr (.inr (fun _ => none)))))), (w1, .inr (9, [.ref a1, .int (nI 0), .int (nI 0)])), (a1, .inl (cA 2, 6, .inr (.inr (.inr (.inr (fun _ => none)))))), (w2, .inr (9, [.ref a2, .int (nI 0), .int (nI 0)])), (a2, .inl (cA 2, 6, .inr (.inr (.inr (.inr (fun _ => none)))))), (y, .inr (10, [.ref (uy 1), .ref (uy 2), .ref (uy 3), .ref (uy 4), .ref (uy 5), .int (nI 0)])), (uy 1, .inl (cA 0, 64, .inl (fun _ => 0))), (uy 2, .inl (cA 1, 64, .inr (.inl (fun _ => 0)))), (uy 3, .inl (cA 0, 729, .inl (fun _ => 0))), (uy 4, .inl (cA 0, 729, .inl (fun _ => 0))), (uy 5, .inl (cA 0, 729, .inl (fun _ => 0))), (kd, .inl (cA 2, 8, .inr (.inr (.inr (.inr (fun _ => none))))))] : va_W) s.heap H _ := hG
  refine k_putF (C := RX11) (T := TX11) (N := 8) hF hK hG (fun _ h => List.mem_cons_of_mem _ (List.mem_append_left _ (List.mem_append_right _ h))) tyX11 tyX11_ok nmX11 0 rfl rfl 4 (by decide) (List.mem_of_getElem? (i := 15) rfl) (fun _ h9 => h9) rfl hini rfl rfl rfl (Nat.le_of_ble_eq_true rfl) dX11_init_54 (fun H locs hG => ?_)
  have hG : Gd D A ([(w, .inr (11, [.ref w0, .ref w1, .ref w2, .ref y, .ref kd, .null, .null, .int 0])), (w0, .inr (9, [.ref a0, .int (nI 0), .int (nI 0)])), (a0, .inl (cA 2, 6, .inr (.inr (.inr (.inr (fun _ => none)))))), (w1, .inr (9, [.ref a1, .int (nI 0), .int (nI 0)])), (a1, .inl (cA 2, 6, .inr (.inr (.inr (.inr (fun _ => none)))))), (w2, .inr (9, [.ref a2, .int (nI 0), .int (nI 0)])), (a2, .inl (cA 2, 6, .inr (.inr (.inr (.inr (fun _ => none)))))), (y, .inr (10, [.ref (uy 1), .ref (uy 2), .ref (uy 3), .ref (uy 4), .ref (uy 5), .int (nI 0)])), (uy 1, .inl (cA 0, 64, .inl (fun _ => 0))), (uy 2, .inl (cA 1, 64, .inr (.inl (fun _ => 0)))), (uy 3, .inl (cA 0, 729, .inl (fun _ => 0))), (uy 4, .inl (cA 0, 729, .inl (fun _ => 0))), (uy 5, .inl (cA 0, 729, .inl (fun _ => 0))), (kd, .inl (cA 2, 8, .inr (.inr (.inr (.inr (fun _ => none))))))] : va_W) s.heap H _ := hG
  refine lv_aload_n hF.1 hF.2.1 dX11_init_57 rfl (lv_at hl 0 rfl) ?_
  refine lv_bipush (v := (nI 8)) hF.1 hF.2.1 dX11_init_58 (by decide +kernel) ?_
  refine k_newq (t := 3) hF hK hA hG (List.mem_of_getElem? (i := 16) rfl) hK.2.2.2.1 rfl (N' := 8) rfl (by omega) (Nat.le_of_ble_eq_true rfl) (Nat.le_of_ble_eq_true rfl) dX11_init_60 (fun kr H hG => ?_)
  have hG : Gd D A ([(w, .inr (11, [.ref w0, .ref w1, .ref w2, .ref y, .ref kd, .null, .null, .int 0])), (w0, .inr (9, [.ref a0, .int (nI 0), .int (nI 0)])), (a0, .inl (cA 2, 6, .inr (.inr (.inr (.inr (fun _ => none)))))), (w1, .inr (9, [.ref a1, .int (nI 0), .int (nI 0)])), (a1, .inl (cA 2, 6, .inr (.inr (.inr (.inr (fun _ => none)))))), (w2, .inr (9, [.ref a2, .int (nI 0), .int (nI 0)])), (a2, .inl (cA 2, 6, .inr (.inr (.inr (.inr (fun _ => none)))))), (y, .inr (10, [.ref (uy 1), .ref (uy 2), .ref (uy 3), .ref (uy 4), .ref (uy 5), .int (nI 0)])), (uy 1, .inl (cA 0, 64, .inl (fun _ => 0))), (uy 2, .inl (cA 1, 64, .inr (.inl (fun _ => 0)))), (uy 3, .inl (cA 0, 729, .inl (fun _ => 0))), (uy 4, .inl (cA 0, 729, .inl (fun _ => 0))), (uy 5, .inl (cA 0, 729, .inl (fun _ => 0))), (kd, .inl (cA 2, 8, .inr (.inr (.inr (.inr (fun _ => none)))))), (kr, .inl (cA 3, 8, .inr (.inr (.inr (.inr (fun _ => none))))))] : va_W) s.heap H _ := hG
  refine k_putF (C := RX11) (T := TX11) (N := 8) hF hK hG (fun _ h => List.mem_cons_of_mem _ (List.mem_append_left _ (List.mem_append_right _ h))) tyX11 tyX11_ok nmX11 0 rfl rfl 5 (by decide) (List.mem_of_getElem? (i := 17) rfl) (fun _ h9 => h9) rfl hini rfl rfl rfl (Nat.le_of_ble_eq_true rfl) dX11_init_63 (fun H locs hG => ?_)
  have hG : Gd D A ([(w, .inr (11, [.ref w0, .ref w1, .ref w2, .ref y, .ref kd, .ref kr, .null, .int 0])), (w0, .inr (9, [.ref a0, .int (nI 0), .int (nI 0)])), (a0, .inl (cA 2, 6, .inr (.inr (.inr (.inr (fun _ => none)))))), (w1, .inr (9, [.ref a1, .int (nI 0), .int (nI 0)])), (a1, .inl (cA 2, 6, .inr (.inr (.inr (.inr (fun _ => none)))))), (w2, .inr (9, [.ref a2, .int (nI 0), .int (nI 0)])), (a2, .inl (cA 2, 6, .inr (.inr (.inr (.inr (fun _ => none)))))), (y, .inr (10, [.ref (uy 1), .ref (uy 2), .ref (uy 3), .ref (uy 4), .ref (uy 5), .int (nI 0)])), (uy 1, .inl (cA 0, 64, .inl (fun _ => 0))), (uy 2, .inl (cA 1, 64, .inr (.inl (fun _ => 0)))), (uy 3, .inl (cA 0, 729, .inl (fun _ => 0))), (uy 4, .inl (cA 0, 729, .inl (fun _ => 0))), (uy 5, .inl (cA 0, 729, .inl (fun _ => 0))), (kd, .inl (cA 2, 8, .inr (.inr (.inr (.inr (fun _ => none)))))), (kr, .inl (cA 3, 8, .inr (.inr (.inr (.inr (fun _ => none))))))] : va_W) s.heap H _ := hG
  refine lv_aload_n hF.1 hF.2.1 dX11_init_66 rfl (lv_at hl 0 rfl) ?_
  refine lv_bipush (v := (nI 64)) hF.1 hF.2.1 dX11_init_67 (by decide +kernel) ?_
  refine k_newi hF hK hA hG (List.mem_of_getElem? (i := 18) rfl) (N' := 64) rfl (by omega) (Nat.le_of_ble_eq_true rfl) (Nat.le_of_ble_eq_true rfl) dX11_init_69 (fun kt H hG => ?_)
  have hG : Gd D A ([(w, .inr (11, [.ref w0, .ref w1, .ref w2, .ref y, .ref kd, .ref kr, .null, .int 0])), (w0, .inr (9, [.ref a0, .int (nI 0), .int (nI 0)])), (a0, .inl (cA 2, 6, .inr (.inr (.inr (.inr (fun _ => none)))))), (w1, .inr (9, [.ref a1, .int (nI 0), .int (nI 0)])), (a1, .inl (cA 2, 6, .inr (.inr (.inr (.inr (fun _ => none)))))), (w2, .inr (9, [.ref a2, .int (nI 0), .int (nI 0)])), (a2, .inl (cA 2, 6, .inr (.inr (.inr (.inr (fun _ => none)))))), (y, .inr (10, [.ref (uy 1), .ref (uy 2), .ref (uy 3), .ref (uy 4), .ref (uy 5), .int (nI 0)])), (uy 1, .inl (cA 0, 64, .inl (fun _ => 0))), (uy 2, .inl (cA 1, 64, .inr (.inl (fun _ => 0)))), (uy 3, .inl (cA 0, 729, .inl (fun _ => 0))), (uy 4, .inl (cA 0, 729, .inl (fun _ => 0))), (uy 5, .inl (cA 0, 729, .inl (fun _ => 0))), (kd, .inl (cA 2, 8, .inr (.inr (.inr (.inr (fun _ => none)))))), (kr, .inl (cA 3, 8, .inr (.inr (.inr (.inr (fun _ => none)))))), (kt, .inl (cA 0, 64, .inl (fun _ => 0)))] : va_W) s.heap H _ := hG
  refine k_putF (C := RX11) (T := TX11) (N := 8) hF hK hG (fun _ h => List.mem_cons_of_mem _ (List.mem_append_left _ (List.mem_append_right _ h))) tyX11 tyX11_ok nmX11 0 rfl rfl 6 (by decide) (List.mem_of_getElem? (i := 19) rfl) (fun _ h9 => h9) rfl hini rfl rfl rfl (Nat.le_of_ble_eq_true rfl) dX11_init_71 (fun H locs hG => ?_)
  have hG : Gd D A ([(w, .inr (11, [.ref w0, .ref w1, .ref w2, .ref y, .ref kd, .ref kr, .ref kt, .int 0])), (w0, .inr (9, [.ref a0, .int (nI 0), .int (nI 0)])), (a0, .inl (cA 2, 6, .inr (.inr (.inr (.inr (fun _ => none)))))), (w1, .inr (9, [.ref a1, .int (nI 0), .int (nI 0)])), (a1, .inl (cA 2, 6, .inr (.inr (.inr (.inr (fun _ => none)))))), (w2, .inr (9, [.ref a2, .int (nI 0), .int (nI 0)])), (a2, .inl (cA 2, 6, .inr (.inr (.inr (.inr (fun _ => none)))))), (y, .inr (10, [.ref (uy 1), .ref (uy 2), .ref (uy 3), .ref (uy 4), .ref (uy 5), .int (nI 0)])), (uy 1, .inl (cA 0, 64, .inl (fun _ => 0))), (uy 2, .inl (cA 1, 64, .inr (.inl (fun _ => 0)))), (uy 3, .inl (cA 0, 729, .inl (fun _ => 0))), (uy 4, .inl (cA 0, 729, .inl (fun _ => 0))), (uy 5, .inl (cA 0, 729, .inl (fun _ => 0))), (kd, .inl (cA 2, 8, .inr (.inr (.inr (.inr (fun _ => none)))))), (kr, .inl (cA 3, 8, .inr (.inr (.inr (.inr (fun _ => none)))))), (kt, .inl (cA 0, 64, .inl (fun _ => 0)))] : va_W) s.heap H _ := hG
  refine lv_aload_n hF.1 hF.2.1 dX11_init_74 rfl (lv_at hl 0 rfl) ?_
  refine lv_iconst (v := (nI 0)) hF.1 hF.2.1 dX11_init_75 (by decide +kernel) ?_
  refine k_put (C := RX11) (T := TX11) (N := 8) hF hK hG (fun _ h => List.mem_cons_of_mem _ (List.mem_append_left _ (List.mem_append_right _ h))) tyX11 tyX11_ok nmX11 0 rfl rfl 7 (by decide) (List.mem_of_getElem? (i := 20) rfl) (fun _ h9 => h9) rfl rfl rfl (Nat.le_of_ble_eq_true rfl) dX11_init_76 (fun H locs hG => ?_)
  have hG : Gd D A ([(w, .inr (11, [.ref w0, .ref w1, .ref w2, .ref y, .ref kd, .ref kr, .ref kt, .int (nI 0)])), (w0, .inr (9, [.ref a0, .int (nI 0), .int (nI 0)])), (a0, .inl (cA 2, 6, .inr (.inr (.inr (.inr (fun _ => none)))))), (w1, .inr (9, [.ref a1, .int (nI 0), .int (nI 0)])), (a1, .inl (cA 2, 6, .inr (.inr (.inr (.inr (fun _ => none)))))), (w2, .inr (9, [.ref a2, .int (nI 0), .int (nI 0)])), (a2, .inl (cA 2, 6, .inr (.inr (.inr (.inr (fun _ => none)))))), (y, .inr (10, [.ref (uy 1), .ref (uy 2), .ref (uy 3), .ref (uy 4), .ref (uy 5), .int (nI 0)])), (uy 1, .inl (cA 0, 64, .inl (fun _ => 0))), (uy 2, .inl (cA 1, 64, .inr (.inl (fun _ => 0)))), (uy 3, .inl (cA 0, 729, .inl (fun _ => 0))), (uy 4, .inl (cA 0, 729, .inl (fun _ => 0))), (uy 5, .inl (cA 0, 729, .inl (fun _ => 0))), (kd, .inl (cA 2, 8, .inr (.inr (.inr (.inr (fun _ => none)))))), (kr, .inl (cA 3, 8, .inr (.inr (.inr (.inr (fun _ => none)))))), (kt, .inl (cA 0, 64, .inl (fun _ => 0)))] : va_W) s.heap H _ := hG
  have hG : Gd D A (XW cA (fun k => ([y, (uy 1), (uy 2), (uy 3), (uy 4), (uy 5), w, w0, w1, w2, a0, a1, a2, kd, kr, kt] : List Nat).getD k 0) (fun _ => 0) (fun _ => 0) (fun _ => 0) (fun _ => 0) (fun _ => 0) 0 0 0 (fun _ => none) 0 0 (fun _ => none) 0 0 (fun _ => none) (fun _ => none) (fun _ => none) (fun _ => 0) (nI 0) []) s.heap H locs := ⟨hG.1.sub [7, 8, 9, 10, 11, 12, 0, 1, 3, 5, 2, 4, 6, 13, 14, 15] rfl, hG.2.1.sub [7, 8, 9, 10, 11, 12, 0, 1, 3, 5, 2, 4, 6, 13, 14, 15] rfl rfl, hG.2.2⟩
  exact hret (fun k => ([y, (uy 1), (uy 2), (uy 3), (uy 4), (uy 5), w, w0, w1, w2, a0, a1, a2, kd, kr, kt] : List Nat).getD k 0) _ ls _ _ _ _ (by rfl) hG (Nat.le_of_ble_eq_true rfl) (Nat.le_of_ble_eq_true rfl) dX11_init_79
