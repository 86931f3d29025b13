/-! ===== walls as texts ===== -/
def rdC (f : Nat → Int32) (sz p : Nat) : Int32 := if p < sz then f p else -1000
theorem rdC_t {f : Nat → Int32} {sz p : Nat} (h : p < sz) : rdC f sz p = f p := if_pos h
theorem rdC_f {f : Nat → Int32} {sz p : Nat} (h : ¬ p < sz) : rdC f sz p = -1000 := if_neg h
def manyC (c : Int32) : Nat := if c = nI 100 then 2 else if c = nI 111 ∨ c = nI 115 ∨ c = nI 112 then 1 else 0
theorem many_k : manyC (-1000) = 0 := by decide +kernel
def rdD (f : Nat → Int32) (sz : Nat) : Nat → Nat → Bool × Nat
  | 0, p => (true, p)
  | k + 1, p => if inQ 48 57 (rdC f sz p) = true then rdD f sz k (p + 1) else (false, p)
theorem rdD_t {f : Nat → Int32} {sz k p : Nat} (h : inQ 48 57 (rdC f sz p) = true) : rdD f sz (k + 1) p = rdD f sz k (p + 1) := if_pos h
theorem rdD_f {f : Nat → Int32} {sz k p : Nat} (h : inQ 48 57 (rdC f sz p) = false) : rdD f sz (k + 1) p = (false, p) := by
  show (if inQ 48 57 (rdC f sz p) = true then _ else _) = _
  rw [h]
  rfl
theorem rd_dg {f : Nat → Int32} {sz p : Nat} (h : inQ 48 57 (rdC f sz p) = true) : p < sz ∧ rdC f sz p = f p := by
  by_cases c : p < sz
  · exact ⟨c, rdC_t c⟩
  · rw [rdC_f c] at h
    exact absurd h (by decide +kernel)
def rdE (f : Nat → Int32) (sz : Nat) (r : Bool × Nat) : Bool × Nat := if r.1 = true then (if rdC f sz r.2 = nI 59 then (true, r.2 + 1) else (false, r.2)) else r
/-- one statement from a place on: whether it is one, and the place behind it, or that of the first wrong byte -/
def rdS (f : Nat → Int32) (sz p : Nat) : Bool × Nat := if manyC (rdC f sz p) = 0 then (false, p) else rdE f sz (rdD f sz (manyC (rdC f sz p)) (p + 1))
theorem rdS_0 {f : Nat → Int32} {sz p : Nat} (h : manyC (rdC f sz p) = 0) : rdS f sz p = (false, p) := if_pos h
theorem rdS_m {f : Nat → Int32} {sz p m : Nat} (h : manyC (rdC f sz p) = m + 1) : rdS f sz p = rdE f sz (rdD f sz (m + 1) (p + 1)) := by
  unfold rdS
  rw [h, if_neg (Nat.succ_ne_zero m)]
theorem rdE_n {f : Nat → Int32} {sz : Nat} {r : Bool × Nat} (h : r.1 = false) : rdE f sz r = r := by
  unfold rdE
  rw [h]
  rfl
theorem rdE_t {f : Nat → Int32} {sz : Nat} {r : Bool × Nat} (h : r.1 = true) (h2 : rdC f sz r.2 = nI 59) : rdE f sz r = (true, r.2 + 1) := by
  unfold rdE
  rw [if_pos h, if_pos h2]
theorem rdE_f {f : Nat → Int32} {sz : Nat} {r : Bool × Nat} (h : r.1 = true) (h2 : ¬ rdC f sz r.2 = nI 59) : rdE f sz r = (false, r.2) := by
  unfold rdE
  rw [if_pos h, if_neg h2]
theorem rdD_ok {f : Nat → Int32} {sz : Nat} : ∀ (k p : Nat), (rdD f sz k p).1 = true → (rdD f sz k p).2 = p + k ∧ ∀ a, a < k → inQ 48 57 (f (p + a)) = true ∧ p + a < sz := by
  intro k
  induction k with
  | zero => intro p _; exact ⟨rfl, fun a h => absurd h (Nat.not_lt_zero a)⟩
  | succ k ih =>
    intro p h
    by_cases c : inQ 48 57 (rdC f sz p) = true
    · rw [rdD_t c] at h ⊢
      obtain ⟨h1, h2⟩ := ih (p + 1) h
      refine ⟨by rw [h1]; omega, fun a ha => ?_⟩
      cases a with
      | zero =>
        obtain ⟨q1, q2⟩ := rd_dg c
        rw [q2] at c
        exact ⟨c, q1⟩
      | succ a =>
        have := h2 a (by omega)
        rw [show p + (a + 1) = p + 1 + a by omega]
        exact this
    · rw [rdD_f (by simpa using c)] at h
      cases h
theorem rdD_le {f : Nat → Int32} {sz : Nat} : ∀ (k p : Nat), p ≤ sz → p ≤ (rdD f sz k p).2 ∧ (rdD f sz k p).2 ≤ sz := by
  intro k
  induction k with
  | zero => intro p hp; exact ⟨Nat.le_refl p, hp⟩
  | succ k ih =>
    intro p hp
    by_cases c : inQ 48 57 (rdC f sz p) = true
    · rw [rdD_t c]
      have := (rd_dg c).1
      have := ih (p + 1) (by omega)
      omega
    · rw [rdD_f (by simpa using c)]
      exact ⟨Nat.le_refl p, hp⟩
theorem many_lt {f : Nat → Int32} {sz p : Nat} (h : ¬ manyC (rdC f sz p) = 0) : p < sz := by
  by_cases c : p < sz
  · exact c
  · rw [rdC_f c] at h
    exact absurd many_k h
theorem many_le (c : Int32) : manyC c ≤ 2 := by
  unfold manyC
  split
  · exact Nat.le_refl 2
  · split <;> decide
theorem rdS_ok {f : Nat → Int32} {sz p : Nat} (h : (rdS f sz p).1 = true) : p < sz ∧ ¬ manyC (f p) = 0 ∧ (rdS f sz p).2 = p + manyC (f p) + 2 ∧ (rdS f sz p).2 ≤ sz ∧ (∀ a, a < manyC (f p) → inQ 48 57 (f (p + 1 + a)) = true) ∧ f (p + 1 + manyC (f p)) = nI 59 := by
  by_cases c : manyC (rdC f sz p) = 0
  · rw [rdS_0 c] at h
    cases h
  · have hp := many_lt c
    have e := rdC_t (f := f) hp
    rw [e] at c
    obtain ⟨m, hm⟩ : ∃ m, manyC (f p) = m + 1 := ⟨manyC (f p) - 1, by omega⟩
    have e2 := rdS_m (f := f) (sz := sz) (p := p) (m := m) (by rw [e]; exact hm)
    rw [e2] at h ⊢
    cases d : (rdD f sz (m + 1) (p + 1)).1 with
    | false =>
      rw [rdE_n d, d] at h
      cases h
    | true =>
      obtain ⟨h1, h2⟩ := rdD_ok (m + 1) (p + 1) d
      by_cases c2 : rdC f sz (rdD f sz (m + 1) (p + 1)).2 = nI 59
      · rw [rdE_t d c2, hm]
        rw [h1] at c2 ⊢
        have hlt : p + 1 + (m + 1) < sz := by
          by_cases q : p + 1 + (m + 1) < sz
          · exact q
          · rw [rdC_f q] at c2
            exact absurd c2 (by decide +kernel)
        rw [rdC_t hlt] at c2
        exact ⟨hp, by omega, by show p + 1 + (m + 1) + 1 = _; omega, by show p + 1 + (m + 1) + 1 ≤ _; omega, fun a ha => (h2 a ha).1, c2⟩
      · rw [rdE_f d c2] at h
        cases h
def p1 (f : Nat → Int32) (sz : Nat) : Nat → Nat → Nat → Nat ⊕ Nat
  | 0, p, _ => .inl p
  | fu + 1, p, k => if (rdS f sz p).1 = true then (if (rdS f sz p).2 < sz then p1 f sz fu (rdS f sz p).2 (k + 1) else .inr (k + 1)) else .inl (rdS f sz p).2
theorem p1_f {f : Nat → Int32} {sz fu p k : Nat} (h : (rdS f sz p).1 = false) : p1 f sz (fu + 1) p k = .inl (rdS f sz p).2 := by
  show (if (rdS f sz p).1 = true then _ else _) = _
  rw [h]
  rfl
theorem p1_e {f : Nat → Int32} {sz fu p k : Nat} (h : (rdS f sz p).1 = true) (h2 : ¬ (rdS f sz p).2 < sz) : p1 f sz (fu + 1) p k = .inr (k + 1) := by
  show (if (rdS f sz p).1 = true then _ else _) = _
  rw [if_pos h, if_neg h2]
theorem p1_t {f : Nat → Int32} {sz fu p k : Nat} (h : (rdS f sz p).1 = true) (h2 : (rdS f sz p).2 < sz) : p1 f sz (fu + 1) p k = p1 f sz fu (rdS f sz p).2 (k + 1) := by
  show (if (rdS f sz p).1 = true then _ else _) = _
  rw [if_pos h, if_pos h2]
/-- what is told from p on is all statements -/
theorem p1_r {f : Nat → Int32} {sz fu p k K : Nat} (h : p1 f sz fu p k = .inr K) : (rdS f sz p).1 = true ∧ ((rdS f sz p).2 < sz → ∃ fu' k', p1 f sz fu' (rdS f sz p).2 k' = .inr K) := by
  cases fu with
  | zero => cases h
  | succ fu =>
    cases e : (rdS f sz p).1 with
    | false =>
      rw [p1_f e] at h
      cases h
    | true =>
      refine ⟨rfl, fun h2 => ?_⟩
      rw [p1_t e h2] at h
      exact ⟨fu, k + 1, h⟩
def dgN (v : Int32) : Nat := (v - nI 48).toNatClampNeg
theorem dg_n {v : Int32} (h : inQ 48 57 v = true) : v - nI 48 = nI (dgN v) ∧ dgN v < 10 := by
  obtain ⟨j, h1, h2, rfl⟩ := inQ_ex (by omega) (by omega) h
  unfold dgN
  rw [pk_sub h1, nI_clamp (by omega)]
  exact ⟨rfl, by omega⟩
/-- one statement done -/
def exN (c : Int32) (a b : Nat) (w : Wl) : Option Wl := if c = nI 100 then (if a < 8 ∧ w.1 < 6 then some (w.1 + 1, w.2.1, va_up w.2.2.1 w.1 a, va_up w.2.2.2 w.1 b) else none) else if a < w.1 then (if c = nI 112 then (if mv (w.2.2.1 a) (w.2.2.2 a) a w.2.1 = true then some (w.1, w.2.1 ^^^ 2 ^ a, w.2.2.1, w.2.2.2) else none) else if c = nI 111 then some (w.1, w.2.1 ||| 2 ^ a, w.2.2.1, w.2.2.2) else some (w.1, (if w.2.1.testBit a = true then w.2.1 - 2 ^ a else w.2.1), w.2.2.1, w.2.2.2)) else none
section EXN
variable {c : Int32} {a b n o : Nat} {kd fg : Nat → Nat}
theorem exN_d (h : c = nI 100) (h2 : a < 8) (h3 : n < 6) : exN c a b (n, o, kd, fg) = some (n + 1, o, va_up kd n a, va_up fg n b) := by
  unfold exN
  rw [if_pos h, if_pos ⟨h2, h3⟩]
theorem exN_dn (h : c = nI 100) (h2 : ¬ a < 8 ∨ ¬ n < 6) : exN c a b (n, o, kd, fg) = none := by
  unfold exN
  rw [if_pos h, if_neg (fun q => h2.elim (fun x => x q.1) (fun x => x q.2))]
theorem exN_n (h : ¬ c = nI 100) (h2 : ¬ a < n) : exN c a b (n, o, kd, fg) = none := by
  unfold exN
  rw [if_neg h, if_neg h2]
theorem exN_p (h : c = nI 112) (h2 : a < n) (h3 : mv (kd a) (fg a) a o = true) : exN c a b (n, o, kd, fg) = some (n, o ^^^ 2 ^ a, kd, fg) := by
  unfold exN
  rw [if_neg (by rw [h]; decide +kernel), if_pos h2, if_pos h, if_pos h3]
theorem exN_pn (h : c = nI 112) (h2 : a < n) (h3 : mv (kd a) (fg a) a o = false) : exN c a b (n, o, kd, fg) = none := by
  unfold exN
  rw [if_neg (by rw [h]; decide +kernel), if_pos h2, if_pos h, h3]
  rfl
theorem exN_o (h : c = nI 111) (h2 : a < n) : exN c a b (n, o, kd, fg) = some (n, o ||| 2 ^ a, kd, fg) := by
  unfold exN
  rw [if_neg (by rw [h]; decide +kernel), if_pos h2, if_neg (by rw [h]; decide +kernel), if_pos h]
theorem exN_s (h0 : ¬ c = nI 100) (h : ¬ c = nI 112) (h1 : ¬ c = nI 111) (h2 : a < n) : exN c a b (n, o, kd, fg) = some (n, (if o.testBit a = true then o - 2 ^ a else o), kd, fg) := by
  unfold exN
  rw [if_neg h0, if_pos h2, if_neg h, if_neg h1]
end EXN
def exU (f : Nat → Int32) (p : Nat) (w : Wl) : Option Wl := exN (f p) (dgN (f (p + 1))) (dgN (f (p + 2))) w
def p2 (f : Nat → Int32) (sz : Nat) : Nat → Nat → Wl → Nat ⊕ Wl
  | 0, _, w => .inr w
  | fu + 1, p, w => if p < sz then (match exU f p w with
    | none => .inl p
    | some w' => p2 f sz fu (rdS f sz p).2 w') else .inr w
theorem p2_e {f : Nat → Int32} {sz fu p : Nat} {w : Wl} (h : ¬ p < sz) : p2 f sz fu p w = .inr w := by
  cases fu with
  | zero => rfl
  | succ fu => exact if_neg h
theorem p2_n {f : Nat → Int32} {sz fu p : Nat} {w : Wl} (h : p < sz) (h2 : exU f p w = none) : p2 f sz (fu + 1) p w = .inl p := by
  show (if p < sz then _ else _) = _
  rw [if_pos h, h2]
theorem p2_s {f : Nat → Int32} {sz fu p : Nat} {w w' : Wl} (h : p < sz) (h2 : exU f p w = some w') : p2 f sz (fu + 1) p w = p2 f sz fu (rdS f sz p).2 w' := by
  show (if p < sz then _ else _) = _
  rw [if_pos h, h2]
def spTxt (f : Nat → Int32) (sz : Nat) (w : Wl) : Int32 × Wl := match p1 f sz (sz + 1) 0 0 with
  | .inl q => ((-1000) - nI q, w)
  | .inr K => match p2 f sz (sz + 1) 0 w with
    | .inl p => ((-2000) - nI p, w)
    | .inr w' => (nI K, w')
theorem spTxt_1 {f : Nat → Int32} {sz q : Nat} {w : Wl} (h : p1 f sz (sz + 1) 0 0 = .inl q) : spTxt f sz w = ((-1000) - nI q, w) := by
  unfold spTxt
  rw [h]
theorem spTxt_2 {f : Nat → Int32} {sz K p : Nat} {w : Wl} (h : p1 f sz (sz + 1) 0 0 = .inr K) (h2 : p2 f sz (sz + 1) 0 w = .inl p) : spTxt f sz w = ((-2000) - nI p, w) := by
  unfold spTxt
  rw [h, h2]
theorem spTxt_3 {f : Nat → Int32} {sz K : Nat} {w w' : Wl} (h : p1 f sz (sz + 1) 0 0 = .inr K) (h2 : p2 f sz (sz + 1) 0 w = .inr w') : spTxt f sz w = (nI K, w') := by
  unfold spTxt
  rw [h, h2]
def spWall (w : Wl) (y : Option Sf) : Int32 × Wl := match y with
  | some (some (.inr z)) => if z.1 = 0 then spTxt z.2.2 z.2.1 w else (-12, w)
  | y => (wr0 y, w)
theorem spWall_n {w : Wl} {y : Option Sf} (h : ¬ wr0 y = 0) : spWall w y = (wr0 y, w) := by
  match y, h with
  | none, _ => rfl
  | some none, _ => rfl
  | some (some (.inl z)), _ => rfl
  | some (some (.inr z)), h =>
    by_cases h0 : z.1 = 0
    · exact absurd (show wr0 (some (some (.inr z))) = 0 from if_pos h0) h
    · show (if z.1 = 0 then spTxt z.2.2 z.2.1 w else (-12, w)) = ((if z.1 = 0 then nI 0 else -12), w)
      rw [if_neg h0, if_neg h0]
theorem spWall_t {w : Wl} {z : Nat × Nat × (Nat → Int32)} (h : z.1 = 0) : spWall w (some (some (.inr z))) = spTxt z.2.2 z.2.1 w := if_pos h
/-- the text in the reference's row -/
def TX (aE : Nat → Int32) (j : Nat) (f : Nat → Int32) (sz : Nat) : Prop := j < 8 ∧ sz ≤ 100 ∧ ∀ i, i < sz → aE (100 * j + i) = f i
abbrev rmX12_here : Room := { frames := 0, cells := 0, slots := 0, locals := 0 }
set_option maxHeartbeats 4000000 in
set_option maxRecDepth 100000 in
theorem c_X12_here {l : Launch} {D : va_G} {cA : Nat → ClassId} {A : Nat → Prop}  {ob : Nat → Nat} {aS aI aR aM aK aT aZ aE aD aF aN aP aH : Nat → Int32} {vH vT vS : Int32} {j sz po : Nat} {f : Nat → Int32} (hT : TX aE j f sz) (hp : po < 1000) : Met l yX12_here wsX12_here rmX12_here (va_Pc [.ref (ob 0)] (Pre D cA A (MW cA ob aS aI aR aM aK aT aZ aE aD aF aN aP aH vH vT (nI (po)) (nI (100 * j)) (nI sz) vS))) (va_Qi (fun r _ => r = rdC f sz po) (fun u t => Wd D A ((fun (_ : Unit) => MW cA ob aS aI aR aM aK aT aZ aE aD aF aN aP aH vH vT (nI (po)) (nI (100 * j)) (nI sz) vS) u) t) A) (0) (0) A := by
  refine k_ofi (S := Unit) (F := fun (_ : Unit) => MW cA ob aS aI aR aM aK aT aZ aE aD aF aN aP aH vH vT (nI (po)) (nI (100 * j)) (nI sz) vS) (cc := cX12_here) (maxL := 1) (by decide) rfl (Nat.le_of_ble_eq_true rfl) ?_
  intro p e s m args below meth c Q hF hini hK hA hG hret ls hl
  have hl : lv_has ls 1 [(0, .ref (ob 0))] := hl
  have hT0 := hT
  obtain ⟨hj, hsz, hTe⟩ := hT
  refine lv_aload_n hF.1 hF.2.1 dX12_here_0 rfl (lv_at hl 0 rfl) ?_
  refine k_get (C := RX12) (T := TX12) (N := 19) hF hK hG (fun _ h => List.mem_cons_of_mem _ (List.mem_append_right _ h)) 0 rfl rfl 12 (by decide) (List.mem_of_getElem? (i := 1) rfl) (fun _ h9 => h9) rfl dX12_here_1 ?_
  refine lv_aload_n hF.1 hF.2.1 dX12_here_4 rfl (lv_at hl 0 rfl) ?_
  refine k_get (C := RX12) (T := TX12) (N := 19) hF hK hG (fun _ h => List.mem_cons_of_mem _ (List.mem_append_right _ h)) 0 rfl rfl 14 (by decide) (List.mem_of_getElem? (i := 2) rfl) (fun _ h9 => h9) rfl dX12_here_5 ?_
  refine lv_icmp_ge (tgt := 28) hF.1 hF.2.1 dX12_here_8 (by decide) (fun c_8 => ?_) (fun c_8 => ?_)
  · --
    have n_8 : sz ≤ po := (nI_leI (a := sz) (b := po) (by omega) (by omega)).mp c_8
    refine lv_sipush (v := (-1000)) hF.1 hF.2.1 dX12_here_28 (by decide +kernel) ?_
    exact hret _ () _ ls _ _ _ _ (by first | (rw [rdC_f (by omega)]) | (rw [rdC_t (by omega)]; exact hTe po (by omega))) (by first | rfl | exact nar_b2i _) hG (Nat.le_of_ble_eq_true rfl) (Nat.le_of_ble_eq_true rfl) dX12_here_31
  · --
    have n_8 : ¬ (sz ≤ po) := fun zz9 => c_8 ((nI_leI (a := sz) (b := po) (by omega) (by omega)).mpr zz9)
    refine lv_aload_n hF.1 hF.2.1 dX12_here_11 rfl (lv_at hl 0 rfl) ?_
    refine k_get (C := RX12) (T := TX12) (N := 19) hF hK hG (fun _ h => List.mem_cons_of_mem _ (List.mem_append_right _ h)) 0 rfl rfl 7 (by decide) (List.mem_of_getElem? (i := 3) rfl) (fun _ h9 => h9) rfl dX12_here_12 ?_
    refine lv_aload_n hF.1 hF.2.1 dX12_here_15 rfl (lv_at hl 0 rfl) ?_
    refine k_get (C := RX12) (T := TX12) (N := 19) hF hK hG (fun _ h => List.mem_cons_of_mem _ (List.mem_append_right _ h)) 0 rfl rfl 13 (by decide) (List.mem_of_getElem? (i := 4) rfl) (fun _ h9 => h9) rfl dX12_here_16 ?_
    refine lv_aload_n hF.1 hF.2.1 dX12_here_19 rfl (lv_at hl 0 rfl) ?_
    refine k_get (C := RX12) (T := TX12) (N := 19) hF hK hG (fun _ h => List.mem_cons_of_mem _ (List.mem_append_right _ h)) 0 rfl rfl 12 (by decide) (List.mem_of_getElem? (i := 1) rfl) (fun _ h9 => h9) rfl dX12_here_20 ?_
    refine lv_iadd hF.1 hF.2.1 dX12_here_23 ?_
    rw [nI_add]
    refine k_ialdN hF hK hG 8 rfl (100 * j + po) rfl (by omega) (by omega) dX12_here_24 ?_
    refine lv_goto (tgt := 31) hF.1 hF.2.1 dX12_here_25 (by decide) ?_
    exact hret _ () _ ls _ _ _ _ (by first | (rw [rdC_f (by omega)]) | (rw [rdC_t (by omega)]; exact hTe po (by omega))) (by first | rfl | exact nar_b2i _) hG (Nat.le_of_ble_eq_true rfl) (Nat.le_of_ble_eq_true rfl) dX12_here_31

abbrev rmX12_readsDigits : Room := { frames := 1, cells := 0, slots := 0, locals := 25 }
set_option maxHeartbeats 4000000 in
set_option maxRecDepth 100000 in
theorem c_X12_readsDigits {l : Launch} {D : va_G} {cA : Nat → ClassId} {A : Nat → Prop}  {ob : Nat → Nat} {aS aI aR aM aK aT aZ aE aD aF aN aP aH : Nat → Int32} {vH vT vS : Int32} {j sz po : Nat} {f : Nat → Int32} (hT : TX aE j f sz) (hp : po < 1000) {md : Nat} (hm : md ≤ 2) (hp2 : po < 900) : Met l yX12_readsDigits wsX12_readsDigits rmX12_readsDigits (va_Pc [.ref (ob 0), .int (nI md)] (Pre D cA A (MW cA ob aS aI aR aM aK aT aZ aE aD aF aN aP aH vH vT (nI (po)) (nI (100 * j)) (nI sz) vS))) (va_Qi (fun r (u : (Nat → Int32) × Nat) => u.2 = (rdD f sz md po).2 ∧ r = b2i (rdD f sz md po).1 ∧ ((rdD f sz md po).1 = true → ∀ a, a < md → u.1 a = f (po + a) - nI 48)) (fun u t => Wd D A ((fun (u : (Nat → Int32) × Nat) => MW cA ob aS aI aR aM aK aT aZ aE aD aF u.1 aP aH vH vT (nI u.2) (nI (100 * j)) (nI sz) vS) u) t) A) (0) (0) A := by
  refine k_ofi (S := (Nat → Int32) × Nat) (F := fun (u : (Nat → Int32) × Nat) => MW cA ob aS aI aR aM aK aT aZ aE aD aF u.1 aP aH vH vT (nI u.2) (nI (100 * j)) (nI sz) vS) (cc := cX12_readsDigits) (maxL := 3) (by decide) rfl (Nat.le_of_ble_eq_true rfl) ?_
  intro p e s m args below meth c Q hF hini hK hA hG hret ls hl
  have hl : lv_has ls 3 [(0, .ref (ob 0)), (1, .int (nI md))] := hl
  have hT0 := hT
  obtain ⟨hj, hsz, hTe⟩ := hT
  refine lv_iconst (v := (nI 0)) hF.1 hF.2.1 dX12_readsDigits_0 (by decide +kernel) ?_
  refine lv_istore_n (lv' := [(2, .int (nI 0)), (0, .ref (ob 0)), (1, .int (nI md))]) hF.1 hF.2.1 dX12_readsDigits_1 rfl hl (by decide) rfl (fun ls hl => ?_)
  have lp2 : ∀ (fuel : Nat), ∀ (k : Nat) (bN : Nat → Int32), (hk : k ≤ md) → (hrd : rdD f sz md po = rdD f sz (md - k) (po + k)) → (hdg : ∀ a, a < k → bN a = f (po + a) - nI 48) → (md - k) < fuel → ∀ (H : Heap) (locs : List Loc), Gd D A (MW cA ob aS aI aR aM aK aT aZ aE aD aF bN aP aH vH vT (nI (po + k)) (nI (100 * j)) (nI sz) vS) s.heap H locs → ∀ ls : Array Slot, lv_has ls 3 [(0, .ref (ob 0)), (1, .int (nI md)), (2, .int (nI k))] → W p l e rmX12_readsDigits s m args below meth c H locs (0) (0) Q (F0 m 2 ls []) := by
    intro fuel
    induction fuel with
    | zero => intro k bN hk hrd hdg hmu; exact absurd hmu (Nat.not_lt_zero _)
    | succ fuel ih2 =>
      intro k bN hk hrd hdg hmu H locs hG ls hl
      refine lv_iload_n hF.1 hF.2.1 dX12_readsDigits_2 rfl (lv_at hl 2 rfl) ?_
      refine lv_iload_n hF.1 hF.2.1 dX12_readsDigits_3 rfl (lv_at hl 1 rfl) ?_
      refine lv_icmp_ge (tgt := 55) hF.1 hF.2.1 dX12_readsDigits_4 (by decide) (fun c_4 => ?_) (fun c_4 => ?_)
      · --
        have n_4 : md ≤ k := (nI_leI (a := md) (b := k) (by omega) (by omega)).mp c_4
        refine lv_iconst (v := (nI 1)) hF.1 hF.2.1 dX12_readsDigits_55 (by decide +kernel) ?_
        exact hret _ (bN, po + k) _ ls _ _ _ _ (by obtain rfl : k = md := (by omega); rw [hrd, Nat.sub_self]; exact ⟨rfl, rfl, fun _ => hdg⟩) (by first | rfl | exact nar_b2i _) hG (Nat.le_of_ble_eq_true rfl) (Nat.le_of_ble_eq_true rfl) dX12_readsDigits_56
      · --
        have n_4 : ¬ (md ≤ k) := fun zz9 => c_4 ((nI_leI (a := md) (b := k) (by omega) (by omega)).mpr zz9)
        refine lv_aload_n hF.1 hF.2.1 dX12_readsDigits_7 rfl (lv_at hl 0 rfl) ?_
        refine k_ci (r_V (As := []) hF hK hA hG (c_X12_here (po := po + k) hT0 (by omega)) (cwV 0 hF.2.2.2.2 gX12_readsDigits_X12_here rfl rfl rfl (by decide +kernel) ⟨Nat.le_of_ble_eq_true rfl, Nat.le_of_ble_eq_true rfl⟩) 0 rfl rfl rfl rfl hl.1 rfl (lv_room (Nat.le_of_ble_eq_true rfl)) dX12_readsDigits_8 ⟨Nat.le_of_ble_eq_true rfl, Nat.le_of_ble_eq_true rfl⟩) hG (fun r_8 u_8 H locs hp_8 hG => ?_)
        subst hp_8
        refine lv_i2l hF.1 hF.2.1 dX12_readsDigits_11 rfl ?_
        refine lv_ldc2 hF.1 hF.2.1 (own := RX12) hF.2.2.2.1 (hF.2.2.2.2 _ (List.mem_of_getElem? (i := 1) rfl)) dX12_readsDigits_12 ?_
        refine lv_ldc2 hF.1 hF.2.1 (own := RX12) hF.2.2.2.1 (hF.2.2.2.2 _ (List.mem_of_getElem? (i := 2) rfl)) dX12_readsDigits_15 ?_
        refine k_ci (r_S (As := [.long ((rdC f sz (po + k)).toInt64), .long (48), .long (57)]) hF hK hA hG (c_X12_isIn) (cwS 3 hF.2.2.2.2 gX12_readsDigits_X12_isIn rfl rfl rfl (by decide +kernel) ⟨Nat.le_of_ble_eq_true rfl, Nat.le_of_ble_eq_true rfl⟩) rfl hl.1 rfl (lv_room (Nat.le_of_ble_eq_true rfl)) dX12_readsDigits_18 ⟨Nat.le_of_ble_eq_true rfl, Nat.le_of_ble_eq_true rfl⟩) hG (fun r_18 u_18 H locs hp_18 hG => ?_)
        rw [inLQ (lo := 48) (hi := 57) (by omega) (by omega) (by decide +kernel) (by decide +kernel)] at hp_18
        subst hp_18
        refine lv_if_ne (tgt := 26) hF.1 hF.2.1 dX12_readsDigits_21 (by decide) (fun c_21 => ?_) (fun c_21 => ?_)
        · --
          have n_21 := b2i_nz.mp c_21
          refine lv_aload_n hF.1 hF.2.1 dX12_readsDigits_26 rfl (lv_at hl 0 rfl) ?_
          refine k_get (C := RX12) (T := TX12) (N := 19) hF hK hG (fun _ h => List.mem_cons_of_mem _ (List.mem_append_right _ h)) 0 rfl rfl 15 (by decide) (List.mem_of_getElem? (i := 3) rfl) (fun _ h9 => h9) rfl dX12_readsDigits_27 ?_
          refine lv_iload_n hF.1 hF.2.1 dX12_readsDigits_30 rfl (lv_at hl 2 rfl) ?_
          refine lv_aload_n hF.1 hF.2.1 dX12_readsDigits_31 rfl (lv_at hl 0 rfl) ?_
          refine k_ci (r_V (As := []) hF hK hA hG (c_X12_here (po := po + k) hT0 (by omega)) (cwV 0 hF.2.2.2.2 gX12_readsDigits_X12_here rfl rfl rfl (by decide +kernel) ⟨Nat.le_of_ble_eq_true rfl, Nat.le_of_ble_eq_true rfl⟩) 0 rfl rfl rfl rfl hl.1 rfl (lv_room (Nat.le_of_ble_eq_true rfl)) dX12_readsDigits_32 ⟨Nat.le_of_ble_eq_true rfl, Nat.le_of_ble_eq_true rfl⟩) hG (fun r_32 u_32 H locs hp_32 hG => ?_)
          subst hp_32
          refine lv_bipush (v := (nI 48)) hF.1 hF.2.1 dX12_readsDigits_35 (by decide +kernel) ?_
          refine lv_isub hF.1 hF.2.1 dX12_readsDigits_37 ?_
          refine k_iastN hF hK hG 11 rfl (k) rfl (by omega) (by omega) dX12_readsDigits_38 (fun H locs hG => ?_)
          refine lv_aload_n hF.1 hF.2.1 dX12_readsDigits_39 rfl (lv_at hl 0 rfl) ?_
          refine lv_dup hF.1 hF.2.1 dX12_readsDigits_40 rfl ?_
          refine k_get (C := RX12) (T := TX12) (N := 19) hF hK hG (fun _ h => List.mem_cons_of_mem _ (List.mem_append_right _ h)) 0 rfl rfl 12 (by decide) (List.mem_of_getElem? (i := 4) rfl) (fun _ h9 => h9) rfl dX12_readsDigits_41 ?_
          refine lv_iconst (v := (nI 1)) hF.1 hF.2.1 dX12_readsDigits_44 (by decide +kernel) ?_
          refine lv_iadd hF.1 hF.2.1 dX12_readsDigits_45 ?_
          rw [nI_add]
          refine k_put (C := RX12) (T := TX12) (N := 19) hF hK hG (fun _ h => List.mem_cons_of_mem _ (List.mem_append_right _ h)) tyX12 tyX12_ok nmX12 0 rfl rfl 12 (by decide) (List.mem_of_getElem? (i := 4) rfl) (fun _ h9 => h9) rfl rfl rfl (Nat.le_of_ble_eq_true rfl) dX12_readsDigits_46 (fun H locs hG => ?_)
          refine lv_iinc (v := (nI (k + 1))) (lv' := [(2, .int (nI (k + 1))), (0, .ref (ob 0)), (1, .int (nI md))]) hF.1 hF.2.1 dX12_readsDigits_49 hl (k := 2) rfl (nI_inc _ _) (by decide) rfl (fun ls hl => ?_)
          refine lv_goto (tgt := 2) hF.1 hF.2.1 dX12_readsDigits_52 (by decide) ?_
          exact ih2 (k + 1) (_) (by omega) (by rw [hrd, show md - k = (md - (k + 1)) + 1 by omega, rdD_t n_21]; rfl) (lt_s (fun a h => by rw [pk_un (Nat.ne_of_lt h)]; exact hdg a h) (by rw [pk_us, (rd_dg n_21).2])) (by omega) _ _ hG ls (lv_sub hl [1, 2, 0] rfl)
        · --
          have n_21 := b2i_z.mp c_21
          refine lv_iconst (v := (nI 0)) hF.1 hF.2.1 dX12_readsDigits_24 (by decide +kernel) ?_
          exact hret _ (bN, po + k) _ ls _ _ _ _ (by rw [hrd, show md - k = (md - k - 1) + 1 by omega, rdD_f n_21]; exact ⟨rfl, rfl, fun h => by cases h⟩) (by first | rfl | exact nar_b2i _) hG (Nat.le_of_ble_eq_true rfl) (Nat.le_of_ble_eq_true rfl) dX12_readsDigits_25
  exact lp2 _ (0) (aN) (by omega) rfl (fun a h => absurd h (Nat.not_lt_zero a)) (Nat.lt_succ_self _) _ _ hG ls (lv_sub hl [1, 2, 0] rfl)

abbrev rmX12_readsStatement : Room := { frames := 2, cells := 0, slots := 0, locals := 47 }
set_option maxHeartbeats 4000000 in
set_option maxRecDepth 100000 in
theorem c_X12_readsStatement {l : Launch} {D : va_G} {cA : Nat → ClassId} {A : Nat → Prop}  {ob : Nat → Nat} {aS aI aR aM aK aT aZ aE aD aF aN aP aH : Nat → Int32} {vH vT vS : Int32} {j sz po : Nat} {f : Nat → Int32} (hT : TX aE j f sz) (hp : po < 1000) (hp2 : po < 800) : Met l yX12_readsStatement wsX12_readsStatement rmX12_readsStatement (va_Pc [.ref (ob 0)] (Pre D cA A (MW cA ob aS aI aR aM aK aT aZ aE aD aF aN aP aH vH vT (nI (po)) (nI (100 * j)) (nI sz) vS))) (va_Qi (fun r (u : (Nat → Int32) × Nat) => u.2 = (rdS f sz po).2 ∧ r = b2i (rdS f sz po).1 ∧ ((rdS f sz po).1 = true → ∀ a, a < manyC (f po) → u.1 a = f (po + 1 + a) - nI 48)) (fun u t => Wd D A ((fun (u : (Nat → Int32) × Nat) => MW cA ob aS aI aR aM aK aT aZ aE aD aF u.1 aP aH vH vT (nI u.2) (nI (100 * j)) (nI sz) vS) u) t) A) (0) (0) A := by
  refine k_ofi (S := (Nat → Int32) × Nat) (F := fun (u : (Nat → Int32) × Nat) => MW cA ob aS aI aR aM aK aT aZ aE aD aF u.1 aP aH vH vT (nI u.2) (nI (100 * j)) (nI sz) vS) (cc := cX12_readsStatement) (maxL := 3) (by decide) rfl (Nat.le_of_ble_eq_true rfl) ?_
  intro p e s m args below meth c Q hF hini hK hA hG hret ls hl
  have hl : lv_has ls 3 [(0, .ref (ob 0))] := hl
  have hT0 := hT
  obtain ⟨hj, hsz, hTe⟩ := hT
  refine lv_aload_n hF.1 hF.2.1 dX12_readsStatement_0 rfl (lv_at hl 0 rfl) ?_
  refine k_ci (r_V (As := []) hF hK hA hG (c_X12_here hT0 (by omega)) (cwV 0 hF.2.2.2.2 gX12_readsStatement_X12_here rfl rfl rfl (by decide +kernel) ⟨Nat.le_of_ble_eq_true rfl, Nat.le_of_ble_eq_true rfl⟩) 0 rfl rfl rfl rfl hl.1 rfl (lv_room (Nat.le_of_ble_eq_true rfl)) dX12_readsStatement_1 ⟨Nat.le_of_ble_eq_true rfl, Nat.le_of_ble_eq_true rfl⟩) hG (fun r_1 u_1 H locs hp_1 hG => ?_)
  subst hp_1
  refine lv_istore_n (lv' := [(1, .int (rdC f sz po)), (0, .ref (ob 0))]) hF.1 hF.2.1 dX12_readsStatement_4 rfl hl (by decide) rfl (fun ls hl => ?_)
  refine lv_iload_n hF.1 hF.2.1 dX12_readsStatement_5 rfl (lv_at hl 0 rfl) ?_
  refine lv_bipush (v := (nI 100)) hF.1 hF.2.1 dX12_readsStatement_6 (by decide +kernel) ?_
  refine lv_icmp_ne (tgt := 15) hF.1 hF.2.1 dX12_readsStatement_8 (by decide) (fun c_8 => ?_) (fun c_8 => ?_)
  · --
    refine lv_iload_n hF.1 hF.2.1 dX12_readsStatement_15 rfl (lv_at hl 0 rfl) ?_
    refine lv_bipush (v := (nI 111)) hF.1 hF.2.1 dX12_readsStatement_16 (by decide +kernel) ?_
    refine lv_icmp_eq (tgt := 33) hF.1 hF.2.1 dX12_readsStatement_18 (by decide) (fun c_18 => ?_) (fun c_18 => ?_)
    · --
      refine lv_iconst (v := (nI 1)) hF.1 hF.2.1 dX12_readsStatement_33 (by decide +kernel) ?_
      refine lv_goto (tgt := 38) hF.1 hF.2.1 dX12_readsStatement_34 (by decide) ?_
      refine lv_istore_n (lv' := [(2, .int (nI 1)), (1, .int (rdC f sz po)), (0, .ref (ob 0))]) hF.1 hF.2.1 dX12_readsStatement_38 rfl hl (by decide) rfl (fun ls hl => ?_)
      have hm : manyC (rdC f sz po) = 1 := by unfold manyC; first | exact if_pos c_8 | (rw [if_neg c_8]; first | exact if_pos (Or.inl c_18) | exact if_pos (Or.inr (Or.inl c_24)) | exact if_pos (Or.inr (Or.inr c_30)) | exact if_neg (fun h => h.elim c_18 (fun h => h.elim c_24 c_30)))
      refine lv_iload_n hF.1 hF.2.1 dX12_readsStatement_39 rfl (lv_at hl 0 rfl) ?_
      refine lv_if_ne (tgt := 45) hF.1 hF.2.1 dX12_readsStatement_40 (by decide) (fun c_40 => ?_) (fun c_40 => ?_)
      · --
        have n_40 : ¬ (1 = 0) := fun zz9 => c_40 ((nI_eq (a := 1) (b := 0) (by omega) (by omega)).mpr zz9)
        have hlt := many_lt (f := f) (sz := sz) (p := po) (by rw [hm]; decide)
        have hc := rdC_t (f := f) hlt
        have hS1 : rdS f sz po = rdE f sz (rdD f sz 1 (po + 1)) := rdS_m hm
        refine lv_aload_n hF.1 hF.2.1 dX12_readsStatement_45 rfl (lv_at hl 2 rfl) ?_
        refine lv_dup hF.1 hF.2.1 dX12_readsStatement_46 rfl ?_
        refine k_get (C := RX12) (T := TX12) (N := 19) hF hK hG (fun _ h => List.mem_cons_of_mem _ (List.mem_append_right _ h)) 0 rfl rfl 12 (by decide) (List.mem_of_getElem? (i := 1) rfl) (fun _ h9 => h9) rfl dX12_readsStatement_47 ?_
        refine lv_iconst (v := (nI 1)) hF.1 hF.2.1 dX12_readsStatement_50 (by decide +kernel) ?_
        refine lv_iadd hF.1 hF.2.1 dX12_readsStatement_51 ?_
        rw [nI_add]
        refine k_put (C := RX12) (T := TX12) (N := 19) hF hK hG (fun _ h => List.mem_cons_of_mem _ (List.mem_append_right _ h)) tyX12 tyX12_ok nmX12 0 rfl rfl 12 (by decide) (List.mem_of_getElem? (i := 1) rfl) (fun _ h9 => h9) rfl rfl rfl (Nat.le_of_ble_eq_true rfl) dX12_readsStatement_52 (fun H locs hG => ?_)
        refine lv_aload_n hF.1 hF.2.1 dX12_readsStatement_55 rfl (lv_at hl 2 rfl) ?_
        refine lv_iload_n hF.1 hF.2.1 dX12_readsStatement_56 rfl (lv_at hl 0 rfl) ?_
        refine k_ci (r_V (As := [.int (nI 1)]) hF hK hA hG (c_X12_readsDigits (po := po + 1) (md := 1) hT0 (by omega) (by decide) (by omega)) (cwV 1 hF.2.2.2.2 gX12_readsStatement_X12_readsDigits rfl rfl rfl (by decide +kernel) ⟨Nat.le_of_ble_eq_true rfl, Nat.le_of_ble_eq_true rfl⟩) 0 rfl rfl rfl rfl hl.1 rfl (lv_room (Nat.le_of_ble_eq_true rfl)) dX12_readsStatement_57 ⟨Nat.le_of_ble_eq_true rfl, Nat.le_of_ble_eq_true rfl⟩) hG (fun r_57 u_57 H locs hp_57 hG => ?_)
        obtain ⟨hu, hr, hnum⟩ := hp_57
        subst hr
        have hle := rdD_le (f := f) (sz := sz) 1 (po + 1) (by omega)
        obtain ⟨uN, uP⟩ := u_57
        obtain rfl : uP = (rdD f sz 1 (po + 1)).2 := hu
        refine lv_if_eq (tgt := 72) hF.1 hF.2.1 dX12_readsStatement_60 (by decide) (fun c_60 => ?_) (fun c_60 => ?_)
        · --
          have n_60 : ((rdD f sz 1 (po + 1)).1) = false := b2i_z.mp c_60
          refine lv_iconst (v := (nI 0)) hF.1 hF.2.1 dX12_readsStatement_72 (by decide +kernel) ?_
          exact hret _ (uN, _) _ ls _ _ _ _ (by first | (rw [hS1, rdE_n n_60]; exact ⟨rfl, n_60 ▸ rfl, fun h => by rw [n_60] at h; cases h⟩) | (rw [hS1, rdE_f n_60 c_69]; exact ⟨rfl, rfl, fun h => by cases h⟩)) (by first | rfl | exact nar_b2i _) hG (Nat.le_of_ble_eq_true rfl) (Nat.le_of_ble_eq_true rfl) dX12_readsStatement_73
        · --
          have n_60 : ((rdD f sz 1 (po + 1)).1) = true := b2i_nz.mp c_60
          refine lv_aload_n hF.1 hF.2.1 dX12_readsStatement_63 rfl (lv_at hl 2 rfl) ?_
          refine k_ci (r_V (As := []) hF hK hA hG (c_X12_here (po := (rdD f sz 1 (po + 1)).2) hT0 (by omega)) (cwV 0 hF.2.2.2.2 gX12_readsStatement_X12_here rfl rfl rfl (by decide +kernel) ⟨Nat.le_of_ble_eq_true rfl, Nat.le_of_ble_eq_true rfl⟩) 0 rfl rfl rfl rfl hl.1 rfl (lv_room (Nat.le_of_ble_eq_true rfl)) dX12_readsStatement_64 ⟨Nat.le_of_ble_eq_true rfl, Nat.le_of_ble_eq_true rfl⟩) hG (fun r_64 u_64 H locs hp_64 hG => ?_)
          subst hp_64
          refine lv_bipush (v := (nI 59)) hF.1 hF.2.1 dX12_readsStatement_67 (by decide +kernel) ?_
          refine lv_icmp_eq (tgt := 74) hF.1 hF.2.1 dX12_readsStatement_69 (by decide) (fun c_69 => ?_) (fun c_69 => ?_)
          · --
            refine lv_aload_n hF.1 hF.2.1 dX12_readsStatement_74 rfl (lv_at hl 2 rfl) ?_
            refine lv_dup hF.1 hF.2.1 dX12_readsStatement_75 rfl ?_
            refine k_get (C := RX12) (T := TX12) (N := 19) hF hK hG (fun _ h => List.mem_cons_of_mem _ (List.mem_append_right _ h)) 0 rfl rfl 12 (by decide) (List.mem_of_getElem? (i := 1) rfl) (fun _ h9 => h9) rfl dX12_readsStatement_76 ?_
            refine lv_iconst (v := (nI 1)) hF.1 hF.2.1 dX12_readsStatement_79 (by decide +kernel) ?_
            refine lv_iadd hF.1 hF.2.1 dX12_readsStatement_80 ?_
            rw [nI_add]
            refine k_put (C := RX12) (T := TX12) (N := 19) hF hK hG (fun _ h => List.mem_cons_of_mem _ (List.mem_append_right _ h)) tyX12 tyX12_ok nmX12 0 rfl rfl 12 (by decide) (List.mem_of_getElem? (i := 1) rfl) (fun _ h9 => h9) rfl rfl rfl (Nat.le_of_ble_eq_true rfl) dX12_readsStatement_81 (fun H locs hG => ?_)
            refine lv_iconst (v := (nI 1)) hF.1 hF.2.1 dX12_readsStatement_84 (by decide +kernel) ?_
            exact hret _ (uN, _) _ ls _ _ _ _ (by rw [hS1, rdE_t n_60 c_69]; exact ⟨rfl, rfl, fun _ a ha => hnum n_60 a (by rw [hc] at hm; rw [hm] at ha; exact ha)⟩) (by first | rfl | exact nar_b2i _) hG (Nat.le_of_ble_eq_true rfl) (Nat.le_of_ble_eq_true rfl) dX12_readsStatement_85
          · --
            refine lv_iconst (v := (nI 0)) hF.1 hF.2.1 dX12_readsStatement_72 (by decide +kernel) ?_
            exact hret _ (uN, _) _ ls _ _ _ _ (by first | (rw [hS1, rdE_n n_60]; exact ⟨rfl, n_60 ▸ rfl, fun h => by rw [n_60] at h; cases h⟩) | (rw [hS1, rdE_f n_60 c_69]; exact ⟨rfl, rfl, fun h => by cases h⟩)) (by first | rfl | exact nar_b2i _) hG (Nat.le_of_ble_eq_true rfl) (Nat.le_of_ble_eq_true rfl) dX12_readsStatement_73
      · --
        have n_40 : 1 = 0 := (nI_eq (a := 1) (b := 0) (by omega) (by omega)).mp c_40
        exact absurd n_40 (by decide)
    · --
      refine lv_iload_n hF.1 hF.2.1 dX12_readsStatement_21 rfl (lv_at hl 0 rfl) ?_
      refine lv_bipush (v := (nI 115)) hF.1 hF.2.1 dX12_readsStatement_22 (by decide +kernel) ?_
      refine lv_icmp_eq (tgt := 33) hF.1 hF.2.1 dX12_readsStatement_24 (by decide) (fun c_24 => ?_) (fun c_24 => ?_)
      · --
        refine lv_iconst (v := (nI 1)) hF.1 hF.2.1 dX12_readsStatement_33 (by decide +kernel) ?_
        refine lv_goto (tgt := 38) hF.1 hF.2.1 dX12_readsStatement_34 (by decide) ?_
        refine lv_istore_n (lv' := [(2, .int (nI 1)), (1, .int (rdC f sz po)), (0, .ref (ob 0))]) hF.1 hF.2.1 dX12_readsStatement_38 rfl hl (by decide) rfl (fun ls hl => ?_)
        have hm : manyC (rdC f sz po) = 1 := by unfold manyC; first | exact if_pos c_8 | (rw [if_neg c_8]; first | exact if_pos (Or.inl c_18) | exact if_pos (Or.inr (Or.inl c_24)) | exact if_pos (Or.inr (Or.inr c_30)) | exact if_neg (fun h => h.elim c_18 (fun h => h.elim c_24 c_30)))
        refine lv_iload_n hF.1 hF.2.1 dX12_readsStatement_39 rfl (lv_at hl 0 rfl) ?_
        refine lv_if_ne (tgt := 45) hF.1 hF.2.1 dX12_readsStatement_40 (by decide) (fun c_40 => ?_) (fun c_40 => ?_)
        · --
          have n_40 : ¬ (1 = 0) := fun zz9 => c_40 ((nI_eq (a := 1) (b := 0) (by omega) (by omega)).mpr zz9)
          have hlt := many_lt (f := f) (sz := sz) (p := po) (by rw [hm]; decide)
          have hc := rdC_t (f := f) hlt
          have hS1 : rdS f sz po = rdE f sz (rdD f sz 1 (po + 1)) := rdS_m hm
          refine lv_aload_n hF.1 hF.2.1 dX12_readsStatement_45 rfl (lv_at hl 2 rfl) ?_
          refine lv_dup hF.1 hF.2.1 dX12_readsStatement_46 rfl ?_
          refine k_get (C := RX12) (T := TX12) (N := 19) hF hK hG (fun _ h => List.mem_cons_of_mem _ (List.mem_append_right _ h)) 0 rfl rfl 12 (by decide) (List.mem_of_getElem? (i := 1) rfl) (fun _ h9 => h9) rfl dX12_readsStatement_47 ?_
          refine lv_iconst (v := (nI 1)) hF.1 hF.2.1 dX12_readsStatement_50 (by decide +kernel) ?_
          refine lv_iadd hF.1 hF.2.1 dX12_readsStatement_51 ?_
          rw [nI_add]
          refine k_put (C := RX12) (T := TX12) (N := 19) hF hK hG (fun _ h => List.mem_cons_of_mem _ (List.mem_append_right _ h)) tyX12 tyX12_ok nmX12 0 rfl rfl 12 (by decide) (List.mem_of_getElem? (i := 1) rfl) (fun _ h9 => h9) rfl rfl rfl (Nat.le_of_ble_eq_true rfl) dX12_readsStatement_52 (fun H locs hG => ?_)
          refine lv_aload_n hF.1 hF.2.1 dX12_readsStatement_55 rfl (lv_at hl 2 rfl) ?_
          refine lv_iload_n hF.1 hF.2.1 dX12_readsStatement_56 rfl (lv_at hl 0 rfl) ?_
          refine k_ci (r_V (As := [.int (nI 1)]) hF hK hA hG (c_X12_readsDigits (po := po + 1) (md := 1) hT0 (by omega) (by decide) (by omega)) (cwV 1 hF.2.2.2.2 gX12_readsStatement_X12_readsDigits rfl rfl rfl (by decide +kernel) ⟨Nat.le_of_ble_eq_true rfl, Nat.le_of_ble_eq_true rfl⟩) 0 rfl rfl rfl rfl hl.1 rfl (lv_room (Nat.le_of_ble_eq_true rfl)) dX12_readsStatement_57 ⟨Nat.le_of_ble_eq_true rfl, Nat.le_of_ble_eq_true rfl⟩) hG (fun r_57 u_57 H locs hp_57 hG => ?_)
          obtain ⟨hu, hr, hnum⟩ := hp_57
          subst hr
          have hle := rdD_le (f := f) (sz := sz) 1 (po + 1) (by omega)
          obtain ⟨uN, uP⟩ := u_57
          obtain rfl : uP = (rdD f sz 1 (po + 1)).2 := hu
          refine lv_if_eq (tgt := 72) hF.1 hF.2.1 dX12_readsStatement_60 (by decide) (fun c_60 => ?_) (fun c_60 => ?_)
          · --
            have n_60 : ((rdD f sz 1 (po + 1)).1) = false := b2i_z.mp c_60
            refine lv_iconst (v := (nI 0)) hF.1 hF.2.1 dX12_readsStatement_72 (by decide +kernel) ?_
            exact hret _ (uN, _) _ ls _ _ _ _ (by first | (rw [hS1, rdE_n n_60]; exact ⟨rfl, n_60 ▸ rfl, fun h => by rw [n_60] at h; cases h⟩) | (rw [hS1, rdE_f n_60 c_69]; exact ⟨rfl, rfl, fun h => by cases h⟩)) (by first | rfl | exact nar_b2i _) hG (Nat.le_of_ble_eq_true rfl) (Nat.le_of_ble_eq_true rfl) dX12_readsStatement_73
          · --
            have n_60 : ((rdD f sz 1 (po + 1)).1) = true := b2i_nz.mp c_60
            refine lv_aload_n hF.1 hF.2.1 dX12_readsStatement_63 rfl (lv_at hl 2 rfl) ?_
            refine k_ci (r_V (As := []) hF hK hA hG (c_X12_here (po := (rdD f sz 1 (po + 1)).2) hT0 (by omega)) (cwV 0 hF.2.2.2.2 gX12_readsStatement_X12_here rfl rfl rfl (by decide +kernel) ⟨Nat.le_of_ble_eq_true rfl, Nat.le_of_ble_eq_true rfl⟩) 0 rfl rfl rfl rfl hl.1 rfl (lv_room (Nat.le_of_ble_eq_true rfl)) dX12_readsStatement_64 ⟨Nat.le_of_ble_eq_true rfl, Nat.le_of_ble_eq_true rfl⟩) hG (fun r_64 u_64 H locs hp_64 hG => ?_)
            subst hp_64
            refine lv_bipush (v := (nI 59)) hF.1 hF.2.1 dX12_readsStatement_67 (by decide +kernel) ?_
            refine lv_icmp_eq (tgt := 74) hF.1 hF.2.1 dX12_readsStatement_69 (by decide) (fun c_69 => ?_) (fun c_69 => ?_)
            · --
              refine lv_aload_n hF.1 hF.2.1 dX12_readsStatement_74 rfl (lv_at hl 2 rfl) ?_
              refine lv_dup hF.1 hF.2.1 dX12_readsStatement_75 rfl ?_
              refine k_get (C := RX12) (T := TX12) (N := 19) hF hK hG (fun _ h => List.mem_cons_of_mem _ (List.mem_append_right _ h)) 0 rfl rfl 12 (by decide) (List.mem_of_getElem? (i := 1) rfl) (fun _ h9 => h9) rfl dX12_readsStatement_76 ?_
              refine lv_iconst (v := (nI 1)) hF.1 hF.2.1 dX12_readsStatement_79 (by decide +kernel) ?_
              refine lv_iadd hF.1 hF.2.1 dX12_readsStatement_80 ?_
              rw [nI_add]
              refine k_put (C := RX12) (T := TX12) (N := 19) hF hK hG (fun _ h => List.mem_cons_of_mem _ (List.mem_append_right _ h)) tyX12 tyX12_ok nmX12 0 rfl rfl 12 (by decide) (List.mem_of_getElem? (i := 1) rfl) (fun _ h9 => h9) rfl rfl rfl (Nat.le_of_ble_eq_true rfl) dX12_readsStatement_81 (fun H locs hG => ?_)
              refine lv_iconst (v := (nI 1)) hF.1 hF.2.1 dX12_readsStatement_84 (by decide +kernel) ?_
              exact hret _ (uN, _) _ ls _ _ _ _ (by rw [hS1, rdE_t n_60 c_69]; exact ⟨rfl, rfl, fun _ a ha => hnum n_60 a (by rw [hc] at hm; rw [hm] at ha; exact ha)⟩) (by first | rfl | exact nar_b2i _) hG (Nat.le_of_ble_eq_true rfl) (Nat.le_of_ble_eq_true rfl) dX12_readsStatement_85
            · --
              refine lv_iconst (v := (nI 0)) hF.1 hF.2.1 dX12_readsStatement_72 (by decide +kernel) ?_
              exact hret _ (uN, _) _ ls _ _ _ _ (by first | (rw [hS1, rdE_n n_60]; exact ⟨rfl, n_60 ▸ rfl, fun h => by rw [n_60] at h; cases h⟩) | (rw [hS1, rdE_f n_60 c_69]; exact ⟨rfl, rfl, fun h => by cases h⟩)) (by first | rfl | exact nar_b2i _) hG (Nat.le_of_ble_eq_true rfl) (Nat.le_of_ble_eq_true rfl) dX12_readsStatement_73
        · --
          have n_40 : 1 = 0 := (nI_eq (a := 1) (b := 0) (by omega) (by omega)).mp c_40
          exact absurd n_40 (by decide)
      · --
        refine lv_iload_n hF.1 hF.2.1 dX12_readsStatement_27 rfl (lv_at hl 0 rfl) ?_
        refine lv_bipush (v := (nI 112)) hF.1 hF.2.1 dX12_readsStatement_28 (by decide +kernel) ?_
        refine lv_icmp_ne (tgt := 37) hF.1 hF.2.1 dX12_readsStatement_30 (by decide) (fun c_30 => ?_) (fun c_30 => ?_)
        · --
          refine lv_iconst (v := (nI 0)) hF.1 hF.2.1 dX12_readsStatement_37 (by decide +kernel) ?_
          refine lv_istore_n (lv' := [(2, .int (nI 0)), (1, .int (rdC f sz po)), (0, .ref (ob 0))]) hF.1 hF.2.1 dX12_readsStatement_38 rfl hl (by decide) rfl (fun ls hl => ?_)
          have hm : manyC (rdC f sz po) = 0 := by unfold manyC; first | exact if_pos c_8 | (rw [if_neg c_8]; first | exact if_pos (Or.inl c_18) | exact if_pos (Or.inr (Or.inl c_24)) | exact if_pos (Or.inr (Or.inr c_30)) | exact if_neg (fun h => h.elim c_18 (fun h => h.elim c_24 c_30)))
          refine lv_iload_n hF.1 hF.2.1 dX12_readsStatement_39 rfl (lv_at hl 0 rfl) ?_
          refine lv_if_ne (tgt := 45) hF.1 hF.2.1 dX12_readsStatement_40 (by decide) (fun c_40 => ?_) (fun c_40 => ?_)
          · --
            have n_40 : ¬ (0 = 0) := fun zz9 => c_40 ((nI_eq (a := 0) (b := 0) (by omega) (by omega)).mpr zz9)
            exact absurd rfl n_40
          · --
            have n_40 : 0 = 0 := (nI_eq (a := 0) (b := 0) (by omega) (by omega)).mp c_40
            refine lv_iconst (v := (nI 0)) hF.1 hF.2.1 dX12_readsStatement_43 (by decide +kernel) ?_
            exact hret _ (aN, po) _ ls _ _ _ _ (by rw [rdS_0 hm]; exact ⟨rfl, rfl, fun h => by cases h⟩) (by first | rfl | exact nar_b2i _) hG (Nat.le_of_ble_eq_true rfl) (Nat.le_of_ble_eq_true rfl) dX12_readsStatement_44
        · --
          refine lv_iconst (v := (nI 1)) hF.1 hF.2.1 dX12_readsStatement_33 (by decide +kernel) ?_
          refine lv_goto (tgt := 38) hF.1 hF.2.1 dX12_readsStatement_34 (by decide) ?_
          refine lv_istore_n (lv' := [(2, .int (nI 1)), (1, .int (rdC f sz po)), (0, .ref (ob 0))]) hF.1 hF.2.1 dX12_readsStatement_38 rfl hl (by decide) rfl (fun ls hl => ?_)
          have hm : manyC (rdC f sz po) = 1 := by unfold manyC; first | exact if_pos c_8 | (rw [if_neg c_8]; first | exact if_pos (Or.inl c_18) | exact if_pos (Or.inr (Or.inl c_24)) | exact if_pos (Or.inr (Or.inr c_30)) | exact if_neg (fun h => h.elim c_18 (fun h => h.elim c_24 c_30)))
          refine lv_iload_n hF.1 hF.2.1 dX12_readsStatement_39 rfl (lv_at hl 0 rfl) ?_
          refine lv_if_ne (tgt := 45) hF.1 hF.2.1 dX12_readsStatement_40 (by decide) (fun c_40 => ?_) (fun c_40 => ?_)
          · --
            have n_40 : ¬ (1 = 0) := fun zz9 => c_40 ((nI_eq (a := 1) (b := 0) (by omega) (by omega)).mpr zz9)
            have hlt := many_lt (f := f) (sz := sz) (p := po) (by rw [hm]; decide)
            have hc := rdC_t (f := f) hlt
            have hS1 : rdS f sz po = rdE f sz (rdD f sz 1 (po + 1)) := rdS_m hm
            refine lv_aload_n hF.1 hF.2.1 dX12_readsStatement_45 rfl (lv_at hl 2 rfl) ?_
            refine lv_dup hF.1 hF.2.1 dX12_readsStatement_46 rfl ?_
            refine k_get (C := RX12) (T := TX12) (N := 19) hF hK hG (fun _ h => List.mem_cons_of_mem _ (List.mem_append_right _ h)) 0 rfl rfl 12 (by decide) (List.mem_of_getElem? (i := 1) rfl) (fun _ h9 => h9) rfl dX12_readsStatement_47 ?_
            refine lv_iconst (v := (nI 1)) hF.1 hF.2.1 dX12_readsStatement_50 (by decide +kernel) ?_
            refine lv_iadd hF.1 hF.2.1 dX12_readsStatement_51 ?_
            rw [nI_add]
            refine k_put (C := RX12) (T := TX12) (N := 19) hF hK hG (fun _ h => List.mem_cons_of_mem _ (List.mem_append_right _ h)) tyX12 tyX12_ok nmX12 0 rfl rfl 12 (by decide) (List.mem_of_getElem? (i := 1) rfl) (fun _ h9 => h9) rfl rfl rfl (Nat.le_of_ble_eq_true rfl) dX12_readsStatement_52 (fun H locs hG => ?_)
            refine lv_aload_n hF.1 hF.2.1 dX12_readsStatement_55 rfl (lv_at hl 2 rfl) ?_
            refine lv_iload_n hF.1 hF.2.1 dX12_readsStatement_56 rfl (lv_at hl 0 rfl) ?_
            refine k_ci (r_V (As := [.int (nI 1)]) hF hK hA hG (c_X12_readsDigits (po := po + 1) (md := 1) hT0 (by omega) (by decide) (by omega)) (cwV 1 hF.2.2.2.2 gX12_readsStatement_X12_readsDigits rfl rfl rfl (by decide +kernel) ⟨Nat.le_of_ble_eq_true rfl, Nat.le_of_ble_eq_true rfl⟩) 0 rfl rfl rfl rfl hl.1 rfl (lv_room (Nat.le_of_ble_eq_true rfl)) dX12_readsStatement_57 ⟨Nat.le_of_ble_eq_true rfl, Nat.le_of_ble_eq_true rfl⟩) hG (fun r_57 u_57 H locs hp_57 hG => ?_)
            obtain ⟨hu, hr, hnum⟩ := hp_57
            subst hr
            have hle := rdD_le (f := f) (sz := sz) 1 (po + 1) (by omega)
            obtain ⟨uN, uP⟩ := u_57
            obtain rfl : uP = (rdD f sz 1 (po + 1)).2 := hu
            refine lv_if_eq (tgt := 72) hF.1 hF.2.1 dX12_readsStatement_60 (by decide) (fun c_60 => ?_) (fun c_60 => ?_)
            · --
              have n_60 : ((rdD f sz 1 (po + 1)).1) = false := b2i_z.mp c_60
              refine lv_iconst (v := (nI 0)) hF.1 hF.2.1 dX12_readsStatement_72 (by decide +kernel) ?_
              exact hret _ (uN, _) _ ls _ _ _ _ (by first | (rw [hS1, rdE_n n_60]; exact ⟨rfl, n_60 ▸ rfl, fun h => by rw [n_60] at h; cases h⟩) | (rw [hS1, rdE_f n_60 c_69]; exact ⟨rfl, rfl, fun h => by cases h⟩)) (by first | rfl | exact nar_b2i _) hG (Nat.le_of_ble_eq_true rfl) (Nat.le_of_ble_eq_true rfl) dX12_readsStatement_73
            · --
              have n_60 : ((rdD f sz 1 (po + 1)).1) = true := b2i_nz.mp c_60
              refine lv_aload_n hF.1 hF.2.1 dX12_readsStatement_63 rfl (lv_at hl 2 rfl) ?_
              refine k_ci (r_V (As := []) hF hK hA hG (c_X12_here (po := (rdD f sz 1 (po + 1)).2) hT0 (by omega)) (cwV 0 hF.2.2.2.2 gX12_readsStatement_X12_here rfl rfl rfl (by decide +kernel) ⟨Nat.le_of_ble_eq_true rfl, Nat.le_of_ble_eq_true rfl⟩) 0 rfl rfl rfl rfl hl.1 rfl (lv_room (Nat.le_of_ble_eq_true rfl)) dX12_readsStatement_64 ⟨Nat.le_of_ble_eq_true rfl, Nat.le_of_ble_eq_true rfl⟩) hG (fun r_64 u_64 H locs hp_64 hG => ?_)
              subst hp_64
              refine lv_bipush (v := (nI 59)) hF.1 hF.2.1 dX12_readsStatement_67 (by decide +kernel) ?_
              refine lv_icmp_eq (tgt := 74) hF.1 hF.2.1 dX12_readsStatement_69 (by decide) (fun c_69 => ?_) (fun c_69 => ?_)
              · --
                refine lv_aload_n hF.1 hF.2.1 dX12_readsStatement_74 rfl (lv_at hl 2 rfl) ?_
                refine lv_dup hF.1 hF.2.1 dX12_readsStatement_75 rfl ?_
                refine k_get (C := RX12) (T := TX12) (N := 19) hF hK hG (fun _ h => List.mem_cons_of_mem _ (List.mem_append_right _ h)) 0 rfl rfl 12 (by decide) (List.mem_of_getElem? (i := 1) rfl) (fun _ h9 => h9) rfl dX12_readsStatement_76 ?_
                refine lv_iconst (v := (nI 1)) hF.1 hF.2.1 dX12_readsStatement_79 (by decide +kernel) ?_
                refine lv_iadd hF.1 hF.2.1 dX12_readsStatement_80 ?_
                rw [nI_add]
                refine k_put (C := RX12) (T := TX12) (N := 19) hF hK hG (fun _ h => List.mem_cons_of_mem _ (List.mem_append_right _ h)) tyX12 tyX12_ok nmX12 0 rfl rfl 12 (by decide) (List.mem_of_getElem? (i := 1) rfl) (fun _ h9 => h9) rfl rfl rfl (Nat.le_of_ble_eq_true rfl) dX12_readsStatement_81 (fun H locs hG => ?_)
                refine lv_iconst (v := (nI 1)) hF.1 hF.2.1 dX12_readsStatement_84 (by decide +kernel) ?_
                exact hret _ (uN, _) _ ls _ _ _ _ (by rw [hS1, rdE_t n_60 c_69]; exact ⟨rfl, rfl, fun _ a ha => hnum n_60 a (by rw [hc] at hm; rw [hm] at ha; exact ha)⟩) (by first | rfl | exact nar_b2i _) hG (Nat.le_of_ble_eq_true rfl) (Nat.le_of_ble_eq_true rfl) dX12_readsStatement_85
              · --
                refine lv_iconst (v := (nI 0)) hF.1 hF.2.1 dX12_readsStatement_72 (by decide +kernel) ?_
                exact hret _ (uN, _) _ ls _ _ _ _ (by first | (rw [hS1, rdE_n n_60]; exact ⟨rfl, n_60 ▸ rfl, fun h => by rw [n_60] at h; cases h⟩) | (rw [hS1, rdE_f n_60 c_69]; exact ⟨rfl, rfl, fun h => by cases h⟩)) (by first | rfl | exact nar_b2i _) hG (Nat.le_of_ble_eq_true rfl) (Nat.le_of_ble_eq_true rfl) dX12_readsStatement_73
          · --
            have n_40 : 1 = 0 := (nI_eq (a := 1) (b := 0) (by omega) (by omega)).mp c_40
            exact absurd n_40 (by decide)
  · --
    refine lv_iconst (v := (nI 2)) hF.1 hF.2.1 dX12_readsStatement_11 (by decide +kernel) ?_
    refine lv_goto (tgt := 38) hF.1 hF.2.1 dX12_readsStatement_12 (by decide) ?_
    refine lv_istore_n (lv' := [(2, .int (nI 2)), (1, .int (rdC f sz po)), (0, .ref (ob 0))]) hF.1 hF.2.1 dX12_readsStatement_38 rfl hl (by decide) rfl (fun ls hl => ?_)
    have hm : manyC (rdC f sz po) = 2 := by unfold manyC; first | exact if_pos c_8 | (rw [if_neg c_8]; first | exact if_pos (Or.inl c_18) | exact if_pos (Or.inr (Or.inl c_24)) | exact if_pos (Or.inr (Or.inr c_30)) | exact if_neg (fun h => h.elim c_18 (fun h => h.elim c_24 c_30)))
    refine lv_iload_n hF.1 hF.2.1 dX12_readsStatement_39 rfl (lv_at hl 0 rfl) ?_
    refine lv_if_ne (tgt := 45) hF.1 hF.2.1 dX12_readsStatement_40 (by decide) (fun c_40 => ?_) (fun c_40 => ?_)
    · --
      have n_40 : ¬ (2 = 0) := fun zz9 => c_40 ((nI_eq (a := 2) (b := 0) (by omega) (by omega)).mpr zz9)
      have hlt := many_lt (f := f) (sz := sz) (p := po) (by rw [hm]; decide)
      have hc := rdC_t (f := f) hlt
      have hS1 : rdS f sz po = rdE f sz (rdD f sz 2 (po + 1)) := rdS_m hm
      refine lv_aload_n hF.1 hF.2.1 dX12_readsStatement_45 rfl (lv_at hl 2 rfl) ?_
      refine lv_dup hF.1 hF.2.1 dX12_readsStatement_46 rfl ?_
      refine k_get (C := RX12) (T := TX12) (N := 19) hF hK hG (fun _ h => List.mem_cons_of_mem _ (List.mem_append_right _ h)) 0 rfl rfl 12 (by decide) (List.mem_of_getElem? (i := 1) rfl) (fun _ h9 => h9) rfl dX12_readsStatement_47 ?_
      refine lv_iconst (v := (nI 1)) hF.1 hF.2.1 dX12_readsStatement_50 (by decide +kernel) ?_
      refine lv_iadd hF.1 hF.2.1 dX12_readsStatement_51 ?_
      rw [nI_add]
      refine k_put (C := RX12) (T := TX12) (N := 19) hF hK hG (fun _ h => List.mem_cons_of_mem _ (List.mem_append_right _ h)) tyX12 tyX12_ok nmX12 0 rfl rfl 12 (by decide) (List.mem_of_getElem? (i := 1) rfl) (fun _ h9 => h9) rfl rfl rfl (Nat.le_of_ble_eq_true rfl) dX12_readsStatement_52 (fun H locs hG => ?_)
      refine lv_aload_n hF.1 hF.2.1 dX12_readsStatement_55 rfl (lv_at hl 2 rfl) ?_
      refine lv_iload_n hF.1 hF.2.1 dX12_readsStatement_56 rfl (lv_at hl 0 rfl) ?_
      refine k_ci (r_V (As := [.int (nI 2)]) hF hK hA hG (c_X12_readsDigits (po := po + 1) (md := 2) hT0 (by omega) (by decide) (by omega)) (cwV 1 hF.2.2.2.2 gX12_readsStatement_X12_readsDigits rfl rfl rfl (by decide +kernel) ⟨Nat.le_of_ble_eq_true rfl, Nat.le_of_ble_eq_true rfl⟩) 0 rfl rfl rfl rfl hl.1 rfl (lv_room (Nat.le_of_ble_eq_true rfl)) dX12_readsStatement_57 ⟨Nat.le_of_ble_eq_true rfl, Nat.le_of_ble_eq_true rfl⟩) hG (fun r_57 u_57 H locs hp_57 hG => ?_)
      obtain ⟨hu, hr, hnum⟩ := hp_57
      subst hr
      have hle := rdD_le (f := f) (sz := sz) 2 (po + 1) (by omega)
      obtain ⟨uN, uP⟩ := u_57
      obtain rfl : uP = (rdD f sz 2 (po + 1)).2 := hu
      refine lv_if_eq (tgt := 72) hF.1 hF.2.1 dX12_readsStatement_60 (by decide) (fun c_60 => ?_) (fun c_60 => ?_)
      · --
        have n_60 : ((rdD f sz 2 (po + 1)).1) = false := b2i_z.mp c_60
        refine lv_iconst (v := (nI 0)) hF.1 hF.2.1 dX12_readsStatement_72 (by decide +kernel) ?_
        exact hret _ (uN, _) _ ls _ _ _ _ (by first | (rw [hS1, rdE_n n_60]; exact ⟨rfl, n_60 ▸ rfl, fun h => by rw [n_60] at h; cases h⟩) | (rw [hS1, rdE_f n_60 c_69]; exact ⟨rfl, rfl, fun h => by cases h⟩)) (by first | rfl | exact nar_b2i _) hG (Nat.le_of_ble_eq_true rfl) (Nat.le_of_ble_eq_true rfl) dX12_readsStatement_73
      · --
        have n_60 : ((rdD f sz 2 (po + 1)).1) = true := b2i_nz.mp c_60
        refine lv_aload_n hF.1 hF.2.1 dX12_readsStatement_63 rfl (lv_at hl 2 rfl) ?_
        refine k_ci (r_V (As := []) hF hK hA hG (c_X12_here (po := (rdD f sz 2 (po + 1)).2) hT0 (by omega)) (cwV 0 hF.2.2.2.2 gX12_readsStatement_X12_here rfl rfl rfl (by decide +kernel) ⟨Nat.le_of_ble_eq_true rfl, Nat.le_of_ble_eq_true rfl⟩) 0 rfl rfl rfl rfl hl.1 rfl (lv_room (Nat.le_of_ble_eq_true rfl)) dX12_readsStatement_64 ⟨Nat.le_of_ble_eq_true rfl, Nat.le_of_ble_eq_true rfl⟩) hG (fun r_64 u_64 H locs hp_64 hG => ?_)
        subst hp_64
        refine lv_bipush (v := (nI 59)) hF.1 hF.2.1 dX12_readsStatement_67 (by decide +kernel) ?_
        refine lv_icmp_eq (tgt := 74) hF.1 hF.2.1 dX12_readsStatement_69 (by decide) (fun c_69 => ?_) (fun c_69 => ?_)
        · --
          refine lv_aload_n hF.1 hF.2.1 dX12_readsStatement_74 rfl (lv_at hl 2 rfl) ?_
          refine lv_dup hF.1 hF.2.1 dX12_readsStatement_75 rfl ?_
          refine k_get (C := RX12) (T := TX12) (N := 19) hF hK hG (fun _ h => List.mem_cons_of_mem _ (List.mem_append_right _ h)) 0 rfl rfl 12 (by decide) (List.mem_of_getElem? (i := 1) rfl) (fun _ h9 => h9) rfl dX12_readsStatement_76 ?_
          refine lv_iconst (v := (nI 1)) hF.1 hF.2.1 dX12_readsStatement_79 (by decide +kernel) ?_
          refine lv_iadd hF.1 hF.2.1 dX12_readsStatement_80 ?_
          rw [nI_add]
          refine k_put (C := RX12) (T := TX12) (N := 19) hF hK hG (fun _ h => List.mem_cons_of_mem _ (List.mem_append_right _ h)) tyX12 tyX12_ok nmX12 0 rfl rfl 12 (by decide) (List.mem_of_getElem? (i := 1) rfl) (fun _ h9 => h9) rfl rfl rfl (Nat.le_of_ble_eq_true rfl) dX12_readsStatement_81 (fun H locs hG => ?_)
          refine lv_iconst (v := (nI 1)) hF.1 hF.2.1 dX12_readsStatement_84 (by decide +kernel) ?_
          exact hret _ (uN, _) _ ls _ _ _ _ (by rw [hS1, rdE_t n_60 c_69]; exact ⟨rfl, rfl, fun _ a ha => hnum n_60 a (by rw [hc] at hm; rw [hm] at ha; exact ha)⟩) (by first | rfl | exact nar_b2i _) hG (Nat.le_of_ble_eq_true rfl) (Nat.le_of_ble_eq_true rfl) dX12_readsStatement_85
        · --
          refine lv_iconst (v := (nI 0)) hF.1 hF.2.1 dX12_readsStatement_72 (by decide +kernel) ?_
          exact hret _ (uN, _) _ ls _ _ _ _ (by first | (rw [hS1, rdE_n n_60]; exact ⟨rfl, n_60 ▸ rfl, fun h => by rw [n_60] at h; cases h⟩) | (rw [hS1, rdE_f n_60 c_69]; exact ⟨rfl, rfl, fun h => by cases h⟩)) (by first | rfl | exact nar_b2i _) hG (Nat.le_of_ble_eq_true rfl) (Nat.le_of_ble_eq_true rfl) dX12_readsStatement_73
    · --
      have n_40 : 2 = 0 := (nI_eq (a := 2) (b := 0) (by omega) (by omega)).mp c_40
      exact absurd n_40 (by decide)

abbrev rmX12_comesTold : Room := { frames := 3, cells := 0, slots := 0, locals := 67 }
set_option maxHeartbeats 4000000 in
set_option maxRecDepth 100000 in
theorem c_X12_comesTold {l : Launch} {D : va_G} {cA : Nat → ClassId} {A : Nat → Prop}  {ob : Nat → Nat} {aS aI aR aM aK aT aZ aE aD aF aN aP aH : Nat → Int32} {vH vT vP vB vE vS : Int32} {n o : Nat} {kd fg : Nat → Nat} (hS : SR aS n o kd fg) {ch : Int32} {a b : Nat} (h0 : aN 0 = nI a) (ha : a < 10) (h1 : ch = nI 100 → aN 1 = nI b) (hb : b < 10) : Met l yX12_comesTold wsX12_comesTold rmX12_comesTold (va_Pc [.ref (ob 0), .int ch] (Pre D cA A (MW cA ob aS aI aR aM aK aT aZ aE aD aF aN aP aH vH vT vP vB vE vS))) (va_Qi (fun r (u : Nat → Int32) => (exN ch a b (n, o, kd, fg) = none ∧ r = b2i false) ∨ ∃ w, exN ch a b (n, o, kd, fg) = some w ∧ r = b2i true ∧ SRW u w) (fun u t => Wd D A ((fun (u : Nat → Int32) => MW cA ob u aI aR aM aK aT aZ aE aD aF aN aP aH vH vT vP vB vE vS) u) t) A) (0) (0) A := by
  refine k_ofi (S := Nat → Int32) (F := fun (u : Nat → Int32) => MW cA ob u aI aR aM aK aT aZ aE aD aF aN aP aH vH vT vP vB vE vS) (cc := cX12_comesTold) (maxL := 3) (by decide) rfl (Nat.le_of_ble_eq_true rfl) ?_
  intro p e s m args below meth c Q hF hini hK hA hG hret ls hl
  have hl : lv_has ls 3 [(0, .ref (ob 0)), (1, .int ch)] := hl
  have hn : n ≤ 6 := hS.2.2.1
  have ho : o < 64 := hS.o64
  refine lv_aload_n hF.1 hF.2.1 dX12_comesTold_0 rfl (lv_at hl 0 rfl) ?_
  refine k_get (C := RX12) (T := TX12) (N := 19) hF hK hG (fun _ h => List.mem_cons_of_mem _ (List.mem_append_right _ h)) 0 rfl rfl 15 (by decide) (List.mem_of_getElem? (i := 1) rfl) (fun _ h9 => h9) rfl dX12_comesTold_1 ?_
  refine lv_iconst (v := (nI 0)) hF.1 hF.2.1 dX12_comesTold_4 (by decide +kernel) ?_
  refine k_ialdN hF hK hG 11 rfl (0) rfl (by omega) (by omega) dX12_comesTold_5 ?_
  rw [h0]
  refine lv_istore_n (lv' := [(2, .int (nI a)), (0, .ref (ob 0)), (1, .int ch)]) hF.1 hF.2.1 dX12_comesTold_6 rfl hl (by decide) rfl (fun ls hl => ?_)
  refine lv_iload_n hF.1 hF.2.1 dX12_comesTold_7 rfl (lv_at hl 2 rfl) ?_
  refine lv_bipush (v := (nI 100)) hF.1 hF.2.1 dX12_comesTold_8 (by decide +kernel) ?_
  refine lv_icmp_ne (tgt := 39) hF.1 hF.2.1 dX12_comesTold_10 (by decide) (fun c_10 => ?_) (fun c_10 => ?_)
  · --
    refine lv_aload_n hF.1 hF.2.1 dX12_comesTold_39 rfl (lv_at hl 1 rfl) ?_
    refine lv_iload_n hF.1 hF.2.1 dX12_comesTold_40 rfl (lv_at hl 0 rfl) ?_
    refine k_ci (r_V (As := [.int (nI a)]) hF hK hA hG (c_X12_isDrawer hS) (cwV 1 hF.2.2.2.2 gX12_comesTold_X12_isDrawer rfl rfl rfl (by decide +kernel) ⟨Nat.le_of_ble_eq_true rfl, Nat.le_of_ble_eq_true rfl⟩) 0 rfl rfl rfl rfl hl.1 rfl (lv_room (Nat.le_of_ble_eq_true rfl)) dX12_comesTold_41 ⟨Nat.le_of_ble_eq_true rfl, Nat.le_of_ble_eq_true rfl⟩) hG (fun r_41 u_41 H locs hp_41 hG => ?_)
    subst hp_41
    refine lv_if_ne (tgt := 49) hF.1 hF.2.1 dX12_comesTold_44 (by decide) (fun c_44 => ?_) (fun c_44 => ?_)
    · --
      have n_44 : (inB n (nI a)) = true := b2i_nz.mp c_44
      have han : a < n := Nat.lt_of_not_le (fun q => by rw [inB_r (nI_le q (by omega))] at n_44; cases n_44)
      refine lv_iload_n hF.1 hF.2.1 dX12_comesTold_49 rfl (lv_at hl 2 rfl) ?_
      refine lv_bipush (v := (nI 112)) hF.1 hF.2.1 dX12_comesTold_50 (by decide +kernel) ?_
      refine lv_icmp_ne (tgt := 61) hF.1 hF.2.1 dX12_comesTold_52 (by decide) (fun c_52 => ?_) (fun c_52 => ?_)
      · --
        refine lv_aload_n hF.1 hF.2.1 dX12_comesTold_61 rfl (lv_at hl 1 rfl) ?_
        refine k_get (C := RX12) (T := TX12) (N := 19) hF hK hG (fun _ h => List.mem_cons_of_mem _ (List.mem_append_right _ h)) 0 rfl rfl 0 (by decide) (List.mem_of_getElem? (i := 2) rfl) (fun _ h9 => h9) rfl dX12_comesTold_62 ?_
        refine lv_iconst (v := (nI 1)) hF.1 hF.2.1 dX12_comesTold_65 (by decide +kernel) ?_
        refine lv_iload_n hF.1 hF.2.1 dX12_comesTold_66 rfl (lv_at hl 2 rfl) ?_
        refine lv_bipush (v := (nI 111)) hF.1 hF.2.1 dX12_comesTold_67 (by decide +kernel) ?_
        refine lv_icmp_ne (tgt := 85) hF.1 hF.2.1 dX12_comesTold_69 (by decide) (fun c_69 => ?_) (fun c_69 => ?_)
        · --
          refine lv_aload_n hF.1 hF.2.1 dX12_comesTold_85 rfl (lv_at hl 1 rfl) ?_
          refine k_get (C := RX12) (T := TX12) (N := 19) hF hK hG (fun _ h => List.mem_cons_of_mem _ (List.mem_append_right _ h)) 0 rfl rfl 0 (by decide) (List.mem_of_getElem? (i := 2) rfl) (fun _ h9 => h9) rfl dX12_comesTold_86 ?_
          refine lv_iconst (v := (nI 1)) hF.1 hF.2.1 dX12_comesTold_89 (by decide +kernel) ?_
          refine k_ialdN hF hK hG 1 rfl (1) rfl (by omega) (by omega) dX12_comesTold_90 ?_
          rw [hS.2.1]
          refine lv_iconst (v := (nI 1)) hF.1 hF.2.1 dX12_comesTold_91 (by decide +kernel) ?_
          refine lv_iload_n hF.1 hF.2.1 dX12_comesTold_92 rfl (lv_at hl 0 rfl) ?_
          refine lv_ishl hF.1 hF.2.1 dX12_comesTold_93 ?_
          refine lv_iconst (v := (-1)) hF.1 hF.2.1 dX12_comesTold_94 (by decide +kernel) ?_
          refine lv_ixor hF.1 hF.2.1 dX12_comesTold_95 ?_
          refine lv_iand hF.1 hF.2.1 dX12_comesTold_96 ?_
          rw [clr_b ho (by omega)]
          refine k_iastN hF hK hG 1 rfl (1) rfl (by omega) (by omega) dX12_comesTold_97 (fun H locs hG => ?_)
          refine lv_iconst (v := (nI 1)) hF.1 hF.2.1 dX12_comesTold_98 (by decide +kernel) ?_
          exact hret _ _ _ ls _ _ _ _ (by first | exact Or.inr ⟨_, exN_o c_69 han, rfl, hS.setO (Nat.or_lt_two_pow hS.2.2.2.1 (Nat.pow_lt_pow_right (by decide) han))⟩ | exact Or.inr ⟨_, exN_s c_10 c_52 c_69 han, rfl, hS.setO (by split; exact Nat.lt_of_le_of_lt (Nat.sub_le _ _) hS.2.2.2.1; exact hS.2.2.2.1)⟩) (by first | rfl | exact nar_b2i _) hG (Nat.le_of_ble_eq_true rfl) (Nat.le_of_ble_eq_true rfl) dX12_comesTold_99
        · --
          refine lv_aload_n hF.1 hF.2.1 dX12_comesTold_72 rfl (lv_at hl 1 rfl) ?_
          refine k_get (C := RX12) (T := TX12) (N := 19) hF hK hG (fun _ h => List.mem_cons_of_mem _ (List.mem_append_right _ h)) 0 rfl rfl 0 (by decide) (List.mem_of_getElem? (i := 2) rfl) (fun _ h9 => h9) rfl dX12_comesTold_73 ?_
          refine lv_iconst (v := (nI 1)) hF.1 hF.2.1 dX12_comesTold_76 (by decide +kernel) ?_
          refine k_ialdN hF hK hG 1 rfl (1) rfl (by omega) (by omega) dX12_comesTold_77 ?_
          rw [hS.2.1]
          refine lv_iconst (v := (nI 1)) hF.1 hF.2.1 dX12_comesTold_78 (by decide +kernel) ?_
          refine lv_iload_n hF.1 hF.2.1 dX12_comesTold_79 rfl (lv_at hl 0 rfl) ?_
          refine lv_ishl hF.1 hF.2.1 dX12_comesTold_80 ?_
          rw [shl_1 (by omega)]
          refine lv_ior hF.1 hF.2.1 dX12_comesTold_81 ?_
          rw [nx_or]
          refine lv_goto (tgt := 97) hF.1 hF.2.1 dX12_comesTold_82 (by decide) ?_
          refine k_iastN hF hK hG 1 rfl (1) rfl (by omega) (by omega) dX12_comesTold_97 (fun H locs hG => ?_)
          refine lv_iconst (v := (nI 1)) hF.1 hF.2.1 dX12_comesTold_98 (by decide +kernel) ?_
          exact hret _ _ _ ls _ _ _ _ (by first | exact Or.inr ⟨_, exN_o c_69 han, rfl, hS.setO (Nat.or_lt_two_pow hS.2.2.2.1 (Nat.pow_lt_pow_right (by decide) han))⟩ | exact Or.inr ⟨_, exN_s c_10 c_52 c_69 han, rfl, hS.setO (by split; exact Nat.lt_of_le_of_lt (Nat.sub_le _ _) hS.2.2.2.1; exact hS.2.2.2.1)⟩) (by first | rfl | exact nar_b2i _) hG (Nat.le_of_ble_eq_true rfl) (Nat.le_of_ble_eq_true rfl) dX12_comesTold_99
      · --
        refine lv_aload_n hF.1 hF.2.1 dX12_comesTold_55 rfl (lv_at hl 1 rfl) ?_
        refine lv_iload_n hF.1 hF.2.1 dX12_comesTold_56 rfl (lv_at hl 0 rfl) ?_
        refine k_ci (r_V (As := [.int (nI a)]) hF hK hA hG (c_X12_pulls hS han) (cwV 1 hF.2.2.2.2 gX12_comesTold_X12_pulls rfl rfl rfl (by decide +kernel) ⟨Nat.le_of_ble_eq_true rfl, Nat.le_of_ble_eq_true rfl⟩) 0 rfl rfl rfl rfl hl.1 rfl (lv_room (Nat.le_of_ble_eq_true rfl)) dX12_comesTold_57 ⟨Nat.le_of_ble_eq_true rfl, Nat.le_of_ble_eq_true rfl⟩) hG (fun r_57 u_57 H locs hp_57 hG => ?_)
        obtain ⟨hp1, hp2⟩ := hp_57
        subst hp1
        rw [mayZ_t hn han]
        exact hret _ _ _ ls _ _ _ _ (by cases hm : mv (kd a) (fg a) a o with | true => rw [pullO_j hn han hm] at hp2; exact Or.inr ⟨_, exN_p c_52 han hm, rfl, hp2⟩ | false => exact Or.inl ⟨exN_pn c_52 han hm, rfl⟩) (by first | rfl | exact nar_b2i _) hG (Nat.le_of_ble_eq_true rfl) (Nat.le_of_ble_eq_true rfl) dX12_comesTold_60
    · --
      have n_44 : (inB n (nI a)) = false := b2i_z.mp c_44
      have han : ¬ a < n := fun q => by rw [inB_j (by omega) q] at n_44; cases n_44
      refine lv_iconst (v := (nI 0)) hF.1 hF.2.1 dX12_comesTold_47 (by decide +kernel) ?_
      exact hret _ aS _ ls _ _ _ _ (by exact Or.inl ⟨exN_n c_10 han, rfl⟩) (by first | rfl | exact nar_b2i _) hG (Nat.le_of_ble_eq_true rfl) (Nat.le_of_ble_eq_true rfl) dX12_comesTold_48
  · --
    refine lv_iload_n hF.1 hF.2.1 dX12_comesTold_13 rfl (lv_at hl 0 rfl) ?_
    refine lv_bipush (v := (nI 8)) hF.1 hF.2.1 dX12_comesTold_14 (by decide +kernel) ?_
    refine lv_icmp_ge (tgt := 37) hF.1 hF.2.1 dX12_comesTold_16 (by decide) (fun c_16 => ?_) (fun c_16 => ?_)
    · --
      have n_16 : 8 ≤ a := (nI_leI (a := 8) (b := a) (by omega) (by omega)).mp c_16
      refine lv_iconst (v := (nI 0)) hF.1 hF.2.1 dX12_comesTold_37 (by decide +kernel) ?_
      exact hret _ _ _ ls _ _ _ _ (by first | (have h6 : n < 6 := Nat.lt_of_not_le (fun q => c_30 (by rw [(hp_27.1 (by omega)).1]; rfl)); exact Or.inr ⟨_, exN_d c_10 (by omega) h6, rfl, (hp_27.2 h6).2⟩) | (have h6 : ¬ n < 6 := fun q => absurd c_30 (by rw [(hp_27.2 q).1]; decide +kernel); exact Or.inl ⟨exN_dn c_10 (Or.inr h6), rfl⟩) | exact Or.inl ⟨exN_dn c_10 (Or.inl (by omega)), rfl⟩) (by first | rfl | exact nar_b2i _) hG (Nat.le_of_ble_eq_true rfl) (Nat.le_of_ble_eq_true rfl) dX12_comesTold_38
    · --
      have n_16 : ¬ (8 ≤ a) := fun zz9 => c_16 ((nI_leI (a := 8) (b := a) (by omega) (by omega)).mpr zz9)
      refine lv_aload_n hF.1 hF.2.1 dX12_comesTold_19 rfl (lv_at hl 1 rfl) ?_
      refine lv_iload_n hF.1 hF.2.1 dX12_comesTold_20 rfl (lv_at hl 0 rfl) ?_
      refine lv_aload_n hF.1 hF.2.1 dX12_comesTold_21 rfl (lv_at hl 1 rfl) ?_
      refine k_get (C := RX12) (T := TX12) (N := 19) hF hK hG (fun _ h => List.mem_cons_of_mem _ (List.mem_append_right _ h)) 0 rfl rfl 15 (by decide) (List.mem_of_getElem? (i := 1) rfl) (fun _ h9 => h9) rfl dX12_comesTold_22 ?_
      refine lv_iconst (v := (nI 1)) hF.1 hF.2.1 dX12_comesTold_25 (by decide +kernel) ?_
      refine k_ialdN hF hK hG 11 rfl (1) rfl (by omega) (by omega) dX12_comesTold_26 ?_
      rw [h1 c_10]
      refine k_ci (r_V (As := [.int (nI a), .int (nI b)]) hF hK hA hG (c_X12_adds hS (show a < 8 by omega) hb) (cwV 2 hF.2.2.2.2 gX12_comesTold_X12_adds rfl rfl rfl (by decide +kernel) ⟨Nat.le_of_ble_eq_true rfl, Nat.le_of_ble_eq_true rfl⟩) 0 rfl rfl rfl rfl hl.1 rfl (lv_room (Nat.le_of_ble_eq_true rfl)) dX12_comesTold_27 ⟨Nat.le_of_ble_eq_true rfl, Nat.le_of_ble_eq_true rfl⟩) hG (fun r_27 u_27 H locs hp_27 hG => ?_)
      refine lv_if_eq (tgt := 37) hF.1 hF.2.1 dX12_comesTold_30 (by decide) (fun c_30 => ?_) (fun c_30 => ?_)
      · --
        refine lv_iconst (v := (nI 0)) hF.1 hF.2.1 dX12_comesTold_37 (by decide +kernel) ?_
        exact hret _ _ _ ls _ _ _ _ (by first | (have h6 : n < 6 := Nat.lt_of_not_le (fun q => c_30 (by rw [(hp_27.1 (by omega)).1]; rfl)); exact Or.inr ⟨_, exN_d c_10 (by omega) h6, rfl, (hp_27.2 h6).2⟩) | (have h6 : ¬ n < 6 := fun q => absurd c_30 (by rw [(hp_27.2 q).1]; decide +kernel); exact Or.inl ⟨exN_dn c_10 (Or.inr h6), rfl⟩) | exact Or.inl ⟨exN_dn c_10 (Or.inl (by omega)), rfl⟩) (by first | rfl | exact nar_b2i _) hG (Nat.le_of_ble_eq_true rfl) (Nat.le_of_ble_eq_true rfl) dX12_comesTold_38
      · --
        refine lv_iconst (v := (nI 1)) hF.1 hF.2.1 dX12_comesTold_33 (by decide +kernel) ?_
        refine lv_goto (tgt := 38) hF.1 hF.2.1 dX12_comesTold_34 (by decide) ?_
        exact hret _ _ _ ls _ _ _ _ (by first | (have h6 : n < 6 := Nat.lt_of_not_le (fun q => c_30 (by rw [(hp_27.1 (by omega)).1]; rfl)); exact Or.inr ⟨_, exN_d c_10 (by omega) h6, rfl, (hp_27.2 h6).2⟩) | (have h6 : ¬ n < 6 := fun q => absurd c_30 (by rw [(hp_27.2 q).1]; decide +kernel); exact Or.inl ⟨exN_dn c_10 (Or.inr h6), rfl⟩) | exact Or.inl ⟨exN_dn c_10 (Or.inl (by omega)), rfl⟩) (by first | rfl | exact nar_b2i _) hG (Nat.le_of_ble_eq_true rfl) (Nat.le_of_ble_eq_true rfl) dX12_comesTold_38

abbrev rmX12_wall : Room := { frames := 4, cells := 0, slots := 0, locals := 89 }
set_option maxHeartbeats 4000000 in
set_option maxRecDepth 100000 in
theorem c_X12_wall {l : Launch} {D : va_G} {cA : Nat → ClassId} {A : Nat → Prop}  {ob : Nat → Nat} {aS aI aR aM aK aT aZ aE aD aF aN aP aH : Nat → Int32} {vH vT vP vB vE vS : Int32} {n o : Nat} {kd fg : Nat → Nat} (hS : SR aS n o kd fg) {x : Nat → Sf} (hXF : ∀ d, d < 8 → SF aK aT aZ aE aD aF d (x d)) {d : Int32} : Met l yX12_wall wsX12_wall rmX12_wall (va_Pc [.ref (ob 0), .int d] (Pre D cA A (MW cA ob aS aI aR aM aK aT aZ aE aD aF aN aP aH vH vT vP vB vE vS))) (va_Qi (fun r (u : (Nat → Int32) × (Nat → Int32) × (Nat → Int32) × Int32 × Int32 × Int32) => r = (spWall (n, o, kd, fg) (sfA x d)).1 ∧ SRW u.1 (spWall (n, o, kd, fg) (sfA x d)).2) (fun u t => Wd D A ((fun (u : (Nat → Int32) × (Nat → Int32) × (Nat → Int32) × Int32 × Int32 × Int32) => MW cA ob u.1 aI u.2.1 aM aK aT aZ aE aD aF u.2.2.1 aP aH vH vT u.2.2.2.1 u.2.2.2.2.1 u.2.2.2.2.2 vS) u) t) A) (0) (0) A := by
  refine k_ofi (S := (Nat → Int32) × (Nat → Int32) × (Nat → Int32) × Int32 × Int32 × Int32) (F := fun (u : (Nat → Int32) × (Nat → Int32) × (Nat → Int32) × Int32 × Int32 × Int32) => MW cA ob u.1 aI u.2.1 aM aK aT aZ aE aD aF u.2.2.1 aP aH vH vT u.2.2.2.1 u.2.2.2.2.1 u.2.2.2.2.2 vS) (cc := cX12_wall) (maxL := 7) (by decide) rfl (Nat.le_of_ble_eq_true rfl) ?_
  intro p e s m args below meth c Q hF hini hK hA hG hret ls hl
  have hl : lv_has ls 7 [(0, .ref (ob 0)), (1, .int d)] := hl
  have hn : n ≤ 6 := hS.2.2.1
  have ho : o < 64 := hS.o64
  refine lv_aload_n hF.1 hF.2.1 dX12_wall_0 rfl (lv_at hl 0 rfl) ?_
  refine lv_iload_n hF.1 hF.2.1 dX12_wall_1 rfl (lv_at hl 1 rfl) ?_
  refine lv_iconst (v := (nI 0)) hF.1 hF.2.1 dX12_wall_2 (by decide +kernel) ?_
  refine k_ci (r_V (As := [.int d, .int (nI 0)]) hF hK hA hG (c_X12_wrongRow_0 hXF) (cwV 2 hF.2.2.2.2 gX12_wall_X12_wrongRow rfl rfl rfl (by decide +kernel) ⟨Nat.le_of_ble_eq_true rfl, Nat.le_of_ble_eq_true rfl⟩) 0 rfl rfl rfl rfl hl.1 rfl (lv_room (Nat.le_of_ble_eq_true rfl)) dX12_wall_3 ⟨Nat.le_of_ble_eq_true rfl, Nat.le_of_ble_eq_true rfl⟩) hG (fun r_3 u_3 H locs hp_3 hG => ?_)
  subst hp_3
  refine lv_istore_n (lv' := [(2, .int (wr0 (sfA x d))), (0, .ref (ob 0)), (1, .int d)]) hF.1 hF.2.1 dX12_wall_6 rfl hl (by decide) rfl (fun ls hl => ?_)
  rcases Decidable.em (wr0 (sfA x d) = 0) with c28 | c28
  · --
    obtain ⟨j, z, hj, rfl, hx, hz0⟩ := wr_0 c28
    obtain ⟨f1, f2, f3, f4, f5, f6⟩ := sf_r (hXF j hj) hx
    have hT : TX aE j z.2.2 z.2.1 := ⟨hj, f5, f6⟩
    have hl : lv_has ls 7 [(2, .int (nI 0)), (0, .ref (ob 0)), (1, .int (nI j))] := by rw [c28] at hl; exact hl
    refine lv_iload_n hF.1 hF.2.1 dX12_wall_7 rfl (lv_at hl 0 rfl) ?_
    refine lv_if_eq (tgt := 13) hF.1 hF.2.1 dX12_wall_8 (by decide) (fun c_8 => ?_) (fun c_8 => absurd nI_0 c_8)
    refine lv_aload_n hF.1 hF.2.1 dX12_wall_13 rfl (lv_at hl 1 rfl) ?_
    refine lv_bipush (v := (nI 100)) hF.1 hF.2.1 dX12_wall_14 (by decide +kernel) ?_
    refine lv_iload_n hF.1 hF.2.1 dX12_wall_16 rfl (lv_at hl 2 rfl) ?_
    refine lv_imul hF.1 hF.2.1 dX12_wall_17 ?_
    rw [pk_mul]
    refine k_put (C := RX12) (T := TX12) (N := 19) hF hK hG (fun _ h => List.mem_cons_of_mem _ (List.mem_append_right _ h)) tyX12 tyX12_ok nmX12 0 rfl rfl 13 (by decide) (List.mem_of_getElem? (i := 1) rfl) (fun _ h9 => h9) rfl rfl rfl (Nat.le_of_ble_eq_true rfl) dX12_wall_18 (fun H locs hG => ?_)
    refine lv_aload_n hF.1 hF.2.1 dX12_wall_21 rfl (lv_at hl 1 rfl) ?_
    refine lv_aload_n hF.1 hF.2.1 dX12_wall_22 rfl (lv_at hl 1 rfl) ?_
    refine k_get (C := RX12) (T := TX12) (N := 19) hF hK hG (fun _ h => List.mem_cons_of_mem _ (List.mem_append_right _ h)) 0 rfl rfl 6 (by decide) (List.mem_of_getElem? (i := 2) rfl) (fun _ h9 => h9) rfl dX12_wall_23 ?_
    refine lv_iload_n hF.1 hF.2.1 dX12_wall_26 rfl (lv_at hl 2 rfl) ?_
    refine k_ialdN hF hK hG 7 rfl (j) rfl (by omega) (by omega) dX12_wall_27 ?_
    rw [f3]
    refine k_put (C := RX12) (T := TX12) (N := 19) hF hK hG (fun _ h => List.mem_cons_of_mem _ (List.mem_append_right _ h)) tyX12 tyX12_ok nmX12 0 rfl rfl 14 (by decide) (List.mem_of_getElem? (i := 3) rfl) (fun _ h9 => h9) rfl rfl rfl (Nat.le_of_ble_eq_true rfl) dX12_wall_28 (fun H locs hG => ?_)
    refine lv_aload_n hF.1 hF.2.1 dX12_wall_31 rfl (lv_at hl 1 rfl) ?_
    refine lv_iconst (v := (nI 0)) hF.1 hF.2.1 dX12_wall_32 (by decide +kernel) ?_
    refine k_put (C := RX12) (T := TX12) (N := 19) hF hK hG (fun _ h => List.mem_cons_of_mem _ (List.mem_append_right _ h)) tyX12 tyX12_ok nmX12 0 rfl rfl 12 (by decide) (List.mem_of_getElem? (i := 4) rfl) (fun _ h9 => h9) rfl rfl rfl (Nat.le_of_ble_eq_true rfl) dX12_wall_33 (fun H locs hG => ?_)
    have hG : Gd D A (MW cA ob aS aI aR aM aK aT aZ aE aD aF aN aP aH vH vT (nI 0) (nI (100 * j)) (nI z.2.1) vS) s.heap H locs := hG
    refine lv_iconst (v := (nI 0)) hF.1 hF.2.1 dX12_wall_36 (by decide +kernel) ?_
    refine lv_istore_n (lv' := [(3, .int (nI 0)), (2, .int (nI 0)), (0, .ref (ob 0)), (1, .int (nI j))]) hF.1 hF.2.1 dX12_wall_37 rfl hl (by decide) rfl (fun ls hl => ?_)
    have lp38 : ∀ (fuel : Nat), ∀ (fu po k : Nat) (bN : Nat → Int32), (h1 : p1 z.2.2 z.2.1 (fu + 1) po k = p1 z.2.2 z.2.1 (z.2.1 + 1) 0 0) → (hfu : z.2.1 ≤ po + fu) → (hpz : po ≤ z.2.1) → (z.2.1 - po) < fuel → ∀ (H : Heap) (locs : List Loc), Gd D A (MW cA ob aS aI aR aM aK aT aZ aE aD aF bN aP aH vH vT (nI po) (nI (100 * j)) (nI z.2.1) vS) s.heap H locs → ∀ ls : Array Slot, lv_has ls 7 [(0, .ref (ob 0)), (1, .int (nI j)), (2, .int (nI 0)), (3, .int (nI k))] → W p l e rmX12_wall s m args below meth c H locs (0) (0) Q (F0 m 38 ls []) := by
      intro fuel
      induction fuel with
      | zero => intro fu po k bN h1 hfu hpz hmu; exact absurd hmu (Nat.not_lt_zero _)
      | succ fuel ih38 =>
        intro fu po k bN h1 hfu hpz hmu H locs hG ls hl
        refine lv_aload_n hF.1 hF.2.1 dX12_wall_38 rfl (lv_at hl 0 rfl) ?_
        refine k_ci (r_V (As := []) hF hK hA hG (c_X12_readsStatement (po := po) hT (by omega) (by omega)) (cwV 0 hF.2.2.2.2 gX12_wall_X12_readsStatement rfl rfl rfl (by decide +kernel) ⟨Nat.le_of_ble_eq_true rfl, Nat.le_of_ble_eq_true rfl⟩) 0 rfl rfl rfl rfl hl.1 rfl (lv_room (Nat.le_of_ble_eq_true rfl)) dX12_wall_39 ⟨Nat.le_of_ble_eq_true rfl, Nat.le_of_ble_eq_true rfl⟩) hG (fun r_39 u_39 H locs hp_39 hG => ?_)
        obtain ⟨hu, hr, hnum⟩ := hp_39
        subst hr
        obtain ⟨uN, uP⟩ := u_39
        obtain rfl : uP = (rdS z.2.2 z.2.1 po).2 := hu
        refine lv_if_ne (tgt := 54) hF.1 hF.2.1 dX12_wall_42 (by decide) (fun c_42 => ?_) (fun c_42 => ?_)
        · --
          have n_42 : ((rdS z.2.2 z.2.1 po).1) = true := b2i_nz.mp c_42
          have hok := rdS_ok n_42
          refine lv_iinc (v := (nI (k + 1))) (lv' := [(3, .int (nI (k + 1))), (0, .ref (ob 0)), (1, .int (nI j)), (2, .int (nI 0))]) hF.1 hF.2.1 dX12_wall_54 hl (k := 3) rfl (nI_inc _ _) (by decide) rfl (fun ls hl => ?_)
          refine lv_aload_n hF.1 hF.2.1 dX12_wall_57 rfl (lv_at hl 1 rfl) ?_
          refine k_get (C := RX12) (T := TX12) (N := 19) hF hK hG (fun _ h => List.mem_cons_of_mem _ (List.mem_append_right _ h)) 0 rfl rfl 12 (by decide) (List.mem_of_getElem? (i := 4) rfl) (fun _ h9 => h9) rfl dX12_wall_58 ?_
          refine lv_aload_n hF.1 hF.2.1 dX12_wall_61 rfl (lv_at hl 1 rfl) ?_
          refine k_get (C := RX12) (T := TX12) (N := 19) hF hK hG (fun _ h => List.mem_cons_of_mem _ (List.mem_append_right _ h)) 0 rfl rfl 14 (by decide) (List.mem_of_getElem? (i := 3) rfl) (fun _ h9 => h9) rfl dX12_wall_62 ?_
          refine lv_icmp_lt (tgt := 38) hF.1 hF.2.1 dX12_wall_65 (by decide) (fun c_65 => ?_) (fun c_65 => ?_)
          · --
            have n_65 : (rdS z.2.2 z.2.1 po).2 < z.2.1 := (nI_ltI (a := (rdS z.2.2 z.2.1 po).2) (b := z.2.1) (by omega) (by omega)).mp c_65
            exact ih38 (fu - 1) (_) (_) (_) (by rw [← h1, show fu - 1 + 1 = fu by omega]; exact (p1_t n_42 n_65).symm) (by omega) (by omega) (by omega) _ _ hG ls (lv_sub hl [1, 2, 3, 0] rfl)
          · --
            have n_65 : ¬ ((rdS z.2.2 z.2.1 po).2 < z.2.1) := fun zz9 => c_65 ((nI_ltI (a := (rdS z.2.2 z.2.1 po).2) (b := z.2.1) (by omega) (by omega)).mpr zz9)
            have hKt : p1 z.2.2 z.2.1 (z.2.1 + 1) 0 0 = .inr (k + 1) := by rw [← h1]; exact p1_e n_42 n_65
            refine lv_aload_n hF.1 hF.2.1 dX12_wall_68 rfl (lv_at hl 1 rfl) ?_
            refine k_get (C := RX12) (T := TX12) (N := 19) hF hK hG (fun _ h => List.mem_cons_of_mem _ (List.mem_append_right _ h)) 0 rfl rfl 0 (by decide) (List.mem_of_getElem? (i := 5) rfl) (fun _ h9 => h9) rfl dX12_wall_69 ?_
            refine lv_aload_n hF.1 hF.2.1 dX12_wall_72 rfl (lv_at hl 1 rfl) ?_
            refine k_get (C := RX12) (T := TX12) (N := 19) hF hK hG (fun _ h => List.mem_cons_of_mem _ (List.mem_append_right _ h)) 0 rfl rfl 2 (by decide) (List.mem_of_getElem? (i := 6) rfl) (fun _ h9 => h9) rfl dX12_wall_73 ?_
            refine k_cv (r_S (As := [.ref (ob 1), .ref (ob 3)]) hF hK hA hG (c_X12_lays (qa := 1) (qb := 3) rfl rfl (fun h => absurd (hG.2.1.1 3 1 _ _ rfl rfl h) (by decide))) (cwS 2 hF.2.2.2.2 gX12_wall_X12_lays rfl rfl rfl (by decide +kernel) ⟨Nat.le_of_ble_eq_true rfl, Nat.le_of_ble_eq_true rfl⟩) rfl hl.1 rfl (lv_room (Nat.le_of_ble_eq_true rfl)) dX12_wall_76 ⟨Nat.le_of_ble_eq_true rfl, Nat.le_of_ble_eq_true rfl⟩) hG (fun u_76 H locs hp_76 hG => ?_)
            have hG : Gd D A (MW cA ob aS aI (cpyN 14 aS aR) aM aK aT aZ aE aD aF uN aP aH vH vT (nI (rdS z.2.2 z.2.1 po).2) (nI (100 * j)) (nI z.2.1) vS) s.heap H locs := hG
            refine lv_aload_n hF.1 hF.2.1 dX12_wall_79 rfl (lv_at hl 1 rfl) ?_
            refine lv_iconst (v := (nI 0)) hF.1 hF.2.1 dX12_wall_80 (by decide +kernel) ?_
            refine k_put (C := RX12) (T := TX12) (N := 19) hF hK hG (fun _ h => List.mem_cons_of_mem _ (List.mem_append_right _ h)) tyX12 tyX12_ok nmX12 0 rfl rfl 12 (by decide) (List.mem_of_getElem? (i := 4) rfl) (fun _ h9 => h9) rfl rfl rfl (Nat.le_of_ble_eq_true rfl) dX12_wall_81 (fun H locs hG => ?_)
            have hG : Gd D A (MW cA ob aS aI (cpyN 14 aS aR) aM aK aT aZ aE aD aF uN aP aH vH vT (nI 0) (nI (100 * j)) (nI z.2.1) vS) s.heap H locs := hG
            have lp84 : ∀ (fuel : Nat), ∀ (fu po : Nat) (w : Wl) (bS bN : Nat → Int32), (h2 : p2 z.2.2 z.2.1 (fu + 1) po w = p2 z.2.2 z.2.1 (z.2.1 + 1) 0 (n, o, kd, fg)) → (hfu2 : z.2.1 ≤ po + fu) → (hpz2 : po ≤ z.2.1) → (hSw : SR bS w.1 w.2.1 w.2.2.1 w.2.2.2) → (hall : po < z.2.1 → ∃ fu k2, p1 z.2.2 z.2.1 fu po k2 = .inr (k + 1)) → (z.2.1 - po) < fuel → ∀ (H : Heap) (locs : List Loc), Gd D A (MW cA ob bS aI (cpyN 14 aS aR) aM aK aT aZ aE aD aF bN aP aH vH vT (nI po) (nI (100 * j)) (nI z.2.1) vS) s.heap H locs → ∀ ls : Array Slot, lv_has ls 7 [(0, .ref (ob 0)), (1, .int (nI j)), (3, .int (nI (k + 1)))] → W p l e rmX12_wall s m args below meth c H locs (0) (0) Q (F0 m 84 ls []) := by
              intro fuel
              induction fuel with
              | zero => intro fu po w bS bN h2 hfu2 hpz2 hSw hall hmu; exact absurd hmu (Nat.not_lt_zero _)
              | succ fuel ih84 =>
                intro fu po w bS bN h2 hfu2 hpz2 hSw hall hmu H locs hG ls hl
                refine lv_aload_n hF.1 hF.2.1 dX12_wall_84 rfl (lv_at hl 0 rfl) ?_
                refine k_get (C := RX12) (T := TX12) (N := 19) hF hK hG (fun _ h => List.mem_cons_of_mem _ (List.mem_append_right _ h)) 0 rfl rfl 12 (by decide) (List.mem_of_getElem? (i := 4) rfl) (fun _ h9 => h9) rfl dX12_wall_85 ?_
                refine lv_aload_n hF.1 hF.2.1 dX12_wall_88 rfl (lv_at hl 0 rfl) ?_
                refine k_get (C := RX12) (T := TX12) (N := 19) hF hK hG (fun _ h => List.mem_cons_of_mem _ (List.mem_append_right _ h)) 0 rfl rfl 14 (by decide) (List.mem_of_getElem? (i := 3) rfl) (fun _ h9 => h9) rfl dX12_wall_89 ?_
                refine lv_icmp_ge (tgt := 143) hF.1 hF.2.1 dX12_wall_92 (by decide) (fun c_92 => ?_) (fun c_92 => ?_)
                · --
                  have n_92 : z.2.1 ≤ po := (nI_leI (a := z.2.1) (b := po) (by omega) (by omega)).mp c_92
                  refine lv_iload_n hF.1 hF.2.1 dX12_wall_143 rfl (lv_at hl 2 rfl) ?_
                  exact hret _ (_, _, _, _, _, _) _ ls _ _ _ _ (by rw [sfA_j x hj, hx, spWall_t hz0, spTxt_3 hKt (h2.symm.trans (p2_e (by omega)))]; exact ⟨rfl, hSw⟩) (by first | rfl | exact nar_b2i _) hG (Nat.le_of_ble_eq_true rfl) (Nat.le_of_ble_eq_true rfl) dX12_wall_144
                · --
                  have n_92 : ¬ (z.2.1 ≤ po) := fun zz9 => c_92 ((nI_leI (a := z.2.1) (b := po) (by omega) (by omega)).mpr zz9)
                  have hps : po < z.2.1 := by omega
                  obtain ⟨fu2, k2, hk2⟩ := hall hps
                  have hpr := p1_r hk2
                  have hok := rdS_ok hpr.1
                  refine lv_aload_n hF.1 hF.2.1 dX12_wall_95 rfl (lv_at hl 0 rfl) ?_
                  refine k_get (C := RX12) (T := TX12) (N := 19) hF hK hG (fun _ h => List.mem_cons_of_mem _ (List.mem_append_right _ h)) 0 rfl rfl 12 (by decide) (List.mem_of_getElem? (i := 4) rfl) (fun _ h9 => h9) rfl dX12_wall_96 ?_
                  refine lv_istore (lv' := [(4, .int (nI po)), (0, .ref (ob 0)), (1, .int (nI j)), (3, .int (nI (k + 1)))]) hF.1 hF.2.1 dX12_wall_99 hl (by decide) rfl (fun ls hl => ?_)
                  refine lv_aload_n hF.1 hF.2.1 dX12_wall_101 rfl (lv_at hl 1 rfl) ?_
                  refine k_ci (r_V (As := []) hF hK hA hG (c_X12_here (po := po) hT (by omega)) (cwV 0 hF.2.2.2.2 gX12_wall_X12_here rfl rfl rfl (by decide +kernel) ⟨Nat.le_of_ble_eq_true rfl, Nat.le_of_ble_eq_true rfl⟩) 0 rfl rfl rfl rfl hl.1 rfl (lv_room (Nat.le_of_ble_eq_true rfl)) dX12_wall_102 ⟨Nat.le_of_ble_eq_true rfl, Nat.le_of_ble_eq_true rfl⟩) hG (fun r_102 u_102 H locs hp_102 hG => ?_)
                  subst hp_102
                  refine lv_istore (lv' := [(5, .int (rdC z.2.2 z.2.1 po)), (4, .int (nI po)), (0, .ref (ob 0)), (1, .int (nI j)), (3, .int (nI (k + 1)))]) hF.1 hF.2.1 dX12_wall_105 hl (by decide) rfl (fun ls hl => ?_)
                  refine lv_aload_n hF.1 hF.2.1 dX12_wall_107 rfl (lv_at hl 2 rfl) ?_
                  refine k_ci (r_V (As := []) hF hK hA hG (c_X12_readsStatement (po := po) hT (by omega) (by omega)) (cwV 0 hF.2.2.2.2 gX12_wall_X12_readsStatement rfl rfl rfl (by decide +kernel) ⟨Nat.le_of_ble_eq_true rfl, Nat.le_of_ble_eq_true rfl⟩) 0 rfl rfl rfl rfl hl.1 rfl (lv_room (Nat.le_of_ble_eq_true rfl)) dX12_wall_108 ⟨Nat.le_of_ble_eq_true rfl, Nat.le_of_ble_eq_true rfl⟩) hG (fun r_108 u_108 H locs hp_108 hG => ?_)
                  obtain ⟨hu, hr, hnum⟩ := hp_108
                  subst hr
                  obtain ⟨uN, uP⟩ := u_108
                  obtain rfl : uP = (rdS z.2.2 z.2.1 po).2 := hu
                  refine lv_istore (lv' := [(6, .int (b2i ((rdS z.2.2 z.2.1 po).1))), (5, .int (rdC z.2.2 z.2.1 po)), (4, .int (nI po)), (0, .ref (ob 0)), (1, .int (nI j)), (3, .int (nI (k + 1)))]) hF.1 hF.2.1 dX12_wall_111 hl (by decide) rfl (fun ls hl => ?_)
                  have hnum2 := hnum hpr.1
                  have g0 := dg_n (hok.2.2.2.2.1 0 (by omega))
                  have e0 : uN 0 = nI (dgN (z.2.2 (po + 1))) := (hnum2 0 (by omega)).trans g0.1
                  have b0 := g0.2
                  have hcp := rdC_t (f := z.2.2) hps
                  have h12 : rdC z.2.2 z.2.1 po = nI 100 → manyC (z.2.2 po) = 2 := fun q => by rw [hcp] at q; unfold manyC; rw [if_pos q]
                  obtain ⟨b2, e1, b1, hb2⟩ : ∃ b2, (rdC z.2.2 z.2.1 po = nI 100 → uN 1 = nI b2) ∧ b2 < 10 ∧ ∀ w : Wl, exN (rdC z.2.2 z.2.1 po) (dgN (z.2.2 (po + 1))) b2 w = exU z.2.2 po w := by
                    by_cases q : rdC z.2.2 z.2.1 po = nI 100
                    · have g1 := dg_n (hok.2.2.2.2.1 1 (by rw [h12 q]; decide))
                      exact ⟨dgN (z.2.2 (po + 2)), fun _ => (hnum2 1 (by rw [h12 q]; decide)).trans g1.1, g1.2, fun w => by unfold exU; rw [hcp]⟩
                    · refine ⟨0, fun a => absurd a q, by decide, fun w => ?_⟩
                      unfold exU
                      rw [← hcp]
                      unfold exN
                      rw [if_neg q, if_neg q]
                  refine lv_aload_n hF.1 hF.2.1 dX12_wall_113 rfl (lv_at hl 3 rfl) ?_
                  refine lv_iload hF.1 hF.2.1 dX12_wall_114 (lv_at hl 1 rfl) ?_
                  refine k_ci (r_V (As := [.int (rdC z.2.2 z.2.1 po)]) hF hK hA hG (c_X12_comesTold (o := w.2.1) (kd := w.2.2.1) (fg := w.2.2.2) hSw e0 b0 e1 b1) (cwV 1 hF.2.2.2.2 gX12_wall_X12_comesTold rfl rfl rfl (by decide +kernel) ⟨Nat.le_of_ble_eq_true rfl, Nat.le_of_ble_eq_true rfl⟩) 0 rfl rfl rfl rfl hl.1 rfl (lv_room (Nat.le_of_ble_eq_true rfl)) dX12_wall_116 ⟨Nat.le_of_ble_eq_true rfl, Nat.le_of_ble_eq_true rfl⟩) hG (fun r_116 u_116 H locs hp_116 hG => ?_)
                  refine lv_if_ne (tgt := 140) hF.1 hF.2.1 dX12_wall_119 (by decide) (fun c_119 => ?_) (fun c_119 => ?_)
                  · --
                    obtain ⟨w2, hx2, -, hSw2⟩ := hp_116.resolve_left (fun a => c_119 (by rw [a.2]; rfl))
                    refine lv_goto (tgt := 84) hF.1 hF.2.1 dX12_wall_140 (by decide) ?_
                    exact ih84 (fu - 1) (_) (w2) (_) (_) (by rw [← h2, show fu - 1 + 1 = fu by omega]; exact (p2_s hps ((hb2 w).symm.trans hx2)).symm) (by omega) (by omega) hSw2 hpr.2 (by omega) _ _ hG ls (lv_sub hl [3, 4, 5] rfl)
                  · --
                    have hx2 := hp_116.resolve_right (fun a => by obtain ⟨w2, -, a2, -⟩ := a; rw [a2] at c_119; exact absurd c_119 (by decide +kernel))
                    refine lv_aload_n hF.1 hF.2.1 dX12_wall_122 rfl (lv_at hl 3 rfl) ?_
                    refine k_get (C := RX12) (T := TX12) (N := 19) hF hK hG (fun _ h => List.mem_cons_of_mem _ (List.mem_append_right _ h)) 0 rfl rfl 2 (by decide) (List.mem_of_getElem? (i := 6) rfl) (fun _ h9 => h9) rfl dX12_wall_123 ?_
                    refine lv_aload_n hF.1 hF.2.1 dX12_wall_126 rfl (lv_at hl 3 rfl) ?_
                    refine k_get (C := RX12) (T := TX12) (N := 19) hF hK hG (fun _ h => List.mem_cons_of_mem _ (List.mem_append_right _ h)) 0 rfl rfl 0 (by decide) (List.mem_of_getElem? (i := 5) rfl) (fun _ h9 => h9) rfl dX12_wall_127 ?_
                    refine k_cv (r_S (As := [.ref (ob 3), .ref (ob 1)]) hF hK hA hG (c_X12_lays (qa := 3) (qb := 1) rfl rfl (fun h => absurd (hG.2.1.1 1 3 _ _ rfl rfl h) (by decide))) (cwS 2 hF.2.2.2.2 gX12_wall_X12_lays rfl rfl rfl (by decide +kernel) ⟨Nat.le_of_ble_eq_true rfl, Nat.le_of_ble_eq_true rfl⟩) rfl hl.1 rfl (lv_room (Nat.le_of_ble_eq_true rfl)) dX12_wall_130 ⟨Nat.le_of_ble_eq_true rfl, Nat.le_of_ble_eq_true rfl⟩) hG (fun u_130 H locs hp_130 hG => ?_)
                    refine lv_sipush (v := (-2000)) hF.1 hF.2.1 dX12_wall_133 (by decide +kernel) ?_
                    refine lv_iload hF.1 hF.2.1 dX12_wall_136 (lv_at hl 2 rfl) ?_
                    refine lv_isub hF.1 hF.2.1 dX12_wall_138 ?_
                    exact hret _ (_, _, _, _, _, _) _ ls _ _ _ _ (by rw [sfA_j x hj, hx, spWall_t hz0, spTxt_2 hKt (h2.symm.trans (p2_n hps ((hb2 w).symm.trans hx2.1)))]; exact ⟨rfl, (hS.cpy (g := aR)).cpy⟩) (by first | rfl | exact nar_b2i _) hG (Nat.le_of_ble_eq_true rfl) (Nat.le_of_ble_eq_true rfl) dX12_wall_139
            exact lp84 _ (z.2.1) (0) ((n, o, kd, fg)) (aS) (_) rfl (by omega) (by omega) hS (fun _ => ⟨_, _, hKt⟩) (Nat.lt_succ_self _) _ _ hG ls (lv_sub hl [1, 2, 0] rfl)
        · --
          have n_42 : ((rdS z.2.2 z.2.1 po).1) = false := b2i_z.mp c_42
          refine lv_sipush (v := (-1000)) hF.1 hF.2.1 dX12_wall_45 (by decide +kernel) ?_
          refine lv_aload_n hF.1 hF.2.1 dX12_wall_48 rfl (lv_at hl 0 rfl) ?_
          refine k_get (C := RX12) (T := TX12) (N := 19) hF hK hG (fun _ h => List.mem_cons_of_mem _ (List.mem_append_right _ h)) 0 rfl rfl 12 (by decide) (List.mem_of_getElem? (i := 4) rfl) (fun _ h9 => h9) rfl dX12_wall_49 ?_
          refine lv_isub hF.1 hF.2.1 dX12_wall_52 ?_
          exact hret _ (aS, aR, _, _, _, _) _ ls _ _ _ _ (by rw [sfA_j x hj, hx, spWall_t hz0, spTxt_1 (h1.symm.trans (p1_f n_42))]; exact ⟨rfl, hS⟩) (by first | rfl | exact nar_b2i _) hG (Nat.le_of_ble_eq_true rfl) (Nat.le_of_ble_eq_true rfl) dX12_wall_53
    exact lp38 _ (z.2.1) (0) (0) (aN) rfl (by omega) (by omega) (Nat.lt_succ_self _) _ _ hG ls (lv_sub hl [2, 3, 1, 0] rfl)
  · --
    refine lv_iload_n hF.1 hF.2.1 dX12_wall_7 rfl (lv_at hl 0 rfl) ?_
    refine lv_if_eq (tgt := 13) hF.1 hF.2.1 dX12_wall_8 (by decide) (fun c_8 => absurd c_8 c28) (fun c_8 => ?_)
    refine lv_iload_n hF.1 hF.2.1 dX12_wall_11 rfl (lv_at hl 0 rfl) ?_
    exact hret _ (aS, aR, aN, vP, vB, vE) _ ls _ _ _ _ (by rw [spWall_n c28]; exact ⟨rfl, hS⟩) (by first | rfl | exact nar_b2i _) hG (Nat.le_of_ble_eq_true rfl) (Nat.le_of_ble_eq_true rfl) dX12_wall_12
