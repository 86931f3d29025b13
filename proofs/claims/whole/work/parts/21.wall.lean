/-! ===== the wall in the heap ===== -/
theorem keep {ws : va_W} {q0 q1 : Nat} {x y e : Nat × va_E} (h0 : ws[q0]? = some x) (h1 : ws[q1]? = some y) (hxy : x ≠ y) : (ws.set q0 e)[q1]? = some y := by
  by_cases h : q0 = q1
  · subst h
    exact absurd (Option.some.inj (h0.symm.trans h1)) hxy
  · rw [List.getElem?_set_ne h]
    exact h1
theorem hit {ws : va_W} {q0 : Nat} {x e : Nat × va_E} (h0 : ws[q0]? = some x) : (ws.set q0 e)[q0]? = some e := by
  rw [List.getElem?_set_self (List.getElem?_eq_some_iff.mp h0).1]
theorem ne_ai {a b c k n : Nat} {x : (Nat → Int32) ⊕ (Nat → Int64) ⊕ (Nat → UInt32) ⊕ (Nat → UInt64) ⊕ (Nat → Option Nat)} {fs : List Value} : ((a, .inl (c, n, x)) : Nat × va_E) ≠ (b, .inr (k, fs)) := by
  intro h
  have := congrArg Prod.snd h
  cases this
theorem ne_ia {a b c k n : Nat} {x : (Nat → Int32) ⊕ (Nat → Int64) ⊕ (Nat → UInt32) ⊕ (Nat → UInt64) ⊕ (Nat → Option Nat)} {fs : List Value} : ((b, .inr (k, fs)) : Nat × va_E) ≠ (a, .inl (c, n, x)) := fun h => ne_ai h.symm
theorem kcI_lt (k : Nat) : kcI k < 9 := by
  match k with
  | 0 => decide
  | 1 => decide
  | 2 => decide
  | 3 => decide
  | 4 => decide
  | 5 => decide
  | 6 => decide
  | k + 7 => exact (by decide : (2 : Nat) < 9)
theorem kcI_ne6 (k : Nat) : kcI k ≠ 6 := by
  match k with
  | 0 => decide
  | 1 => decide
  | 2 => decide
  | 3 => decide
  | 4 => decide
  | 5 => decide
  | 6 => decide
  | k + 7 => exact (by decide : (2 : Nat) ≠ 6)
theorem ne_od {w b k c : Nat} {fs gs : List Value} (hc : 9 ≤ c) : ((w, .inr (c, fs)) : Nat × va_E) ≠ (b, .inr (kcI k, gs)) := by
  intro h
  have h2 : c = kcI k := by
    have := congrArg Prod.snd h
    injection this with h3
    exact congrArg Prod.fst h3
  have := kcI_lt k
  omega
/-- the drawer at the address b, of kind k and figure f -/
def DR (ws : va_W) (b k f : Nat) : Prop := k < 8 ∧ f < 10 ∧ ∃ q : Nat, ws[q]? = some (b, .inr (kcI k, [.int (nI f)]))
/-- the drawers of a wall: their kinds and figures -/
def DP (ws : va_W) (dr : Nat → Option Nat) (n : Nat) (kd fg : Nat → Nat) : Prop := (∀ j, j < n → ∃ b, dr j = some b ∧ DR ws b (kd j) (fg j)) ∧ ∀ j, n ≤ j → dr j = none
def WL (cA : Nat → ClassId) (ws : va_W) (w a qw qa : Nat) (dr : Nat → Option Nat) (n o : Nat) (kd fg : Nat → Nat) : Prop :=
  ws[qw]? = some (w, .inr (9, [.ref a, .int (nI n), .int (nI o)])) ∧ ws[qa]? = some (a, .inl (cA 2, 6, .inr (.inr (.inr (.inr dr))))) ∧ n ≤ 6 ∧ o < 2 ^ n ∧ DP ws dr n kd fg
theorem WL.o64 {cA : Nat → ClassId} {ws : va_W} {w a qw qa : Nat} {dr : Nat → Option Nat} {n o : Nat} {kd fg : Nat → Nat} (h : WL cA ws w a qw qa dr n o kd fg) : o < 64 :=
  Nat.lt_of_lt_of_le h.2.2.2.1 (Nat.pow_le_pow_right (by decide) h.2.2.1)
theorem DR.keepA {ws : va_W} {b k f q0 a c n : Nat} {x : (Nat → Int32) ⊕ (Nat → Int64) ⊕ (Nat → UInt32) ⊕ (Nat → UInt64) ⊕ (Nat → Option Nat)} {e : Nat × va_E} (h : DR ws b k f) (h0 : ws[q0]? = some (a, .inl (c, n, x))) : DR (ws.set q0 e) b k f := by
  obtain ⟨h1, h2, q, h3⟩ := h
  exact ⟨h1, h2, q, keep h0 h3 ne_ai⟩
theorem DR.keepO {ws : va_W} {b k f q0 w c : Nat} {fs : List Value} {e : Nat × va_E} (h : DR ws b k f) (h0 : ws[q0]? = some (w, .inr (c, fs))) (hc : 9 ≤ c) : DR (ws.set q0 e) b k f := by
  obtain ⟨h1, h2, q, h3⟩ := h
  exact ⟨h1, h2, q, keep h0 h3 (ne_od hc)⟩
theorem DR.push {ws : va_W} {b k f : Nat} {l : va_W} (h : DR ws b k f) : DR (ws ++ l) b k f := by
  obtain ⟨h1, h2, q, h3⟩ := h
  refine ⟨h1, h2, q, ?_⟩
  rw [List.getElem?_append_left (List.getElem?_eq_some_iff.mp h3).1]
  exact h3
theorem DP.keepA {ws : va_W} {dr : Nat → Option Nat} {m q0 a c n : Nat} {kd fg : Nat → Nat} {x : (Nat → Int32) ⊕ (Nat → Int64) ⊕ (Nat → UInt32) ⊕ (Nat → UInt64) ⊕ (Nat → Option Nat)} {e : Nat × va_E} (h : DP ws dr m kd fg) (h0 : ws[q0]? = some (a, .inl (c, n, x))) : DP (ws.set q0 e) dr m kd fg :=
  ⟨fun j hj => let ⟨b, e1, e2⟩ := h.1 j hj; ⟨b, e1, e2.keepA h0⟩, h.2⟩
theorem DP.keepO {ws : va_W} {dr : Nat → Option Nat} {m q0 w c : Nat} {kd fg : Nat → Nat} {fs : List Value} {e : Nat × va_E} (h : DP ws dr m kd fg) (h0 : ws[q0]? = some (w, .inr (c, fs))) (hc : 9 ≤ c) : DP (ws.set q0 e) dr m kd fg :=
  ⟨fun j hj => let ⟨b, e1, e2⟩ := h.1 j hj; ⟨b, e1, e2.keepO h0 hc⟩, h.2⟩
theorem DP.push {ws : va_W} {dr : Nat → Option Nat} {m : Nat} {kd fg : Nat → Nat} {l : va_W} (h : DP ws dr m kd fg) : DP (ws ++ l) dr m kd fg :=
  ⟨fun j hj => let ⟨b, e1, e2⟩ := h.1 j hj; ⟨b, e1, e2.push⟩, h.2⟩
/-- the drawer of a number, if there is one -/
def drA (n : Nat) (dr : Nat → Option Nat) (d : Int32) : Option Nat := if inB n d = true then dr d.toNatClampNeg else none
theorem drA_t {n j : Nat} {dr : Nat → Option Nat} (hn : n ≤ 6) (hj : j < n) : drA n dr (nI j) = dr j := by
  unfold drA
  rw [inB_nI (by omega) (by omega), decide_eq_true hj, if_pos rfl, nI_clamp (by omega)]
theorem drA_f {n : Nat} {dr : Nat → Option Nat} {d : Int32} (h : inB n d = false) : drA n dr d = none := by
  unfold drA
  rw [h]
  rfl
theorem drA_some {n v : Nat} {dr : Nat → Option Nat} {d : Int32} (hn : n ≤ 6) (h : some v = drA n dr d) : ∃ j, j < n ∧ d = nI j ∧ dr j = some v := by
  by_cases hb : inB n d = true
  · obtain ⟨j, hj, rfl⟩ := inB_ex (by omega) hb
    rw [drA_t hn hj] at h
    exact ⟨j, hj, rfl, h.symm⟩
  · rw [drA_f (by simpa using hb)] at h
    cases h
theorem drA_none {ws : va_W} {n : Nat} {dr : Nat → Option Nat} {kd fg : Nat → Nat} {d : Int32} (hn : n ≤ 6) (hD : DP ws dr n kd fg) (h : none = drA n dr d) : inB n d = false := by
  by_cases hb : inB n d = true
  · obtain ⟨j, hj, rfl⟩ := inB_ex (by omega) hb
    rw [drA_t hn hj] at h
    obtain ⟨b, e1, -⟩ := hD.1 j hj
    rw [e1] at h
    cases h
  · simpa using hb
/-- may drawer d of the wall be pulled at the standing st -/
def mayZ (n : Nat) (kd fg : Nat → Nat) (d : Int32) (st : Nat) : Bool := inB n d && mv (kd d.toNatClampNeg) (fg d.toNatClampNeg) d.toNatClampNeg st
theorem mayZ_f {n : Nat} {kd fg : Nat → Nat} {d : Int32} {st : Nat} (h : inB n d = false) : mayZ n kd fg d st = false := by
  unfold mayZ
  rw [h]
  rfl
theorem mayZ_t {n j : Nat} {kd fg : Nat → Nat} {st : Nat} (hn : n ≤ 6) (hj : j < n) : mayZ n kd fg (nI j) st = mv (kd j) (fg j) j st := by
  unfold mayZ
  rw [inB_nI (by omega) (by omega), decide_eq_true hj, nI_clamp (by omega)]
  rfl
/-- the drawers below j that may be pulled, as bits -/
def mayU (kd fg : Nat → Nat) (st : Nat) : Nat → Nat
  | 0 => 0
  | j + 1 => if mv (kd j) (fg j) j st = true then mayU kd fg st j ||| 2 ^ j else mayU kd fg st j
/-- how many of the drawers below j are of kind k -/
def howU (kd : Nat → Nat) (k : Nat) : Nat → Nat
  | 0 => 0
  | j + 1 => if kd j = k then howU kd k j + 1 else howU kd k j
theorem howU_le (kd : Nat → Nat) (k j : Nat) : howU kd k j ≤ j := by
  induction j with
  | zero => exact Nat.le_refl 0
  | succ j ih =>
    unfold howU
    split <;> omega
theorem inB_j {n j : Nat} (hn : n < 2 ^ 31) (hj : j < n) : inB n (nI j) = true := by
  rw [inB_nI hn (by omega), decide_eq_true hj]
theorem inB_p {m : Nat} {d : Int32} (hm : 1 ≤ m) (hm2 : m < 2 ^ 31) (h1 : ¬ d < 0) (h2 : ¬ nI (m - 1) < d) : inB m d = true := by
  refine inB_t h1 (fun q => h2 ?_)
  rw [Int32.le_iff_toInt_le, nI_toInt hm2] at q
  rw [Int32.lt_iff_toInt_lt, nI_toInt (by omega)]
  omega
theorem inB_q {m : Nat} {d : Int32} (hm : 1 ≤ m) (hm2 : m < 2 ^ 31) (h2 : nI (m - 1) < d) : inB m d = false := by
  refine inB_r ?_
  rw [Int32.lt_iff_toInt_lt, nI_toInt (by omega)] at h2
  rw [Int32.le_iff_toInt_le, nI_toInt hm2]
  omega
theorem set_same {ws : va_W} {q : Nat} {x : Nat × va_E} (h : ws[q]? = some x) : ws.set q x = ws := by
  apply List.ext_getElem?
  intro j
  by_cases hj : q = j
  · subst hj
    rw [hit h, h]
  · rw [List.getElem?_set_ne hj]
theorem mayU_t {n j : Nat} {kd fg : Nat → Nat} {st : Nat} (hn : n ≤ 6) (hj : j < n) (h : mayZ n kd fg (nI j) st = true) : mayU kd fg st (j + 1) = mayU kd fg st j ||| 2 ^ j := by
  rw [mayZ_t hn hj] at h
  show (if mv (kd j) (fg j) j st = true then mayU kd fg st j ||| 2 ^ j else mayU kd fg st j) = _
  rw [if_pos h]
theorem mayU_f {n j : Nat} {kd fg : Nat → Nat} {st : Nat} (hn : n ≤ 6) (hj : j < n) (h : mayZ n kd fg (nI j) st = false) : mayU kd fg st (j + 1) = mayU kd fg st j := by
  rw [mayZ_t hn hj] at h
  show (if mv (kd j) (fg j) j st = true then mayU kd fg st j ||| 2 ^ j else mayU kd fg st j) = _
  rw [h]
  rfl
theorem mayZ_ex {n : Nat} {kd fg : Nat → Nat} {d : Int32} {st : Nat} (hn : n ≤ 6) (h : mayZ n kd fg d st = true) : ∃ j, j < n ∧ d = nI j ∧ mv (kd j) (fg j) j st = true := by
  by_cases hb : inB n d = true
  · obtain ⟨j, hj, rfl⟩ := inB_ex (by omega) hb
    rw [mayZ_t hn hj] at h
    exact ⟨j, hj, rfl, h⟩
  · rw [mayZ_f (by simpa using hb)] at h
    cases h
/-- how the wall stands behind a pull -/
def pullO (n : Nat) (kd fg : Nat → Nat) (d : Int32) (o : Nat) : Nat := if mayZ n kd fg d o = true then o ^^^ 2 ^ d.toNatClampNeg else o
theorem pullO_t {n j : Nat} {kd fg : Nat → Nat} {o : Nat} (hn : n ≤ 6) (hj : j < n) (h : mayZ n kd fg (nI j) o = true) : pullO n kd fg (nI j) o = o ^^^ 2 ^ j := by
  unfold pullO
  rw [if_pos h, nI_clamp (by omega)]
theorem pullO_f {n : Nat} {kd fg : Nat → Nat} {d : Int32} {o : Nat} (h : mayZ n kd fg d o = false) : pullO n kd fg d o = o := by
  unfold pullO
  rw [h]
  rfl
theorem xor_ltn {n o j : Nat} (ho : o < 2 ^ n) (hj : j < n) : o ^^^ 2 ^ j < 2 ^ n := Nat.xor_lt_two_pow ho (Nat.pow_lt_pow_right (by decide) hj)
theorem pullO_lt {n : Nat} {kd fg : Nat → Nat} {d : Int32} {o : Nat} (hn : n ≤ 6) (ho : o < 2 ^ n) : pullO n kd fg d o < 2 ^ n := by
  by_cases h : mayZ n kd fg d o = true
  · obtain ⟨j, hj, rfl, -⟩ := mayZ_ex hn h
    rw [pullO_t hn hj h]
    exact xor_ltn ho hj
  · rw [pullO_f (by simpa using h)]
    exact ho
/-- how it stands behind 'becomes' -/
def becO (n : Nat) (d : Int32) (op : Bool) (o : Nat) : Nat := if inB n d = true then (if op = true then o ||| 2 ^ d.toNatClampNeg else if o.testBit d.toNatClampNeg = true then o - 2 ^ d.toNatClampNeg else o) else o
theorem becO_t {n j : Nat} {o : Nat} (hn : n ≤ 6) (hj : j < n) : becO n (nI j) true o = o ||| 2 ^ j := by
  unfold becO
  rw [if_pos (inB_j (by omega) hj), if_pos rfl, nI_clamp (by omega)]
theorem becO_s {n j : Nat} {o : Nat} (hn : n ≤ 6) (hj : j < n) : becO n (nI j) false o = if o.testBit j = true then o - 2 ^ j else o := by
  unfold becO
  rw [if_pos (inB_j (by omega) hj), if_neg (by decide), nI_clamp (by omega)]
theorem becO_f {n : Nat} {d : Int32} {op : Bool} {o : Nat} (h : inB n d = false) : becO n d op o = o := by
  unfold becO
  rw [h]
  rfl
theorem becO_lt {n : Nat} {d : Int32} {op : Bool} {o : Nat} (hn : n ≤ 6) (ho : o < 2 ^ n) : becO n d op o < 2 ^ n := by
  by_cases h : inB n d = true
  · obtain ⟨j, hj, rfl⟩ := inB_ex (by omega) h
    cases op
    · rw [becO_s hn hj]
      split
      · exact Nat.lt_of_le_of_lt (Nat.sub_le _ _) ho
      · exact ho
    · rw [becO_t hn hj]
      exact Nat.or_lt_two_pow ho (Nat.pow_lt_pow_right (by decide) hj)
  · rw [becO_f (by simpa using h)]
    exact ho
theorem WL.setO {cA : Nat → ClassId} {ws : va_W} {w a qw qa : Nat} {dr : Nat → Option Nat} {n o o' : Nat} {kd fg : Nat → Nat} (h : WL cA ws w a qw qa dr n o kd fg) (ho : o' < 2 ^ n) : WL cA (ws.set qw (w, .inr (9, [.ref a, .int (nI n), .int (nI o')]))) w a qw qa dr n o' kd fg :=
  ⟨hit h.1, keep h.1 h.2.1 ne_ia, h.2.2.1, ho, h.2.2.2.2.keepO h.1 (by decide)⟩
def mix (f g : Nat → Option Nat) (j : Nat) : Nat → Option Nat := fun i => if i < j then f i else g i
theorem mix_0 (f g : Nat → Option Nat) : mix f g 0 = g := by
  funext i
  simp [mix]
theorem mix_up {f g : Nat → Option Nat} {j : Nat} {v : Option Nat} (h : f j = v) : va_up (mix f g j) j v = mix f g (j + 1) := by
  funext i
  unfold va_up mix
  by_cases h1 : i = j
  · subst h1
    rw [if_pos rfl, if_pos (by omega), h]
  · rw [if_neg h1]
    by_cases h2 : i < j
    · rw [if_pos h2, if_pos (by omega)]
    · rw [if_neg h2, if_neg (by omega)]
theorem mix_6 {f g : Nat → Option Nat} (hf : ∀ i, 6 ≤ i → f i = none) (hg : ∀ i, 6 ≤ i → g i = none) : mix f g 6 = f := by
  funext i
  unfold mix
  by_cases h : i < 6
  · rw [if_pos h]
  · rw [if_neg h, hf i (by omega), hg i (by omega)]
theorem ne_aa {a b c k n m : Nat} {x y : (Nat → Int32) ⊕ (Nat → Int64) ⊕ (Nat → UInt32) ⊕ (Nat → UInt64) ⊕ (Nat → Option Nat)} (h : a ≠ b) : ((a, .inl (c, n, x)) : Nat × va_E) ≠ (b, .inl (k, m, y)) := fun q => h (congrArg Prod.fst q)
theorem ne_oo {a b : Nat} {x y : va_E} (h : a ≠ b) : ((a, x) : Nat × va_E) ≠ (b, y) := fun q => h (congrArg Prod.fst q)
theorem howU_t {kd : Nat → Nat} {k j : Nat} (h : kd j = k) : howU kd k (j + 1) = howU kd k j + 1 := by
  show (if kd j = k then howU kd k j + 1 else howU kd k j) = _
  rw [if_pos h]
theorem howU_f {kd : Nat → Nat} {k j : Nat} (h : ¬ kd j = k) : howU kd k (j + 1) = howU kd k j := by
  show (if kd j = k then howU kd k j + 1 else howU kd k j) = _
  rw [if_neg h]
abbrev rmX9_has : Room := { frames := 0, cells := 0, slots := 0, locals := 0 }
set_option maxHeartbeats 4000000 in
set_option maxRecDepth 100000 in
theorem c_X9_has {l : Launch} {D : va_G} {cA : Nat → ClassId} {A : Nat → Prop} {ws : va_W} {w a qw qa n o : Nat} {dr : Nat → Option Nat} {kd fg : Nat → Nat} (hW : WL cA ws w a qw qa dr n o kd fg) {d : Int32} : Met l yX9_has wsX9_has rmX9_has (va_Pc [.ref w, .int d] (Pre D cA A (ws))) (va_Qi (fun r _ => r = b2i (inB n d)) (fun u t => Wd D A ((fun (_ : Unit) => ws) u) t) A) (0) (0) A := by
  refine k_ofi (S := Unit) (F := fun (_ : Unit) => ws) (cc := cX9_has) (maxL := 2) (by decide) rfl (Nat.le_of_ble_eq_true rfl) ?_
  intro p e s m args below meth c Q hF hini hK hA hG hret ls hl
  have hl : lv_has ls 2 [(0, .ref w), (1, .int d)] := hl
  have hn : n ≤ 6 := hW.2.2.1
  have ho : o < 64 := hW.o64
  refine lv_iload_n hF.1 hF.2.1 dX9_has_0 rfl (lv_at hl 1 rfl) ?_
  refine lv_if_lt (tgt := 16) hF.1 hF.2.1 dX9_has_1 (by decide) (fun c_1 => ?_) (fun c_1 => ?_)
  · --
    refine lv_iconst (v := (nI 0)) hF.1 hF.2.1 dX9_has_16 (by decide +kernel) ?_
    exact hret _ () _ ls _ _ _ _ (by first | (rw [inB_t c_1 c_9]; rfl) | (rw [inB_l c_1]; rfl) | (rw [inB_r c_9]; rfl)) (by first | rfl | exact nar_b2i _) hG (Nat.le_of_ble_eq_true rfl) (Nat.le_of_ble_eq_true rfl) dX9_has_17
  · --
    refine lv_iload_n hF.1 hF.2.1 dX9_has_4 rfl (lv_at hl 1 rfl) ?_
    refine lv_aload_n hF.1 hF.2.1 dX9_has_5 rfl (lv_at hl 0 rfl) ?_
    refine k_get (C := RX9) (T := TX9) (N := 3) hF hK hG (fun _ h => List.mem_cons_of_mem _ (List.mem_append_right _ h)) qw hW.1 rfl 1 (by decide) (List.mem_of_getElem? (i := 1) rfl) (fun _ h9 => h9) rfl dX9_has_6 ?_
    refine lv_icmp_ge (tgt := 16) hF.1 hF.2.1 dX9_has_9 (by decide) (fun c_9 => ?_) (fun c_9 => ?_)
    · --
      refine lv_iconst (v := (nI 0)) hF.1 hF.2.1 dX9_has_16 (by decide +kernel) ?_
      exact hret _ () _ ls _ _ _ _ (by first | (rw [inB_t c_1 c_9]; rfl) | (rw [inB_l c_1]; rfl) | (rw [inB_r c_9]; rfl)) (by first | rfl | exact nar_b2i _) hG (Nat.le_of_ble_eq_true rfl) (Nat.le_of_ble_eq_true rfl) dX9_has_17
    · --
      refine lv_iconst (v := (nI 1)) hF.1 hF.2.1 dX9_has_12 (by decide +kernel) ?_
      refine lv_goto (tgt := 17) hF.1 hF.2.1 dX9_has_13 (by decide) ?_
      exact hret _ () _ ls _ _ _ _ (by first | (rw [inB_t c_1 c_9]; rfl) | (rw [inB_l c_1]; rfl) | (rw [inB_r c_9]; rfl)) (by first | rfl | exact nar_b2i _) hG (Nat.le_of_ble_eq_true rfl) (Nat.le_of_ble_eq_true rfl) dX9_has_17

abbrev rmX9_allBits : Room := { frames := 0, cells := 0, slots := 0, locals := 0 }
set_option maxHeartbeats 4000000 in
set_option maxRecDepth 100000 in
theorem c_X9_allBits {l : Launch} {D : va_G} {cA : Nat → ClassId} {A : Nat → Prop} {ws : va_W} {w a qw qa n o : Nat} {dr : Nat → Option Nat} {kd fg : Nat → Nat} (hW : WL cA ws w a qw qa dr n o kd fg) : Met l yX9_allBits wsX9_allBits rmX9_allBits (va_Pc [.ref w] (Pre D cA A (ws))) (va_Qi (fun r _ => r = nI (2 ^ n - 1)) (fun u t => Wd D A ((fun (_ : Unit) => ws) u) t) A) (0) (0) A := by
  refine k_ofi (S := Unit) (F := fun (_ : Unit) => ws) (cc := cX9_allBits) (maxL := 1) (by decide) rfl (Nat.le_of_ble_eq_true rfl) ?_
  intro p e s m args below meth c Q hF hini hK hA hG hret ls hl
  have hl : lv_has ls 1 [(0, .ref w)] := hl
  have hn : n ≤ 6 := hW.2.2.1
  have ho : o < 64 := hW.o64
  refine lv_iconst (v := (nI 1)) hF.1 hF.2.1 dX9_allBits_0 (by decide +kernel) ?_
  refine lv_aload_n hF.1 hF.2.1 dX9_allBits_1 rfl (lv_at hl 0 rfl) ?_
  refine k_get (C := RX9) (T := TX9) (N := 3) hF hK hG (fun _ h => List.mem_cons_of_mem _ (List.mem_append_right _ h)) qw hW.1 rfl 1 (by decide) (List.mem_of_getElem? (i := 1) rfl) (fun _ h9 => h9) rfl dX9_allBits_2 ?_
  refine lv_ishl hF.1 hF.2.1 dX9_allBits_5 ?_
  rw [shl_1 (by omega)]
  refine lv_iconst (v := (nI 1)) hF.1 hF.2.1 dX9_allBits_6 (by decide +kernel) ?_
  refine lv_isub hF.1 hF.2.1 dX9_allBits_7 ?_
  rw [pk_sub Nat.one_le_two_pow]
  exact hret _ () _ ls _ _ _ _ (by first | rfl | (simp_all; done)) (by first | rfl | exact nar_b2i _) hG (Nat.le_of_ble_eq_true rfl) (Nat.le_of_ble_eq_true rfl) dX9_allBits_8

abbrev rmX9_canStand : Room := { frames := 1, cells := 0, slots := 0, locals := 20 }
set_option maxHeartbeats 4000000 in
set_option maxRecDepth 100000 in
theorem c_X9_canStand {l : Launch} {D : va_G} {cA : Nat → ClassId} {A : Nat → Prop} {ws : va_W} {w a qw qa n o : Nat} {dr : Nat → Option Nat} {kd fg : Nat → Nat} (hW : WL cA ws w a qw qa dr n o kd fg) {d : Int32} : Met l yX9_canStand wsX9_canStand rmX9_canStand (va_Pc [.ref w, .int d] (Pre D cA A (ws))) (va_Qi (fun r _ => r = b2i (inB (2 ^ n) d)) (fun u t => Wd D A ((fun (_ : Unit) => ws) u) t) A) (0) (0) A := by
  refine k_ofi (S := Unit) (F := fun (_ : Unit) => ws) (cc := cX9_canStand) (maxL := 2) (by decide) rfl (Nat.le_of_ble_eq_true rfl) ?_
  intro p e s m args below meth c Q hF hini hK hA hG hret ls hl
  have hl : lv_has ls 2 [(0, .ref w), (1, .int d)] := hl
  have hn : n ≤ 6 := hW.2.2.1
  have ho : o < 64 := hW.o64
  have hm : 1 ≤ 2 ^ n := Nat.one_le_two_pow
  have hm2 : 2 ^ n < 2 ^ 31 := Nat.pow_lt_pow_right (by decide) (by omega)
  refine lv_iload_n hF.1 hF.2.1 dX9_canStand_0 rfl (lv_at hl 1 rfl) ?_
  refine lv_if_lt (tgt := 16) hF.1 hF.2.1 dX9_canStand_1 (by decide) (fun c_1 => ?_) (fun c_1 => ?_)
  · --
    refine lv_iconst (v := (nI 0)) hF.1 hF.2.1 dX9_canStand_16 (by decide +kernel) ?_
    exact hret _ () _ ls _ _ _ _ (by first | (rw [inB_p hm hm2 c_1 c_9]; rfl) | (rw [inB_l c_1]; rfl) | (rw [inB_q hm hm2 c_9]; rfl)) (by first | rfl | exact nar_b2i _) hG (Nat.le_of_ble_eq_true rfl) (Nat.le_of_ble_eq_true rfl) dX9_canStand_17
  · --
    refine lv_iload_n hF.1 hF.2.1 dX9_canStand_4 rfl (lv_at hl 1 rfl) ?_
    refine lv_aload_n hF.1 hF.2.1 dX9_canStand_5 rfl (lv_at hl 0 rfl) ?_
    refine k_ci (r_V (As := []) hF hK hA hG (c_X9_allBits hW) (cwV 0 hF.2.2.2.2 gX9_canStand_X9_allBits rfl rfl rfl (by decide +kernel) ⟨Nat.le_of_ble_eq_true rfl, Nat.le_of_ble_eq_true rfl⟩) qw hW.1 rfl rfl rfl hl.1 rfl (lv_room (Nat.le_of_ble_eq_true rfl)) dX9_canStand_6 ⟨Nat.le_of_ble_eq_true rfl, Nat.le_of_ble_eq_true rfl⟩) hG (fun r_6 u_6 H locs hp_6 hG => ?_)
    subst hp_6
    refine lv_icmp_gt (tgt := 16) hF.1 hF.2.1 dX9_canStand_9 (by decide) (fun c_9 => ?_) (fun c_9 => ?_)
    · --
      refine lv_iconst (v := (nI 0)) hF.1 hF.2.1 dX9_canStand_16 (by decide +kernel) ?_
      exact hret _ () _ ls _ _ _ _ (by first | (rw [inB_p hm hm2 c_1 c_9]; rfl) | (rw [inB_l c_1]; rfl) | (rw [inB_q hm hm2 c_9]; rfl)) (by first | rfl | exact nar_b2i _) hG (Nat.le_of_ble_eq_true rfl) (Nat.le_of_ble_eq_true rfl) dX9_canStand_17
    · --
      refine lv_iconst (v := (nI 1)) hF.1 hF.2.1 dX9_canStand_12 (by decide +kernel) ?_
      refine lv_goto (tgt := 17) hF.1 hF.2.1 dX9_canStand_13 (by decide) ?_
      exact hret _ () _ ls _ _ _ _ (by first | (rw [inB_p hm hm2 c_1 c_9]; rfl) | (rw [inB_l c_1]; rfl) | (rw [inB_q hm hm2 c_9]; rfl)) (by first | rfl | exact nar_b2i _) hG (Nat.le_of_ble_eq_true rfl) (Nat.le_of_ble_eq_true rfl) dX9_canStand_17

abbrev rmX9_drawerAt : Room := { frames := 1, cells := 0, slots := 0, locals := 21 }
set_option maxHeartbeats 4000000 in
set_option maxRecDepth 100000 in
theorem c_X9_drawerAt {l : Launch} {D : va_G} {cA : Nat → ClassId} {A : Nat → Prop} {ws : va_W} {w a qw qa n o : Nat} {dr : Nat → Option Nat} {kd fg : Nat → Nat} (hW : WL cA ws w a qw qa dr n o kd fg) {d : Int32} : Met l yX9_drawerAt wsX9_drawerAt rmX9_drawerAt (va_Pc [.ref w, .int d] (Pre D cA A (ws))) (va_Qq (fun r _ => r = drA n dr d) (fun u t => Wd D A ((fun (_ : Unit) => ws) u) t) A) (0) (0) A := by
  refine k_ofq (S := Unit) (F := fun (_ : Unit) => ws) (cc := cX9_drawerAt) (maxL := 2) (by decide) rfl (Nat.le_of_ble_eq_true rfl) ?_
  intro p e s m args below meth c Q hF hini hK hA hG hret ls hl
  have hl : lv_has ls 2 [(0, .ref w), (1, .int d)] := hl
  have hn : n ≤ 6 := hW.2.2.1
  have ho : o < 64 := hW.o64
  refine lv_aload_n hF.1 hF.2.1 dX9_drawerAt_0 rfl (lv_at hl 0 rfl) ?_
  refine lv_iload_n hF.1 hF.2.1 dX9_drawerAt_1 rfl (lv_at hl 1 rfl) ?_
  refine k_ci (r_V (As := [.int d]) hF hK hA hG (c_X9_has hW) (cwV 1 hF.2.2.2.2 gX9_drawerAt_X9_has rfl rfl rfl (by decide +kernel) ⟨Nat.le_of_ble_eq_true rfl, Nat.le_of_ble_eq_true rfl⟩) qw hW.1 rfl rfl rfl hl.1 rfl (lv_room (Nat.le_of_ble_eq_true rfl)) dX9_drawerAt_2 ⟨Nat.le_of_ble_eq_true rfl, Nat.le_of_ble_eq_true rfl⟩) hG (fun r_2 u_2 H locs hp_2 hG => ?_)
  subst hp_2
  refine lv_if_eq (tgt := 23) hF.1 hF.2.1 dX9_drawerAt_5 (by decide) (fun c_5 => ?_) (fun c_5 => ?_)
  · --
    have n_5 : (inB n d) = false := b2i_z.mp c_5
    refine lv_null hF.1 hF.2.1 dX9_drawerAt_23 ?_
    exact hret none _ () _ ls _ _ _ _ (by first | exact (drA_f n_5).symm | exact (drA_t hn hj).symm) rfl hG (Nat.le_of_ble_eq_true rfl) (Nat.le_of_ble_eq_true rfl) dX9_drawerAt_24
  · --
    have n_5 : (inB n d) = true := b2i_nz.mp c_5
    obtain ⟨j, hj, rfl⟩ := inB_ex (by omega) n_5
    refine lv_iload_n hF.1 hF.2.1 dX9_drawerAt_8 rfl (lv_at hl 1 rfl) ?_
    refine lv_bipush (v := (nI 6)) hF.1 hF.2.1 dX9_drawerAt_9 (by decide +kernel) ?_
    refine lv_icmp_ge (tgt := 23) hF.1 hF.2.1 dX9_drawerAt_11 (by decide) (fun c_11 => ?_) (fun c_11 => ?_)
    · --
      have n_11 : 6 ≤ j := (nI_leI (a := 6) (b := j) (by omega) (by omega)).mp c_11
      exact absurd n_11 (by omega)
    · --
      have n_11 : ¬ (6 ≤ j) := fun q => c_11 ((nI_leI (a := 6) (b := j) (by omega) (by omega)).mpr q)
      refine lv_aload_n hF.1 hF.2.1 dX9_drawerAt_14 rfl (lv_at hl 0 rfl) ?_
      refine k_get (C := RX9) (T := TX9) (N := 3) hF hK hG (fun _ h => List.mem_cons_of_mem _ (List.mem_append_right _ h)) qw hW.1 rfl 0 (by decide) (List.mem_of_getElem? (i := 1) rfl) (fun _ h9 => h9) rfl dX9_drawerAt_15 ?_
      refine lv_iload_n hF.1 hF.2.1 dX9_drawerAt_18 rfl (lv_at hl 1 rfl) ?_
      refine k_aldN hF hK hG qa 2 hW.2.1 rfl (j) rfl (by omega) (by omega) dX9_drawerAt_19 ?_
      refine lv_goto (tgt := 24) hF.1 hF.2.1 dX9_drawerAt_20 (by decide) ?_
      exact hret _ _ () _ ls _ _ _ _ (by first | exact (drA_f n_5).symm | exact (drA_t hn hj).symm) rfl hG (Nat.le_of_ble_eq_true rfl) (Nat.le_of_ble_eq_true rfl) dX9_drawerAt_24

abbrev rmX9_add_t : Room := { frames := 0, cells := 0, slots := 0, locals := 0 }
set_option maxHeartbeats 4000000 in
set_option maxRecDepth 100000 in
theorem c_X9_add_t {l : Launch} {D : va_G} {cA : Nat → ClassId} {A : Nat → Prop} {ws : va_W} {w a qw qa n o : Nat} {dr : Nat → Option Nat} {kd fg : Nat → Nat} (hW : WL cA ws w a qw qa dr n o kd fg) {b k f : Nat} (hb : DR ws b k f) (hlt : n < 6) : Met l yX9_add wsX9_add rmX9_add_t (va_Pc [.ref w, .ref b] (Pre D cA A (ws))) (va_Qi (fun r _ => r = b2i true) (fun u t => Wd D A ((fun (_ : Unit) => (ws.set qa (a, .inl (cA 2, 6, .inr (.inr (.inr (.inr (va_up dr n (some b)))))))).set qw (w, .inr (9, [.ref a, .int (nI (n + 1)), .int (nI o)]))) u) t) A) (0) (0) A := by
  refine k_ofi (S := Unit) (F := fun (_ : Unit) => (ws.set qa (a, .inl (cA 2, 6, .inr (.inr (.inr (.inr (va_up dr n (some b)))))))).set qw (w, .inr (9, [.ref a, .int (nI (n + 1)), .int (nI o)]))) (cc := cX9_add) (maxL := 2) (by decide) rfl (Nat.le_of_ble_eq_true rfl) ?_
  intro p e s m args below meth c Q hF hini hK hA hG hret ls hl
  have hl : lv_has ls 2 [(0, .ref w), (1, .ref b)] := hl
  have hn : n ≤ 6 := hW.2.2.1
  have ho : o < 64 := hW.o64
  obtain ⟨hk8, hf10, qb, hqb⟩ := hb
  refine lv_aload_n hF.1 hF.2.1 dX9_add_0 rfl (lv_at hl 0 rfl) ?_
  refine k_get (C := RX9) (T := TX9) (N := 3) hF hK hG (fun _ h => List.mem_cons_of_mem _ (List.mem_append_right _ h)) qw hW.1 rfl 1 (by decide) (List.mem_of_getElem? (i := 1) rfl) (fun _ h9 => h9) rfl dX9_add_1 ?_
  refine lv_if_lt (tgt := 16) hF.1 hF.2.1 dX9_add_4 (by decide) (fun c_4 => ?_) (fun c_4 => ?_)
  · --
    have n_4 : n < 0 := (nI_ltI (a := n) (b := 0) (by omega) (by omega)).mp c_4
    exact absurd n_4 (by omega)
  · --
    have n_4 : ¬ (n < 0) := fun q => c_4 ((nI_ltI (a := n) (b := 0) (by omega) (by omega)).mpr q)
    refine lv_aload_n hF.1 hF.2.1 dX9_add_7 rfl (lv_at hl 0 rfl) ?_
    refine k_get (C := RX9) (T := TX9) (N := 3) hF hK hG (fun _ h => List.mem_cons_of_mem _ (List.mem_append_right _ h)) qw hW.1 rfl 1 (by decide) (List.mem_of_getElem? (i := 1) rfl) (fun _ h9 => h9) rfl dX9_add_8 ?_
    refine lv_bipush (v := (nI 6)) hF.1 hF.2.1 dX9_add_11 (by decide +kernel) ?_
    refine lv_icmp_lt (tgt := 18) hF.1 hF.2.1 dX9_add_13 (by decide) (fun c_13 => ?_) (fun c_13 => ?_)
    · --
      have n_13 : n < 6 := (nI_ltI (a := n) (b := 6) (by omega) (by omega)).mp c_13
      refine lv_aload_n hF.1 hF.2.1 dX9_add_18 rfl (lv_at hl 0 rfl) ?_
      refine k_get (C := RX9) (T := TX9) (N := 3) hF hK hG (fun _ h => List.mem_cons_of_mem _ (List.mem_append_right _ h)) qw hW.1 rfl 0 (by decide) (List.mem_of_getElem? (i := 2) rfl) (fun _ h9 => h9) rfl dX9_add_19 ?_
      refine lv_aload_n hF.1 hF.2.1 dX9_add_22 rfl (lv_at hl 0 rfl) ?_
      refine k_get (C := RX9) (T := TX9) (N := 3) hF hK hG (fun _ h => List.mem_cons_of_mem _ (List.mem_append_right _ h)) qw hW.1 rfl 1 (by decide) (List.mem_of_getElem? (i := 1) rfl) (fun _ h9 => h9) rfl dX9_add_23 ?_
      refine lv_aload_n hF.1 hF.2.1 dX9_add_26 rfl (lv_at hl 1 rfl) ?_
      refine k_astD hF hK hG qa qb hW.2.1 hk8 hqb (n) rfl (by omega) (by omega) dX9_add_27 (fun H locs hG => ?_)
      refine lv_aload_n hF.1 hF.2.1 dX9_add_28 rfl (lv_at hl 0 rfl) ?_
      refine lv_dup hF.1 hF.2.1 dX9_add_29 rfl ?_
      refine k_get (C := RX9) (T := TX9) (N := 3) hF hK hG (fun _ h => List.mem_cons_of_mem _ (List.mem_append_right _ h)) qw (keep hW.2.1 hW.1 ne_ai) rfl 1 (by decide) (List.mem_of_getElem? (i := 1) rfl) (fun _ h9 => h9) rfl dX9_add_30 ?_
      refine lv_iconst (v := (nI 1)) hF.1 hF.2.1 dX9_add_33 (by decide +kernel) ?_
      refine lv_iadd hF.1 hF.2.1 dX9_add_34 ?_
      rw [nI_add]
      refine k_put (C := RX9) (T := TX9) (N := 3) hF hK hG (fun _ h => List.mem_cons_of_mem _ (List.mem_append_right _ h)) tyX9 tyX9_ok nmX9 qw (keep hW.2.1 hW.1 ne_ai) rfl 1 (by decide) (List.mem_of_getElem? (i := 1) rfl) (fun _ h9 => h9) rfl rfl rfl (Nat.le_of_ble_eq_true rfl) dX9_add_35 (fun H locs hG => ?_)
      refine lv_iconst (v := (nI 1)) hF.1 hF.2.1 dX9_add_38 (by decide +kernel) ?_
      exact hret _ () _ ls _ _ _ _ (by first | rfl | (simp_all; done)) (by first | rfl | exact nar_b2i _) hG (Nat.le_of_ble_eq_true rfl) (Nat.le_of_ble_eq_true rfl) dX9_add_39
    · --
      have n_13 : ¬ (n < 6) := fun q => c_13 ((nI_ltI (a := n) (b := 6) (by omega) (by omega)).mpr q)
      exact absurd hlt n_13

abbrev rmX9_add_f : Room := { frames := 0, cells := 0, slots := 0, locals := 0 }
set_option maxHeartbeats 4000000 in
set_option maxRecDepth 100000 in
theorem c_X9_add_f {l : Launch} {D : va_G} {cA : Nat → ClassId} {A : Nat → Prop} {ws : va_W} {w a qw qa n o : Nat} {dr : Nat → Option Nat} {kd fg : Nat → Nat} (hW : WL cA ws w a qw qa dr n o kd fg) {b : Nat} (hlt : ¬ n < 6) : Met l yX9_add wsX9_add rmX9_add_f (va_Pc [.ref w, .ref b] (Pre D cA A (ws))) (va_Qi (fun r _ => r = b2i false) (fun u t => Wd D A ((fun (_ : Unit) => ws) u) t) A) (0) (0) A := by
  refine k_ofi (S := Unit) (F := fun (_ : Unit) => ws) (cc := cX9_add) (maxL := 2) (by decide) rfl (Nat.le_of_ble_eq_true rfl) ?_
  intro p e s m args below meth c Q hF hini hK hA hG hret ls hl
  have hl : lv_has ls 2 [(0, .ref w), (1, .ref b)] := hl
  have hn : n ≤ 6 := hW.2.2.1
  have ho : o < 64 := hW.o64
  refine lv_aload_n hF.1 hF.2.1 dX9_add_0 rfl (lv_at hl 0 rfl) ?_
  refine k_get (C := RX9) (T := TX9) (N := 3) hF hK hG (fun _ h => List.mem_cons_of_mem _ (List.mem_append_right _ h)) qw hW.1 rfl 1 (by decide) (List.mem_of_getElem? (i := 1) rfl) (fun _ h9 => h9) rfl dX9_add_1 ?_
  refine lv_if_lt (tgt := 16) hF.1 hF.2.1 dX9_add_4 (by decide) (fun c_4 => ?_) (fun c_4 => ?_)
  · --
    have n_4 : n < 0 := (nI_ltI (a := n) (b := 0) (by omega) (by omega)).mp c_4
    exact absurd n_4 (by omega)
  · --
    have n_4 : ¬ (n < 0) := fun q => c_4 ((nI_ltI (a := n) (b := 0) (by omega) (by omega)).mpr q)
    refine lv_aload_n hF.1 hF.2.1 dX9_add_7 rfl (lv_at hl 0 rfl) ?_
    refine k_get (C := RX9) (T := TX9) (N := 3) hF hK hG (fun _ h => List.mem_cons_of_mem _ (List.mem_append_right _ h)) qw hW.1 rfl 1 (by decide) (List.mem_of_getElem? (i := 1) rfl) (fun _ h9 => h9) rfl dX9_add_8 ?_
    refine lv_bipush (v := (nI 6)) hF.1 hF.2.1 dX9_add_11 (by decide +kernel) ?_
    refine lv_icmp_lt (tgt := 18) hF.1 hF.2.1 dX9_add_13 (by decide) (fun c_13 => ?_) (fun c_13 => ?_)
    · --
      have n_13 : n < 6 := (nI_ltI (a := n) (b := 6) (by omega) (by omega)).mp c_13
      exact absurd n_13 hlt
    · --
      have n_13 : ¬ (n < 6) := fun q => c_13 ((nI_ltI (a := n) (b := 6) (by omega) (by omega)).mpr q)
      refine lv_iconst (v := (nI 0)) hF.1 hF.2.1 dX9_add_16 (by decide +kernel) ?_
      exact hret _ () _ ls _ _ _ _ (by first | rfl | (simp_all; done)) (by first | rfl | exact nar_b2i _) hG (Nat.le_of_ble_eq_true rfl) (Nat.le_of_ble_eq_true rfl) dX9_add_17

abbrev rmX9_replace : Room := { frames := 1, cells := 0, slots := 0, locals := 21 }
set_option maxHeartbeats 4000000 in
set_option maxRecDepth 100000 in
theorem c_X9_replace {l : Launch} {D : va_G} {cA : Nat → ClassId} {A : Nat → Prop} {ws : va_W} {w a qw qa n o : Nat} {dr : Nat → Option Nat} {kd fg : Nat → Nat} (hW : WL cA ws w a qw qa dr n o kd fg) {b k f j : Nat} (hb : DR ws b k f) (hj : j < n) : Met l yX9_replace wsX9_replace rmX9_replace (va_Pc [.ref w, .int (nI j), .ref b] (Pre D cA A (ws))) (va_Qv (fun _ => True) (fun u t => Wd D A ((fun (_ : Unit) => ws.set qa (a, .inl (cA 2, 6, .inr (.inr (.inr (.inr (va_up dr j (some b)))))))) u) t) A) (0) (0) A := by
  refine k_ofv (S := Unit) (F := fun (_ : Unit) => ws.set qa (a, .inl (cA 2, 6, .inr (.inr (.inr (.inr (va_up dr j (some b)))))))) (cc := cX9_replace) (maxL := 3) (by decide) rfl (Nat.le_of_ble_eq_true rfl) ?_
  intro p e s m args below meth c Q hF hini hK hA hG hret ls hl
  have hl : lv_has ls 3 [(0, .ref w), (1, .int (nI j)), (2, .ref b)] := hl
  have hn : n ≤ 6 := hW.2.2.1
  have ho : o < 64 := hW.o64
  obtain ⟨hk8, hf10, qb, hqb⟩ := hb
  refine lv_aload_n hF.1 hF.2.1 dX9_replace_0 rfl (lv_at hl 0 rfl) ?_
  refine lv_iload_n hF.1 hF.2.1 dX9_replace_1 rfl (lv_at hl 1 rfl) ?_
  refine k_ci (r_V (As := [.int (nI j)]) hF hK hA hG (c_X9_has hW) (cwV 1 hF.2.2.2.2 gX9_replace_X9_has rfl rfl rfl (by decide +kernel) ⟨Nat.le_of_ble_eq_true rfl, Nat.le_of_ble_eq_true rfl⟩) qw hW.1 rfl rfl rfl hl.1 rfl (lv_room (Nat.le_of_ble_eq_true rfl)) dX9_replace_2 ⟨Nat.le_of_ble_eq_true rfl, Nat.le_of_ble_eq_true rfl⟩) hG (fun r_2 u_2 H locs hp_2 hG => ?_)
  subst hp_2
  refine lv_if_eq (tgt := 21) hF.1 hF.2.1 dX9_replace_5 (by decide) (fun c_5 => ?_) (fun c_5 => ?_)
  · --
    have n_5 : (inB n (nI j)) = false := b2i_z.mp c_5
    rw [inB_j (by omega) hj] at n_5
    cases n_5
  · --
    have n_5 : (inB n (nI j)) = true := b2i_nz.mp c_5
    refine lv_iload_n hF.1 hF.2.1 dX9_replace_8 rfl (lv_at hl 1 rfl) ?_
    refine lv_bipush (v := (nI 6)) hF.1 hF.2.1 dX9_replace_9 (by decide +kernel) ?_
    refine lv_icmp_ge (tgt := 21) hF.1 hF.2.1 dX9_replace_11 (by decide) (fun c_11 => ?_) (fun c_11 => ?_)
    · --
      have n_11 : 6 ≤ j := (nI_leI (a := 6) (b := j) (by omega) (by omega)).mp c_11
      exact absurd n_11 (by omega)
    · --
      have n_11 : ¬ (6 ≤ j) := fun q => c_11 ((nI_leI (a := 6) (b := j) (by omega) (by omega)).mpr q)
      refine lv_aload_n hF.1 hF.2.1 dX9_replace_14 rfl (lv_at hl 0 rfl) ?_
      refine k_get (C := RX9) (T := TX9) (N := 3) hF hK hG (fun _ h => List.mem_cons_of_mem _ (List.mem_append_right _ h)) qw hW.1 rfl 0 (by decide) (List.mem_of_getElem? (i := 1) rfl) (fun _ h9 => h9) rfl dX9_replace_15 ?_
      refine lv_iload_n hF.1 hF.2.1 dX9_replace_18 rfl (lv_at hl 1 rfl) ?_
      refine lv_aload_n hF.1 hF.2.1 dX9_replace_19 rfl (lv_at hl 2 rfl) ?_
      refine k_astD hF hK hG qa qb hW.2.1 hk8 hqb (j) rfl (by omega) (by omega) dX9_replace_20 (fun H locs hG => ?_)
      exact hret () _ ls _ _ _ _ (by trivial) hG (Nat.le_of_ble_eq_true rfl) (Nat.le_of_ble_eq_true rfl) dX9_replace_21

abbrev rmX9_may : Room := { frames := 3, cells := 0, slots := 0, locals := 66 }
set_option maxHeartbeats 4000000 in
set_option maxRecDepth 100000 in
theorem c_X9_may {l : Launch} {D : va_G} {cA : Nat → ClassId} {A : Nat → Prop} {ws : va_W} {w a qw qa n o : Nat} {dr : Nat → Option Nat} {kd fg : Nat → Nat} (hW : WL cA ws w a qw qa dr n o kd fg) {d : Int32} {st : Nat} (hst : st < 64) : Met l yX9_may wsX9_may rmX9_may (va_Pc [.ref w, .int d, .int (nI st)] (Pre D cA A (ws))) (va_Qi (fun r _ => r = b2i (mayZ n kd fg d st)) (fun u t => Wd D A ((fun (_ : Unit) => ws) u) t) A) (0) (0) A := by
  refine k_ofi (S := Unit) (F := fun (_ : Unit) => ws) (cc := cX9_may) (maxL := 4) (by decide) rfl (Nat.le_of_ble_eq_true rfl) ?_
  intro p e s m args below meth c Q hF hini hK hA hG hret ls hl
  have hl : lv_has ls 4 [(0, .ref w), (1, .int d), (2, .int (nI st))] := hl
  have hn : n ≤ 6 := hW.2.2.1
  have ho : o < 64 := hW.o64
  refine lv_aload_n hF.1 hF.2.1 dX9_may_0 rfl (lv_at hl 0 rfl) ?_
  refine lv_iload_n hF.1 hF.2.1 dX9_may_1 rfl (lv_at hl 1 rfl) ?_
  refine k_cq (r_V (As := [.int d]) hF hK hA hG (c_X9_drawerAt hW) (cwV 1 hF.2.2.2.2 gX9_may_X9_drawerAt rfl rfl rfl (by decide +kernel) ⟨Nat.le_of_ble_eq_true rfl, Nat.le_of_ble_eq_true rfl⟩) qw hW.1 rfl rfl rfl hl.1 rfl (lv_room (Nat.le_of_ble_eq_true rfl)) dX9_may_2 ⟨Nat.le_of_ble_eq_true rfl, Nat.le_of_ble_eq_true rfl⟩) hG (fun r_2 u_2 H locs hp_2 hG => ?_)
  cases r_2 with
  | none =>
    have hz := drA_none hn hW.2.2.2.2 hp_2
    show W p l e rmX9_may s m args below meth c _ _ _ _ Q (F0 m 5 ls (.null :: []))
    refine lv_astore_nN (lv' := [(3, .null), (0, .ref w), (1, .int d), (2, .int (nI st))]) hF.1 hF.2.1 dX9_may_5 rfl hl (by decide) rfl (fun ls hl => ?_)
    refine lv_aload_nN hF.1 hF.2.1 dX9_may_6 rfl (lv_at hl 0 rfl) ?_
    refine lv_ifnullN (tgt := 23) hF.1 hF.2.1 dX9_may_7 (by decide) ?_
    refine lv_iconst (v := (nI 0)) hF.1 hF.2.1 dX9_may_23 (by decide +kernel) ?_
    exact hret _ () _ ls _ _ _ _ (by first | (rw [mayZ_f hz]; rfl) | (rw [mayZ_t hn hj, n_16]; rfl)) (by first | rfl | exact nar_b2i _) hG (Nat.le_of_ble_eq_true rfl) (Nat.le_of_ble_eq_true rfl) dX9_may_24
  | some b =>
    obtain ⟨j, hj, rfl, ej⟩ := drA_some hn hp_2
    obtain ⟨b, e1, hk8, hf10, q, hb⟩ := hW.2.2.2.2.1 j hj
    obtain rfl := Option.some.inj (ej.symm.trans e1)
    have hj6 : j < 6 := by omega
    show W p l e rmX9_may s m args below meth c _ _ _ _ Q (F0 m 5 ls (.ref b :: []))
    refine lv_astore_n (lv' := [(3, .ref b), (0, .ref w), (1, .int (nI j)), (2, .int (nI st))]) hF.1 hF.2.1 dX9_may_5 rfl hl (by decide) rfl (fun ls hl => ?_)
    refine lv_aload_n hF.1 hF.2.1 dX9_may_6 rfl (lv_at hl 0 rfl) ?_
    refine lv_ifnull hF.1 hF.2.1 dX9_may_7 ?_
    refine lv_aload_n hF.1 hF.2.1 dX9_may_10 rfl (lv_at hl 0 rfl) ?_
    refine lv_iload_n hF.1 hF.2.1 dX9_may_11 rfl (lv_at hl 2 rfl) ?_
    refine lv_iload_n hF.1 hF.2.1 dX9_may_12 rfl (lv_at hl 3 rfl) ?_
    have k13 : ∀ (H : Heap) (locs : List Loc), Gd D A (ws) s.heap H locs → W p l e rmX9_may s m args below meth c H locs 0 0 Q (F0 m 16 ls (.int (b2i (mv (kd j) (fg j) j st)) :: [])) := by
      intro H locs hG
      refine lv_if_eq (tgt := 23) hF.1 hF.2.1 dX9_may_16 (by decide) (fun c_16 => ?_) (fun c_16 => ?_)
      · --
        have n_16 : (mv (kd j) (fg j) j st) = false := b2i_z.mp c_16
        refine lv_iconst (v := (nI 0)) hF.1 hF.2.1 dX9_may_23 (by decide +kernel) ?_
        exact hret _ () _ ls _ _ _ _ (by first | (rw [mayZ_f hz]; rfl) | (rw [mayZ_t hn hj, n_16]; rfl)) (by first | rfl | exact nar_b2i _) hG (Nat.le_of_ble_eq_true rfl) (Nat.le_of_ble_eq_true rfl) dX9_may_24
      · --
        have n_16 : (mv (kd j) (fg j) j st) = true := b2i_nz.mp c_16
        refine lv_iconst (v := (nI 1)) hF.1 hF.2.1 dX9_may_19 (by decide +kernel) ?_
        refine lv_goto (tgt := 24) hF.1 hF.2.1 dX9_may_20 (by decide) ?_
        exact hret _ () _ ls _ _ _ _ (by first | (rw [mayZ_f hz]; rfl) | (rw [mayZ_t hn hj, n_16]; rfl)) (by first | rfl | exact nar_b2i _) hG (Nat.le_of_ble_eq_true rfl) (Nat.le_of_ble_eq_true rfl) dX9_may_24
    rcases (show kd j = 0 ∨ kd j = 1 ∨ kd j = 2 ∨ kd j = 3 ∨ kd j = 4 ∨ kd j = 5 ∨ kd j = 6 ∨ kd j = 7 by omega) with ek | ek | ek | ek | ek | ek | ek | ek
    · --
      rw [ek] at hb
      have hb : ws[q]? = some (b, .inr (0, [.int (nI (fg j))])) := hb
      refine k_ci (r_V (As := [.int (nI j), .int (nI st)]) hF hK hA hG (c_X0_moves hj6 hst) (cwV 2 hF.2.2.2.2 gX9_may_X0_moves rfl rfl rfl (by decide +kernel) ⟨Nat.le_of_ble_eq_true rfl, Nat.le_of_ble_eq_true rfl⟩) q hb rfl rfl rfl hl.1 rfl (lv_room (Nat.le_of_ble_eq_true rfl)) dX9_may_13 ⟨Nat.le_of_ble_eq_true rfl, Nat.le_of_ble_eq_true rfl⟩) hG (fun r_13 u_13 H locs hp_13 hG => ?_)
      subst hp_13
      have k := k13 _ _ hG
      rw [ek] at k
      exact k
    · --
      rw [ek] at hb
      have hb : ws[q]? = some (b, .inr (1, [.int (nI (fg j))])) := hb
      refine k_ci (r_U (As := [.int (nI j), .int (nI st)]) hF hK hA hG (c_X1_moves hj6 hst) (va_cwO 2 hF.2.2.2.2 gX9_may_X1_moves_u36X1 rfl rfl rfl (List.mem_of_getElem? (i := 16) rfl) (by decide +kernel) ⟨Nat.le_of_ble_eq_true rfl, Nat.le_of_ble_eq_true rfl⟩) q hb rfl rfl rfl hl.1 rfl (lv_room (Nat.le_of_ble_eq_true rfl)) dX9_may_13 ⟨Nat.le_of_ble_eq_true rfl, Nat.le_of_ble_eq_true rfl⟩) hG (fun r_13 u_13 H locs hp_13 hG => ?_)
      subst hp_13
      have k := k13 _ _ hG
      rw [ek] at k
      exact k
    · --
      rw [ek] at hb
      have hb : ws[q]? = some (b, .inr (7, [.int (nI (fg j))])) := hb
      refine k_ci (r_U (As := [.int (nI j), .int (nI st)]) hF hK hA hG (c_X7_moves hj6 hst) (va_cwO 2 hF.2.2.2.2 gX9_may_X7_moves_u36X7 rfl rfl rfl (List.mem_of_getElem? (i := 16) rfl) (by decide +kernel) ⟨Nat.le_of_ble_eq_true rfl, Nat.le_of_ble_eq_true rfl⟩) q hb rfl rfl rfl hl.1 rfl (lv_room (Nat.le_of_ble_eq_true rfl)) dX9_may_13 ⟨Nat.le_of_ble_eq_true rfl, Nat.le_of_ble_eq_true rfl⟩) hG (fun r_13 u_13 H locs hp_13 hG => ?_)
      subst hp_13
      have k := k13 _ _ hG
      rw [ek] at k
      exact k
    · --
      rw [ek] at hb
      have hb : ws[q]? = some (b, .inr (8, [.int (nI (fg j))])) := hb
      refine k_ci (r_U (As := [.int (nI j), .int (nI st)]) hF hK hA hG (c_X8_moves hj6 hst) (va_cwO 2 hF.2.2.2.2 gX9_may_X8_moves_u36X8 rfl rfl rfl (List.mem_of_getElem? (i := 16) rfl) (by decide +kernel) ⟨Nat.le_of_ble_eq_true rfl, Nat.le_of_ble_eq_true rfl⟩) q hb rfl rfl rfl hl.1 rfl (lv_room (Nat.le_of_ble_eq_true rfl)) dX9_may_13 ⟨Nat.le_of_ble_eq_true rfl, Nat.le_of_ble_eq_true rfl⟩) hG (fun r_13 u_13 H locs hp_13 hG => ?_)
      subst hp_13
      have k := k13 _ _ hG
      rw [ek] at k
      exact k
    · --
      rw [ek] at hb
      have hb : ws[q]? = some (b, .inr (5, [.int (nI (fg j))])) := hb
      refine k_ci (r_U (As := [.int (nI j), .int (nI st)]) hF hK hA hG (c_X5_moves hj6 hst hf10 hb) (va_cwO 2 hF.2.2.2.2 gX9_may_X5_moves_u36X5 rfl rfl rfl (List.mem_of_getElem? (i := 16) rfl) (by decide +kernel) ⟨Nat.le_of_ble_eq_true rfl, Nat.le_of_ble_eq_true rfl⟩) q hb rfl rfl rfl hl.1 rfl (lv_room (Nat.le_of_ble_eq_true rfl)) dX9_may_13 ⟨Nat.le_of_ble_eq_true rfl, Nat.le_of_ble_eq_true rfl⟩) hG (fun r_13 u_13 H locs hp_13 hG => ?_)
      subst hp_13
      have k := k13 _ _ hG
      rw [ek] at k
      exact k
    · --
      rw [ek] at hb
      have hb : ws[q]? = some (b, .inr (3, [.int (nI (fg j))])) := hb
      refine k_ci (r_U (As := [.int (nI j), .int (nI st)]) hF hK hA hG (c_X3_moves hj6 hst hf10 hb) (va_cwO 2 hF.2.2.2.2 gX9_may_X3_moves_u36X3 rfl rfl rfl (List.mem_of_getElem? (i := 16) rfl) (by decide +kernel) ⟨Nat.le_of_ble_eq_true rfl, Nat.le_of_ble_eq_true rfl⟩) q hb rfl rfl rfl hl.1 rfl (lv_room (Nat.le_of_ble_eq_true rfl)) dX9_may_13 ⟨Nat.le_of_ble_eq_true rfl, Nat.le_of_ble_eq_true rfl⟩) hG (fun r_13 u_13 H locs hp_13 hG => ?_)
      subst hp_13
      have k := k13 _ _ hG
      rw [ek] at k
      exact k
    · --
      rw [ek] at hb
      have hb : ws[q]? = some (b, .inr (4, [.int (nI (fg j))])) := hb
      refine k_ci (r_U (As := [.int (nI j), .int (nI st)]) hF hK hA hG (c_X4_moves hj6 hst hf10 hb) (va_cwO 2 hF.2.2.2.2 gX9_may_X4_moves_u36X4 rfl rfl rfl (List.mem_of_getElem? (i := 16) rfl) (by decide +kernel) ⟨Nat.le_of_ble_eq_true rfl, Nat.le_of_ble_eq_true rfl⟩) q hb rfl rfl rfl hl.1 rfl (lv_room (Nat.le_of_ble_eq_true rfl)) dX9_may_13 ⟨Nat.le_of_ble_eq_true rfl, Nat.le_of_ble_eq_true rfl⟩) hG (fun r_13 u_13 H locs hp_13 hG => ?_)
      subst hp_13
      have k := k13 _ _ hG
      rw [ek] at k
      exact k
    · --
      rw [ek] at hb
      have hb : ws[q]? = some (b, .inr (2, [.int (nI (fg j))])) := hb
      refine k_ci (r_U (As := [.int (nI j), .int (nI st)]) hF hK hA hG (c_X2_moves hj6 hst hb) (va_cwO 2 hF.2.2.2.2 gX9_may_X2_moves_u36X2 rfl rfl rfl (List.mem_of_getElem? (i := 16) rfl) (by decide +kernel) ⟨Nat.le_of_ble_eq_true rfl, Nat.le_of_ble_eq_true rfl⟩) q hb rfl rfl rfl hl.1 rfl (lv_room (Nat.le_of_ble_eq_true rfl)) dX9_may_13 ⟨Nat.le_of_ble_eq_true rfl, Nat.le_of_ble_eq_true rfl⟩) hG (fun r_13 u_13 H locs hp_13 hG => ?_)
      subst hp_13
      have k := k13 _ _ hG
      rw [ek] at k
      exact k

abbrev rmX9_mayBits : Room := { frames := 4, cells := 0, slots := 0, locals := 89 }
set_option maxHeartbeats 4000000 in
set_option maxRecDepth 100000 in
theorem c_X9_mayBits {l : Launch} {D : va_G} {cA : Nat → ClassId} {A : Nat → Prop} {ws : va_W} {w a qw qa n o : Nat} {dr : Nat → Option Nat} {kd fg : Nat → Nat} (hW : WL cA ws w a qw qa dr n o kd fg) {st : Nat} (hst : st < 64) : Met l yX9_mayBits wsX9_mayBits rmX9_mayBits (va_Pc [.ref w, .int (nI st)] (Pre D cA A (ws))) (va_Qi (fun r _ => r = nI (mayU kd fg st n)) (fun u t => Wd D A ((fun (_ : Unit) => ws) u) t) A) (0) (0) A := by
  refine k_ofi (S := Unit) (F := fun (_ : Unit) => ws) (cc := cX9_mayBits) (maxL := 4) (by decide) rfl (Nat.le_of_ble_eq_true rfl) ?_
  intro p e s m args below meth c Q hF hini hK hA hG hret ls hl
  have hl : lv_has ls 4 [(0, .ref w), (1, .int (nI st))] := hl
  have hn : n ≤ 6 := hW.2.2.1
  have ho : o < 64 := hW.o64
  refine lv_iconst (v := (nI 0)) hF.1 hF.2.1 dX9_mayBits_0 (by decide +kernel) ?_
  refine lv_istore_n (lv' := [(2, .int (nI 0)), (0, .ref w), (1, .int (nI st))]) hF.1 hF.2.1 dX9_mayBits_1 rfl hl (by decide) rfl (fun ls hl => ?_)
  refine lv_iconst (v := (nI 0)) hF.1 hF.2.1 dX9_mayBits_2 (by decide +kernel) ?_
  refine lv_istore_n (lv' := [(3, .int (nI 0)), (2, .int (nI 0)), (0, .ref w), (1, .int (nI st))]) hF.1 hF.2.1 dX9_mayBits_3 rfl hl (by decide) rfl (fun ls hl => ?_)
  have lp4 : ∀ (fuel : Nat), ∀ (j : Nat), (hj : j ≤ n) → (n - j) < fuel → ∀ (H : Heap) (locs : List Loc), Gd D A (ws) s.heap H locs → ∀ ls : Array Slot, lv_has ls 4 [(0, .ref w), (1, .int (nI st)), (2, .int (nI (mayU kd fg st j))), (3, .int (nI j))] → W p l e rmX9_mayBits s m args below meth c H locs (0) (0) Q (F0 m 4 ls []) := by
    intro fuel
    induction fuel with
    | zero => intro j hj hmu; exact absurd hmu (Nat.not_lt_zero _)
    | succ fuel ih4 =>
      intro j hj hmu H locs hG ls hl
      refine lv_iload_n hF.1 hF.2.1 dX9_mayBits_4 rfl (lv_at hl 3 rfl) ?_
      refine lv_aload_n hF.1 hF.2.1 dX9_mayBits_5 rfl (lv_at hl 0 rfl) ?_
      refine k_get (C := RX9) (T := TX9) (N := 3) hF hK hG (fun _ h => List.mem_cons_of_mem _ (List.mem_append_left _ (List.mem_append_left _ (List.mem_append_left _ (List.mem_append_left _ (List.mem_append_left _ (List.mem_append_left _ (List.mem_append_left _ (List.mem_append_left _ (List.mem_append_right _ h)))))))))) qw hW.1 rfl 1 (by decide) (List.mem_of_getElem? (i := 1) rfl) (fun _ h9 => h9) rfl dX9_mayBits_6 ?_
      refine lv_icmp_ge (tgt := 33) hF.1 hF.2.1 dX9_mayBits_9 (by decide) (fun c_9 => ?_) (fun c_9 => ?_)
      · --
        have n_9 : n ≤ j := (nI_leI (a := n) (b := j) (by omega) (by omega)).mp c_9
        refine lv_iload_n hF.1 hF.2.1 dX9_mayBits_33 rfl (lv_at hl 2 rfl) ?_
        exact hret _ () _ ls _ _ _ _ (by rw [show j = n by omega]) (by first | rfl | exact nar_b2i _) hG (Nat.le_of_ble_eq_true rfl) (Nat.le_of_ble_eq_true rfl) dX9_mayBits_34
      · --
        have n_9 : ¬ (n ≤ j) := fun q => c_9 ((nI_leI (a := n) (b := j) (by omega) (by omega)).mpr q)
        refine lv_aload_n hF.1 hF.2.1 dX9_mayBits_12 rfl (lv_at hl 0 rfl) ?_
        refine lv_iload_n hF.1 hF.2.1 dX9_mayBits_13 rfl (lv_at hl 3 rfl) ?_
        refine lv_iload_n hF.1 hF.2.1 dX9_mayBits_14 rfl (lv_at hl 1 rfl) ?_
        refine k_ci (r_V (As := [.int (nI j), .int (nI st)]) hF hK hA hG (c_X9_may hW hst) (cwV 2 hF.2.2.2.2 gX9_mayBits_X9_may rfl rfl rfl (by decide +kernel) ⟨Nat.le_of_ble_eq_true rfl, Nat.le_of_ble_eq_true rfl⟩) qw hW.1 rfl rfl rfl hl.1 rfl (lv_room (Nat.le_of_ble_eq_true rfl)) dX9_mayBits_15 ⟨Nat.le_of_ble_eq_true rfl, Nat.le_of_ble_eq_true rfl⟩) hG (fun r_15 u_15 H locs hp_15 hG => ?_)
        subst hp_15
        refine lv_if_eq (tgt := 27) hF.1 hF.2.1 dX9_mayBits_18 (by decide) (fun c_18 => ?_) (fun c_18 => ?_)
        · --
          have n_18 : (mayZ n kd fg (nI j) st) = false := b2i_z.mp c_18
          refine lv_iinc (v := (nI (j + 1))) (lv' := [(3, .int (nI (j + 1))), (0, .ref w), (1, .int (nI st)), (2, .int (nI (mayU kd fg st j)))]) hF.1 hF.2.1 dX9_mayBits_27 hl (k := 3) rfl (nI_inc _ _) (by decide) rfl (fun ls hl => ?_)
          refine lv_goto (tgt := 4) hF.1 hF.2.1 dX9_mayBits_30 (by decide) ?_
          exact ih4 (j + 1) (by omega) (by omega) _ _ hG ls (lv_sub hl [1, 2, 3, 0] (by first | (rw [mayU_t hn (by omega) n_18]; rfl) | (rw [mayU_f hn (by omega) n_18]; rfl)))
        · --
          have n_18 : (mayZ n kd fg (nI j) st) = true := b2i_nz.mp c_18
          refine lv_iload_n hF.1 hF.2.1 dX9_mayBits_21 rfl (lv_at hl 2 rfl) ?_
          refine lv_iconst (v := (nI 1)) hF.1 hF.2.1 dX9_mayBits_22 (by decide +kernel) ?_
          refine lv_iload_n hF.1 hF.2.1 dX9_mayBits_23 rfl (lv_at hl 3 rfl) ?_
          refine lv_ishl hF.1 hF.2.1 dX9_mayBits_24 ?_
          rw [shl_1 (by omega)]
          refine lv_ior hF.1 hF.2.1 dX9_mayBits_25 ?_
          rw [nx_or]
          refine lv_istore_n (lv' := [(2, .int (nI (mayU kd fg st j ||| 2 ^ j))), (0, .ref w), (1, .int (nI st)), (3, .int (nI j))]) hF.1 hF.2.1 dX9_mayBits_26 rfl hl (by decide) rfl (fun ls hl => ?_)
          refine lv_iinc (v := (nI (j + 1))) (lv' := [(3, .int (nI (j + 1))), (2, .int (nI (mayU kd fg st j ||| 2 ^ j))), (0, .ref w), (1, .int (nI st))]) hF.1 hF.2.1 dX9_mayBits_27 hl (k := 3) rfl (nI_inc _ _) (by decide) rfl (fun ls hl => ?_)
          refine lv_goto (tgt := 4) hF.1 hF.2.1 dX9_mayBits_30 (by decide) ?_
          exact ih4 (j + 1) (by omega) (by omega) _ _ hG ls (lv_sub hl [2, 3, 1, 0] (by first | (rw [mayU_t hn (by omega) n_18]; rfl) | (rw [mayU_f hn (by omega) n_18]; rfl)))
  exact lp4 _ (0) (by omega) (Nat.lt_succ_self _) _ _ hG ls (lv_sub hl [2, 3, 1, 0] rfl)

abbrev rmX9_pulled : Room := { frames := 4, cells := 0, slots := 0, locals := 89 }
set_option maxHeartbeats 4000000 in
set_option maxRecDepth 100000 in
theorem c_X9_pulled {l : Launch} {D : va_G} {cA : Nat → ClassId} {A : Nat → Prop} {ws : va_W} {w a qw qa n o : Nat} {dr : Nat → Option Nat} {kd fg : Nat → Nat} (hW : WL cA ws w a qw qa dr n o kd fg) {d : Int32} : Met l yX9_pulled wsX9_pulled rmX9_pulled (va_Pc [.ref w, .int d] (Pre D cA A (ws))) (va_Qi (fun r _ => r = b2i (mayZ n kd fg d o)) (fun u t => Wd D A ((fun (_ : Unit) => ws.set qw (w, .inr (9, [.ref a, .int (nI n), .int (nI (pullO n kd fg d o))]))) u) t) A) (0) (0) A := by
  refine k_ofi (S := Unit) (F := fun (_ : Unit) => ws.set qw (w, .inr (9, [.ref a, .int (nI n), .int (nI (pullO n kd fg d o))]))) (cc := cX9_pulled) (maxL := 2) (by decide) rfl (Nat.le_of_ble_eq_true rfl) ?_
  intro p e s m args below meth c Q hF hini hK hA hG hret ls hl
  have hl : lv_has ls 2 [(0, .ref w), (1, .int d)] := hl
  have hn : n ≤ 6 := hW.2.2.1
  have ho : o < 64 := hW.o64
  refine lv_aload_n hF.1 hF.2.1 dX9_pulled_0 rfl (lv_at hl 0 rfl) ?_
  refine lv_iload_n hF.1 hF.2.1 dX9_pulled_1 rfl (lv_at hl 1 rfl) ?_
  refine lv_aload_n hF.1 hF.2.1 dX9_pulled_2 rfl (lv_at hl 0 rfl) ?_
  refine k_get (C := RX9) (T := TX9) (N := 3) hF hK hG (fun _ h => List.mem_cons_of_mem _ (List.mem_append_left _ (List.mem_append_left _ (List.mem_append_left _ (List.mem_append_left _ (List.mem_append_left _ (List.mem_append_left _ (List.mem_append_left _ (List.mem_append_left _ (List.mem_append_right _ h)))))))))) qw hW.1 rfl 2 (by decide) (List.mem_of_getElem? (i := 1) rfl) (fun _ h9 => h9) rfl dX9_pulled_3 ?_
  refine k_ci (r_V (As := [.int d, .int (nI o)]) hF hK hA hG (c_X9_may hW hW.o64) (cwV 2 hF.2.2.2.2 gX9_pulled_X9_may rfl rfl rfl (by decide +kernel) ⟨Nat.le_of_ble_eq_true rfl, Nat.le_of_ble_eq_true rfl⟩) qw hW.1 rfl rfl rfl hl.1 rfl (lv_room (Nat.le_of_ble_eq_true rfl)) dX9_pulled_6 ⟨Nat.le_of_ble_eq_true rfl, Nat.le_of_ble_eq_true rfl⟩) hG (fun r_6 u_6 H locs hp_6 hG => ?_)
  subst hp_6
  refine lv_if_ne (tgt := 14) hF.1 hF.2.1 dX9_pulled_9 (by decide) (fun c_9 => ?_) (fun c_9 => ?_)
  · --
    have n_9 : (mayZ n kd fg d o) = true := b2i_nz.mp c_9
    obtain ⟨j, hj, rfl, -⟩ := mayZ_ex hn n_9
    refine lv_aload_n hF.1 hF.2.1 dX9_pulled_14 rfl (lv_at hl 0 rfl) ?_
    refine lv_aload_n hF.1 hF.2.1 dX9_pulled_15 rfl (lv_at hl 0 rfl) ?_
    refine k_get (C := RX9) (T := TX9) (N := 3) hF hK hG (fun _ h => List.mem_cons_of_mem _ (List.mem_append_left _ (List.mem_append_left _ (List.mem_append_left _ (List.mem_append_left _ (List.mem_append_left _ (List.mem_append_left _ (List.mem_append_left _ (List.mem_append_left _ (List.mem_append_right _ h)))))))))) qw hW.1 rfl 2 (by decide) (List.mem_of_getElem? (i := 1) rfl) (fun _ h9 => h9) rfl dX9_pulled_16 ?_
    refine lv_iload_n hF.1 hF.2.1 dX9_pulled_19 rfl (lv_at hl 1 rfl) ?_
    refine k_ci (r_SN (As := [.int (nI o), .int (nI j)]) hF hK hA hG (c_X11_turned (by omega)) ⟨(va_cnB 2 hF.2.2.2.2 gX9_pulled_X11_turned_n43 rfl rfl rfl (hK.2.2.2.2 _ (List.mem_of_getElem? (i := 6) rfl)) (hF.2.2.2.2 _ (List.mem_of_getElem? (i := 23) rfl)) (by decide +kernel) ⟨Nat.le_of_ble_eq_true rfl, Nat.le_of_ble_eq_true rfl⟩), hF.2.2.2.2 _ (List.mem_of_getElem? (i := 77) rfl), trivial⟩ rfl hl.1 rfl (lv_room (Nat.le_of_ble_eq_true rfl)) dX9_pulled_20 ⟨Nat.le_of_ble_eq_true rfl, Nat.le_of_ble_eq_true rfl⟩) hG (fun r_20 u_20 H locs hp_20 hG => ?_)
    subst hp_20
    refine k_put (C := RX9) (T := TX9) (N := 3) hF hK hG (fun _ h => List.mem_cons_of_mem _ (List.mem_append_left _ (List.mem_append_left _ (List.mem_append_left _ (List.mem_append_left _ (List.mem_append_left _ (List.mem_append_left _ (List.mem_append_left _ (List.mem_append_left _ (List.mem_append_right _ h)))))))))) tyX9 tyX9_ok nmX9 qw hW.1 rfl 2 (by decide) (List.mem_of_getElem? (i := 1) rfl) (fun _ h9 => h9) rfl rfl rfl (Nat.le_of_ble_eq_true rfl) dX9_pulled_23 (fun H locs hG => ?_)
    refine lv_iconst (v := (nI 1)) hF.1 hF.2.1 dX9_pulled_26 (by decide +kernel) ?_
    have hG : Gd D A (ws.set qw (w, .inr (9, [.ref a, .int (nI n), .int (nI (pullO n kd fg (nI j) o))]))) s.heap H locs := by rw [pullO_t hn hj n_9]; exact hG
    exact hret _ () _ ls _ _ _ _ (by rw [n_9]; rfl) (by first | rfl | exact nar_b2i _) hG (Nat.le_of_ble_eq_true rfl) (Nat.le_of_ble_eq_true rfl) dX9_pulled_27
  · --
    have n_9 : (mayZ n kd fg d o) = false := b2i_z.mp c_9
    refine lv_iconst (v := (nI 0)) hF.1 hF.2.1 dX9_pulled_12 (by decide +kernel) ?_
    have hG : Gd D A (ws.set qw (w, .inr (9, [.ref a, .int (nI n), .int (nI (pullO n kd fg d o))]))) s.heap H locs := by rw [pullO_f n_9, set_same hW.1]; exact hG
    exact hret _ () _ ls _ _ _ _ (by rw [n_9]; rfl) (by first | rfl | exact nar_b2i _) hG (Nat.le_of_ble_eq_true rfl) (Nat.le_of_ble_eq_true rfl) dX9_pulled_13

abbrev rmX9_becomes : Room := { frames := 1, cells := 0, slots := 0, locals := 21 }
set_option maxHeartbeats 4000000 in
set_option maxRecDepth 100000 in
theorem c_X9_becomes {l : Launch} {D : va_G} {cA : Nat → ClassId} {A : Nat → Prop} {ws : va_W} {w a qw qa n o : Nat} {dr : Nat → Option Nat} {kd fg : Nat → Nat} (hW : WL cA ws w a qw qa dr n o kd fg) {d : Int32} {op : Bool} : Met l yX9_becomes wsX9_becomes rmX9_becomes (va_Pc [.ref w, .int d, .int (b2i (op))] (Pre D cA A (ws))) (va_Qi (fun r _ => r = b2i (inB n d)) (fun u t => Wd D A ((fun (_ : Unit) => ws.set qw (w, .inr (9, [.ref a, .int (nI n), .int (nI (becO n d op o))]))) u) t) A) (0) (0) A := by
  refine k_ofi (S := Unit) (F := fun (_ : Unit) => ws.set qw (w, .inr (9, [.ref a, .int (nI n), .int (nI (becO n d op o))]))) (cc := cX9_becomes) (maxL := 3) (by decide) rfl (Nat.le_of_ble_eq_true rfl) ?_
  intro p e s m args below meth c Q hF hini hK hA hG hret ls hl
  have hl : lv_has ls 3 [(0, .ref w), (1, .int d), (2, .int (b2i (op)))] := hl
  have hn : n ≤ 6 := hW.2.2.1
  have ho : o < 64 := hW.o64
  refine lv_aload_n hF.1 hF.2.1 dX9_becomes_0 rfl (lv_at hl 0 rfl) ?_
  refine lv_iload_n hF.1 hF.2.1 dX9_becomes_1 rfl (lv_at hl 1 rfl) ?_
  refine k_ci (r_V (As := [.int d]) hF hK hA hG (c_X9_has hW) (cwV 1 hF.2.2.2.2 gX9_becomes_X9_has rfl rfl rfl (by decide +kernel) ⟨Nat.le_of_ble_eq_true rfl, Nat.le_of_ble_eq_true rfl⟩) qw hW.1 rfl rfl rfl hl.1 rfl (lv_room (Nat.le_of_ble_eq_true rfl)) dX9_becomes_2 ⟨Nat.le_of_ble_eq_true rfl, Nat.le_of_ble_eq_true rfl⟩) hG (fun r_2 u_2 H locs hp_2 hG => ?_)
  subst hp_2
  refine lv_if_ne (tgt := 10) hF.1 hF.2.1 dX9_becomes_5 (by decide) (fun c_5 => ?_) (fun c_5 => ?_)
  · --
    have n_5 : (inB n d) = true := b2i_nz.mp c_5
    obtain ⟨j, hj, rfl⟩ := inB_ex (by omega) n_5
    refine lv_aload_n hF.1 hF.2.1 dX9_becomes_10 rfl (lv_at hl 0 rfl) ?_
    refine lv_iload_n hF.1 hF.2.1 dX9_becomes_11 rfl (lv_at hl 2 rfl) ?_
    refine lv_if_eq (tgt := 26) hF.1 hF.2.1 dX9_becomes_12 (by decide) (fun c_12 => ?_) (fun c_12 => ?_)
    · --
      have n_12 : (op) = false := b2i_z.mp c_12
      refine lv_aload_n hF.1 hF.2.1 dX9_becomes_26 rfl (lv_at hl 0 rfl) ?_
      refine k_get (C := RX9) (T := TX9) (N := 3) hF hK hG (fun _ h => List.mem_cons_of_mem _ (List.mem_append_right _ h)) qw hW.1 rfl 2 (by decide) (List.mem_of_getElem? (i := 1) rfl) (fun _ h9 => h9) rfl dX9_becomes_27 ?_
      refine lv_iconst (v := (nI 1)) hF.1 hF.2.1 dX9_becomes_30 (by decide +kernel) ?_
      refine lv_iload_n hF.1 hF.2.1 dX9_becomes_31 rfl (lv_at hl 1 rfl) ?_
      refine lv_ishl hF.1 hF.2.1 dX9_becomes_32 ?_
      refine lv_iconst (v := (-1)) hF.1 hF.2.1 dX9_becomes_33 (by decide +kernel) ?_
      refine lv_ixor hF.1 hF.2.1 dX9_becomes_34 ?_
      refine lv_iand hF.1 hF.2.1 dX9_becomes_35 ?_
      rw [clr_b ho (by omega)]
      refine k_put (C := RX9) (T := TX9) (N := 3) hF hK hG (fun _ h => List.mem_cons_of_mem _ (List.mem_append_right _ h)) tyX9 tyX9_ok nmX9 qw hW.1 rfl 2 (by decide) (List.mem_of_getElem? (i := 1) rfl) (fun _ h9 => h9) rfl rfl rfl (Nat.le_of_ble_eq_true rfl) dX9_becomes_36 (fun H locs hG => ?_)
      refine lv_iconst (v := (nI 1)) hF.1 hF.2.1 dX9_becomes_39 (by decide +kernel) ?_
      have hG : Gd D A (ws.set qw (w, .inr (9, [.ref a, .int (nI n), .int (nI (becO n (nI j) op o))]))) s.heap H locs := by first | (rw [n_12, becO_s hn hj]; exact hG) | (rw [n_12, becO_t hn hj]; exact hG)
      exact hret _ () _ ls _ _ _ _ (by rw [n_5]; rfl) (by first | rfl | exact nar_b2i _) hG (Nat.le_of_ble_eq_true rfl) (Nat.le_of_ble_eq_true rfl) dX9_becomes_40
    · --
      have n_12 : (op) = true := b2i_nz.mp c_12
      refine lv_aload_n hF.1 hF.2.1 dX9_becomes_15 rfl (lv_at hl 0 rfl) ?_
      refine k_get (C := RX9) (T := TX9) (N := 3) hF hK hG (fun _ h => List.mem_cons_of_mem _ (List.mem_append_right _ h)) qw hW.1 rfl 2 (by decide) (List.mem_of_getElem? (i := 1) rfl) (fun _ h9 => h9) rfl dX9_becomes_16 ?_
      refine lv_iconst (v := (nI 1)) hF.1 hF.2.1 dX9_becomes_19 (by decide +kernel) ?_
      refine lv_iload_n hF.1 hF.2.1 dX9_becomes_20 rfl (lv_at hl 1 rfl) ?_
      refine lv_ishl hF.1 hF.2.1 dX9_becomes_21 ?_
      rw [shl_1 (by omega)]
      refine lv_ior hF.1 hF.2.1 dX9_becomes_22 ?_
      rw [nx_or]
      refine lv_goto (tgt := 36) hF.1 hF.2.1 dX9_becomes_23 (by decide) ?_
      refine k_put (C := RX9) (T := TX9) (N := 3) hF hK hG (fun _ h => List.mem_cons_of_mem _ (List.mem_append_right _ h)) tyX9 tyX9_ok nmX9 qw hW.1 rfl 2 (by decide) (List.mem_of_getElem? (i := 1) rfl) (fun _ h9 => h9) rfl rfl rfl (Nat.le_of_ble_eq_true rfl) dX9_becomes_36 (fun H locs hG => ?_)
      refine lv_iconst (v := (nI 1)) hF.1 hF.2.1 dX9_becomes_39 (by decide +kernel) ?_
      have hG : Gd D A (ws.set qw (w, .inr (9, [.ref a, .int (nI n), .int (nI (becO n (nI j) op o))]))) s.heap H locs := by first | (rw [n_12, becO_s hn hj]; exact hG) | (rw [n_12, becO_t hn hj]; exact hG)
      exact hret _ () _ ls _ _ _ _ (by rw [n_5]; rfl) (by first | rfl | exact nar_b2i _) hG (Nat.le_of_ble_eq_true rfl) (Nat.le_of_ble_eq_true rfl) dX9_becomes_40
  · --
    have n_5 : (inB n d) = false := b2i_z.mp c_5
    refine lv_iconst (v := (nI 0)) hF.1 hF.2.1 dX9_becomes_8 (by decide +kernel) ?_
    have hG : Gd D A (ws.set qw (w, .inr (9, [.ref a, .int (nI n), .int (nI (becO n d op o))]))) s.heap H locs := by rw [becO_f n_5, set_same hW.1]; exact hG
    exact hret _ () _ ls _ _ _ _ (by rw [n_5]; rfl) (by first | rfl | exact nar_b2i _) hG (Nat.le_of_ble_eq_true rfl) (Nat.le_of_ble_eq_true rfl) dX9_becomes_9

abbrev rmX9_howManyOf : Room := { frames := 2, cells := 0, slots := 0, locals := 42 }
set_option maxHeartbeats 4000000 in
set_option maxRecDepth 100000 in
theorem c_X9_howManyOf {l : Launch} {D : va_G} {cA : Nat → ClassId} {A : Nat → Prop} {ws : va_W} {w a qw qa n o : Nat} {dr : Nat → Option Nat} {kd fg : Nat → Nat} (hW : WL cA ws w a qw qa dr n o kd fg) {k : Nat} (hk : k < 8) : Met l yX9_howManyOf wsX9_howManyOf rmX9_howManyOf (va_Pc [.ref w, .int (nI k)] (Pre D cA A (ws))) (va_Qi (fun r _ => r = nI (howU kd k n)) (fun u t => Wd D A ((fun (_ : Unit) => ws) u) t) A) (0) (0) A := by
  refine k_ofi (S := Unit) (F := fun (_ : Unit) => ws) (cc := cX9_howManyOf) (maxL := 5) (by decide) rfl (Nat.le_of_ble_eq_true rfl) ?_
  intro p e s m args below meth c Q hF hini hK hA hG hret ls hl
  have hl : lv_has ls 5 [(0, .ref w), (1, .int (nI k))] := hl
  have hn : n ≤ 6 := hW.2.2.1
  have ho : o < 64 := hW.o64
  refine lv_iconst (v := (nI 0)) hF.1 hF.2.1 dX9_howManyOf_0 (by decide +kernel) ?_
  refine lv_istore_n (lv' := [(2, .int (nI 0)), (0, .ref w), (1, .int (nI k))]) hF.1 hF.2.1 dX9_howManyOf_1 rfl hl (by decide) rfl (fun ls hl => ?_)
  refine lv_iconst (v := (nI 0)) hF.1 hF.2.1 dX9_howManyOf_2 (by decide +kernel) ?_
  refine lv_istore_n (lv' := [(3, .int (nI 0)), (2, .int (nI 0)), (0, .ref w), (1, .int (nI k))]) hF.1 hF.2.1 dX9_howManyOf_3 rfl hl (by decide) rfl (fun ls hl => ?_)
  have lp4 : ∀ (fuel : Nat), ∀ (j : Nat), (hj : j ≤ n) → (n - j) < fuel → ∀ (H : Heap) (locs : List Loc), Gd D A (ws) s.heap H locs → ∀ ls : Array Slot, lv_has ls 5 [(0, .ref w), (1, .int (nI k)), (2, .int (nI (howU kd k j))), (3, .int (nI j))] → W p l e rmX9_howManyOf s m args below meth c H locs (0) (0) Q (F0 m 4 ls []) := by
    intro fuel
    induction fuel with
    | zero => intro j hj hmu; exact absurd hmu (Nat.not_lt_zero _)
    | succ fuel ih4 =>
      intro j hj hmu H locs hG ls hl
      refine lv_iload_n hF.1 hF.2.1 dX9_howManyOf_4 rfl (lv_at hl 3 rfl) ?_
      refine lv_aload_n hF.1 hF.2.1 dX9_howManyOf_5 rfl (lv_at hl 0 rfl) ?_
      refine k_get (C := RX9) (T := TX9) (N := 3) hF hK hG (fun _ h => List.mem_cons_of_mem _ (List.mem_append_right _ h)) qw hW.1 rfl 1 (by decide) (List.mem_of_getElem? (i := 1) rfl) (fun _ h9 => h9) rfl dX9_howManyOf_6 ?_
      refine lv_icmp_ge (tgt := 42) hF.1 hF.2.1 dX9_howManyOf_9 (by decide) (fun c_9 => ?_) (fun c_9 => ?_)
      · --
        have n_9 : n ≤ j := (nI_leI (a := n) (b := j) (by omega) (by omega)).mp c_9
        refine lv_iload_n hF.1 hF.2.1 dX9_howManyOf_42 rfl (lv_at hl 2 rfl) ?_
        exact hret _ () _ ls _ _ _ _ (by rw [show j = n by omega]) (by first | rfl | exact nar_b2i _) hG (Nat.le_of_ble_eq_true rfl) (Nat.le_of_ble_eq_true rfl) dX9_howManyOf_43
      · --
        have n_9 : ¬ (n ≤ j) := fun q => c_9 ((nI_leI (a := n) (b := j) (by omega) (by omega)).mpr q)
        refine lv_aload_n hF.1 hF.2.1 dX9_howManyOf_12 rfl (lv_at hl 0 rfl) ?_
        refine lv_iload_n hF.1 hF.2.1 dX9_howManyOf_13 rfl (lv_at hl 3 rfl) ?_
        refine k_cq (r_V (As := [.int (nI j)]) hF hK hA hG (c_X9_drawerAt hW) (cwV 1 hF.2.2.2.2 gX9_howManyOf_X9_drawerAt rfl rfl rfl (by decide +kernel) ⟨Nat.le_of_ble_eq_true rfl, Nat.le_of_ble_eq_true rfl⟩) qw hW.1 rfl rfl rfl hl.1 rfl (lv_room (Nat.le_of_ble_eq_true rfl)) dX9_howManyOf_14 ⟨Nat.le_of_ble_eq_true rfl, Nat.le_of_ble_eq_true rfl⟩) hG (fun r_14 u_14 H locs hp_14 hG => ?_)
        cases r_14 with
        | none =>
          have hz := drA_none hn hW.2.2.2.2 hp_14
          rw [inB_j (by omega) (by omega)] at hz
          cases hz
        | some b =>
          obtain ⟨j2, hj2, ej2, ej⟩ := drA_some hn hp_14
          obtain rfl : j = j2 := (nI_eq (by omega) (by omega)).mp ej2
          obtain ⟨b, e1, hk8, hf10, q, hb⟩ := hW.2.2.2.2.1 j hj2
          obtain rfl := Option.some.inj (ej.symm.trans e1)
          show W p l e rmX9_howManyOf s m args below meth c _ _ _ _ Q (F0 m 17 ls (.ref b :: []))
          refine lv_astore (lv' := [(4, .ref b), (0, .ref w), (1, .int (nI k)), (2, .int (nI (howU kd k j))), (3, .int (nI j))]) hF.1 hF.2.1 dX9_howManyOf_17 hl (by decide) rfl (fun ls hl => ?_)
          refine lv_aload hF.1 hF.2.1 dX9_howManyOf_19 (lv_at hl 0 rfl) ?_
          refine lv_ifnull hF.1 hF.2.1 dX9_howManyOf_21 ?_
          refine lv_aload hF.1 hF.2.1 dX9_howManyOf_24 (lv_at hl 0 rfl) ?_
          have k26 : ∀ (H : Heap) (locs : List Loc), Gd D A (ws) s.heap H locs → W p l e rmX9_howManyOf s m args below meth c H locs 0 0 Q (F0 m 29 ls (.int (nI (kd j)) :: [])) := by
            intro H locs hG
            refine lv_iload_n hF.1 hF.2.1 dX9_howManyOf_29 rfl (lv_at hl 2 rfl) ?_
            refine lv_icmp_ne (tgt := 36) hF.1 hF.2.1 dX9_howManyOf_30 (by decide) (fun c_30 => ?_) (fun c_30 => ?_)
            · --
              have n_30 : ¬ (kd j = k) := fun q => c_30 ((nI_eq (a := kd j) (b := k) (by omega) (by omega)).mpr q)
              refine lv_iinc (v := (nI (j + 1))) (lv' := [(3, .int (nI (j + 1))), (4, .ref b), (0, .ref w), (1, .int (nI k)), (2, .int (nI (howU kd k j)))]) hF.1 hF.2.1 dX9_howManyOf_36 hl (k := 4) rfl (nI_inc _ _) (by decide) rfl (fun ls hl => ?_)
              refine lv_goto (tgt := 4) hF.1 hF.2.1 dX9_howManyOf_39 (by decide) ?_
              exact ih4 (j + 1) (by omega) (by omega) _ _ hG ls (lv_sub hl [2, 3, 4, 0] (by first | (rw [howU_t n_30]; rfl) | (rw [howU_f n_30]; rfl)))
            · --
              have n_30 : kd j = k := (nI_eq (a := kd j) (b := k) (by omega) (by omega)).mp c_30
              refine lv_iinc (v := (nI (howU kd k j + 1))) (lv' := [(2, .int (nI (howU kd k j + 1))), (4, .ref b), (0, .ref w), (1, .int (nI k)), (3, .int (nI j))]) hF.1 hF.2.1 dX9_howManyOf_33 hl (k := 3) rfl (nI_inc _ _) (by decide) rfl (fun ls hl => ?_)
              refine lv_iinc (v := (nI (j + 1))) (lv' := [(3, .int (nI (j + 1))), (2, .int (nI (howU kd k j + 1))), (4, .ref b), (0, .ref w), (1, .int (nI k))]) hF.1 hF.2.1 dX9_howManyOf_36 hl (k := 4) rfl (nI_inc _ _) (by decide) rfl (fun ls hl => ?_)
              refine lv_goto (tgt := 4) hF.1 hF.2.1 dX9_howManyOf_39 (by decide) ?_
              exact ih4 (j + 1) (by omega) (by omega) _ _ hG ls (lv_sub hl [3, 4, 1, 0] (by first | (rw [howU_t n_30]; rfl) | (rw [howU_f n_30]; rfl)))
          rcases (show kd j = 0 ∨ kd j = 1 ∨ kd j = 2 ∨ kd j = 3 ∨ kd j = 4 ∨ kd j = 5 ∨ kd j = 6 ∨ kd j = 7 by omega) with ek | ek | ek | ek | ek | ek | ek | ek
          · --
            rw [ek] at hb
            have hb : ws[q]? = some (b, .inr (0, [.int (nI (fg j))])) := hb
            refine k_ci (r_V (As := []) hF hK hA hG (c_X0_kind) (cwV 0 hF.2.2.2.2 gX9_howManyOf_X0_kind rfl rfl rfl (by decide +kernel) ⟨Nat.le_of_ble_eq_true rfl, Nat.le_of_ble_eq_true rfl⟩) q hb rfl rfl rfl hl.1 rfl (lv_room (Nat.le_of_ble_eq_true rfl)) dX9_howManyOf_26 ⟨Nat.le_of_ble_eq_true rfl, Nat.le_of_ble_eq_true rfl⟩) hG (fun r_26 u_26 H locs hp_26 hG => ?_)
            subst hp_26
            have k := k26 _ _ hG
            rw [ek] at k
            exact k
          · --
            rw [ek] at hb
            have hb : ws[q]? = some (b, .inr (1, [.int (nI (fg j))])) := hb
            refine k_ci (r_U (As := []) hF hK hA hG (c_X1_kind) (va_cwO 0 hF.2.2.2.2 gX9_howManyOf_X1_kind_u47X1 rfl rfl rfl (List.mem_of_getElem? (i := 16) rfl) (by decide +kernel) ⟨Nat.le_of_ble_eq_true rfl, Nat.le_of_ble_eq_true rfl⟩) q hb rfl rfl rfl hl.1 rfl (lv_room (Nat.le_of_ble_eq_true rfl)) dX9_howManyOf_26 ⟨Nat.le_of_ble_eq_true rfl, Nat.le_of_ble_eq_true rfl⟩) hG (fun r_26 u_26 H locs hp_26 hG => ?_)
            subst hp_26
            have k := k26 _ _ hG
            rw [ek] at k
            exact k
          · --
            rw [ek] at hb
            have hb : ws[q]? = some (b, .inr (7, [.int (nI (fg j))])) := hb
            refine k_ci (r_U (As := []) hF hK hA hG (c_X7_kind) (va_cwO 0 hF.2.2.2.2 gX9_howManyOf_X7_kind_u47X7 rfl rfl rfl (List.mem_of_getElem? (i := 16) rfl) (by decide +kernel) ⟨Nat.le_of_ble_eq_true rfl, Nat.le_of_ble_eq_true rfl⟩) q hb rfl rfl rfl hl.1 rfl (lv_room (Nat.le_of_ble_eq_true rfl)) dX9_howManyOf_26 ⟨Nat.le_of_ble_eq_true rfl, Nat.le_of_ble_eq_true rfl⟩) hG (fun r_26 u_26 H locs hp_26 hG => ?_)
            subst hp_26
            have k := k26 _ _ hG
            rw [ek] at k
            exact k
          · --
            rw [ek] at hb
            have hb : ws[q]? = some (b, .inr (8, [.int (nI (fg j))])) := hb
            refine k_ci (r_U (As := []) hF hK hA hG (c_X8_kind) (va_cwO 0 hF.2.2.2.2 gX9_howManyOf_X8_kind_u47X8 rfl rfl rfl (List.mem_of_getElem? (i := 16) rfl) (by decide +kernel) ⟨Nat.le_of_ble_eq_true rfl, Nat.le_of_ble_eq_true rfl⟩) q hb rfl rfl rfl hl.1 rfl (lv_room (Nat.le_of_ble_eq_true rfl)) dX9_howManyOf_26 ⟨Nat.le_of_ble_eq_true rfl, Nat.le_of_ble_eq_true rfl⟩) hG (fun r_26 u_26 H locs hp_26 hG => ?_)
            subst hp_26
            have k := k26 _ _ hG
            rw [ek] at k
            exact k
          · --
            rw [ek] at hb
            have hb : ws[q]? = some (b, .inr (5, [.int (nI (fg j))])) := hb
            refine k_ci (r_U (As := []) hF hK hA hG (c_X5_kind) (va_cwO 0 hF.2.2.2.2 gX9_howManyOf_X5_kind_u47X5 rfl rfl rfl (List.mem_of_getElem? (i := 16) rfl) (by decide +kernel) ⟨Nat.le_of_ble_eq_true rfl, Nat.le_of_ble_eq_true rfl⟩) q hb rfl rfl rfl hl.1 rfl (lv_room (Nat.le_of_ble_eq_true rfl)) dX9_howManyOf_26 ⟨Nat.le_of_ble_eq_true rfl, Nat.le_of_ble_eq_true rfl⟩) hG (fun r_26 u_26 H locs hp_26 hG => ?_)
            subst hp_26
            have k := k26 _ _ hG
            rw [ek] at k
            exact k
          · --
            rw [ek] at hb
            have hb : ws[q]? = some (b, .inr (3, [.int (nI (fg j))])) := hb
            refine k_ci (r_U (As := []) hF hK hA hG (c_X3_kind) (va_cwO 0 hF.2.2.2.2 gX9_howManyOf_X3_kind_u47X3 rfl rfl rfl (List.mem_of_getElem? (i := 16) rfl) (by decide +kernel) ⟨Nat.le_of_ble_eq_true rfl, Nat.le_of_ble_eq_true rfl⟩) q hb rfl rfl rfl hl.1 rfl (lv_room (Nat.le_of_ble_eq_true rfl)) dX9_howManyOf_26 ⟨Nat.le_of_ble_eq_true rfl, Nat.le_of_ble_eq_true rfl⟩) hG (fun r_26 u_26 H locs hp_26 hG => ?_)
            subst hp_26
            have k := k26 _ _ hG
            rw [ek] at k
            exact k
          · --
            rw [ek] at hb
            have hb : ws[q]? = some (b, .inr (4, [.int (nI (fg j))])) := hb
            refine k_ci (r_U (As := []) hF hK hA hG (c_X4_kind) (va_cwO 0 hF.2.2.2.2 gX9_howManyOf_X4_kind_u47X4 rfl rfl rfl (List.mem_of_getElem? (i := 16) rfl) (by decide +kernel) ⟨Nat.le_of_ble_eq_true rfl, Nat.le_of_ble_eq_true rfl⟩) q hb rfl rfl rfl hl.1 rfl (lv_room (Nat.le_of_ble_eq_true rfl)) dX9_howManyOf_26 ⟨Nat.le_of_ble_eq_true rfl, Nat.le_of_ble_eq_true rfl⟩) hG (fun r_26 u_26 H locs hp_26 hG => ?_)
            subst hp_26
            have k := k26 _ _ hG
            rw [ek] at k
            exact k
          · --
            rw [ek] at hb
            have hb : ws[q]? = some (b, .inr (2, [.int (nI (fg j))])) := hb
            refine k_ci (r_U (As := []) hF hK hA hG (c_X2_kind) (va_cwO 0 hF.2.2.2.2 gX9_howManyOf_X2_kind_u47X2 rfl rfl rfl (List.mem_of_getElem? (i := 16) rfl) (by decide +kernel) ⟨Nat.le_of_ble_eq_true rfl, Nat.le_of_ble_eq_true rfl⟩) q hb rfl rfl rfl hl.1 rfl (lv_room (Nat.le_of_ble_eq_true rfl)) dX9_howManyOf_26 ⟨Nat.le_of_ble_eq_true rfl, Nat.le_of_ble_eq_true rfl⟩) hG (fun r_26 u_26 H locs hp_26 hG => ?_)
            subst hp_26
            have k := k26 _ _ hG
            rw [ek] at k
            exact k
  exact lp4 _ (0) (by omega) (Nat.lt_succ_self _) _ _ hG ls (lv_sub hl [2, 3, 1, 0] rfl)

abbrev rmX9_isJoiners : Room := { frames := 3, cells := 0, slots := 0, locals := 66 }
set_option maxHeartbeats 4000000 in
set_option maxRecDepth 100000 in
theorem c_X9_isJoiners {l : Launch} {D : va_G} {cA : Nat → ClassId} {A : Nat → Prop} {ws : va_W} {w a qw qa n o : Nat} {dr : Nat → Option Nat} {kd fg : Nat → Nat} (hW : WL cA ws w a qw qa dr n o kd fg) : Met l yX9_isJoiners wsX9_isJoiners rmX9_isJoiners (va_Pc [.ref w] (Pre D cA A (ws))) (va_Qi (fun r _ => r = b2i (decide (howU kd 0 n = n))) (fun u t => Wd D A ((fun (_ : Unit) => ws) u) t) A) (0) (0) A := by
  refine k_ofi (S := Unit) (F := fun (_ : Unit) => ws) (cc := cX9_isJoiners) (maxL := 1) (by decide) rfl (Nat.le_of_ble_eq_true rfl) ?_
  intro p e s m args below meth c Q hF hini hK hA hG hret ls hl
  have hl : lv_has ls 1 [(0, .ref w)] := hl
  have hn : n ≤ 6 := hW.2.2.1
  have ho : o < 64 := hW.o64
  have hu := howU_le kd 0 n
  refine lv_aload_n hF.1 hF.2.1 dX9_isJoiners_0 rfl (lv_at hl 0 rfl) ?_
  refine lv_iconst (v := (nI 0)) hF.1 hF.2.1 dX9_isJoiners_1 (by decide +kernel) ?_
  refine k_ci (r_V (As := [.int (nI 0)]) hF hK hA hG (c_X9_howManyOf hW (by decide)) (cwV 1 hF.2.2.2.2 gX9_isJoiners_X9_howManyOf rfl rfl rfl (by decide +kernel) ⟨Nat.le_of_ble_eq_true rfl, Nat.le_of_ble_eq_true rfl⟩) qw hW.1 rfl rfl rfl hl.1 rfl (lv_room (Nat.le_of_ble_eq_true rfl)) dX9_isJoiners_2 ⟨Nat.le_of_ble_eq_true rfl, Nat.le_of_ble_eq_true rfl⟩) hG (fun r_2 u_2 H locs hp_2 hG => ?_)
  subst hp_2
  refine lv_aload_n hF.1 hF.2.1 dX9_isJoiners_5 rfl (lv_at hl 0 rfl) ?_
  refine k_get (C := RX9) (T := TX9) (N := 3) hF hK hG (fun _ h => List.mem_cons_of_mem _ (List.mem_append_right _ h)) qw hW.1 rfl 1 (by decide) (List.mem_of_getElem? (i := 1) rfl) (fun _ h9 => h9) rfl dX9_isJoiners_6 ?_
  refine lv_icmp_ne (tgt := 16) hF.1 hF.2.1 dX9_isJoiners_9 (by decide) (fun c_9 => ?_) (fun c_9 => ?_)
  · --
    have n_9 : ¬ (howU kd 0 n = n) := fun q => c_9 ((nI_eq (a := howU kd 0 n) (b := n) (by omega) (by omega)).mpr q)
    refine lv_iconst (v := (nI 0)) hF.1 hF.2.1 dX9_isJoiners_16 (by decide +kernel) ?_
    exact hret _ () _ ls _ _ _ _ (by first | (rw [decide_eq_true n_9]; rfl) | (rw [decide_eq_false n_9]; rfl)) (by first | rfl | exact nar_b2i _) hG (Nat.le_of_ble_eq_true rfl) (Nat.le_of_ble_eq_true rfl) dX9_isJoiners_17
  · --
    have n_9 : howU kd 0 n = n := (nI_eq (a := howU kd 0 n) (b := n) (by omega) (by omega)).mp c_9
    refine lv_iconst (v := (nI 1)) hF.1 hF.2.1 dX9_isJoiners_12 (by decide +kernel) ?_
    refine lv_goto (tgt := 17) hF.1 hF.2.1 dX9_isJoiners_13 (by decide) ?_
    exact hret _ () _ ls _ _ _ _ (by first | (rw [decide_eq_true n_9]; rfl) | (rw [decide_eq_false n_9]; rfl)) (by first | rfl | exact nar_b2i _) hG (Nat.le_of_ble_eq_true rfl) (Nat.le_of_ble_eq_true rfl) dX9_isJoiners_17

abbrev rmX9_takeFrom : Room := { frames := 0, cells := 0, slots := 0, locals := 0 }
set_option maxHeartbeats 4000000 in
set_option maxRecDepth 100000 in
theorem c_X9_takeFrom {l : Launch} {D : va_G} {cA : Nat → ClassId} {A : Nat → Prop} {ws : va_W} {w a qw qa n o : Nat} {dr : Nat → Option Nat} {kd fg : Nat → Nat} (hW : WL cA ws w a qw qa dr n o kd fg) {w2 a2 qw2 qa2 n2 o2 : Nat} {dr2 : Nat → Option Nat} {kd2 fg2 : Nat → Nat} (hV : WL cA ws w2 a2 qw2 qa2 dr2 n2 o2 kd2 fg2) (hww : w ≠ w2) (haa : a ≠ a2) : Met l yX9_takeFrom wsX9_takeFrom rmX9_takeFrom (va_Pc [.ref w, .ref w2] (Pre D cA A (ws))) (va_Qv (fun _ => True) (fun u t => Wd D A ((fun (_ : Unit) => (ws.set qa (a, .inl (cA 2, 6, .inr (.inr (.inr (.inr dr2)))))).set qw (w, .inr (9, [.ref a, .int (nI n2), .int (nI o2)]))) u) t) A) (0) (0) A := by
  refine k_ofv (S := Unit) (F := fun (_ : Unit) => (ws.set qa (a, .inl (cA 2, 6, .inr (.inr (.inr (.inr dr2)))))).set qw (w, .inr (9, [.ref a, .int (nI n2), .int (nI o2)]))) (cc := cX9_takeFrom) (maxL := 3) (by decide) rfl (Nat.le_of_ble_eq_true rfl) ?_
  intro p e s m args below meth c Q hF hini hK hA hG hret ls hl
  have hl : lv_has ls 3 [(0, .ref w), (1, .ref w2)] := hl
  have hn : n ≤ 6 := hW.2.2.1
  have ho : o < 64 := hW.o64
  have hn2 : n2 ≤ 6 := hV.2.2.1
  refine lv_iconst (v := (nI 0)) hF.1 hF.2.1 dX9_takeFrom_0 (by decide +kernel) ?_
  refine lv_istore_n (lv' := [(2, .int (nI 0)), (0, .ref w), (1, .ref w2)]) hF.1 hF.2.1 dX9_takeFrom_1 rfl hl (by decide) rfl (fun ls hl => ?_)
  have lp2 : ∀ (fuel : Nat), ∀ (j : Nat), (hj : j ≤ 6) → (6 - j) < fuel → ∀ (H : Heap) (locs : List Loc), Gd D A (ws.set qa (a, .inl (cA 2, 6, .inr (.inr (.inr (.inr (mix dr2 dr j))))))) s.heap H locs → ∀ ls : Array Slot, lv_has ls 3 [(0, .ref w), (1, .ref w2), (2, .int (nI j))] → W p l e rmX9_takeFrom s m args below meth c H locs (0) (0) Q (F0 m 2 ls []) := by
    intro fuel
    induction fuel with
    | zero => intro j hj hmu; exact absurd hmu (Nat.not_lt_zero _)
    | succ fuel ih2 =>
      intro j hj hmu H locs hG ls hl
      refine lv_iload_n hF.1 hF.2.1 dX9_takeFrom_2 rfl (lv_at hl 2 rfl) ?_
      refine lv_bipush (v := (nI 6)) hF.1 hF.2.1 dX9_takeFrom_3 (by decide +kernel) ?_
      refine lv_icmp_ge (tgt := 26) hF.1 hF.2.1 dX9_takeFrom_5 (by decide) (fun c_5 => ?_) (fun c_5 => ?_)
      · --
        have n_5 : 6 ≤ j := (nI_leI (a := 6) (b := j) (by omega) (by omega)).mp c_5
        obtain rfl : j = 6 := by omega
        have hG : Gd D A (ws.set qa (a, .inl (cA 2, 6, .inr (.inr (.inr (.inr dr2)))))) s.heap H locs := by rw [← mix_6 (f := dr2) (g := dr) (fun i hi => hV.2.2.2.2.2 i (by omega)) (fun i hi => hW.2.2.2.2.2 i (by omega))]; exact hG
        refine lv_aload_n hF.1 hF.2.1 dX9_takeFrom_26 rfl (lv_at hl 0 rfl) ?_
        refine lv_aload_n hF.1 hF.2.1 dX9_takeFrom_27 rfl (lv_at hl 1 rfl) ?_
        refine k_get (C := RX9) (T := TX9) (N := 3) hF hK hG (fun _ h => List.mem_cons_of_mem _ (List.mem_append_right _ h)) qw2 (keep hW.2.1 hV.1 ne_ai) rfl 1 (by decide) (List.mem_of_getElem? (i := 2) rfl) (fun _ h9 => h9) rfl dX9_takeFrom_28 ?_
        refine k_put (C := RX9) (T := TX9) (N := 3) hF hK hG (fun _ h => List.mem_cons_of_mem _ (List.mem_append_right _ h)) tyX9 tyX9_ok nmX9 qw (keep hW.2.1 hW.1 ne_ai) rfl 1 (by decide) (List.mem_of_getElem? (i := 2) rfl) (fun _ h9 => h9) rfl rfl rfl (Nat.le_of_ble_eq_true rfl) dX9_takeFrom_31 (fun H locs hG => ?_)
        refine lv_aload_n hF.1 hF.2.1 dX9_takeFrom_34 rfl (lv_at hl 0 rfl) ?_
        refine lv_aload_n hF.1 hF.2.1 dX9_takeFrom_35 rfl (lv_at hl 1 rfl) ?_
        refine k_get (C := RX9) (T := TX9) (N := 3) hF hK hG (fun _ h => List.mem_cons_of_mem _ (List.mem_append_right _ h)) qw2 (keep (keep hW.2.1 hW.1 ne_ai) (keep hW.2.1 hV.1 ne_ai) (ne_oo hww)) rfl 2 (by decide) (List.mem_of_getElem? (i := 3) rfl) (fun _ h9 => h9) rfl dX9_takeFrom_36 ?_
        refine k_put (C := RX9) (T := TX9) (N := 3) hF hK hG (fun _ h => List.mem_cons_of_mem _ (List.mem_append_right _ h)) tyX9 tyX9_ok nmX9 qw (hit (keep hW.2.1 hW.1 ne_ai)) rfl 2 (by decide) (List.mem_of_getElem? (i := 3) rfl) (fun _ h9 => h9) rfl rfl rfl (Nat.le_of_ble_eq_true rfl) dX9_takeFrom_39 (fun H locs hG => ?_)
        rw [List.set_set] at hG
        exact hret () _ ls _ _ _ _ (by trivial) hG (Nat.le_of_ble_eq_true rfl) (Nat.le_of_ble_eq_true rfl) dX9_takeFrom_42
      · --
        have n_5 : ¬ (6 ≤ j) := fun q => c_5 ((nI_leI (a := 6) (b := j) (by omega) (by omega)).mpr q)
        refine lv_aload_n hF.1 hF.2.1 dX9_takeFrom_8 rfl (lv_at hl 0 rfl) ?_
        refine k_get (C := RX9) (T := TX9) (N := 3) hF hK hG (fun _ h => List.mem_cons_of_mem _ (List.mem_append_right _ h)) qw (keep hW.2.1 hW.1 ne_ai) rfl 0 (by decide) (List.mem_of_getElem? (i := 1) rfl) (fun _ h9 => h9) rfl dX9_takeFrom_9 ?_
        refine lv_iload_n hF.1 hF.2.1 dX9_takeFrom_12 rfl (lv_at hl 2 rfl) ?_
        refine lv_aload_n hF.1 hF.2.1 dX9_takeFrom_13 rfl (lv_at hl 1 rfl) ?_
        refine k_get (C := RX9) (T := TX9) (N := 3) hF hK hG (fun _ h => List.mem_cons_of_mem _ (List.mem_append_right _ h)) qw2 (keep hW.2.1 hV.1 ne_ai) rfl 0 (by decide) (List.mem_of_getElem? (i := 1) rfl) (fun _ h9 => h9) rfl dX9_takeFrom_14 ?_
        refine lv_iload_n hF.1 hF.2.1 dX9_takeFrom_17 rfl (lv_at hl 2 rfl) ?_
        refine k_aldN hF hK hG qa2 2 (keep hW.2.1 hV.2.1 (ne_aa haa)) rfl (j) rfl (by omega) (by omega) dX9_takeFrom_18 ?_
        cases hz_19 : dr2 j with
        | none =>
          show W p l e rmX9_takeFrom s m args below meth c _ _ _ _ Q (F0 m 19 ls (.null :: [.int (nI j), .ref a]))
          refine k_astZ hF hK hG qa 2 (hit hW.2.1) rfl (j) rfl (by omega) (by omega) dX9_takeFrom_19 (fun H locs hG => ?_)
          refine lv_iinc (v := (nI (j + 1))) (lv' := [(2, .int (nI (j + 1))), (0, .ref w), (1, .ref w2)]) hF.1 hF.2.1 dX9_takeFrom_20 hl (k := 2) rfl (nI_inc _ _) (by decide) rfl (fun ls hl => ?_)
          refine lv_goto (tgt := 2) hF.1 hF.2.1 dX9_takeFrom_23 (by decide) ?_
          have hG : Gd D A (ws.set qa (a, .inl (cA 2, 6, .inr (.inr (.inr (.inr (mix dr2 dr (j + 1)))))))) s.heap H locs := by rw [← mix_up hz_19, ← List.set_set]; exact hG
          exact ih2 (j + 1) (by omega) (by omega) _ _ hG ls (lv_sub hl [1, 2, 0] rfl)
        | some b =>
          have hj2 : j < n2 := Nat.lt_of_not_le (fun h => by rw [hV.2.2.2.2.2 j h] at hz_19; cases hz_19)
          obtain ⟨b2, e1, hk8, hf10, q, hb⟩ := hV.2.2.2.2.1 j hj2
          obtain rfl := Option.some.inj (hz_19.symm.trans e1)
          show W p l e rmX9_takeFrom s m args below meth c _ _ _ _ Q (F0 m 19 ls (.ref b :: [.int (nI j), .ref a]))
          refine k_astD hF hK hG qa q (hit hW.2.1) hk8 (keep hW.2.1 hb ne_ai) (j) rfl (by omega) (by omega) dX9_takeFrom_19 (fun H locs hG => ?_)
          refine lv_iinc (v := (nI (j + 1))) (lv' := [(2, .int (nI (j + 1))), (0, .ref w), (1, .ref w2)]) hF.1 hF.2.1 dX9_takeFrom_20 hl (k := 2) rfl (nI_inc _ _) (by decide) rfl (fun ls hl => ?_)
          refine lv_goto (tgt := 2) hF.1 hF.2.1 dX9_takeFrom_23 (by decide) ?_
          have hG : Gd D A (ws.set qa (a, .inl (cA 2, 6, .inr (.inr (.inr (.inr (mix dr2 dr (j + 1)))))))) s.heap H locs := by rw [← mix_up hz_19, ← List.set_set]; exact hG
          exact ih2 (j + 1) (by omega) (by omega) _ _ hG ls (lv_sub hl [1, 2, 0] rfl)
  have hG : Gd D A (ws.set qa (a, .inl (cA 2, 6, .inr (.inr (.inr (.inr (mix dr2 dr 0))))))) s.heap s.heap [] := by rw [mix_0, set_same hW.2.1]; exact hG
  exact lp2 _ (0) (by omega) (Nat.lt_succ_self _) _ _ hG ls (lv_sub hl [1, 2, 0] rfl)
