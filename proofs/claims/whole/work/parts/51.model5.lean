def spCost (y : Option Sf) : Int32 := match y with
  | some (some (.inl z)) => pr z.1 z.2
  | y => wkI y
theorem spCost_n {y : Option Sf} (h : ¬ wkI y = 0) : spCost y = wkI y := by
  match y, h with
  | none, _ => rfl
  | some none, _ => rfl
  | some (some (.inl z)), h => exact absurd (by decide +kernel : nI 0 = 0) h
  | some (some (.inr z)), _ => rfl
def tossI (k f : Nat) : Int32 := if k = 1 ∨ f = 0 then -15 else if k = 4 then nI 100 + nI f else if k = 5 then nI 200 + pr k f else nI f
def spToss (y : Option Sf) : Int32 := match y with
  | some (some (.inl z)) => tossI z.1 z.2
  | y => wkI y
theorem spToss_n {y : Option Sf} (h : ¬ wkI y = 0) : spToss y = wkI y := by
  match y, h with
  | none, _ => rfl
  | some none, _ => rfl
  | some (some (.inl z)), h => exact absurd (by decide +kernel : nI 0 = 0) h
  | some (some (.inr z)), _ => rfl
def spCount (n o : Nat) (kd fg : Nat → Nat) (what : Int32) : Int32 := if what = nI 0 then nI n else if what = nI 1 then nI (cnt o) else if what = nI 2 then nI (cnt (mayU kd fg o n)) else if what = nI 3 then nI (howU kd 2 n) else -1
def keepOk (d what k f : Int32) : Bool := inB 8 d && (inB 2 what && (decide (¬ what = nI 1) || (inB 8 k && inB 10 f)))
def spKeep (x : Nat → Sf) (d what k f : Int32) : Int32 × (Nat → Sf) := if keepOk d what k f = true then (nI 0, va_up x d.toNatClampNeg (if what = nI 1 then some (.inl (k.toNatClampNeg, f.toNatClampNeg)) else none)) else (-1, x)
theorem spKeep_f {x : Nat → Sf} {d what k f : Int32} (h : keepOk d what k f = false) : spKeep x d what k f = (-1, x) := by
  unfold spKeep
  rw [h]
  rfl
theorem keepOk_1 {d what k f : Int32} (h : inB 8 d = false) : keepOk d what k f = false := by unfold keepOk; rw [h]; rfl
theorem keepOk_2 {d what k f : Int32} (h : inB 2 what = false) : keepOk d what k f = false := by unfold keepOk; rw [h]; simp
theorem keepOk_3 {d what k f : Int32} (hw : what = nI 1) (h : inB 8 k = false) : keepOk d what k f = false := by unfold keepOk; rw [h]; simp [hw]
theorem keepOk_4 {d what k f : Int32} (hw : what = nI 1) (h : inB 10 f = false) : keepOk d what k f = false := by unfold keepOk; rw [h]; simp [hw]
theorem spKeep_1 {x : Nat → Sf} {j a b : Nat} (hj : j < 8) (ha : a < 8) (hb : b < 10) : spKeep x (nI j) (nI 1) (nI a) (nI b) = (nI 0, va_up x j (some (.inl (a, b)))) := by
  unfold spKeep keepOk
  rw [inB_j (by omega) hj, inB_j (by omega) ha, inB_j (by omega) hb, inB_j (by omega) (show 1 < 2 by omega), nI_clamp (by omega), nI_clamp (by omega), nI_clamp (by omega)]
  simp
theorem spKeep_0 {x : Nat → Sf} {j : Nat} {what k f : Int32} (hj : j < 8) (h2 : inB 2 what = true) (hw : ¬ what = nI 1) : spKeep x (nI j) what k f = (nI 0, va_up x j none) := by
  unfold spKeep keepOk
  rw [inB_j (by omega) hj, h2, nI_clamp (by omega), if_neg hw]
  simp [hw]
/-- one shelf anew, the others as they were -/
theorem SF.upd {aK aT aZ aE aD aF aK' aT' aZ' aE' aD' aF' : Nat → Int32} {x : Nat → Sf} {j : Nat} {y : Sf} (h : ∀ d, d < 8 → SF aK aT aZ aE aD aF d (x d)) (hy : SF aK' aT' aZ' aE' aD' aF' j y)
    (hK : ∀ d, d ≠ j → aK' d = aK d ∧ aT' d = aT d ∧ aZ' d = aZ d ∧ aD' d = aD d ∧ aF' d = aF d) (hE : ∀ d i, d ≠ j → i < 100 → aE' (100 * d + i) = aE (100 * d + i)) : ∀ d, d < 8 → SF aK' aT' aZ' aE' aD' aF' d (va_up x j y d) := by
  intro d hd
  by_cases e : d = j
  · subst e
    rw [va_up_self]
    exact hy
  · rw [va_up_ne _ _ e]
    obtain ⟨e1, e2, e3, e4, e5⟩ := hK d e
    have hx := h d hd
    cases hz : x d with
    | none =>
      rw [hz] at hx
      show aK' d = nI 0
      rw [e1]
      exact hx
    | some z =>
      rw [hz] at hx
      cases z with
      | inl z =>
        obtain ⟨a1, a2, a3, a4, a5⟩ := hx
        exact ⟨by rw [e1]; exact a1, by rw [e4]; exact a2, by rw [e5]; exact a3, a4, a5⟩
      | inr z =>
        obtain ⟨a1, a2, a3, a4, a5, a6⟩ := hx
        exact ⟨by rw [e1]; exact a1, by rw [e2]; exact a2, by rw [e3]; exact a3, a4, a5, fun i hi => by rw [hE d i e (by omega)]; exact a6 i hi⟩
def rowOk (d so n : Int32) : Bool := inB 8 d && (inB 3 so && decide (n ≤ nI 100))
def spRow (x : Nat → Sf) (d so n : Int32) : Int32 × (Nat → Sf) := if rowOk d so n = true then (if n < 0 then (-14, x) else (nI 0, va_up x d.toNatClampNeg (some (.inr (so.toNatClampNeg, n.toNatClampNeg, fun _ => 0))))) else (-1, x)
theorem spRow_f {x : Nat → Sf} {d so n : Int32} (h : rowOk d so n = false) : spRow x d so n = (-1, x) := by
  unfold spRow
  rw [h]
  rfl
theorem rowOk_1 {d so n : Int32} (h : inB 8 d = false) : rowOk d so n = false := by unfold rowOk; rw [h]; rfl
theorem rowOk_2 {d so n : Int32} (h : inB 3 so = false) : rowOk d so n = false := by unfold rowOk; rw [h]; simp
theorem rowOk_3 {d so n : Int32} (h : ¬ n ≤ nI 100) : rowOk d so n = false := by unfold rowOk; simp [h]
theorem rowOk_t {j a : Nat} {n : Int32} (hj : j < 8) (ha : a < 3) (h : n ≤ nI 100) : rowOk (nI j) (nI a) n = true := by
  unfold rowOk
  rw [inB_j (by omega) hj, inB_j (by omega) ha]
  simp [h]
def spPut (x : Nat → Sf) (d i v : Int32) : Int32 × (Nat → Sf) := match sfA x d with
  | some (some (.inr z)) => if inB z.2.1 i = true then (nI 0, va_up x d.toNatClampNeg (some (.inr (z.1, z.2.1, putR z.1 z.2.1 z.2.2 i v)))) else (-13, x)
  | y => (wrA y, x)
abbrev rmX12_costBy : Room := { frames := 0, cells := 0, slots := 0, locals := 0 }
set_option maxHeartbeats 4000000 in
set_option maxRecDepth 100000 in
theorem c_X12_costBy {l : Launch} {D : va_G} {cA : Nat → ClassId} {A : Nat → Prop} {ws : va_W} {k f : Nat} (hk : k < 8) : Met l yX12_costBy wsX12_costBy rmX12_costBy (va_Pc [.int (nI k), .int (nI f)] (Pre D cA A (ws))) (va_Qi (fun r _ => r = pr k f) (fun u t => Wd D A ((fun (_ : Unit) => ws) u) t) A) (0) (0) A := by
  refine k_ofi (S := Unit) (F := fun (_ : Unit) => ws) (cc := cX12_costBy) (maxL := 2) (by decide) rfl (Nat.le_of_ble_eq_true rfl) ?_
  intro p e s m args below meth c Q hF hini hK hA hG hret ls hl
  have hl : lv_has ls 2 [(0, .int (nI k)), (1, .int (nI f))] := hl
  refine lv_iload_n hF.1 hF.2.1 dX12_costBy_0 rfl (lv_at hl 0 rfl) ?_
  rcases (show k = 0 ∨ k = 1 ∨ k = 2 ∨ k = 3 ∨ k = 4 ∨ k = 5 ∨ k = 6 ∨ k = 7 by omega) with ek | ek | ek | ek | ek | ek | ek | ek
  · --
    rw [ek]
    refine lv_tableOut (tgt := 63) hF.1 hF.2.1 dX12_costBy_1 (by decide +kernel) (by decide) ?_
    refine lv_iconst (v := (nI 4)) hF.1 hF.2.1 dX12_costBy_63 (by decide +kernel) ?_
    exact hret _ () _ ls _ _ _ _ (by rw [ek]; rfl) (by first | rfl | exact nar_b2i _) hG (Nat.le_of_ble_eq_true rfl) (Nat.le_of_ble_eq_true rfl) dX12_costBy_64
  · --
    rw [ek]
    refine lv_tableIn (tgt := 40) hF.1 hF.2.1 dX12_costBy_1 (by decide +kernel) (by decide +kernel) rfl (by decide) ?_
    refine lv_iconst (v := (nI 3)) hF.1 hF.2.1 dX12_costBy_40 (by decide +kernel) ?_
    exact hret _ () _ ls _ _ _ _ (by rw [ek]; rfl) (by first | rfl | exact nar_b2i _) hG (Nat.le_of_ble_eq_true rfl) (Nat.le_of_ble_eq_true rfl) dX12_costBy_41
  · --
    rw [ek]
    refine lv_tableIn (tgt := 42) hF.1 hF.2.1 dX12_costBy_1 (by decide +kernel) (by decide +kernel) rfl (by decide) ?_
    refine lv_iconst (v := (nI 4)) hF.1 hF.2.1 dX12_costBy_42 (by decide +kernel) ?_
    refine lv_iload_n hF.1 hF.2.1 dX12_costBy_43 rfl (lv_at hl 1 rfl) ?_
    refine lv_iadd hF.1 hF.2.1 dX12_costBy_44 ?_
    exact hret _ () _ ls _ _ _ _ (by rw [ek]; rfl) (by first | rfl | exact nar_b2i _) hG (Nat.le_of_ble_eq_true rfl) (Nat.le_of_ble_eq_true rfl) dX12_costBy_45
  · --
    rw [ek]
    refine lv_tableIn (tgt := 46) hF.1 hF.2.1 dX12_costBy_1 (by decide +kernel) (by decide +kernel) rfl (by decide) ?_
    refine lv_bipush (v := (nI 6)) hF.1 hF.2.1 dX12_costBy_46 (by decide +kernel) ?_
    exact hret _ () _ ls _ _ _ _ (by rw [ek]; rfl) (by first | rfl | exact nar_b2i _) hG (Nat.le_of_ble_eq_true rfl) (Nat.le_of_ble_eq_true rfl) dX12_costBy_48
  · --
    rw [ek]
    refine lv_tableIn (tgt := 49) hF.1 hF.2.1 dX12_costBy_1 (by decide +kernel) (by decide +kernel) rfl (by decide) ?_
    refine lv_iconst (v := (nI 4)) hF.1 hF.2.1 dX12_costBy_49 (by decide +kernel) ?_
    refine lv_iload_n hF.1 hF.2.1 dX12_costBy_50 rfl (lv_at hl 1 rfl) ?_
    refine lv_iconst (v := (nI 1)) hF.1 hF.2.1 dX12_costBy_51 (by decide +kernel) ?_
    refine lv_iadd hF.1 hF.2.1 dX12_costBy_52 ?_
    refine lv_imul hF.1 hF.2.1 dX12_costBy_53 ?_
    exact hret _ () _ ls _ _ _ _ (by rw [ek]; rfl) (by first | rfl | exact nar_b2i _) hG (Nat.le_of_ble_eq_true rfl) (Nat.le_of_ble_eq_true rfl) dX12_costBy_54
  · --
    rw [ek]
    refine lv_tableIn (tgt := 55) hF.1 hF.2.1 dX12_costBy_1 (by decide +kernel) (by decide +kernel) rfl (by decide) ?_
    refine lv_bipush (v := (nI 6)) hF.1 hF.2.1 dX12_costBy_55 (by decide +kernel) ?_
    refine lv_iload_n hF.1 hF.2.1 dX12_costBy_57 rfl (lv_at hl 1 rfl) ?_
    refine lv_isub hF.1 hF.2.1 dX12_costBy_58 ?_
    exact hret _ () _ ls _ _ _ _ (by rw [ek]; rfl) (by first | rfl | exact nar_b2i _) hG (Nat.le_of_ble_eq_true rfl) (Nat.le_of_ble_eq_true rfl) dX12_costBy_59
  · --
    rw [ek]
    refine lv_tableIn (tgt := 60) hF.1 hF.2.1 dX12_costBy_1 (by decide +kernel) (by decide +kernel) rfl (by decide) ?_
    refine lv_bipush (v := (nI 8)) hF.1 hF.2.1 dX12_costBy_60 (by decide +kernel) ?_
    exact hret _ () _ ls _ _ _ _ (by rw [ek]; rfl) (by first | rfl | exact nar_b2i _) hG (Nat.le_of_ble_eq_true rfl) (Nat.le_of_ble_eq_true rfl) dX12_costBy_62
  · --
    rw [ek]
    refine lv_tableOut (tgt := 63) hF.1 hF.2.1 dX12_costBy_1 (by decide +kernel) (by decide) ?_
    refine lv_iconst (v := (nI 4)) hF.1 hF.2.1 dX12_costBy_63 (by decide +kernel) ?_
    exact hret _ () _ ls _ _ _ _ (by rw [ek]; rfl) (by first | rfl | exact nar_b2i _) hG (Nat.le_of_ble_eq_true rfl) (Nat.le_of_ble_eq_true rfl) dX12_costBy_64

abbrev rmX12_cost : Room := { frames := 3, cells := 0, slots := 0, locals := 66 }
set_option maxHeartbeats 4000000 in
set_option maxRecDepth 100000 in
theorem c_X12_cost {l : Launch} {D : va_G} {cA : Nat → ClassId} {A : Nat → Prop}  {ob : Nat → Nat} {aS aI aR aM aK aT aZ aE aD aF aN aP aH : Nat → Int32} {vH vT vP vB vE vS : Int32} {x : Nat → Sf} (hXF : ∀ d, d < 8 → SF aK aT aZ aE aD aF d (x d)) {d : Int32} : Met l yX12_cost wsX12_cost rmX12_cost (va_Pc [.ref (ob 0), .int d] (Pre D cA A (MW cA ob aS aI aR aM aK aT aZ aE aD aF aN aP aH vH vT vP vB vE vS))) (va_Qi (fun r _ => r = spCost (sfA x d)) (fun u t => Wd D A ((fun (_ : Unit) => MW cA ob aS aI aR aM aK aT aZ aE aD aF aN aP aH vH vT vP vB vE vS) u) t) A) (0) (0) A := by
  refine k_ofi (S := Unit) (F := fun (_ : Unit) => MW cA ob aS aI aR aM aK aT aZ aE aD aF aN aP aH vH vT vP vB vE vS) (cc := cX12_cost) (maxL := 3) (by decide) rfl (Nat.le_of_ble_eq_true rfl) ?_
  intro p e s m args below meth c Q hF hini hK hA hG hret ls hl
  have hl : lv_has ls 3 [(0, .ref (ob 0)), (1, .int d)] := hl
  refine lv_aload_n hF.1 hF.2.1 dX12_cost_0 rfl (lv_at hl 0 rfl) ?_
  refine lv_iload_n hF.1 hF.2.1 dX12_cost_1 rfl (lv_at hl 1 rfl) ?_
  refine k_ci (r_V (As := [.int d]) hF hK hA hG (c_X12_wrongKept hXF) (cwV 1 hF.2.2.2.2 gX12_cost_X12_wrongKept rfl rfl rfl (by decide +kernel) ⟨Nat.le_of_ble_eq_true rfl, Nat.le_of_ble_eq_true rfl⟩) 0 rfl rfl rfl rfl hl.1 rfl (lv_room (Nat.le_of_ble_eq_true rfl)) dX12_cost_2 ⟨Nat.le_of_ble_eq_true rfl, Nat.le_of_ble_eq_true rfl⟩) hG (fun r_2 u_2 H locs hp_2 hG => ?_)
  subst hp_2
  refine lv_istore_n (lv' := [(2, .int (wkI (sfA x d))), (0, .ref (ob 0)), (1, .int d)]) hF.1 hF.2.1 dX12_cost_5 rfl hl (by decide) rfl (fun ls hl => ?_)
  refine lv_iload_n hF.1 hF.2.1 dX12_cost_6 rfl (lv_at hl 0 rfl) ?_
  refine lv_if_eq (tgt := 14) hF.1 hF.2.1 dX12_cost_7 (by decide) (fun c_7 => ?_) (fun c_7 => ?_)
  · --
    obtain ⟨j, z, hj, rfl, hx⟩ := wk_0 c_7
    obtain ⟨f1, f2, f3, hz8, hz10⟩ := sf_l (hXF j hj) hx
    refine lv_aload_n hF.1 hF.2.1 dX12_cost_14 rfl (lv_at hl 1 rfl) ?_
    refine k_get (C := RX12) (T := TX12) (N := 19) hF hK hG (fun _ h => List.mem_cons_of_mem _ (List.mem_append_right _ h)) 0 rfl rfl 8 (by decide) (List.mem_of_getElem? (i := 1) rfl) (fun _ h9 => h9) rfl dX12_cost_15 ?_
    refine lv_iload_n hF.1 hF.2.1 dX12_cost_18 rfl (lv_at hl 2 rfl) ?_
    refine k_ialdN hF hK hG 9 rfl (j) rfl (by omega) (by omega) dX12_cost_19 ?_
    rw [f2]
    refine lv_aload_n hF.1 hF.2.1 dX12_cost_20 rfl (lv_at hl 1 rfl) ?_
    refine k_get (C := RX12) (T := TX12) (N := 19) hF hK hG (fun _ h => List.mem_cons_of_mem _ (List.mem_append_right _ h)) 0 rfl rfl 9 (by decide) (List.mem_of_getElem? (i := 2) rfl) (fun _ h9 => h9) rfl dX12_cost_21 ?_
    refine lv_iload_n hF.1 hF.2.1 dX12_cost_24 rfl (lv_at hl 2 rfl) ?_
    refine k_ialdN hF hK hG 10 rfl (j) rfl (by omega) (by omega) dX12_cost_25 ?_
    rw [f3]
    refine k_ci (r_S (As := [.int (nI (z.1)), .int (nI (z.2))]) hF hK hA hG (c_X12_costBy hz8) (cwS 2 hF.2.2.2.2 gX12_cost_X12_costBy rfl rfl rfl (by decide +kernel) ⟨Nat.le_of_ble_eq_true rfl, Nat.le_of_ble_eq_true rfl⟩) rfl hl.1 rfl (lv_room (Nat.le_of_ble_eq_true rfl)) dX12_cost_26 ⟨Nat.le_of_ble_eq_true rfl, Nat.le_of_ble_eq_true rfl⟩) hG (fun r_26 u_26 H locs hp_26 hG => ?_)
    subst hp_26
    exact hret _ () _ ls _ _ _ _ (by first | exact (spCost_n c_7).symm | (rw [sfA_j x hj, hx]; rfl)) (by first | rfl | exact nar_b2i _) hG (Nat.le_of_ble_eq_true rfl) (Nat.le_of_ble_eq_true rfl) dX12_cost_29
  · --
    refine lv_iload_n hF.1 hF.2.1 dX12_cost_10 rfl (lv_at hl 0 rfl) ?_
    refine lv_goto (tgt := 29) hF.1 hF.2.1 dX12_cost_11 (by decide) ?_
    exact hret _ () _ ls _ _ _ _ (by first | exact (spCost_n c_7).symm | (rw [sfA_j x hj, hx]; rfl)) (by first | rfl | exact nar_b2i _) hG (Nat.le_of_ble_eq_true rfl) (Nat.le_of_ble_eq_true rfl) dX12_cost_29

abbrev rmX12_toss : Room := { frames := 3, cells := 0, slots := 0, locals := 66 }
set_option maxHeartbeats 4000000 in
set_option maxRecDepth 100000 in
theorem c_X12_toss {l : Launch} {D : va_G} {cA : Nat → ClassId} {A : Nat → Prop}  {ob : Nat → Nat} {aS aI aR aM aK aT aZ aE aD aF aN aP aH : Nat → Int32} {vH vT vP vB vE vS : Int32} {x : Nat → Sf} (hXF : ∀ d, d < 8 → SF aK aT aZ aE aD aF d (x d)) {d : Int32} : Met l yX12_toss wsX12_toss rmX12_toss (va_Pc [.ref (ob 0), .int d] (Pre D cA A (MW cA ob aS aI aR aM aK aT aZ aE aD aF aN aP aH vH vT vP vB vE vS))) (va_Qi (fun r _ => r = spToss (sfA x d)) (fun u t => Wd D A ((fun (_ : Unit) => MW cA ob aS aI aR aM aK aT aZ aE aD aF aN aP aH vH vT vP vB vE vS) u) t) A) (0) (0) A := by
  refine k_ofi (S := Unit) (F := fun (_ : Unit) => MW cA ob aS aI aR aM aK aT aZ aE aD aF aN aP aH vH vT vP vB vE vS) (cc := cX12_toss) (maxL := 5) (by decide) rfl (Nat.le_of_ble_eq_true rfl) ?_
  intro p e s m args below meth c Q hF hini hK hA hG hret ls hl
  have hl : lv_has ls 5 [(0, .ref (ob 0)), (1, .int d)] := hl
  refine lv_aload_n hF.1 hF.2.1 dX12_toss_0 rfl (lv_at hl 0 rfl) ?_
  refine lv_iload_n hF.1 hF.2.1 dX12_toss_1 rfl (lv_at hl 1 rfl) ?_
  refine k_ci (r_V (As := [.int d]) hF hK hA hG (c_X12_wrongKept hXF) (cwV 1 hF.2.2.2.2 gX12_toss_X12_wrongKept rfl rfl rfl (by decide +kernel) ⟨Nat.le_of_ble_eq_true rfl, Nat.le_of_ble_eq_true rfl⟩) 0 rfl rfl rfl rfl hl.1 rfl (lv_room (Nat.le_of_ble_eq_true rfl)) dX12_toss_2 ⟨Nat.le_of_ble_eq_true rfl, Nat.le_of_ble_eq_true rfl⟩) hG (fun r_2 u_2 H locs hp_2 hG => ?_)
  subst hp_2
  refine lv_istore_n (lv' := [(2, .int (wkI (sfA x d))), (0, .ref (ob 0)), (1, .int d)]) hF.1 hF.2.1 dX12_toss_5 rfl hl (by decide) rfl (fun ls hl => ?_)
  refine lv_iload_n hF.1 hF.2.1 dX12_toss_6 rfl (lv_at hl 0 rfl) ?_
  refine lv_if_eq (tgt := 12) hF.1 hF.2.1 dX12_toss_7 (by decide) (fun c_7 => ?_) (fun c_7 => ?_)
  · --
    obtain ⟨j, z, hj, rfl, hx⟩ := wk_0 c_7
    obtain ⟨f1, f2, f3, hz8, hz10⟩ := sf_l (hXF j hj) hx
    refine lv_aload_n hF.1 hF.2.1 dX12_toss_12 rfl (lv_at hl 1 rfl) ?_
    refine k_get (C := RX12) (T := TX12) (N := 19) hF hK hG (fun _ h => List.mem_cons_of_mem _ (List.mem_append_right _ h)) 0 rfl rfl 8 (by decide) (List.mem_of_getElem? (i := 1) rfl) (fun _ h9 => h9) rfl dX12_toss_13 ?_
    refine lv_iload_n hF.1 hF.2.1 dX12_toss_16 rfl (lv_at hl 2 rfl) ?_
    refine k_ialdN hF hK hG 9 rfl (j) rfl (by omega) (by omega) dX12_toss_17 ?_
    rw [f2]
    refine lv_istore_n (lv' := [(3, .int (nI (z.1))), (2, .int (wkI (sfA x (nI j)))), (0, .ref (ob 0)), (1, .int (nI j))]) hF.1 hF.2.1 dX12_toss_18 rfl hl (by decide) rfl (fun ls hl => ?_)
    refine lv_aload_n hF.1 hF.2.1 dX12_toss_19 rfl (lv_at hl 2 rfl) ?_
    refine k_get (C := RX12) (T := TX12) (N := 19) hF hK hG (fun _ h => List.mem_cons_of_mem _ (List.mem_append_right _ h)) 0 rfl rfl 9 (by decide) (List.mem_of_getElem? (i := 2) rfl) (fun _ h9 => h9) rfl dX12_toss_20 ?_
    refine lv_iload_n hF.1 hF.2.1 dX12_toss_23 rfl (lv_at hl 3 rfl) ?_
    refine k_ialdN hF hK hG 10 rfl (j) rfl (by omega) (by omega) dX12_toss_24 ?_
    rw [f3]
    refine lv_istore (lv' := [(4, .int (nI (z.2))), (3, .int (nI (z.1))), (2, .int (wkI (sfA x (nI j)))), (0, .ref (ob 0)), (1, .int (nI j))]) hF.1 hF.2.1 dX12_toss_25 hl (by decide) rfl (fun ls hl => ?_)
    refine lv_iload_n hF.1 hF.2.1 dX12_toss_27 rfl (lv_at hl 1 rfl) ?_
    refine lv_iconst (v := (nI 1)) hF.1 hF.2.1 dX12_toss_28 (by decide +kernel) ?_
    refine lv_icmp_eq (tgt := 37) hF.1 hF.2.1 dX12_toss_29 (by decide) (fun c_29 => ?_) (fun c_29 => ?_)
    · --
      have n_29 : z.1 = 1 := (nI_eq (a := z.1) (b := 1) (by omega) (by omega)).mp c_29
      refine lv_bipush (v := (-15)) hF.1 hF.2.1 dX12_toss_37 (by decide +kernel) ?_
      refine lv_goto (tgt := 75) hF.1 hF.2.1 dX12_toss_39 (by decide) ?_
      exact hret _ () _ ls _ _ _ _ (by rw [sfA_j x hj, hx]; show _ = tossI z.1 z.2; unfold tossI; first | rw [if_pos (Or.inl n_29)] | rw [if_pos (Or.inr n_34)] | (rw [if_neg (fun q => q.elim n_29 n_34)]; first | (rw [if_pos n_44, nI_add]) | (rw [if_neg n_44]; first | rw [if_pos n_57] | rw [if_neg n_57]))) (by first | rfl | exact nar_b2i _) hG (Nat.le_of_ble_eq_true rfl) (Nat.le_of_ble_eq_true rfl) dX12_toss_75
    · --
      have n_29 : ¬ (z.1 = 1) := fun zz9 => c_29 ((nI_eq (a := z.1) (b := 1) (by omega) (by omega)).mpr zz9)
      refine lv_iload hF.1 hF.2.1 dX12_toss_32 (lv_at hl 0 rfl) ?_
      refine lv_if_ne (tgt := 42) hF.1 hF.2.1 dX12_toss_34 (by decide) (fun c_34 => ?_) (fun c_34 => ?_)
      · --
        have n_34 : ¬ (z.2 = 0) := fun zz9 => c_34 ((nI_eq (a := z.2) (b := 0) (by omega) (by omega)).mpr zz9)
        refine lv_iload_n hF.1 hF.2.1 dX12_toss_42 rfl (lv_at hl 1 rfl) ?_
        refine lv_iconst (v := (nI 4)) hF.1 hF.2.1 dX12_toss_43 (by decide +kernel) ?_
        refine lv_icmp_ne (tgt := 55) hF.1 hF.2.1 dX12_toss_44 (by decide) (fun c_44 => ?_) (fun c_44 => ?_)
        · --
          have n_44 : ¬ (z.1 = 4) := fun zz9 => c_44 ((nI_eq (a := z.1) (b := 4) (by omega) (by omega)).mpr zz9)
          refine lv_iload_n hF.1 hF.2.1 dX12_toss_55 rfl (lv_at hl 1 rfl) ?_
          refine lv_iconst (v := (nI 5)) hF.1 hF.2.1 dX12_toss_56 (by decide +kernel) ?_
          refine lv_icmp_ne (tgt := 73) hF.1 hF.2.1 dX12_toss_57 (by decide) (fun c_57 => ?_) (fun c_57 => ?_)
          · --
            have n_57 : ¬ (z.1 = 5) := fun zz9 => c_57 ((nI_eq (a := z.1) (b := 5) (by omega) (by omega)).mpr zz9)
            refine lv_iload hF.1 hF.2.1 dX12_toss_73 (lv_at hl 0 rfl) ?_
            exact hret _ () _ ls _ _ _ _ (by rw [sfA_j x hj, hx]; show _ = tossI z.1 z.2; unfold tossI; first | rw [if_pos (Or.inl n_29)] | rw [if_pos (Or.inr n_34)] | (rw [if_neg (fun q => q.elim n_29 n_34)]; first | (rw [if_pos n_44, nI_add]) | (rw [if_neg n_44]; first | rw [if_pos n_57] | rw [if_neg n_57]))) (by first | rfl | exact nar_b2i _) hG (Nat.le_of_ble_eq_true rfl) (Nat.le_of_ble_eq_true rfl) dX12_toss_75
          · --
            have n_57 : z.1 = 5 := (nI_eq (a := z.1) (b := 5) (by omega) (by omega)).mp c_57
            refine lv_sipush (v := (nI 200)) hF.1 hF.2.1 dX12_toss_60 (by decide +kernel) ?_
            refine lv_iload_n hF.1 hF.2.1 dX12_toss_63 rfl (lv_at hl 1 rfl) ?_
            refine lv_iload hF.1 hF.2.1 dX12_toss_64 (lv_at hl 0 rfl) ?_
            refine k_ci (r_S (As := [.int (nI (z.1)), .int (nI (z.2))]) hF hK hA hG (c_X12_costBy hz8) (cwS 2 hF.2.2.2.2 gX12_toss_X12_costBy rfl rfl rfl (by decide +kernel) ⟨Nat.le_of_ble_eq_true rfl, Nat.le_of_ble_eq_true rfl⟩) rfl hl.1 rfl (lv_room (Nat.le_of_ble_eq_true rfl)) dX12_toss_66 ⟨Nat.le_of_ble_eq_true rfl, Nat.le_of_ble_eq_true rfl⟩) hG (fun r_66 u_66 H locs hp_66 hG => ?_)
            subst hp_66
            refine lv_iadd hF.1 hF.2.1 dX12_toss_69 ?_
            refine lv_goto (tgt := 75) hF.1 hF.2.1 dX12_toss_70 (by decide) ?_
            exact hret _ () _ ls _ _ _ _ (by rw [sfA_j x hj, hx]; show _ = tossI z.1 z.2; unfold tossI; first | rw [if_pos (Or.inl n_29)] | rw [if_pos (Or.inr n_34)] | (rw [if_neg (fun q => q.elim n_29 n_34)]; first | (rw [if_pos n_44, nI_add]) | (rw [if_neg n_44]; first | rw [if_pos n_57] | rw [if_neg n_57]))) (by first | rfl | exact nar_b2i _) hG (Nat.le_of_ble_eq_true rfl) (Nat.le_of_ble_eq_true rfl) dX12_toss_75
        · --
          have n_44 : z.1 = 4 := (nI_eq (a := z.1) (b := 4) (by omega) (by omega)).mp c_44
          refine lv_bipush (v := (nI 100)) hF.1 hF.2.1 dX12_toss_47 (by decide +kernel) ?_
          refine lv_iload hF.1 hF.2.1 dX12_toss_49 (lv_at hl 0 rfl) ?_
          refine lv_iadd hF.1 hF.2.1 dX12_toss_51 ?_
          rw [nI_add]
          refine lv_goto (tgt := 75) hF.1 hF.2.1 dX12_toss_52 (by decide) ?_
          exact hret _ () _ ls _ _ _ _ (by rw [sfA_j x hj, hx]; show _ = tossI z.1 z.2; unfold tossI; first | rw [if_pos (Or.inl n_29)] | rw [if_pos (Or.inr n_34)] | (rw [if_neg (fun q => q.elim n_29 n_34)]; first | (rw [if_pos n_44, nI_add]) | (rw [if_neg n_44]; first | rw [if_pos n_57] | rw [if_neg n_57]))) (by first | rfl | exact nar_b2i _) hG (Nat.le_of_ble_eq_true rfl) (Nat.le_of_ble_eq_true rfl) dX12_toss_75
      · --
        have n_34 : z.2 = 0 := (nI_eq (a := z.2) (b := 0) (by omega) (by omega)).mp c_34
        refine lv_bipush (v := (-15)) hF.1 hF.2.1 dX12_toss_37 (by decide +kernel) ?_
        refine lv_goto (tgt := 75) hF.1 hF.2.1 dX12_toss_39 (by decide) ?_
        exact hret _ () _ ls _ _ _ _ (by rw [sfA_j x hj, hx]; show _ = tossI z.1 z.2; unfold tossI; first | rw [if_pos (Or.inl n_29)] | rw [if_pos (Or.inr n_34)] | (rw [if_neg (fun q => q.elim n_29 n_34)]; first | (rw [if_pos n_44, nI_add]) | (rw [if_neg n_44]; first | rw [if_pos n_57] | rw [if_neg n_57]))) (by first | rfl | exact nar_b2i _) hG (Nat.le_of_ble_eq_true rfl) (Nat.le_of_ble_eq_true rfl) dX12_toss_75
  · --
    refine lv_iload_n hF.1 hF.2.1 dX12_toss_10 rfl (lv_at hl 0 rfl) ?_
    exact hret _ () _ ls _ _ _ _ (by exact (spToss_n c_7).symm) (by first | rfl | exact nar_b2i _) hG (Nat.le_of_ble_eq_true rfl) (Nat.le_of_ble_eq_true rfl) dX12_toss_11

abbrev rmX12_count : Room := { frames := 3, cells := 0, slots := 0, locals := 69 }
set_option maxHeartbeats 4000000 in
set_option maxRecDepth 100000 in
theorem c_X12_count {l : Launch} {D : va_G} {cA : Nat → ClassId} {A : Nat → Prop}  {ob : Nat → Nat} {aS aI aR aM aK aT aZ aE aD aF aN aP aH : Nat → Int32} {vH vT vP vB vE vS : Int32} {n o : Nat} {kd fg : Nat → Nat} (hS : SR aS n o kd fg) {what : Int32} : Met l yX12_count wsX12_count rmX12_count (va_Pc [.ref (ob 0), .int what] (Pre D cA A (MW cA ob aS aI aR aM aK aT aZ aE aD aF aN aP aH vH vT vP vB vE vS))) (va_Qi (fun r _ => r = spCount n o kd fg what) (fun u t => Wd D A ((fun (_ : Unit) => MW cA ob aS aI aR aM aK aT aZ aE aD aF aN aP aH vH vT vP vB vE vS) u) t) A) (0) (0) A := by
  refine k_ofi (S := Unit) (F := fun (_ : Unit) => MW cA ob aS aI aR aM aK aT aZ aE aD aF aN aP aH vH vT vP vB vE vS) (cc := cX12_count) (maxL := 4) (by decide) rfl (Nat.le_of_ble_eq_true rfl) ?_
  intro p e s m args below meth c Q hF hini hK hA hG hret ls hl
  have hl : lv_has ls 4 [(0, .ref (ob 0)), (1, .int what)] := hl
  have hn : n ≤ 6 := hS.2.2.1
  have ho : o < 64 := hS.o64
  refine lv_iconst (v := (nI 0)) hF.1 hF.2.1 dX12_count_0 (by decide +kernel) ?_
  refine lv_istore_n (lv' := [(2, .int (nI 0)), (0, .ref (ob 0)), (1, .int what)]) hF.1 hF.2.1 dX12_count_1 rfl hl (by decide) rfl (fun ls hl => ?_)
  refine lv_iload_n hF.1 hF.2.1 dX12_count_2 rfl (lv_at hl 2 rfl) ?_
  refine sw_by (nI 0) (fun e3_0 => ?_) (fun e3_0 => ?_)
  · --
    refine lv_tableIn (tgt := 32) hF.1 hF.2.1 dX12_count_3 (by decide +kernel) (by decide +kernel) rfl (by decide) ?_
    refine lv_aload_n hF.1 hF.2.1 dX12_count_32 rfl (lv_at hl 1 rfl) ?_
    refine k_get (C := RX12) (T := TX12) (N := 19) hF hK hG (fun _ h => List.mem_cons_of_mem _ (List.mem_append_right _ h)) 0 rfl rfl 0 (by decide) (List.mem_of_getElem? (i := 1) rfl) (fun _ h9 => h9) rfl dX12_count_33 ?_
    refine lv_iconst (v := (nI 0)) hF.1 hF.2.1 dX12_count_36 (by decide +kernel) ?_
    refine k_ialdN hF hK hG 1 rfl (0) rfl (by omega) (by omega) dX12_count_37 ?_
    rw [hS.1]
    exact hret _ () _ ls _ _ _ _ (by unfold spCount; first | rw [if_pos e3_0] | rw [if_neg e3_0, if_pos e3_1] | rw [if_neg e3_0, if_neg e3_1, if_pos e3_2] | (rw [if_neg e3_0, if_neg e3_1, if_neg e3_2, if_pos e3_3, show j = n by omega]) | rw [if_neg e3_0, if_neg e3_1, if_neg e3_2, if_neg e3_3]) (by first | rfl | exact nar_b2i _) hG (Nat.le_of_ble_eq_true rfl) (Nat.le_of_ble_eq_true rfl) dX12_count_38
  refine sw_by (nI 1) (fun e3_1 => ?_) (fun e3_1 => ?_)
  · --
    refine lv_tableIn (tgt := 39) hF.1 hF.2.1 dX12_count_3 (by decide +kernel) (by decide +kernel) rfl (by decide) ?_
    refine lv_aload_n hF.1 hF.2.1 dX12_count_39 rfl (lv_at hl 1 rfl) ?_
    refine k_get (C := RX12) (T := TX12) (N := 19) hF hK hG (fun _ h => List.mem_cons_of_mem _ (List.mem_append_right _ h)) 0 rfl rfl 0 (by decide) (List.mem_of_getElem? (i := 1) rfl) (fun _ h9 => h9) rfl dX12_count_40 ?_
    refine lv_iconst (v := (nI 1)) hF.1 hF.2.1 dX12_count_43 (by decide +kernel) ?_
    refine k_ialdN hF hK hG 1 rfl (1) rfl (by omega) (by omega) dX12_count_44 ?_
    rw [hS.2.1]
    refine k_ci (r_S (As := [.int (nI o)]) hF hK hA hG (c_X12_bits (by omega)) (cwS 1 hF.2.2.2.2 gX12_count_X12_bits rfl rfl rfl (by decide +kernel) ⟨Nat.le_of_ble_eq_true rfl, Nat.le_of_ble_eq_true rfl⟩) rfl hl.1 rfl (lv_room (Nat.le_of_ble_eq_true rfl)) dX12_count_45 ⟨Nat.le_of_ble_eq_true rfl, Nat.le_of_ble_eq_true rfl⟩) hG (fun r_45 u_45 H locs hp_45 hG => ?_)
    subst hp_45
    exact hret _ () _ ls _ _ _ _ (by unfold spCount; first | rw [if_pos e3_0] | rw [if_neg e3_0, if_pos e3_1] | rw [if_neg e3_0, if_neg e3_1, if_pos e3_2] | (rw [if_neg e3_0, if_neg e3_1, if_neg e3_2, if_pos e3_3, show j = n by omega]) | rw [if_neg e3_0, if_neg e3_1, if_neg e3_2, if_neg e3_3]) (by first | rfl | exact nar_b2i _) hG (Nat.le_of_ble_eq_true rfl) (Nat.le_of_ble_eq_true rfl) dX12_count_48
  refine sw_by (nI 2) (fun e3_2 => ?_) (fun e3_2 => ?_)
  · --
    refine lv_tableIn (tgt := 49) hF.1 hF.2.1 dX12_count_3 (by decide +kernel) (by decide +kernel) rfl (by decide) ?_
    refine lv_aload_n hF.1 hF.2.1 dX12_count_49 rfl (lv_at hl 1 rfl) ?_
    refine lv_aload_n hF.1 hF.2.1 dX12_count_50 rfl (lv_at hl 1 rfl) ?_
    refine k_get (C := RX12) (T := TX12) (N := 19) hF hK hG (fun _ h => List.mem_cons_of_mem _ (List.mem_append_right _ h)) 0 rfl rfl 0 (by decide) (List.mem_of_getElem? (i := 1) rfl) (fun _ h9 => h9) rfl dX12_count_51 ?_
    refine lv_iconst (v := (nI 1)) hF.1 hF.2.1 dX12_count_54 (by decide +kernel) ?_
    refine k_ialdN hF hK hG 1 rfl (1) rfl (by omega) (by omega) dX12_count_55 ?_
    rw [hS.2.1]
    refine k_ci (r_V (As := [.int (nI o)]) hF hK hA hG (c_X12_allMay hS ho) (cwV 1 hF.2.2.2.2 gX12_count_X12_allMay rfl rfl rfl (by decide +kernel) ⟨Nat.le_of_ble_eq_true rfl, Nat.le_of_ble_eq_true rfl⟩) 0 rfl rfl rfl rfl hl.1 rfl (lv_room (Nat.le_of_ble_eq_true rfl)) dX12_count_56 ⟨Nat.le_of_ble_eq_true rfl, Nat.le_of_ble_eq_true rfl⟩) hG (fun r_56 u_56 H locs hp_56 hG => ?_)
    subst hp_56
    refine k_ci (r_S (As := [.int (nI (mayU kd fg o n))]) hF hK hA hG (c_X12_bits (Nat.lt_of_lt_of_le (mayU_lt kd fg o n) (show 2 ^ n ≤ 2 ^ 8 from Nat.pow_le_pow_right (by decide) (by omega)))) (cwS 1 hF.2.2.2.2 gX12_count_X12_bits rfl rfl rfl (by decide +kernel) ⟨Nat.le_of_ble_eq_true rfl, Nat.le_of_ble_eq_true rfl⟩) rfl hl.1 rfl (lv_room (Nat.le_of_ble_eq_true rfl)) dX12_count_59 ⟨Nat.le_of_ble_eq_true rfl, Nat.le_of_ble_eq_true rfl⟩) hG (fun r_59 u_59 H locs hp_59 hG => ?_)
    subst hp_59
    exact hret _ () _ ls _ _ _ _ (by unfold spCount; first | rw [if_pos e3_0] | rw [if_neg e3_0, if_pos e3_1] | rw [if_neg e3_0, if_neg e3_1, if_pos e3_2] | (rw [if_neg e3_0, if_neg e3_1, if_neg e3_2, if_pos e3_3, show j = n by omega]) | rw [if_neg e3_0, if_neg e3_1, if_neg e3_2, if_neg e3_3]) (by first | rfl | exact nar_b2i _) hG (Nat.le_of_ble_eq_true rfl) (Nat.le_of_ble_eq_true rfl) dX12_count_62
  refine sw_by (nI 3) (fun e3_3 => ?_) (fun e3_3 => ?_)
  · --
    refine lv_tableIn (tgt := 63) hF.1 hF.2.1 dX12_count_3 (by decide +kernel) (by decide +kernel) rfl (by decide) ?_
    refine lv_iconst (v := (nI 0)) hF.1 hF.2.1 dX12_count_63 (by decide +kernel) ?_
    refine lv_istore_n (lv' := [(3, .int (nI 0)), (2, .int (nI 0)), (0, .ref (ob 0)), (1, .int what)]) hF.1 hF.2.1 dX12_count_64 rfl hl (by decide) rfl (fun ls hl => ?_)
    have lp65 : ∀ (fuel : Nat), ∀ (j : Nat), (hj : j ≤ n) → (n - j) < fuel → ∀ (H : Heap) (locs : List Loc), Gd D A (MW cA ob aS aI aR aM aK aT aZ aE aD aF aN aP aH vH vT vP vB vE vS) s.heap H locs → ∀ ls : Array Slot, lv_has ls 4 [(0, .ref (ob 0)), (1, .int what), (2, .int (nI (howU kd 2 j))), (3, .int (nI j))] → W p l e rmX12_count s m args below meth c H locs (0) (0) Q (F0 m 65 ls []) := by
      intro fuel
      induction fuel with
      | zero => intro j hj hmu; exact absurd hmu (Nat.not_lt_zero _)
      | succ fuel ih65 =>
        intro j hj hmu H locs hG ls hl
        refine lv_iload_n hF.1 hF.2.1 dX12_count_65 rfl (lv_at hl 3 rfl) ?_
        refine lv_aload_n hF.1 hF.2.1 dX12_count_66 rfl (lv_at hl 0 rfl) ?_
        refine k_get (C := RX12) (T := TX12) (N := 19) hF hK hG (fun _ h => List.mem_cons_of_mem _ (List.mem_append_right _ h)) 0 rfl rfl 0 (by decide) (List.mem_of_getElem? (i := 1) rfl) (fun _ h9 => h9) rfl dX12_count_67 ?_
        refine lv_iconst (v := (nI 0)) hF.1 hF.2.1 dX12_count_70 (by decide +kernel) ?_
        refine k_ialdN hF hK hG 1 rfl (0) rfl (by omega) (by omega) dX12_count_71 ?_
        rw [hS.1]
        refine lv_icmp_ge (tgt := 98) hF.1 hF.2.1 dX12_count_72 (by decide) (fun c_72 => ?_) (fun c_72 => ?_)
        · --
          have n_72 : n ≤ j := (nI_leI (a := n) (b := j) (by omega) (by omega)).mp c_72
          refine lv_iload_n hF.1 hF.2.1 dX12_count_98 rfl (lv_at hl 2 rfl) ?_
          exact hret _ () _ ls _ _ _ _ (by unfold spCount; first | rw [if_pos e3_0] | rw [if_neg e3_0, if_pos e3_1] | rw [if_neg e3_0, if_neg e3_1, if_pos e3_2] | (rw [if_neg e3_0, if_neg e3_1, if_neg e3_2, if_pos e3_3, show j = n by omega]) | rw [if_neg e3_0, if_neg e3_1, if_neg e3_2, if_neg e3_3]) (by first | rfl | exact nar_b2i _) hG (Nat.le_of_ble_eq_true rfl) (Nat.le_of_ble_eq_true rfl) dX12_count_99
        · --
          have n_72 : ¬ (n ≤ j) := fun zz9 => c_72 ((nI_leI (a := n) (b := j) (by omega) (by omega)).mpr zz9)
          refine lv_iload_n hF.1 hF.2.1 dX12_count_75 rfl (lv_at hl 2 rfl) ?_
          refine lv_aload_n hF.1 hF.2.1 dX12_count_76 rfl (lv_at hl 0 rfl) ?_
          refine lv_iload_n hF.1 hF.2.1 dX12_count_77 rfl (lv_at hl 3 rfl) ?_
          refine k_ci (r_V (As := [.int (nI j)]) hF hK hA hG (c_X12_kind hS (by omega)) (cwV 1 hF.2.2.2.2 gX12_count_X12_kind rfl rfl rfl (by decide +kernel) ⟨Nat.le_of_ble_eq_true rfl, Nat.le_of_ble_eq_true rfl⟩) 0 rfl rfl rfl rfl hl.1 rfl (lv_room (Nat.le_of_ble_eq_true rfl)) dX12_count_78 ⟨Nat.le_of_ble_eq_true rfl, Nat.le_of_ble_eq_true rfl⟩) hG (fun r_78 u_78 H locs hp_78 hG => ?_)
          subst hp_78
          have hk8 := (hS.2.2.2.2 j (by omega)).2.2.1
          refine lv_iconst (v := (nI 2)) hF.1 hF.2.1 dX12_count_81 (by decide +kernel) ?_
          refine lv_icmp_ne (tgt := 89) hF.1 hF.2.1 dX12_count_82 (by decide) (fun c_82 => ?_) (fun c_82 => ?_)
          · --
            have n_82 : ¬ (kd j = 2) := fun zz9 => c_82 ((nI_eq (a := kd j) (b := 2) (by omega) (by omega)).mpr zz9)
            refine lv_iconst (v := (nI 0)) hF.1 hF.2.1 dX12_count_89 (by decide +kernel) ?_
            refine lv_iadd hF.1 hF.2.1 dX12_count_90 ?_
            rw [nI_add]
            refine lv_istore_n (lv' := [(2, .int (nI (howU kd 2 j + 0))), (0, .ref (ob 0)), (1, .int what), (3, .int (nI j))]) hF.1 hF.2.1 dX12_count_91 rfl hl (by decide) rfl (fun ls hl => ?_)
            refine lv_iinc (v := (nI (j + 1))) (lv' := [(3, .int (nI (j + 1))), (2, .int (nI (howU kd 2 j + 0))), (0, .ref (ob 0)), (1, .int what)]) hF.1 hF.2.1 dX12_count_92 hl (k := 3) rfl (nI_inc _ _) (by decide) rfl (fun ls hl => ?_)
            refine lv_goto (tgt := 65) hF.1 hF.2.1 dX12_count_95 (by decide) ?_
            exact ih65 (j + 1) (by omega) (by omega) _ _ hG ls (lv_sub hl [2, 3, 1, 0] (by first | (rw [howU_t n_82]; rfl) | (rw [howU_f n_82]; rfl)))
          · --
            have n_82 : kd j = 2 := (nI_eq (a := kd j) (b := 2) (by omega) (by omega)).mp c_82
            refine lv_iconst (v := (nI 1)) hF.1 hF.2.1 dX12_count_85 (by decide +kernel) ?_
            refine lv_goto (tgt := 90) hF.1 hF.2.1 dX12_count_86 (by decide) ?_
            refine lv_iadd hF.1 hF.2.1 dX12_count_90 ?_
            rw [nI_add]
            refine lv_istore_n (lv' := [(2, .int (nI (howU kd 2 j + 1))), (0, .ref (ob 0)), (1, .int what), (3, .int (nI j))]) hF.1 hF.2.1 dX12_count_91 rfl hl (by decide) rfl (fun ls hl => ?_)
            refine lv_iinc (v := (nI (j + 1))) (lv' := [(3, .int (nI (j + 1))), (2, .int (nI (howU kd 2 j + 1))), (0, .ref (ob 0)), (1, .int what)]) hF.1 hF.2.1 dX12_count_92 hl (k := 3) rfl (nI_inc _ _) (by decide) rfl (fun ls hl => ?_)
            refine lv_goto (tgt := 65) hF.1 hF.2.1 dX12_count_95 (by decide) ?_
            exact ih65 (j + 1) (by omega) (by omega) _ _ hG ls (lv_sub hl [2, 3, 1, 0] (by first | (rw [howU_t n_82]; rfl) | (rw [howU_f n_82]; rfl)))
    exact lp65 _ (0) (by omega) (Nat.lt_succ_self _) _ _ hG ls (lv_sub hl [2, 3, 1, 0] rfl)
  refine lv_tableOut (tgt := 100) hF.1 hF.2.1 dX12_count_3 (by have q_0 := lv_neT e3_0 (a := 0) (by decide +kernel); have q_1 := lv_neT e3_1 (a := 1) (by decide +kernel); have q_2 := lv_neT e3_2 (a := 2) (by decide +kernel); have q_3 := lv_neT e3_3 (a := 3) (by decide +kernel); omega) (by decide) ?_
  refine lv_iconst (v := (-1)) hF.1 hF.2.1 dX12_count_100 (by decide +kernel) ?_
  exact hret _ () _ ls _ _ _ _ (by unfold spCount; first | rw [if_pos e3_0] | rw [if_neg e3_0, if_pos e3_1] | rw [if_neg e3_0, if_neg e3_1, if_pos e3_2] | (rw [if_neg e3_0, if_neg e3_1, if_neg e3_2, if_pos e3_3, show j = n by omega]) | rw [if_neg e3_0, if_neg e3_1, if_neg e3_2, if_neg e3_3]) (by first | rfl | exact nar_b2i _) hG (Nat.le_of_ble_eq_true rfl) (Nat.le_of_ble_eq_true rfl) dX12_count_101

abbrev rmX12_thrown : Room := { frames := 0, cells := 0, slots := 0, locals := 0 }
set_option maxHeartbeats 4000000 in
set_option maxRecDepth 100000 in
theorem c_X12_thrown {l : Launch} {D : va_G} {cA : Nat → ClassId} {A : Nat → Prop}  {ob : Nat → Nat} {aS aI aR aM aK aT aZ aE aD aF aN aP aH : Nat → Int32} {vH vT vP vB vE vS : Int32} : Met l yX12_thrown wsX12_thrown rmX12_thrown (va_Pc [.ref (ob 0)] (Pre D cA A (MW cA ob aS aI aR aM aK aT aZ aE aD aF aN aP aH vH vT vP vB vE vS))) (va_Qi (fun r _ => r = vT) (fun u t => Wd D A ((fun (_ : Unit) => MW cA ob aS aI aR aM aK aT aZ aE aD aF aN aP aH vH vT vP vB vE vS) u) t) A) (0) (0) A := by
  refine k_ofi (S := Unit) (F := fun (_ : Unit) => MW cA ob aS aI aR aM aK aT aZ aE aD aF aN aP aH vH vT vP vB vE vS) (cc := cX12_thrown) (maxL := 1) (by decide) rfl (Nat.le_of_ble_eq_true rfl) ?_
  intro p e s m args below meth c Q hF hini hK hA hG hret ls hl
  have hl : lv_has ls 1 [(0, .ref (ob 0))] := hl
  refine lv_aload_n hF.1 hF.2.1 dX12_thrown_0 rfl (lv_at hl 0 rfl) ?_
  refine k_get (C := RX12) (T := TX12) (N := 19) hF hK hG (fun _ h => List.mem_cons_of_mem _ (List.mem_append_right _ h)) 0 rfl rfl 11 (by decide) (List.mem_of_getElem? (i := 1) rfl) (fun _ h9 => h9) rfl dX12_thrown_1 ?_
  exact hret _ () _ ls _ _ _ _ (by first | rfl | (simp_all; done)) (by first | rfl | exact nar_b2i _) hG (Nat.le_of_ble_eq_true rfl) (Nat.le_of_ble_eq_true rfl) dX12_thrown_4

abbrev rmX12_image : Room := { frames := 1, cells := 0, slots := 0, locals := 22 }
set_option maxHeartbeats 4000000 in
set_option maxRecDepth 100000 in
theorem c_X12_image {l : Launch} {D : va_G} {cA : Nat → ClassId} {A : Nat → Prop}  {ob : Nat → Nat} {aS aI aR aM aK aT aZ aE aD aF aN aP aH : Nat → Int32} {vH vT vP vB vE vS : Int32} {n o : Nat} {kd fg : Nat → Nat} (hS : SR aS n o kd fg) : Met l yX12_image wsX12_image rmX12_image (va_Pc [.ref (ob 0)] (Pre D cA A (MW cA ob aS aI aR aM aK aT aZ aE aD aF aN aP aH vH vT vP vB vE vS))) (va_Qi (fun r _ => r = nI o) (fun u t => Wd D A ((fun (_ : Unit) => MW cA ob aS (cpyN 14 aS aI) aR aM aK aT aZ aE aD aF aN aP aH (nI 1) vT vP vB vE vS) u) t) A) (0) (0) A := by
  refine k_ofi (S := Unit) (F := fun (_ : Unit) => MW cA ob aS (cpyN 14 aS aI) aR aM aK aT aZ aE aD aF aN aP aH (nI 1) vT vP vB vE vS) (cc := cX12_image) (maxL := 1) (by decide) rfl (Nat.le_of_ble_eq_true rfl) ?_
  intro p e s m args below meth c Q hF hini hK hA hG hret ls hl
  have hl : lv_has ls 1 [(0, .ref (ob 0))] := hl
  have hn : n ≤ 6 := hS.2.2.1
  have ho : o < 64 := hS.o64
  refine lv_aload_n hF.1 hF.2.1 dX12_image_0 rfl (lv_at hl 0 rfl) ?_
  refine k_get (C := RX12) (T := TX12) (N := 19) hF hK hG (fun _ h => List.mem_cons_of_mem _ (List.mem_append_right _ h)) 0 rfl rfl 0 (by decide) (List.mem_of_getElem? (i := 1) rfl) (fun _ h9 => h9) rfl dX12_image_1 ?_
  refine lv_aload_n hF.1 hF.2.1 dX12_image_4 rfl (lv_at hl 0 rfl) ?_
  refine k_get (C := RX12) (T := TX12) (N := 19) hF hK hG (fun _ h => List.mem_cons_of_mem _ (List.mem_append_right _ h)) 0 rfl rfl 1 (by decide) (List.mem_of_getElem? (i := 2) rfl) (fun _ h9 => h9) rfl dX12_image_5 ?_
  refine k_cv (r_S (As := [.ref (ob 1), .ref (ob 2)]) hF hK hA hG (c_X12_lays (qa := 1) (qb := 2) rfl rfl (fun h => absurd (hG.2.1.1 2 1 _ _ rfl rfl h) (by decide))) (cwS 2 hF.2.2.2.2 gX12_image_X12_lays rfl rfl rfl (by decide +kernel) ⟨Nat.le_of_ble_eq_true rfl, Nat.le_of_ble_eq_true rfl⟩) rfl hl.1 rfl (lv_room (Nat.le_of_ble_eq_true rfl)) dX12_image_8 ⟨Nat.le_of_ble_eq_true rfl, Nat.le_of_ble_eq_true rfl⟩) hG (fun u_8 H locs hp_8 hG => ?_)
  refine lv_aload_n hF.1 hF.2.1 dX12_image_11 rfl (lv_at hl 0 rfl) ?_
  refine lv_iconst (v := (nI 1)) hF.1 hF.2.1 dX12_image_12 (by decide +kernel) ?_
  refine k_put (C := RX12) (T := TX12) (N := 19) hF hK hG (fun _ h => List.mem_cons_of_mem _ (List.mem_append_right _ h)) tyX12 tyX12_ok nmX12 0 rfl rfl 10 (by decide) (List.mem_of_getElem? (i := 3) rfl) (fun _ h9 => h9) rfl rfl rfl (Nat.le_of_ble_eq_true rfl) dX12_image_13 (fun H locs hG => ?_)
  refine lv_aload_n hF.1 hF.2.1 dX12_image_16 rfl (lv_at hl 0 rfl) ?_
  refine k_get (C := RX12) (T := TX12) (N := 19) hF hK hG (fun _ h => List.mem_cons_of_mem _ (List.mem_append_right _ h)) 0 rfl rfl 0 (by decide) (List.mem_of_getElem? (i := 1) rfl) (fun _ h9 => h9) rfl dX12_image_17 ?_
  refine lv_iconst (v := (nI 1)) hF.1 hF.2.1 dX12_image_20 (by decide +kernel) ?_
  refine k_ialdN hF hK hG 1 rfl (1) rfl (by omega) (by omega) dX12_image_21 ?_
  exact hret _ () _ ls _ _ _ _ (by exact hS.2.1) (by first | rfl | exact nar_b2i _) hG (Nat.le_of_ble_eq_true rfl) (Nat.le_of_ble_eq_true rfl) dX12_image_22

abbrev rmX12_restore : Room := { frames := 1, cells := 0, slots := 0, locals := 22 }
set_option maxHeartbeats 4000000 in
set_option maxRecDepth 100000 in
theorem c_X12_restore {l : Launch} {D : va_G} {cA : Nat → ClassId} {A : Nat → Prop}  {ob : Nat → Nat} {aS aI aR aM aK aT aZ aE aD aF aN aP aH : Nat → Int32} {vH vT vP vB vE vS : Int32} {n o : Nat} {kd fg : Nat → Nat} (hS : SR aS n o kd fg) {n2 o2 : Nat} {kd2 fg2 : Nat → Nat} (hI : SR aI n2 o2 kd2 fg2) {tk : Bool} (hH : vH = b2i tk) : Met l yX12_restore wsX12_restore rmX12_restore (va_Pc [.ref (ob 0)] (Pre D cA A (MW cA ob aS aI aR aM aK aT aZ aE aD aF aN aP aH vH vT vP vB vE vS))) (va_Qi (fun r (u : Nat → Int32) => r = (if tk = true then nI o2 else -3) ∧ (tk = true → SR u n2 o2 kd2 fg2) ∧ (tk = false → u = aS)) (fun u t => Wd D A ((fun (u : Nat → Int32) => MW cA ob u aI aR aM aK aT aZ aE aD aF aN aP aH vH vT vP vB vE vS) u) t) A) (0) (0) A := by
  refine k_ofi (S := Nat → Int32) (F := fun (u : Nat → Int32) => MW cA ob u aI aR aM aK aT aZ aE aD aF aN aP aH vH vT vP vB vE vS) (cc := cX12_restore) (maxL := 1) (by decide) rfl (Nat.le_of_ble_eq_true rfl) ?_
  intro p e s m args below meth c Q hF hini hK hA hG hret ls hl
  have hl : lv_has ls 1 [(0, .ref (ob 0))] := hl
  have hn : n ≤ 6 := hS.2.2.1
  have ho : o < 64 := hS.o64
  subst hH
  refine lv_aload_n hF.1 hF.2.1 dX12_restore_0 rfl (lv_at hl 0 rfl) ?_
  refine k_get (C := RX12) (T := TX12) (N := 19) hF hK hG (fun _ h => List.mem_cons_of_mem _ (List.mem_append_right _ h)) 0 rfl rfl 10 (by decide) (List.mem_of_getElem? (i := 1) rfl) (fun _ h9 => h9) rfl dX12_restore_1 ?_
  refine lv_if_ne (tgt := 10) hF.1 hF.2.1 dX12_restore_4 (by decide) (fun c_4 => ?_) (fun c_4 => ?_)
  · --
    have n_4 : (tk) = true := b2i_nz.mp c_4
    refine lv_aload_n hF.1 hF.2.1 dX12_restore_10 rfl (lv_at hl 0 rfl) ?_
    refine k_get (C := RX12) (T := TX12) (N := 19) hF hK hG (fun _ h => List.mem_cons_of_mem _ (List.mem_append_right _ h)) 0 rfl rfl 1 (by decide) (List.mem_of_getElem? (i := 2) rfl) (fun _ h9 => h9) rfl dX12_restore_11 ?_
    refine lv_aload_n hF.1 hF.2.1 dX12_restore_14 rfl (lv_at hl 0 rfl) ?_
    refine k_get (C := RX12) (T := TX12) (N := 19) hF hK hG (fun _ h => List.mem_cons_of_mem _ (List.mem_append_right _ h)) 0 rfl rfl 0 (by decide) (List.mem_of_getElem? (i := 3) rfl) (fun _ h9 => h9) rfl dX12_restore_15 ?_
    refine k_cv (r_S (As := [.ref (ob 2), .ref (ob 1)]) hF hK hA hG (c_X12_lays (qa := 2) (qb := 1) rfl rfl (fun h => absurd (hG.2.1.1 1 2 _ _ rfl rfl h) (by decide))) (cwS 2 hF.2.2.2.2 gX12_restore_X12_lays rfl rfl rfl (by decide +kernel) ⟨Nat.le_of_ble_eq_true rfl, Nat.le_of_ble_eq_true rfl⟩) rfl hl.1 rfl (lv_room (Nat.le_of_ble_eq_true rfl)) dX12_restore_18 ⟨Nat.le_of_ble_eq_true rfl, Nat.le_of_ble_eq_true rfl⟩) hG (fun u_18 H locs hp_18 hG => ?_)
    refine lv_aload_n hF.1 hF.2.1 dX12_restore_21 rfl (lv_at hl 0 rfl) ?_
    refine k_get (C := RX12) (T := TX12) (N := 19) hF hK hG (fun _ h => List.mem_cons_of_mem _ (List.mem_append_right _ h)) 0 rfl rfl 0 (by decide) (List.mem_of_getElem? (i := 3) rfl) (fun _ h9 => h9) rfl dX12_restore_22 ?_
    refine lv_iconst (v := (nI 1)) hF.1 hF.2.1 dX12_restore_25 (by decide +kernel) ?_
    refine k_ialdN hF hK hG 1 rfl (1) rfl (by omega) (by omega) dX12_restore_26 ?_
    exact hret _ (cpyN 14 aI aS) _ ls _ _ _ _ (by rw [n_4]; exact ⟨(hI.cpy (g := aS)).2.1, fun _ => hI.cpy, (fun h => by cases h)⟩) (by first | rfl | exact nar_b2i _) hG (Nat.le_of_ble_eq_true rfl) (Nat.le_of_ble_eq_true rfl) dX12_restore_27
  · --
    have n_4 : (tk) = false := b2i_z.mp c_4
    refine lv_bipush (v := (-3)) hF.1 hF.2.1 dX12_restore_7 (by decide +kernel) ?_
    exact hret _ aS _ ls _ _ _ _ (by rw [n_4]; exact ⟨rfl, (fun h => by cases h), fun _ => rfl⟩) (by first | rfl | exact nar_b2i _) hG (Nat.le_of_ble_eq_true rfl) (Nat.le_of_ble_eq_true rfl) dX12_restore_9

abbrev rmX12_keep : Room := { frames := 2, cells := 0, slots := 0, locals := 45 }
set_option maxHeartbeats 4000000 in
set_option maxRecDepth 100000 in
theorem c_X12_keep {l : Launch} {D : va_G} {cA : Nat → ClassId} {A : Nat → Prop}  {ob : Nat → Nat} {aS aI aR aM aK aT aZ aE aD aF aN aP aH : Nat → Int32} {vH vT vP vB vE vS : Int32} {x : Nat → Sf} (hXF : ∀ d, d < 8 → SF aK aT aZ aE aD aF d (x d)) {d what k f : Int32} : Met l yX12_keep wsX12_keep rmX12_keep (va_Pc [.ref (ob 0), .int d, .int what, .int k, .int f] (Pre D cA A (MW cA ob aS aI aR aM aK aT aZ aE aD aF aN aP aH vH vT vP vB vE vS))) (va_Qi (fun r (u : (Nat → Int32) × (Nat → Int32) × (Nat → Int32)) => r = (spKeep x d what k f).1 ∧ ∀ e, e < 8 → SF u.1 aT aZ aE u.2.1 u.2.2 e ((spKeep x d what k f).2 e)) (fun u t => Wd D A ((fun (u : (Nat → Int32) × (Nat → Int32) × (Nat → Int32)) => MW cA ob aS aI aR aM u.1 aT aZ aE u.2.1 u.2.2 aN aP aH vH vT vP vB vE vS) u) t) A) (0) (0) A := by
  refine k_ofi (S := (Nat → Int32) × (Nat → Int32) × (Nat → Int32)) (F := fun (u : (Nat → Int32) × (Nat → Int32) × (Nat → Int32)) => MW cA ob aS aI aR aM u.1 aT aZ aE u.2.1 u.2.2 aN aP aH vH vT vP vB vE vS) (cc := cX12_keep) (maxL := 5) (by decide) rfl (Nat.le_of_ble_eq_true rfl) ?_
  intro p e s m args below meth c Q hF hini hK hA hG hret ls hl
  have hl : lv_has ls 5 [(0, .ref (ob 0)), (1, .int d), (2, .int what), (3, .int k), (4, .int f)] := hl
  refine lv_iload_n hF.1 hF.2.1 dX12_keep_0 rfl (lv_at hl 1 rfl) ?_
  refine k_ci (r_S (As := [.int d]) hF hK hA hG (c_X12_isShelf) (cwS 1 hF.2.2.2.2 gX12_keep_X12_isShelf rfl rfl rfl (by decide +kernel) ⟨Nat.le_of_ble_eq_true rfl, Nat.le_of_ble_eq_true rfl⟩) rfl hl.1 rfl (lv_room (Nat.le_of_ble_eq_true rfl)) dX12_keep_1 ⟨Nat.le_of_ble_eq_true rfl, Nat.le_of_ble_eq_true rfl⟩) hG (fun r_1 u_1 H locs hp_1 hG => ?_)
  subst hp_1
  refine lv_if_eq (tgt := 47) hF.1 hF.2.1 dX12_keep_4 (by decide) (fun c_4 => ?_) (fun c_4 => ?_)
  · --
    have n_4 : (inB 8 d) = false := b2i_z.mp c_4
    refine lv_iconst (v := (-1)) hF.1 hF.2.1 dX12_keep_47 (by decide +kernel) ?_
    exact hret _ (aK, aD, aF) _ ls _ _ _ _ (by first | (rw [spKeep_f (keepOk_1 n_4)]; exact ⟨rfl, hXF⟩) | (rw [spKeep_f (keepOk_2 n_14)]; exact ⟨rfl, hXF⟩) | (rw [spKeep_f (keepOk_3 c_19 n_31)]; exact ⟨rfl, hXF⟩) | (rw [spKeep_f (keepOk_4 c_19 n_44)]; exact ⟨rfl, hXF⟩)) (by first | rfl | exact nar_b2i _) hG (Nat.le_of_ble_eq_true rfl) (Nat.le_of_ble_eq_true rfl) dX12_keep_48
  · --
    have n_4 : (inB 8 d) = true := b2i_nz.mp c_4
    obtain ⟨j, hj, rfl⟩ := inB_ex (by omega) n_4
    refine lv_iload_n hF.1 hF.2.1 dX12_keep_7 rfl (lv_at hl 2 rfl) ?_
    refine lv_i2l hF.1 hF.2.1 dX12_keep_8 rfl ?_
    refine lv_lconst (v := 0) hF.1 hF.2.1 dX12_keep_9 (by decide +kernel) ?_
    refine lv_lconst (v := 1) hF.1 hF.2.1 dX12_keep_10 (by decide +kernel) ?_
    refine k_ci (r_S (As := [.long (what.toInt64), .long (0), .long (1)]) hF hK hA hG (c_X12_isIn) (cwS 3 hF.2.2.2.2 gX12_keep_X12_isIn rfl rfl rfl (by decide +kernel) ⟨Nat.le_of_ble_eq_true rfl, Nat.le_of_ble_eq_true rfl⟩) rfl hl.1 rfl (lv_room (Nat.le_of_ble_eq_true rfl)) dX12_keep_11 ⟨Nat.le_of_ble_eq_true rfl, Nat.le_of_ble_eq_true rfl⟩) hG (fun r_11 u_11 H locs hp_11 hG => ?_)
    rw [inL (n := 2) (by omega) (by decide +kernel)] at hp_11
    subst hp_11
    refine lv_if_eq (tgt := 47) hF.1 hF.2.1 dX12_keep_14 (by decide) (fun c_14 => ?_) (fun c_14 => ?_)
    · --
      have n_14 := b2i_z.mp c_14
      refine lv_iconst (v := (-1)) hF.1 hF.2.1 dX12_keep_47 (by decide +kernel) ?_
      exact hret _ (aK, aD, aF) _ ls _ _ _ _ (by first | (rw [spKeep_f (keepOk_1 n_4)]; exact ⟨rfl, hXF⟩) | (rw [spKeep_f (keepOk_2 n_14)]; exact ⟨rfl, hXF⟩) | (rw [spKeep_f (keepOk_3 c_19 n_31)]; exact ⟨rfl, hXF⟩) | (rw [spKeep_f (keepOk_4 c_19 n_44)]; exact ⟨rfl, hXF⟩)) (by first | rfl | exact nar_b2i _) hG (Nat.le_of_ble_eq_true rfl) (Nat.le_of_ble_eq_true rfl) dX12_keep_48
    · --
      have n_14 := b2i_nz.mp c_14
      refine lv_iload_n hF.1 hF.2.1 dX12_keep_17 rfl (lv_at hl 2 rfl) ?_
      refine lv_iconst (v := (nI 1)) hF.1 hF.2.1 dX12_keep_18 (by decide +kernel) ?_
      refine lv_icmp_ne (tgt := 49) hF.1 hF.2.1 dX12_keep_19 (by decide) (fun c_19 => ?_) (fun c_19 => ?_)
      · --
        refine lv_aload_n hF.1 hF.2.1 dX12_keep_49 rfl (lv_at hl 0 rfl) ?_
        refine k_get (C := RX12) (T := TX12) (N := 19) hF hK hG (fun _ h => List.mem_cons_of_mem _ (List.mem_append_right _ h)) 0 rfl rfl 4 (by decide) (List.mem_of_getElem? (i := 3) rfl) (fun _ h9 => h9) rfl dX12_keep_50 ?_
        refine lv_iload_n hF.1 hF.2.1 dX12_keep_53 rfl (lv_at hl 1 rfl) ?_
        refine lv_iload_n hF.1 hF.2.1 dX12_keep_54 rfl (lv_at hl 2 rfl) ?_
        refine k_iastN hF hK hG 5 rfl (j) rfl (by omega) (by omega) dX12_keep_55 (fun H locs hG => ?_)
        refine lv_aload_n hF.1 hF.2.1 dX12_keep_56 rfl (lv_at hl 0 rfl) ?_
        refine k_get (C := RX12) (T := TX12) (N := 19) hF hK hG (fun _ h => List.mem_cons_of_mem _ (List.mem_append_right _ h)) 0 rfl rfl 8 (by decide) (List.mem_of_getElem? (i := 4) rfl) (fun _ h9 => h9) rfl dX12_keep_57 ?_
        refine lv_iload_n hF.1 hF.2.1 dX12_keep_60 rfl (lv_at hl 1 rfl) ?_
        refine lv_iload_n hF.1 hF.2.1 dX12_keep_61 rfl (lv_at hl 3 rfl) ?_
        refine k_iastN hF hK hG 9 rfl (j) rfl (by omega) (by omega) dX12_keep_62 (fun H locs hG => ?_)
        refine lv_aload_n hF.1 hF.2.1 dX12_keep_63 rfl (lv_at hl 0 rfl) ?_
        refine k_get (C := RX12) (T := TX12) (N := 19) hF hK hG (fun _ h => List.mem_cons_of_mem _ (List.mem_append_right _ h)) 0 rfl rfl 9 (by decide) (List.mem_of_getElem? (i := 5) rfl) (fun _ h9 => h9) rfl dX12_keep_64 ?_
        refine lv_iload_n hF.1 hF.2.1 dX12_keep_67 rfl (lv_at hl 1 rfl) ?_
        refine lv_iload hF.1 hF.2.1 dX12_keep_68 (lv_at hl 4 rfl) ?_
        refine k_iastN hF hK hG 10 rfl (j) rfl (by omega) (by omega) dX12_keep_70 (fun H locs hG => ?_)
        refine lv_iconst (v := (nI 0)) hF.1 hF.2.1 dX12_keep_71 (by decide +kernel) ?_
        exact hret _ (_, _, _) _ ls _ _ _ _ (by first | (subst c_19; rw [spKeep_1 hj ha hb]; exact ⟨rfl, SF.upd hXF ⟨pk_us, pk_us, pk_us, ha, hb⟩ (fun e he => ⟨pk_un he, rfl, rfl, pk_un he, pk_un he⟩) (fun _ _ _ _ => rfl)⟩) | (rw [spKeep_0 hj n_14 c_19]; obtain ⟨w, hw, rfl⟩ := inB_ex (by omega) n_14; have hw0 : w = 0 := (by rcases (show w = 0 ∨ w = 1 by omega) with q | q; exact q; exact absurd (by rw [q]) c_19); subst hw0; exact ⟨rfl, SF.upd hXF pk_us (fun e he => ⟨pk_un he, rfl, rfl, pk_un he, pk_un he⟩) (fun _ _ _ _ => rfl)⟩)) (by first | rfl | exact nar_b2i _) hG (Nat.le_of_ble_eq_true rfl) (Nat.le_of_ble_eq_true rfl) dX12_keep_72
      · --
        refine lv_iload_n hF.1 hF.2.1 dX12_keep_22 rfl (lv_at hl 3 rfl) ?_
        refine lv_i2l hF.1 hF.2.1 dX12_keep_23 rfl ?_
        refine lv_lconst (v := 0) hF.1 hF.2.1 dX12_keep_24 (by decide +kernel) ?_
        refine lv_ldc2 hF.1 hF.2.1 (own := RX12) hF.2.2.2.1 (hF.2.2.2.2 _ (List.mem_of_getElem? (i := 1) rfl)) dX12_keep_25 ?_
        refine k_ci (r_S (As := [.long (k.toInt64), .long (0), .long (7)]) hF hK hA hG (c_X12_isIn) (cwS 3 hF.2.2.2.2 gX12_keep_X12_isIn rfl rfl rfl (by decide +kernel) ⟨Nat.le_of_ble_eq_true rfl, Nat.le_of_ble_eq_true rfl⟩) rfl hl.1 rfl (lv_room (Nat.le_of_ble_eq_true rfl)) dX12_keep_28 ⟨Nat.le_of_ble_eq_true rfl, Nat.le_of_ble_eq_true rfl⟩) hG (fun r_28 u_28 H locs hp_28 hG => ?_)
        rw [inL (n := 8) (by omega) (by decide +kernel)] at hp_28
        subst hp_28
        refine lv_if_eq (tgt := 47) hF.1 hF.2.1 dX12_keep_31 (by decide) (fun c_31 => ?_) (fun c_31 => ?_)
        · --
          have n_31 := b2i_z.mp c_31
          refine lv_iconst (v := (-1)) hF.1 hF.2.1 dX12_keep_47 (by decide +kernel) ?_
          exact hret _ (aK, aD, aF) _ ls _ _ _ _ (by first | (rw [spKeep_f (keepOk_1 n_4)]; exact ⟨rfl, hXF⟩) | (rw [spKeep_f (keepOk_2 n_14)]; exact ⟨rfl, hXF⟩) | (rw [spKeep_f (keepOk_3 c_19 n_31)]; exact ⟨rfl, hXF⟩) | (rw [spKeep_f (keepOk_4 c_19 n_44)]; exact ⟨rfl, hXF⟩)) (by first | rfl | exact nar_b2i _) hG (Nat.le_of_ble_eq_true rfl) (Nat.le_of_ble_eq_true rfl) dX12_keep_48
        · --
          have n_31 := b2i_nz.mp c_31
          refine lv_iload hF.1 hF.2.1 dX12_keep_34 (lv_at hl 4 rfl) ?_
          refine lv_i2l hF.1 hF.2.1 dX12_keep_36 rfl ?_
          refine lv_lconst (v := 0) hF.1 hF.2.1 dX12_keep_37 (by decide +kernel) ?_
          refine lv_ldc2 hF.1 hF.2.1 (own := RX12) hF.2.2.2.1 (hF.2.2.2.2 _ (List.mem_of_getElem? (i := 2) rfl)) dX12_keep_38 ?_
          refine k_ci (r_S (As := [.long (f.toInt64), .long (0), .long (9)]) hF hK hA hG (c_X12_isIn) (cwS 3 hF.2.2.2.2 gX12_keep_X12_isIn rfl rfl rfl (by decide +kernel) ⟨Nat.le_of_ble_eq_true rfl, Nat.le_of_ble_eq_true rfl⟩) rfl hl.1 rfl (lv_room (Nat.le_of_ble_eq_true rfl)) dX12_keep_41 ⟨Nat.le_of_ble_eq_true rfl, Nat.le_of_ble_eq_true rfl⟩) hG (fun r_41 u_41 H locs hp_41 hG => ?_)
          rw [inL (n := 10) (by omega) (by decide +kernel)] at hp_41
          subst hp_41
          refine lv_if_ne (tgt := 49) hF.1 hF.2.1 dX12_keep_44 (by decide) (fun c_44 => ?_) (fun c_44 => ?_)
          · --
            have n_44 := b2i_nz.mp c_44
            obtain ⟨a, ha, rfl⟩ := inB_ex (by omega) n_31
            obtain ⟨b, hb, rfl⟩ := inB_ex (by omega) n_44
            refine lv_aload_n hF.1 hF.2.1 dX12_keep_49 rfl (lv_at hl 0 rfl) ?_
            refine k_get (C := RX12) (T := TX12) (N := 19) hF hK hG (fun _ h => List.mem_cons_of_mem _ (List.mem_append_right _ h)) 0 rfl rfl 4 (by decide) (List.mem_of_getElem? (i := 3) rfl) (fun _ h9 => h9) rfl dX12_keep_50 ?_
            refine lv_iload_n hF.1 hF.2.1 dX12_keep_53 rfl (lv_at hl 1 rfl) ?_
            refine lv_iload_n hF.1 hF.2.1 dX12_keep_54 rfl (lv_at hl 2 rfl) ?_
            refine k_iastN hF hK hG 5 rfl (j) rfl (by omega) (by omega) dX12_keep_55 (fun H locs hG => ?_)
            refine lv_aload_n hF.1 hF.2.1 dX12_keep_56 rfl (lv_at hl 0 rfl) ?_
            refine k_get (C := RX12) (T := TX12) (N := 19) hF hK hG (fun _ h => List.mem_cons_of_mem _ (List.mem_append_right _ h)) 0 rfl rfl 8 (by decide) (List.mem_of_getElem? (i := 4) rfl) (fun _ h9 => h9) rfl dX12_keep_57 ?_
            refine lv_iload_n hF.1 hF.2.1 dX12_keep_60 rfl (lv_at hl 1 rfl) ?_
            refine lv_iload_n hF.1 hF.2.1 dX12_keep_61 rfl (lv_at hl 3 rfl) ?_
            refine k_iastN hF hK hG 9 rfl (j) rfl (by omega) (by omega) dX12_keep_62 (fun H locs hG => ?_)
            refine lv_aload_n hF.1 hF.2.1 dX12_keep_63 rfl (lv_at hl 0 rfl) ?_
            refine k_get (C := RX12) (T := TX12) (N := 19) hF hK hG (fun _ h => List.mem_cons_of_mem _ (List.mem_append_right _ h)) 0 rfl rfl 9 (by decide) (List.mem_of_getElem? (i := 5) rfl) (fun _ h9 => h9) rfl dX12_keep_64 ?_
            refine lv_iload_n hF.1 hF.2.1 dX12_keep_67 rfl (lv_at hl 1 rfl) ?_
            refine lv_iload hF.1 hF.2.1 dX12_keep_68 (lv_at hl 4 rfl) ?_
            refine k_iastN hF hK hG 10 rfl (j) rfl (by omega) (by omega) dX12_keep_70 (fun H locs hG => ?_)
            refine lv_iconst (v := (nI 0)) hF.1 hF.2.1 dX12_keep_71 (by decide +kernel) ?_
            exact hret _ (_, _, _) _ ls _ _ _ _ (by first | (subst c_19; rw [spKeep_1 hj ha hb]; exact ⟨rfl, SF.upd hXF ⟨pk_us, pk_us, pk_us, ha, hb⟩ (fun e he => ⟨pk_un he, rfl, rfl, pk_un he, pk_un he⟩) (fun _ _ _ _ => rfl)⟩) | (rw [spKeep_0 hj n_14 c_19]; obtain ⟨w, hw, rfl⟩ := inB_ex (by omega) n_14; have hw0 : w = 0 := (by rcases (show w = 0 ∨ w = 1 by omega) with q | q; exact q; exact absurd (by rw [q]) c_19); subst hw0; exact ⟨rfl, SF.upd hXF pk_us (fun e he => ⟨pk_un he, rfl, rfl, pk_un he, pk_un he⟩) (fun _ _ _ _ => rfl)⟩)) (by first | rfl | exact nar_b2i _) hG (Nat.le_of_ble_eq_true rfl) (Nat.le_of_ble_eq_true rfl) dX12_keep_72
          · --
            have n_44 := b2i_z.mp c_44
            refine lv_iconst (v := (-1)) hF.1 hF.2.1 dX12_keep_47 (by decide +kernel) ?_
            exact hret _ (aK, aD, aF) _ ls _ _ _ _ (by first | (rw [spKeep_f (keepOk_1 n_4)]; exact ⟨rfl, hXF⟩) | (rw [spKeep_f (keepOk_2 n_14)]; exact ⟨rfl, hXF⟩) | (rw [spKeep_f (keepOk_3 c_19 n_31)]; exact ⟨rfl, hXF⟩) | (rw [spKeep_f (keepOk_4 c_19 n_44)]; exact ⟨rfl, hXF⟩)) (by first | rfl | exact nar_b2i _) hG (Nat.le_of_ble_eq_true rfl) (Nat.le_of_ble_eq_true rfl) dX12_keep_48
