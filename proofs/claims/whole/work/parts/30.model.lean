/-! ===== the reference's world ===== -/
abbrev MW (cA : Nat → ClassId) (ob : Nat → Nat) (aS aI aR aM aK aT aZ aE aD aF aN aP aH : Nat → Int32) (vH vT vP vB vE vS : Int32) : va_W :=
  [(ob 0, .inr (12, [.ref (ob 1), .ref (ob 2), .ref (ob 3), .ref (ob 4), .ref (ob 5), .ref (ob 6), .ref (ob 7), .ref (ob 8), .ref (ob 9), .ref (ob 10), .int vH, .int vT, .int vP, .int vB, .int vE, .ref (ob 11), .ref (ob 12), .ref (ob 13), .int vS])),
   (ob 1, .inl (cA 0, 14, .inl aS)), (ob 2, .inl (cA 0, 14, .inl aI)), (ob 3, .inl (cA 0, 14, .inl aR)), (ob 4, .inl (cA 0, 14, .inl aM)), (ob 5, .inl (cA 0, 8, .inl aK)), (ob 6, .inl (cA 0, 8, .inl aT)), (ob 7, .inl (cA 0, 8, .inl aZ)), (ob 8, .inl (cA 0, 800, .inl aE)), (ob 9, .inl (cA 0, 8, .inl aD)), (ob 10, .inl (cA 0, 8, .inl aF)), (ob 11, .inl (cA 0, 2, .inl aN)), (ob 12, .inl (cA 0, 64, .inl aP)), (ob 13, .inl (cA 0, 4096, .inl aH))]
/-- a row of 14 ints tells a wall -/
def SR (a : Nat → Int32) (n o : Nat) (kd fg : Nat → Nat) : Prop := a 0 = nI n ∧ a 1 = nI o ∧ n ≤ 6 ∧ o < 2 ^ n ∧ ∀ i, i < n → a (2 + 2 * i) = nI (kd i) ∧ a (2 + 2 * i + 1) = nI (fg i) ∧ kd i < 8 ∧ fg i < 10
theorem SR.o64 {a : Nat → Int32} {n o : Nat} {kd fg : Nat → Nat} (h : SR a n o kd fg) : o < 64 := Nat.lt_of_lt_of_le h.2.2.2.1 (Nat.pow_le_pow_right (by decide) h.2.2.1)
theorem inL {n : Nat} {d : Int32} {m : Int64} (hn : n < 2 ^ 31) (hm : m.toInt = (n : Int) - 1) : decide ((0 : Int64) ≤ d.toInt64 ∧ d.toInt64 ≤ m) = inB n d := by
  unfold inB
  rw [decide_eq_decide, Int64.le_iff_toInt_le, Int64.le_iff_toInt_le, Int32.toInt_toInt64, hm, Int32.lt_iff_toInt_lt, Int32.le_iff_toInt_le, nI_toInt hn]
  show (0 : Int) ≤ d.toInt ∧ d.toInt ≤ (n : Int) - 1 ↔ ¬ d.toInt < (0 : Int) ∧ ¬ (n : Int) ≤ d.toInt
  omega
theorem m1_6 {n : Nat} (h : n < 65) : ((nI n - nI 1).toInt64).toInt = (n : Int) - 1 := by
  apply fin1 65 n h
  decide +kernel
theorem cpy14_0 (f g : Nat → Int32) : (fun k => if k < 0 then f k else g k) = g := by
  funext k
  simp
def cpyN (N : Nat) (f g : Nat → Int32) : Nat → Int32 := fun k => if k < N then f k else g k
theorem cpyN_0 (f g : Nat → Int32) : cpyN 0 f g = g := by
  funext k
  simp [cpyN]
theorem cpyN_s (f g : Nat → Int32) (j : Nat) : upd (cpyN j f g) j (f j) = cpyN (j + 1) f g := by
  funext k
  by_cases h : k = j
  · subst h
    rw [pk_us]
    simp [cpyN]
  · rw [pk_un h]
    unfold cpyN
    by_cases h2 : k < j
    · rw [if_pos h2, if_pos (by omega)]
    · rw [if_neg h2, if_neg (by omega)]
theorem SR.cpy {f g : Nat → Int32} {n o : Nat} {kd fg : Nat → Nat} (h : SR f n o kd fg) : SR (cpyN 14 f g) n o kd fg := by
  obtain ⟨h1, h2, h3, h4, h5⟩ := h
  refine ⟨?_, ?_, h3, h4, fun i hi => ?_⟩
  · unfold cpyN; rw [if_pos (by omega)]; exact h1
  · unfold cpyN; rw [if_pos (by omega)]; exact h2
  · obtain ⟨a1, a2, a3, a4⟩ := h5 i hi
    unfold cpyN
    rw [if_pos (by omega), if_pos (by omega)]
    exact ⟨a1, a2, a3, a4⟩
theorem SR.setO {f : Nat → Int32} {n o o' : Nat} {kd fg : Nat → Nat} (h : SR f n o kd fg) (ho : o' < 2 ^ n) : SR (upd f 1 (nI o')) n o' kd fg := by
  obtain ⟨h1, h2, h3, h4, h5⟩ := h
  refine ⟨by rw [pk_un (by omega)]; exact h1, pk_us, h3, ho, fun i hi => ?_⟩
  rw [pk_un (by omega), pk_un (by omega)]
  exact h5 i hi
theorem SR.setD {f : Nat → Int32} {n o i k g : Nat} {kd fg : Nat → Nat} (h : SR f n o kd fg) (hk : k < 8) (hg : g < 10) : SR (upd (upd f (2 + 2 * i) (nI k)) (2 + 2 * i + 1) (nI g)) n o (va_up kd i k) (va_up fg i g) := by
  obtain ⟨h1, h2, h3, h4, h5⟩ := h
  refine ⟨by rw [pk_un (by omega), pk_un (by omega)]; exact h1, by rw [pk_un (by omega), pk_un (by omega)]; exact h2, h3, h4, fun j hj => ?_⟩
  by_cases e : j = i
  · subst e
    rw [pk_un (by omega), pk_us, pk_us, va_up_self, va_up_self]
    exact ⟨rfl, rfl, hk, hg⟩
  · rw [pk_un (by omega), pk_un (by omega), pk_un (by omega), pk_un (by omega), va_up_ne _ _ e, va_up_ne _ _ e]
    exact h5 j hj
theorem SR.add {f : Nat → Int32} {n o k g : Nat} {kd fg : Nat → Nat} (h : SR f n o kd fg) (hn : n < 6) (hk : k < 8) (hg : g < 10) : SR (upd (upd (upd f (2 + 2 * n) (nI k)) (2 + 2 * n + 1) (nI g)) 0 (nI (n + 1))) (n + 1) o (va_up kd n k) (va_up fg n g) := by
  obtain ⟨h1, h2, h3, h4, h5⟩ := h
  refine ⟨pk_us, by rw [pk_un (by omega), pk_un (by omega), pk_un (by omega)]; exact h2, by omega, Nat.lt_trans h4 (Nat.pow_lt_pow_right (by decide) (Nat.lt_succ_self n)), fun j hj => ?_⟩
  by_cases e : j = n
  · subst e
    rw [pk_un (by omega), pk_un (by omega), pk_us, pk_un (by omega), pk_us, va_up_self, va_up_self]
    exact ⟨rfl, rfl, hk, hg⟩
  · rw [pk_un (by omega), pk_un (by omega), pk_un (by omega), pk_un (by omega), pk_un (by omega), pk_un (by omega), va_up_ne _ _ e, va_up_ne _ _ e]
    exact h5 j (by omega)
theorem cnt_step {v : Nat} (h : v < 256) : cnt v = (v &&& 1) + cnt (v / 2) := by
  apply fin1 256 v h
  decide +kernel
theorem shr_1 {v : Nat} (h : v < 256) : nI v >>> (nI 1 &&& 31) = nI (v / 2) := by
  apply fin1 256 v h
  decide +kernel
theorem cnt_8 {v : Nat} (h : v < 256) : cnt v ≤ 8 := by
  apply fin1 256 v h
  decide +kernel
theorem mayU_t2 {j : Nat} {kd fg : Nat → Nat} {st : Nat} (h : mv (kd j) (fg j) j st = true) : mayU kd fg st (j + 1) = mayU kd fg st j ||| 2 ^ j := by
  show (if mv (kd j) (fg j) j st = true then mayU kd fg st j ||| 2 ^ j else mayU kd fg st j) = _
  rw [if_pos h]
theorem mayU_f2 {j : Nat} {kd fg : Nat → Nat} {st : Nat} (h : mv (kd j) (fg j) j st = false) : mayU kd fg st (j + 1) = mayU kd fg st j ||| 0 := by
  show (if mv (kd j) (fg j) j st = true then mayU kd fg st j ||| 2 ^ j else mayU kd fg st j) = _
  rw [h, Nat.or_zero]
  rfl
theorem pullO_j {n j : Nat} {kd fg : Nat → Nat} {o : Nat} (hn : n ≤ 6) (hj : j < n) (h : mv (kd j) (fg j) j o = true) : pullO n kd fg (nI j) o = o ^^^ 2 ^ j := pullO_t hn hj (by rw [mayZ_t hn hj]; exact h)
theorem pullO_n {n j : Nat} {kd fg : Nat → Nat} {o : Nat} (hn : n ≤ 6) (hj : j < n) (h : mv (kd j) (fg j) j o = false) : pullO n kd fg (nI j) o = o := pullO_f (by rw [mayZ_t hn hj]; exact h)
/-- what a shelf holds: nothing, a drawer of a kind and a figure, a row of a sort and a size -/
abbrev Sf : Type := Option ((Nat × Nat) ⊕ (Nat × Nat × (Nat → Int32)))
/-- a shelf of the reference -/
def SF (aK aT aZ aE aD aF : Nat → Int32) (d : Nat) (x : Sf) : Prop := match x with
  | none => aK d = nI 0
  | some (.inl z) => aK d = nI 1 ∧ aD d = nI z.1 ∧ aF d = nI z.2 ∧ z.1 < 8 ∧ z.2 < 10
  | some (.inr z) => aK d = nI 2 ∧ aT d = nI z.1 ∧ aZ d = nI z.2.1 ∧ z.1 < 3 ∧ z.2.1 ≤ 100 ∧ ∀ i, i < z.2.1 → aE (100 * d + i) = z.2.2 i
abbrev rmX12_isIn : Room := { frames := 0, cells := 0, slots := 0, locals := 0 }
set_option maxHeartbeats 4000000 in
set_option maxRecDepth 100000 in
theorem c_X12_isIn {l : Launch} {D : va_G} {cA : Nat → ClassId} {A : Nat → Prop} {ws : va_W} {v z y : Int64} : Met l yX12_isIn wsX12_isIn rmX12_isIn (va_Pc [.long v, .long z, .long y] (Pre D cA A (ws))) (va_Qi (fun r _ => r = b2i (decide (z ≤ v ∧ v ≤ y))) (fun u t => Wd D A ((fun (_ : Unit) => ws) u) t) A) (0) (0) A := by
  refine k_ofi (S := Unit) (F := fun (_ : Unit) => ws) (cc := cX12_isIn) (maxL := 6) (by decide) rfl (Nat.le_of_ble_eq_true rfl) ?_
  intro p e s m args below meth c Q hF hini hK hA hG hret ls hl
  have hl : lv_has ls 6 [(0, .long v), (2, .long z), (4, .long y)] := hl
  refine lv_lload_n hF.1 hF.2.1 dX12_isIn_0 rfl (lv_at hl 0 rfl) ?_
  refine lv_lload_n hF.1 hF.2.1 dX12_isIn_1 rfl (lv_at hl 1 rfl) ?_
  refine W.lcmp hF.1 hF.2.1 dX12_isIn_2 ?_
  refine lv_if_lt (tgt := 17) hF.1 hF.2.1 dX12_isIn_3 (by decide) (fun c_3 => ?_) (fun c_3 => ?_)
  · --
    refine lv_iconst (v := (nI 0)) hF.1 hF.2.1 dX12_isIn_17 (by decide +kernel) ?_
    exact hret _ () _ ls _ _ _ _ (by first | (rw [decide_eq_true ⟨Int64.not_lt.mp (fun q => c_3 ((lg_cmp_lt _ _).mpr q)), Int64.not_lt.mp (fun q => c_10 ((lg_cmp_gt _ _).mpr q))⟩]; rfl) | (rw [decide_eq_false (fun q => absurd ((lg_cmp_lt _ _).mp c_3) (Int64.not_lt.mpr q.1))]; rfl) | (rw [decide_eq_false (fun q => absurd ((lg_cmp_gt _ _).mp c_10) (Int64.not_lt.mpr q.2))]; rfl)) (by first | rfl | exact nar_b2i _) hG (Nat.le_of_ble_eq_true rfl) (Nat.le_of_ble_eq_true rfl) dX12_isIn_18
  · --
    refine lv_lload_n hF.1 hF.2.1 dX12_isIn_6 rfl (lv_at hl 0 rfl) ?_
    refine lv_lload hF.1 hF.2.1 dX12_isIn_7 (lv_at hl 2 rfl) ?_
    refine W.lcmp hF.1 hF.2.1 dX12_isIn_9 ?_
    refine lv_if_gt (tgt := 17) hF.1 hF.2.1 dX12_isIn_10 (by decide) (fun c_10 => ?_) (fun c_10 => ?_)
    · --
      refine lv_iconst (v := (nI 0)) hF.1 hF.2.1 dX12_isIn_17 (by decide +kernel) ?_
      exact hret _ () _ ls _ _ _ _ (by first | (rw [decide_eq_true ⟨Int64.not_lt.mp (fun q => c_3 ((lg_cmp_lt _ _).mpr q)), Int64.not_lt.mp (fun q => c_10 ((lg_cmp_gt _ _).mpr q))⟩]; rfl) | (rw [decide_eq_false (fun q => absurd ((lg_cmp_lt _ _).mp c_3) (Int64.not_lt.mpr q.1))]; rfl) | (rw [decide_eq_false (fun q => absurd ((lg_cmp_gt _ _).mp c_10) (Int64.not_lt.mpr q.2))]; rfl)) (by first | rfl | exact nar_b2i _) hG (Nat.le_of_ble_eq_true rfl) (Nat.le_of_ble_eq_true rfl) dX12_isIn_18
    · --
      refine lv_iconst (v := (nI 1)) hF.1 hF.2.1 dX12_isIn_13 (by decide +kernel) ?_
      refine lv_goto (tgt := 18) hF.1 hF.2.1 dX12_isIn_14 (by decide) ?_
      exact hret _ () _ ls _ _ _ _ (by first | (rw [decide_eq_true ⟨Int64.not_lt.mp (fun q => c_3 ((lg_cmp_lt _ _).mpr q)), Int64.not_lt.mp (fun q => c_10 ((lg_cmp_gt _ _).mpr q))⟩]; rfl) | (rw [decide_eq_false (fun q => absurd ((lg_cmp_lt _ _).mp c_3) (Int64.not_lt.mpr q.1))]; rfl) | (rw [decide_eq_false (fun q => absurd ((lg_cmp_gt _ _).mp c_10) (Int64.not_lt.mpr q.2))]; rfl)) (by first | rfl | exact nar_b2i _) hG (Nat.le_of_ble_eq_true rfl) (Nat.le_of_ble_eq_true rfl) dX12_isIn_18

abbrev rmX12_isShelf : Room := { frames := 1, cells := 0, slots := 0, locals := 25 }
set_option maxHeartbeats 4000000 in
set_option maxRecDepth 100000 in
theorem c_X12_isShelf {l : Launch} {D : va_G} {cA : Nat → ClassId} {A : Nat → Prop} {ws : va_W} {d : Int32} : Met l yX12_isShelf wsX12_isShelf rmX12_isShelf (va_Pc [.int d] (Pre D cA A (ws))) (va_Qi (fun r _ => r = b2i (inB 8 d)) (fun u t => Wd D A ((fun (_ : Unit) => ws) u) t) A) (0) (0) A := by
  refine k_ofi (S := Unit) (F := fun (_ : Unit) => ws) (cc := cX12_isShelf) (maxL := 1) (by decide) rfl (Nat.le_of_ble_eq_true rfl) ?_
  intro p e s m args below meth c Q hF hini hK hA hG hret ls hl
  have hl : lv_has ls 1 [(0, .int d)] := hl
  refine lv_iload_n hF.1 hF.2.1 dX12_isShelf_0 rfl (lv_at hl 0 rfl) ?_
  refine lv_i2l hF.1 hF.2.1 dX12_isShelf_1 rfl ?_
  refine lv_lconst (v := 0) hF.1 hF.2.1 dX12_isShelf_2 (by decide +kernel) ?_
  refine lv_ldc2 hF.1 hF.2.1 (own := RX12) hF.2.2.2.1 (hF.2.2.2.2 _ (List.mem_of_getElem? (i := 1) rfl)) dX12_isShelf_3 ?_
  refine k_ci (r_S (As := [.long (d.toInt64), .long (0), .long (7)]) hF hK hA hG (c_X12_isIn) (cwS 3 hF.2.2.2.2 gX12_isShelf_X12_isIn rfl rfl rfl (by decide +kernel) ⟨Nat.le_of_ble_eq_true rfl, Nat.le_of_ble_eq_true rfl⟩) rfl hl.1 rfl (lv_room (Nat.le_of_ble_eq_true rfl)) dX12_isShelf_6 ⟨Nat.le_of_ble_eq_true rfl, Nat.le_of_ble_eq_true rfl⟩) hG (fun r_6 u_6 H locs hp_6 hG => ?_)
  rw [inL (n := 8) (by omega) (by decide +kernel)] at hp_6
  subst hp_6
  exact hret _ () _ ls _ _ _ _ (by first | rfl | (simp_all; done)) (by first | rfl | exact nar_b2i _) hG (Nat.le_of_ble_eq_true rfl) (Nat.le_of_ble_eq_true rfl) dX12_isShelf_9

abbrev rmX12_isDrawer : Room := { frames := 1, cells := 0, slots := 0, locals := 25 }
set_option maxHeartbeats 4000000 in
set_option maxRecDepth 100000 in
theorem c_X12_isDrawer {l : Launch} {D : va_G} {cA : Nat → ClassId} {A : Nat → Prop}  {ob : Nat → Nat} {aS aI aR aM aK aT aZ aE aD aF aN aP aH : Nat → Int32} {vH vT vP vB vE vS : Int32} {n o : Nat} {kd fg : Nat → Nat} (hS : SR aS n o kd fg) {d : Int32} : Met l yX12_isDrawer wsX12_isDrawer rmX12_isDrawer (va_Pc [.ref (ob 0), .int d] (Pre D cA A (MW cA ob aS aI aR aM aK aT aZ aE aD aF aN aP aH vH vT vP vB vE vS))) (va_Qi (fun r _ => r = b2i (inB n d)) (fun u t => Wd D A ((fun (_ : Unit) => MW cA ob aS aI aR aM aK aT aZ aE aD aF aN aP aH vH vT vP vB vE vS) u) t) A) (0) (0) A := by
  refine k_ofi (S := Unit) (F := fun (_ : Unit) => MW cA ob aS aI aR aM aK aT aZ aE aD aF aN aP aH vH vT vP vB vE vS) (cc := cX12_isDrawer) (maxL := 2) (by decide) rfl (Nat.le_of_ble_eq_true rfl) ?_
  intro p e s m args below meth c Q hF hini hK hA hG hret ls hl
  have hl : lv_has ls 2 [(0, .ref (ob 0)), (1, .int d)] := hl
  have hn : n ≤ 6 := hS.2.2.1
  have ho : o < 64 := hS.o64
  refine lv_iload_n hF.1 hF.2.1 dX12_isDrawer_0 rfl (lv_at hl 1 rfl) ?_
  refine lv_i2l hF.1 hF.2.1 dX12_isDrawer_1 rfl ?_
  refine lv_lconst (v := 0) hF.1 hF.2.1 dX12_isDrawer_2 (by decide +kernel) ?_
  refine lv_aload_n hF.1 hF.2.1 dX12_isDrawer_3 rfl (lv_at hl 0 rfl) ?_
  refine k_get (C := RX12) (T := TX12) (N := 19) hF hK hG (fun _ h => List.mem_cons_of_mem _ (List.mem_append_right _ h)) 0 rfl rfl 0 (by decide) (List.mem_of_getElem? (i := 1) rfl) (fun _ h9 => h9) rfl dX12_isDrawer_4 ?_
  refine lv_iconst (v := (nI 0)) hF.1 hF.2.1 dX12_isDrawer_7 (by decide +kernel) ?_
  refine k_ialdN hF hK hG 1 rfl (0) rfl (by omega) (by omega) dX12_isDrawer_8 ?_
  rw [hS.1]
  refine lv_iconst (v := (nI 1)) hF.1 hF.2.1 dX12_isDrawer_9 (by decide +kernel) ?_
  refine lv_isub hF.1 hF.2.1 dX12_isDrawer_10 ?_
  refine lv_i2l hF.1 hF.2.1 dX12_isDrawer_11 rfl ?_
  refine k_ci (r_S (As := [.long (d.toInt64), .long (0), .long (((nI n) - (nI 1)).toInt64)]) hF hK hA hG (c_X12_isIn) (cwS 3 hF.2.2.2.2 gX12_isDrawer_X12_isIn rfl rfl rfl (by decide +kernel) ⟨Nat.le_of_ble_eq_true rfl, Nat.le_of_ble_eq_true rfl⟩) rfl hl.1 rfl (lv_room (Nat.le_of_ble_eq_true rfl)) dX12_isDrawer_12 ⟨Nat.le_of_ble_eq_true rfl, Nat.le_of_ble_eq_true rfl⟩) hG (fun r_12 u_12 H locs hp_12 hG => ?_)
  rw [inL (n := n) (by omega) (m1_6 (by omega))] at hp_12
  subst hp_12
  exact hret _ () _ ls _ _ _ _ (by first | rfl | (simp_all; done)) (by first | rfl | exact nar_b2i _) hG (Nat.le_of_ble_eq_true rfl) (Nat.le_of_ble_eq_true rfl) dX12_isDrawer_15

abbrev rmX12_everything : Room := { frames := 0, cells := 0, slots := 0, locals := 0 }
set_option maxHeartbeats 4000000 in
set_option maxRecDepth 100000 in
theorem c_X12_everything {l : Launch} {D : va_G} {cA : Nat → ClassId} {A : Nat → Prop}  {ob : Nat → Nat} {aS aI aR aM aK aT aZ aE aD aF aN aP aH : Nat → Int32} {vH vT vP vB vE vS : Int32} {n o : Nat} {kd fg : Nat → Nat} (hS : SR aS n o kd fg) : Met l yX12_everything wsX12_everything rmX12_everything (va_Pc [.ref (ob 0)] (Pre D cA A (MW cA ob aS aI aR aM aK aT aZ aE aD aF aN aP aH vH vT vP vB vE vS))) (va_Qi (fun r _ => r = nI (2 ^ n - 1)) (fun u t => Wd D A ((fun (_ : Unit) => MW cA ob aS aI aR aM aK aT aZ aE aD aF aN aP aH vH vT vP vB vE vS) u) t) A) (0) (0) A := by
  refine k_ofi (S := Unit) (F := fun (_ : Unit) => MW cA ob aS aI aR aM aK aT aZ aE aD aF aN aP aH vH vT vP vB vE vS) (cc := cX12_everything) (maxL := 1) (by decide) rfl (Nat.le_of_ble_eq_true rfl) ?_
  intro p e s m args below meth c Q hF hini hK hA hG hret ls hl
  have hl : lv_has ls 1 [(0, .ref (ob 0))] := hl
  have hn : n ≤ 6 := hS.2.2.1
  have ho : o < 64 := hS.o64
  refine lv_iconst (v := (nI 1)) hF.1 hF.2.1 dX12_everything_0 (by decide +kernel) ?_
  refine lv_aload_n hF.1 hF.2.1 dX12_everything_1 rfl (lv_at hl 0 rfl) ?_
  refine k_get (C := RX12) (T := TX12) (N := 19) hF hK hG (fun _ h => List.mem_cons_of_mem _ (List.mem_append_right _ h)) 0 rfl rfl 0 (by decide) (List.mem_of_getElem? (i := 1) rfl) (fun _ h9 => h9) rfl dX12_everything_2 ?_
  refine lv_iconst (v := (nI 0)) hF.1 hF.2.1 dX12_everything_5 (by decide +kernel) ?_
  refine k_ialdN hF hK hG 1 rfl (0) rfl (by omega) (by omega) dX12_everything_6 ?_
  rw [hS.1]
  refine lv_ishl hF.1 hF.2.1 dX12_everything_7 ?_
  rw [shl_1 (by omega)]
  refine lv_iconst (v := (nI 1)) hF.1 hF.2.1 dX12_everything_8 (by decide +kernel) ?_
  refine lv_isub hF.1 hF.2.1 dX12_everything_9 ?_
  rw [pk_sub Nat.one_le_two_pow]
  exact hret _ () _ ls _ _ _ _ (by first | rfl | (simp_all; done)) (by first | rfl | exact nar_b2i _) hG (Nat.le_of_ble_eq_true rfl) (Nat.le_of_ble_eq_true rfl) dX12_everything_10

abbrev rmX12_areDrawers : Room := { frames := 1, cells := 0, slots := 0, locals := 25 }
set_option maxHeartbeats 4000000 in
set_option maxRecDepth 100000 in
theorem c_X12_areDrawers {l : Launch} {D : va_G} {cA : Nat → ClassId} {A : Nat → Prop}  {ob : Nat → Nat} {aS aI aR aM aK aT aZ aE aD aF aN aP aH : Nat → Int32} {vH vT vP vB vE vS : Int32} {n o : Nat} {kd fg : Nat → Nat} (hS : SR aS n o kd fg) {d : Int32} : Met l yX12_areDrawers wsX12_areDrawers rmX12_areDrawers (va_Pc [.ref (ob 0), .int d] (Pre D cA A (MW cA ob aS aI aR aM aK aT aZ aE aD aF aN aP aH vH vT vP vB vE vS))) (va_Qi (fun r _ => r = b2i (inB (2 ^ n) d)) (fun u t => Wd D A ((fun (_ : Unit) => MW cA ob aS aI aR aM aK aT aZ aE aD aF aN aP aH vH vT vP vB vE vS) u) t) A) (0) (0) A := by
  refine k_ofi (S := Unit) (F := fun (_ : Unit) => MW cA ob aS aI aR aM aK aT aZ aE aD aF aN aP aH vH vT vP vB vE vS) (cc := cX12_areDrawers) (maxL := 2) (by decide) rfl (Nat.le_of_ble_eq_true rfl) ?_
  intro p e s m args below meth c Q hF hini hK hA hG hret ls hl
  have hl : lv_has ls 2 [(0, .ref (ob 0)), (1, .int d)] := hl
  have hn : n ≤ 6 := hS.2.2.1
  have ho : o < 64 := hS.o64
  have hp2 : 2 ^ n ≤ 64 := Nat.pow_le_pow_right (by decide) hn
  have hp1 : 1 ≤ 2 ^ n := Nat.one_le_two_pow
  have he : ((nI (2 ^ n - 1)).toInt64).toInt = ((2 ^ n : Nat) : Int) - 1 := by rw [← pk_sub hp1]; exact m1_6 (by omega)
  refine lv_iload_n hF.1 hF.2.1 dX12_areDrawers_0 rfl (lv_at hl 1 rfl) ?_
  refine lv_i2l hF.1 hF.2.1 dX12_areDrawers_1 rfl ?_
  refine lv_lconst (v := 0) hF.1 hF.2.1 dX12_areDrawers_2 (by decide +kernel) ?_
  refine lv_aload_n hF.1 hF.2.1 dX12_areDrawers_3 rfl (lv_at hl 0 rfl) ?_
  refine k_ci (r_V (As := []) hF hK hA hG (c_X12_everything hS) (cwV 0 hF.2.2.2.2 gX12_areDrawers_X12_everything rfl rfl rfl (by decide +kernel) ⟨Nat.le_of_ble_eq_true rfl, Nat.le_of_ble_eq_true rfl⟩) 0 rfl rfl rfl rfl hl.1 rfl (lv_room (Nat.le_of_ble_eq_true rfl)) dX12_areDrawers_4 ⟨Nat.le_of_ble_eq_true rfl, Nat.le_of_ble_eq_true rfl⟩) hG (fun r_4 u_4 H locs hp_4 hG => ?_)
  subst hp_4
  refine lv_i2l hF.1 hF.2.1 dX12_areDrawers_7 rfl ?_
  refine k_ci (r_S (As := [.long (d.toInt64), .long (0), .long ((nI (2 ^ n - 1)).toInt64)]) hF hK hA hG (c_X12_isIn) (cwS 3 hF.2.2.2.2 gX12_areDrawers_X12_isIn rfl rfl rfl (by decide +kernel) ⟨Nat.le_of_ble_eq_true rfl, Nat.le_of_ble_eq_true rfl⟩) rfl hl.1 rfl (lv_room (Nat.le_of_ble_eq_true rfl)) dX12_areDrawers_8 ⟨Nat.le_of_ble_eq_true rfl, Nat.le_of_ble_eq_true rfl⟩) hG (fun r_8 u_8 H locs hp_8 hG => ?_)
  rw [inL (n := (2 ^ n)) (by omega) he] at hp_8
  subst hp_8
  exact hret _ () _ ls _ _ _ _ (by first | rfl | (simp_all; done)) (by first | rfl | exact nar_b2i _) hG (Nat.le_of_ble_eq_true rfl) (Nat.le_of_ble_eq_true rfl) dX12_areDrawers_11

abbrev rmX12_kind : Room := { frames := 0, cells := 0, slots := 0, locals := 0 }
set_option maxHeartbeats 4000000 in
set_option maxRecDepth 100000 in
theorem c_X12_kind {l : Launch} {D : va_G} {cA : Nat → ClassId} {A : Nat → Prop}  {ob : Nat → Nat} {aS aI aR aM aK aT aZ aE aD aF aN aP aH : Nat → Int32} {vH vT vP vB vE vS : Int32} {n o : Nat} {kd fg : Nat → Nat} (hS : SR aS n o kd fg) {i : Nat} (hi : i < n) : Met l yX12_kind wsX12_kind rmX12_kind (va_Pc [.ref (ob 0), .int (nI i)] (Pre D cA A (MW cA ob aS aI aR aM aK aT aZ aE aD aF aN aP aH vH vT vP vB vE vS))) (va_Qi (fun r _ => r = nI (kd i)) (fun u t => Wd D A ((fun (_ : Unit) => MW cA ob aS aI aR aM aK aT aZ aE aD aF aN aP aH vH vT vP vB vE vS) u) t) A) (0) (0) A := by
  refine k_ofi (S := Unit) (F := fun (_ : Unit) => MW cA ob aS aI aR aM aK aT aZ aE aD aF aN aP aH vH vT vP vB vE vS) (cc := cX12_kind) (maxL := 2) (by decide) rfl (Nat.le_of_ble_eq_true rfl) ?_
  intro p e s m args below meth c Q hF hini hK hA hG hret ls hl
  have hl : lv_has ls 2 [(0, .ref (ob 0)), (1, .int (nI i))] := hl
  have hn : n ≤ 6 := hS.2.2.1
  have ho : o < 64 := hS.o64
  obtain ⟨hk1, hf1, hk8, hf10⟩ := hS.2.2.2.2 i hi
  refine lv_aload_n hF.1 hF.2.1 dX12_kind_0 rfl (lv_at hl 0 rfl) ?_
  refine k_get (C := RX12) (T := TX12) (N := 19) hF hK hG (fun _ h => List.mem_cons_of_mem _ (List.mem_append_right _ h)) 0 rfl rfl 0 (by decide) (List.mem_of_getElem? (i := 1) rfl) (fun _ h9 => h9) rfl dX12_kind_1 ?_
  refine lv_iconst (v := (nI 2)) hF.1 hF.2.1 dX12_kind_4 (by decide +kernel) ?_
  refine lv_iconst (v := (nI 2)) hF.1 hF.2.1 dX12_kind_5 (by decide +kernel) ?_
  refine lv_iload_n hF.1 hF.2.1 dX12_kind_6 rfl (lv_at hl 1 rfl) ?_
  refine lv_imul hF.1 hF.2.1 dX12_kind_7 ?_
  rw [pk_mul]
  refine lv_iadd hF.1 hF.2.1 dX12_kind_8 ?_
  rw [nI_add]
  refine k_ialdN hF hK hG 1 rfl (2 + (2) * (i)) rfl (by omega) (by omega) dX12_kind_9 ?_
  exact hret _ () _ ls _ _ _ _ (by exact hk1) (by first | rfl | exact nar_b2i _) hG (Nat.le_of_ble_eq_true rfl) (Nat.le_of_ble_eq_true rfl) dX12_kind_10

abbrev rmX12_figure : Room := { frames := 0, cells := 0, slots := 0, locals := 0 }
set_option maxHeartbeats 4000000 in
set_option maxRecDepth 100000 in
theorem c_X12_figure {l : Launch} {D : va_G} {cA : Nat → ClassId} {A : Nat → Prop}  {ob : Nat → Nat} {aS aI aR aM aK aT aZ aE aD aF aN aP aH : Nat → Int32} {vH vT vP vB vE vS : Int32} {n o : Nat} {kd fg : Nat → Nat} (hS : SR aS n o kd fg) {i : Nat} (hi : i < n) : Met l yX12_figure wsX12_figure rmX12_figure (va_Pc [.ref (ob 0), .int (nI i)] (Pre D cA A (MW cA ob aS aI aR aM aK aT aZ aE aD aF aN aP aH vH vT vP vB vE vS))) (va_Qi (fun r _ => r = nI (fg i)) (fun u t => Wd D A ((fun (_ : Unit) => MW cA ob aS aI aR aM aK aT aZ aE aD aF aN aP aH vH vT vP vB vE vS) u) t) A) (0) (0) A := by
  refine k_ofi (S := Unit) (F := fun (_ : Unit) => MW cA ob aS aI aR aM aK aT aZ aE aD aF aN aP aH vH vT vP vB vE vS) (cc := cX12_figure) (maxL := 2) (by decide) rfl (Nat.le_of_ble_eq_true rfl) ?_
  intro p e s m args below meth c Q hF hini hK hA hG hret ls hl
  have hl : lv_has ls 2 [(0, .ref (ob 0)), (1, .int (nI i))] := hl
  have hn : n ≤ 6 := hS.2.2.1
  have ho : o < 64 := hS.o64
  obtain ⟨hk1, hf1, hk8, hf10⟩ := hS.2.2.2.2 i hi
  refine lv_aload_n hF.1 hF.2.1 dX12_figure_0 rfl (lv_at hl 0 rfl) ?_
  refine k_get (C := RX12) (T := TX12) (N := 19) hF hK hG (fun _ h => List.mem_cons_of_mem _ (List.mem_append_right _ h)) 0 rfl rfl 0 (by decide) (List.mem_of_getElem? (i := 1) rfl) (fun _ h9 => h9) rfl dX12_figure_1 ?_
  refine lv_iconst (v := (nI 2)) hF.1 hF.2.1 dX12_figure_4 (by decide +kernel) ?_
  refine lv_iconst (v := (nI 2)) hF.1 hF.2.1 dX12_figure_5 (by decide +kernel) ?_
  refine lv_iload_n hF.1 hF.2.1 dX12_figure_6 rfl (lv_at hl 1 rfl) ?_
  refine lv_imul hF.1 hF.2.1 dX12_figure_7 ?_
  rw [pk_mul]
  refine lv_iadd hF.1 hF.2.1 dX12_figure_8 ?_
  rw [nI_add]
  refine lv_iconst (v := (nI 1)) hF.1 hF.2.1 dX12_figure_9 (by decide +kernel) ?_
  refine lv_iadd hF.1 hF.2.1 dX12_figure_10 ?_
  rw [nI_add]
  refine k_ialdN hF hK hG 1 rfl (2 + (2) * (i) + 1) rfl (by omega) (by omega) dX12_figure_11 ?_
  exact hret _ () _ ls _ _ _ _ (by exact hf1) (by first | rfl | exact nar_b2i _) hG (Nat.le_of_ble_eq_true rfl) (Nat.le_of_ble_eq_true rfl) dX12_figure_12

abbrev rmX12_setDrawer : Room := { frames := 0, cells := 0, slots := 0, locals := 0 }
set_option maxHeartbeats 4000000 in
set_option maxRecDepth 100000 in
theorem c_X12_setDrawer {l : Launch} {D : va_G} {cA : Nat → ClassId} {A : Nat → Prop}  {ob : Nat → Nat} {aS aI aR aM aK aT aZ aE aD aF aN aP aH : Nat → Int32} {vH vT vP vB vE vS : Int32} {i : Nat} (hi : i < 6) {k f : Int32} : Met l yX12_setDrawer wsX12_setDrawer rmX12_setDrawer (va_Pc [.ref (ob 0), .int (nI i), .int k, .int f] (Pre D cA A (MW cA ob aS aI aR aM aK aT aZ aE aD aF aN aP aH vH vT vP vB vE vS))) (va_Qv (fun _ => True) (fun u t => Wd D A ((fun (_ : Unit) => MW cA ob (upd (upd aS (2 + 2 * i) k) (2 + 2 * i + 1) f) aI aR aM aK aT aZ aE aD aF aN aP aH vH vT vP vB vE vS) u) t) A) (0) (0) A := by
  refine k_ofv (S := Unit) (F := fun (_ : Unit) => MW cA ob (upd (upd aS (2 + 2 * i) k) (2 + 2 * i + 1) f) aI aR aM aK aT aZ aE aD aF aN aP aH vH vT vP vB vE vS) (cc := cX12_setDrawer) (maxL := 4) (by decide) rfl (Nat.le_of_ble_eq_true rfl) ?_
  intro p e s m args below meth c Q hF hini hK hA hG hret ls hl
  have hl : lv_has ls 4 [(0, .ref (ob 0)), (1, .int (nI i)), (2, .int k), (3, .int f)] := hl
  refine lv_aload_n hF.1 hF.2.1 dX12_setDrawer_0 rfl (lv_at hl 0 rfl) ?_
  refine k_get (C := RX12) (T := TX12) (N := 19) hF hK hG (fun _ h => List.mem_cons_of_mem _ (List.mem_append_right _ h)) 0 rfl rfl 0 (by decide) (List.mem_of_getElem? (i := 1) rfl) (fun _ h9 => h9) rfl dX12_setDrawer_1 ?_
  refine lv_iconst (v := (nI 2)) hF.1 hF.2.1 dX12_setDrawer_4 (by decide +kernel) ?_
  refine lv_iconst (v := (nI 2)) hF.1 hF.2.1 dX12_setDrawer_5 (by decide +kernel) ?_
  refine lv_iload_n hF.1 hF.2.1 dX12_setDrawer_6 rfl (lv_at hl 1 rfl) ?_
  refine lv_imul hF.1 hF.2.1 dX12_setDrawer_7 ?_
  rw [pk_mul]
  refine lv_iadd hF.1 hF.2.1 dX12_setDrawer_8 ?_
  rw [nI_add]
  refine lv_iload_n hF.1 hF.2.1 dX12_setDrawer_9 rfl (lv_at hl 2 rfl) ?_
  refine k_iastN hF hK hG 1 rfl (2 + (2) * (i)) rfl (by omega) (by omega) dX12_setDrawer_10 (fun H locs hG => ?_)
  refine lv_aload_n hF.1 hF.2.1 dX12_setDrawer_11 rfl (lv_at hl 0 rfl) ?_
  refine k_get (C := RX12) (T := TX12) (N := 19) hF hK hG (fun _ h => List.mem_cons_of_mem _ (List.mem_append_right _ h)) 0 rfl rfl 0 (by decide) (List.mem_of_getElem? (i := 1) rfl) (fun _ h9 => h9) rfl dX12_setDrawer_12 ?_
  refine lv_iconst (v := (nI 2)) hF.1 hF.2.1 dX12_setDrawer_15 (by decide +kernel) ?_
  refine lv_iconst (v := (nI 2)) hF.1 hF.2.1 dX12_setDrawer_16 (by decide +kernel) ?_
  refine lv_iload_n hF.1 hF.2.1 dX12_setDrawer_17 rfl (lv_at hl 1 rfl) ?_
  refine lv_imul hF.1 hF.2.1 dX12_setDrawer_18 ?_
  rw [pk_mul]
  refine lv_iadd hF.1 hF.2.1 dX12_setDrawer_19 ?_
  rw [nI_add]
  refine lv_iconst (v := (nI 1)) hF.1 hF.2.1 dX12_setDrawer_20 (by decide +kernel) ?_
  refine lv_iadd hF.1 hF.2.1 dX12_setDrawer_21 ?_
  rw [nI_add]
  refine lv_iload_n hF.1 hF.2.1 dX12_setDrawer_22 rfl (lv_at hl 3 rfl) ?_
  refine k_iastN hF hK hG 1 rfl (2 + (2) * (i) + 1) rfl (by omega) (by omega) dX12_setDrawer_23 (fun H locs hG => ?_)
  exact hret () _ ls _ _ _ _ (by trivial) hG (Nat.le_of_ble_eq_true rfl) (Nat.le_of_ble_eq_true rfl) dX12_setDrawer_24

abbrev rmX12_lays : Room := { frames := 0, cells := 0, slots := 0, locals := 0 }
set_option maxHeartbeats 4000000 in
set_option maxRecDepth 100000 in
theorem c_X12_lays {l : Launch} {D : va_G} {cA : Nat → ClassId} {A : Nat → Prop} {ws : va_W} {a b qa qb : Nat} {f g : Nat → Int32} (ha : ws[qa]? = some (a, .inl (cA 0, 14, .inl f))) (hb : ws[qb]? = some (b, .inl (cA 0, 14, .inl g))) (hab : b ≠ a) : Met l yX12_lays wsX12_lays rmX12_lays (va_Pc [.ref a, .ref b] (Pre D cA A (ws))) (va_Qv (fun _ => True) (fun u t => Wd D A ((fun (_ : Unit) => ws.set qb (b, .inl (cA 0, 14, .inl (cpyN 14 f g)))) u) t) A) (0) (0) A := by
  refine k_ofv (S := Unit) (F := fun (_ : Unit) => ws.set qb (b, .inl (cA 0, 14, .inl (cpyN 14 f g)))) (cc := cX12_lays) (maxL := 3) (by decide) rfl (Nat.le_of_ble_eq_true rfl) ?_
  intro p e s m args below meth c Q hF hini hK hA hG hret ls hl
  have hl : lv_has ls 3 [(0, .ref a), (1, .ref b)] := hl
  refine lv_iconst (v := (nI 0)) hF.1 hF.2.1 dX12_lays_0 (by decide +kernel) ?_
  refine lv_istore_n (lv' := [(2, .int (nI 0)), (0, .ref a), (1, .ref b)]) hF.1 hF.2.1 dX12_lays_1 rfl hl (by decide) rfl (fun ls hl => ?_)
  have lp2 : ∀ (fuel : Nat), ∀ (j : Nat), (hj : j ≤ 14) → (14 - j) < fuel → ∀ (H : Heap) (locs : List Loc), Gd D A (ws.set qb (b, .inl (cA 0, 14, .inl (cpyN j f g)))) s.heap H locs → ∀ ls : Array Slot, lv_has ls 3 [(0, .ref a), (1, .ref b), (2, .int (nI j))] → W p l e rmX12_lays s m args below meth c H locs (0) (0) Q (F0 m 2 ls []) := by
    intro fuel
    induction fuel with
    | zero => intro j hj hmu; exact absurd hmu (Nat.not_lt_zero _)
    | succ fuel ih2 =>
      intro j hj hmu H locs hG ls hl
      refine lv_iload_n hF.1 hF.2.1 dX12_lays_2 rfl (lv_at hl 2 rfl) ?_
      refine lv_bipush (v := (nI 14)) hF.1 hF.2.1 dX12_lays_3 (by decide +kernel) ?_
      refine lv_icmp_ge (tgt := 20) hF.1 hF.2.1 dX12_lays_5 (by decide) (fun c_5 => ?_) (fun c_5 => ?_)
      · --
        have n_5 : 14 ≤ j := (nI_leI (a := 14) (b := j) (by omega) (by omega)).mp c_5
        obtain rfl : j = 14 := by omega
        exact hret () _ ls _ _ _ _ (by trivial) hG (Nat.le_of_ble_eq_true rfl) (Nat.le_of_ble_eq_true rfl) dX12_lays_20
      · --
        have n_5 : ¬ (14 ≤ j) := fun zz9 => c_5 ((nI_leI (a := 14) (b := j) (by omega) (by omega)).mpr zz9)
        refine lv_aload_n hF.1 hF.2.1 dX12_lays_8 rfl (lv_at hl 1 rfl) ?_
        refine lv_iload_n hF.1 hF.2.1 dX12_lays_9 rfl (lv_at hl 2 rfl) ?_
        refine lv_aload_n hF.1 hF.2.1 dX12_lays_10 rfl (lv_at hl 0 rfl) ?_
        refine lv_iload_n hF.1 hF.2.1 dX12_lays_11 rfl (lv_at hl 2 rfl) ?_
        refine k_ialdN hF hK hG qa (keep hb ha (ne_aa hab)) (j) rfl (by omega) (by omega) dX12_lays_12 ?_
        refine k_iastN hF hK hG qb (hit hb) (j) rfl (by omega) (by omega) dX12_lays_13 (fun H locs hG => ?_)
        refine lv_iinc (v := (nI (j + 1))) (lv' := [(2, .int (nI (j + 1))), (0, .ref a), (1, .ref b)]) hF.1 hF.2.1 dX12_lays_14 hl (k := 2) rfl (nI_inc _ _) (by decide) rfl (fun ls hl => ?_)
        refine lv_goto (tgt := 2) hF.1 hF.2.1 dX12_lays_17 (by decide) ?_
        have hG : Gd D A (ws.set qb (b, .inl (cA 0, 14, .inl (cpyN (j + 1) f g)))) s.heap H locs := by rw [← cpyN_s, ← List.set_set]; exact hG
        exact ih2 (j + 1) (by omega) (by omega) _ _ hG ls (lv_sub hl [1, 2, 0] rfl)
  have hG : Gd D A (ws.set qb (b, .inl (cA 0, 14, .inl (cpyN 0 f g)))) s.heap s.heap [] := by rw [cpyN_0, set_same hb]; exact hG
  exact lp2 _ (0) (by omega) (Nat.lt_succ_self _) _ _ hG ls (lv_sub hl [1, 2, 0] rfl)

abbrev rmX12_begins : Room := { frames := 1, cells := 0, slots := 0, locals := 22 }
set_option maxHeartbeats 4000000 in
set_option maxRecDepth 100000 in
theorem c_X12_begins {l : Launch} {D : va_G} {cA : Nat → ClassId} {A : Nat → Prop}  {ob : Nat → Nat} {aS aI aR aM aK aT aZ aE aD aF aN aP aH : Nat → Int32} {vH vT vP vB vE vS : Int32} : Met l yX12_begins wsX12_begins rmX12_begins (va_Pc [.ref (ob 0)] (Pre D cA A (MW cA ob aS aI aR aM aK aT aZ aE aD aF aN aP aH vH vT vP vB vE vS))) (va_Qv (fun _ => True) (fun u t => Wd D A ((fun (_ : Unit) => MW cA ob aS aI aR (cpyN 14 aS aM) aK aT aZ aE aD aF aN aP aH vH vT vP vB vE vS) u) t) A) (0) (0) A := by
  refine k_ofv (S := Unit) (F := fun (_ : Unit) => MW cA ob aS aI aR (cpyN 14 aS aM) aK aT aZ aE aD aF aN aP aH vH vT vP vB vE vS) (cc := cX12_begins) (maxL := 1) (by decide) rfl (Nat.le_of_ble_eq_true rfl) ?_
  intro p e s m args below meth c Q hF hini hK hA hG hret ls hl
  have hl : lv_has ls 1 [(0, .ref (ob 0))] := hl
  refine lv_aload_n hF.1 hF.2.1 dX12_begins_0 rfl (lv_at hl 0 rfl) ?_
  refine k_get (C := RX12) (T := TX12) (N := 19) hF hK hG (fun _ h => List.mem_cons_of_mem _ (List.mem_append_right _ h)) 0 rfl rfl 0 (by decide) (List.mem_of_getElem? (i := 1) rfl) (fun _ h9 => h9) rfl dX12_begins_1 ?_
  refine lv_aload_n hF.1 hF.2.1 dX12_begins_4 rfl (lv_at hl 0 rfl) ?_
  refine k_get (C := RX12) (T := TX12) (N := 19) hF hK hG (fun _ h => List.mem_cons_of_mem _ (List.mem_append_right _ h)) 0 rfl rfl 3 (by decide) (List.mem_of_getElem? (i := 2) rfl) (fun _ h9 => h9) rfl dX12_begins_5 ?_
  refine k_cv (r_S (As := [.ref (ob 1), .ref (ob 4)]) hF hK hA hG (c_X12_lays (qa := 1) (qb := 4) rfl rfl (fun h => absurd (hG.2.1.1 4 1 _ _ rfl rfl h) (by decide))) (cwS 2 hF.2.2.2.2 gX12_begins_X12_lays rfl rfl rfl (by decide +kernel) ⟨Nat.le_of_ble_eq_true rfl, Nat.le_of_ble_eq_true rfl⟩) rfl hl.1 rfl (lv_room (Nat.le_of_ble_eq_true rfl)) dX12_begins_8 ⟨Nat.le_of_ble_eq_true rfl, Nat.le_of_ble_eq_true rfl⟩) hG (fun u_8 H locs hp_8 hG => ?_)
  exact hret () _ ls _ _ _ _ (by trivial) hG (Nat.le_of_ble_eq_true rfl) (Nat.le_of_ble_eq_true rfl) dX12_begins_11

abbrev rmX12_ends : Room := { frames := 1, cells := 0, slots := 0, locals := 22 }
set_option maxHeartbeats 4000000 in
set_option maxRecDepth 100000 in
theorem c_X12_ends {l : Launch} {D : va_G} {cA : Nat → ClassId} {A : Nat → Prop}  {ob : Nat → Nat} {aS aI aR aM aK aT aZ aE aD aF aN aP aH : Nat → Int32} {vH vT vP vB vE vS : Int32} : Met l yX12_ends wsX12_ends rmX12_ends (va_Pc [.ref (ob 0)] (Pre D cA A (MW cA ob aS aI aR aM aK aT aZ aE aD aF aN aP aH vH vT vP vB vE vS))) (va_Qv (fun _ => True) (fun u t => Wd D A ((fun (_ : Unit) => MW cA ob (cpyN 14 aM aS) aI aR aM aK aT aZ aE aD aF aN aP aH vH vT vP vB vE vS) u) t) A) (0) (0) A := by
  refine k_ofv (S := Unit) (F := fun (_ : Unit) => MW cA ob (cpyN 14 aM aS) aI aR aM aK aT aZ aE aD aF aN aP aH vH vT vP vB vE vS) (cc := cX12_ends) (maxL := 1) (by decide) rfl (Nat.le_of_ble_eq_true rfl) ?_
  intro p e s m args below meth c Q hF hini hK hA hG hret ls hl
  have hl : lv_has ls 1 [(0, .ref (ob 0))] := hl
  refine lv_aload_n hF.1 hF.2.1 dX12_ends_0 rfl (lv_at hl 0 rfl) ?_
  refine k_get (C := RX12) (T := TX12) (N := 19) hF hK hG (fun _ h => List.mem_cons_of_mem _ (List.mem_append_right _ h)) 0 rfl rfl 3 (by decide) (List.mem_of_getElem? (i := 1) rfl) (fun _ h9 => h9) rfl dX12_ends_1 ?_
  refine lv_aload_n hF.1 hF.2.1 dX12_ends_4 rfl (lv_at hl 0 rfl) ?_
  refine k_get (C := RX12) (T := TX12) (N := 19) hF hK hG (fun _ h => List.mem_cons_of_mem _ (List.mem_append_right _ h)) 0 rfl rfl 0 (by decide) (List.mem_of_getElem? (i := 2) rfl) (fun _ h9 => h9) rfl dX12_ends_5 ?_
  refine k_cv (r_S (As := [.ref (ob 4), .ref (ob 1)]) hF hK hA hG (c_X12_lays (qa := 4) (qb := 1) rfl rfl (fun h => absurd (hG.2.1.1 1 4 _ _ rfl rfl h) (by decide))) (cwS 2 hF.2.2.2.2 gX12_ends_X12_lays rfl rfl rfl (by decide +kernel) ⟨Nat.le_of_ble_eq_true rfl, Nat.le_of_ble_eq_true rfl⟩) rfl hl.1 rfl (lv_room (Nat.le_of_ble_eq_true rfl)) dX12_ends_8 ⟨Nat.le_of_ble_eq_true rfl, Nat.le_of_ble_eq_true rfl⟩) hG (fun u_8 H locs hp_8 hG => ?_)
  exact hret () _ ls _ _ _ _ (by trivial) hG (Nat.le_of_ble_eq_true rfl) (Nat.le_of_ble_eq_true rfl) dX12_ends_11

abbrev rmX12_bits : Room := { frames := 0, cells := 0, slots := 0, locals := 0 }
set_option maxHeartbeats 4000000 in
set_option maxRecDepth 100000 in
theorem c_X12_bits {l : Launch} {D : va_G} {cA : Nat → ClassId} {A : Nat → Prop} {ws : va_W} {st : Nat} (hst : st < 256) : Met l yX12_bits wsX12_bits rmX12_bits (va_Pc [.int (nI st)] (Pre D cA A (ws))) (va_Qi (fun r _ => r = nI (cnt st)) (fun u t => Wd D A ((fun (_ : Unit) => ws) u) t) A) (0) (0) A := by
  refine k_ofi (S := Unit) (F := fun (_ : Unit) => ws) (cc := cX12_bits) (maxL := 3) (by decide) rfl (Nat.le_of_ble_eq_true rfl) ?_
  intro p e s m args below meth c Q hF hini hK hA hG hret ls hl
  have hl : lv_has ls 3 [(0, .int (nI st))] := hl
  refine lv_iconst (v := (nI 0)) hF.1 hF.2.1 dX12_bits_0 (by decide +kernel) ?_
  refine lv_istore_n (lv' := [(1, .int (nI 0)), (0, .int (nI st))]) hF.1 hF.2.1 dX12_bits_1 rfl hl (by decide) rfl (fun ls hl => ?_)
  refine lv_iload_n hF.1 hF.2.1 dX12_bits_2 rfl (lv_at hl 1 rfl) ?_
  refine lv_istore_n (lv' := [(2, .int (nI st)), (1, .int (nI 0)), (0, .int (nI st))]) hF.1 hF.2.1 dX12_bits_3 rfl hl (by decide) rfl (fun ls hl => ?_)
  have lp4 : ∀ (fuel : Nat), ∀ (k v : Nat), (hv : v < 256) → (hk : k + cnt v = cnt st) → (v) < fuel → ∀ (H : Heap) (locs : List Loc), Gd D A (ws) s.heap H locs → ∀ ls : Array Slot, lv_has ls 3 [(0, .int (nI st)), (1, .int (nI k)), (2, .int (nI v))] → W p l e rmX12_bits s m args below meth c H locs (0) (0) Q (F0 m 4 ls []) := by
    intro fuel
    induction fuel with
    | zero => intro k v hv hk hmu; exact absurd hmu (Nat.not_lt_zero _)
    | succ fuel ih4 =>
      intro k v hv hk hmu H locs hG ls hl
      have h8 := cnt_8 hst
      refine lv_iload_n hF.1 hF.2.1 dX12_bits_4 rfl (lv_at hl 2 rfl) ?_
      refine lv_if_le (tgt := 21) hF.1 hF.2.1 dX12_bits_5 (by decide) (fun c_5 => ?_) (fun c_5 => ?_)
      · --
        have n_5 : v ≤ 0 := (nI_leI (a := v) (b := 0) (by omega) (by omega)).mp c_5
        refine lv_iload_n hF.1 hF.2.1 dX12_bits_21 rfl (lv_at hl 1 rfl) ?_
        obtain rfl : v = 0 := by omega
        exact hret _ () _ ls _ _ _ _ (by rw [← hk]; rfl) (by first | rfl | exact nar_b2i _) hG (Nat.le_of_ble_eq_true rfl) (Nat.le_of_ble_eq_true rfl) dX12_bits_22
      · --
        have n_5 : ¬ (v ≤ 0) := fun zz9 => c_5 ((nI_leI (a := v) (b := 0) (by omega) (by omega)).mpr zz9)
        refine lv_iload_n hF.1 hF.2.1 dX12_bits_8 rfl (lv_at hl 1 rfl) ?_
        refine lv_iload_n hF.1 hF.2.1 dX12_bits_9 rfl (lv_at hl 2 rfl) ?_
        refine lv_iconst (v := (nI 1)) hF.1 hF.2.1 dX12_bits_10 (by decide +kernel) ?_
        refine lv_iand hF.1 hF.2.1 dX12_bits_11 ?_
        rw [nx_and]
        refine lv_iadd hF.1 hF.2.1 dX12_bits_12 ?_
        rw [nI_add]
        refine lv_istore_n (lv' := [(1, .int (nI (k + (v &&& 1)))), (0, .int (nI st)), (2, .int (nI v))]) hF.1 hF.2.1 dX12_bits_13 rfl hl (by decide) rfl (fun ls hl => ?_)
        refine lv_iload_n hF.1 hF.2.1 dX12_bits_14 rfl (lv_at hl 2 rfl) ?_
        refine lv_iconst (v := (nI 1)) hF.1 hF.2.1 dX12_bits_15 (by decide +kernel) ?_
        refine lv_ishr hF.1 hF.2.1 dX12_bits_16 ?_
        rw [shr_1 hv]
        refine lv_istore_n (lv' := [(2, .int (nI (v / 2))), (1, .int (nI (k + (v &&& 1)))), (0, .int (nI st))]) hF.1 hF.2.1 dX12_bits_17 rfl hl (by decide) rfl (fun ls hl => ?_)
        refine lv_goto (tgt := 4) hF.1 hF.2.1 dX12_bits_18 (by decide) ?_
        exact ih4 (k + (v &&& 1)) (v / 2) (by omega) (by rw [← hk, cnt_step hv]; omega) (by omega) _ _ hG ls (lv_sub hl [2, 1, 0] rfl)
  exact lp4 _ (0) (st) hst (Nat.zero_add _) (Nat.lt_succ_self _) _ _ hG ls (lv_sub hl [2, 1, 0] rfl)

abbrev rmX12_byJoiner : Room := { frames := 0, cells := 0, slots := 0, locals := 0 }
set_option maxHeartbeats 4000000 in
set_option maxRecDepth 100000 in
theorem c_X12_byJoiner {l : Launch} {D : va_G} {cA : Nat → ClassId} {A : Nat → Prop} {ws : va_W} {i st : Nat} (hi : i < 6) (hst : st < 64) : Met l yX12_byJoiner wsX12_byJoiner rmX12_byJoiner (va_Pc [.int (nI i), .int (nI st)] (Pre D cA A (ws))) (va_Qi (fun r _ => r = b2i (jn i st)) (fun u t => Wd D A ((fun (_ : Unit) => ws) u) t) A) (0) (0) A := by
  refine k_ofi (S := Unit) (F := fun (_ : Unit) => ws) (cc := cX12_byJoiner) (maxL := 2) (by decide) rfl (Nat.le_of_ble_eq_true rfl) ?_
  intro p e s m args below meth c Q hF hini hK hA hG hret ls hl
  have hl : lv_has ls 2 [(0, .int (nI i)), (1, .int (nI st))] := hl
  refine lv_iload_n hF.1 hF.2.1 dX12_byJoiner_0 rfl (lv_at hl 0 rfl) ?_
  refine lv_if_eq (tgt := 21) hF.1 hF.2.1 dX12_byJoiner_1 (by decide) (fun c_1 => ?_) (fun c_1 => ?_)
  · --
    refine lv_iconst (v := (nI 1)) hF.1 hF.2.1 dX12_byJoiner_21 (by decide +kernel) ?_
    refine lv_goto (tgt := 26) hF.1 hF.2.1 dX12_byJoiner_22 (by decide) ?_
    exact hret _ () _ ls _ _ _ _ (by revert c_1; apply fin2 6 64 i st hi hst; decide +kernel) (by first | rfl | exact nar_b2i _) hG (Nat.le_of_ble_eq_true rfl) (Nat.le_of_ble_eq_true rfl) dX12_byJoiner_26
  · --
    refine lv_iload_n hF.1 hF.2.1 dX12_byJoiner_4 rfl (lv_at hl 1 rfl) ?_
    refine lv_iconst (v := (nI 1)) hF.1 hF.2.1 dX12_byJoiner_5 (by decide +kernel) ?_
    refine lv_iload_n hF.1 hF.2.1 dX12_byJoiner_6 rfl (lv_at hl 0 rfl) ?_
    refine lv_ishl hF.1 hF.2.1 dX12_byJoiner_7 ?_
    refine lv_iconst (v := (nI 1)) hF.1 hF.2.1 dX12_byJoiner_8 (by decide +kernel) ?_
    refine lv_isub hF.1 hF.2.1 dX12_byJoiner_9 ?_
    refine lv_iand hF.1 hF.2.1 dX12_byJoiner_10 ?_
    refine lv_iconst (v := (nI 1)) hF.1 hF.2.1 dX12_byJoiner_11 (by decide +kernel) ?_
    refine lv_iload_n hF.1 hF.2.1 dX12_byJoiner_12 rfl (lv_at hl 0 rfl) ?_
    refine lv_iconst (v := (nI 1)) hF.1 hF.2.1 dX12_byJoiner_13 (by decide +kernel) ?_
    refine lv_isub hF.1 hF.2.1 dX12_byJoiner_14 ?_
    refine lv_ishl hF.1 hF.2.1 dX12_byJoiner_15 ?_
    refine lv_iconst (v := (nI 1)) hF.1 hF.2.1 dX12_byJoiner_16 (by decide +kernel) ?_
    refine lv_isub hF.1 hF.2.1 dX12_byJoiner_17 ?_
    refine lv_icmp_ne (tgt := 25) hF.1 hF.2.1 dX12_byJoiner_18 (by decide) (fun c_18 => ?_) (fun c_18 => ?_)
    · --
      refine lv_iconst (v := (nI 0)) hF.1 hF.2.1 dX12_byJoiner_25 (by decide +kernel) ?_
      exact hret _ () _ ls _ _ _ _ (by revert c_1 c_18; apply fin2 6 64 i st hi hst; decide +kernel) (by first | rfl | exact nar_b2i _) hG (Nat.le_of_ble_eq_true rfl) (Nat.le_of_ble_eq_true rfl) dX12_byJoiner_26
    · --
      refine lv_iconst (v := (nI 1)) hF.1 hF.2.1 dX12_byJoiner_21 (by decide +kernel) ?_
      refine lv_goto (tgt := 26) hF.1 hF.2.1 dX12_byJoiner_22 (by decide) ?_
      exact hret _ () _ ls _ _ _ _ (by revert c_1 c_18; apply fin2 6 64 i st hi hst; decide +kernel) (by first | rfl | exact nar_b2i _) hG (Nat.le_of_ble_eq_true rfl) (Nat.le_of_ble_eq_true rfl) dX12_byJoiner_26

abbrev rmX12_underShut : Room := { frames := 0, cells := 0, slots := 0, locals := 0 }
set_option maxHeartbeats 4000000 in
set_option maxRecDepth 100000 in
theorem c_X12_underShut {l : Launch} {D : va_G} {cA : Nat → ClassId} {A : Nat → Prop} {ws : va_W} {i st : Nat} (hi : i < 6) (hst : st < 64) : Met l yX12_underShut wsX12_underShut rmX12_underShut (va_Pc [.int (nI i), .int (nI st)] (Pre D cA A (ws))) (va_Qi (fun r _ => r = b2i (us i st)) (fun u t => Wd D A ((fun (_ : Unit) => ws) u) t) A) (0) (0) A := by
  refine k_ofi (S := Unit) (F := fun (_ : Unit) => ws) (cc := cX12_underShut) (maxL := 2) (by decide) rfl (Nat.le_of_ble_eq_true rfl) ?_
  intro p e s m args below meth c Q hF hini hK hA hG hret ls hl
  have hl : lv_has ls 2 [(0, .int (nI i)), (1, .int (nI st))] := hl
  refine lv_iload_n hF.1 hF.2.1 dX12_underShut_0 rfl (lv_at hl 0 rfl) ?_
  refine lv_if_eq (tgt := 14) hF.1 hF.2.1 dX12_underShut_1 (by decide) (fun c_1 => ?_) (fun c_1 => ?_)
  · --
    refine lv_iconst (v := (nI 1)) hF.1 hF.2.1 dX12_underShut_14 (by decide +kernel) ?_
    refine lv_goto (tgt := 19) hF.1 hF.2.1 dX12_underShut_15 (by decide) ?_
    exact hret _ () _ ls _ _ _ _ (by revert c_1; apply fin2 6 64 i st hi hst; decide +kernel) (by first | rfl | exact nar_b2i _) hG (Nat.le_of_ble_eq_true rfl) (Nat.le_of_ble_eq_true rfl) dX12_underShut_19
  · --
    refine lv_iload_n hF.1 hF.2.1 dX12_underShut_4 rfl (lv_at hl 1 rfl) ?_
    refine lv_iload_n hF.1 hF.2.1 dX12_underShut_5 rfl (lv_at hl 0 rfl) ?_
    refine lv_iconst (v := (nI 1)) hF.1 hF.2.1 dX12_underShut_6 (by decide +kernel) ?_
    refine lv_isub hF.1 hF.2.1 dX12_underShut_7 ?_
    refine lv_ishr hF.1 hF.2.1 dX12_underShut_8 ?_
    refine lv_iconst (v := (nI 1)) hF.1 hF.2.1 dX12_underShut_9 (by decide +kernel) ?_
    refine lv_iand hF.1 hF.2.1 dX12_underShut_10 ?_
    refine lv_if_ne (tgt := 18) hF.1 hF.2.1 dX12_underShut_11 (by decide) (fun c_11 => ?_) (fun c_11 => ?_)
    · --
      refine lv_iconst (v := (nI 0)) hF.1 hF.2.1 dX12_underShut_18 (by decide +kernel) ?_
      exact hret _ () _ ls _ _ _ _ (by revert c_1 c_11; apply fin2 6 64 i st hi hst; decide +kernel) (by first | rfl | exact nar_b2i _) hG (Nat.le_of_ble_eq_true rfl) (Nat.le_of_ble_eq_true rfl) dX12_underShut_19
    · --
      refine lv_iconst (v := (nI 1)) hF.1 hF.2.1 dX12_underShut_14 (by decide +kernel) ?_
      refine lv_goto (tgt := 19) hF.1 hF.2.1 dX12_underShut_15 (by decide) ?_
      exact hret _ () _ ls _ _ _ _ (by revert c_1 c_11; apply fin2 6 64 i st hi hst; decide +kernel) (by first | rfl | exact nar_b2i _) hG (Nat.le_of_ble_eq_true rfl) (Nat.le_of_ble_eq_true rfl) dX12_underShut_19

abbrev rmX12_may : Room := { frames := 1, cells := 0, slots := 0, locals := 22 }
set_option maxHeartbeats 4000000 in
set_option maxRecDepth 100000 in
theorem c_X12_may {l : Launch} {D : va_G} {cA : Nat → ClassId} {A : Nat → Prop}  {ob : Nat → Nat} {aS aI aR aM aK aT aZ aE aD aF aN aP aH : Nat → Int32} {vH vT vP vB vE vS : Int32} {n o : Nat} {kd fg : Nat → Nat} (hS : SR aS n o kd fg) {i : Nat} (hi : i < n) {st : Nat} (hst : st < 64) : Met l yX12_may wsX12_may rmX12_may (va_Pc [.ref (ob 0), .int (nI i), .int (nI st)] (Pre D cA A (MW cA ob aS aI aR aM aK aT aZ aE aD aF aN aP aH vH vT vP vB vE vS))) (va_Qi (fun r _ => r = b2i (mv (kd i) (fg i) i st)) (fun u t => Wd D A ((fun (_ : Unit) => MW cA ob aS aI aR aM aK aT aZ aE aD aF aN aP aH vH vT vP vB vE vS) u) t) A) (0) (0) A := by
  refine k_ofi (S := Unit) (F := fun (_ : Unit) => MW cA ob aS aI aR aM aK aT aZ aE aD aF aN aP aH vH vT vP vB vE vS) (cc := cX12_may) (maxL := 5) (by decide) rfl (Nat.le_of_ble_eq_true rfl) ?_
  intro p e s m args below meth c Q hF hini hK hA hG hret ls hl
  have hl : lv_has ls 5 [(0, .ref (ob 0)), (1, .int (nI i)), (2, .int (nI st))] := hl
  have hn : n ≤ 6 := hS.2.2.1
  have ho : o < 64 := hS.o64
  obtain ⟨hk1, hf1, hk8, hf10⟩ := hS.2.2.2.2 i hi
  have hi6 : i < 6 := by omega
  refine lv_aload_n hF.1 hF.2.1 dX12_may_0 rfl (lv_at hl 0 rfl) ?_
  refine lv_iload_n hF.1 hF.2.1 dX12_may_1 rfl (lv_at hl 1 rfl) ?_
  refine k_ci (r_V (As := [.int (nI i)]) hF hK hA hG (c_X12_figure hS hi) (cwV 1 hF.2.2.2.2 gX12_may_X12_figure rfl rfl rfl (by decide +kernel) ⟨Nat.le_of_ble_eq_true rfl, Nat.le_of_ble_eq_true rfl⟩) 0 rfl rfl rfl rfl hl.1 rfl (lv_room (Nat.le_of_ble_eq_true rfl)) dX12_may_2 ⟨Nat.le_of_ble_eq_true rfl, Nat.le_of_ble_eq_true rfl⟩) hG (fun r_2 u_2 H locs hp_2 hG => ?_)
  subst hp_2
  refine lv_istore_n (lv' := [(3, .int (nI (fg i))), (0, .ref (ob 0)), (1, .int (nI i)), (2, .int (nI st))]) hF.1 hF.2.1 dX12_may_5 rfl hl (by decide) rfl (fun ls hl => ?_)
  refine lv_iload_n hF.1 hF.2.1 dX12_may_6 rfl (lv_at hl 3 rfl) ?_
  refine lv_iload_n hF.1 hF.2.1 dX12_may_7 rfl (lv_at hl 2 rfl) ?_
  refine lv_ishr hF.1 hF.2.1 dX12_may_8 ?_
  refine lv_iconst (v := (nI 1)) hF.1 hF.2.1 dX12_may_9 (by decide +kernel) ?_
  refine lv_iand hF.1 hF.2.1 dX12_may_10 ?_
  refine lv_iconst (v := (nI 1)) hF.1 hF.2.1 dX12_may_11 (by decide +kernel) ?_
  refine lv_icmp_ne (tgt := 19) hF.1 hF.2.1 dX12_may_12 (by decide) (fun c_12 => ?_) (fun c_12 => ?_)
  · --
    refine lv_iconst (v := (nI 0)) hF.1 hF.2.1 dX12_may_19 (by decide +kernel) ?_
    refine lv_istore (lv' := [(4, .int (nI 0)), (3, .int (nI (fg i))), (0, .ref (ob 0)), (1, .int (nI i)), (2, .int (nI st))]) hF.1 hF.2.1 dX12_may_20 hl (by decide) rfl (fun ls hl => ?_)
    refine lv_aload_n hF.1 hF.2.1 dX12_may_22 rfl (lv_at hl 2 rfl) ?_
    refine lv_iload_n hF.1 hF.2.1 dX12_may_23 rfl (lv_at hl 3 rfl) ?_
    refine k_ci (r_V (As := [.int (nI i)]) hF hK hA hG (c_X12_kind hS hi) (cwV 1 hF.2.2.2.2 gX12_may_X12_kind rfl rfl rfl (by decide +kernel) ⟨Nat.le_of_ble_eq_true rfl, Nat.le_of_ble_eq_true rfl⟩) 0 rfl rfl rfl rfl hl.1 rfl (lv_room (Nat.le_of_ble_eq_true rfl)) dX12_may_24 ⟨Nat.le_of_ble_eq_true rfl, Nat.le_of_ble_eq_true rfl⟩) hG (fun r_24 u_24 H locs hp_24 hG => ?_)
    subst hp_24
    rcases (show kd i = 0 ∨ kd i = 1 ∨ kd i = 2 ∨ kd i = 3 ∨ kd i = 4 ∨ kd i = 5 ∨ kd i = 6 ∨ kd i = 7 by omega) with ek | ek | ek | ek | ek | ek | ek | ek
    · --
      rw [ek]
      refine lv_tableOut (tgt := 164) hF.1 hF.2.1 dX12_may_27 (by decide +kernel) (by decide) ?_
      refine lv_iload_n hF.1 hF.2.1 dX12_may_164 rfl (lv_at hl 3 rfl) ?_
      refine lv_iload_n hF.1 hF.2.1 dX12_may_165 rfl (lv_at hl 4 rfl) ?_
      refine k_ci (r_S (As := [.int (nI i), .int (nI st)]) hF hK hA hG (c_X12_byJoiner hi6 hst) (cwS 2 hF.2.2.2.2 gX12_may_X12_byJoiner rfl rfl rfl (by decide +kernel) ⟨Nat.le_of_ble_eq_true rfl, Nat.le_of_ble_eq_true rfl⟩) rfl hl.1 rfl (lv_room (Nat.le_of_ble_eq_true rfl)) dX12_may_166 ⟨Nat.le_of_ble_eq_true rfl, Nat.le_of_ble_eq_true rfl⟩) hG (fun r_166 u_166 H locs hp_166 hG => ?_)
      subst hp_166
      exact hret _ () _ ls _ _ _ _ (by revert c_12; revert hf10; rw [ek]; generalize fg i = f0; intro hf0; apply fin3 10 6 64 f0 i st hf0 hi6 hst; decide +kernel) (by first | rfl | exact nar_b2i _) hG (Nat.le_of_ble_eq_true rfl) (Nat.le_of_ble_eq_true rfl) dX12_may_169
    · --
      rw [ek]
      refine lv_tableIn (tgt := 68) hF.1 hF.2.1 dX12_may_27 (by decide +kernel) (by decide +kernel) rfl (by decide) ?_
      refine lv_iconst (v := (nI 1)) hF.1 hF.2.1 dX12_may_68 (by decide +kernel) ?_
      exact hret _ () _ ls _ _ _ _ (by revert c_12; revert hf10; rw [ek]; generalize fg i = f0; intro hf0; apply fin3 10 6 64 f0 i st hf0 hi6 hst; decide +kernel) (by first | rfl | exact nar_b2i _) hG (Nat.le_of_ble_eq_true rfl) (Nat.le_of_ble_eq_true rfl) dX12_may_69
    · --
      rw [ek]
      refine lv_tableIn (tgt := 70) hF.1 hF.2.1 dX12_may_27 (by decide +kernel) (by decide +kernel) rfl (by decide) ?_
      refine lv_iconst (v := (nI 0)) hF.1 hF.2.1 dX12_may_70 (by decide +kernel) ?_
      exact hret _ () _ ls _ _ _ _ (by revert c_12; revert hf10; rw [ek]; generalize fg i = f0; intro hf0; apply fin3 10 6 64 f0 i st hf0 hi6 hst; decide +kernel) (by first | rfl | exact nar_b2i _) hG (Nat.le_of_ble_eq_true rfl) (Nat.le_of_ble_eq_true rfl) dX12_may_71
    · --
      rw [ek]
      refine lv_tableIn (tgt := 72) hF.1 hF.2.1 dX12_may_27 (by decide +kernel) (by decide +kernel) rfl (by decide) ?_
      refine lv_iload_n hF.1 hF.2.1 dX12_may_72 rfl (lv_at hl 3 rfl) ?_
      refine lv_iload_n hF.1 hF.2.1 dX12_may_73 rfl (lv_at hl 4 rfl) ?_
      refine k_ci (r_S (As := [.int (nI i), .int (nI st)]) hF hK hA hG (c_X12_underShut hi6 hst) (cwS 2 hF.2.2.2.2 gX12_may_X12_underShut rfl rfl rfl (by decide +kernel) ⟨Nat.le_of_ble_eq_true rfl, Nat.le_of_ble_eq_true rfl⟩) rfl hl.1 rfl (lv_room (Nat.le_of_ble_eq_true rfl)) dX12_may_74 ⟨Nat.le_of_ble_eq_true rfl, Nat.le_of_ble_eq_true rfl⟩) hG (fun r_74 u_74 H locs hp_74 hG => ?_)
      subst hp_74
      exact hret _ () _ ls _ _ _ _ (by revert c_12; revert hf10; rw [ek]; generalize fg i = f0; intro hf0; apply fin3 10 6 64 f0 i st hf0 hi6 hst; decide +kernel) (by first | rfl | exact nar_b2i _) hG (Nat.le_of_ble_eq_true rfl) (Nat.le_of_ble_eq_true rfl) dX12_may_77
    · --
      rw [ek]
      refine lv_tableIn (tgt := 78) hF.1 hF.2.1 dX12_may_27 (by decide +kernel) (by decide +kernel) rfl (by decide) ?_
      refine lv_iload_n hF.1 hF.2.1 dX12_may_78 rfl (lv_at hl 3 rfl) ?_
      refine lv_iload_n hF.1 hF.2.1 dX12_may_79 rfl (lv_at hl 4 rfl) ?_
      refine k_ci (r_S (As := [.int (nI i), .int (nI st)]) hF hK hA hG (c_X12_byJoiner hi6 hst) (cwS 2 hF.2.2.2.2 gX12_may_X12_byJoiner rfl rfl rfl (by decide +kernel) ⟨Nat.le_of_ble_eq_true rfl, Nat.le_of_ble_eq_true rfl⟩) rfl hl.1 rfl (lv_room (Nat.le_of_ble_eq_true rfl)) dX12_may_80 ⟨Nat.le_of_ble_eq_true rfl, Nat.le_of_ble_eq_true rfl⟩) hG (fun r_80 u_80 H locs hp_80 hG => ?_)
      subst hp_80
      refine lv_if_eq (tgt := 98) hF.1 hF.2.1 dX12_may_83 (by decide) (fun c_83 => ?_) (fun c_83 => ?_)
      · --
        refine lv_iconst (v := (nI 0)) hF.1 hF.2.1 dX12_may_98 (by decide +kernel) ?_
        exact hret _ () _ ls _ _ _ _ (by revert c_12 c_83; revert hf10; rw [ek]; generalize fg i = f0; intro hf0; apply fin3 10 6 64 f0 i st hf0 hi6 hst; decide +kernel) (by first | rfl | exact nar_b2i _) hG (Nat.le_of_ble_eq_true rfl) (Nat.le_of_ble_eq_true rfl) dX12_may_99
      · --
        refine lv_iload_n hF.1 hF.2.1 dX12_may_86 rfl (lv_at hl 4 rfl) ?_
        refine lv_iload_n hF.1 hF.2.1 dX12_may_87 rfl (lv_at hl 1 rfl) ?_
        refine lv_ishr hF.1 hF.2.1 dX12_may_88 ?_
        refine lv_iconst (v := (nI 1)) hF.1 hF.2.1 dX12_may_89 (by decide +kernel) ?_
        refine lv_iand hF.1 hF.2.1 dX12_may_90 ?_
        refine lv_if_ne (tgt := 98) hF.1 hF.2.1 dX12_may_91 (by decide) (fun c_91 => ?_) (fun c_91 => ?_)
        · --
          refine lv_iconst (v := (nI 0)) hF.1 hF.2.1 dX12_may_98 (by decide +kernel) ?_
          exact hret _ () _ ls _ _ _ _ (by revert c_12 c_83 c_91; revert hf10; rw [ek]; generalize fg i = f0; intro hf0; apply fin3 10 6 64 f0 i st hf0 hi6 hst; decide +kernel) (by first | rfl | exact nar_b2i _) hG (Nat.le_of_ble_eq_true rfl) (Nat.le_of_ble_eq_true rfl) dX12_may_99
        · --
          refine lv_iconst (v := (nI 1)) hF.1 hF.2.1 dX12_may_94 (by decide +kernel) ?_
          refine lv_goto (tgt := 99) hF.1 hF.2.1 dX12_may_95 (by decide) ?_
          exact hret _ () _ ls _ _ _ _ (by revert c_12 c_83 c_91; revert hf10; rw [ek]; generalize fg i = f0; intro hf0; apply fin3 10 6 64 f0 i st hf0 hi6 hst; decide +kernel) (by first | rfl | exact nar_b2i _) hG (Nat.le_of_ble_eq_true rfl) (Nat.le_of_ble_eq_true rfl) dX12_may_99
    · --
      rw [ek]
      refine lv_tableIn (tgt := 100) hF.1 hF.2.1 dX12_may_27 (by decide +kernel) (by decide +kernel) rfl (by decide) ?_
      refine lv_iload_n hF.1 hF.2.1 dX12_may_100 rfl (lv_at hl 3 rfl) ?_
      refine lv_iload_n hF.1 hF.2.1 dX12_may_101 rfl (lv_at hl 4 rfl) ?_
      refine k_ci (r_S (As := [.int (nI i), .int (nI st)]) hF hK hA hG (c_X12_underShut hi6 hst) (cwS 2 hF.2.2.2.2 gX12_may_X12_underShut rfl rfl rfl (by decide +kernel) ⟨Nat.le_of_ble_eq_true rfl, Nat.le_of_ble_eq_true rfl⟩) rfl hl.1 rfl (lv_room (Nat.le_of_ble_eq_true rfl)) dX12_may_102 ⟨Nat.le_of_ble_eq_true rfl, Nat.le_of_ble_eq_true rfl⟩) hG (fun r_102 u_102 H locs hp_102 hG => ?_)
      subst hp_102
      refine lv_if_ne (tgt := 116) hF.1 hF.2.1 dX12_may_105 (by decide) (fun c_105 => ?_) (fun c_105 => ?_)
      · --
        refine lv_iconst (v := (nI 1)) hF.1 hF.2.1 dX12_may_116 (by decide +kernel) ?_
        refine lv_goto (tgt := 121) hF.1 hF.2.1 dX12_may_117 (by decide) ?_
        exact hret _ () _ ls _ _ _ _ (by revert c_12 c_105; revert hf10; rw [ek]; generalize fg i = f0; intro hf0; apply fin3 10 6 64 f0 i st hf0 hi6 hst; decide +kernel) (by first | rfl | exact nar_b2i _) hG (Nat.le_of_ble_eq_true rfl) (Nat.le_of_ble_eq_true rfl) dX12_may_121
      · --
        refine lv_iload_n hF.1 hF.2.1 dX12_may_108 rfl (lv_at hl 4 rfl) ?_
        refine k_ci (r_S (As := [.int (nI st)]) hF hK hA hG (c_X12_bits (by omega)) (cwS 1 hF.2.2.2.2 gX12_may_X12_bits rfl rfl rfl (by decide +kernel) ⟨Nat.le_of_ble_eq_true rfl, Nat.le_of_ble_eq_true rfl⟩) rfl hl.1 rfl (lv_room (Nat.le_of_ble_eq_true rfl)) dX12_may_109 ⟨Nat.le_of_ble_eq_true rfl, Nat.le_of_ble_eq_true rfl⟩) hG (fun r_109 u_109 H locs hp_109 hG => ?_)
        subst hp_109
        refine lv_iload_n hF.1 hF.2.1 dX12_may_112 rfl (lv_at hl 1 rfl) ?_
        refine lv_icmp_lt (tgt := 120) hF.1 hF.2.1 dX12_may_113 (by decide) (fun c_113 => ?_) (fun c_113 => ?_)
        · --
          refine lv_iconst (v := (nI 0)) hF.1 hF.2.1 dX12_may_120 (by decide +kernel) ?_
          exact hret _ () _ ls _ _ _ _ (by revert c_12 c_105 c_113; revert hf10; rw [ek]; generalize fg i = f0; intro hf0; apply fin3 10 6 64 f0 i st hf0 hi6 hst; decide +kernel) (by first | rfl | exact nar_b2i _) hG (Nat.le_of_ble_eq_true rfl) (Nat.le_of_ble_eq_true rfl) dX12_may_121
        · --
          refine lv_iconst (v := (nI 1)) hF.1 hF.2.1 dX12_may_116 (by decide +kernel) ?_
          refine lv_goto (tgt := 121) hF.1 hF.2.1 dX12_may_117 (by decide) ?_
          exact hret _ () _ ls _ _ _ _ (by revert c_12 c_105 c_113; revert hf10; rw [ek]; generalize fg i = f0; intro hf0; apply fin3 10 6 64 f0 i st hf0 hi6 hst; decide +kernel) (by first | rfl | exact nar_b2i _) hG (Nat.le_of_ble_eq_true rfl) (Nat.le_of_ble_eq_true rfl) dX12_may_121
    · --
      rw [ek]
      refine lv_tableIn (tgt := 122) hF.1 hF.2.1 dX12_may_27 (by decide +kernel) (by decide +kernel) rfl (by decide) ?_
      refine lv_iload_n hF.1 hF.2.1 dX12_may_122 rfl (lv_at hl 4 rfl) ?_
      refine lv_iconst (v := (nI 1)) hF.1 hF.2.1 dX12_may_123 (by decide +kernel) ?_
      refine lv_iload_n hF.1 hF.2.1 dX12_may_124 rfl (lv_at hl 3 rfl) ?_
      refine lv_ishl hF.1 hF.2.1 dX12_may_125 ?_
      refine lv_iconst (v := (-1)) hF.1 hF.2.1 dX12_may_126 (by decide +kernel) ?_
      refine lv_ixor hF.1 hF.2.1 dX12_may_127 ?_
      refine lv_iand hF.1 hF.2.1 dX12_may_128 ?_
      rw [clr_b hst hi6]
      refine k_ci (r_S (As := [.int (nI (if st.testBit i then st - 2 ^ i else st))]) hF hK hA hG (c_X12_bits (by have := clr_lt hst hi6; omega)) (cwS 1 hF.2.2.2.2 gX12_may_X12_bits rfl rfl rfl (by decide +kernel) ⟨Nat.le_of_ble_eq_true rfl, Nat.le_of_ble_eq_true rfl⟩) rfl hl.1 rfl (lv_room (Nat.le_of_ble_eq_true rfl)) dX12_may_129 ⟨Nat.le_of_ble_eq_true rfl, Nat.le_of_ble_eq_true rfl⟩) hG (fun r_129 u_129 H locs hp_129 hG => ?_)
      subst hp_129
      refine lv_iload_n hF.1 hF.2.1 dX12_may_132 rfl (lv_at hl 1 rfl) ?_
      refine lv_iadd hF.1 hF.2.1 dX12_may_133 ?_
      refine lv_iconst (v := (nI 2)) hF.1 hF.2.1 dX12_may_134 (by decide +kernel) ?_
      refine lv_irem hF.1 hF.2.1 dX12_may_135 (by decide +kernel) ?_
      refine lv_if_ne (tgt := 143) hF.1 hF.2.1 dX12_may_136 (by decide) (fun c_136 => ?_) (fun c_136 => ?_)
      · --
        refine lv_iconst (v := (nI 0)) hF.1 hF.2.1 dX12_may_143 (by decide +kernel) ?_
        exact hret _ () _ ls _ _ _ _ (by revert c_12 c_136; revert hf10; rw [ek]; generalize fg i = f0; intro hf0; apply fin3 10 6 64 f0 i st hf0 hi6 hst; decide +kernel) (by first | rfl | exact nar_b2i _) hG (Nat.le_of_ble_eq_true rfl) (Nat.le_of_ble_eq_true rfl) dX12_may_144
      · --
        refine lv_iconst (v := (nI 1)) hF.1 hF.2.1 dX12_may_139 (by decide +kernel) ?_
        refine lv_goto (tgt := 144) hF.1 hF.2.1 dX12_may_140 (by decide) ?_
        exact hret _ () _ ls _ _ _ _ (by revert c_12 c_136; revert hf10; rw [ek]; generalize fg i = f0; intro hf0; apply fin3 10 6 64 f0 i st hf0 hi6 hst; decide +kernel) (by first | rfl | exact nar_b2i _) hG (Nat.le_of_ble_eq_true rfl) (Nat.le_of_ble_eq_true rfl) dX12_may_144
    · --
      rw [ek]
      refine lv_tableIn (tgt := 145) hF.1 hF.2.1 dX12_may_27 (by decide +kernel) (by decide +kernel) rfl (by decide) ?_
      refine lv_iload hF.1 hF.2.1 dX12_may_145 (lv_at hl 0 rfl) ?_
      refine lv_if_ne (tgt := 158) hF.1 hF.2.1 dX12_may_147 (by decide) (fun c_147 => ?_) (fun c_147 => ?_)
      · --
        refine lv_iconst (v := (nI 1)) hF.1 hF.2.1 dX12_may_158 (by decide +kernel) ?_
        refine lv_goto (tgt := 163) hF.1 hF.2.1 dX12_may_159 (by decide) ?_
        exact hret _ () _ ls _ _ _ _ (by revert c_12 c_147; revert hf10; rw [ek]; generalize fg i = f0; intro hf0; apply fin3 10 6 64 f0 i st hf0 hi6 hst; decide +kernel) (by first | rfl | exact nar_b2i _) hG (Nat.le_of_ble_eq_true rfl) (Nat.le_of_ble_eq_true rfl) dX12_may_163
      · --
        refine lv_iload_n hF.1 hF.2.1 dX12_may_150 rfl (lv_at hl 3 rfl) ?_
        refine lv_iload_n hF.1 hF.2.1 dX12_may_151 rfl (lv_at hl 4 rfl) ?_
        refine k_ci (r_S (As := [.int (nI i), .int (nI st)]) hF hK hA hG (c_X12_byJoiner hi6 hst) (cwS 2 hF.2.2.2.2 gX12_may_X12_byJoiner rfl rfl rfl (by decide +kernel) ⟨Nat.le_of_ble_eq_true rfl, Nat.le_of_ble_eq_true rfl⟩) rfl hl.1 rfl (lv_room (Nat.le_of_ble_eq_true rfl)) dX12_may_152 ⟨Nat.le_of_ble_eq_true rfl, Nat.le_of_ble_eq_true rfl⟩) hG (fun r_152 u_152 H locs hp_152 hG => ?_)
        subst hp_152
        refine lv_if_eq (tgt := 162) hF.1 hF.2.1 dX12_may_155 (by decide) (fun c_155 => ?_) (fun c_155 => ?_)
        · --
          refine lv_iconst (v := (nI 0)) hF.1 hF.2.1 dX12_may_162 (by decide +kernel) ?_
          exact hret _ () _ ls _ _ _ _ (by revert c_12 c_147 c_155; revert hf10; rw [ek]; generalize fg i = f0; intro hf0; apply fin3 10 6 64 f0 i st hf0 hi6 hst; decide +kernel) (by first | rfl | exact nar_b2i _) hG (Nat.le_of_ble_eq_true rfl) (Nat.le_of_ble_eq_true rfl) dX12_may_163
        · --
          refine lv_iconst (v := (nI 1)) hF.1 hF.2.1 dX12_may_158 (by decide +kernel) ?_
          refine lv_goto (tgt := 163) hF.1 hF.2.1 dX12_may_159 (by decide) ?_
          exact hret _ () _ ls _ _ _ _ (by revert c_12 c_147 c_155; revert hf10; rw [ek]; generalize fg i = f0; intro hf0; apply fin3 10 6 64 f0 i st hf0 hi6 hst; decide +kernel) (by first | rfl | exact nar_b2i _) hG (Nat.le_of_ble_eq_true rfl) (Nat.le_of_ble_eq_true rfl) dX12_may_163
  · --
    refine lv_iconst (v := (nI 1)) hF.1 hF.2.1 dX12_may_15 (by decide +kernel) ?_
    refine lv_goto (tgt := 20) hF.1 hF.2.1 dX12_may_16 (by decide) ?_
    refine lv_istore (lv' := [(4, .int (nI 1)), (3, .int (nI (fg i))), (0, .ref (ob 0)), (1, .int (nI i)), (2, .int (nI st))]) hF.1 hF.2.1 dX12_may_20 hl (by decide) rfl (fun ls hl => ?_)
    refine lv_aload_n hF.1 hF.2.1 dX12_may_22 rfl (lv_at hl 2 rfl) ?_
    refine lv_iload_n hF.1 hF.2.1 dX12_may_23 rfl (lv_at hl 3 rfl) ?_
    refine k_ci (r_V (As := [.int (nI i)]) hF hK hA hG (c_X12_kind hS hi) (cwV 1 hF.2.2.2.2 gX12_may_X12_kind rfl rfl rfl (by decide +kernel) ⟨Nat.le_of_ble_eq_true rfl, Nat.le_of_ble_eq_true rfl⟩) 0 rfl rfl rfl rfl hl.1 rfl (lv_room (Nat.le_of_ble_eq_true rfl)) dX12_may_24 ⟨Nat.le_of_ble_eq_true rfl, Nat.le_of_ble_eq_true rfl⟩) hG (fun r_24 u_24 H locs hp_24 hG => ?_)
    subst hp_24
    rcases (show kd i = 0 ∨ kd i = 1 ∨ kd i = 2 ∨ kd i = 3 ∨ kd i = 4 ∨ kd i = 5 ∨ kd i = 6 ∨ kd i = 7 by omega) with ek | ek | ek | ek | ek | ek | ek | ek
    · --
      rw [ek]
      refine lv_tableOut (tgt := 164) hF.1 hF.2.1 dX12_may_27 (by decide +kernel) (by decide) ?_
      refine lv_iload_n hF.1 hF.2.1 dX12_may_164 rfl (lv_at hl 3 rfl) ?_
      refine lv_iload_n hF.1 hF.2.1 dX12_may_165 rfl (lv_at hl 4 rfl) ?_
      refine k_ci (r_S (As := [.int (nI i), .int (nI st)]) hF hK hA hG (c_X12_byJoiner hi6 hst) (cwS 2 hF.2.2.2.2 gX12_may_X12_byJoiner rfl rfl rfl (by decide +kernel) ⟨Nat.le_of_ble_eq_true rfl, Nat.le_of_ble_eq_true rfl⟩) rfl hl.1 rfl (lv_room (Nat.le_of_ble_eq_true rfl)) dX12_may_166 ⟨Nat.le_of_ble_eq_true rfl, Nat.le_of_ble_eq_true rfl⟩) hG (fun r_166 u_166 H locs hp_166 hG => ?_)
      subst hp_166
      exact hret _ () _ ls _ _ _ _ (by revert c_12; revert hf10; rw [ek]; generalize fg i = f0; intro hf0; apply fin3 10 6 64 f0 i st hf0 hi6 hst; decide +kernel) (by first | rfl | exact nar_b2i _) hG (Nat.le_of_ble_eq_true rfl) (Nat.le_of_ble_eq_true rfl) dX12_may_169
    · --
      rw [ek]
      refine lv_tableIn (tgt := 68) hF.1 hF.2.1 dX12_may_27 (by decide +kernel) (by decide +kernel) rfl (by decide) ?_
      refine lv_iconst (v := (nI 1)) hF.1 hF.2.1 dX12_may_68 (by decide +kernel) ?_
      exact hret _ () _ ls _ _ _ _ (by revert c_12; revert hf10; rw [ek]; generalize fg i = f0; intro hf0; apply fin3 10 6 64 f0 i st hf0 hi6 hst; decide +kernel) (by first | rfl | exact nar_b2i _) hG (Nat.le_of_ble_eq_true rfl) (Nat.le_of_ble_eq_true rfl) dX12_may_69
    · --
      rw [ek]
      refine lv_tableIn (tgt := 70) hF.1 hF.2.1 dX12_may_27 (by decide +kernel) (by decide +kernel) rfl (by decide) ?_
      refine lv_iconst (v := (nI 0)) hF.1 hF.2.1 dX12_may_70 (by decide +kernel) ?_
      exact hret _ () _ ls _ _ _ _ (by revert c_12; revert hf10; rw [ek]; generalize fg i = f0; intro hf0; apply fin3 10 6 64 f0 i st hf0 hi6 hst; decide +kernel) (by first | rfl | exact nar_b2i _) hG (Nat.le_of_ble_eq_true rfl) (Nat.le_of_ble_eq_true rfl) dX12_may_71
    · --
      rw [ek]
      refine lv_tableIn (tgt := 72) hF.1 hF.2.1 dX12_may_27 (by decide +kernel) (by decide +kernel) rfl (by decide) ?_
      refine lv_iload_n hF.1 hF.2.1 dX12_may_72 rfl (lv_at hl 3 rfl) ?_
      refine lv_iload_n hF.1 hF.2.1 dX12_may_73 rfl (lv_at hl 4 rfl) ?_
      refine k_ci (r_S (As := [.int (nI i), .int (nI st)]) hF hK hA hG (c_X12_underShut hi6 hst) (cwS 2 hF.2.2.2.2 gX12_may_X12_underShut rfl rfl rfl (by decide +kernel) ⟨Nat.le_of_ble_eq_true rfl, Nat.le_of_ble_eq_true rfl⟩) rfl hl.1 rfl (lv_room (Nat.le_of_ble_eq_true rfl)) dX12_may_74 ⟨Nat.le_of_ble_eq_true rfl, Nat.le_of_ble_eq_true rfl⟩) hG (fun r_74 u_74 H locs hp_74 hG => ?_)
      subst hp_74
      exact hret _ () _ ls _ _ _ _ (by revert c_12; revert hf10; rw [ek]; generalize fg i = f0; intro hf0; apply fin3 10 6 64 f0 i st hf0 hi6 hst; decide +kernel) (by first | rfl | exact nar_b2i _) hG (Nat.le_of_ble_eq_true rfl) (Nat.le_of_ble_eq_true rfl) dX12_may_77
    · --
      rw [ek]
      refine lv_tableIn (tgt := 78) hF.1 hF.2.1 dX12_may_27 (by decide +kernel) (by decide +kernel) rfl (by decide) ?_
      refine lv_iload_n hF.1 hF.2.1 dX12_may_78 rfl (lv_at hl 3 rfl) ?_
      refine lv_iload_n hF.1 hF.2.1 dX12_may_79 rfl (lv_at hl 4 rfl) ?_
      refine k_ci (r_S (As := [.int (nI i), .int (nI st)]) hF hK hA hG (c_X12_byJoiner hi6 hst) (cwS 2 hF.2.2.2.2 gX12_may_X12_byJoiner rfl rfl rfl (by decide +kernel) ⟨Nat.le_of_ble_eq_true rfl, Nat.le_of_ble_eq_true rfl⟩) rfl hl.1 rfl (lv_room (Nat.le_of_ble_eq_true rfl)) dX12_may_80 ⟨Nat.le_of_ble_eq_true rfl, Nat.le_of_ble_eq_true rfl⟩) hG (fun r_80 u_80 H locs hp_80 hG => ?_)
      subst hp_80
      refine lv_if_eq (tgt := 98) hF.1 hF.2.1 dX12_may_83 (by decide) (fun c_83 => ?_) (fun c_83 => ?_)
      · --
        refine lv_iconst (v := (nI 0)) hF.1 hF.2.1 dX12_may_98 (by decide +kernel) ?_
        exact hret _ () _ ls _ _ _ _ (by revert c_12 c_83; revert hf10; rw [ek]; generalize fg i = f0; intro hf0; apply fin3 10 6 64 f0 i st hf0 hi6 hst; decide +kernel) (by first | rfl | exact nar_b2i _) hG (Nat.le_of_ble_eq_true rfl) (Nat.le_of_ble_eq_true rfl) dX12_may_99
      · --
        refine lv_iload_n hF.1 hF.2.1 dX12_may_86 rfl (lv_at hl 4 rfl) ?_
        refine lv_iload_n hF.1 hF.2.1 dX12_may_87 rfl (lv_at hl 1 rfl) ?_
        refine lv_ishr hF.1 hF.2.1 dX12_may_88 ?_
        refine lv_iconst (v := (nI 1)) hF.1 hF.2.1 dX12_may_89 (by decide +kernel) ?_
        refine lv_iand hF.1 hF.2.1 dX12_may_90 ?_
        refine lv_if_ne (tgt := 98) hF.1 hF.2.1 dX12_may_91 (by decide) (fun c_91 => ?_) (fun c_91 => ?_)
        · --
          refine lv_iconst (v := (nI 0)) hF.1 hF.2.1 dX12_may_98 (by decide +kernel) ?_
          exact hret _ () _ ls _ _ _ _ (by revert c_12 c_83 c_91; revert hf10; rw [ek]; generalize fg i = f0; intro hf0; apply fin3 10 6 64 f0 i st hf0 hi6 hst; decide +kernel) (by first | rfl | exact nar_b2i _) hG (Nat.le_of_ble_eq_true rfl) (Nat.le_of_ble_eq_true rfl) dX12_may_99
        · --
          refine lv_iconst (v := (nI 1)) hF.1 hF.2.1 dX12_may_94 (by decide +kernel) ?_
          refine lv_goto (tgt := 99) hF.1 hF.2.1 dX12_may_95 (by decide) ?_
          exact hret _ () _ ls _ _ _ _ (by revert c_12 c_83 c_91; revert hf10; rw [ek]; generalize fg i = f0; intro hf0; apply fin3 10 6 64 f0 i st hf0 hi6 hst; decide +kernel) (by first | rfl | exact nar_b2i _) hG (Nat.le_of_ble_eq_true rfl) (Nat.le_of_ble_eq_true rfl) dX12_may_99
    · --
      rw [ek]
      refine lv_tableIn (tgt := 100) hF.1 hF.2.1 dX12_may_27 (by decide +kernel) (by decide +kernel) rfl (by decide) ?_
      refine lv_iload_n hF.1 hF.2.1 dX12_may_100 rfl (lv_at hl 3 rfl) ?_
      refine lv_iload_n hF.1 hF.2.1 dX12_may_101 rfl (lv_at hl 4 rfl) ?_
      refine k_ci (r_S (As := [.int (nI i), .int (nI st)]) hF hK hA hG (c_X12_underShut hi6 hst) (cwS 2 hF.2.2.2.2 gX12_may_X12_underShut rfl rfl rfl (by decide +kernel) ⟨Nat.le_of_ble_eq_true rfl, Nat.le_of_ble_eq_true rfl⟩) rfl hl.1 rfl (lv_room (Nat.le_of_ble_eq_true rfl)) dX12_may_102 ⟨Nat.le_of_ble_eq_true rfl, Nat.le_of_ble_eq_true rfl⟩) hG (fun r_102 u_102 H locs hp_102 hG => ?_)
      subst hp_102
      refine lv_if_ne (tgt := 116) hF.1 hF.2.1 dX12_may_105 (by decide) (fun c_105 => ?_) (fun c_105 => ?_)
      · --
        refine lv_iconst (v := (nI 1)) hF.1 hF.2.1 dX12_may_116 (by decide +kernel) ?_
        refine lv_goto (tgt := 121) hF.1 hF.2.1 dX12_may_117 (by decide) ?_
        exact hret _ () _ ls _ _ _ _ (by revert c_12 c_105; revert hf10; rw [ek]; generalize fg i = f0; intro hf0; apply fin3 10 6 64 f0 i st hf0 hi6 hst; decide +kernel) (by first | rfl | exact nar_b2i _) hG (Nat.le_of_ble_eq_true rfl) (Nat.le_of_ble_eq_true rfl) dX12_may_121
      · --
        refine lv_iload_n hF.1 hF.2.1 dX12_may_108 rfl (lv_at hl 4 rfl) ?_
        refine k_ci (r_S (As := [.int (nI st)]) hF hK hA hG (c_X12_bits (by omega)) (cwS 1 hF.2.2.2.2 gX12_may_X12_bits rfl rfl rfl (by decide +kernel) ⟨Nat.le_of_ble_eq_true rfl, Nat.le_of_ble_eq_true rfl⟩) rfl hl.1 rfl (lv_room (Nat.le_of_ble_eq_true rfl)) dX12_may_109 ⟨Nat.le_of_ble_eq_true rfl, Nat.le_of_ble_eq_true rfl⟩) hG (fun r_109 u_109 H locs hp_109 hG => ?_)
        subst hp_109
        refine lv_iload_n hF.1 hF.2.1 dX12_may_112 rfl (lv_at hl 1 rfl) ?_
        refine lv_icmp_lt (tgt := 120) hF.1 hF.2.1 dX12_may_113 (by decide) (fun c_113 => ?_) (fun c_113 => ?_)
        · --
          refine lv_iconst (v := (nI 0)) hF.1 hF.2.1 dX12_may_120 (by decide +kernel) ?_
          exact hret _ () _ ls _ _ _ _ (by revert c_12 c_105 c_113; revert hf10; rw [ek]; generalize fg i = f0; intro hf0; apply fin3 10 6 64 f0 i st hf0 hi6 hst; decide +kernel) (by first | rfl | exact nar_b2i _) hG (Nat.le_of_ble_eq_true rfl) (Nat.le_of_ble_eq_true rfl) dX12_may_121
        · --
          refine lv_iconst (v := (nI 1)) hF.1 hF.2.1 dX12_may_116 (by decide +kernel) ?_
          refine lv_goto (tgt := 121) hF.1 hF.2.1 dX12_may_117 (by decide) ?_
          exact hret _ () _ ls _ _ _ _ (by revert c_12 c_105 c_113; revert hf10; rw [ek]; generalize fg i = f0; intro hf0; apply fin3 10 6 64 f0 i st hf0 hi6 hst; decide +kernel) (by first | rfl | exact nar_b2i _) hG (Nat.le_of_ble_eq_true rfl) (Nat.le_of_ble_eq_true rfl) dX12_may_121
    · --
      rw [ek]
      refine lv_tableIn (tgt := 122) hF.1 hF.2.1 dX12_may_27 (by decide +kernel) (by decide +kernel) rfl (by decide) ?_
      refine lv_iload_n hF.1 hF.2.1 dX12_may_122 rfl (lv_at hl 4 rfl) ?_
      refine lv_iconst (v := (nI 1)) hF.1 hF.2.1 dX12_may_123 (by decide +kernel) ?_
      refine lv_iload_n hF.1 hF.2.1 dX12_may_124 rfl (lv_at hl 3 rfl) ?_
      refine lv_ishl hF.1 hF.2.1 dX12_may_125 ?_
      refine lv_iconst (v := (-1)) hF.1 hF.2.1 dX12_may_126 (by decide +kernel) ?_
      refine lv_ixor hF.1 hF.2.1 dX12_may_127 ?_
      refine lv_iand hF.1 hF.2.1 dX12_may_128 ?_
      rw [clr_b hst hi6]
      refine k_ci (r_S (As := [.int (nI (if st.testBit i then st - 2 ^ i else st))]) hF hK hA hG (c_X12_bits (by have := clr_lt hst hi6; omega)) (cwS 1 hF.2.2.2.2 gX12_may_X12_bits rfl rfl rfl (by decide +kernel) ⟨Nat.le_of_ble_eq_true rfl, Nat.le_of_ble_eq_true rfl⟩) rfl hl.1 rfl (lv_room (Nat.le_of_ble_eq_true rfl)) dX12_may_129 ⟨Nat.le_of_ble_eq_true rfl, Nat.le_of_ble_eq_true rfl⟩) hG (fun r_129 u_129 H locs hp_129 hG => ?_)
      subst hp_129
      refine lv_iload_n hF.1 hF.2.1 dX12_may_132 rfl (lv_at hl 1 rfl) ?_
      refine lv_iadd hF.1 hF.2.1 dX12_may_133 ?_
      refine lv_iconst (v := (nI 2)) hF.1 hF.2.1 dX12_may_134 (by decide +kernel) ?_
      refine lv_irem hF.1 hF.2.1 dX12_may_135 (by decide +kernel) ?_
      refine lv_if_ne (tgt := 143) hF.1 hF.2.1 dX12_may_136 (by decide) (fun c_136 => ?_) (fun c_136 => ?_)
      · --
        refine lv_iconst (v := (nI 0)) hF.1 hF.2.1 dX12_may_143 (by decide +kernel) ?_
        exact hret _ () _ ls _ _ _ _ (by revert c_12 c_136; revert hf10; rw [ek]; generalize fg i = f0; intro hf0; apply fin3 10 6 64 f0 i st hf0 hi6 hst; decide +kernel) (by first | rfl | exact nar_b2i _) hG (Nat.le_of_ble_eq_true rfl) (Nat.le_of_ble_eq_true rfl) dX12_may_144
      · --
        refine lv_iconst (v := (nI 1)) hF.1 hF.2.1 dX12_may_139 (by decide +kernel) ?_
        refine lv_goto (tgt := 144) hF.1 hF.2.1 dX12_may_140 (by decide) ?_
        exact hret _ () _ ls _ _ _ _ (by revert c_12 c_136; revert hf10; rw [ek]; generalize fg i = f0; intro hf0; apply fin3 10 6 64 f0 i st hf0 hi6 hst; decide +kernel) (by first | rfl | exact nar_b2i _) hG (Nat.le_of_ble_eq_true rfl) (Nat.le_of_ble_eq_true rfl) dX12_may_144
    · --
      rw [ek]
      refine lv_tableIn (tgt := 145) hF.1 hF.2.1 dX12_may_27 (by decide +kernel) (by decide +kernel) rfl (by decide) ?_
      refine lv_iload hF.1 hF.2.1 dX12_may_145 (lv_at hl 0 rfl) ?_
      refine lv_if_ne (tgt := 158) hF.1 hF.2.1 dX12_may_147 (by decide) (fun c_147 => ?_) (fun c_147 => ?_)
      · --
        refine lv_iconst (v := (nI 1)) hF.1 hF.2.1 dX12_may_158 (by decide +kernel) ?_
        refine lv_goto (tgt := 163) hF.1 hF.2.1 dX12_may_159 (by decide) ?_
        exact hret _ () _ ls _ _ _ _ (by revert c_12 c_147; revert hf10; rw [ek]; generalize fg i = f0; intro hf0; apply fin3 10 6 64 f0 i st hf0 hi6 hst; decide +kernel) (by first | rfl | exact nar_b2i _) hG (Nat.le_of_ble_eq_true rfl) (Nat.le_of_ble_eq_true rfl) dX12_may_163
      · --
        refine lv_iload_n hF.1 hF.2.1 dX12_may_150 rfl (lv_at hl 3 rfl) ?_
        refine lv_iload_n hF.1 hF.2.1 dX12_may_151 rfl (lv_at hl 4 rfl) ?_
        refine k_ci (r_S (As := [.int (nI i), .int (nI st)]) hF hK hA hG (c_X12_byJoiner hi6 hst) (cwS 2 hF.2.2.2.2 gX12_may_X12_byJoiner rfl rfl rfl (by decide +kernel) ⟨Nat.le_of_ble_eq_true rfl, Nat.le_of_ble_eq_true rfl⟩) rfl hl.1 rfl (lv_room (Nat.le_of_ble_eq_true rfl)) dX12_may_152 ⟨Nat.le_of_ble_eq_true rfl, Nat.le_of_ble_eq_true rfl⟩) hG (fun r_152 u_152 H locs hp_152 hG => ?_)
        subst hp_152
        refine lv_if_eq (tgt := 162) hF.1 hF.2.1 dX12_may_155 (by decide) (fun c_155 => ?_) (fun c_155 => ?_)
        · --
          refine lv_iconst (v := (nI 0)) hF.1 hF.2.1 dX12_may_162 (by decide +kernel) ?_
          exact hret _ () _ ls _ _ _ _ (by revert c_12 c_147 c_155; revert hf10; rw [ek]; generalize fg i = f0; intro hf0; apply fin3 10 6 64 f0 i st hf0 hi6 hst; decide +kernel) (by first | rfl | exact nar_b2i _) hG (Nat.le_of_ble_eq_true rfl) (Nat.le_of_ble_eq_true rfl) dX12_may_163
        · --
          refine lv_iconst (v := (nI 1)) hF.1 hF.2.1 dX12_may_158 (by decide +kernel) ?_
          refine lv_goto (tgt := 163) hF.1 hF.2.1 dX12_may_159 (by decide) ?_
          exact hret _ () _ ls _ _ _ _ (by revert c_12 c_147 c_155; revert hf10; rw [ek]; generalize fg i = f0; intro hf0; apply fin3 10 6 64 f0 i st hf0 hi6 hst; decide +kernel) (by first | rfl | exact nar_b2i _) hG (Nat.le_of_ble_eq_true rfl) (Nat.le_of_ble_eq_true rfl) dX12_may_163

abbrev rmX12_allMay : Room := { frames := 2, cells := 0, slots := 0, locals := 46 }
set_option maxHeartbeats 4000000 in
set_option maxRecDepth 100000 in
theorem c_X12_allMay {l : Launch} {D : va_G} {cA : Nat → ClassId} {A : Nat → Prop}  {ob : Nat → Nat} {aS aI aR aM aK aT aZ aE aD aF aN aP aH : Nat → Int32} {vH vT vP vB vE vS : Int32} {n o : Nat} {kd fg : Nat → Nat} (hS : SR aS n o kd fg) {st : Nat} (hst : st < 64) : Met l yX12_allMay wsX12_allMay rmX12_allMay (va_Pc [.ref (ob 0), .int (nI st)] (Pre D cA A (MW cA ob aS aI aR aM aK aT aZ aE aD aF aN aP aH vH vT vP vB vE vS))) (va_Qi (fun r _ => r = nI (mayU kd fg st n)) (fun u t => Wd D A ((fun (_ : Unit) => MW cA ob aS aI aR aM aK aT aZ aE aD aF aN aP aH vH vT vP vB vE vS) u) t) A) (0) (0) A := by
  refine k_ofi (S := Unit) (F := fun (_ : Unit) => MW cA ob aS aI aR aM aK aT aZ aE aD aF aN aP aH vH vT vP vB vE vS) (cc := cX12_allMay) (maxL := 4) (by decide) rfl (Nat.le_of_ble_eq_true rfl) ?_
  intro p e s m args below meth c Q hF hini hK hA hG hret ls hl
  have hl : lv_has ls 4 [(0, .ref (ob 0)), (1, .int (nI st))] := hl
  have hn : n ≤ 6 := hS.2.2.1
  have ho : o < 64 := hS.o64
  refine lv_iconst (v := (nI 0)) hF.1 hF.2.1 dX12_allMay_0 (by decide +kernel) ?_
  refine lv_istore_n (lv' := [(2, .int (nI 0)), (0, .ref (ob 0)), (1, .int (nI st))]) hF.1 hF.2.1 dX12_allMay_1 rfl hl (by decide) rfl (fun ls hl => ?_)
  refine lv_iconst (v := (nI 0)) hF.1 hF.2.1 dX12_allMay_2 (by decide +kernel) ?_
  refine lv_istore_n (lv' := [(3, .int (nI 0)), (2, .int (nI 0)), (0, .ref (ob 0)), (1, .int (nI st))]) hF.1 hF.2.1 dX12_allMay_3 rfl hl (by decide) rfl (fun ls hl => ?_)
  have lp4 : ∀ (fuel : Nat), ∀ (j : Nat), (hj : j ≤ n) → (n - j) < fuel → ∀ (H : Heap) (locs : List Loc), Gd D A (MW cA ob aS aI aR aM aK aT aZ aE aD aF aN aP aH vH vT vP vB vE vS) s.heap H locs → ∀ ls : Array Slot, lv_has ls 4 [(0, .ref (ob 0)), (1, .int (nI st)), (2, .int (nI (mayU kd fg st j))), (3, .int (nI j))] → W p l e rmX12_allMay s m args below meth c H locs (0) (0) Q (F0 m 4 ls []) := by
    intro fuel
    induction fuel with
    | zero => intro j hj hmu; exact absurd hmu (Nat.not_lt_zero _)
    | succ fuel ih4 =>
      intro j hj hmu H locs hG ls hl
      refine lv_iload_n hF.1 hF.2.1 dX12_allMay_4 rfl (lv_at hl 3 rfl) ?_
      refine lv_aload_n hF.1 hF.2.1 dX12_allMay_5 rfl (lv_at hl 0 rfl) ?_
      refine k_get (C := RX12) (T := TX12) (N := 19) hF hK hG (fun _ h => List.mem_cons_of_mem _ (List.mem_append_right _ h)) 0 rfl rfl 0 (by decide) (List.mem_of_getElem? (i := 1) rfl) (fun _ h9 => h9) rfl dX12_allMay_6 ?_
      refine lv_iconst (v := (nI 0)) hF.1 hF.2.1 dX12_allMay_9 (by decide +kernel) ?_
      refine k_ialdN hF hK hG 1 rfl (0) rfl (by omega) (by omega) dX12_allMay_10 ?_
      rw [hS.1]
      refine lv_icmp_ge (tgt := 39) hF.1 hF.2.1 dX12_allMay_11 (by decide) (fun c_11 => ?_) (fun c_11 => ?_)
      · --
        have n_11 : n ≤ j := (nI_leI (a := n) (b := j) (by omega) (by omega)).mp c_11
        refine lv_iload_n hF.1 hF.2.1 dX12_allMay_39 rfl (lv_at hl 2 rfl) ?_
        exact hret _ () _ ls _ _ _ _ (by rw [show j = n by omega]) (by first | rfl | exact nar_b2i _) hG (Nat.le_of_ble_eq_true rfl) (Nat.le_of_ble_eq_true rfl) dX12_allMay_40
      · --
        have n_11 : ¬ (n ≤ j) := fun zz9 => c_11 ((nI_leI (a := n) (b := j) (by omega) (by omega)).mpr zz9)
        refine lv_iload_n hF.1 hF.2.1 dX12_allMay_14 rfl (lv_at hl 2 rfl) ?_
        refine lv_aload_n hF.1 hF.2.1 dX12_allMay_15 rfl (lv_at hl 0 rfl) ?_
        refine lv_iload_n hF.1 hF.2.1 dX12_allMay_16 rfl (lv_at hl 3 rfl) ?_
        refine lv_iload_n hF.1 hF.2.1 dX12_allMay_17 rfl (lv_at hl 1 rfl) ?_
        refine k_ci (r_V (As := [.int (nI j), .int (nI st)]) hF hK hA hG (c_X12_may hS (by omega) hst) (cwV 2 hF.2.2.2.2 gX12_allMay_X12_may rfl rfl rfl (by decide +kernel) ⟨Nat.le_of_ble_eq_true rfl, Nat.le_of_ble_eq_true rfl⟩) 0 rfl rfl rfl rfl hl.1 rfl (lv_room (Nat.le_of_ble_eq_true rfl)) dX12_allMay_18 ⟨Nat.le_of_ble_eq_true rfl, Nat.le_of_ble_eq_true rfl⟩) hG (fun r_18 u_18 H locs hp_18 hG => ?_)
        subst hp_18
        refine lv_if_eq (tgt := 30) hF.1 hF.2.1 dX12_allMay_21 (by decide) (fun c_21 => ?_) (fun c_21 => ?_)
        · --
          have n_21 : (mv (kd j) (fg j) j st) = false := b2i_z.mp c_21
          refine lv_iconst (v := (nI 0)) hF.1 hF.2.1 dX12_allMay_30 (by decide +kernel) ?_
          skip
          refine lv_ior hF.1 hF.2.1 dX12_allMay_31 ?_
          refine lv_istore_n (lv' := [(2, .int ((nI (mayU kd fg st j)) ||| (nI 0))), (0, .ref (ob 0)), (1, .int (nI st)), (3, .int (nI j))]) hF.1 hF.2.1 dX12_allMay_32 rfl hl (by decide) rfl (fun ls hl => ?_)
          refine lv_iinc (v := (nI (j + 1))) (lv' := [(3, .int (nI (j + 1))), (2, .int ((nI (mayU kd fg st j)) ||| (nI 0))), (0, .ref (ob 0)), (1, .int (nI st))]) hF.1 hF.2.1 dX12_allMay_33 hl (k := 3) rfl (nI_inc _ _) (by decide) rfl (fun ls hl => ?_)
          refine lv_goto (tgt := 4) hF.1 hF.2.1 dX12_allMay_36 (by decide) ?_
          exact ih4 (j + 1) (by omega) (by omega) _ _ hG ls (lv_sub hl [2, 3, 1, 0] (by rw [nx_or]; first | (rw [mayU_t2 n_21]; rfl) | (rw [mayU_f2 n_21]; rfl)))
        · --
          have n_21 : (mv (kd j) (fg j) j st) = true := b2i_nz.mp c_21
          refine lv_iconst (v := (nI 1)) hF.1 hF.2.1 dX12_allMay_24 (by decide +kernel) ?_
          refine lv_iload_n hF.1 hF.2.1 dX12_allMay_25 rfl (lv_at hl 3 rfl) ?_
          refine lv_ishl hF.1 hF.2.1 dX12_allMay_26 ?_
          rw [shl_1 (by omega)]
          refine lv_goto (tgt := 31) hF.1 hF.2.1 dX12_allMay_27 (by decide) ?_
          skip
          refine lv_ior hF.1 hF.2.1 dX12_allMay_31 ?_
          refine lv_istore_n (lv' := [(2, .int ((nI (mayU kd fg st j)) ||| (nI (2 ^ j)))), (0, .ref (ob 0)), (1, .int (nI st)), (3, .int (nI j))]) hF.1 hF.2.1 dX12_allMay_32 rfl hl (by decide) rfl (fun ls hl => ?_)
          refine lv_iinc (v := (nI (j + 1))) (lv' := [(3, .int (nI (j + 1))), (2, .int ((nI (mayU kd fg st j)) ||| (nI (2 ^ j)))), (0, .ref (ob 0)), (1, .int (nI st))]) hF.1 hF.2.1 dX12_allMay_33 hl (k := 3) rfl (nI_inc _ _) (by decide) rfl (fun ls hl => ?_)
          refine lv_goto (tgt := 4) hF.1 hF.2.1 dX12_allMay_36 (by decide) ?_
          exact ih4 (j + 1) (by omega) (by omega) _ _ hG ls (lv_sub hl [2, 3, 1, 0] (by rw [nx_or]; first | (rw [mayU_t2 n_21]; rfl) | (rw [mayU_f2 n_21]; rfl)))
  exact lp4 _ (0) (by omega) (Nat.lt_succ_self _) _ _ hG ls (lv_sub hl [2, 3, 1, 0] rfl)

abbrev rmX12_pulls : Room := { frames := 2, cells := 0, slots := 0, locals := 46 }
set_option maxHeartbeats 4000000 in
set_option maxRecDepth 100000 in
theorem c_X12_pulls {l : Launch} {D : va_G} {cA : Nat → ClassId} {A : Nat → Prop}  {ob : Nat → Nat} {aS aI aR aM aK aT aZ aE aD aF aN aP aH : Nat → Int32} {vH vT vP vB vE vS : Int32} {n o : Nat} {kd fg : Nat → Nat} (hS : SR aS n o kd fg) {i : Nat} (hi : i < n) : Met l yX12_pulls wsX12_pulls rmX12_pulls (va_Pc [.ref (ob 0), .int (nI i)] (Pre D cA A (MW cA ob aS aI aR aM aK aT aZ aE aD aF aN aP aH vH vT vP vB vE vS))) (va_Qi (fun r (u : Nat → Int32) => r = b2i (mayZ n kd fg (nI i) o) ∧ SR u n (pullO n kd fg (nI i) o) kd fg) (fun u t => Wd D A ((fun (u : Nat → Int32) => MW cA ob u aI aR aM aK aT aZ aE aD aF aN aP aH vH vT vP vB vE vS) u) t) A) (0) (0) A := by
  refine k_ofi (S := Nat → Int32) (F := fun (u : Nat → Int32) => MW cA ob u aI aR aM aK aT aZ aE aD aF aN aP aH vH vT vP vB vE vS) (cc := cX12_pulls) (maxL := 2) (by decide) rfl (Nat.le_of_ble_eq_true rfl) ?_
  intro p e s m args below meth c Q hF hini hK hA hG hret ls hl
  have hl : lv_has ls 2 [(0, .ref (ob 0)), (1, .int (nI i))] := hl
  have hn : n ≤ 6 := hS.2.2.1
  have ho : o < 64 := hS.o64
  refine lv_aload_n hF.1 hF.2.1 dX12_pulls_0 rfl (lv_at hl 0 rfl) ?_
  refine lv_iload_n hF.1 hF.2.1 dX12_pulls_1 rfl (lv_at hl 1 rfl) ?_
  refine lv_aload_n hF.1 hF.2.1 dX12_pulls_2 rfl (lv_at hl 0 rfl) ?_
  refine k_get (C := RX12) (T := TX12) (N := 19) hF hK hG (fun _ h => List.mem_cons_of_mem _ (List.mem_append_right _ h)) 0 rfl rfl 0 (by decide) (List.mem_of_getElem? (i := 1) rfl) (fun _ h9 => h9) rfl dX12_pulls_3 ?_
  refine lv_iconst (v := (nI 1)) hF.1 hF.2.1 dX12_pulls_6 (by decide +kernel) ?_
  refine k_ialdN hF hK hG 1 rfl (1) rfl (by omega) (by omega) dX12_pulls_7 ?_
  rw [hS.2.1]
  refine k_ci (r_V (As := [.int (nI i), .int (nI o)]) hF hK hA hG (c_X12_may hS hi ho) (cwV 2 hF.2.2.2.2 gX12_pulls_X12_may rfl rfl rfl (by decide +kernel) ⟨Nat.le_of_ble_eq_true rfl, Nat.le_of_ble_eq_true rfl⟩) 0 rfl rfl rfl rfl hl.1 rfl (lv_room (Nat.le_of_ble_eq_true rfl)) dX12_pulls_8 ⟨Nat.le_of_ble_eq_true rfl, Nat.le_of_ble_eq_true rfl⟩) hG (fun r_8 u_8 H locs hp_8 hG => ?_)
  subst hp_8
  refine lv_if_ne (tgt := 16) hF.1 hF.2.1 dX12_pulls_11 (by decide) (fun c_11 => ?_) (fun c_11 => ?_)
  · --
    have n_11 : (mv (kd i) (fg i) i o) = true := b2i_nz.mp c_11
    refine lv_aload_n hF.1 hF.2.1 dX12_pulls_16 rfl (lv_at hl 0 rfl) ?_
    refine k_get (C := RX12) (T := TX12) (N := 19) hF hK hG (fun _ h => List.mem_cons_of_mem _ (List.mem_append_right _ h)) 0 rfl rfl 0 (by decide) (List.mem_of_getElem? (i := 1) rfl) (fun _ h9 => h9) rfl dX12_pulls_17 ?_
    refine lv_iconst (v := (nI 1)) hF.1 hF.2.1 dX12_pulls_20 (by decide +kernel) ?_
    refine lv_dup2_11 hF.1 hF.2.1 dX12_pulls_21 rfl rfl ?_
    refine k_ialdN hF hK hG 1 rfl (1) rfl (by omega) (by omega) dX12_pulls_22 ?_
    rw [hS.2.1]
    refine lv_iconst (v := (nI 1)) hF.1 hF.2.1 dX12_pulls_23 (by decide +kernel) ?_
    refine lv_iload_n hF.1 hF.2.1 dX12_pulls_24 rfl (lv_at hl 1 rfl) ?_
    refine lv_ishl hF.1 hF.2.1 dX12_pulls_25 ?_
    rw [shl_1 (by omega)]
    refine lv_ixor hF.1 hF.2.1 dX12_pulls_26 ?_
    rw [nx_xor]
    refine k_iastN hF hK hG 1 rfl (1) rfl (by omega) (by omega) dX12_pulls_27 (fun H locs hG => ?_)
    refine lv_iconst (v := (nI 1)) hF.1 hF.2.1 dX12_pulls_28 (by decide +kernel) ?_
    exact hret _ (upd aS 1 (nI (o ^^^ 2 ^ i))) _ ls _ _ _ _ (by rw [mayZ_t hn hi, n_11, pullO_j hn hi n_11]; exact ⟨rfl, hS.setO (xor_ltn hS.2.2.2.1 hi)⟩) (by first | rfl | exact nar_b2i _) hG (Nat.le_of_ble_eq_true rfl) (Nat.le_of_ble_eq_true rfl) dX12_pulls_29
  · --
    have n_11 : (mv (kd i) (fg i) i o) = false := b2i_z.mp c_11
    refine lv_iconst (v := (nI 0)) hF.1 hF.2.1 dX12_pulls_14 (by decide +kernel) ?_
    exact hret _ aS _ ls _ _ _ _ (by rw [mayZ_t hn hi, n_11, pullO_n hn hi n_11]; exact ⟨rfl, hS⟩) (by first | rfl | exact nar_b2i _) hG (Nat.le_of_ble_eq_true rfl) (Nat.le_of_ble_eq_true rfl) dX12_pulls_15

abbrev rmX12_adds : Room := { frames := 1, cells := 0, slots := 0, locals := 23 }
set_option maxHeartbeats 4000000 in
set_option maxRecDepth 100000 in
theorem c_X12_adds {l : Launch} {D : va_G} {cA : Nat → ClassId} {A : Nat → Prop}  {ob : Nat → Nat} {aS aI aR aM aK aT aZ aE aD aF aN aP aH : Nat → Int32} {vH vT vP vB vE vS : Int32} {n o : Nat} {kd fg : Nat → Nat} (hS : SR aS n o kd fg) {k g : Nat} (hk : k < 8) (hg : g < 10) : Met l yX12_adds wsX12_adds rmX12_adds (va_Pc [.ref (ob 0), .int (nI k), .int (nI g)] (Pre D cA A (MW cA ob aS aI aR aM aK aT aZ aE aD aF aN aP aH vH vT vP vB vE vS))) (va_Qi (fun r (u : Nat → Int32) => (n = 6 → r = b2i false ∧ u = aS) ∧ (n < 6 → r = b2i true ∧ SR u (n + 1) o (va_up kd n k) (va_up fg n g))) (fun u t => Wd D A ((fun (u : Nat → Int32) => MW cA ob u aI aR aM aK aT aZ aE aD aF aN aP aH vH vT vP vB vE vS) u) t) A) (0) (0) A := by
  refine k_ofi (S := Nat → Int32) (F := fun (u : Nat → Int32) => MW cA ob u aI aR aM aK aT aZ aE aD aF aN aP aH vH vT vP vB vE vS) (cc := cX12_adds) (maxL := 3) (by decide) rfl (Nat.le_of_ble_eq_true rfl) ?_
  intro p e s m args below meth c Q hF hini hK hA hG hret ls hl
  have hl : lv_has ls 3 [(0, .ref (ob 0)), (1, .int (nI k)), (2, .int (nI g))] := hl
  have hn : n ≤ 6 := hS.2.2.1
  have ho : o < 64 := hS.o64
  refine lv_aload_n hF.1 hF.2.1 dX12_adds_0 rfl (lv_at hl 0 rfl) ?_
  refine k_get (C := RX12) (T := TX12) (N := 19) hF hK hG (fun _ h => List.mem_cons_of_mem _ (List.mem_append_right _ h)) 0 rfl rfl 0 (by decide) (List.mem_of_getElem? (i := 1) rfl) (fun _ h9 => h9) rfl dX12_adds_1 ?_
  refine lv_iconst (v := (nI 0)) hF.1 hF.2.1 dX12_adds_4 (by decide +kernel) ?_
  refine k_ialdN hF hK hG 1 rfl (0) rfl (by omega) (by omega) dX12_adds_5 ?_
  rw [hS.1]
  refine lv_bipush (v := (nI 6)) hF.1 hF.2.1 dX12_adds_6 (by decide +kernel) ?_
  refine lv_icmp_ne (tgt := 13) hF.1 hF.2.1 dX12_adds_8 (by decide) (fun c_8 => ?_) (fun c_8 => ?_)
  · --
    have n_8 : ¬ (n = 6) := fun zz9 => c_8 ((nI_eq (a := n) (b := 6) (by omega) (by omega)).mpr zz9)
    refine lv_aload_n hF.1 hF.2.1 dX12_adds_13 rfl (lv_at hl 0 rfl) ?_
    refine lv_aload_n hF.1 hF.2.1 dX12_adds_14 rfl (lv_at hl 0 rfl) ?_
    refine k_get (C := RX12) (T := TX12) (N := 19) hF hK hG (fun _ h => List.mem_cons_of_mem _ (List.mem_append_right _ h)) 0 rfl rfl 0 (by decide) (List.mem_of_getElem? (i := 1) rfl) (fun _ h9 => h9) rfl dX12_adds_15 ?_
    refine lv_iconst (v := (nI 0)) hF.1 hF.2.1 dX12_adds_18 (by decide +kernel) ?_
    refine k_ialdN hF hK hG 1 rfl (0) rfl (by omega) (by omega) dX12_adds_19 ?_
    rw [hS.1]
    refine lv_iload_n hF.1 hF.2.1 dX12_adds_20 rfl (lv_at hl 1 rfl) ?_
    refine lv_iload_n hF.1 hF.2.1 dX12_adds_21 rfl (lv_at hl 2 rfl) ?_
    refine k_cv (r_V (As := [.int (nI n), .int (nI k), .int (nI g)]) hF hK hA hG (c_X12_setDrawer (show n < 6 by omega)) (cwV 3 hF.2.2.2.2 gX12_adds_X12_setDrawer rfl rfl rfl (by decide +kernel) ⟨Nat.le_of_ble_eq_true rfl, Nat.le_of_ble_eq_true rfl⟩) 0 rfl rfl rfl rfl hl.1 rfl (lv_room (Nat.le_of_ble_eq_true rfl)) dX12_adds_22 ⟨Nat.le_of_ble_eq_true rfl, Nat.le_of_ble_eq_true rfl⟩) hG (fun u_22 H locs hp_22 hG => ?_)
    refine lv_aload_n hF.1 hF.2.1 dX12_adds_25 rfl (lv_at hl 0 rfl) ?_
    refine k_get (C := RX12) (T := TX12) (N := 19) hF hK hG (fun _ h => List.mem_cons_of_mem _ (List.mem_append_right _ h)) 0 rfl rfl 0 (by decide) (List.mem_of_getElem? (i := 1) rfl) (fun _ h9 => h9) rfl dX12_adds_26 ?_
    refine lv_iconst (v := (nI 0)) hF.1 hF.2.1 dX12_adds_29 (by decide +kernel) ?_
    refine lv_dup2_11 hF.1 hF.2.1 dX12_adds_30 rfl rfl ?_
    refine k_ialdN hF hK hG 1 rfl (0) rfl (by omega) (by omega) dX12_adds_31 ?_
    rw [pk_un (by omega), pk_un (by omega), hS.1]
    refine lv_iconst (v := (nI 1)) hF.1 hF.2.1 dX12_adds_32 (by decide +kernel) ?_
    refine lv_iadd hF.1 hF.2.1 dX12_adds_33 ?_
    rw [nI_add]
    refine k_iastN hF hK hG 1 rfl (0) rfl (by omega) (by omega) dX12_adds_34 (fun H locs hG => ?_)
    refine lv_iconst (v := (nI 1)) hF.1 hF.2.1 dX12_adds_35 (by decide +kernel) ?_
    exact hret _ (upd (upd (upd aS (2 + 2 * n) (nI k)) (2 + 2 * n + 1) (nI g)) 0 (nI (n + 1))) _ ls _ _ _ _ (by exact ⟨fun h => absurd h n_8, fun h => ⟨rfl, hS.add h hk hg⟩⟩) (by first | rfl | exact nar_b2i _) hG (Nat.le_of_ble_eq_true rfl) (Nat.le_of_ble_eq_true rfl) dX12_adds_36
  · --
    have n_8 : n = 6 := (nI_eq (a := n) (b := 6) (by omega) (by omega)).mp c_8
    refine lv_iconst (v := (nI 0)) hF.1 hF.2.1 dX12_adds_11 (by decide +kernel) ?_
    exact hret _ aS _ ls _ _ _ _ (by exact ⟨fun _ => ⟨rfl, rfl⟩, fun h => absurd h (by omega)⟩) (by first | rfl | exact nar_b2i _) hG (Nat.le_of_ble_eq_true rfl) (Nat.le_of_ble_eq_true rfl) dX12_adds_12
