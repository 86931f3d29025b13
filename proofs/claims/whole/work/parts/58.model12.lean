theorem SR.cong {a : Nat → Int32} {n o : Nat} {kd fg kd' fg' : Nat → Nat} (h : SR a n o kd fg) (e1 : ∀ j, j < n → kd j = kd' j) (e2 : ∀ j, j < n → fg j = fg' j) : SR a n o kd' fg' := by
  obtain ⟨h1, h2, h3, h4, h5⟩ := h
  refine ⟨h1, h2, h3, h4, fun i hi => ?_⟩
  rw [← e1 i hi, ← e2 i hi]
  exact h5 i hi
theorem SR.setD2 {a : Nat → Int32} {n o i k k0 g : Nat} {kd fg : Nat → Nat} (h : SR a n o kd fg ∨ SR a n o (va_up kd i k0) (va_up fg i g)) (hk : k < 8) (hg : g < 10) : SR (upd (upd a (2 + 2 * i) (nI k)) (2 + 2 * i + 1) (nI g)) n o (va_up kd i k) (va_up fg i g) := by
  rcases h with h | h
  · exact h.setD hk hg
  · have h2 := h.setD (i := i) hk hg
    rw [bx_uu, bx_uu] at h2
    exact h2
/-- the slowest law among the first k: its kind and its pulls -/
def lngU (V : Nat → Int32) : Nat → Int32 × Int32
  | 0 => (-4, -4)
  | k + 1 => if V k < 0 then lngU V k else if (lngU V k).1 < 0 then (nI k, V k) else if (lngU V k).2 < V k then (nI k, V k) else lngU V k
theorem lngU_a {V : Nat → Int32} {k : Nat} (h : V k < 0) : lngU V (k + 1) = lngU V k := by
  show (if V k < 0 then _ else _) = _
  rw [if_pos h]
theorem lngU_b {V : Nat → Int32} {k : Nat} (h : ¬ V k < 0) (h2 : (lngU V k).1 < 0) : lngU V (k + 1) = (nI k, V k) := by
  show (if V k < 0 then lngU V k else if (lngU V k).1 < 0 then (nI k, V k) else if (lngU V k).2 < V k then (nI k, V k) else lngU V k) = _
  rw [if_neg h, if_pos h2]
theorem lngU_c {V : Nat → Int32} {k : Nat} (h : ¬ V k < 0) (h2 : ¬ (lngU V k).1 < 0) (h3 : (lngU V k).2 < V k) : lngU V (k + 1) = (nI k, V k) := by
  show (if V k < 0 then lngU V k else if (lngU V k).1 < 0 then (nI k, V k) else if (lngU V k).2 < V k then (nI k, V k) else lngU V k) = _
  rw [if_neg h, if_neg h2, if_pos h3]
theorem lngU_d {V : Nat → Int32} {k : Nat} (h : ¬ V k < 0) (h2 : ¬ (lngU V k).1 < 0) (h3 : ¬ (lngU V k).2 < V k) : lngU V (k + 1) = lngU V k := by
  show (if V k < 0 then lngU V k else if (lngU V k).1 < 0 then (nI k, V k) else if (lngU V k).2 < V k then (nI k, V k) else lngU V k) = _
  rw [if_neg h, if_neg h2, if_neg h3]
theorem lngU_up {V : Nat → Int32} {m : Nat} {v : Int32} : ∀ k, k ≤ m → lngU (upd V m v) k = lngU V k := by
  intro k
  induction k with
  | zero => intro _; rfl
  | succ k ih =>
    intro h
    have e : upd V m v k = V k := pk_un (by omega)
    show (if upd V m v k < 0 then lngU (upd V m v) k else if (lngU (upd V m v) k).1 < 0 then (nI k, upd V m v k) else if (lngU (upd V m v) k).2 < upd V m v k then (nI k, upd V m v k) else lngU (upd V m v) k) = _
    rw [e, ih (by omega)]
    rfl
def lngOk (n : Nat) (d f e what : Int32) : Bool := inB n d && (inB 10 f && (inB n e && inB 2 what))
def spLongest (n o : Nat) (kd fg : Nat → Nat) (d f e what r : Int32) : Prop := if lngOk n d f e what = true then ∃ V : Nat → Int32, (∀ q, q < 8 → HAD n o (va_up kd d.toNatClampNeg q) (va_up fg d.toNatClampNeg f.toNatClampNeg) (2 ^ e.toNatClampNeg) (V q)) ∧ r = (if what = nI 0 then (lngU V 8).1 else (lngU V 8).2) else r = -1
theorem lngOk_1 {n : Nat} {d f e what : Int32} (h : inB n d = false) : lngOk n d f e what = false := by unfold lngOk; rw [h]; rfl
theorem lngOk_2 {n : Nat} {d f e what : Int32} (h : inB 10 f = false) : lngOk n d f e what = false := by unfold lngOk; rw [h]; simp
theorem lngOk_3 {n : Nat} {d f e what : Int32} (h : inB n e = false) : lngOk n d f e what = false := by unfold lngOk; rw [h]; simp
theorem lngOk_4 {n : Nat} {d f e what : Int32} (h : inB 2 what = false) : lngOk n d f e what = false := by unfold lngOk; rw [h]; simp
theorem spLongest_f {n o : Nat} {kd fg : Nat → Nat} {d f e what : Int32} (h : lngOk n d f e what = false) : spLongest n o kd fg d f e what (-1) := by
  unfold spLongest
  rw [h]
  rfl
theorem spLongest_t {n o i g j : Nat} {kd fg : Nat → Nat} {what r : Int32} (hn : n ≤ 6) (hi : i < n) (hg : g < 10) (hj : j < n) (hw : inB 2 what = true) {V : Nat → Int32} (hV : ∀ q, q < 8 → HAD n o (va_up kd i q) (va_up fg i g) (2 ^ j) (V q)) (hr : r = (if what = nI 0 then (lngU V 8).1 else (lngU V 8).2)) : spLongest n o kd fg (nI i) (nI g) (nI j) what r := by
  unfold spLongest lngOk
  rw [inB_j (by omega) hi, inB_j (by omega) hg, inB_j (by omega) hj, hw, nI_clamp (by omega), nI_clamp (by omega), nI_clamp (by omega)]
  exact ⟨V, hV, hr⟩
abbrev rmX12_longest : Room := { frames := 3, cells := 0, slots := 0, locals := 73 }
set_option maxHeartbeats 4000000 in
set_option maxRecDepth 100000 in
theorem c_X12_longest {l : Launch} {D : va_G} {cA : Nat → ClassId} {A : Nat → Prop}  {ob : Nat → Nat} {aS aI aR aM aK aT aZ aE aD aF aN aP aH : Nat → Int32} {vH vT vP vB vE vS : Int32} {n o : Nat} {kd fg : Nat → Nat} (hS : SR aS n o kd fg) {d f y what : Int32} : Met l yX12_longest wsX12_longest rmX12_longest (va_Pc [.ref (ob 0), .int d, .int f, .int y, .int what] (Pre D cA A (MW cA ob aS aI aR aM aK aT aZ aE aD aF aN aP aH vH vT vP vB vE vS))) (va_Qi (fun r (u : (Nat → Int32) × (Nat → Int32) × (Nat → Int32)) => spLongest n o kd fg d f y what r ∧ SR u.1 n o kd fg) (fun u t => Wd D A ((fun (u : (Nat → Int32) × (Nat → Int32) × (Nat → Int32)) => MW cA ob u.1 aI aR u.2.1 aK aT aZ aE aD aF aN aP u.2.2 vH vT vP vB vE vS) u) t) A) (0) (0) A := by
  refine k_ofi (S := (Nat → Int32) × (Nat → Int32) × (Nat → Int32)) (F := fun (u : (Nat → Int32) × (Nat → Int32) × (Nat → Int32)) => MW cA ob u.1 aI aR u.2.1 aK aT aZ aE aD aF aN aP u.2.2 vH vT vP vB vE vS) (cc := cX12_longest) (maxL := 9) (by decide) rfl (Nat.le_of_ble_eq_true rfl) ?_
  intro p e s m args below meth c Q hF hini hK hA hG hret ls hl
  have hl : lv_has ls 9 [(0, .ref (ob 0)), (1, .int d), (2, .int f), (3, .int y), (4, .int what)] := hl
  have hn : n ≤ 6 := hS.2.2.1
  have ho : o < 64 := hS.o64
  have hp2 : 2 ^ n ≤ 64 := Nat.pow_le_pow_right (by decide) hn
  have hp1 : 1 ≤ 2 ^ n := Nat.one_le_two_pow
  refine lv_aload_n hF.1 hF.2.1 dX12_longest_0 rfl (lv_at hl 0 rfl) ?_
  refine lv_iload_n hF.1 hF.2.1 dX12_longest_1 rfl (lv_at hl 1 rfl) ?_
  refine k_ci (r_V (As := [.int d]) hF hK hA hG (c_X12_isDrawer hS) (cwV 1 hF.2.2.2.2 gX12_longest_X12_isDrawer rfl rfl rfl (by decide +kernel) ⟨Nat.le_of_ble_eq_true rfl, Nat.le_of_ble_eq_true rfl⟩) 0 rfl rfl rfl rfl hl.1 rfl (lv_room (Nat.le_of_ble_eq_true rfl)) dX12_longest_2 ⟨Nat.le_of_ble_eq_true rfl, Nat.le_of_ble_eq_true rfl⟩) hG (fun r_2 u_2 H locs hp_2 hG => ?_)
  subst hp_2
  refine lv_if_eq (tgt := 39) hF.1 hF.2.1 dX12_longest_5 (by decide) (fun c_5 => ?_) (fun c_5 => ?_)
  · --
    have n_5 : (inB n d) = false := b2i_z.mp c_5
    refine lv_iconst (v := (-1)) hF.1 hF.2.1 dX12_longest_39 (by decide +kernel) ?_
    exact hret _ (aS, aM, aH) _ ls _ _ _ _ (by first | exact ⟨spLongest_f (lngOk_1 n_5), hS⟩ | exact ⟨spLongest_f (lngOk_2 n_17), hS⟩ | exact ⟨spLongest_f (lngOk_3 n_25), hS⟩ | exact ⟨spLongest_f (lngOk_4 n_36), hS⟩) (by first | rfl | exact nar_b2i _) hG (Nat.le_of_ble_eq_true rfl) (Nat.le_of_ble_eq_true rfl) dX12_longest_40
  · --
    have n_5 : (inB n d) = true := b2i_nz.mp c_5
    obtain ⟨i, hi, rfl⟩ := inB_ex (by omega) n_5
    refine lv_iload_n hF.1 hF.2.1 dX12_longest_8 rfl (lv_at hl 2 rfl) ?_
    refine lv_i2l hF.1 hF.2.1 dX12_longest_9 rfl ?_
    refine lv_lconst (v := 0) hF.1 hF.2.1 dX12_longest_10 (by decide +kernel) ?_
    refine lv_ldc2 hF.1 hF.2.1 (own := RX12) hF.2.2.2.1 (hF.2.2.2.2 _ (List.mem_of_getElem? (i := 1) rfl)) dX12_longest_11 ?_
    refine k_ci (r_S (As := [.long (f.toInt64), .long (0), .long (9)]) hF hK hA hG (c_X12_isIn) (cwS 3 hF.2.2.2.2 gX12_longest_X12_isIn rfl rfl rfl (by decide +kernel) ⟨Nat.le_of_ble_eq_true rfl, Nat.le_of_ble_eq_true rfl⟩) rfl hl.1 rfl (lv_room (Nat.le_of_ble_eq_true rfl)) dX12_longest_14 ⟨Nat.le_of_ble_eq_true rfl, Nat.le_of_ble_eq_true rfl⟩) hG (fun r_14 u_14 H locs hp_14 hG => ?_)
    rw [inL (n := 10) (by omega) (by decide +kernel)] at hp_14
    subst hp_14
    refine lv_if_eq (tgt := 39) hF.1 hF.2.1 dX12_longest_17 (by decide) (fun c_17 => ?_) (fun c_17 => ?_)
    · --
      have n_17 := b2i_z.mp c_17
      refine lv_iconst (v := (-1)) hF.1 hF.2.1 dX12_longest_39 (by decide +kernel) ?_
      exact hret _ (aS, aM, aH) _ ls _ _ _ _ (by first | exact ⟨spLongest_f (lngOk_1 n_5), hS⟩ | exact ⟨spLongest_f (lngOk_2 n_17), hS⟩ | exact ⟨spLongest_f (lngOk_3 n_25), hS⟩ | exact ⟨spLongest_f (lngOk_4 n_36), hS⟩) (by first | rfl | exact nar_b2i _) hG (Nat.le_of_ble_eq_true rfl) (Nat.le_of_ble_eq_true rfl) dX12_longest_40
    · --
      have n_17 := b2i_nz.mp c_17
      obtain ⟨g, hg, rfl⟩ := inB_ex (by omega) n_17
      refine lv_aload_n hF.1 hF.2.1 dX12_longest_20 rfl (lv_at hl 0 rfl) ?_
      refine lv_iload_n hF.1 hF.2.1 dX12_longest_21 rfl (lv_at hl 3 rfl) ?_
      refine k_ci (r_V (As := [.int y]) hF hK hA hG (c_X12_isDrawer hS) (cwV 1 hF.2.2.2.2 gX12_longest_X12_isDrawer rfl rfl rfl (by decide +kernel) ⟨Nat.le_of_ble_eq_true rfl, Nat.le_of_ble_eq_true rfl⟩) 0 rfl rfl rfl rfl hl.1 rfl (lv_room (Nat.le_of_ble_eq_true rfl)) dX12_longest_22 ⟨Nat.le_of_ble_eq_true rfl, Nat.le_of_ble_eq_true rfl⟩) hG (fun r_22 u_22 H locs hp_22 hG => ?_)
      subst hp_22
      refine lv_if_eq (tgt := 39) hF.1 hF.2.1 dX12_longest_25 (by decide) (fun c_25 => ?_) (fun c_25 => ?_)
      · --
        have n_25 : (inB n y) = false := b2i_z.mp c_25
        refine lv_iconst (v := (-1)) hF.1 hF.2.1 dX12_longest_39 (by decide +kernel) ?_
        exact hret _ (aS, aM, aH) _ ls _ _ _ _ (by first | exact ⟨spLongest_f (lngOk_1 n_5), hS⟩ | exact ⟨spLongest_f (lngOk_2 n_17), hS⟩ | exact ⟨spLongest_f (lngOk_3 n_25), hS⟩ | exact ⟨spLongest_f (lngOk_4 n_36), hS⟩) (by first | rfl | exact nar_b2i _) hG (Nat.le_of_ble_eq_true rfl) (Nat.le_of_ble_eq_true rfl) dX12_longest_40
      · --
        have n_25 : (inB n y) = true := b2i_nz.mp c_25
        obtain ⟨j, hj, rfl⟩ := inB_ex (by omega) n_25
        refine lv_iload hF.1 hF.2.1 dX12_longest_28 (lv_at hl 4 rfl) ?_
        refine lv_i2l hF.1 hF.2.1 dX12_longest_30 rfl ?_
        refine lv_lconst (v := 0) hF.1 hF.2.1 dX12_longest_31 (by decide +kernel) ?_
        refine lv_lconst (v := 1) hF.1 hF.2.1 dX12_longest_32 (by decide +kernel) ?_
        refine k_ci (r_S (As := [.long (what.toInt64), .long (0), .long (1)]) hF hK hA hG (c_X12_isIn) (cwS 3 hF.2.2.2.2 gX12_longest_X12_isIn rfl rfl rfl (by decide +kernel) ⟨Nat.le_of_ble_eq_true rfl, Nat.le_of_ble_eq_true rfl⟩) rfl hl.1 rfl (lv_room (Nat.le_of_ble_eq_true rfl)) dX12_longest_33 ⟨Nat.le_of_ble_eq_true rfl, Nat.le_of_ble_eq_true rfl⟩) hG (fun r_33 u_33 H locs hp_33 hG => ?_)
        rw [inL (n := 2) (by omega) (by decide +kernel)] at hp_33
        subst hp_33
        refine lv_if_ne (tgt := 41) hF.1 hF.2.1 dX12_longest_36 (by decide) (fun c_36 => ?_) (fun c_36 => ?_)
        · --
          have n_36 := b2i_nz.mp c_36
          have h2j : 2 ^ j < 64 := Nat.lt_of_lt_of_le (Nat.pow_lt_pow_right (by decide) hj) hp2
          refine lv_bipush (v := (-4)) hF.1 hF.2.1 dX12_longest_41 (by decide +kernel) ?_
          refine lv_istore (lv' := [(5, .int (-4)), (0, .ref (ob 0)), (1, .int (nI i)), (2, .int (nI g)), (3, .int (nI j)), (4, .int what)]) hF.1 hF.2.1 dX12_longest_43 hl (by decide) rfl (fun ls hl => ?_)
          refine lv_bipush (v := (-4)) hF.1 hF.2.1 dX12_longest_45 (by decide +kernel) ?_
          refine lv_istore (lv' := [(6, .int (-4)), (5, .int (-4)), (0, .ref (ob 0)), (1, .int (nI i)), (2, .int (nI g)), (3, .int (nI j)), (4, .int what)]) hF.1 hF.2.1 dX12_longest_47 hl (by decide) rfl (fun ls hl => ?_)
          refine lv_aload_n hF.1 hF.2.1 dX12_longest_49 rfl (lv_at hl 2 rfl) ?_
          refine k_cv (r_V (As := []) hF hK hA hG (c_X12_begins) (cwV 0 hF.2.2.2.2 gX12_longest_X12_begins rfl rfl rfl (by decide +kernel) ⟨Nat.le_of_ble_eq_true rfl, Nat.le_of_ble_eq_true rfl⟩) 0 rfl rfl rfl rfl hl.1 rfl (lv_room (Nat.le_of_ble_eq_true rfl)) dX12_longest_50 ⟨Nat.le_of_ble_eq_true rfl, Nat.le_of_ble_eq_true rfl⟩) hG (fun u_50 H locs hp_50 hG => ?_)
          refine lv_iconst (v := (nI 0)) hF.1 hF.2.1 dX12_longest_53 (by decide +kernel) ?_
          refine lv_istore (lv' := [(7, .int (nI 0)), (6, .int (-4)), (5, .int (-4)), (0, .ref (ob 0)), (1, .int (nI i)), (2, .int (nI g)), (3, .int (nI j)), (4, .int what)]) hF.1 hF.2.1 dX12_longest_54 hl (by decide) rfl (fun ls hl => ?_)
          have lp56 : ∀ (fuel : Nat), ∀ (k : Nat) (V : Nat → Int32) (bS bH : Nat → Int32), (hk : k ≤ 8) → (hV : ∀ q, q < k → HAD n o (va_up kd i q) (va_up fg i g) (2 ^ j) (V q)) → (hSk : SR bS n o kd fg ∨ SR bS n o (va_up kd i (k - 1)) (va_up fg i g)) → (8 - k) < fuel → ∀ (H : Heap) (locs : List Loc), Gd D A (MW cA ob bS aI aR (cpyN 14 aS aM) aK aT aZ aE aD aF aN aP bH vH vT vP vB vE vS) s.heap H locs → ∀ ls : Array Slot, lv_has ls 9 [(0, .ref (ob 0)), (1, .int (nI i)), (2, .int (nI g)), (3, .int (nI j)), (4, .int what), (5, .int (lngU V k).1), (6, .int (lngU V k).2), (7, .int (nI k))] → W p l e rmX12_longest s m args below meth c H locs (0) (0) Q (F0 m 56 ls []) := by
            intro fuel
            induction fuel with
            | zero => intro k V bS bH hk hV hSk hmu; exact absurd hmu (Nat.not_lt_zero _)
            | succ fuel ih56 =>
              intro k V bS bH hk hV hSk hmu H locs hG ls hl
              refine lv_iload hF.1 hF.2.1 dX12_longest_56 (lv_at hl 7 rfl) ?_
              refine lv_bipush (v := (nI 8)) hF.1 hF.2.1 dX12_longest_58 (by decide +kernel) ?_
              refine lv_icmp_ge (tgt := 114) hF.1 hF.2.1 dX12_longest_60 (by decide) (fun c_60 => ?_) (fun c_60 => ?_)
              · --
                have n_60 : 8 ≤ k := (nI_leI (a := 8) (b := k) (by omega) (by omega)).mp c_60
                refine lv_aload_n hF.1 hF.2.1 dX12_longest_114 rfl (lv_at hl 0 rfl) ?_
                refine k_cv (r_V (As := []) hF hK hA hG (c_X12_ends) (cwV 0 hF.2.2.2.2 gX12_longest_X12_ends rfl rfl rfl (by decide +kernel) ⟨Nat.le_of_ble_eq_true rfl, Nat.le_of_ble_eq_true rfl⟩) 0 rfl rfl rfl rfl hl.1 rfl (lv_room (Nat.le_of_ble_eq_true rfl)) dX12_longest_115 ⟨Nat.le_of_ble_eq_true rfl, Nat.le_of_ble_eq_true rfl⟩) hG (fun u_115 H locs hp_115 hG => ?_)
                refine lv_iload hF.1 hF.2.1 dX12_longest_118 (lv_at hl 4 rfl) ?_
                refine lv_if_ne (tgt := 128) hF.1 hF.2.1 dX12_longest_120 (by decide) (fun c_120 => ?_) (fun c_120 => ?_)
                · --
                  replace c_120 : ¬ what = nI 0 := c_120
                  refine lv_iload hF.1 hF.2.1 dX12_longest_128 (lv_at hl 6 rfl) ?_
                  exact hret _ (_, _, _) _ ls _ _ _ _ (by obtain rfl : k = 8 := (by omega); exact ⟨spLongest_t hn hi hg hj n_36 hV (by first | rw [if_pos c_120] | rw [if_neg c_120]), (hS.cpy (g := aM)).cpy⟩) (by first | rfl | exact nar_b2i _) hG (Nat.le_of_ble_eq_true rfl) (Nat.le_of_ble_eq_true rfl) dX12_longest_130
                · --
                  replace c_120 : what = nI 0 := c_120
                  refine lv_iload hF.1 hF.2.1 dX12_longest_123 (lv_at hl 5 rfl) ?_
                  refine lv_goto (tgt := 130) hF.1 hF.2.1 dX12_longest_125 (by decide) ?_
                  exact hret _ (_, _, _) _ ls _ _ _ _ (by obtain rfl : k = 8 := (by omega); exact ⟨spLongest_t hn hi hg hj n_36 hV (by first | rw [if_pos c_120] | rw [if_neg c_120]), (hS.cpy (g := aM)).cpy⟩) (by first | rfl | exact nar_b2i _) hG (Nat.le_of_ble_eq_true rfl) (Nat.le_of_ble_eq_true rfl) dX12_longest_130
              · --
                have n_60 : ¬ (8 ≤ k) := fun zz9 => c_60 ((nI_leI (a := 8) (b := k) (by omega) (by omega)).mpr zz9)
                refine lv_aload_n hF.1 hF.2.1 dX12_longest_63 rfl (lv_at hl 0 rfl) ?_
                refine lv_iload_n hF.1 hF.2.1 dX12_longest_64 rfl (lv_at hl 1 rfl) ?_
                refine lv_iload hF.1 hF.2.1 dX12_longest_65 (lv_at hl 7 rfl) ?_
                refine lv_iload_n hF.1 hF.2.1 dX12_longest_67 rfl (lv_at hl 2 rfl) ?_
                refine k_cv (r_V (As := [.int (nI i), .int (nI k), .int (nI g)]) hF hK hA hG (c_X12_setDrawer (show i < 6 by omega)) (cwV 3 hF.2.2.2.2 gX12_longest_X12_setDrawer rfl rfl rfl (by decide +kernel) ⟨Nat.le_of_ble_eq_true rfl, Nat.le_of_ble_eq_true rfl⟩) 0 rfl rfl rfl rfl hl.1 rfl (lv_room (Nat.le_of_ble_eq_true rfl)) dX12_longest_68 ⟨Nat.le_of_ble_eq_true rfl, Nat.le_of_ble_eq_true rfl⟩) hG (fun u_68 H locs hp_68 hG => ?_)
                have hS3 := SR.setD2 (k := k) hSk (by omega) hg
                refine lv_aload_n hF.1 hF.2.1 dX12_longest_71 rfl (lv_at hl 0 rfl) ?_
                refine lv_iconst (v := (nI 1)) hF.1 hF.2.1 dX12_longest_72 (by decide +kernel) ?_
                refine lv_iload_n hF.1 hF.2.1 dX12_longest_73 rfl (lv_at hl 3 rfl) ?_
                refine lv_ishl hF.1 hF.2.1 dX12_longest_74 ?_
                rw [shl_1 (by omega)]
                refine k_ci (r_V (As := [.int (nI (2 ^ j))]) hF hK hA hG (c_X12_hadOf hS3 h2j) (cwV 1 hF.2.2.2.2 gX12_longest_X12_hadOf rfl rfl rfl (by decide +kernel) ⟨Nat.le_of_ble_eq_true rfl, Nat.le_of_ble_eq_true rfl⟩) 0 rfl rfl rfl rfl hl.1 rfl (lv_room (Nat.le_of_ble_eq_true rfl)) dX12_longest_75 ⟨Nat.le_of_ble_eq_true rfl, Nat.le_of_ble_eq_true rfl⟩) hG (fun r_75 u_75 H locs hp_75 hG => ?_)
                refine lv_istore (lv' := [(8, .int r_75), (0, .ref (ob 0)), (1, .int (nI i)), (2, .int (nI g)), (3, .int (nI j)), (4, .int what), (5, .int (lngU V k).1), (6, .int (lngU V k).2), (7, .int (nI k))]) hF.1 hF.2.1 dX12_longest_78 hl (by decide) rfl (fun ls hl => ?_)
                refine lv_iload hF.1 hF.2.1 dX12_longest_80 (lv_at hl 0 rfl) ?_
                refine lv_if_lt (tgt := 108) hF.1 hF.2.1 dX12_longest_82 (by decide) (fun c_82 => ?_) (fun c_82 => ?_)
                · --
                  refine lv_iinc (v := (nI (k + 1))) (lv' := [(7, .int (nI (k + 1))), (8, .int r_75), (0, .ref (ob 0)), (1, .int (nI i)), (2, .int (nI g)), (3, .int (nI j)), (4, .int what), (5, .int (lngU V k).1), (6, .int (lngU V k).2)]) hF.1 hF.2.1 dX12_longest_108 hl (k := 8) rfl (nI_inc _ _) (by decide) rfl (fun ls hl => ?_)
                  refine lv_goto (tgt := 56) hF.1 hF.2.1 dX12_longest_111 (by decide) ?_
                  exact ih56 (k + 1) (upd V k r_75) (_) (_) (by omega) (lt_s (fun q h => by rw [pk_un (Nat.ne_of_lt h)]; exact hV q h) (by rw [pk_us]; exact hp_75)) (Or.inr hS3) (by omega) _ _ hG ls (lv_sub hl [2, 3, 4, 5, 6, 7, 8, 0] (by have e0 : upd V k r_75 k = r_75 := pk_us; have e1 := lngU_up (V := V) (m := k) (v := r_75) k (Nat.le_refl k); first | (rw [lngU_a (by rw [e0]; exact c_82), e1]; rfl) | (rw [lngU_b (by rw [e0]; exact c_82) (by rw [e1]; exact c_87), e0]; rfl) | (rw [lngU_c (by rw [e0]; exact c_82) (by rw [e1]; exact c_87) (by rw [e0, e1]; exact c_94), e0]; rfl) | (rw [lngU_d (by rw [e0]; exact c_82) (by rw [e1]; exact c_87) (by rw [e0, e1]; exact c_94), e1]; rfl)))
                · --
                  refine lv_iload hF.1 hF.2.1 dX12_longest_85 (lv_at hl 6 rfl) ?_
                  refine lv_if_lt (tgt := 100) hF.1 hF.2.1 dX12_longest_87 (by decide) (fun c_87 => ?_) (fun c_87 => ?_)
                  · --
                    refine lv_iload hF.1 hF.2.1 dX12_longest_100 (lv_at hl 8 rfl) ?_
                    refine lv_istore (lv' := [(5, .int (nI k)), (8, .int r_75), (0, .ref (ob 0)), (1, .int (nI i)), (2, .int (nI g)), (3, .int (nI j)), (4, .int what), (6, .int (lngU V k).2), (7, .int (nI k))]) hF.1 hF.2.1 dX12_longest_102 hl (by decide) rfl (fun ls hl => ?_)
                    refine lv_iload hF.1 hF.2.1 dX12_longest_104 (lv_at hl 1 rfl) ?_
                    refine lv_istore (lv' := [(6, .int r_75), (5, .int (nI k)), (8, .int r_75), (0, .ref (ob 0)), (1, .int (nI i)), (2, .int (nI g)), (3, .int (nI j)), (4, .int what), (7, .int (nI k))]) hF.1 hF.2.1 dX12_longest_106 hl (by decide) rfl (fun ls hl => ?_)
                    refine lv_iinc (v := (nI (k + 1))) (lv' := [(7, .int (nI (k + 1))), (6, .int r_75), (5, .int (nI k)), (8, .int r_75), (0, .ref (ob 0)), (1, .int (nI i)), (2, .int (nI g)), (3, .int (nI j)), (4, .int what)]) hF.1 hF.2.1 dX12_longest_108 hl (k := 8) rfl (nI_inc _ _) (by decide) rfl (fun ls hl => ?_)
                    refine lv_goto (tgt := 56) hF.1 hF.2.1 dX12_longest_111 (by decide) ?_
                    exact ih56 (k + 1) (upd V k r_75) (_) (_) (by omega) (lt_s (fun q h => by rw [pk_un (Nat.ne_of_lt h)]; exact hV q h) (by rw [pk_us]; exact hp_75)) (Or.inr hS3) (by omega) _ _ hG ls (lv_sub hl [4, 5, 6, 7, 8, 2, 1, 0] (by have e0 : upd V k r_75 k = r_75 := pk_us; have e1 := lngU_up (V := V) (m := k) (v := r_75) k (Nat.le_refl k); first | (rw [lngU_a (by rw [e0]; exact c_82), e1]; rfl) | (rw [lngU_b (by rw [e0]; exact c_82) (by rw [e1]; exact c_87), e0]; rfl) | (rw [lngU_c (by rw [e0]; exact c_82) (by rw [e1]; exact c_87) (by rw [e0, e1]; exact c_94), e0]; rfl) | (rw [lngU_d (by rw [e0]; exact c_82) (by rw [e1]; exact c_87) (by rw [e0, e1]; exact c_94), e1]; rfl)))
                  · --
                    refine lv_iload hF.1 hF.2.1 dX12_longest_90 (lv_at hl 0 rfl) ?_
                    refine lv_iload hF.1 hF.2.1 dX12_longest_92 (lv_at hl 7 rfl) ?_
                    refine lv_icmp_gt (tgt := 100) hF.1 hF.2.1 dX12_longest_94 (by decide) (fun c_94 => ?_) (fun c_94 => ?_)
                    · --
                      refine lv_iload hF.1 hF.2.1 dX12_longest_100 (lv_at hl 8 rfl) ?_
                      refine lv_istore (lv' := [(5, .int (nI k)), (8, .int r_75), (0, .ref (ob 0)), (1, .int (nI i)), (2, .int (nI g)), (3, .int (nI j)), (4, .int what), (6, .int (lngU V k).2), (7, .int (nI k))]) hF.1 hF.2.1 dX12_longest_102 hl (by decide) rfl (fun ls hl => ?_)
                      refine lv_iload hF.1 hF.2.1 dX12_longest_104 (lv_at hl 1 rfl) ?_
                      refine lv_istore (lv' := [(6, .int r_75), (5, .int (nI k)), (8, .int r_75), (0, .ref (ob 0)), (1, .int (nI i)), (2, .int (nI g)), (3, .int (nI j)), (4, .int what), (7, .int (nI k))]) hF.1 hF.2.1 dX12_longest_106 hl (by decide) rfl (fun ls hl => ?_)
                      refine lv_iinc (v := (nI (k + 1))) (lv' := [(7, .int (nI (k + 1))), (6, .int r_75), (5, .int (nI k)), (8, .int r_75), (0, .ref (ob 0)), (1, .int (nI i)), (2, .int (nI g)), (3, .int (nI j)), (4, .int what)]) hF.1 hF.2.1 dX12_longest_108 hl (k := 8) rfl (nI_inc _ _) (by decide) rfl (fun ls hl => ?_)
                      refine lv_goto (tgt := 56) hF.1 hF.2.1 dX12_longest_111 (by decide) ?_
                      exact ih56 (k + 1) (upd V k r_75) (_) (_) (by omega) (lt_s (fun q h => by rw [pk_un (Nat.ne_of_lt h)]; exact hV q h) (by rw [pk_us]; exact hp_75)) (Or.inr hS3) (by omega) _ _ hG ls (lv_sub hl [4, 5, 6, 7, 8, 2, 1, 0] (by have e0 : upd V k r_75 k = r_75 := pk_us; have e1 := lngU_up (V := V) (m := k) (v := r_75) k (Nat.le_refl k); first | (rw [lngU_a (by rw [e0]; exact c_82), e1]; rfl) | (rw [lngU_b (by rw [e0]; exact c_82) (by rw [e1]; exact c_87), e0]; rfl) | (rw [lngU_c (by rw [e0]; exact c_82) (by rw [e1]; exact c_87) (by rw [e0, e1]; exact c_94), e0]; rfl) | (rw [lngU_d (by rw [e0]; exact c_82) (by rw [e1]; exact c_87) (by rw [e0, e1]; exact c_94), e1]; rfl)))
                    · --
                      refine lv_goto (tgt := 108) hF.1 hF.2.1 dX12_longest_97 (by decide) ?_
                      refine lv_iinc (v := (nI (k + 1))) (lv' := [(7, .int (nI (k + 1))), (8, .int r_75), (0, .ref (ob 0)), (1, .int (nI i)), (2, .int (nI g)), (3, .int (nI j)), (4, .int what), (5, .int (lngU V k).1), (6, .int (lngU V k).2)]) hF.1 hF.2.1 dX12_longest_108 hl (k := 8) rfl (nI_inc _ _) (by decide) rfl (fun ls hl => ?_)
                      refine lv_goto (tgt := 56) hF.1 hF.2.1 dX12_longest_111 (by decide) ?_
                      exact ih56 (k + 1) (upd V k r_75) (_) (_) (by omega) (lt_s (fun q h => by rw [pk_un (Nat.ne_of_lt h)]; exact hV q h) (by rw [pk_us]; exact hp_75)) (Or.inr hS3) (by omega) _ _ hG ls (lv_sub hl [2, 3, 4, 5, 6, 7, 8, 0] (by have e0 : upd V k r_75 k = r_75 := pk_us; have e1 := lngU_up (V := V) (m := k) (v := r_75) k (Nat.le_refl k); first | (rw [lngU_a (by rw [e0]; exact c_82), e1]; rfl) | (rw [lngU_b (by rw [e0]; exact c_82) (by rw [e1]; exact c_87), e0]; rfl) | (rw [lngU_c (by rw [e0]; exact c_82) (by rw [e1]; exact c_87) (by rw [e0, e1]; exact c_94), e0]; rfl) | (rw [lngU_d (by rw [e0]; exact c_82) (by rw [e1]; exact c_87) (by rw [e0, e1]; exact c_94), e1]; rfl)))
          exact lp56 _ (0) (fun _ => 0) (aS) (aH) (by omega) (fun q h => absurd h (Nat.not_lt_zero q)) (Or.inl hS) (Nat.lt_succ_self _) _ _ hG ls (lv_sub hl [3, 4, 5, 6, 7, 2, 1, 0] rfl)
        · --
          have n_36 := b2i_z.mp c_36
          refine lv_iconst (v := (-1)) hF.1 hF.2.1 dX12_longest_39 (by decide +kernel) ?_
          exact hret _ (aS, aM, aH) _ ls _ _ _ _ (by first | exact ⟨spLongest_f (lngOk_1 n_5), hS⟩ | exact ⟨spLongest_f (lngOk_2 n_17), hS⟩ | exact ⟨spLongest_f (lngOk_3 n_25), hS⟩ | exact ⟨spLongest_f (lngOk_4 n_36), hS⟩) (by first | rfl | exact nar_b2i _) hG (Nat.le_of_ble_eq_true rfl) (Nat.le_of_ble_eq_true rfl) dX12_longest_40
