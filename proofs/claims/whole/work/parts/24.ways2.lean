theorem meetQ_get {Q : List Stop} {s a b k : Nat} {q : Stop} (h : Q[s]? = some q) : (meetQ Q a b k)[s]? = some q := by
  unfold meetQ
  split
  · exact h
  · rw [List.getElem?_append_left (List.getElem?_eq_some_iff.mp h).1]
    exact h
theorem goU_t {may st had p told i : Nat} {Q : List Stop} (h : (may.testBit i).toNat = 1) : goU may st had p told (i + 1) Q = meetQ (goU may st had p told i Q) (st ^^^ 2 ^ i) (had ||| ((st ^^^ 2 ^ i) &&& told)) (p + 1) := by
  have h2 : may.testBit i = true := by
    cases q : may.testBit i with
    | true => rfl
    | false => rw [q] at h; cases h
  show (if may.testBit i = true then _ else _) = _
  rw [if_pos h2]
theorem goU_f {may st had p told i : Nat} {Q : List Stop} (h : ¬ (may.testBit i).toNat = 1) : goU may st had p told (i + 1) Q = goU may st had p told i Q := by
  have h2 : ¬ may.testBit i = true := fun q => h (by rw [q]; rfl)
  show (if may.testBit i = true then _ else _) = _
  rw [if_neg h2]
theorem goQ_at {ma : Nat → Nat} {told s : Nat} {Q : List Stop} {q : Stop} (h : Q[s]? = some q) : goQ ma told Q s = goU (ma q.1) q.1 q.2.1 q.2.2 told 6 Q := by
  unfold goQ
  rw [h]
theorem bfs_stop {ma : Nat → Nat} {told f s : Nat} {Q : List Stop} (h : ¬ s < Q.length) : bfsQ ma told f s Q = Q := by
  cases f with
  | zero => rfl
  | succ f =>
    show (if s < Q.length then _ else _) = _
    rw [if_neg h]
theorem bfs_step {ma : Nat → Nat} {told f s : Nat} {Q : List Stop} (h : s < Q.length) : bfsQ ma told (f + 1) s Q = bfsQ ma told f (s + 1) (goQ ma told Q s) := by
  show (if s < Q.length then _ else _) = _
  rw [if_pos h]
theorem find_hit {ma : Nat → Nat} {told f s : Nat} {w : Stop → Bool} {Q : List Stop} {q : Stop} (hq : Q[s]? = some q) (hw : w q = true) : findQ ma told w (f + 1) s Q = some q.2.2 := by
  simp only [findQ, hq, hw, if_true]
theorem find_go {ma : Nat → Nat} {told f s : Nat} {w : Stop → Bool} {Q : List Stop} {q : Stop} (hq : Q[s]? = some q) (hw : w q = false) : findQ ma told w (f + 1) s Q = findQ ma told w f (s + 1) (goQ ma told Q s) := by
  simp [findQ, hq, hw]
theorem find_end {ma : Nat → Nat} {told f s : Nat} {w : Stop → Bool} {Q : List Stop} (h : ¬ s < Q.length) : findQ ma told w f s Q = none := by
  cases f with
  | zero => rfl
  | succ f =>
    simp only [findQ]
    rw [List.getElem?_eq_none (by omega)]
theorem get_ex {Q : List Stop} {s : Nat} (h : s < Q.length) : ∃ q, Q[s]? = some q := ⟨_, List.getElem?_eq_getElem h⟩
theorem or64 {a b t : Nat} (ha : a < 64) (hb : b < 64) : a ||| (b &&& t) < 64 := Nat.or_lt_two_pow (n := 6) ha (Nat.lt_of_le_of_lt Nat.and_le_left hb)
/-- the least of the standings among the first j stops that took m pulls -/
def lfU (Q : List Stop) (m : Nat) : Nat → Nat
  | 0 => 64
  | j + 1 => match Q[j]? with
    | none => lfU Q m j
    | some q => if q.2.2 = m then (if q.1 < lfU Q m j then q.1 else lfU Q m j) else lfU Q m j
theorem lfU_le (Q : List Stop) (m j : Nat) : lfU Q m j ≤ 64 := by
  induction j with
  | zero => exact Nat.le_refl 64
  | succ j ih =>
    unfold lfU
    split
    · exact ih
    · split
      · split <;> omega
      · exact ih
theorem lfU_t {Q : List Stop} {m j : Nat} {q : Stop} (hq : Q[j]? = some q) (h : q.2.2 = m) : lfU Q m (j + 1) = if q.1 < lfU Q m j then q.1 else lfU Q m j := by
  simp only [lfU, hq, h, if_true]
theorem lfU_f {Q : List Stop} {m j : Nat} {q : Stop} (hq : Q[j]? = some q) (h : ¬ q.2.2 = m) : lfU Q m (j + 1) = lfU Q m j := by
  simp only [lfU, hq, h, if_false]
/-- the drawers that may be pulled at one of the first j stops -/
def emU (ma : Nat → Nat) (Q : List Stop) : Nat → Nat
  | 0 => 0
  | j + 1 => match Q[j]? with
    | none => emU ma Q j
    | some q => emU ma Q j ||| ma q.1
theorem emU_t {ma : Nat → Nat} {Q : List Stop} {j : Nat} {q : Stop} (hq : Q[j]? = some q) : emU ma Q (j + 1) = emU ma Q j ||| ma q.1 := by
  simp only [emU, hq]
theorem min_nI {a b : Nat} (ha : a < 65) (hb : b < 65) : (if nI b < nI a then nI b else nI a) = nI (if b < a then b else a) := by
  by_cases h : b < a
  · rw [if_pos h, if_pos (nI_lt h (by omega))]
  · rw [if_neg h, if_neg (nI_nlt (by omega) (by omega))]
theorem drop_find {α : Type} {Q : List α} {j : Nat} {q : α} {p : α → Bool} (hq : Q[j]? = some q) (h : p q = false) : (Q.drop (j + 1)).find? p = (Q.drop j).find? p := by
  obtain ⟨hj, rfl⟩ := List.getElem?_eq_some_iff.mp hq
  rw [← List.getElem_cons_drop hj, List.find?_cons, h]
theorem drop_hit {α : Type} {Q : List α} {j : Nat} {q : α} {p : α → Bool} (hq : Q[j]? = some q) (h : p q = true) : (Q.drop j).find? p = some q := by
  obtain ⟨hj, rfl⟩ := List.getElem?_eq_some_iff.mp hq
  rw [← List.getElem_cons_drop hj, List.find?_cons, h]
theorem drop_end {α : Type} {Q : List α} {j : Nat} {p : α → Bool} (h : ¬ j < Q.length) : (Q.drop j).find? p = none := by
  rw [List.drop_eq_nil_of_le (by omega)]
  rfl
/-- the drawers that may be pulled at a standing of the wall, as bits -/
def maW (n : Nat) (kd fg : Nat → Nat) (z : Nat) : Nat := if z < 2 ^ n then mayU kd fg z n else 0
theorem mayU_lt (kd fg : Nat → Nat) (st j : Nat) : mayU kd fg st j < 2 ^ j := by
  induction j with
  | zero => exact Nat.lt_succ_self 0
  | succ j ih =>
    have h1 : (2 : Nat) ^ j < 2 ^ (j + 1) := Nat.pow_lt_pow_right (by decide) (Nat.lt_succ_self j)
    unfold mayU
    split
    · exact Nat.or_lt_two_pow (Nat.lt_trans ih h1) h1
    · exact Nat.lt_trans ih h1
theorem maW_lt {n : Nat} {kd fg : Nat → Nat} {z : Nat} (hn : n ≤ 6) : maW n kd fg z < 64 := by
  unfold maW
  split
  · exact Nat.lt_of_lt_of_le (mayU_lt kd fg z n) (Nat.pow_le_pow_right (by decide) hn)
  · decide
theorem ne_ar {a b c k n m : Nat} {x : Nat → Int32} {y : (Nat → Int64) ⊕ (Nat → UInt32) ⊕ (Nat → UInt64) ⊕ (Nat → Option Nat)} : ((a, .inl (c, n, .inl x)) : Nat × va_E) ≠ (b, .inl (k, m, .inr y)) := by
  intro h
  have h2 := congrArg Prod.snd h
  injection h2 with h3
  have h4 := congrArg (fun z : ClassId × vp_A => z.2.2) h3
  cases h4
theorem WL.keepA {cA : Nat → ClassId} {ws : va_W} {w a qw qa q0 b c k : Nat} {dr : Nat → Option Nat} {n o : Nat} {kd fg : Nat → Nat} {x : Nat → Int32} {e : Nat × va_E} (h : WL cA ws w a qw qa dr n o kd fg) (h0 : ws[q0]? = some (b, .inl (c, k, .inl x))) : WL cA (ws.set q0 e) w a qw qa dr n o kd fg :=
  ⟨keep h0 h.1 ne_ai, keep h0 h.2.1 ne_ar, h.2.2.1, h.2.2.2.1, h.2.2.2.2.keepA h0⟩
abbrev rmX10_goOn : Room := { frames := 2, cells := 0, slots := 0, locals := 45 }
set_option maxHeartbeats 4000000 in
set_option maxRecDepth 100000 in
theorem c_X10_goOn {l : Launch} {D : va_G} {cA : Nat → ClassId} {A : Nat → Prop}  {y am at_ as_ ah ap : Nat} {mb ss sh sp : Nat → Int32} {mt : Nat → Int64} {rc : Nat} {rest : va_W} {ma : Nat → Nat} (hma : ∀ z, z < 64 → mb z = nI (ma z) ∧ ma z < 64) {Q0 : List Stop} (hB : BQ Q0 ss sh sp mt rc) {s1 told : Nat} {q : Stop} (hq : Q0[s1]? = some q) (ht : told < 64) : Met l yX10_goOn wsX10_goOn rmX10_goOn (va_Pc [.ref y, .int (nI s1), .int (nI told)] (Pre D cA A (YW cA y am at_ as_ ah ap mb ss sh sp mt rc rest))) (va_Qv (fun (u : YU) => BQ (goQ ma told Q0 s1) u.1 u.2.1 u.2.2.1 u.2.2.2.1 u.2.2.2.2) (fun u t => Wd D A ((fun (u : YU) => YW cA y am at_ as_ ah ap mb u.1 u.2.1 u.2.2.1 u.2.2.2.1 u.2.2.2.2 rest) u) t) A) (0) (0) A := by
  refine k_ofv (S := YU) (F := fun (u : YU) => YW cA y am at_ as_ ah ap mb u.1 u.2.1 u.2.2.1 u.2.2.2.1 u.2.2.2.2 rest) (cc := cX10_goOn) (maxL := 6) (by decide) rfl (Nat.le_of_ble_eq_true rfl) ?_
  intro p e s m args below meth c Q hF hini hK hA hG hret ls hl
  have hl : lv_has ls 6 [(0, .ref y), (1, .int (nI s1)), (2, .int (nI told))] := hl
  have hlt : s1 < Q0.length := (List.getElem?_eq_some_iff.mp hq).1
  have h729 := hB.2.1
  obtain ⟨hq1, hq2, hq3, hs1, hs2, hs3⟩ := hB.2.2.1 s1 q hq
  have hmq := (hma q.1 hq1).2
  refine lv_iload_n hF.1 hF.2.1 dX10_goOn_0 rfl (lv_at hl 1 rfl) ?_
  refine lv_if_lt (tgt := 11) hF.1 hF.2.1 dX10_goOn_1 (by decide) (fun c_1 => ?_) (fun c_1 => ?_)
  · --
    have n_1 : s1 < 0 := (nI_ltI (a := s1) (b := 0) (by omega) (by omega)).mp c_1
    exact absurd n_1 (by omega)
  · --
    have n_1 : ¬ (s1 < 0) := fun zz9 => c_1 ((nI_ltI (a := s1) (b := 0) (by omega) (by omega)).mpr zz9)
    refine lv_iload_n hF.1 hF.2.1 dX10_goOn_4 rfl (lv_at hl 1 rfl) ?_
    refine lv_sipush (v := (nI 729)) hF.1 hF.2.1 dX10_goOn_5 (by decide +kernel) ?_
    refine lv_icmp_lt (tgt := 12) hF.1 hF.2.1 dX10_goOn_8 (by decide) (fun c_8 => ?_) (fun c_8 => ?_)
    · --
      have n_8 : s1 < 729 := (nI_ltI (a := s1) (b := 729) (by omega) (by omega)).mp c_8
      refine lv_aload_n hF.1 hF.2.1 dX10_goOn_12 rfl (lv_at hl 0 rfl) ?_
      refine lv_aload_n hF.1 hF.2.1 dX10_goOn_13 rfl (lv_at hl 0 rfl) ?_
      refine k_get (C := RX10) (T := TX10) (N := 6) hF hK hG (fun _ h => List.mem_cons_of_mem _ (List.mem_append_right _ h)) 0 rfl rfl 2 (by decide) (List.mem_of_getElem? (i := 1) rfl) (fun _ h9 => h9) rfl dX10_goOn_14 ?_
      refine lv_iload_n hF.1 hF.2.1 dX10_goOn_17 rfl (lv_at hl 1 rfl) ?_
      refine k_ialdN hF hK hG 3 rfl (s1) rfl (by omega) (by omega) dX10_goOn_18 ?_
      rw [hs1]
      refine k_ci (r_V (As := [.int (nI (q.1))]) hF hK hA hG (c_X10_mayFrom hma hq1) (cwV 1 hF.2.2.2.2 gX10_goOn_X10_mayFrom rfl rfl rfl (by decide +kernel) ⟨Nat.le_of_ble_eq_true rfl, Nat.le_of_ble_eq_true rfl⟩) 0 rfl rfl rfl rfl hl.1 rfl (lv_room (Nat.le_of_ble_eq_true rfl)) dX10_goOn_19 ⟨Nat.le_of_ble_eq_true rfl, Nat.le_of_ble_eq_true rfl⟩) hG (fun r_19 u_19 H locs hp_19 hG => ?_)
      subst hp_19
      refine lv_istore_n (lv' := [(3, .int (nI (ma q.1))), (0, .ref y), (1, .int (nI s1)), (2, .int (nI told))]) hF.1 hF.2.1 dX10_goOn_22 rfl hl (by decide) rfl (fun ls hl => ?_)
      refine lv_iconst (v := (nI 0)) hF.1 hF.2.1 dX10_goOn_23 (by decide +kernel) ?_
      refine lv_istore (lv' := [(4, .int (nI 0)), (3, .int (nI (ma q.1))), (0, .ref y), (1, .int (nI s1)), (2, .int (nI told))]) hF.1 hF.2.1 dX10_goOn_24 hl (by decide) rfl (fun ls hl => ?_)
      have lp26 : ∀ (fuel : Nat), ∀ (i : Nat) (Z : List Stop) (ss sh sp : Nat → Int32) (mt : Nat → Int64) (rc : Nat), (hi : i ≤ 6) → (hQ : Z = goU (ma q.1) q.1 q.2.1 q.2.2 told i Q0) → (hB2 : BQ Z ss sh sp mt rc) → (hg : Z[s1]? = some q) → (6 - i) < fuel → ∀ (H : Heap) (locs : List Loc), Gd D A (YW cA y am at_ as_ ah ap mb ss sh sp mt rc rest) s.heap H locs → ∀ ls : Array Slot, lv_has ls 6 [(0, .ref y), (1, .int (nI s1)), (2, .int (nI told)), (3, .int (nI (ma q.1))), (4, .int (nI i))] → W p l e rmX10_goOn s m args below meth c H locs (0) (0) Q (F0 m 26 ls []) := by
        intro fuel
        induction fuel with
        | zero => intro i Z ss sh sp mt rc hi hQ hB2 hg hmu; exact absurd hmu (Nat.not_lt_zero _)
        | succ fuel ih26 =>
          intro i Z ss sh sp mt rc hi hQ hB2 hg hmu H locs hG ls hl
          obtain ⟨-, -, -, f1, f2, f3⟩ := hB2.2.2.1 s1 q hg
          have hlt2 : s1 < Z.length := (List.getElem?_eq_some_iff.mp hg).1
          have h7292 := hB2.2.1
          refine lv_iload hF.1 hF.2.1 dX10_goOn_26 (lv_at hl 4 rfl) ?_
          refine lv_bipush (v := (nI 6)) hF.1 hF.2.1 dX10_goOn_28 (by decide +kernel) ?_
          refine lv_icmp_ge (tgt := 87) hF.1 hF.2.1 dX10_goOn_30 (by decide) (fun c_30 => ?_) (fun c_30 => ?_)
          · --
            have n_30 : 6 ≤ i := (nI_leI (a := 6) (b := i) (by omega) (by omega)).mp c_30
            exact hret (ss, sh, sp, mt, rc) _ ls _ _ _ _ (by (obtain rfl : i = 6 := by omega); rw [goQ_at hq, ← hQ]; exact hB2) hG (Nat.le_of_ble_eq_true rfl) (Nat.le_of_ble_eq_true rfl) dX10_goOn_87
          · --
            have n_30 : ¬ (6 ≤ i) := fun zz9 => c_30 ((nI_leI (a := 6) (b := i) (by omega) (by omega)).mpr zz9)
            refine lv_iload_n hF.1 hF.2.1 dX10_goOn_33 rfl (lv_at hl 3 rfl) ?_
            refine lv_iload hF.1 hF.2.1 dX10_goOn_34 (lv_at hl 4 rfl) ?_
            refine lv_ishr hF.1 hF.2.1 dX10_goOn_36 ?_
            refine lv_iconst (v := (nI 1)) hF.1 hF.2.1 dX10_goOn_37 (by decide +kernel) ?_
            refine lv_iand hF.1 hF.2.1 dX10_goOn_38 ?_
            rw [bit_sh hmq (by omega)]
            have hbt := Bool.toNat_lt ((ma q.1).testBit i)
            refine lv_iconst (v := (nI 1)) hF.1 hF.2.1 dX10_goOn_39 (by decide +kernel) ?_
            refine lv_icmp_ne (tgt := 81) hF.1 hF.2.1 dX10_goOn_40 (by decide) (fun c_40 => ?_) (fun c_40 => ?_)
            · --
              have n_40 : ¬ (((ma q.1).testBit i).toNat = 1) := fun zz9 => c_40 ((nI_eq (a := ((ma q.1).testBit i).toNat) (b := 1) (by omega) (by omega)).mpr zz9)
              refine lv_iinc (v := (nI (i + 1))) (lv' := [(4, .int (nI (i + 1))), (0, .ref y), (1, .int (nI s1)), (2, .int (nI told)), (3, .int (nI (ma q.1)))]) hF.1 hF.2.1 dX10_goOn_81 hl (k := 4) rfl (nI_inc _ _) (by decide) rfl (fun ls hl => ?_)
              refine lv_goto (tgt := 26) hF.1 hF.2.1 dX10_goOn_84 (by decide) ?_
              exact ih26 (i + 1) (Z) (ss) (sh) (sp) (mt) (rc) (by omega) (by first | (rw [goU_t n_40, ← hQ]) | (rw [goU_f n_40, ← hQ])) (by first | exact hp_78 | exact hB2) (by first | exact hg | exact meetQ_get hg) (by omega) _ _ hG ls (lv_sub hl [1, 2, 3, 4, 0] rfl)
            · --
              have n_40 : ((ma q.1).testBit i).toNat = 1 := (nI_eq (a := ((ma q.1).testBit i).toNat) (b := 1) (by omega) (by omega)).mp c_40
              refine lv_aload_n hF.1 hF.2.1 dX10_goOn_43 rfl (lv_at hl 0 rfl) ?_
              refine k_get (C := RX10) (T := TX10) (N := 6) hF hK hG (fun _ h => List.mem_cons_of_mem _ (List.mem_append_right _ h)) 0 rfl rfl 2 (by decide) (List.mem_of_getElem? (i := 1) rfl) (fun _ h9 => h9) rfl dX10_goOn_44 ?_
              refine lv_iload_n hF.1 hF.2.1 dX10_goOn_47 rfl (lv_at hl 1 rfl) ?_
              refine k_ialdN hF hK hG 3 rfl (s1) rfl (by omega) (by omega) dX10_goOn_48 ?_
              rw [f1]
              refine lv_iload hF.1 hF.2.1 dX10_goOn_49 (lv_at hl 4 rfl) ?_
              refine k_ci (r_SN (As := [.int (nI (q.1)), .int (nI i)]) hF hK hA hG (c_X11_turned (by omega)) ⟨(va_cnB 2 hF.2.2.2.2 gX10_goOn_X11_turned_n66 rfl rfl rfl (hK.2.2.2.2 _ (List.mem_of_getElem? (i := 7) rfl)) (hF.2.2.2.2 _ (List.mem_of_getElem? (i := 11) rfl)) (by decide +kernel) ⟨Nat.le_of_ble_eq_true rfl, Nat.le_of_ble_eq_true rfl⟩), hF.2.2.2.2 _ (List.mem_of_getElem? (i := 10) rfl), trivial⟩ rfl hl.1 rfl (lv_room (Nat.le_of_ble_eq_true rfl)) dX10_goOn_51 ⟨Nat.le_of_ble_eq_true rfl, Nat.le_of_ble_eq_true rfl⟩) hG (fun r_51 u_51 H locs hp_51 hG => ?_)
              subst hp_51
              refine lv_istore (lv' := [(5, .int (nI (q.1 ^^^ 2 ^ i))), (0, .ref y), (1, .int (nI s1)), (2, .int (nI told)), (3, .int (nI (ma q.1))), (4, .int (nI i))]) hF.1 hF.2.1 dX10_goOn_54 hl (by decide) rfl (fun ls hl => ?_)
              refine lv_aload_n hF.1 hF.2.1 dX10_goOn_56 rfl (lv_at hl 1 rfl) ?_
              refine lv_iload hF.1 hF.2.1 dX10_goOn_57 (lv_at hl 0 rfl) ?_
              refine lv_aload_n hF.1 hF.2.1 dX10_goOn_59 rfl (lv_at hl 1 rfl) ?_
              refine k_get (C := RX10) (T := TX10) (N := 6) hF hK hG (fun _ h => List.mem_cons_of_mem _ (List.mem_append_right _ h)) 0 rfl rfl 3 (by decide) (List.mem_of_getElem? (i := 2) rfl) (fun _ h9 => h9) rfl dX10_goOn_60 ?_
              refine lv_iload_n hF.1 hF.2.1 dX10_goOn_63 rfl (lv_at hl 2 rfl) ?_
              refine k_ialdN hF hK hG 4 rfl (s1) rfl (by omega) (by omega) dX10_goOn_64 ?_
              rw [f2]
              refine lv_iload hF.1 hF.2.1 dX10_goOn_65 (lv_at hl 0 rfl) ?_
              refine lv_iload_n hF.1 hF.2.1 dX10_goOn_67 rfl (lv_at hl 3 rfl) ?_
              refine lv_iand hF.1 hF.2.1 dX10_goOn_68 ?_
              rw [nx_and]
              refine lv_ior hF.1 hF.2.1 dX10_goOn_69 ?_
              rw [nx_or]
              refine lv_aload_n hF.1 hF.2.1 dX10_goOn_70 rfl (lv_at hl 1 rfl) ?_
              refine k_get (C := RX10) (T := TX10) (N := 6) hF hK hG (fun _ h => List.mem_cons_of_mem _ (List.mem_append_right _ h)) 0 rfl rfl 4 (by decide) (List.mem_of_getElem? (i := 3) rfl) (fun _ h9 => h9) rfl dX10_goOn_71 ?_
              refine lv_iload_n hF.1 hF.2.1 dX10_goOn_74 rfl (lv_at hl 2 rfl) ?_
              refine k_ialdN hF hK hG 5 rfl (s1) rfl (by omega) (by omega) dX10_goOn_75 ?_
              rw [f3]
              refine lv_iconst (v := (nI 1)) hF.1 hF.2.1 dX10_goOn_76 (by decide +kernel) ?_
              refine lv_iadd hF.1 hF.2.1 dX10_goOn_77 ?_
              rw [nI_add]
              refine k_cv (r_V (As := [.int (nI (q.1 ^^^ 2 ^ i)), .int (nI (q.2.1 ||| ((q.1 ^^^ 2 ^ i) &&& told))), .int (nI (q.2.2 + 1))]) hF hK hA hG (c_X10_meet hB2 (tog_lt hq1 (by omega)) (or64 hq2 (tog_lt hq1 (by omega))) (by omega)) (cwV 3 hF.2.2.2.2 gX10_goOn_X10_meet rfl rfl rfl (by decide +kernel) ⟨Nat.le_of_ble_eq_true rfl, Nat.le_of_ble_eq_true rfl⟩) 0 rfl rfl rfl rfl hl.1 rfl (lv_room (Nat.le_of_ble_eq_true rfl)) dX10_goOn_78 ⟨Nat.le_of_ble_eq_true rfl, Nat.le_of_ble_eq_true rfl⟩) hG (fun u_78 H locs hp_78 hG => ?_)
              refine lv_iinc (v := (nI (i + 1))) (lv' := [(4, .int (nI (i + 1))), (5, .int (nI (q.1 ^^^ 2 ^ i))), (0, .ref y), (1, .int (nI s1)), (2, .int (nI told)), (3, .int (nI (ma q.1)))]) hF.1 hF.2.1 dX10_goOn_81 hl (k := 5) rfl (nI_inc _ _) (by decide) rfl (fun ls hl => ?_)
              refine lv_goto (tgt := 26) hF.1 hF.2.1 dX10_goOn_84 (by decide) ?_
              exact ih26 (i + 1) (meetQ Z (q.1 ^^^ 2 ^ i) (q.2.1 ||| ((q.1 ^^^ 2 ^ i) &&& told)) (q.2.2 + 1)) (u_78.1) (u_78.2.1) (u_78.2.2.1) (u_78.2.2.2.1) (u_78.2.2.2.2) (by omega) (by first | (rw [goU_t n_40, ← hQ]) | (rw [goU_f n_40, ← hQ])) (by first | exact hp_78 | exact hB2) (by first | exact hg | exact meetQ_get hg) (by omega) _ _ hG ls (lv_sub hl [2, 3, 4, 5, 0] rfl)
      exact lp26 _ (0) (Q0) (ss) (sh) (sp) (mt) (rc) (by omega) rfl hB hq (Nat.lt_succ_self _) _ _ hG ls (lv_sub hl [2, 3, 4, 1, 0] rfl)
    · --
      have n_8 : ¬ (s1 < 729) := fun zz9 => c_8 ((nI_ltI (a := s1) (b := 729) (by omega) (by omega)).mpr zz9)
      exact absurd n_8 (by omega)

abbrev rmX10_spread : Room := { frames := 3, cells := 0, slots := 0, locals := 70 }
set_option maxHeartbeats 4000000 in
set_option maxRecDepth 100000 in
theorem c_X10_spread {l : Launch} {D : va_G} {cA : Nat → ClassId} {A : Nat → Prop}  {y am at_ as_ ah ap : Nat} {mb ss sh sp : Nat → Int32} {mt : Nat → Int64} {rc : Nat} {rest : va_W} {ma : Nat → Nat} (hma : ∀ z, z < 64 → mb z = nI (ma z) ∧ ma z < 64) {st : Nat} (hst : st < 64) : Met l yX10_spread wsX10_spread rmX10_spread (va_Pc [.ref y, .int (nI st)] (Pre D cA A (YW cA y am at_ as_ ah ap mb ss sh sp mt rc rest))) (va_Qv (fun (u : YU) => BQ (bfsQ ma 0 729 0 [(st, st &&& 0, 0)]) u.1 u.2.1 u.2.2.1 u.2.2.2.1 u.2.2.2.2) (fun u t => Wd D A ((fun (u : YU) => YW cA y am at_ as_ ah ap mb u.1 u.2.1 u.2.2.1 u.2.2.2.1 u.2.2.2.2 rest) u) t) A) (0) (0) A := by
  refine k_ofv (S := YU) (F := fun (u : YU) => YW cA y am at_ as_ ah ap mb u.1 u.2.1 u.2.2.1 u.2.2.2.1 u.2.2.2.2 rest) (cc := cX10_spread) (maxL := 3) (by decide) rfl (Nat.le_of_ble_eq_true rfl) ?_
  intro p e s m args below meth c Q hF hini hK hA hG hret ls hl
  have hl : lv_has ls 3 [(0, .ref y), (1, .int (nI st))] := hl
  refine lv_aload_n hF.1 hF.2.1 dX10_spread_0 rfl (lv_at hl 0 rfl) ?_
  refine lv_iload_n hF.1 hF.2.1 dX10_spread_1 rfl (lv_at hl 1 rfl) ?_
  refine lv_iconst (v := (nI 0)) hF.1 hF.2.1 dX10_spread_2 (by decide +kernel) ?_
  refine k_cv (r_V (As := [.int (nI st), .int (nI 0)]) hF hK hA hG (c_X10_begin hst (by decide)) (cwV 2 hF.2.2.2.2 gX10_spread_X10_begin rfl rfl rfl (by decide +kernel) ⟨Nat.le_of_ble_eq_true rfl, Nat.le_of_ble_eq_true rfl⟩) 0 rfl rfl rfl rfl hl.1 rfl (lv_room (Nat.le_of_ble_eq_true rfl)) dX10_spread_3 ⟨Nat.le_of_ble_eq_true rfl, Nat.le_of_ble_eq_true rfl⟩) hG (fun u_3 H locs hp_3 hG => ?_)
  refine lv_iconst (v := (nI 0)) hF.1 hF.2.1 dX10_spread_6 (by decide +kernel) ?_
  refine lv_istore_n (lv' := [(2, .int (nI 0)), (0, .ref y), (1, .int (nI st))]) hF.1 hF.2.1 dX10_spread_7 rfl hl (by decide) rfl (fun ls hl => ?_)
  have lp8 : ∀ (fuel : Nat), ∀ (j : Nat) (Z : List Stop) (ss sh sp : Nat → Int32) (mt : Nat → Int64) (rc : Nat), (hj : j ≤ 729) → (hB2 : BQ Z ss sh sp mt rc) → (hFF : bfsQ ma 0 (729 - j) j Z = bfsQ ma 0 729 0 [(st, st &&& 0, 0)]) → (729 - j) < fuel → ∀ (H : Heap) (locs : List Loc), Gd D A (YW cA y am at_ as_ ah ap mb ss sh sp mt rc rest) s.heap H locs → ∀ ls : Array Slot, lv_has ls 3 [(0, .ref y), (1, .int (nI st)), (2, .int (nI j))] → W p l e rmX10_spread s m args below meth c H locs (0) (0) Q (F0 m 8 ls []) := by
    intro fuel
    induction fuel with
    | zero => intro j Z ss sh sp mt rc hj hB2 hFF hmu; exact absurd hmu (Nat.not_lt_zero _)
    | succ fuel ih8 =>
      intro j Z ss sh sp mt rc hj hB2 hFF hmu H locs hG ls hl
      have hrc : rc = Z.length := hB2.1
      have h729 := hB2.2.1
      refine lv_iload_n hF.1 hF.2.1 dX10_spread_8 rfl (lv_at hl 2 rfl) ?_
      refine lv_aload_n hF.1 hF.2.1 dX10_spread_9 rfl (lv_at hl 0 rfl) ?_
      refine k_get (C := RX10) (T := TX10) (N := 6) hF hK hG (fun _ h => List.mem_cons_of_mem _ (List.mem_append_right _ h)) 0 rfl rfl 5 (by decide) (List.mem_of_getElem? (i := 1) rfl) (fun _ h9 => h9) rfl dX10_spread_10 ?_
      refine lv_icmp_ge (tgt := 35) hF.1 hF.2.1 dX10_spread_13 (by decide) (fun c_13 => ?_) (fun c_13 => ?_)
      · --
        have n_13 : rc ≤ j := (nI_leI (a := rc) (b := j) (by omega) (by omega)).mp c_13
        exact hret (ss, sh, sp, mt, rc) _ ls _ _ _ _ (by first | (rw [bfs_stop (by omega)] at hFF; rw [← hFF]; exact hB2) | (rw [show 729 - j = 0 by omega] at hFF; rw [← hFF]; exact hB2)) hG (Nat.le_of_ble_eq_true rfl) (Nat.le_of_ble_eq_true rfl) dX10_spread_35
      · --
        have n_13 : ¬ (rc ≤ j) := fun zz9 => c_13 ((nI_leI (a := rc) (b := j) (by omega) (by omega)).mpr zz9)
        refine lv_iload_n hF.1 hF.2.1 dX10_spread_16 rfl (lv_at hl 2 rfl) ?_
        refine lv_sipush (v := (nI 729)) hF.1 hF.2.1 dX10_spread_17 (by decide +kernel) ?_
        refine lv_icmp_ge (tgt := 35) hF.1 hF.2.1 dX10_spread_20 (by decide) (fun c_20 => ?_) (fun c_20 => ?_)
        · --
          have n_20 : 729 ≤ j := (nI_leI (a := 729) (b := j) (by omega) (by omega)).mp c_20
          exact hret (ss, sh, sp, mt, rc) _ ls _ _ _ _ (by first | (rw [bfs_stop (by omega)] at hFF; rw [← hFF]; exact hB2) | (rw [show 729 - j = 0 by omega] at hFF; rw [← hFF]; exact hB2)) hG (Nat.le_of_ble_eq_true rfl) (Nat.le_of_ble_eq_true rfl) dX10_spread_35
        · --
          have n_20 : ¬ (729 ≤ j) := fun zz9 => c_20 ((nI_leI (a := 729) (b := j) (by omega) (by omega)).mpr zz9)
          obtain ⟨q, hq⟩ := get_ex (Q := Z) (s := j) (by omega)
          obtain ⟨hq1, hq2, hq3, f1, f2, f3⟩ := hB2.2.2.1 j q hq
          refine lv_aload_n hF.1 hF.2.1 dX10_spread_23 rfl (lv_at hl 0 rfl) ?_
          refine lv_iload_n hF.1 hF.2.1 dX10_spread_24 rfl (lv_at hl 2 rfl) ?_
          refine lv_iconst (v := (nI 0)) hF.1 hF.2.1 dX10_spread_25 (by decide +kernel) ?_
          refine k_cv (r_V (As := [.int (nI j), .int (nI 0)]) hF hK hA hG (c_X10_goOn hma hB2 hq (by decide)) (cwV 2 hF.2.2.2.2 gX10_spread_X10_goOn rfl rfl rfl (by decide +kernel) ⟨Nat.le_of_ble_eq_true rfl, Nat.le_of_ble_eq_true rfl⟩) 0 rfl rfl rfl rfl hl.1 rfl (lv_room (Nat.le_of_ble_eq_true rfl)) dX10_spread_26 ⟨Nat.le_of_ble_eq_true rfl, Nat.le_of_ble_eq_true rfl⟩) hG (fun u_26 H locs hp_26 hG => ?_)
          refine lv_iinc (v := (nI (j + 1))) (lv' := [(2, .int (nI (j + 1))), (0, .ref y), (1, .int (nI st))]) hF.1 hF.2.1 dX10_spread_29 hl (k := 2) rfl (nI_inc _ _) (by decide) rfl (fun ls hl => ?_)
          refine lv_goto (tgt := 8) hF.1 hF.2.1 dX10_spread_32 (by decide) ?_
          exact ih8 (j + 1) (goQ ma 0 Z j) (u_26.1) (u_26.2.1) (u_26.2.2.1) (u_26.2.2.2.1) (u_26.2.2.2.2) (by omega) hp_26 (by rw [← hFF, show 729 - j = (729 - (j + 1)) + 1 by omega, bfs_step (by omega)]) (by omega) _ _ hG ls (lv_sub hl [1, 2, 0] rfl)
  exact lp8 _ (0) ([(st, st &&& 0, 0)]) (u_3.1) (u_3.2.1) (u_3.2.2.1) (u_3.2.2.2.1) (u_3.2.2.2.2) (by omega) hp_3 rfl (Nat.lt_succ_self _) _ _ hG ls (lv_sub hl [1, 2, 0] rfl)

abbrev rmX10_pullsTo : Room := { frames := 3, cells := 0, slots := 0, locals := 70 }
set_option maxHeartbeats 4000000 in
set_option maxRecDepth 100000 in
theorem c_X10_pullsTo {l : Launch} {D : va_G} {cA : Nat → ClassId} {A : Nat → Prop}  {y am at_ as_ ah ap : Nat} {mb ss sh sp : Nat → Int32} {mt : Nat → Int64} {rc : Nat} {rest : va_W} {ma : Nat → Nat} (hma : ∀ z, z < 64 → mb z = nI (ma z) ∧ ma z < 64) {st to : Nat} (hst : st < 64) (hto : to < 64) : Met l yX10_pullsTo wsX10_pullsTo rmX10_pullsTo (va_Pc [.ref y, .int (nI st), .int (nI to)] (Pre D cA A (YW cA y am at_ as_ ah ap mb ss sh sp mt rc rest))) (va_Qi (fun r (_ : YU) => r = optI (findQ ma 0 (fun q => q.1 == to) 729 0 [(st, st &&& 0, 0)])) (fun u t => Wd D A ((fun (u : YU) => YW cA y am at_ as_ ah ap mb u.1 u.2.1 u.2.2.1 u.2.2.2.1 u.2.2.2.2 rest) u) t) A) (0) (0) A := by
  refine k_ofi (S := YU) (F := fun (u : YU) => YW cA y am at_ as_ ah ap mb u.1 u.2.1 u.2.2.1 u.2.2.2.1 u.2.2.2.2 rest) (cc := cX10_pullsTo) (maxL := 4) (by decide) rfl (Nat.le_of_ble_eq_true rfl) ?_
  intro p e s m args below meth c Q hF hini hK hA hG hret ls hl
  have hl : lv_has ls 4 [(0, .ref y), (1, .int (nI st)), (2, .int (nI to))] := hl
  refine lv_aload_n hF.1 hF.2.1 dX10_pullsTo_0 rfl (lv_at hl 0 rfl) ?_
  refine lv_iload_n hF.1 hF.2.1 dX10_pullsTo_1 rfl (lv_at hl 1 rfl) ?_
  refine lv_iconst (v := (nI 0)) hF.1 hF.2.1 dX10_pullsTo_2 (by decide +kernel) ?_
  refine k_cv (r_V (As := [.int (nI st), .int (nI 0)]) hF hK hA hG (c_X10_begin hst (by decide)) (cwV 2 hF.2.2.2.2 gX10_pullsTo_X10_begin rfl rfl rfl (by decide +kernel) ⟨Nat.le_of_ble_eq_true rfl, Nat.le_of_ble_eq_true rfl⟩) 0 rfl rfl rfl rfl hl.1 rfl (lv_room (Nat.le_of_ble_eq_true rfl)) dX10_pullsTo_3 ⟨Nat.le_of_ble_eq_true rfl, Nat.le_of_ble_eq_true rfl⟩) hG (fun u_3 H locs hp_3 hG => ?_)
  refine lv_iconst (v := (nI 0)) hF.1 hF.2.1 dX10_pullsTo_6 (by decide +kernel) ?_
  refine lv_istore_n (lv' := [(3, .int (nI 0)), (0, .ref y), (1, .int (nI st)), (2, .int (nI to))]) hF.1 hF.2.1 dX10_pullsTo_7 rfl hl (by decide) rfl (fun ls hl => ?_)
  have lp8 : ∀ (fuel : Nat), ∀ (j : Nat) (Z : List Stop) (ss sh sp : Nat → Int32) (mt : Nat → Int64) (rc : Nat), (hj : j ≤ 729) → (hB2 : BQ Z ss sh sp mt rc) → (hFF : findQ ma 0 (fun q => q.1 == to) (729 - j) j Z = findQ ma 0 (fun q => q.1 == to) 729 0 [(st, st &&& 0, 0)]) → (729 - j) < fuel → ∀ (H : Heap) (locs : List Loc), Gd D A (YW cA y am at_ as_ ah ap mb ss sh sp mt rc rest) s.heap H locs → ∀ ls : Array Slot, lv_has ls 4 [(0, .ref y), (1, .int (nI st)), (2, .int (nI to)), (3, .int (nI j))] → W p l e rmX10_pullsTo s m args below meth c H locs (0) (0) Q (F0 m 8 ls []) := by
    intro fuel
    induction fuel with
    | zero => intro j Z ss sh sp mt rc hj hB2 hFF hmu; exact absurd hmu (Nat.not_lt_zero _)
    | succ fuel ih8 =>
      intro j Z ss sh sp mt rc hj hB2 hFF hmu H locs hG ls hl
      have hrc : rc = Z.length := hB2.1
      have h729 := hB2.2.1
      refine lv_iload_n hF.1 hF.2.1 dX10_pullsTo_8 rfl (lv_at hl 3 rfl) ?_
      refine lv_aload_n hF.1 hF.2.1 dX10_pullsTo_9 rfl (lv_at hl 0 rfl) ?_
      refine k_get (C := RX10) (T := TX10) (N := 6) hF hK hG (fun _ h => List.mem_cons_of_mem _ (List.mem_append_right _ h)) 0 rfl rfl 5 (by decide) (List.mem_of_getElem? (i := 1) rfl) (fun _ h9 => h9) rfl dX10_pullsTo_10 ?_
      refine lv_icmp_ge (tgt := 52) hF.1 hF.2.1 dX10_pullsTo_13 (by decide) (fun c_13 => ?_) (fun c_13 => ?_)
      · --
        have n_13 : rc ≤ j := (nI_leI (a := rc) (b := j) (by omega) (by omega)).mp c_13
        refine lv_bipush (v := (-4)) hF.1 hF.2.1 dX10_pullsTo_52 (by decide +kernel) ?_
        exact hret _ (ss, sh, sp, mt, rc) _ ls _ _ _ _ (by rw [← hFF]; first | (rw [find_end (by omega)]; rfl) | (rw [show 729 - j = 0 by omega]; rfl)) (by first | rfl | exact nar_b2i _) hG (Nat.le_of_ble_eq_true rfl) (Nat.le_of_ble_eq_true rfl) dX10_pullsTo_54
      · --
        have n_13 : ¬ (rc ≤ j) := fun zz9 => c_13 ((nI_leI (a := rc) (b := j) (by omega) (by omega)).mpr zz9)
        refine lv_iload_n hF.1 hF.2.1 dX10_pullsTo_16 rfl (lv_at hl 3 rfl) ?_
        refine lv_sipush (v := (nI 729)) hF.1 hF.2.1 dX10_pullsTo_17 (by decide +kernel) ?_
        refine lv_icmp_ge (tgt := 52) hF.1 hF.2.1 dX10_pullsTo_20 (by decide) (fun c_20 => ?_) (fun c_20 => ?_)
        · --
          have n_20 : 729 ≤ j := (nI_leI (a := 729) (b := j) (by omega) (by omega)).mp c_20
          refine lv_bipush (v := (-4)) hF.1 hF.2.1 dX10_pullsTo_52 (by decide +kernel) ?_
          exact hret _ (ss, sh, sp, mt, rc) _ ls _ _ _ _ (by rw [← hFF]; first | (rw [find_end (by omega)]; rfl) | (rw [show 729 - j = 0 by omega]; rfl)) (by first | rfl | exact nar_b2i _) hG (Nat.le_of_ble_eq_true rfl) (Nat.le_of_ble_eq_true rfl) dX10_pullsTo_54
        · --
          have n_20 : ¬ (729 ≤ j) := fun zz9 => c_20 ((nI_leI (a := 729) (b := j) (by omega) (by omega)).mpr zz9)
          obtain ⟨q, hq⟩ := get_ex (Q := Z) (s := j) (by omega)
          obtain ⟨hq1, hq2, hq3, f1, f2, f3⟩ := hB2.2.2.1 j q hq
          refine lv_aload_n hF.1 hF.2.1 dX10_pullsTo_23 rfl (lv_at hl 0 rfl) ?_
          refine k_get (C := RX10) (T := TX10) (N := 6) hF hK hG (fun _ h => List.mem_cons_of_mem _ (List.mem_append_right _ h)) 0 rfl rfl 2 (by decide) (List.mem_of_getElem? (i := 2) rfl) (fun _ h9 => h9) rfl dX10_pullsTo_24 ?_
          refine lv_iload_n hF.1 hF.2.1 dX10_pullsTo_27 rfl (lv_at hl 3 rfl) ?_
          refine k_ialdN hF hK hG 3 rfl (j) rfl (by omega) (by omega) dX10_pullsTo_28 ?_
          rw [f1]
          refine lv_iload_n hF.1 hF.2.1 dX10_pullsTo_29 rfl (lv_at hl 2 rfl) ?_
          refine lv_icmp_ne (tgt := 40) hF.1 hF.2.1 dX10_pullsTo_30 (by decide) (fun c_30 => ?_) (fun c_30 => ?_)
          · --
            have n_30 : ¬ (q.1 = to) := fun zz9 => c_30 ((nI_eq (a := q.1) (b := to) (by omega) (by omega)).mpr zz9)
            refine lv_aload_n hF.1 hF.2.1 dX10_pullsTo_40 rfl (lv_at hl 0 rfl) ?_
            refine lv_iload_n hF.1 hF.2.1 dX10_pullsTo_41 rfl (lv_at hl 3 rfl) ?_
            refine lv_iconst (v := (nI 0)) hF.1 hF.2.1 dX10_pullsTo_42 (by decide +kernel) ?_
            refine k_cv (r_V (As := [.int (nI j), .int (nI 0)]) hF hK hA hG (c_X10_goOn hma hB2 hq (by decide)) (cwV 2 hF.2.2.2.2 gX10_pullsTo_X10_goOn rfl rfl rfl (by decide +kernel) ⟨Nat.le_of_ble_eq_true rfl, Nat.le_of_ble_eq_true rfl⟩) 0 rfl rfl rfl rfl hl.1 rfl (lv_room (Nat.le_of_ble_eq_true rfl)) dX10_pullsTo_43 ⟨Nat.le_of_ble_eq_true rfl, Nat.le_of_ble_eq_true rfl⟩) hG (fun u_43 H locs hp_43 hG => ?_)
            refine lv_iinc (v := (nI (j + 1))) (lv' := [(3, .int (nI (j + 1))), (0, .ref y), (1, .int (nI st)), (2, .int (nI to))]) hF.1 hF.2.1 dX10_pullsTo_46 hl (k := 3) rfl (nI_inc _ _) (by decide) rfl (fun ls hl => ?_)
            refine lv_goto (tgt := 8) hF.1 hF.2.1 dX10_pullsTo_49 (by decide) ?_
            exact ih8 (j + 1) (goQ ma 0 Z j) (u_43.1) (u_43.2.1) (u_43.2.2.1) (u_43.2.2.2.1) (u_43.2.2.2.2) (by omega) hp_43 (by rw [← hFF, show 729 - j = (729 - (j + 1)) + 1 by omega, find_go hq (by simp [n_30])]) (by omega) _ _ hG ls (lv_sub hl [1, 2, 3, 0] rfl)
          · --
            have n_30 : q.1 = to := (nI_eq (a := q.1) (b := to) (by omega) (by omega)).mp c_30
            refine lv_aload_n hF.1 hF.2.1 dX10_pullsTo_33 rfl (lv_at hl 0 rfl) ?_
            refine k_get (C := RX10) (T := TX10) (N := 6) hF hK hG (fun _ h => List.mem_cons_of_mem _ (List.mem_append_right _ h)) 0 rfl rfl 4 (by decide) (List.mem_of_getElem? (i := 3) rfl) (fun _ h9 => h9) rfl dX10_pullsTo_34 ?_
            refine lv_iload_n hF.1 hF.2.1 dX10_pullsTo_37 rfl (lv_at hl 3 rfl) ?_
            refine k_ialdN hF hK hG 5 rfl (j) rfl (by omega) (by omega) dX10_pullsTo_38 ?_
            exact hret _ (ss, sh, sp, mt, rc) _ ls _ _ _ _ (by rw [f3, ← hFF, show 729 - j = (728 - j) + 1 by omega, find_hit hq (by simp [n_30])]; rfl) (by first | rfl | exact nar_b2i _) hG (Nat.le_of_ble_eq_true rfl) (Nat.le_of_ble_eq_true rfl) dX10_pullsTo_39
  exact lp8 _ (0) ([(st, st &&& 0, 0)]) (u_3.1) (u_3.2.1) (u_3.2.2.1) (u_3.2.2.2.1) (u_3.2.2.2.2) (by omega) hp_3 rfl (Nat.lt_succ_self _) _ _ hG ls (lv_sub hl [1, 2, 3, 0] rfl)

abbrev rmX10_pullsToHave : Room := { frames := 3, cells := 0, slots := 0, locals := 70 }
set_option maxHeartbeats 4000000 in
set_option maxRecDepth 100000 in
theorem c_X10_pullsToHave {l : Launch} {D : va_G} {cA : Nat → ClassId} {A : Nat → Prop}  {y am at_ as_ ah ap : Nat} {mb ss sh sp : Nat → Int32} {mt : Nat → Int64} {rc : Nat} {rest : va_W} {ma : Nat → Nat} (hma : ∀ z, z < 64 → mb z = nI (ma z) ∧ ma z < 64) {st told : Nat} (hst : st < 64) (ht : told < 64) : Met l yX10_pullsToHave wsX10_pullsToHave rmX10_pullsToHave (va_Pc [.ref y, .int (nI st), .int (nI told)] (Pre D cA A (YW cA y am at_ as_ ah ap mb ss sh sp mt rc rest))) (va_Qi (fun r (_ : YU) => r = optI (findQ ma told (fun q => q.2.1 == told) 729 0 [(st, st &&& told, 0)])) (fun u t => Wd D A ((fun (u : YU) => YW cA y am at_ as_ ah ap mb u.1 u.2.1 u.2.2.1 u.2.2.2.1 u.2.2.2.2 rest) u) t) A) (0) (0) A := by
  refine k_ofi (S := YU) (F := fun (u : YU) => YW cA y am at_ as_ ah ap mb u.1 u.2.1 u.2.2.1 u.2.2.2.1 u.2.2.2.2 rest) (cc := cX10_pullsToHave) (maxL := 4) (by decide) rfl (Nat.le_of_ble_eq_true rfl) ?_
  intro p e s m args below meth c Q hF hini hK hA hG hret ls hl
  have hl : lv_has ls 4 [(0, .ref y), (1, .int (nI st)), (2, .int (nI told))] := hl
  refine lv_aload_n hF.1 hF.2.1 dX10_pullsToHave_0 rfl (lv_at hl 0 rfl) ?_
  refine lv_iload_n hF.1 hF.2.1 dX10_pullsToHave_1 rfl (lv_at hl 1 rfl) ?_
  refine lv_iload_n hF.1 hF.2.1 dX10_pullsToHave_2 rfl (lv_at hl 2 rfl) ?_
  refine k_cv (r_V (As := [.int (nI st), .int (nI told)]) hF hK hA hG (c_X10_begin hst ht) (cwV 2 hF.2.2.2.2 gX10_pullsToHave_X10_begin rfl rfl rfl (by decide +kernel) ⟨Nat.le_of_ble_eq_true rfl, Nat.le_of_ble_eq_true rfl⟩) 0 rfl rfl rfl rfl hl.1 rfl (lv_room (Nat.le_of_ble_eq_true rfl)) dX10_pullsToHave_3 ⟨Nat.le_of_ble_eq_true rfl, Nat.le_of_ble_eq_true rfl⟩) hG (fun u_3 H locs hp_3 hG => ?_)
  refine lv_iconst (v := (nI 0)) hF.1 hF.2.1 dX10_pullsToHave_6 (by decide +kernel) ?_
  refine lv_istore_n (lv' := [(3, .int (nI 0)), (0, .ref y), (1, .int (nI st)), (2, .int (nI told))]) hF.1 hF.2.1 dX10_pullsToHave_7 rfl hl (by decide) rfl (fun ls hl => ?_)
  have lp8 : ∀ (fuel : Nat), ∀ (j : Nat) (Z : List Stop) (ss sh sp : Nat → Int32) (mt : Nat → Int64) (rc : Nat), (hj : j ≤ 729) → (hB2 : BQ Z ss sh sp mt rc) → (hFF : findQ ma told (fun q => q.2.1 == told) (729 - j) j Z = findQ ma told (fun q => q.2.1 == told) 729 0 [(st, st &&& told, 0)]) → (729 - j) < fuel → ∀ (H : Heap) (locs : List Loc), Gd D A (YW cA y am at_ as_ ah ap mb ss sh sp mt rc rest) s.heap H locs → ∀ ls : Array Slot, lv_has ls 4 [(0, .ref y), (1, .int (nI st)), (2, .int (nI told)), (3, .int (nI j))] → W p l e rmX10_pullsToHave s m args below meth c H locs (0) (0) Q (F0 m 8 ls []) := by
    intro fuel
    induction fuel with
    | zero => intro j Z ss sh sp mt rc hj hB2 hFF hmu; exact absurd hmu (Nat.not_lt_zero _)
    | succ fuel ih8 =>
      intro j Z ss sh sp mt rc hj hB2 hFF hmu H locs hG ls hl
      have hrc : rc = Z.length := hB2.1
      have h729 := hB2.2.1
      refine lv_iload_n hF.1 hF.2.1 dX10_pullsToHave_8 rfl (lv_at hl 3 rfl) ?_
      refine lv_aload_n hF.1 hF.2.1 dX10_pullsToHave_9 rfl (lv_at hl 0 rfl) ?_
      refine k_get (C := RX10) (T := TX10) (N := 6) hF hK hG (fun _ h => List.mem_cons_of_mem _ (List.mem_append_right _ h)) 0 rfl rfl 5 (by decide) (List.mem_of_getElem? (i := 1) rfl) (fun _ h9 => h9) rfl dX10_pullsToHave_10 ?_
      refine lv_icmp_ge (tgt := 52) hF.1 hF.2.1 dX10_pullsToHave_13 (by decide) (fun c_13 => ?_) (fun c_13 => ?_)
      · --
        have n_13 : rc ≤ j := (nI_leI (a := rc) (b := j) (by omega) (by omega)).mp c_13
        refine lv_bipush (v := (-4)) hF.1 hF.2.1 dX10_pullsToHave_52 (by decide +kernel) ?_
        exact hret _ (ss, sh, sp, mt, rc) _ ls _ _ _ _ (by rw [← hFF]; first | (rw [find_end (by omega)]; rfl) | (rw [show 729 - j = 0 by omega]; rfl)) (by first | rfl | exact nar_b2i _) hG (Nat.le_of_ble_eq_true rfl) (Nat.le_of_ble_eq_true rfl) dX10_pullsToHave_54
      · --
        have n_13 : ¬ (rc ≤ j) := fun zz9 => c_13 ((nI_leI (a := rc) (b := j) (by omega) (by omega)).mpr zz9)
        refine lv_iload_n hF.1 hF.2.1 dX10_pullsToHave_16 rfl (lv_at hl 3 rfl) ?_
        refine lv_sipush (v := (nI 729)) hF.1 hF.2.1 dX10_pullsToHave_17 (by decide +kernel) ?_
        refine lv_icmp_ge (tgt := 52) hF.1 hF.2.1 dX10_pullsToHave_20 (by decide) (fun c_20 => ?_) (fun c_20 => ?_)
        · --
          have n_20 : 729 ≤ j := (nI_leI (a := 729) (b := j) (by omega) (by omega)).mp c_20
          refine lv_bipush (v := (-4)) hF.1 hF.2.1 dX10_pullsToHave_52 (by decide +kernel) ?_
          exact hret _ (ss, sh, sp, mt, rc) _ ls _ _ _ _ (by rw [← hFF]; first | (rw [find_end (by omega)]; rfl) | (rw [show 729 - j = 0 by omega]; rfl)) (by first | rfl | exact nar_b2i _) hG (Nat.le_of_ble_eq_true rfl) (Nat.le_of_ble_eq_true rfl) dX10_pullsToHave_54
        · --
          have n_20 : ¬ (729 ≤ j) := fun zz9 => c_20 ((nI_leI (a := 729) (b := j) (by omega) (by omega)).mpr zz9)
          obtain ⟨q, hq⟩ := get_ex (Q := Z) (s := j) (by omega)
          obtain ⟨hq1, hq2, hq3, f1, f2, f3⟩ := hB2.2.2.1 j q hq
          refine lv_aload_n hF.1 hF.2.1 dX10_pullsToHave_23 rfl (lv_at hl 0 rfl) ?_
          refine k_get (C := RX10) (T := TX10) (N := 6) hF hK hG (fun _ h => List.mem_cons_of_mem _ (List.mem_append_right _ h)) 0 rfl rfl 3 (by decide) (List.mem_of_getElem? (i := 2) rfl) (fun _ h9 => h9) rfl dX10_pullsToHave_24 ?_
          refine lv_iload_n hF.1 hF.2.1 dX10_pullsToHave_27 rfl (lv_at hl 3 rfl) ?_
          refine k_ialdN hF hK hG 4 rfl (j) rfl (by omega) (by omega) dX10_pullsToHave_28 ?_
          rw [f2]
          refine lv_iload_n hF.1 hF.2.1 dX10_pullsToHave_29 rfl (lv_at hl 2 rfl) ?_
          refine lv_icmp_ne (tgt := 40) hF.1 hF.2.1 dX10_pullsToHave_30 (by decide) (fun c_30 => ?_) (fun c_30 => ?_)
          · --
            have n_30 : ¬ (q.2.1 = told) := fun zz9 => c_30 ((nI_eq (a := q.2.1) (b := told) (by omega) (by omega)).mpr zz9)
            refine lv_aload_n hF.1 hF.2.1 dX10_pullsToHave_40 rfl (lv_at hl 0 rfl) ?_
            refine lv_iload_n hF.1 hF.2.1 dX10_pullsToHave_41 rfl (lv_at hl 3 rfl) ?_
            refine lv_iload_n hF.1 hF.2.1 dX10_pullsToHave_42 rfl (lv_at hl 2 rfl) ?_
            refine k_cv (r_V (As := [.int (nI j), .int (nI told)]) hF hK hA hG (c_X10_goOn hma hB2 hq ht) (cwV 2 hF.2.2.2.2 gX10_pullsToHave_X10_goOn rfl rfl rfl (by decide +kernel) ⟨Nat.le_of_ble_eq_true rfl, Nat.le_of_ble_eq_true rfl⟩) 0 rfl rfl rfl rfl hl.1 rfl (lv_room (Nat.le_of_ble_eq_true rfl)) dX10_pullsToHave_43 ⟨Nat.le_of_ble_eq_true rfl, Nat.le_of_ble_eq_true rfl⟩) hG (fun u_43 H locs hp_43 hG => ?_)
            refine lv_iinc (v := (nI (j + 1))) (lv' := [(3, .int (nI (j + 1))), (0, .ref y), (1, .int (nI st)), (2, .int (nI told))]) hF.1 hF.2.1 dX10_pullsToHave_46 hl (k := 3) rfl (nI_inc _ _) (by decide) rfl (fun ls hl => ?_)
            refine lv_goto (tgt := 8) hF.1 hF.2.1 dX10_pullsToHave_49 (by decide) ?_
            exact ih8 (j + 1) (goQ ma told Z j) (u_43.1) (u_43.2.1) (u_43.2.2.1) (u_43.2.2.2.1) (u_43.2.2.2.2) (by omega) hp_43 (by rw [← hFF, show 729 - j = (729 - (j + 1)) + 1 by omega, find_go hq (by simp [n_30])]) (by omega) _ _ hG ls (lv_sub hl [1, 2, 3, 0] rfl)
          · --
            have n_30 : q.2.1 = told := (nI_eq (a := q.2.1) (b := told) (by omega) (by omega)).mp c_30
            refine lv_aload_n hF.1 hF.2.1 dX10_pullsToHave_33 rfl (lv_at hl 0 rfl) ?_
            refine k_get (C := RX10) (T := TX10) (N := 6) hF hK hG (fun _ h => List.mem_cons_of_mem _ (List.mem_append_right _ h)) 0 rfl rfl 4 (by decide) (List.mem_of_getElem? (i := 3) rfl) (fun _ h9 => h9) rfl dX10_pullsToHave_34 ?_
            refine lv_iload_n hF.1 hF.2.1 dX10_pullsToHave_37 rfl (lv_at hl 3 rfl) ?_
            refine k_ialdN hF hK hG 5 rfl (j) rfl (by omega) (by omega) dX10_pullsToHave_38 ?_
            exact hret _ (ss, sh, sp, mt, rc) _ ls _ _ _ _ (by rw [f3, ← hFF, show 729 - j = (728 - j) + 1 by omega, find_hit hq (by simp [n_30])]; rfl) (by first | rfl | exact nar_b2i _) hG (Nat.le_of_ble_eq_true rfl) (Nat.le_of_ble_eq_true rfl) dX10_pullsToHave_39
  exact lp8 _ (0) ([(st, st &&& told, 0)]) (u_3.1) (u_3.2.1) (u_3.2.2.1) (u_3.2.2.2.1) (u_3.2.2.2.2) (by omega) hp_3 rfl (Nat.lt_succ_self _) _ _ hG ls (lv_sub hl [1, 2, 3, 0] rfl)

abbrev rmX10_mostPulls : Room := { frames := 0, cells := 0, slots := 0, locals := 0 }
set_option maxHeartbeats 4000000 in
set_option maxRecDepth 100000 in
theorem c_X10_mostPulls {l : Launch} {D : va_G} {cA : Nat → ClassId} {A : Nat → Prop}  {y am at_ as_ ah ap : Nat} {mb ss sh sp : Nat → Int32} {mt : Nat → Int64} {rc : Nat} {rest : va_W} {Q0 : List Stop} (hB : BQ Q0 ss sh sp mt rc) {q : Stop} (hq : Q0[Q0.length - 1]? = some q) : Met l yX10_mostPulls wsX10_mostPulls rmX10_mostPulls (va_Pc [.ref y] (Pre D cA A (YW cA y am at_ as_ ah ap mb ss sh sp mt rc rest))) (va_Qi (fun r _ => r = nI q.2.2) (fun u t => Wd D A ((fun (_ : Unit) => YW cA y am at_ as_ ah ap mb ss sh sp mt rc rest) u) t) A) (0) (0) A := by
  refine k_ofi (S := Unit) (F := fun (_ : Unit) => YW cA y am at_ as_ ah ap mb ss sh sp mt rc rest) (cc := cX10_mostPulls) (maxL := 1) (by decide) rfl (Nat.le_of_ble_eq_true rfl) ?_
  intro p e s m args below meth c Q hF hini hK hA hG hret ls hl
  have hl : lv_has ls 1 [(0, .ref y)] := hl
  have hrc : rc = Q0.length := hB.1
  have h729 := hB.2.1
  have h0 : 0 < Q0.length := by have := (List.getElem?_eq_some_iff.mp hq).1; omega
  obtain ⟨-, -, hq3, f1, f2, f3⟩ := hB.2.2.1 _ q hq
  refine lv_aload_n hF.1 hF.2.1 dX10_mostPulls_0 rfl (lv_at hl 0 rfl) ?_
  refine k_get (C := RX10) (T := TX10) (N := 6) hF hK hG (fun _ h => List.mem_cons_of_mem _ (List.mem_append_right _ h)) 0 rfl rfl 5 (by decide) (List.mem_of_getElem? (i := 1) rfl) (fun _ h9 => h9) rfl dX10_mostPulls_1 ?_
  refine lv_if_le (tgt := 31) hF.1 hF.2.1 dX10_mostPulls_4 (by decide) (fun c_4 => ?_) (fun c_4 => ?_)
  · --
    have n_4 : rc ≤ 0 := (nI_leI (a := rc) (b := 0) (by omega) (by omega)).mp c_4
    exact absurd n_4 (by omega)
  · --
    have n_4 : ¬ (rc ≤ 0) := fun zz9 => c_4 ((nI_leI (a := rc) (b := 0) (by omega) (by omega)).mpr zz9)
    refine lv_aload_n hF.1 hF.2.1 dX10_mostPulls_7 rfl (lv_at hl 0 rfl) ?_
    refine k_get (C := RX10) (T := TX10) (N := 6) hF hK hG (fun _ h => List.mem_cons_of_mem _ (List.mem_append_right _ h)) 0 rfl rfl 5 (by decide) (List.mem_of_getElem? (i := 1) rfl) (fun _ h9 => h9) rfl dX10_mostPulls_8 ?_
    refine lv_sipush (v := (nI 729)) hF.1 hF.2.1 dX10_mostPulls_11 (by decide +kernel) ?_
    refine lv_icmp_gt (tgt := 31) hF.1 hF.2.1 dX10_mostPulls_14 (by decide) (fun c_14 => ?_) (fun c_14 => ?_)
    · --
      have n_14 : 729 < rc := (nI_ltI (a := 729) (b := rc) (by omega) (by omega)).mp c_14
      exact absurd n_14 (by omega)
    · --
      have n_14 : ¬ (729 < rc) := fun zz9 => c_14 ((nI_ltI (a := 729) (b := rc) (by omega) (by omega)).mpr zz9)
      refine lv_aload_n hF.1 hF.2.1 dX10_mostPulls_17 rfl (lv_at hl 0 rfl) ?_
      refine k_get (C := RX10) (T := TX10) (N := 6) hF hK hG (fun _ h => List.mem_cons_of_mem _ (List.mem_append_right _ h)) 0 rfl rfl 4 (by decide) (List.mem_of_getElem? (i := 2) rfl) (fun _ h9 => h9) rfl dX10_mostPulls_18 ?_
      refine lv_aload_n hF.1 hF.2.1 dX10_mostPulls_21 rfl (lv_at hl 0 rfl) ?_
      refine k_get (C := RX10) (T := TX10) (N := 6) hF hK hG (fun _ h => List.mem_cons_of_mem _ (List.mem_append_right _ h)) 0 rfl rfl 5 (by decide) (List.mem_of_getElem? (i := 1) rfl) (fun _ h9 => h9) rfl dX10_mostPulls_22 ?_
      refine lv_iconst (v := (nI 1)) hF.1 hF.2.1 dX10_mostPulls_25 (by decide +kernel) ?_
      refine lv_isub hF.1 hF.2.1 dX10_mostPulls_26 ?_
      rw [pk_sub (show 1 ≤ rc by omega)]
      refine k_ialdN hF hK hG 5 rfl (rc - 1) rfl (by omega) (by omega) dX10_mostPulls_27 ?_
      refine lv_goto (tgt := 32) hF.1 hF.2.1 dX10_mostPulls_28 (by decide) ?_
      exact hret _ () _ ls _ _ _ _ (by rw [hrc]; exact f3) (by first | rfl | exact nar_b2i _) hG (Nat.le_of_ble_eq_true rfl) (Nat.le_of_ble_eq_true rfl) dX10_mostPulls_32

abbrev rmX10_leastFarthest : Room := { frames := 1, cells := 0, slots := 0, locals := 24 }
set_option maxHeartbeats 4000000 in
set_option maxRecDepth 100000 in
theorem c_X10_leastFarthest {l : Launch} {D : va_G} {cA : Nat → ClassId} {A : Nat → Prop}  {y am at_ as_ ah ap : Nat} {mb ss sh sp : Nat → Int32} {mt : Nat → Int64} {rc : Nat} {rest : va_W} {Q0 : List Stop} (hB : BQ Q0 ss sh sp mt rc) {q : Stop} (hq : Q0[Q0.length - 1]? = some q) : Met l yX10_leastFarthest wsX10_leastFarthest rmX10_leastFarthest (va_Pc [.ref y] (Pre D cA A (YW cA y am at_ as_ ah ap mb ss sh sp mt rc rest))) (va_Qi (fun r _ => r = nI (lfU Q0 q.2.2 Q0.length)) (fun u t => Wd D A ((fun (_ : Unit) => YW cA y am at_ as_ ah ap mb ss sh sp mt rc rest) u) t) A) (0) (0) A := by
  refine k_ofi (S := Unit) (F := fun (_ : Unit) => YW cA y am at_ as_ ah ap mb ss sh sp mt rc rest) (cc := cX10_leastFarthest) (maxL := 4) (by decide) rfl (Nat.le_of_ble_eq_true rfl) ?_
  intro p e s m args below meth c Q hF hini hK hA hG hret ls hl
  have hl : lv_has ls 4 [(0, .ref y)] := hl
  have hrc : rc = Q0.length := hB.1
  have h729 := hB.2.1
  obtain ⟨-, -, hq3, -, -, -⟩ := hB.2.2.1 _ q hq
  refine lv_aload_n hF.1 hF.2.1 dX10_leastFarthest_0 rfl (lv_at hl 0 rfl) ?_
  refine k_ci (r_V (As := []) hF hK hA hG (c_X10_mostPulls hB hq) (cwV 0 hF.2.2.2.2 gX10_leastFarthest_X10_mostPulls rfl rfl rfl (by decide +kernel) ⟨Nat.le_of_ble_eq_true rfl, Nat.le_of_ble_eq_true rfl⟩) 0 rfl rfl rfl rfl hl.1 rfl (lv_room (Nat.le_of_ble_eq_true rfl)) dX10_leastFarthest_1 ⟨Nat.le_of_ble_eq_true rfl, Nat.le_of_ble_eq_true rfl⟩) hG (fun r_1 u_1 H locs hp_1 hG => ?_)
  subst hp_1
  refine lv_istore_n (lv' := [(1, .int (nI (q.2.2))), (0, .ref y)]) hF.1 hF.2.1 dX10_leastFarthest_4 rfl hl (by decide) rfl (fun ls hl => ?_)
  refine lv_bipush (v := (nI 64)) hF.1 hF.2.1 dX10_leastFarthest_5 (by decide +kernel) ?_
  refine lv_istore_n (lv' := [(2, .int (nI 64)), (1, .int (nI (q.2.2))), (0, .ref y)]) hF.1 hF.2.1 dX10_leastFarthest_7 rfl hl (by decide) rfl (fun ls hl => ?_)
  refine lv_iconst (v := (nI 0)) hF.1 hF.2.1 dX10_leastFarthest_8 (by decide +kernel) ?_
  refine lv_istore_n (lv' := [(3, .int (nI 0)), (2, .int (nI 64)), (1, .int (nI (q.2.2))), (0, .ref y)]) hF.1 hF.2.1 dX10_leastFarthest_9 rfl hl (by decide) rfl (fun ls hl => ?_)
  have lp10 : ∀ (fuel : Nat), ∀ (j : Nat), (hj : j ≤ Q0.length) → (Q0.length - j) < fuel → ∀ (H : Heap) (locs : List Loc), Gd D A (YW cA y am at_ as_ ah ap mb ss sh sp mt rc rest) s.heap H locs → ∀ ls : Array Slot, lv_has ls 4 [(0, .ref y), (1, .int (nI (q.2.2))), (2, .int (nI (lfU Q0 q.2.2 j))), (3, .int (nI j))] → W p l e rmX10_leastFarthest s m args below meth c H locs (0) (0) Q (F0 m 10 ls []) := by
    intro fuel
    induction fuel with
    | zero => intro j hj hmu; exact absurd hmu (Nat.not_lt_zero _)
    | succ fuel ih10 =>
      intro j hj hmu H locs hG ls hl
      have hle := lfU_le Q0 q.2.2 j
      refine lv_iload_n hF.1 hF.2.1 dX10_leastFarthest_10 rfl (lv_at hl 3 rfl) ?_
      refine lv_aload_n hF.1 hF.2.1 dX10_leastFarthest_11 rfl (lv_at hl 0 rfl) ?_
      refine k_get (C := RX10) (T := TX10) (N := 6) hF hK hG (fun _ h => List.mem_cons_of_mem _ (List.mem_append_right _ h)) 0 rfl rfl 5 (by decide) (List.mem_of_getElem? (i := 1) rfl) (fun _ h9 => h9) rfl dX10_leastFarthest_12 ?_
      refine lv_icmp_ge (tgt := 52) hF.1 hF.2.1 dX10_leastFarthest_15 (by decide) (fun c_15 => ?_) (fun c_15 => ?_)
      · --
        have n_15 : rc ≤ j := (nI_leI (a := rc) (b := j) (by omega) (by omega)).mp c_15
        refine lv_iload_n hF.1 hF.2.1 dX10_leastFarthest_52 rfl (lv_at hl 2 rfl) ?_
        exact hret _ () _ ls _ _ _ _ (by rw [show j = Q0.length by omega]) (by first | rfl | exact nar_b2i _) hG (Nat.le_of_ble_eq_true rfl) (Nat.le_of_ble_eq_true rfl) dX10_leastFarthest_53
      · --
        have n_15 : ¬ (rc ≤ j) := fun zz9 => c_15 ((nI_leI (a := rc) (b := j) (by omega) (by omega)).mpr zz9)
        refine lv_iload_n hF.1 hF.2.1 dX10_leastFarthest_18 rfl (lv_at hl 3 rfl) ?_
        refine lv_sipush (v := (nI 729)) hF.1 hF.2.1 dX10_leastFarthest_19 (by decide +kernel) ?_
        refine lv_icmp_ge (tgt := 52) hF.1 hF.2.1 dX10_leastFarthest_22 (by decide) (fun c_22 => ?_) (fun c_22 => ?_)
        · --
          have n_22 : 729 ≤ j := (nI_leI (a := 729) (b := j) (by omega) (by omega)).mp c_22
          exact absurd n_22 (by omega)
        · --
          have n_22 : ¬ (729 ≤ j) := fun zz9 => c_22 ((nI_leI (a := 729) (b := j) (by omega) (by omega)).mpr zz9)
          obtain ⟨z, hz⟩ := get_ex (Q := Q0) (s := j) (by omega)
          obtain ⟨hz1, hz2, hz3, f1, f2, f3⟩ := hB.2.2.1 j z hz
          refine lv_aload_n hF.1 hF.2.1 dX10_leastFarthest_25 rfl (lv_at hl 0 rfl) ?_
          refine k_get (C := RX10) (T := TX10) (N := 6) hF hK hG (fun _ h => List.mem_cons_of_mem _ (List.mem_append_right _ h)) 0 rfl rfl 4 (by decide) (List.mem_of_getElem? (i := 2) rfl) (fun _ h9 => h9) rfl dX10_leastFarthest_26 ?_
          refine lv_iload_n hF.1 hF.2.1 dX10_leastFarthest_29 rfl (lv_at hl 3 rfl) ?_
          refine k_ialdN hF hK hG 5 rfl (j) rfl (by omega) (by omega) dX10_leastFarthest_30 ?_
          rw [f3]
          refine lv_iload_n hF.1 hF.2.1 dX10_leastFarthest_31 rfl (lv_at hl 1 rfl) ?_
          refine lv_icmp_ne (tgt := 46) hF.1 hF.2.1 dX10_leastFarthest_32 (by decide) (fun c_32 => ?_) (fun c_32 => ?_)
          · --
            have n_32 : ¬ (z.2.2 = q.2.2) := fun zz9 => c_32 ((nI_eq (a := z.2.2) (b := q.2.2) (by omega) (by omega)).mpr zz9)
            refine lv_iinc (v := (nI (j + 1))) (lv' := [(3, .int (nI (j + 1))), (0, .ref y), (1, .int (nI (q.2.2))), (2, .int (nI (lfU Q0 q.2.2 j)))]) hF.1 hF.2.1 dX10_leastFarthest_46 hl (k := 3) rfl (nI_inc _ _) (by decide) rfl (fun ls hl => ?_)
            refine lv_goto (tgt := 10) hF.1 hF.2.1 dX10_leastFarthest_49 (by decide) ?_
            exact ih10 (j + 1) (by omega) (by omega) _ _ hG ls (lv_sub hl [1, 2, 3, 0] (by first | (rw [lfU_t hz n_32]; rfl) | (rw [lfU_f hz n_32]; rfl)))
          · --
            have n_32 : z.2.2 = q.2.2 := (nI_eq (a := z.2.2) (b := q.2.2) (by omega) (by omega)).mp c_32
            refine lv_iload_n hF.1 hF.2.1 dX10_leastFarthest_35 rfl (lv_at hl 2 rfl) ?_
            refine lv_aload_n hF.1 hF.2.1 dX10_leastFarthest_36 rfl (lv_at hl 0 rfl) ?_
            refine k_get (C := RX10) (T := TX10) (N := 6) hF hK hG (fun _ h => List.mem_cons_of_mem _ (List.mem_append_right _ h)) 0 rfl rfl 2 (by decide) (List.mem_of_getElem? (i := 3) rfl) (fun _ h9 => h9) rfl dX10_leastFarthest_37 ?_
            refine lv_iload_n hF.1 hF.2.1 dX10_leastFarthest_40 rfl (lv_at hl 3 rfl) ?_
            refine k_ialdN hF hK hG 3 rfl (j) rfl (by omega) (by omega) dX10_leastFarthest_41 ?_
            rw [f1]
            refine va_mmin hF.1 hF.2.1 (hF.2.2.1.trans hl.1.symm) hF.2.2.2.1 (hF.2.2.2.2 _ (List.mem_of_getElem? (i := 4) rfl)) (hF.2.2.2.2 _ (List.mem_of_getElem? (i := 5) rfl)) (hF.2.2.2.2 _ (List.mem_of_getElem? (i := 6) rfl)) (hF.2.2.2.2 _ (List.mem_of_getElem? (i := 7) rfl)) (Nat.le_of_ble_eq_true rfl) (Nat.le_of_ble_eq_true rfl) (Nat.le_of_ble_eq_true rfl) (Nat.le_of_ble_eq_true rfl) dX10_leastFarthest_42 ?_
            rw [min_nI (by omega) (by omega)]
            refine lv_istore_n (lv' := [(2, .int (nI (if z.1 < lfU Q0 q.2.2 j then z.1 else lfU Q0 q.2.2 j))), (0, .ref y), (1, .int (nI (q.2.2))), (3, .int (nI j))]) hF.1 hF.2.1 dX10_leastFarthest_45 rfl hl (by decide) rfl (fun ls hl => ?_)
            refine lv_iinc (v := (nI (j + 1))) (lv' := [(3, .int (nI (j + 1))), (2, .int (nI (if z.1 < lfU Q0 q.2.2 j then z.1 else lfU Q0 q.2.2 j))), (0, .ref y), (1, .int (nI (q.2.2)))]) hF.1 hF.2.1 dX10_leastFarthest_46 hl (k := 3) rfl (nI_inc _ _) (by decide) rfl (fun ls hl => ?_)
            refine lv_goto (tgt := 10) hF.1 hF.2.1 dX10_leastFarthest_49 (by decide) ?_
            exact ih10 (j + 1) (by omega) (by omega) _ _ hG ls (lv_sub hl [2, 3, 1, 0] (by first | (rw [lfU_t hz n_32]; rfl) | (rw [lfU_f hz n_32]; rfl)))
  exact lp10 _ (0) (by omega) (Nat.lt_succ_self _) _ _ hG ls (lv_sub hl [3, 2, 1, 0] rfl)

abbrev rmX10_standingBehind : Room := { frames := 0, cells := 0, slots := 0, locals := 0 }
set_option maxHeartbeats 4000000 in
set_option maxRecDepth 100000 in
theorem c_X10_standingBehind {l : Launch} {D : va_G} {cA : Nat → ClassId} {A : Nat → Prop}  {y am at_ as_ ah ap : Nat} {mb ss sh sp : Nat → Int32} {mt : Nat → Int64} {rc : Nat} {rest : va_W} {Q0 : List Stop} (hB : BQ Q0 ss sh sp mt rc) {k : Int32} : Met l yX10_standingBehind wsX10_standingBehind rmX10_standingBehind (va_Pc [.ref y, .int k] (Pre D cA A (YW cA y am at_ as_ ah ap mb ss sh sp mt rc rest))) (va_Qi (fun r _ => r = optI ((Q0.find? (fun q => decide (nI q.2.2 = k))).map (fun q => q.1))) (fun u t => Wd D A ((fun (_ : Unit) => YW cA y am at_ as_ ah ap mb ss sh sp mt rc rest) u) t) A) (0) (0) A := by
  refine k_ofi (S := Unit) (F := fun (_ : Unit) => YW cA y am at_ as_ ah ap mb ss sh sp mt rc rest) (cc := cX10_standingBehind) (maxL := 3) (by decide) rfl (Nat.le_of_ble_eq_true rfl) ?_
  intro p e s m args below meth c Q hF hini hK hA hG hret ls hl
  have hl : lv_has ls 3 [(0, .ref y), (1, .int k)] := hl
  have hrc : rc = Q0.length := hB.1
  have h729 := hB.2.1
  refine lv_iconst (v := (nI 0)) hF.1 hF.2.1 dX10_standingBehind_0 (by decide +kernel) ?_
  refine lv_istore_n (lv' := [(2, .int (nI 0)), (0, .ref y), (1, .int k)]) hF.1 hF.2.1 dX10_standingBehind_1 rfl hl (by decide) rfl (fun ls hl => ?_)
  have lp2 : ∀ (fuel : Nat), ∀ (j : Nat), (hj : j ≤ Q0.length) → (hFF : (Q0.drop j).find? (fun q => decide (nI q.2.2 = k)) = Q0.find? (fun q => decide (nI q.2.2 = k))) → (Q0.length - j) < fuel → ∀ (H : Heap) (locs : List Loc), Gd D A (YW cA y am at_ as_ ah ap mb ss sh sp mt rc rest) s.heap H locs → ∀ ls : Array Slot, lv_has ls 3 [(0, .ref y), (1, .int k), (2, .int (nI j))] → W p l e rmX10_standingBehind s m args below meth c H locs (0) (0) Q (F0 m 2 ls []) := by
    intro fuel
    induction fuel with
    | zero => intro j hj hFF hmu; exact absurd hmu (Nat.not_lt_zero _)
    | succ fuel ih2 =>
      intro j hj hFF hmu H locs hG ls hl
      refine lv_iload_n hF.1 hF.2.1 dX10_standingBehind_2 rfl (lv_at hl 2 rfl) ?_
      refine lv_aload_n hF.1 hF.2.1 dX10_standingBehind_3 rfl (lv_at hl 0 rfl) ?_
      refine k_get (C := RX10) (T := TX10) (N := 6) hF hK hG (fun _ h => List.mem_cons_of_mem _ (List.mem_append_right _ h)) 0 rfl rfl 5 (by decide) (List.mem_of_getElem? (i := 1) rfl) (fun _ h9 => h9) rfl dX10_standingBehind_4 ?_
      refine lv_icmp_ge (tgt := 40) hF.1 hF.2.1 dX10_standingBehind_7 (by decide) (fun c_7 => ?_) (fun c_7 => ?_)
      · --
        have n_7 : rc ≤ j := (nI_leI (a := rc) (b := j) (by omega) (by omega)).mp c_7
        refine lv_bipush (v := (-4)) hF.1 hF.2.1 dX10_standingBehind_40 (by decide +kernel) ?_
        exact hret _ () _ ls _ _ _ _ (by rw [← hFF, drop_end (by omega)]; rfl) (by first | rfl | exact nar_b2i _) hG (Nat.le_of_ble_eq_true rfl) (Nat.le_of_ble_eq_true rfl) dX10_standingBehind_42
      · --
        have n_7 : ¬ (rc ≤ j) := fun zz9 => c_7 ((nI_leI (a := rc) (b := j) (by omega) (by omega)).mpr zz9)
        refine lv_iload_n hF.1 hF.2.1 dX10_standingBehind_10 rfl (lv_at hl 2 rfl) ?_
        refine lv_sipush (v := (nI 729)) hF.1 hF.2.1 dX10_standingBehind_11 (by decide +kernel) ?_
        refine lv_icmp_ge (tgt := 40) hF.1 hF.2.1 dX10_standingBehind_14 (by decide) (fun c_14 => ?_) (fun c_14 => ?_)
        · --
          have n_14 : 729 ≤ j := (nI_leI (a := 729) (b := j) (by omega) (by omega)).mp c_14
          exact absurd n_14 (by omega)
        · --
          have n_14 : ¬ (729 ≤ j) := fun zz9 => c_14 ((nI_leI (a := 729) (b := j) (by omega) (by omega)).mpr zz9)
          obtain ⟨z, hz⟩ := get_ex (Q := Q0) (s := j) (by omega)
          obtain ⟨hz1, hz2, hz3, f1, f2, f3⟩ := hB.2.2.1 j z hz
          refine lv_aload_n hF.1 hF.2.1 dX10_standingBehind_17 rfl (lv_at hl 0 rfl) ?_
          refine k_get (C := RX10) (T := TX10) (N := 6) hF hK hG (fun _ h => List.mem_cons_of_mem _ (List.mem_append_right _ h)) 0 rfl rfl 4 (by decide) (List.mem_of_getElem? (i := 2) rfl) (fun _ h9 => h9) rfl dX10_standingBehind_18 ?_
          refine lv_iload_n hF.1 hF.2.1 dX10_standingBehind_21 rfl (lv_at hl 2 rfl) ?_
          refine k_ialdN hF hK hG 5 rfl (j) rfl (by omega) (by omega) dX10_standingBehind_22 ?_
          rw [f3]
          refine lv_iload_n hF.1 hF.2.1 dX10_standingBehind_23 rfl (lv_at hl 1 rfl) ?_
          refine lv_icmp_ne (tgt := 34) hF.1 hF.2.1 dX10_standingBehind_24 (by decide) (fun c_24 => ?_) (fun c_24 => ?_)
          · --
            refine lv_iinc (v := (nI (j + 1))) (lv' := [(2, .int (nI (j + 1))), (0, .ref y), (1, .int k)]) hF.1 hF.2.1 dX10_standingBehind_34 hl (k := 2) rfl (nI_inc _ _) (by decide) rfl (fun ls hl => ?_)
            refine lv_goto (tgt := 2) hF.1 hF.2.1 dX10_standingBehind_37 (by decide) ?_
            exact ih2 (j + 1) (by omega) ((drop_find hz (decide_eq_false c_24)).trans hFF) (by omega) _ _ hG ls (lv_sub hl [1, 2, 0] rfl)
          · --
            refine lv_aload_n hF.1 hF.2.1 dX10_standingBehind_27 rfl (lv_at hl 0 rfl) ?_
            refine k_get (C := RX10) (T := TX10) (N := 6) hF hK hG (fun _ h => List.mem_cons_of_mem _ (List.mem_append_right _ h)) 0 rfl rfl 2 (by decide) (List.mem_of_getElem? (i := 3) rfl) (fun _ h9 => h9) rfl dX10_standingBehind_28 ?_
            refine lv_iload_n hF.1 hF.2.1 dX10_standingBehind_31 rfl (lv_at hl 2 rfl) ?_
            refine k_ialdN hF hK hG 3 rfl (j) rfl (by omega) (by omega) dX10_standingBehind_32 ?_
            exact hret _ () _ ls _ _ _ _ (by rw [f1, ← hFF, drop_hit hz (decide_eq_true c_24)]; rfl) (by first | rfl | exact nar_b2i _) hG (Nat.le_of_ble_eq_true rfl) (Nat.le_of_ble_eq_true rfl) dX10_standingBehind_33
  exact lp2 _ (0) (by omega) rfl (Nat.lt_succ_self _) _ _ hG ls (lv_sub hl [1, 2, 0] rfl)

abbrev rmX10_everMay : Room := { frames := 1, cells := 0, slots := 0, locals := 21 }
set_option maxHeartbeats 4000000 in
set_option maxRecDepth 100000 in
theorem c_X10_everMay {l : Launch} {D : va_G} {cA : Nat → ClassId} {A : Nat → Prop}  {y am at_ as_ ah ap : Nat} {mb ss sh sp : Nat → Int32} {mt : Nat → Int64} {rc : Nat} {rest : va_W} {ma : Nat → Nat} (hma : ∀ z, z < 64 → mb z = nI (ma z) ∧ ma z < 64) {Q0 : List Stop} (hB : BQ Q0 ss sh sp mt rc) : Met l yX10_everMay wsX10_everMay rmX10_everMay (va_Pc [.ref y] (Pre D cA A (YW cA y am at_ as_ ah ap mb ss sh sp mt rc rest))) (va_Qi (fun r _ => r = nI (emU ma Q0 Q0.length)) (fun u t => Wd D A ((fun (_ : Unit) => YW cA y am at_ as_ ah ap mb ss sh sp mt rc rest) u) t) A) (0) (0) A := by
  refine k_ofi (S := Unit) (F := fun (_ : Unit) => YW cA y am at_ as_ ah ap mb ss sh sp mt rc rest) (cc := cX10_everMay) (maxL := 3) (by decide) rfl (Nat.le_of_ble_eq_true rfl) ?_
  intro p e s m args below meth c Q hF hini hK hA hG hret ls hl
  have hl : lv_has ls 3 [(0, .ref y)] := hl
  have hrc : rc = Q0.length := hB.1
  have h729 := hB.2.1
  refine lv_iconst (v := (nI 0)) hF.1 hF.2.1 dX10_everMay_0 (by decide +kernel) ?_
  refine lv_istore_n (lv' := [(1, .int (nI 0)), (0, .ref y)]) hF.1 hF.2.1 dX10_everMay_1 rfl hl (by decide) rfl (fun ls hl => ?_)
  refine lv_iconst (v := (nI 0)) hF.1 hF.2.1 dX10_everMay_2 (by decide +kernel) ?_
  refine lv_istore_n (lv' := [(2, .int (nI 0)), (1, .int (nI 0)), (0, .ref y)]) hF.1 hF.2.1 dX10_everMay_3 rfl hl (by decide) rfl (fun ls hl => ?_)
  have lp4 : ∀ (fuel : Nat), ∀ (j : Nat), (hj : j ≤ Q0.length) → (Q0.length - j) < fuel → ∀ (H : Heap) (locs : List Loc), Gd D A (YW cA y am at_ as_ ah ap mb ss sh sp mt rc rest) s.heap H locs → ∀ ls : Array Slot, lv_has ls 3 [(0, .ref y), (1, .int (nI (emU ma Q0 j))), (2, .int (nI j))] → W p l e rmX10_everMay s m args below meth c H locs (0) (0) Q (F0 m 4 ls []) := by
    intro fuel
    induction fuel with
    | zero => intro j hj hmu; exact absurd hmu (Nat.not_lt_zero _)
    | succ fuel ih4 =>
      intro j hj hmu H locs hG ls hl
      refine lv_iload_n hF.1 hF.2.1 dX10_everMay_4 rfl (lv_at hl 2 rfl) ?_
      refine lv_aload_n hF.1 hF.2.1 dX10_everMay_5 rfl (lv_at hl 0 rfl) ?_
      refine k_get (C := RX10) (T := TX10) (N := 6) hF hK hG (fun _ h => List.mem_cons_of_mem _ (List.mem_append_right _ h)) 0 rfl rfl 5 (by decide) (List.mem_of_getElem? (i := 1) rfl) (fun _ h9 => h9) rfl dX10_everMay_6 ?_
      refine lv_icmp_ge (tgt := 38) hF.1 hF.2.1 dX10_everMay_9 (by decide) (fun c_9 => ?_) (fun c_9 => ?_)
      · --
        have n_9 : rc ≤ j := (nI_leI (a := rc) (b := j) (by omega) (by omega)).mp c_9
        refine lv_iload_n hF.1 hF.2.1 dX10_everMay_38 rfl (lv_at hl 1 rfl) ?_
        exact hret _ () _ ls _ _ _ _ (by rw [show j = Q0.length by omega]) (by first | rfl | exact nar_b2i _) hG (Nat.le_of_ble_eq_true rfl) (Nat.le_of_ble_eq_true rfl) dX10_everMay_39
      · --
        have n_9 : ¬ (rc ≤ j) := fun zz9 => c_9 ((nI_leI (a := rc) (b := j) (by omega) (by omega)).mpr zz9)
        refine lv_iload_n hF.1 hF.2.1 dX10_everMay_12 rfl (lv_at hl 2 rfl) ?_
        refine lv_sipush (v := (nI 729)) hF.1 hF.2.1 dX10_everMay_13 (by decide +kernel) ?_
        refine lv_icmp_ge (tgt := 38) hF.1 hF.2.1 dX10_everMay_16 (by decide) (fun c_16 => ?_) (fun c_16 => ?_)
        · --
          have n_16 : 729 ≤ j := (nI_leI (a := 729) (b := j) (by omega) (by omega)).mp c_16
          exact absurd n_16 (by omega)
        · --
          have n_16 : ¬ (729 ≤ j) := fun zz9 => c_16 ((nI_leI (a := 729) (b := j) (by omega) (by omega)).mpr zz9)
          obtain ⟨z, hz⟩ := get_ex (Q := Q0) (s := j) (by omega)
          obtain ⟨hz1, hz2, hz3, f1, f2, f3⟩ := hB.2.2.1 j z hz
          refine lv_iload_n hF.1 hF.2.1 dX10_everMay_19 rfl (lv_at hl 1 rfl) ?_
          refine lv_aload_n hF.1 hF.2.1 dX10_everMay_20 rfl (lv_at hl 0 rfl) ?_
          refine lv_aload_n hF.1 hF.2.1 dX10_everMay_21 rfl (lv_at hl 0 rfl) ?_
          refine k_get (C := RX10) (T := TX10) (N := 6) hF hK hG (fun _ h => List.mem_cons_of_mem _ (List.mem_append_right _ h)) 0 rfl rfl 2 (by decide) (List.mem_of_getElem? (i := 2) rfl) (fun _ h9 => h9) rfl dX10_everMay_22 ?_
          refine lv_iload_n hF.1 hF.2.1 dX10_everMay_25 rfl (lv_at hl 2 rfl) ?_
          refine k_ialdN hF hK hG 3 rfl (j) rfl (by omega) (by omega) dX10_everMay_26 ?_
          rw [f1]
          refine k_ci (r_V (As := [.int (nI (z.1))]) hF hK hA hG (c_X10_mayFrom hma hz1) (cwV 1 hF.2.2.2.2 gX10_everMay_X10_mayFrom rfl rfl rfl (by decide +kernel) ⟨Nat.le_of_ble_eq_true rfl, Nat.le_of_ble_eq_true rfl⟩) 0 rfl rfl rfl rfl hl.1 rfl (lv_room (Nat.le_of_ble_eq_true rfl)) dX10_everMay_27 ⟨Nat.le_of_ble_eq_true rfl, Nat.le_of_ble_eq_true rfl⟩) hG (fun r_27 u_27 H locs hp_27 hG => ?_)
          subst hp_27
          refine lv_ior hF.1 hF.2.1 dX10_everMay_30 ?_
          rw [nx_or]
          refine lv_istore_n (lv' := [(1, .int (nI (emU ma Q0 j ||| ma z.1))), (0, .ref y), (2, .int (nI j))]) hF.1 hF.2.1 dX10_everMay_31 rfl hl (by decide) rfl (fun ls hl => ?_)
          refine lv_iinc (v := (nI (j + 1))) (lv' := [(2, .int (nI (j + 1))), (1, .int (nI (emU ma Q0 j ||| ma z.1))), (0, .ref y)]) hF.1 hF.2.1 dX10_everMay_32 hl (k := 2) rfl (nI_inc _ _) (by decide) rfl (fun ls hl => ?_)
          refine lv_goto (tgt := 4) hF.1 hF.2.1 dX10_everMay_35 (by decide) ?_
          exact ih4 (j + 1) (by omega) (by omega) _ _ hG ls (lv_sub hl [2, 1, 0] (by rw [emU_t hz]; rfl))
  exact lp4 _ (0) (by omega) (Nat.lt_succ_self _) _ _ hG ls (lv_sub hl [2, 1, 0] rfl)

abbrev rmX10_learn : Room := { frames := 5, cells := 0, slots := 0, locals := 112 }
set_option maxHeartbeats 4000000 in
set_option maxRecDepth 100000 in
theorem c_X10_learn {l : Launch} {D : va_G} {cA : Nat → ClassId} {A : Nat → Prop}  {y am at_ as_ ah ap : Nat} {mb ss sh sp : Nat → Int32} {mt : Nat → Int64} {rc : Nat} {rest : va_W} {w a qw qa n o : Nat} {dr : Nat → Option Nat} {kd fg : Nat → Nat} (hW : WL cA (YW cA y am at_ as_ ah ap mb ss sh sp mt rc rest) w a qw qa dr n o kd fg) : Met l yX10_learn wsX10_learn rmX10_learn (va_Pc [.ref y, .ref w] (Pre D cA A (YW cA y am at_ as_ ah ap mb ss sh sp mt rc rest))) (va_Qv (fun (u : Nat → Int32) => ∀ z, z < 64 → u z = nI (maW n kd fg z)) (fun u t => Wd D A ((fun (u : Nat → Int32) => YW cA y am at_ as_ ah ap u ss sh sp mt rc rest) u) t) A) (0) (0) A := by
  refine k_ofv (S := Nat → Int32) (F := fun (u : Nat → Int32) => YW cA y am at_ as_ ah ap u ss sh sp mt rc rest) (cc := cX10_learn) (maxL := 3) (by decide) rfl (Nat.le_of_ble_eq_true rfl) ?_
  intro p e s m args below meth c Q hF hini hK hA hG hret ls hl
  have hl : lv_has ls 3 [(0, .ref y), (1, .ref w)] := hl
  have hn : n ≤ 6 := hW.2.2.1
  have hp2 : 2 ^ n ≤ 64 := Nat.pow_le_pow_right (by decide) hn
  refine lv_iconst (v := (nI 0)) hF.1 hF.2.1 dX10_learn_0 (by decide +kernel) ?_
  refine lv_istore_n (lv' := [(2, .int (nI 0)), (0, .ref y), (1, .ref w)]) hF.1 hF.2.1 dX10_learn_1 rfl hl (by decide) rfl (fun ls hl => ?_)
  have lp2 : ∀ (fuel : Nat), ∀ (j : Nat) (mb : Nat → Int32), (hj : j ≤ 64) → (hz : ∀ z, z < j → mb z = nI (maW n kd fg z)) → (hV : WL cA (YW cA y am at_ as_ ah ap mb ss sh sp mt rc rest) w a qw qa dr n o kd fg) → (64 - j) < fuel → ∀ (H : Heap) (locs : List Loc), Gd D A (YW cA y am at_ as_ ah ap mb ss sh sp mt rc rest) s.heap H locs → ∀ ls : Array Slot, lv_has ls 3 [(0, .ref y), (1, .ref w), (2, .int (nI j))] → W p l e rmX10_learn s m args below meth c H locs (0) (0) Q (F0 m 2 ls []) := by
    intro fuel
    induction fuel with
    | zero => intro j mb hj hz hV hmu; exact absurd hmu (Nat.not_lt_zero _)
    | succ fuel ih2 =>
      intro j mb hj hz hV hmu H locs hG ls hl
      refine lv_iload_n hF.1 hF.2.1 dX10_learn_2 rfl (lv_at hl 2 rfl) ?_
      refine lv_bipush (v := (nI 64)) hF.1 hF.2.1 dX10_learn_3 (by decide +kernel) ?_
      refine lv_icmp_ge (tgt := 37) hF.1 hF.2.1 dX10_learn_5 (by decide) (fun c_5 => ?_) (fun c_5 => ?_)
      · --
        have n_5 : 64 ≤ j := (nI_leI (a := 64) (b := j) (by omega) (by omega)).mp c_5
        exact hret mb _ ls _ _ _ _ (by exact fun z h => hz z (by omega)) hG (Nat.le_of_ble_eq_true rfl) (Nat.le_of_ble_eq_true rfl) dX10_learn_37
      · --
        have n_5 : ¬ (64 ≤ j) := fun zz9 => c_5 ((nI_leI (a := 64) (b := j) (by omega) (by omega)).mpr zz9)
        refine lv_aload_n hF.1 hF.2.1 dX10_learn_8 rfl (lv_at hl 0 rfl) ?_
        refine k_get (C := RX10) (T := TX10) (N := 6) hF hK hG (fun _ h => List.mem_cons_of_mem _ (List.mem_append_left _ (List.mem_append_left _ (List.mem_append_left _ (List.mem_append_left _ (List.mem_append_left _ (List.mem_append_left _ (List.mem_append_left _ (List.mem_append_left _ (List.mem_append_left _ (List.mem_append_right _ h))))))))))) 0 rfl rfl 0 (by decide) (List.mem_of_getElem? (i := 1) rfl) (fun _ h9 => h9) rfl dX10_learn_9 ?_
        refine lv_iload_n hF.1 hF.2.1 dX10_learn_12 rfl (lv_at hl 2 rfl) ?_
        refine lv_aload_n hF.1 hF.2.1 dX10_learn_13 rfl (lv_at hl 1 rfl) ?_
        refine lv_iload_n hF.1 hF.2.1 dX10_learn_14 rfl (lv_at hl 2 rfl) ?_
        refine k_ci (r_V (As := [.int (nI j)]) hF hK hA hG (c_X9_canStand hV) (cwV 1 hF.2.2.2.2 gX10_learn_X9_canStand rfl rfl rfl (by decide +kernel) ⟨Nat.le_of_ble_eq_true rfl, Nat.le_of_ble_eq_true rfl⟩) qw hV.1 rfl rfl rfl hl.1 rfl (lv_room (Nat.le_of_ble_eq_true rfl)) dX10_learn_15 ⟨Nat.le_of_ble_eq_true rfl, Nat.le_of_ble_eq_true rfl⟩) hG (fun r_15 u_15 H locs hp_15 hG => ?_)
        subst hp_15
        refine lv_if_eq (tgt := 29) hF.1 hF.2.1 dX10_learn_18 (by decide) (fun c_18 => ?_) (fun c_18 => ?_)
        · --
          have n_18 : (inB (2 ^ n) (nI j)) = false := b2i_z.mp c_18
          rw [inB_nI (by omega) (by omega)] at n_18
          have hjp : ¬ j < 2 ^ n := of_decide_eq_false n_18
          refine lv_iconst (v := (nI 0)) hF.1 hF.2.1 dX10_learn_29 (by decide +kernel) ?_
          refine k_iastN hF hK hG 1 rfl (j) rfl (by omega) (by omega) dX10_learn_30 (fun H locs hG => ?_)
          refine lv_iinc (v := (nI (j + 1))) (lv' := [(2, .int (nI (j + 1))), (0, .ref y), (1, .ref w)]) hF.1 hF.2.1 dX10_learn_31 hl (k := 2) rfl (nI_inc _ _) (by decide) rfl (fun ls hl => ?_)
          refine lv_goto (tgt := 2) hF.1 hF.2.1 dX10_learn_34 (by decide) ?_
          exact ih2 (j + 1) (upd mb j (nI 0)) (by omega) (lt_s (fun i hi => by rw [pk_un (Nat.ne_of_lt hi)]; exact hz i hi) (by rw [pk_us]; first | (rw [maW, if_pos hjp]) | (rw [maW, if_neg hjp]))) (hV.keepA (q0 := 1) rfl) (by omega) _ _ hG ls (lv_sub hl [1, 2, 0] rfl)
        · --
          have n_18 : (inB (2 ^ n) (nI j)) = true := b2i_nz.mp c_18
          rw [inB_nI (by omega) (by omega)] at n_18
          have hjp : j < 2 ^ n := of_decide_eq_true n_18
          refine lv_aload_n hF.1 hF.2.1 dX10_learn_21 rfl (lv_at hl 1 rfl) ?_
          refine lv_iload_n hF.1 hF.2.1 dX10_learn_22 rfl (lv_at hl 2 rfl) ?_
          refine k_ci (r_V (As := [.int (nI j)]) hF hK hA hG (c_X9_mayBits hV (by omega)) (cwV 1 hF.2.2.2.2 gX10_learn_X9_mayBits rfl rfl rfl (by decide +kernel) ⟨Nat.le_of_ble_eq_true rfl, Nat.le_of_ble_eq_true rfl⟩) qw hV.1 rfl rfl rfl hl.1 rfl (lv_room (Nat.le_of_ble_eq_true rfl)) dX10_learn_23 ⟨Nat.le_of_ble_eq_true rfl, Nat.le_of_ble_eq_true rfl⟩) hG (fun r_23 u_23 H locs hp_23 hG => ?_)
          subst hp_23
          refine lv_goto (tgt := 30) hF.1 hF.2.1 dX10_learn_26 (by decide) ?_
          refine k_iastN hF hK hG 1 rfl (j) rfl (by omega) (by omega) dX10_learn_30 (fun H locs hG => ?_)
          refine lv_iinc (v := (nI (j + 1))) (lv' := [(2, .int (nI (j + 1))), (0, .ref y), (1, .ref w)]) hF.1 hF.2.1 dX10_learn_31 hl (k := 2) rfl (nI_inc _ _) (by decide) rfl (fun ls hl => ?_)
          refine lv_goto (tgt := 2) hF.1 hF.2.1 dX10_learn_34 (by decide) ?_
          exact ih2 (j + 1) (upd mb j (nI (mayU kd fg j n))) (by omega) (lt_s (fun i hi => by rw [pk_un (Nat.ne_of_lt hi)]; exact hz i hi) (by rw [pk_us]; first | (rw [maW, if_pos hjp]) | (rw [maW, if_neg hjp]))) (hV.keepA (q0 := 1) rfl) (by omega) _ _ hG ls (lv_sub hl [1, 2, 0] rfl)
  exact lp2 _ (0) (mb) (by omega) (fun i hi => absurd hi (Nat.not_lt_zero i)) hW (Nat.lt_succ_self _) _ _ hG ls (lv_sub hl [1, 2, 0] rfl)
