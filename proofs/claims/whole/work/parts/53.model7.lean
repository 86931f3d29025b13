/-- pulls told one behind another: how it stands behind the first i of them, and how many came off -/
def runU (n : Nat) (kd fg : Nat → Nat) (f : Nat → Int32) (o : Nat) : Nat → Nat × Nat
  | 0 => (o, 0)
  | i + 1 => (pullO n kd fg (f i) (runU n kd fg f o i).1, (runU n kd fg f o i).2 + (mayZ n kd fg (f i) (runU n kd fg f o i).1).toNat)
theorem runU_lt {n o : Nat} {kd fg : Nat → Nat} {f : Nat → Int32} (hn : n ≤ 6) (ho : o < 2 ^ n) : ∀ i, (runU n kd fg f o i).1 < 2 ^ n := by
  intro i
  induction i with
  | zero => exact ho
  | succ i ih => exact pullO_lt hn ih
def JDG (n o : Nat) (kd fg : Nat → Nat) (f : Nat → Int32) (sz : Nat) (r : Int32) : Prop :=
  (r = -4 ∧ ∀ i, i < sz → mayZ n kd fg (f i) (runU n kd fg f o i).1 = true) ∨ ∃ i, i < sz ∧ r = nI i ∧ mayZ n kd fg (f i) (runU n kd fg f o i).1 = false ∧ ∀ j, j < i → mayZ n kd fg (f j) (runU n kd fg f o j).1 = true
theorem JDG.one {n o sz : Nat} {kd fg : Nat → Nat} {f : Nat → Int32} {r q : Int32} (h : JDG n o kd fg f sz r) (g : JDG n o kd fg f sz q) : r = q := by
  rcases h with ⟨h1, h2⟩ | ⟨i, h0, h1, h2, h3⟩ <;> rcases g with ⟨g1, g2⟩ | ⟨j, g0, g1, g2, g3⟩
  · rw [h1, g1]
  · rw [h2 j g0] at g2
    cases g2
  · rw [g2 i h0] at h2
    cases h2
  · rcases Nat.lt_trichotomy i j with e | e | e
    · rw [g3 i e] at h2
      cases h2
    · rw [h1, g1, e]
    · rw [h3 j e] at g2
      cases g2
def spJudge (n o : Nat) (kd fg : Nat → Nat) (y : Option Sf) (r : Int32) : Prop := match y with
  | some (some (.inr z)) => JDG n o kd fg z.2.2 z.2.1 r
  | y => r = wrA y
theorem spJudge_n {n o : Nat} {kd fg : Nat → Nat} {y : Option Sf} (h : ¬ wrA y = 0) : spJudge n o kd fg y (wrA y) := by
  match y, h with
  | none, _ => exact rfl
  | some none, _ => exact rfl
  | some (some (.inl z)), _ => exact rfl
  | some (some (.inr z)), h => exact absurd (by decide +kernel : nI 0 = 0) h
/-- the next seed, and the drawer drawn by it -/
def sdN (s : Int32) : Int32 := s * 1103515245 + nI 12345
def drN (s : Int32) (n : Nat) : Nat := s.toBitVec.toNat % 2 ^ 31 / 65536 % n
theorem lit65536 : (65536 : Int32) = nI 65536 := by decide +kernel
theorem drN_r (s : Int32) {n : Nat} (h0 : 0 < n) (hn : n < 2 ^ 31) : (s &&& 2147483647) / 65536 - (s &&& 2147483647) / 65536 / nI n * nI n = nI (drN s n) := by
  have h1 : s.toBitVec.toNat % 2 ^ 31 < 2 ^ 31 := Nat.mod_lt _ (by decide)
  rw [pk_and s 31 (by decide +kernel), lit65536, pk_div h1 (by decide) (by decide), pk_rem (Nat.lt_of_le_of_lt (Nat.div_le_self _ _) h1) h0 hn]
  rfl
abbrev rmX12_drawn : Room := { frames := 0, cells := 0, slots := 0, locals := 0 }
set_option maxHeartbeats 4000000 in
set_option maxRecDepth 100000 in
theorem c_X12_drawn {l : Launch} {D : va_G} {cA : Nat → ClassId} {A : Nat → Prop}  {ob : Nat → Nat} {aS aI aR aM aK aT aZ aE aD aF aN aP aH : Nat → Int32} {vH vT vP vB vE vS : Int32} {n : Nat} (h0 : 0 < n) (hn : n < 2 ^ 31) : Met l yX12_drawn wsX12_drawn rmX12_drawn (va_Pc [.ref (ob 0), .int (nI n)] (Pre D cA A (MW cA ob aS aI aR aM aK aT aZ aE aD aF aN aP aH vH vT vP vB vE vS))) (va_Qi (fun r _ => r = nI (drN (sdN vS) n)) (fun u t => Wd D A ((fun (_ : Unit) => MW cA ob aS aI aR aM aK aT aZ aE aD aF aN aP aH vH vT vP vB vE (sdN vS)) u) t) A) (0) (0) A := by
  refine k_ofi (S := Unit) (F := fun (_ : Unit) => MW cA ob aS aI aR aM aK aT aZ aE aD aF aN aP aH vH vT vP vB vE (sdN vS)) (cc := cX12_drawn) (maxL := 2) (by decide) rfl (Nat.le_of_ble_eq_true rfl) ?_
  intro p e s m args below meth c Q hF hini hK hA hG hret ls hl
  have hl : lv_has ls 2 [(0, .ref (ob 0)), (1, .int (nI n))] := hl
  refine lv_aload_n hF.1 hF.2.1 dX12_drawn_0 rfl (lv_at hl 0 rfl) ?_
  refine lv_aload_n hF.1 hF.2.1 dX12_drawn_1 rfl (lv_at hl 0 rfl) ?_
  refine k_get (C := RX12) (T := TX12) (N := 19) hF hK hG (fun _ h => List.mem_cons_of_mem _ (List.mem_append_right _ h)) 0 rfl rfl 18 (by decide) (List.mem_of_getElem? (i := 1) rfl) (fun _ h9 => h9) rfl dX12_drawn_2 ?_
  refine lv_ldc hF.1 hF.2.1 (own := RX12) hF.2.2.2.1 (hF.2.2.2.2 _ (List.mem_of_getElem? (i := 2) rfl)) dX12_drawn_5 ?_
  refine lv_imul hF.1 hF.2.1 dX12_drawn_7 ?_
  refine lv_sipush (v := (nI 12345)) hF.1 hF.2.1 dX12_drawn_8 (by decide +kernel) ?_
  refine lv_iadd hF.1 hF.2.1 dX12_drawn_11 ?_
  refine k_put (C := RX12) (T := TX12) (N := 19) hF hK hG (fun _ h => List.mem_cons_of_mem _ (List.mem_append_right _ h)) tyX12 tyX12_ok nmX12 0 rfl rfl 18 (by decide) (List.mem_of_getElem? (i := 1) rfl) (fun _ h9 => h9) rfl rfl rfl (Nat.le_of_ble_eq_true rfl) dX12_drawn_12 (fun H locs hG => ?_)
  refine lv_aload_n hF.1 hF.2.1 dX12_drawn_15 rfl (lv_at hl 0 rfl) ?_
  refine k_get (C := RX12) (T := TX12) (N := 19) hF hK hG (fun _ h => List.mem_cons_of_mem _ (List.mem_append_right _ h)) 0 rfl rfl 18 (by decide) (List.mem_of_getElem? (i := 1) rfl) (fun _ h9 => h9) rfl dX12_drawn_16 ?_
  refine lv_ldc hF.1 hF.2.1 (own := RX12) hF.2.2.2.1 (hF.2.2.2.2 _ (List.mem_of_getElem? (i := 3) rfl)) dX12_drawn_19 ?_
  refine lv_iand hF.1 hF.2.1 dX12_drawn_21 ?_
  refine lv_ldc hF.1 hF.2.1 (own := RX12) hF.2.2.2.1 (hF.2.2.2.2 _ (List.mem_of_getElem? (i := 4) rfl)) dX12_drawn_22 ?_
  refine lv_idiv hF.1 hF.2.1 dX12_drawn_24 (by decide +kernel) ?_
  refine lv_iload_n hF.1 hF.2.1 dX12_drawn_25 rfl (lv_at hl 1 rfl) ?_
  refine lv_irem hF.1 hF.2.1 dX12_drawn_26 (nI_ne0 h0 hn) ?_
  exact hret _ () _ ls _ _ _ _ (by exact drN_r (sdN vS) h0 hn) (by first | rfl | exact nar_b2i _) hG (Nat.le_of_ble_eq_true rfl) (Nat.le_of_ble_eq_true rfl) dX12_drawn_27

abbrev rmX12_judge : Room := { frames := 3, cells := 0, slots := 0, locals := 67 }
set_option maxHeartbeats 4000000 in
set_option maxRecDepth 100000 in
theorem c_X12_judge {l : Launch} {D : va_G} {cA : Nat → ClassId} {A : Nat → Prop}  {ob : Nat → Nat} {aS aI aR aM aK aT aZ aE aD aF aN aP aH : Nat → Int32} {vH vT vP vB vE vS : Int32} {n o : Nat} {kd fg : Nat → Nat} (hS : SR aS n o kd fg) {x : Nat → Sf} (hXF : ∀ d, d < 8 → SF aK aT aZ aE aD aF d (x d)) {d : Int32} : Met l yX12_judge wsX12_judge rmX12_judge (va_Pc [.ref (ob 0), .int d] (Pre D cA A (MW cA ob aS aI aR aM aK aT aZ aE aD aF aN aP aH vH vT vP vB vE vS))) (va_Qi (fun r (u : (Nat → Int32) × (Nat → Int32)) => spJudge n o kd fg (sfA x d) r ∧ SR u.1 n o kd fg) (fun u t => Wd D A ((fun (u : (Nat → Int32) × (Nat → Int32)) => MW cA ob u.1 aI aR u.2 aK aT aZ aE aD aF aN aP aH vH vT vP vB vE vS) u) t) A) (0) (0) A := by
  refine k_ofi (S := (Nat → Int32) × (Nat → Int32)) (F := fun (u : (Nat → Int32) × (Nat → Int32)) => MW cA ob u.1 aI aR u.2 aK aT aZ aE aD aF aN aP aH vH vT vP vB vE vS) (cc := cX12_judge) (maxL := 5) (by decide) rfl (Nat.le_of_ble_eq_true rfl) ?_
  intro p e s m args below meth c Q hF hini hK hA hG hret ls hl
  have hl : lv_has ls 5 [(0, .ref (ob 0)), (1, .int d)] := hl
  have hn : n ≤ 6 := hS.2.2.1
  have ho : o < 64 := hS.o64
  refine lv_aload_n hF.1 hF.2.1 dX12_judge_0 rfl (lv_at hl 0 rfl) ?_
  refine lv_iload_n hF.1 hF.2.1 dX12_judge_1 rfl (lv_at hl 1 rfl) ?_
  refine lv_iconst (v := (-1)) hF.1 hF.2.1 dX12_judge_2 (by decide +kernel) ?_
  refine k_ci (r_V (As := [.int d, .int (-1)]) hF hK hA hG (c_X12_wrongRow_A hXF) (cwV 2 hF.2.2.2.2 gX12_judge_X12_wrongRow rfl rfl rfl (by decide +kernel) ⟨Nat.le_of_ble_eq_true rfl, Nat.le_of_ble_eq_true rfl⟩) 0 rfl rfl rfl rfl hl.1 rfl (lv_room (Nat.le_of_ble_eq_true rfl)) dX12_judge_3 ⟨Nat.le_of_ble_eq_true rfl, Nat.le_of_ble_eq_true rfl⟩) hG (fun r_3 u_3 H locs hp_3 hG => ?_)
  subst hp_3
  refine lv_istore_n (lv' := [(2, .int (wrA (sfA x d))), (0, .ref (ob 0)), (1, .int d)]) hF.1 hF.2.1 dX12_judge_6 rfl hl (by decide) rfl (fun ls hl => ?_)
  refine lv_iload_n hF.1 hF.2.1 dX12_judge_7 rfl (lv_at hl 0 rfl) ?_
  refine lv_if_eq (tgt := 13) hF.1 hF.2.1 dX12_judge_8 (by decide) (fun c_8 => ?_) (fun c_8 => ?_)
  · --
    obtain ⟨j, z, hj, rfl, hx⟩ := wa_0 c_8
    obtain ⟨f1, f2, f3, f4, f5, f6⟩ := sf_r (hXF j hj) hx
    refine lv_aload_n hF.1 hF.2.1 dX12_judge_13 rfl (lv_at hl 1 rfl) ?_
    refine k_cv (r_V (As := []) hF hK hA hG (c_X12_begins) (cwV 0 hF.2.2.2.2 gX12_judge_X12_begins rfl rfl rfl (by decide +kernel) ⟨Nat.le_of_ble_eq_true rfl, Nat.le_of_ble_eq_true rfl⟩) 0 rfl rfl rfl rfl hl.1 rfl (lv_room (Nat.le_of_ble_eq_true rfl)) dX12_judge_14 ⟨Nat.le_of_ble_eq_true rfl, Nat.le_of_ble_eq_true rfl⟩) hG (fun u_14 H locs hp_14 hG => ?_)
    refine lv_bipush (v := (-4)) hF.1 hF.2.1 dX12_judge_17 (by decide +kernel) ?_
    refine lv_istore_n (lv' := [(3, .int (-4)), (2, .int (wrA (sfA x (nI j)))), (0, .ref (ob 0)), (1, .int (nI j))]) hF.1 hF.2.1 dX12_judge_19 rfl hl (by decide) rfl (fun ls hl => ?_)
    refine lv_iconst (v := (nI 0)) hF.1 hF.2.1 dX12_judge_20 (by decide +kernel) ?_
    refine lv_istore (lv' := [(4, .int (nI 0)), (3, .int (-4)), (2, .int (wrA (sfA x (nI j)))), (0, .ref (ob 0)), (1, .int (nI j))]) hF.1 hF.2.1 dX12_judge_21 hl (by decide) rfl (fun ls hl => ?_)
    have lp23 : ∀ (fuel : Nat), ∀ (i : Nat) (fo : Int32) (bS : Nat → Int32), (hi : i ≤ z.2.1) → (hSz : fo = -4 → SR bS n (runU n kd fg z.2.2 o (i)).1 kd fg) → (hfd : (fo = -4 ∧ ∀ q, q < i → mayZ n kd fg (z.2.2 q) (runU n kd fg z.2.2 o q).1 = true) ∨ ∃ q, q < i ∧ fo = nI q ∧ mayZ n kd fg (z.2.2 q) (runU n kd fg z.2.2 o q).1 = false ∧ ∀ j, j < q → mayZ n kd fg (z.2.2 j) (runU n kd fg z.2.2 o j).1 = true) → (z.2.1 - i) < fuel → ∀ (H : Heap) (locs : List Loc), Gd D A (MW cA ob bS aI aR (cpyN 14 aS aM) aK aT aZ aE aD aF aN aP aH vH vT vP vB vE vS) s.heap H locs → ∀ ls : Array Slot, lv_has ls 5 [(0, .ref (ob 0)), (1, .int (nI j)), (3, .int fo), (4, .int (nI i))] → W p l e rmX12_judge s m args below meth c H locs (0) (0) Q (F0 m 23 ls []) := by
      intro fuel
      induction fuel with
      | zero => intro i fo bS hi hSz hfd hmu; exact absurd hmu (Nat.not_lt_zero _)
      | succ fuel ih23 =>
        intro i fo bS hi hSz hfd hmu H locs hG ls hl
        refine lv_iload hF.1 hF.2.1 dX12_judge_23 (lv_at hl 3 rfl) ?_
        refine lv_aload_n hF.1 hF.2.1 dX12_judge_25 rfl (lv_at hl 0 rfl) ?_
        refine k_get (C := RX12) (T := TX12) (N := 19) hF hK hG (fun _ h => List.mem_cons_of_mem _ (List.mem_append_right _ h)) 0 rfl rfl 6 (by decide) (List.mem_of_getElem? (i := 1) rfl) (fun _ h9 => h9) rfl dX12_judge_26 ?_
        refine lv_iload_n hF.1 hF.2.1 dX12_judge_29 rfl (lv_at hl 1 rfl) ?_
        refine k_ialdN hF hK hG 7 rfl (j) rfl (by omega) (by omega) dX12_judge_30 ?_
        rw [f3]
        refine lv_icmp_ge (tgt := 80) hF.1 hF.2.1 dX12_judge_31 (by decide) (fun c_31 => ?_) (fun c_31 => ?_)
        · --
          have n_31 : z.2.1 ≤ i := (nI_leI (a := z.2.1) (b := i) (by omega) (by omega)).mp c_31
          refine lv_aload_n hF.1 hF.2.1 dX12_judge_80 rfl (lv_at hl 0 rfl) ?_
          refine k_cv (r_V (As := []) hF hK hA hG (c_X12_ends) (cwV 0 hF.2.2.2.2 gX12_judge_X12_ends rfl rfl rfl (by decide +kernel) ⟨Nat.le_of_ble_eq_true rfl, Nat.le_of_ble_eq_true rfl⟩) 0 rfl rfl rfl rfl hl.1 rfl (lv_room (Nat.le_of_ble_eq_true rfl)) dX12_judge_81 ⟨Nat.le_of_ble_eq_true rfl, Nat.le_of_ble_eq_true rfl⟩) hG (fun u_81 H locs hp_81 hG => ?_)
          refine lv_iload_n hF.1 hF.2.1 dX12_judge_84 rfl (lv_at hl 2 rfl) ?_
          exact hret _ (_, _) _ ls _ _ _ _ (by refine ⟨?_, (hS.cpy (g := aM)).cpy⟩; rw [sfA_j x hj, hx]; rcases hfd with g | ⟨q, g1, g2, g3, g4⟩; exact Or.inl ⟨g.1, fun q hq => g.2 q (by first | omega | (rw [g.1] at c_35; exact absurd c_35 (by decide +kernel)))⟩; exact Or.inr ⟨q, Nat.lt_of_lt_of_le g1 hi, g2, g3, g4⟩) (by first | rfl | exact nar_b2i _) hG (Nat.le_of_ble_eq_true rfl) (Nat.le_of_ble_eq_true rfl) dX12_judge_85
        · --
          have n_31 : ¬ (z.2.1 ≤ i) := fun zz9 => c_31 ((nI_leI (a := z.2.1) (b := i) (by omega) (by omega)).mpr zz9)
          refine lv_iload_n hF.1 hF.2.1 dX12_judge_34 rfl (lv_at hl 2 rfl) ?_
          refine lv_if_ge (tgt := 80) hF.1 hF.2.1 dX12_judge_35 (by decide) (fun c_35 => ?_) (fun c_35 => ?_)
          · --
            refine lv_aload_n hF.1 hF.2.1 dX12_judge_80 rfl (lv_at hl 0 rfl) ?_
            refine k_cv (r_V (As := []) hF hK hA hG (c_X12_ends) (cwV 0 hF.2.2.2.2 gX12_judge_X12_ends rfl rfl rfl (by decide +kernel) ⟨Nat.le_of_ble_eq_true rfl, Nat.le_of_ble_eq_true rfl⟩) 0 rfl rfl rfl rfl hl.1 rfl (lv_room (Nat.le_of_ble_eq_true rfl)) dX12_judge_81 ⟨Nat.le_of_ble_eq_true rfl, Nat.le_of_ble_eq_true rfl⟩) hG (fun u_81 H locs hp_81 hG => ?_)
            refine lv_iload_n hF.1 hF.2.1 dX12_judge_84 rfl (lv_at hl 2 rfl) ?_
            exact hret _ (_, _) _ ls _ _ _ _ (by refine ⟨?_, (hS.cpy (g := aM)).cpy⟩; rw [sfA_j x hj, hx]; rcases hfd with g | ⟨q, g1, g2, g3, g4⟩; exact Or.inl ⟨g.1, fun q hq => g.2 q (by first | omega | (rw [g.1] at c_35; exact absurd c_35 (by decide +kernel)))⟩; exact Or.inr ⟨q, Nat.lt_of_lt_of_le g1 hi, g2, g3, g4⟩) (by first | rfl | exact nar_b2i _) hG (Nat.le_of_ble_eq_true rfl) (Nat.le_of_ble_eq_true rfl) dX12_judge_85
          · --
            have hfm : fo = -4 ∧ ∀ q, q < i → mayZ n kd fg (z.2.2 q) (runU n kd fg z.2.2 o q).1 = true := hfd.elim id (fun g => by obtain ⟨q, g1, g2, -⟩ := g; rw [g2] at c_35; exact absurd (nI_pos' (by omega)) c_35)
            have hSi := hSz hfm.1
            refine lv_aload_n hF.1 hF.2.1 dX12_judge_38 rfl (lv_at hl 0 rfl) ?_
            refine lv_aload_n hF.1 hF.2.1 dX12_judge_39 rfl (lv_at hl 0 rfl) ?_
            refine lv_iload_n hF.1 hF.2.1 dX12_judge_40 rfl (lv_at hl 1 rfl) ?_
            refine lv_iload hF.1 hF.2.1 dX12_judge_41 (lv_at hl 3 rfl) ?_
            refine k_ci (r_V (As := [.int (nI j), .int (nI i)]) hF hK hA hG (c_X12_told hj (show i < 100 by omega)) (cwV 2 hF.2.2.2.2 gX12_judge_X12_told rfl rfl rfl (by decide +kernel) ⟨Nat.le_of_ble_eq_true rfl, Nat.le_of_ble_eq_true rfl⟩) 0 rfl rfl rfl rfl hl.1 rfl (lv_room (Nat.le_of_ble_eq_true rfl)) dX12_judge_43 ⟨Nat.le_of_ble_eq_true rfl, Nat.le_of_ble_eq_true rfl⟩) hG (fun r_43 u_43 H locs hp_43 hG => ?_)
            rw [f6 i (by omega)] at hp_43
            subst hp_43
            refine k_ci (r_V (As := [.int (z.2.2 i)]) hF hK hA hG (c_X12_isDrawer hSi) (cwV 1 hF.2.2.2.2 gX12_judge_X12_isDrawer rfl rfl rfl (by decide +kernel) ⟨Nat.le_of_ble_eq_true rfl, Nat.le_of_ble_eq_true rfl⟩) 0 rfl rfl rfl rfl hl.1 rfl (lv_room (Nat.le_of_ble_eq_true rfl)) dX12_judge_46 ⟨Nat.le_of_ble_eq_true rfl, Nat.le_of_ble_eq_true rfl⟩) hG (fun r_46 u_46 H locs hp_46 hG => ?_)
            subst hp_46
            refine lv_if_eq (tgt := 71) hF.1 hF.2.1 dX12_judge_49 (by decide) (fun c_49 => ?_) (fun c_49 => ?_)
            · --
              have n_49 : (inB n (z.2.2 i)) = false := b2i_z.mp c_49
              have hmz : mayZ n kd fg (z.2.2 i) (runU n kd fg z.2.2 o i).1 = false := mayZ_f n_49
              refine lv_iload hF.1 hF.2.1 dX12_judge_71 (lv_at hl 3 rfl) ?_
              refine lv_istore_n (lv' := [(3, .int (nI i)), (0, .ref (ob 0)), (1, .int (nI j)), (4, .int (nI i))]) hF.1 hF.2.1 dX12_judge_73 rfl hl (by decide) rfl (fun ls hl => ?_)
              refine lv_iinc (v := (nI (i + 1))) (lv' := [(4, .int (nI (i + 1))), (3, .int (nI i)), (0, .ref (ob 0)), (1, .int (nI j))]) hF.1 hF.2.1 dX12_judge_74 hl (k := 3) rfl (nI_inc _ _) (by decide) rfl (fun ls hl => ?_)
              refine lv_goto (tgt := 23) hF.1 hF.2.1 dX12_judge_77 (by decide) ?_
              exact ih23 (i + 1) (_) (_) (by omega) (by first | exact fun _ => hp2 | exact fun h => absurd h (nI_ne4 (by omega))) (by first | exact Or.inl ⟨rfl, lt_s hfm.2 n_63⟩ | exact Or.inr ⟨i, Nat.lt_succ_self i, rfl, hmz, hfm.2⟩) (by omega) _ _ hG ls (lv_sub hl [2, 3, 1, 0] rfl)
            · --
              have n_49 : (inB n (z.2.2 i)) = true := b2i_nz.mp c_49
              obtain ⟨k, hk, ek⟩ := inB_ex (by omega) n_49
              refine lv_aload_n hF.1 hF.2.1 dX12_judge_52 rfl (lv_at hl 0 rfl) ?_
              refine lv_aload_n hF.1 hF.2.1 dX12_judge_53 rfl (lv_at hl 0 rfl) ?_
              refine lv_iload_n hF.1 hF.2.1 dX12_judge_54 rfl (lv_at hl 1 rfl) ?_
              refine lv_iload hF.1 hF.2.1 dX12_judge_55 (lv_at hl 3 rfl) ?_
              refine k_ci (r_V (As := [.int (nI j), .int (nI i)]) hF hK hA hG (c_X12_told hj (show i < 100 by omega)) (cwV 2 hF.2.2.2.2 gX12_judge_X12_told rfl rfl rfl (by decide +kernel) ⟨Nat.le_of_ble_eq_true rfl, Nat.le_of_ble_eq_true rfl⟩) 0 rfl rfl rfl rfl hl.1 rfl (lv_room (Nat.le_of_ble_eq_true rfl)) dX12_judge_57 ⟨Nat.le_of_ble_eq_true rfl, Nat.le_of_ble_eq_true rfl⟩) hG (fun r_57 u_57 H locs hp_57 hG => ?_)
              rw [f6 i (by omega)] at hp_57
              subst hp_57
              rw [ek]
              refine k_ci (r_V (As := [.int (nI k)]) hF hK hA hG (c_X12_pulls hSi hk) (cwV 1 hF.2.2.2.2 gX12_judge_X12_pulls rfl rfl rfl (by decide +kernel) ⟨Nat.le_of_ble_eq_true rfl, Nat.le_of_ble_eq_true rfl⟩) 0 rfl rfl rfl rfl hl.1 rfl (lv_room (Nat.le_of_ble_eq_true rfl)) dX12_judge_60 ⟨Nat.le_of_ble_eq_true rfl, Nat.le_of_ble_eq_true rfl⟩) hG (fun r_60 u_60 H locs hp_60 hG => ?_)
              obtain ⟨hp1, hp2⟩ := hp_60
              subst hp1
              refine lv_if_eq (tgt := 71) hF.1 hF.2.1 dX12_judge_63 (by decide) (fun c_63 => ?_) (fun c_63 => ?_)
              · --
                have n_63 : (mayZ n kd fg (nI k) (runU n kd fg z.2.2 o (i)).1) = false := b2i_z.mp c_63
                rw [← ek] at n_63 hp2
                have hmz := n_63
                refine lv_iload hF.1 hF.2.1 dX12_judge_71 (lv_at hl 3 rfl) ?_
                refine lv_istore_n (lv' := [(3, .int (nI i)), (0, .ref (ob 0)), (1, .int (nI j)), (4, .int (nI i))]) hF.1 hF.2.1 dX12_judge_73 rfl hl (by decide) rfl (fun ls hl => ?_)
                refine lv_iinc (v := (nI (i + 1))) (lv' := [(4, .int (nI (i + 1))), (3, .int (nI i)), (0, .ref (ob 0)), (1, .int (nI j))]) hF.1 hF.2.1 dX12_judge_74 hl (k := 3) rfl (nI_inc _ _) (by decide) rfl (fun ls hl => ?_)
                refine lv_goto (tgt := 23) hF.1 hF.2.1 dX12_judge_77 (by decide) ?_
                exact ih23 (i + 1) (_) (_) (by omega) (by first | exact fun _ => hp2 | exact fun h => absurd h (nI_ne4 (by omega))) (by first | exact Or.inl ⟨rfl, lt_s hfm.2 n_63⟩ | exact Or.inr ⟨i, Nat.lt_succ_self i, rfl, hmz, hfm.2⟩) (by omega) _ _ hG ls (lv_sub hl [2, 3, 1, 0] rfl)
              · --
                have n_63 : (mayZ n kd fg (nI k) (runU n kd fg z.2.2 o (i)).1) = true := b2i_nz.mp c_63
                rw [← ek] at n_63 hp2
                refine lv_bipush (v := (-4)) hF.1 hF.2.1 dX12_judge_66 (by decide +kernel) ?_
                refine lv_goto (tgt := 73) hF.1 hF.2.1 dX12_judge_68 (by decide) ?_
                refine lv_istore_n (lv' := [(3, .int (-4)), (0, .ref (ob 0)), (1, .int (nI j)), (4, .int (nI i))]) hF.1 hF.2.1 dX12_judge_73 rfl hl (by decide) rfl (fun ls hl => ?_)
                refine lv_iinc (v := (nI (i + 1))) (lv' := [(4, .int (nI (i + 1))), (3, .int (-4)), (0, .ref (ob 0)), (1, .int (nI j))]) hF.1 hF.2.1 dX12_judge_74 hl (k := 3) rfl (nI_inc _ _) (by decide) rfl (fun ls hl => ?_)
                refine lv_goto (tgt := 23) hF.1 hF.2.1 dX12_judge_77 (by decide) ?_
                exact ih23 (i + 1) (_) (_) (by omega) (by first | exact fun _ => hp2 | exact fun h => absurd h (nI_ne4 (by omega))) (by first | exact Or.inl ⟨rfl, lt_s hfm.2 n_63⟩ | exact Or.inr ⟨i, Nat.lt_succ_self i, rfl, hmz, hfm.2⟩) (by omega) _ _ hG ls (lv_sub hl [2, 3, 1, 0] rfl)
    exact lp23 _ (0) ((-4)) (aS) (by omega) (fun _ => hS) (Or.inl ⟨rfl, fun q h => absurd h (Nat.not_lt_zero q)⟩) (Nat.lt_succ_self _) _ _ hG ls (lv_sub hl [3, 4, 1, 0] rfl)
  · --
    refine lv_iload_n hF.1 hF.2.1 dX12_judge_11 rfl (lv_at hl 0 rfl) ?_
    exact hret _ (aS, aM) _ ls _ _ _ _ (by exact ⟨spJudge_n c_8, hS⟩) (by first | rfl | exact nar_b2i _) hG (Nat.le_of_ble_eq_true rfl) (Nat.le_of_ble_eq_true rfl) dX12_judge_12
