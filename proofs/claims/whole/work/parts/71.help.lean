/-- what a call leaves: all cells of the class's world -/
abbrev XS : Type := (Nat → Int32) × (Nat → Int32) × (Nat → Int32) × (Nat → Int32) × (Nat → Int64) × Nat × Nat × Nat × (Nat → Option Nat) × Nat × Nat × (Nat → Option Nat) × Nat × Nat × (Nat → Option Nat) × (Nat → Option Nat) × (Nat → Option Nat) × (Nat → Int32) × Int32 × va_W
abbrev XV (cA : Nat → ClassId) (ob : Nat → Nat) (u : XS) : va_W := XW cA ob u.1 u.2.1 u.2.2.1 u.2.2.2.1 u.2.2.2.2.1 u.2.2.2.2.2.1 u.2.2.2.2.2.2.1 u.2.2.2.2.2.2.2.1 u.2.2.2.2.2.2.2.2.1 u.2.2.2.2.2.2.2.2.2.1 u.2.2.2.2.2.2.2.2.2.2.1 u.2.2.2.2.2.2.2.2.2.2.2.1 u.2.2.2.2.2.2.2.2.2.2.2.2.1 u.2.2.2.2.2.2.2.2.2.2.2.2.2.1 u.2.2.2.2.2.2.2.2.2.2.2.2.2.2.1 u.2.2.2.2.2.2.2.2.2.2.2.2.2.2.2.1 u.2.2.2.2.2.2.2.2.2.2.2.2.2.2.2.2.1 u.2.2.2.2.2.2.2.2.2.2.2.2.2.2.2.2.2.1 u.2.2.2.2.2.2.2.2.2.2.2.2.2.2.2.2.2.2.1 u.2.2.2.2.2.2.2.2.2.2.2.2.2.2.2.2.2.2.2
/-- the cells tell the wall w, the image im, whether that was taken, the shelves x -/
def XI (cA : Nat → ClassId) (u : XS) (w im : Wl) (tkb : Bool) (x : Nat → Sf) : Prop :=
  (u.2.2.2.2.2.2.1 = w.1 ∧ u.2.2.2.2.2.2.2.1 = w.2.1) ∧ (u.2.2.2.2.2.2.2.2.2.1 = im.1 ∧ u.2.2.2.2.2.2.2.2.2.2.1 = im.2.1) ∧ u.2.2.2.2.2.2.2.2.2.2.2.2.2.2.2.2.2.2.1 = b2i tkb ∧ WI u.2.2.2.2.2.2.2.2.2.2.2.2.2.2.2.2.2.2.2 u.2.2.2.2.2.2.1 u.2.2.2.2.2.2.2.1 u.2.2.2.2.2.2.2.2.1 w.2.2.1 w.2.2.2 ∧ WI u.2.2.2.2.2.2.2.2.2.2.2.2.2.2.2.2.2.2.2 u.2.2.2.2.2.2.2.2.2.1 u.2.2.2.2.2.2.2.2.2.2.1 u.2.2.2.2.2.2.2.2.2.2.2.1 im.2.2.1 im.2.2.2 ∧ (∃ kd fg, WI u.2.2.2.2.2.2.2.2.2.2.2.2.2.2.2.2.2.2.2 u.2.2.2.2.2.2.2.2.2.2.2.2.1 u.2.2.2.2.2.2.2.2.2.2.2.2.2.1 u.2.2.2.2.2.2.2.2.2.2.2.2.2.2.1 kd fg) ∧ ∃ P, SX cA u.2.2.2.2.2.2.2.2.2.2.2.2.2.2.2.2.2.2.2 u.2.2.2.2.2.2.2.2.2.2.2.2.2.2.2.1 u.2.2.2.2.2.2.2.2.2.2.2.2.2.2.2.2.1 x P
abbrev rmX11_drawerOn : Room := { frames := 1, cells := 0, slots := 0, locals := 20 }
set_option maxHeartbeats 4000000 in
set_option maxRecDepth 100000 in
theorem c_X11_drawerOn {l : Launch} {D : va_G} {cA : Nat → ClassId} {A : Nat → Prop}  {ob : Nat → Nat} {mb ss sh sp : Nat → Int32} {mt : Nat → Int64} {rc n o : Nat} {dr : Nat → Option Nat} {n1 o1 : Nat} {dr1 : Nat → Option Nat} {n2 o2 : Nat} {dr2 dk rk : Nat → Option Nat} {kt : Nat → Int32} {tk : Int32} {pool : va_W} {d : Int32} : Met l yX11_drawerOn wsX11_drawerOn rmX11_drawerOn (va_Pc [.ref (ob 6), .int d] (Pre D cA A (XW cA ob mb ss sh sp mt rc n o dr n1 o1 dr1 n2 o2 dr2 dk rk kt tk pool))) (va_Qq (fun r _ => r = shA dk d) (fun u t => Wd D A ((fun (_ : Unit) => XW cA ob mb ss sh sp mt rc n o dr n1 o1 dr1 n2 o2 dr2 dk rk kt tk pool) u) t) A) (0) (0) A := by
  refine k_ofq (S := Unit) (F := fun (_ : Unit) => XW cA ob mb ss sh sp mt rc n o dr n1 o1 dr1 n2 o2 dr2 dk rk kt tk pool) (cc := cX11_drawerOn) (maxL := 2) (by decide) rfl (Nat.le_of_ble_eq_true rfl) ?_
  intro p e s m args below meth c Q hF hini hK hA hG hret ls hl
  have hl : lv_has ls 2 [(0, .ref (ob 6)), (1, .int d)] := hl
  refine lv_iload_n hF.1 hF.2.1 dX11_drawerOn_0 rfl (lv_at hl 1 rfl) ?_
  refine k_ci (r_S (As := [.int d]) hF hK hA hG (c_X11_isShelf) (cwS 1 hF.2.2.2.2 gX11_drawerOn_X11_isShelf rfl rfl rfl (by decide +kernel) ⟨Nat.le_of_ble_eq_true rfl, Nat.le_of_ble_eq_true rfl⟩) rfl hl.1 rfl (lv_room (Nat.le_of_ble_eq_true rfl)) dX11_drawerOn_1 ⟨Nat.le_of_ble_eq_true rfl, Nat.le_of_ble_eq_true rfl⟩) hG (fun r_1 u_1 H locs hp_1 hG => ?_)
  subst hp_1
  refine lv_if_eq (tgt := 16) hF.1 hF.2.1 dX11_drawerOn_4 (by decide) (fun c_4 => ?_) (fun c_4 => ?_)
  · --
    have n_4 : (inB 8 d) = false := b2i_z.mp c_4
    refine lv_null hF.1 hF.2.1 dX11_drawerOn_16 ?_
    exact hret none _ () _ ls _ _ _ _ (by first | exact (shA_f dk n_4).symm | exact (shA_j dk hj).symm) rfl hG (Nat.le_of_ble_eq_true rfl) (Nat.le_of_ble_eq_true rfl) dX11_drawerOn_17
  · --
    have n_4 : (inB 8 d) = true := b2i_nz.mp c_4
    obtain ⟨j, hj, rfl⟩ := inB_ex (by omega) n_4
    refine lv_aload_n hF.1 hF.2.1 dX11_drawerOn_7 rfl (lv_at hl 0 rfl) ?_
    refine k_get (C := RX11) (T := TX11) (N := 8) hF hK hG (fun _ h => List.mem_cons_of_mem _ (List.mem_append_right _ h)) 6 rfl rfl 4 (by decide) (List.mem_of_getElem? (i := 1) rfl) (fun _ h9 => h9) rfl dX11_drawerOn_8 ?_
    refine lv_iload_n hF.1 hF.2.1 dX11_drawerOn_11 rfl (lv_at hl 1 rfl) ?_
    refine k_aldN hF hK hG 13 2 rfl rfl (j) rfl (by omega) (by omega) dX11_drawerOn_12 ?_
    refine lv_goto (tgt := 17) hF.1 hF.2.1 dX11_drawerOn_13 (by decide) ?_
    exact hret _ _ () _ ls _ _ _ _ (by first | exact (shA_f dk n_4).symm | exact (shA_j dk hj).symm) rfl hG (Nat.le_of_ble_eq_true rfl) (Nat.le_of_ble_eq_true rfl) dX11_drawerOn_17

abbrev rmX11_rowOn : Room := { frames := 1, cells := 0, slots := 0, locals := 20 }
set_option maxHeartbeats 4000000 in
set_option maxRecDepth 100000 in
theorem c_X11_rowOn {l : Launch} {D : va_G} {cA : Nat → ClassId} {A : Nat → Prop}  {ob : Nat → Nat} {mb ss sh sp : Nat → Int32} {mt : Nat → Int64} {rc n o : Nat} {dr : Nat → Option Nat} {n1 o1 : Nat} {dr1 : Nat → Option Nat} {n2 o2 : Nat} {dr2 dk rk : Nat → Option Nat} {kt : Nat → Int32} {tk : Int32} {pool : va_W} {d : Int32} : Met l yX11_rowOn wsX11_rowOn rmX11_rowOn (va_Pc [.ref (ob 6), .int d] (Pre D cA A (XW cA ob mb ss sh sp mt rc n o dr n1 o1 dr1 n2 o2 dr2 dk rk kt tk pool))) (va_Qq (fun r _ => r = shA rk d) (fun u t => Wd D A ((fun (_ : Unit) => XW cA ob mb ss sh sp mt rc n o dr n1 o1 dr1 n2 o2 dr2 dk rk kt tk pool) u) t) A) (0) (0) A := by
  refine k_ofq (S := Unit) (F := fun (_ : Unit) => XW cA ob mb ss sh sp mt rc n o dr n1 o1 dr1 n2 o2 dr2 dk rk kt tk pool) (cc := cX11_rowOn) (maxL := 2) (by decide) rfl (Nat.le_of_ble_eq_true rfl) ?_
  intro p e s m args below meth c Q hF hini hK hA hG hret ls hl
  have hl : lv_has ls 2 [(0, .ref (ob 6)), (1, .int d)] := hl
  refine lv_iload_n hF.1 hF.2.1 dX11_rowOn_0 rfl (lv_at hl 1 rfl) ?_
  refine k_ci (r_S (As := [.int d]) hF hK hA hG (c_X11_isShelf) (cwS 1 hF.2.2.2.2 gX11_rowOn_X11_isShelf rfl rfl rfl (by decide +kernel) ⟨Nat.le_of_ble_eq_true rfl, Nat.le_of_ble_eq_true rfl⟩) rfl hl.1 rfl (lv_room (Nat.le_of_ble_eq_true rfl)) dX11_rowOn_1 ⟨Nat.le_of_ble_eq_true rfl, Nat.le_of_ble_eq_true rfl⟩) hG (fun r_1 u_1 H locs hp_1 hG => ?_)
  subst hp_1
  refine lv_if_eq (tgt := 16) hF.1 hF.2.1 dX11_rowOn_4 (by decide) (fun c_4 => ?_) (fun c_4 => ?_)
  · --
    have n_4 : (inB 8 d) = false := b2i_z.mp c_4
    refine lv_null hF.1 hF.2.1 dX11_rowOn_16 ?_
    exact hret none _ () _ ls _ _ _ _ (by first | exact (shA_f rk n_4).symm | exact (shA_j rk hj).symm) rfl hG (Nat.le_of_ble_eq_true rfl) (Nat.le_of_ble_eq_true rfl) dX11_rowOn_17
  · --
    have n_4 : (inB 8 d) = true := b2i_nz.mp c_4
    obtain ⟨j, hj, rfl⟩ := inB_ex (by omega) n_4
    refine lv_aload_n hF.1 hF.2.1 dX11_rowOn_7 rfl (lv_at hl 0 rfl) ?_
    refine k_get (C := RX11) (T := TX11) (N := 8) hF hK hG (fun _ h => List.mem_cons_of_mem _ (List.mem_append_right _ h)) 6 rfl rfl 5 (by decide) (List.mem_of_getElem? (i := 1) rfl) (fun _ h9 => h9) rfl dX11_rowOn_8 ?_
    refine lv_iload_n hF.1 hF.2.1 dX11_rowOn_11 rfl (lv_at hl 1 rfl) ?_
    refine k_aldN hF hK hG 14 3 rfl rfl (j) rfl (by omega) (by omega) dX11_rowOn_12 ?_
    refine lv_goto (tgt := 17) hF.1 hF.2.1 dX11_rowOn_13 (by decide) ?_
    exact hret _ _ () _ ls _ _ _ _ (by first | exact (shA_f rk n_4).symm | exact (shA_j rk hj).symm) rfl hG (Nat.le_of_ble_eq_true rfl) (Nat.le_of_ble_eq_true rfl) dX11_rowOn_17

abbrev rmX11_holdsNothing : Room := { frames := 2, cells := 0, slots := 0, locals := 41 }
set_option maxHeartbeats 4000000 in
set_option maxRecDepth 100000 in
theorem c_X11_holdsNothing {l : Launch} {D : va_G} {cA : Nat → ClassId} {A : Nat → Prop}  {ob : Nat → Nat} {mb ss sh sp : Nat → Int32} {mt : Nat → Int64} {rc n o : Nat} {dr : Nat → Option Nat} {n1 o1 : Nat} {dr1 : Nat → Option Nat} {n2 o2 : Nat} {dr2 dk rk : Nat → Option Nat} {kt : Nat → Int32} {tk : Int32} {pool : va_W} {x : Nat → Sf} {P : Nat → Nat} (hX : SX cA pool dk rk x P) {d : Int32} : Met l yX11_holdsNothing wsX11_holdsNothing rmX11_holdsNothing (va_Pc [.ref (ob 6), .int d] (Pre D cA A (XW cA ob mb ss sh sp mt rc n o dr n1 o1 dr1 n2 o2 dr2 dk rk kt tk pool))) (va_Qi (fun r _ => r = b2i (hnB (sfA x d))) (fun u t => Wd D A ((fun (_ : Unit) => XW cA ob mb ss sh sp mt rc n o dr n1 o1 dr1 n2 o2 dr2 dk rk kt tk pool) u) t) A) (0) (0) A := by
  refine k_ofi (S := Unit) (F := fun (_ : Unit) => XW cA ob mb ss sh sp mt rc n o dr n1 o1 dr1 n2 o2 dr2 dk rk kt tk pool) (cc := cX11_holdsNothing) (maxL := 2) (by decide) rfl (Nat.le_of_ble_eq_true rfl) ?_
  intro p e s m args below meth c Q hF hini hK hA hG hret ls hl
  have hl : lv_has ls 2 [(0, .ref (ob 6)), (1, .int d)] := hl
  refine lv_aload_n hF.1 hF.2.1 dX11_holdsNothing_0 rfl (lv_at hl 0 rfl) ?_
  refine lv_iload_n hF.1 hF.2.1 dX11_holdsNothing_1 rfl (lv_at hl 1 rfl) ?_
  refine k_cq (r_V (As := [.int d]) hF hK hA hG (c_X11_drawerOn) (cwV 1 hF.2.2.2.2 gX11_holdsNothing_X11_drawerOn rfl rfl rfl (by decide +kernel) ⟨Nat.le_of_ble_eq_true rfl, Nat.le_of_ble_eq_true rfl⟩) 6 rfl rfl rfl rfl hl.1 rfl (lv_room (Nat.le_of_ble_eq_true rfl)) dX11_holdsNothing_2 ⟨Nat.le_of_ble_eq_true rfl, Nat.le_of_ble_eq_true rfl⟩) hG (fun r_2 u_2 H locs hp_2 hG => ?_)
  cases r_2 with
  | none =>
    show W p l e rmX11_holdsNothing s m args below meth c _ _ _ _ Q (F0 m 5 ls (.null :: []))
    refine lv_ifnonnullN hF.1 hF.2.1 dX11_holdsNothing_5 ?_
    refine lv_aload_n hF.1 hF.2.1 dX11_holdsNothing_8 rfl (lv_at hl 0 rfl) ?_
    refine lv_iload_n hF.1 hF.2.1 dX11_holdsNothing_9 rfl (lv_at hl 1 rfl) ?_
    refine k_cq (r_V (As := [.int d]) hF hK hA hG (c_X11_rowOn) (cwV 1 hF.2.2.2.2 gX11_holdsNothing_X11_rowOn rfl rfl rfl (by decide +kernel) ⟨Nat.le_of_ble_eq_true rfl, Nat.le_of_ble_eq_true rfl⟩) 6 rfl rfl rfl rfl hl.1 rfl (lv_room (Nat.le_of_ble_eq_true rfl)) dX11_holdsNothing_10 ⟨Nat.le_of_ble_eq_true rfl, Nat.le_of_ble_eq_true rfl⟩) hG (fun r_10 u_10 H locs hp_10 hG => ?_)
    cases r_10 with
    | none =>
      show W p l e rmX11_holdsNothing s m args below meth c _ _ _ _ Q (F0 m 13 ls (.null :: []))
      refine lv_ifnonnullN hF.1 hF.2.1 dX11_holdsNothing_13 ?_
      refine lv_iconst (v := (nI 1)) hF.1 hF.2.1 dX11_holdsNothing_16 (by decide +kernel) ?_
      refine lv_goto (tgt := 21) hF.1 hF.2.1 dX11_holdsNothing_17 (by decide) ?_
      exact hret _ () _ ls _ _ _ _ (by first | (rw [hn_t hX hp_2 hp_10]; rfl) | (rw [hn_f1 hX hp_2]; rfl) | (rw [hn_f2 hX hp_10]; rfl)) (by first | rfl | exact nar_b2i _) hG (Nat.le_of_ble_eq_true rfl) (Nat.le_of_ble_eq_true rfl) dX11_holdsNothing_21
    | some b2 =>
      show W p l e rmX11_holdsNothing s m args below meth c _ _ _ _ Q (F0 m 13 ls (.ref b2 :: []))
      refine lv_ifnonnull (tgt := 20) hF.1 hF.2.1 dX11_holdsNothing_13 (by decide) ?_
      refine lv_iconst (v := (nI 0)) hF.1 hF.2.1 dX11_holdsNothing_20 (by decide +kernel) ?_
      exact hret _ () _ ls _ _ _ _ (by first | (rw [hn_t hX hp_2 hp_10]; rfl) | (rw [hn_f1 hX hp_2]; rfl) | (rw [hn_f2 hX hp_10]; rfl)) (by first | rfl | exact nar_b2i _) hG (Nat.le_of_ble_eq_true rfl) (Nat.le_of_ble_eq_true rfl) dX11_holdsNothing_21
  | some b =>
    show W p l e rmX11_holdsNothing s m args below meth c _ _ _ _ Q (F0 m 5 ls (.ref b :: []))
    refine lv_ifnonnull (tgt := 20) hF.1 hF.2.1 dX11_holdsNothing_5 (by decide) ?_
    refine lv_iconst (v := (nI 0)) hF.1 hF.2.1 dX11_holdsNothing_20 (by decide +kernel) ?_
    exact hret _ () _ ls _ _ _ _ (by first | (rw [hn_t hX hp_2 hp_10]; rfl) | (rw [hn_f1 hX hp_2]; rfl) | (rw [hn_f2 hX hp_10]; rfl)) (by first | rfl | exact nar_b2i _) hG (Nat.le_of_ble_eq_true rfl) (Nat.le_of_ble_eq_true rfl) dX11_holdsNothing_21

abbrev rmX11_lacking : Room := { frames := 3, cells := 0, slots := 0, locals := 62 }
set_option maxHeartbeats 4000000 in
set_option maxRecDepth 100000 in
theorem c_X11_lacking {l : Launch} {D : va_G} {cA : Nat → ClassId} {A : Nat → Prop}  {ob : Nat → Nat} {mb ss sh sp : Nat → Int32} {mt : Nat → Int64} {rc n o : Nat} {dr : Nat → Option Nat} {n1 o1 : Nat} {dr1 : Nat → Option Nat} {n2 o2 : Nat} {dr2 dk rk : Nat → Option Nat} {kt : Nat → Int32} {tk : Int32} {pool : va_W} {x : Nat → Sf} {P : Nat → Nat} (hX : SX cA pool dk rk x P) {d : Int32} : Met l yX11_lacking wsX11_lacking rmX11_lacking (va_Pc [.ref (ob 6), .int d] (Pre D cA A (XW cA ob mb ss sh sp mt rc n o dr n1 o1 dr1 n2 o2 dr2 dk rk kt tk pool))) (va_Qi (fun r _ => r = lkI (sfA x d)) (fun u t => Wd D A ((fun (_ : Unit) => XW cA ob mb ss sh sp mt rc n o dr n1 o1 dr1 n2 o2 dr2 dk rk kt tk pool) u) t) A) (0) (0) A := by
  refine k_ofi (S := Unit) (F := fun (_ : Unit) => XW cA ob mb ss sh sp mt rc n o dr n1 o1 dr1 n2 o2 dr2 dk rk kt tk pool) (cc := cX11_lacking) (maxL := 2) (by decide) rfl (Nat.le_of_ble_eq_true rfl) ?_
  intro p e s m args below meth c Q hF hini hK hA hG hret ls hl
  have hl : lv_has ls 2 [(0, .ref (ob 6)), (1, .int d)] := hl
  refine lv_iload_n hF.1 hF.2.1 dX11_lacking_0 rfl (lv_at hl 1 rfl) ?_
  refine k_ci (r_S (As := [.int d]) hF hK hA hG (c_X11_isShelf) (cwS 1 hF.2.2.2.2 gX11_lacking_X11_isShelf rfl rfl rfl (by decide +kernel) ⟨Nat.le_of_ble_eq_true rfl, Nat.le_of_ble_eq_true rfl⟩) rfl hl.1 rfl (lv_room (Nat.le_of_ble_eq_true rfl)) dX11_lacking_1 ⟨Nat.le_of_ble_eq_true rfl, Nat.le_of_ble_eq_true rfl⟩) hG (fun r_1 u_1 H locs hp_1 hG => ?_)
  subst hp_1
  refine lv_if_ne (tgt := 9) hF.1 hF.2.1 dX11_lacking_4 (by decide) (fun c_4 => ?_) (fun c_4 => ?_)
  · --
    have n_4 : (inB 8 d) = true := b2i_nz.mp c_4
    refine lv_aload_n hF.1 hF.2.1 dX11_lacking_9 rfl (lv_at hl 0 rfl) ?_
    refine lv_iload_n hF.1 hF.2.1 dX11_lacking_10 rfl (lv_at hl 1 rfl) ?_
    refine k_ci (r_V (As := [.int d]) hF hK hA hG (c_X11_holdsNothing hX) (cwV 1 hF.2.2.2.2 gX11_lacking_X11_holdsNothing rfl rfl rfl (by decide +kernel) ⟨Nat.le_of_ble_eq_true rfl, Nat.le_of_ble_eq_true rfl⟩) 6 rfl rfl rfl rfl hl.1 rfl (lv_room (Nat.le_of_ble_eq_true rfl)) dX11_lacking_11 ⟨Nat.le_of_ble_eq_true rfl, Nat.le_of_ble_eq_true rfl⟩) hG (fun r_11 u_11 H locs hp_11 hG => ?_)
    subst hp_11
    refine lv_if_eq (tgt := 22) hF.1 hF.2.1 dX11_lacking_14 (by decide) (fun c_14 => ?_) (fun c_14 => ?_)
    · --
      have n_14 : (hnB (sfA x d)) = false := b2i_z.mp c_14
      refine lv_bipush (v := (-12)) hF.1 hF.2.1 dX11_lacking_22 (by decide +kernel) ?_
      exact hret _ () _ ls _ _ _ _ (by first | exact (lk_f x n_4).symm | exact (lk_t x n_4 n_14).symm | exact (lk_s x n_14).symm) (by first | rfl | exact nar_b2i _) hG (Nat.le_of_ble_eq_true rfl) (Nat.le_of_ble_eq_true rfl) dX11_lacking_24
    · --
      have n_14 : (hnB (sfA x d)) = true := b2i_nz.mp c_14
      refine lv_bipush (v := (-11)) hF.1 hF.2.1 dX11_lacking_17 (by decide +kernel) ?_
      refine lv_goto (tgt := 24) hF.1 hF.2.1 dX11_lacking_19 (by decide) ?_
      exact hret _ () _ ls _ _ _ _ (by first | exact (lk_f x n_4).symm | exact (lk_t x n_4 n_14).symm | exact (lk_s x n_14).symm) (by first | rfl | exact nar_b2i _) hG (Nat.le_of_ble_eq_true rfl) (Nat.le_of_ble_eq_true rfl) dX11_lacking_24
  · --
    have n_4 : (inB 8 d) = false := b2i_z.mp c_4
    refine lv_iconst (v := (-1)) hF.1 hF.2.1 dX11_lacking_7 (by decide +kernel) ?_
    exact hret _ () _ ls _ _ _ _ (by first | exact (lk_f x n_4).symm | exact (lk_t x n_4 n_14).symm | exact (lk_s x n_14).symm) (by first | rfl | exact nar_b2i _) hG (Nat.le_of_ble_eq_true rfl) (Nat.le_of_ble_eq_true rfl) dX11_lacking_8

abbrev rmX11_bytesOn : Room := { frames := 2, cells := 0, slots := 0, locals := 41 }
set_option maxHeartbeats 4000000 in
set_option maxRecDepth 100000 in
theorem c_X11_bytesOn {l : Launch} {D : va_G} {cA : Nat → ClassId} {A : Nat → Prop}  {ob : Nat → Nat} {mb ss sh sp : Nat → Int32} {mt : Nat → Int64} {rc n o : Nat} {dr : Nat → Option Nat} {n1 o1 : Nat} {dr1 : Nat → Option Nat} {n2 o2 : Nat} {dr2 dk rk : Nat → Option Nat} {kt : Nat → Int32} {tk : Int32} {pool : va_W} {x : Nat → Sf} {P : Nat → Nat} (hX : SX cA pool dk rk x P) {d : Int32} : Met l yX11_bytesOn wsX11_bytesOn rmX11_bytesOn (va_Pc [.ref (ob 6), .int d] (Pre D cA A (XW cA ob mb ss sh sp mt rc n o dr n1 o1 dr1 n2 o2 dr2 dk rk kt tk pool))) (va_Qq (fun r _ => byP cA pool x P d r) (fun u t => Wd D A ((fun (_ : Unit) => XW cA ob mb ss sh sp mt rc n o dr n1 o1 dr1 n2 o2 dr2 dk rk kt tk pool) u) t) A) (0) (0) A := by
  refine k_ofq (S := Unit) (F := fun (_ : Unit) => XW cA ob mb ss sh sp mt rc n o dr n1 o1 dr1 n2 o2 dr2 dk rk kt tk pool) (cc := cX11_bytesOn) (maxL := 3) (by decide) rfl (Nat.le_of_ble_eq_true rfl) ?_
  intro p e s m args below meth c Q hF hini hK hA hG hret ls hl
  have hl : lv_has ls 3 [(0, .ref (ob 6)), (1, .int d)] := hl
  refine lv_aload_n hF.1 hF.2.1 dX11_bytesOn_0 rfl (lv_at hl 0 rfl) ?_
  refine lv_iload_n hF.1 hF.2.1 dX11_bytesOn_1 rfl (lv_at hl 1 rfl) ?_
  refine k_cq (r_V (As := [.int d]) hF hK hA hG (c_X11_rowOn) (cwV 1 hF.2.2.2.2 gX11_bytesOn_X11_rowOn rfl rfl rfl (by decide +kernel) ⟨Nat.le_of_ble_eq_true rfl, Nat.le_of_ble_eq_true rfl⟩) 6 rfl rfl rfl rfl hl.1 rfl (lv_room (Nat.le_of_ble_eq_true rfl)) dX11_bytesOn_2 ⟨Nat.le_of_ble_eq_true rfl, Nat.le_of_ble_eq_true rfl⟩) hG (fun r_2 u_2 H locs hp_2 hG => ?_)
  cases r_2 with
  | none =>
    show W p l e rmX11_bytesOn s m args below meth c _ _ _ _ Q (F0 m 5 ls (.null :: []))
    refine lv_astore_nN (lv' := [(2, .null), (0, .ref (ob 6)), (1, .int d)]) hF.1 hF.2.1 dX11_bytesOn_5 rfl hl (by decide) rfl (fun ls hl => ?_)
    refine lv_aload_nN hF.1 hF.2.1 dX11_bytesOn_6 rfl (lv_at hl 0 rfl) ?_
    refine lv_ifnullN (tgt := 21) hF.1 hF.2.1 dX11_bytesOn_7 (by decide) ?_
    refine lv_null hF.1 hF.2.1 dX11_bytesOn_21 ?_
    exact hret none _ () _ ls _ _ _ _ (by first | exact by_n (shR_n hX hp_2) | exact by_w hj hx n_14 | exact ⟨j, z, arr, qr, hj, rfl, hx, n_14, hR⟩) rfl hG (Nat.le_of_ble_eq_true rfl) (Nat.le_of_ble_eq_true rfl) dX11_bytesOn_22
  | some b =>
    obtain ⟨j, z, arr, qr, hj, rfl, hx, hR⟩ := shR_s hX hp_2
    have hz3 : z.1 < 3 := hR.2.2.2
    show W p l e rmX11_bytesOn s m args below meth c _ _ _ _ Q (F0 m 5 ls (.ref b :: []))
    refine lv_astore_n (lv' := [(2, .ref b), (0, .ref (ob 6)), (1, .int (nI j))]) hF.1 hF.2.1 dX11_bytesOn_5 rfl hl (by decide) rfl (fun ls hl => ?_)
    refine lv_aload_n hF.1 hF.2.1 dX11_bytesOn_6 rfl (lv_at hl 0 rfl) ?_
    refine lv_ifnull hF.1 hF.2.1 dX11_bytesOn_7 ?_
    refine lv_aload_n hF.1 hF.2.1 dX11_bytesOn_10 rfl (lv_at hl 0 rfl) ?_
    refine k_get (C := RX6) (T := TX6) (N := 3) hF hK hG (fun _ h => List.mem_cons_of_mem _ (List.mem_append_left _ (List.mem_append_right _ h))) (qr + 16) hR.c16.1 rfl 0 (by decide) (List.mem_of_getElem? (i := 1) rfl) (fun _ h9 => h9) rfl dX11_bytesOn_11 ?_
    refine lv_if_ne (tgt := 21) hF.1 hF.2.1 dX11_bytesOn_14 (by decide) (fun c_14 => ?_) (fun c_14 => ?_)
    · --
      have n_14 : ¬ (z.1 = 0) := fun zz9 => c_14 ((nI_eq (a := z.1) (b := 0) (by omega) (by omega)).mpr zz9)
      refine lv_null hF.1 hF.2.1 dX11_bytesOn_21 ?_
      exact hret none _ () _ ls _ _ _ _ (by first | exact by_n (shR_n hX hp_2) | exact by_w hj hx n_14 | exact ⟨j, z, arr, qr, hj, rfl, hx, n_14, hR⟩) rfl hG (Nat.le_of_ble_eq_true rfl) (Nat.le_of_ble_eq_true rfl) dX11_bytesOn_22
    · --
      have n_14 : z.1 = 0 := (nI_eq (a := z.1) (b := 0) (by omega) (by omega)).mp c_14
      refine lv_aload_n hF.1 hF.2.1 dX11_bytesOn_17 rfl (lv_at hl 0 rfl) ?_
      refine lv_goto (tgt := 22) hF.1 hF.2.1 dX11_bytesOn_18 (by decide) ?_
      exact hret (some b) _ () _ ls _ _ _ _ (by first | exact by_n (shR_n hX hp_2) | exact by_w hj hx n_14 | exact ⟨j, z, arr, qr, hj, rfl, hx, n_14, hR⟩) rfl hG (Nat.le_of_ble_eq_true rfl) (Nat.le_of_ble_eq_true rfl) dX11_bytesOn_22
