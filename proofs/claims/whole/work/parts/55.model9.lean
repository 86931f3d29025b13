def farC (P : Nat → Int32) : Nat → Nat
  | 0 => 0
  | k + 1 => farC P k + (if P k < 0 then 0 else 1)
def farM (P : Nat → Int32) : Nat → Nat × Int32
  | 0 => (0, -1)
  | k + 1 => if (farM P k).2 < P k then (k, P k) else farM P k
theorem farC_t {P : Nat → Int32} {k : Nat} (h : ¬ P k < 0) : farC P (k + 1) = farC P k + 1 := by
  show farC P k + (if P k < 0 then 0 else 1) = _
  rw [if_neg h]
theorem farC_f {P : Nat → Int32} {k : Nat} (h : P k < 0) : farC P (k + 1) = farC P k + 0 := by
  show farC P k + (if P k < 0 then 0 else 1) = _
  rw [if_pos h]
theorem farM_t {P : Nat → Int32} {k : Nat} (h : (farM P k).2 < P k) : farM P (k + 1) = (k, P k) := by
  show (if (farM P k).2 < P k then (k, P k) else farM P k) = _
  rw [if_pos h]
theorem farM_f {P : Nat → Int32} {k : Nat} (h : ¬ (farM P k).2 < P k) : farM P (k + 1) = farM P k := by
  show (if (farM P k).2 < P k then (k, P k) else farM P k) = _
  rw [if_neg h]
def farI (P : Nat → Int32) (K : Nat) (what : Int32) : Int32 := if what = nI 0 then nI (farC P K) else if what = nI 1 then (farM P K).2 else nI (farM P K).1
def spFar (n o : Nat) (kd fg : Nat → Nat) (what r : Int32) : Prop := if inB 3 what = true then ∃ P : Nat → Int32, (∀ z, z < 2 ^ n → DS n kd fg o z (P z)) ∧ r = farI P (2 ^ n) what else r = -1
def nevU (n : Nat) (kd fg : Nat → Nat) (P : Nat → Int32) : Nat → Nat
  | 0 => 2 ^ n - 1
  | k + 1 => if P k < 0 then nevU n kd fg P k else nevU n kd fg P k &&& (63 - mayU kd fg k n)
theorem nevU_t {n k : Nat} {kd fg : Nat → Nat} {P : Nat → Int32} (h : P k < 0) : nevU n kd fg P (k + 1) = nevU n kd fg P k := by
  show (if P k < 0 then _ else _) = _
  rw [if_pos h]
theorem nevU_f {n k : Nat} {kd fg : Nat → Nat} {P : Nat → Int32} (h : ¬ P k < 0) : nevU n kd fg P (k + 1) = nevU n kd fg P k &&& (63 - mayU kd fg k n) := by
  show (if P k < 0 then nevU n kd fg P k else nevU n kd fg P k &&& (63 - mayU kd fg k n)) = _
  rw [if_neg h]
theorem nevU_lt {n : Nat} {kd fg : Nat → Nat} {P : Nat → Int32} (hn : n ≤ 6) : ∀ k, nevU n kd fg P k < 64 := by
  have h1 : 2 ^ n ≤ 2 ^ 6 := Nat.pow_le_pow_right (by decide) hn
  have h2 : 1 ≤ 2 ^ n := Nat.one_le_two_pow
  intro k
  induction k with
  | zero =>
    show 2 ^ n - 1 < 64
    omega
  | succ k ih =>
    by_cases h : P k < 0
    · rw [nevU_t h]
      exact ih
    · rw [nevU_f h]
      exact Nat.lt_of_le_of_lt Nat.and_le_left ih
theorem and_not {a b : Nat} (ha : a < 64) (hb : b < 64) : nI a &&& (nI b ^^^ (-1)) = nI (a &&& (63 - b)) := by
  apply fin2 64 64 a b ha hb
  decide +kernel
def spNever (n o : Nat) (kd fg : Nat → Nat) (r : Int32) : Prop := ∃ P : Nat → Int32, (∀ z, z < 2 ^ n → DS n kd fg o z (P z)) ∧ r = nI (nevU n kd fg P (2 ^ n))
/-- the least standing that k pulls are to -/
def ATK (n : Nat) (kd fg : Nat → Nat) (k r : Int32) : Prop := (r = -4 ∧ ∀ z, z < 2 ^ n → ¬ DS n kd fg (2 ^ n - 1) z k) ∨ ∃ z, z < 2 ^ n ∧ r = nI z ∧ DS n kd fg (2 ^ n - 1) z k ∧ ∀ y, y < z → ¬ DS n kd fg (2 ^ n - 1) y k
def spAt (n : Nat) (kd fg : Nat → Nat) (k r : Int32) : Prop := if k < 0 then r = -1 else if joi n kd = true then ATK n kd fg k r else r = -3
abbrev rmX12_far : Room := { frames := 3, cells := 0, slots := 0, locals := 71 }
set_option maxHeartbeats 4000000 in
set_option maxRecDepth 100000 in
theorem c_X12_far {l : Launch} {D : va_G} {cA : Nat → ClassId} {A : Nat → Prop}  {ob : Nat → Nat} {aS aI aR aM aK aT aZ aE aD aF aN aP aH : Nat → Int32} {vH vT vP vB vE vS : Int32} {n o : Nat} {kd fg : Nat → Nat} (hS : SR aS n o kd fg) {what : Int32} : Met l yX12_far wsX12_far rmX12_far (va_Pc [.ref (ob 0), .int what] (Pre D cA A (MW cA ob aS aI aR aM aK aT aZ aE aD aF aN aP aH vH vT vP vB vE vS))) (va_Qi (fun r (_ : Nat → Int32) => spFar n o kd fg what r) (fun u t => Wd D A ((fun (u : Nat → Int32) => MW cA ob aS aI aR aM aK aT aZ aE aD aF aN u aH vH vT vP vB vE vS) u) t) A) (0) (0) A := by
  refine k_ofi (S := Nat → Int32) (F := fun (u : Nat → Int32) => MW cA ob aS aI aR aM aK aT aZ aE aD aF aN u aH vH vT vP vB vE vS) (cc := cX12_far) (maxL := 6) (by decide) rfl (Nat.le_of_ble_eq_true rfl) ?_
  intro p e s m args below meth c Q hF hini hK hA hG hret ls hl
  have hl : lv_has ls 6 [(0, .ref (ob 0)), (1, .int what)] := hl
  have hn : n ≤ 6 := hS.2.2.1
  have ho : o < 64 := hS.o64
  have hp2 : 2 ^ n ≤ 64 := Nat.pow_le_pow_right (by decide) hn
  have hp1 : 1 ≤ 2 ^ n := Nat.one_le_two_pow
  refine lv_iload_n hF.1 hF.2.1 dX12_far_0 rfl (lv_at hl 1 rfl) ?_
  refine lv_i2l hF.1 hF.2.1 dX12_far_1 rfl ?_
  refine lv_lconst (v := 0) hF.1 hF.2.1 dX12_far_2 (by decide +kernel) ?_
  refine lv_ldc2 hF.1 hF.2.1 (own := RX12) hF.2.2.2.1 (hF.2.2.2.2 _ (List.mem_of_getElem? (i := 1) rfl)) dX12_far_3 ?_
  refine k_ci (r_S (As := [.long (what.toInt64), .long (0), .long (2)]) hF hK hA hG (c_X12_isIn) (cwS 3 hF.2.2.2.2 gX12_far_X12_isIn rfl rfl rfl (by decide +kernel) ⟨Nat.le_of_ble_eq_true rfl, Nat.le_of_ble_eq_true rfl⟩) rfl hl.1 rfl (lv_room (Nat.le_of_ble_eq_true rfl)) dX12_far_6 ⟨Nat.le_of_ble_eq_true rfl, Nat.le_of_ble_eq_true rfl⟩) hG (fun r_6 u_6 H locs hp_6 hG => ?_)
  rw [inL (n := 3) (by omega) (by decide +kernel)] at hp_6
  subst hp_6
  refine lv_if_ne (tgt := 14) hF.1 hF.2.1 dX12_far_9 (by decide) (fun c_9 => ?_) (fun c_9 => ?_)
  · --
    have n_9 := b2i_nz.mp c_9
    refine lv_aload_n hF.1 hF.2.1 dX12_far_14 rfl (lv_at hl 0 rfl) ?_
    refine lv_aload_n hF.1 hF.2.1 dX12_far_15 rfl (lv_at hl 0 rfl) ?_
    refine k_get (C := RX12) (T := TX12) (N := 19) hF hK hG (fun _ h => List.mem_cons_of_mem _ (List.mem_append_right _ h)) 0 rfl rfl 0 (by decide) (List.mem_of_getElem? (i := 2) rfl) (fun _ h9 => h9) rfl dX12_far_16 ?_
    refine lv_iconst (v := (nI 1)) hF.1 hF.2.1 dX12_far_19 (by decide +kernel) ?_
    refine k_ialdN hF hK hG 1 rfl (1) rfl (by omega) (by omega) dX12_far_20 ?_
    rw [hS.2.1]
    refine k_cv (r_V (As := [.int (nI o)]) hF hK hA hG (c_X12_findsPulls hS hS.2.2.2.1) (cwV 1 hF.2.2.2.2 gX12_far_X12_findsPulls rfl rfl rfl (by decide +kernel) ⟨Nat.le_of_ble_eq_true rfl, Nat.le_of_ble_eq_true rfl⟩) 0 rfl rfl rfl rfl hl.1 rfl (lv_room (Nat.le_of_ble_eq_true rfl)) dX12_far_21 ⟨Nat.le_of_ble_eq_true rfl, Nat.le_of_ble_eq_true rfl⟩) hG (fun u_21 H locs hp_21 hG => ?_)
    refine lv_iconst (v := (nI 0)) hF.1 hF.2.1 dX12_far_24 (by decide +kernel) ?_
    refine lv_istore_n (lv' := [(2, .int (nI 0)), (0, .ref (ob 0)), (1, .int what)]) hF.1 hF.2.1 dX12_far_25 rfl hl (by decide) rfl (fun ls hl => ?_)
    refine lv_iconst (v := (nI 0)) hF.1 hF.2.1 dX12_far_26 (by decide +kernel) ?_
    refine lv_istore_n (lv' := [(3, .int (nI 0)), (2, .int (nI 0)), (0, .ref (ob 0)), (1, .int what)]) hF.1 hF.2.1 dX12_far_27 rfl hl (by decide) rfl (fun ls hl => ?_)
    refine lv_iconst (v := (-1)) hF.1 hF.2.1 dX12_far_28 (by decide +kernel) ?_
    refine lv_istore (lv' := [(4, .int (-1)), (3, .int (nI 0)), (2, .int (nI 0)), (0, .ref (ob 0)), (1, .int what)]) hF.1 hF.2.1 dX12_far_29 hl (by decide) rfl (fun ls hl => ?_)
    refine lv_iconst (v := (nI 0)) hF.1 hF.2.1 dX12_far_31 (by decide +kernel) ?_
    refine lv_istore (lv' := [(5, .int (nI 0)), (4, .int (-1)), (3, .int (nI 0)), (2, .int (nI 0)), (0, .ref (ob 0)), (1, .int what)]) hF.1 hF.2.1 dX12_far_32 hl (by decide) rfl (fun ls hl => ?_)
    have lp34 : ∀ (fuel : Nat), ∀ (k : Nat), (hk : k ≤ 2 ^ n) → (2 ^ n - k) < fuel → ∀ (H : Heap) (locs : List Loc), Gd D A (MW cA ob aS aI aR aM aK aT aZ aE aD aF aN u_21 aH vH vT vP vB vE vS) s.heap H locs → ∀ ls : Array Slot, lv_has ls 6 [(0, .ref (ob 0)), (1, .int what), (2, .int (nI (farC u_21 k))), (3, .int (nI ((farM u_21 k).1))), (4, .int (farM u_21 k).2), (5, .int (nI k))] → W p l e rmX12_far s m args below meth c H locs (0) (0) Q (F0 m 34 ls []) := by
      intro fuel
      induction fuel with
      | zero => intro k hk hmu; exact absurd hmu (Nat.not_lt_zero _)
      | succ fuel ih34 =>
        intro k hk hmu H locs hG ls hl
        refine lv_iload hF.1 hF.2.1 dX12_far_34 (lv_at hl 5 rfl) ?_
        refine lv_aload_n hF.1 hF.2.1 dX12_far_36 rfl (lv_at hl 0 rfl) ?_
        refine k_ci (r_V (As := []) hF hK hA hG (c_X12_everything hS) (cwV 0 hF.2.2.2.2 gX12_far_X12_everything rfl rfl rfl (by decide +kernel) ⟨Nat.le_of_ble_eq_true rfl, Nat.le_of_ble_eq_true rfl⟩) 0 rfl rfl rfl rfl hl.1 rfl (lv_room (Nat.le_of_ble_eq_true rfl)) dX12_far_37 ⟨Nat.le_of_ble_eq_true rfl, Nat.le_of_ble_eq_true rfl⟩) hG (fun r_37 u_37 H locs hp_37 hG => ?_)
        subst hp_37
        refine lv_icmp_gt (tgt := 94) hF.1 hF.2.1 dX12_far_40 (by decide) (fun c_40 => ?_) (fun c_40 => ?_)
        · --
          have n_40 : 2 ^ n - 1 < k := (nI_ltI (a := 2 ^ n - 1) (b := k) (by omega) (by omega)).mp c_40
          refine lv_iload_n hF.1 hF.2.1 dX12_far_94 rfl (lv_at hl 1 rfl) ?_
          refine lv_if_ne (tgt := 102) hF.1 hF.2.1 dX12_far_95 (by decide) (fun c_95 => ?_) (fun c_95 => ?_)
          · --
            replace c_95 : ¬ what = nI 0 := c_95
            refine lv_iload_n hF.1 hF.2.1 dX12_far_102 rfl (lv_at hl 1 rfl) ?_
            refine lv_iconst (v := (nI 1)) hF.1 hF.2.1 dX12_far_103 (by decide +kernel) ?_
            refine lv_icmp_ne (tgt := 112) hF.1 hF.2.1 dX12_far_104 (by decide) (fun c_104 => ?_) (fun c_104 => ?_)
            · --
              refine lv_iload_n hF.1 hF.2.1 dX12_far_112 rfl (lv_at hl 3 rfl) ?_
              exact hret _ u_21 _ ls _ _ _ _ (by unfold spFar; rw [if_pos n_9]; refine ⟨u_21, hp_21, ?_⟩; rw [← show k = 2 ^ n by omega]; unfold farI; first | rw [if_pos c_95] | (rw [if_neg c_95]; first | rw [if_pos c_104] | rw [if_neg c_104])) (by first | rfl | exact nar_b2i _) hG (Nat.le_of_ble_eq_true rfl) (Nat.le_of_ble_eq_true rfl) dX12_far_113
            · --
              refine lv_iload hF.1 hF.2.1 dX12_far_107 (lv_at hl 4 rfl) ?_
              refine lv_goto (tgt := 113) hF.1 hF.2.1 dX12_far_109 (by decide) ?_
              exact hret _ u_21 _ ls _ _ _ _ (by unfold spFar; rw [if_pos n_9]; refine ⟨u_21, hp_21, ?_⟩; rw [← show k = 2 ^ n by omega]; unfold farI; first | rw [if_pos c_95] | (rw [if_neg c_95]; first | rw [if_pos c_104] | rw [if_neg c_104])) (by first | rfl | exact nar_b2i _) hG (Nat.le_of_ble_eq_true rfl) (Nat.le_of_ble_eq_true rfl) dX12_far_113
          · --
            replace c_95 : what = nI 0 := c_95
            refine lv_iload_n hF.1 hF.2.1 dX12_far_98 rfl (lv_at hl 2 rfl) ?_
            refine lv_goto (tgt := 113) hF.1 hF.2.1 dX12_far_99 (by decide) ?_
            exact hret _ u_21 _ ls _ _ _ _ (by unfold spFar; rw [if_pos n_9]; refine ⟨u_21, hp_21, ?_⟩; rw [← show k = 2 ^ n by omega]; unfold farI; first | rw [if_pos c_95] | (rw [if_neg c_95]; first | rw [if_pos c_104] | rw [if_neg c_104])) (by first | rfl | exact nar_b2i _) hG (Nat.le_of_ble_eq_true rfl) (Nat.le_of_ble_eq_true rfl) dX12_far_113
        · --
          have n_40 : ¬ (2 ^ n - 1 < k) := fun zz9 => c_40 ((nI_ltI (a := 2 ^ n - 1) (b := k) (by omega) (by omega)).mpr zz9)
          refine lv_iload_n hF.1 hF.2.1 dX12_far_43 rfl (lv_at hl 2 rfl) ?_
          refine lv_aload_n hF.1 hF.2.1 dX12_far_44 rfl (lv_at hl 0 rfl) ?_
          refine k_get (C := RX12) (T := TX12) (N := 19) hF hK hG (fun _ h => List.mem_cons_of_mem _ (List.mem_append_right _ h)) 0 rfl rfl 16 (by decide) (List.mem_of_getElem? (i := 3) rfl) (fun _ h9 => h9) rfl dX12_far_45 ?_
          refine lv_iload hF.1 hF.2.1 dX12_far_48 (lv_at hl 5 rfl) ?_
          refine k_ialdN hF hK hG 12 rfl (k) rfl (by omega) (by omega) dX12_far_50 ?_
          refine lv_if_lt (tgt := 58) hF.1 hF.2.1 dX12_far_51 (by decide) (fun c_51 => ?_) (fun c_51 => ?_)
          · --
            refine lv_iconst (v := (nI 0)) hF.1 hF.2.1 dX12_far_58 (by decide +kernel) ?_
            refine lv_iadd hF.1 hF.2.1 dX12_far_59 ?_
            rw [nI_add]
            refine lv_istore_n (lv' := [(2, .int (nI (farC u_21 k + 0))), (0, .ref (ob 0)), (1, .int what), (3, .int (nI ((farM u_21 k).1))), (4, .int (farM u_21 k).2), (5, .int (nI k))]) hF.1 hF.2.1 dX12_far_60 rfl hl (by decide) rfl (fun ls hl => ?_)
            refine lv_aload_n hF.1 hF.2.1 dX12_far_61 rfl (lv_at hl 1 rfl) ?_
            refine k_get (C := RX12) (T := TX12) (N := 19) hF hK hG (fun _ h => List.mem_cons_of_mem _ (List.mem_append_right _ h)) 0 rfl rfl 16 (by decide) (List.mem_of_getElem? (i := 3) rfl) (fun _ h9 => h9) rfl dX12_far_62 ?_
            refine lv_iload hF.1 hF.2.1 dX12_far_65 (lv_at hl 5 rfl) ?_
            refine k_ialdN hF hK hG 12 rfl (k) rfl (by omega) (by omega) dX12_far_67 ?_
            refine lv_iload hF.1 hF.2.1 dX12_far_68 (lv_at hl 4 rfl) ?_
            refine lv_icmp_gt (tgt := 76) hF.1 hF.2.1 dX12_far_70 (by decide) (fun c_70 => ?_) (fun c_70 => ?_)
            · --
              refine lv_iload hF.1 hF.2.1 dX12_far_76 (lv_at hl 5 rfl) ?_
              refine lv_istore_n (lv' := [(3, .int (nI k)), (2, .int (nI (farC u_21 k + 0))), (0, .ref (ob 0)), (1, .int what), (4, .int (farM u_21 k).2), (5, .int (nI k))]) hF.1 hF.2.1 dX12_far_78 rfl hl (by decide) rfl (fun ls hl => ?_)
              refine lv_aload_n hF.1 hF.2.1 dX12_far_79 rfl (lv_at hl 2 rfl) ?_
              refine k_get (C := RX12) (T := TX12) (N := 19) hF hK hG (fun _ h => List.mem_cons_of_mem _ (List.mem_append_right _ h)) 0 rfl rfl 16 (by decide) (List.mem_of_getElem? (i := 3) rfl) (fun _ h9 => h9) rfl dX12_far_80 ?_
              refine lv_iload hF.1 hF.2.1 dX12_far_83 (lv_at hl 5 rfl) ?_
              refine k_ialdN hF hK hG 12 rfl (k) rfl (by omega) (by omega) dX12_far_85 ?_
              refine lv_istore (lv' := [(4, .int (u_21 k)), (3, .int (nI k)), (2, .int (nI (farC u_21 k + 0))), (0, .ref (ob 0)), (1, .int what), (5, .int (nI k))]) hF.1 hF.2.1 dX12_far_86 hl (by decide) rfl (fun ls hl => ?_)
              refine lv_iinc (v := (nI (k + 1))) (lv' := [(5, .int (nI (k + 1))), (4, .int (u_21 k)), (3, .int (nI k)), (2, .int (nI (farC u_21 k + 0))), (0, .ref (ob 0)), (1, .int what)]) hF.1 hF.2.1 dX12_far_88 hl (k := 5) rfl (nI_inc _ _) (by decide) rfl (fun ls hl => ?_)
              refine lv_goto (tgt := 34) hF.1 hF.2.1 dX12_far_91 (by decide) ?_
              exact ih34 (k + 1) (by omega) (by omega) _ _ hG ls (lv_sub hl [4, 5, 3, 2, 1, 0] (by first | (rw [farC_t c_51, farM_t c_70]; rfl) | (rw [farC_t c_51, farM_f c_70]; rfl) | (rw [farC_f c_51, farM_t c_70]; rfl) | (rw [farC_f c_51, farM_f c_70]; rfl)))
            · --
              refine lv_goto (tgt := 88) hF.1 hF.2.1 dX12_far_73 (by decide) ?_
              refine lv_iinc (v := (nI (k + 1))) (lv' := [(5, .int (nI (k + 1))), (2, .int (nI (farC u_21 k + 0))), (0, .ref (ob 0)), (1, .int what), (3, .int (nI ((farM u_21 k).1))), (4, .int (farM u_21 k).2)]) hF.1 hF.2.1 dX12_far_88 hl (k := 5) rfl (nI_inc _ _) (by decide) rfl (fun ls hl => ?_)
              refine lv_goto (tgt := 34) hF.1 hF.2.1 dX12_far_91 (by decide) ?_
              exact ih34 (k + 1) (by omega) (by omega) _ _ hG ls (lv_sub hl [2, 3, 1, 4, 5, 0] (by first | (rw [farC_t c_51, farM_t c_70]; rfl) | (rw [farC_t c_51, farM_f c_70]; rfl) | (rw [farC_f c_51, farM_t c_70]; rfl) | (rw [farC_f c_51, farM_f c_70]; rfl)))
          · --
            refine lv_iconst (v := (nI 1)) hF.1 hF.2.1 dX12_far_54 (by decide +kernel) ?_
            refine lv_goto (tgt := 59) hF.1 hF.2.1 dX12_far_55 (by decide) ?_
            refine lv_iadd hF.1 hF.2.1 dX12_far_59 ?_
            rw [nI_add]
            refine lv_istore_n (lv' := [(2, .int (nI (farC u_21 k + 1))), (0, .ref (ob 0)), (1, .int what), (3, .int (nI ((farM u_21 k).1))), (4, .int (farM u_21 k).2), (5, .int (nI k))]) hF.1 hF.2.1 dX12_far_60 rfl hl (by decide) rfl (fun ls hl => ?_)
            refine lv_aload_n hF.1 hF.2.1 dX12_far_61 rfl (lv_at hl 1 rfl) ?_
            refine k_get (C := RX12) (T := TX12) (N := 19) hF hK hG (fun _ h => List.mem_cons_of_mem _ (List.mem_append_right _ h)) 0 rfl rfl 16 (by decide) (List.mem_of_getElem? (i := 3) rfl) (fun _ h9 => h9) rfl dX12_far_62 ?_
            refine lv_iload hF.1 hF.2.1 dX12_far_65 (lv_at hl 5 rfl) ?_
            refine k_ialdN hF hK hG 12 rfl (k) rfl (by omega) (by omega) dX12_far_67 ?_
            refine lv_iload hF.1 hF.2.1 dX12_far_68 (lv_at hl 4 rfl) ?_
            refine lv_icmp_gt (tgt := 76) hF.1 hF.2.1 dX12_far_70 (by decide) (fun c_70 => ?_) (fun c_70 => ?_)
            · --
              refine lv_iload hF.1 hF.2.1 dX12_far_76 (lv_at hl 5 rfl) ?_
              refine lv_istore_n (lv' := [(3, .int (nI k)), (2, .int (nI (farC u_21 k + 1))), (0, .ref (ob 0)), (1, .int what), (4, .int (farM u_21 k).2), (5, .int (nI k))]) hF.1 hF.2.1 dX12_far_78 rfl hl (by decide) rfl (fun ls hl => ?_)
              refine lv_aload_n hF.1 hF.2.1 dX12_far_79 rfl (lv_at hl 2 rfl) ?_
              refine k_get (C := RX12) (T := TX12) (N := 19) hF hK hG (fun _ h => List.mem_cons_of_mem _ (List.mem_append_right _ h)) 0 rfl rfl 16 (by decide) (List.mem_of_getElem? (i := 3) rfl) (fun _ h9 => h9) rfl dX12_far_80 ?_
              refine lv_iload hF.1 hF.2.1 dX12_far_83 (lv_at hl 5 rfl) ?_
              refine k_ialdN hF hK hG 12 rfl (k) rfl (by omega) (by omega) dX12_far_85 ?_
              refine lv_istore (lv' := [(4, .int (u_21 k)), (3, .int (nI k)), (2, .int (nI (farC u_21 k + 1))), (0, .ref (ob 0)), (1, .int what), (5, .int (nI k))]) hF.1 hF.2.1 dX12_far_86 hl (by decide) rfl (fun ls hl => ?_)
              refine lv_iinc (v := (nI (k + 1))) (lv' := [(5, .int (nI (k + 1))), (4, .int (u_21 k)), (3, .int (nI k)), (2, .int (nI (farC u_21 k + 1))), (0, .ref (ob 0)), (1, .int what)]) hF.1 hF.2.1 dX12_far_88 hl (k := 5) rfl (nI_inc _ _) (by decide) rfl (fun ls hl => ?_)
              refine lv_goto (tgt := 34) hF.1 hF.2.1 dX12_far_91 (by decide) ?_
              exact ih34 (k + 1) (by omega) (by omega) _ _ hG ls (lv_sub hl [4, 5, 3, 2, 1, 0] (by first | (rw [farC_t c_51, farM_t c_70]; rfl) | (rw [farC_t c_51, farM_f c_70]; rfl) | (rw [farC_f c_51, farM_t c_70]; rfl) | (rw [farC_f c_51, farM_f c_70]; rfl)))
            · --
              refine lv_goto (tgt := 88) hF.1 hF.2.1 dX12_far_73 (by decide) ?_
              refine lv_iinc (v := (nI (k + 1))) (lv' := [(5, .int (nI (k + 1))), (2, .int (nI (farC u_21 k + 1))), (0, .ref (ob 0)), (1, .int what), (3, .int (nI ((farM u_21 k).1))), (4, .int (farM u_21 k).2)]) hF.1 hF.2.1 dX12_far_88 hl (k := 5) rfl (nI_inc _ _) (by decide) rfl (fun ls hl => ?_)
              refine lv_goto (tgt := 34) hF.1 hF.2.1 dX12_far_91 (by decide) ?_
              exact ih34 (k + 1) (by omega) (by omega) _ _ hG ls (lv_sub hl [2, 3, 1, 4, 5, 0] (by first | (rw [farC_t c_51, farM_t c_70]; rfl) | (rw [farC_t c_51, farM_f c_70]; rfl) | (rw [farC_f c_51, farM_t c_70]; rfl) | (rw [farC_f c_51, farM_f c_70]; rfl)))
    exact lp34 _ (0) (by omega) (Nat.lt_succ_self _) _ _ hG ls (lv_sub hl [4, 5, 3, 2, 1, 0] rfl)
  · --
    have n_9 := b2i_z.mp c_9
    refine lv_iconst (v := (-1)) hF.1 hF.2.1 dX12_far_12 (by decide +kernel) ?_
    exact hret _ aP _ ls _ _ _ _ (by unfold spFar; rw [n_9]; rfl) (by first | rfl | exact nar_b2i _) hG (Nat.le_of_ble_eq_true rfl) (Nat.le_of_ble_eq_true rfl) dX12_far_13

abbrev rmX12_never : Room := { frames := 3, cells := 0, slots := 0, locals := 71 }
set_option maxHeartbeats 4000000 in
set_option maxRecDepth 100000 in
theorem c_X12_never {l : Launch} {D : va_G} {cA : Nat → ClassId} {A : Nat → Prop}  {ob : Nat → Nat} {aS aI aR aM aK aT aZ aE aD aF aN aP aH : Nat → Int32} {vH vT vP vB vE vS : Int32} {n o : Nat} {kd fg : Nat → Nat} (hS : SR aS n o kd fg) : Met l yX12_never wsX12_never rmX12_never (va_Pc [.ref (ob 0)] (Pre D cA A (MW cA ob aS aI aR aM aK aT aZ aE aD aF aN aP aH vH vT vP vB vE vS))) (va_Qi (fun r (_ : Nat → Int32) => spNever n o kd fg r) (fun u t => Wd D A ((fun (u : Nat → Int32) => MW cA ob aS aI aR aM aK aT aZ aE aD aF aN u aH vH vT vP vB vE vS) u) t) A) (0) (0) A := by
  refine k_ofi (S := Nat → Int32) (F := fun (u : Nat → Int32) => MW cA ob aS aI aR aM aK aT aZ aE aD aF aN u aH vH vT vP vB vE vS) (cc := cX12_never) (maxL := 3) (by decide) rfl (Nat.le_of_ble_eq_true rfl) ?_
  intro p e s m args below meth c Q hF hini hK hA hG hret ls hl
  have hl : lv_has ls 3 [(0, .ref (ob 0))] := hl
  have hn : n ≤ 6 := hS.2.2.1
  have ho : o < 64 := hS.o64
  have hp2 : 2 ^ n ≤ 64 := Nat.pow_le_pow_right (by decide) hn
  have hp1 : 1 ≤ 2 ^ n := Nat.one_le_two_pow
  refine lv_aload_n hF.1 hF.2.1 dX12_never_0 rfl (lv_at hl 0 rfl) ?_
  refine lv_aload_n hF.1 hF.2.1 dX12_never_1 rfl (lv_at hl 0 rfl) ?_
  refine k_get (C := RX12) (T := TX12) (N := 19) hF hK hG (fun _ h => List.mem_cons_of_mem _ (List.mem_append_right _ h)) 0 rfl rfl 0 (by decide) (List.mem_of_getElem? (i := 1) rfl) (fun _ h9 => h9) rfl dX12_never_2 ?_
  refine lv_iconst (v := (nI 1)) hF.1 hF.2.1 dX12_never_5 (by decide +kernel) ?_
  refine k_ialdN hF hK hG 1 rfl (1) rfl (by omega) (by omega) dX12_never_6 ?_
  rw [hS.2.1]
  refine k_cv (r_V (As := [.int (nI o)]) hF hK hA hG (c_X12_findsPulls hS hS.2.2.2.1) (cwV 1 hF.2.2.2.2 gX12_never_X12_findsPulls rfl rfl rfl (by decide +kernel) ⟨Nat.le_of_ble_eq_true rfl, Nat.le_of_ble_eq_true rfl⟩) 0 rfl rfl rfl rfl hl.1 rfl (lv_room (Nat.le_of_ble_eq_true rfl)) dX12_never_7 ⟨Nat.le_of_ble_eq_true rfl, Nat.le_of_ble_eq_true rfl⟩) hG (fun u_7 H locs hp_7 hG => ?_)
  refine lv_aload_n hF.1 hF.2.1 dX12_never_10 rfl (lv_at hl 0 rfl) ?_
  refine k_ci (r_V (As := []) hF hK hA hG (c_X12_everything hS) (cwV 0 hF.2.2.2.2 gX12_never_X12_everything rfl rfl rfl (by decide +kernel) ⟨Nat.le_of_ble_eq_true rfl, Nat.le_of_ble_eq_true rfl⟩) 0 rfl rfl rfl rfl hl.1 rfl (lv_room (Nat.le_of_ble_eq_true rfl)) dX12_never_11 ⟨Nat.le_of_ble_eq_true rfl, Nat.le_of_ble_eq_true rfl⟩) hG (fun r_11 u_11 H locs hp_11 hG => ?_)
  subst hp_11
  refine lv_istore_n (lv' := [(1, .int (nI (2 ^ n - 1))), (0, .ref (ob 0))]) hF.1 hF.2.1 dX12_never_14 rfl hl (by decide) rfl (fun ls hl => ?_)
  refine lv_iconst (v := (nI 0)) hF.1 hF.2.1 dX12_never_15 (by decide +kernel) ?_
  refine lv_istore_n (lv' := [(2, .int (nI 0)), (1, .int (nI (2 ^ n - 1))), (0, .ref (ob 0))]) hF.1 hF.2.1 dX12_never_16 rfl hl (by decide) rfl (fun ls hl => ?_)
  have lp17 : ∀ (fuel : Nat), ∀ (k : Nat), (hk : k ≤ 2 ^ n) → (2 ^ n - k) < fuel → ∀ (H : Heap) (locs : List Loc), Gd D A (MW cA ob aS aI aR aM aK aT aZ aE aD aF aN u_7 aH vH vT vP vB vE vS) s.heap H locs → ∀ ls : Array Slot, lv_has ls 3 [(0, .ref (ob 0)), (1, .int (nI (nevU n kd fg u_7 k))), (2, .int (nI k))] → W p l e rmX12_never s m args below meth c H locs (0) (0) Q (F0 m 17 ls []) := by
    intro fuel
    induction fuel with
    | zero => intro k hk hmu; exact absurd hmu (Nat.not_lt_zero _)
    | succ fuel ih17 =>
      intro k hk hmu H locs hG ls hl
      refine lv_iload_n hF.1 hF.2.1 dX12_never_17 rfl (lv_at hl 2 rfl) ?_
      refine lv_aload_n hF.1 hF.2.1 dX12_never_18 rfl (lv_at hl 0 rfl) ?_
      refine k_ci (r_V (As := []) hF hK hA hG (c_X12_everything hS) (cwV 0 hF.2.2.2.2 gX12_never_X12_everything rfl rfl rfl (by decide +kernel) ⟨Nat.le_of_ble_eq_true rfl, Nat.le_of_ble_eq_true rfl⟩) 0 rfl rfl rfl rfl hl.1 rfl (lv_room (Nat.le_of_ble_eq_true rfl)) dX12_never_19 ⟨Nat.le_of_ble_eq_true rfl, Nat.le_of_ble_eq_true rfl⟩) hG (fun r_19 u_19 H locs hp_19 hG => ?_)
      subst hp_19
      refine lv_icmp_gt (tgt := 50) hF.1 hF.2.1 dX12_never_22 (by decide) (fun c_22 => ?_) (fun c_22 => ?_)
      · --
        have n_22 : 2 ^ n - 1 < k := (nI_ltI (a := 2 ^ n - 1) (b := k) (by omega) (by omega)).mp c_22
        refine lv_iload_n hF.1 hF.2.1 dX12_never_50 rfl (lv_at hl 1 rfl) ?_
        exact hret _ u_7 _ ls _ _ _ _ (by refine ⟨u_7, hp_7, ?_⟩; rw [← show k = 2 ^ n by omega]) (by first | rfl | exact nar_b2i _) hG (Nat.le_of_ble_eq_true rfl) (Nat.le_of_ble_eq_true rfl) dX12_never_51
      · --
        have n_22 : ¬ (2 ^ n - 1 < k) := fun zz9 => c_22 ((nI_ltI (a := 2 ^ n - 1) (b := k) (by omega) (by omega)).mpr zz9)
        refine lv_aload_n hF.1 hF.2.1 dX12_never_25 rfl (lv_at hl 0 rfl) ?_
        refine k_get (C := RX12) (T := TX12) (N := 19) hF hK hG (fun _ h => List.mem_cons_of_mem _ (List.mem_append_right _ h)) 0 rfl rfl 16 (by decide) (List.mem_of_getElem? (i := 2) rfl) (fun _ h9 => h9) rfl dX12_never_26 ?_
        refine lv_iload_n hF.1 hF.2.1 dX12_never_29 rfl (lv_at hl 2 rfl) ?_
        refine k_ialdN hF hK hG 12 rfl (k) rfl (by omega) (by omega) dX12_never_30 ?_
        refine lv_if_lt (tgt := 44) hF.1 hF.2.1 dX12_never_31 (by decide) (fun c_31 => ?_) (fun c_31 => ?_)
        · --
          refine lv_iinc (v := (nI (k + 1))) (lv' := [(2, .int (nI (k + 1))), (0, .ref (ob 0)), (1, .int (nI (nevU n kd fg u_7 k)))]) hF.1 hF.2.1 dX12_never_44 hl (k := 2) rfl (nI_inc _ _) (by decide) rfl (fun ls hl => ?_)
          refine lv_goto (tgt := 17) hF.1 hF.2.1 dX12_never_47 (by decide) ?_
          exact ih17 (k + 1) (by omega) (by omega) _ _ hG ls (lv_sub hl [1, 2, 0] (by first | (rw [nevU_t c_31]; rfl) | (rw [nevU_f c_31]; rfl)))
        · --
          refine lv_iload_n hF.1 hF.2.1 dX12_never_34 rfl (lv_at hl 1 rfl) ?_
          refine lv_aload_n hF.1 hF.2.1 dX12_never_35 rfl (lv_at hl 0 rfl) ?_
          refine lv_iload_n hF.1 hF.2.1 dX12_never_36 rfl (lv_at hl 2 rfl) ?_
          refine k_ci (r_V (As := [.int (nI k)]) hF hK hA hG (c_X12_allMay hS (by omega)) (cwV 1 hF.2.2.2.2 gX12_never_X12_allMay rfl rfl rfl (by decide +kernel) ⟨Nat.le_of_ble_eq_true rfl, Nat.le_of_ble_eq_true rfl⟩) 0 rfl rfl rfl rfl hl.1 rfl (lv_room (Nat.le_of_ble_eq_true rfl)) dX12_never_37 ⟨Nat.le_of_ble_eq_true rfl, Nat.le_of_ble_eq_true rfl⟩) hG (fun r_37 u_37 H locs hp_37 hG => ?_)
          subst hp_37
          refine lv_iconst (v := (-1)) hF.1 hF.2.1 dX12_never_40 (by decide +kernel) ?_
          refine lv_ixor hF.1 hF.2.1 dX12_never_41 ?_
          refine lv_iand hF.1 hF.2.1 dX12_never_42 ?_
          rw [and_not (nevU_lt hn k) (Nat.lt_of_lt_of_le (mayU_lt kd fg k n) (show 2 ^ n ≤ 2 ^ 6 from Nat.pow_le_pow_right (by decide) hn))]
          refine lv_istore_n (lv' := [(1, .int (nI (nevU n kd fg u_7 k &&& (63 - mayU kd fg k n)))), (0, .ref (ob 0)), (2, .int (nI k))]) hF.1 hF.2.1 dX12_never_43 rfl hl (by decide) rfl (fun ls hl => ?_)
          refine lv_iinc (v := (nI (k + 1))) (lv' := [(2, .int (nI (k + 1))), (1, .int (nI (nevU n kd fg u_7 k &&& (63 - mayU kd fg k n)))), (0, .ref (ob 0))]) hF.1 hF.2.1 dX12_never_44 hl (k := 2) rfl (nI_inc _ _) (by decide) rfl (fun ls hl => ?_)
          refine lv_goto (tgt := 17) hF.1 hF.2.1 dX12_never_47 (by decide) ?_
          exact ih17 (k + 1) (by omega) (by omega) _ _ hG ls (lv_sub hl [2, 1, 0] (by first | (rw [nevU_t c_31]; rfl) | (rw [nevU_f c_31]; rfl)))
  exact lp17 _ (0) (by omega) (Nat.lt_succ_self _) _ _ hG ls (lv_sub hl [2, 1, 0] rfl)

abbrev rmX12_at : Room := { frames := 3, cells := 0, slots := 0, locals := 71 }
set_option maxHeartbeats 4000000 in
set_option maxRecDepth 100000 in
theorem c_X12_at {l : Launch} {D : va_G} {cA : Nat → ClassId} {A : Nat → Prop}  {ob : Nat → Nat} {aS aI aR aM aK aT aZ aE aD aF aN aP aH : Nat → Int32} {vH vT vP vB vE vS : Int32} {n o : Nat} {kd fg : Nat → Nat} (hS : SR aS n o kd fg) {k : Int32} : Met l yX12_at wsX12_at rmX12_at (va_Pc [.ref (ob 0), .int k] (Pre D cA A (MW cA ob aS aI aR aM aK aT aZ aE aD aF aN aP aH vH vT vP vB vE vS))) (va_Qi (fun r (_ : Nat → Int32) => spAt n kd fg k r) (fun u t => Wd D A ((fun (u : Nat → Int32) => MW cA ob aS aI aR aM aK aT aZ aE aD aF aN u aH vH vT vP vB vE vS) u) t) A) (0) (0) A := by
  refine k_ofi (S := Nat → Int32) (F := fun (u : Nat → Int32) => MW cA ob aS aI aR aM aK aT aZ aE aD aF aN u aH vH vT vP vB vE vS) (cc := cX12_at) (maxL := 3) (by decide) rfl (Nat.le_of_ble_eq_true rfl) ?_
  intro p e s m args below meth c Q hF hini hK hA hG hret ls hl
  have hl : lv_has ls 3 [(0, .ref (ob 0)), (1, .int k)] := hl
  have hn : n ≤ 6 := hS.2.2.1
  have ho : o < 64 := hS.o64
  have hp2 : 2 ^ n ≤ 64 := Nat.pow_le_pow_right (by decide) hn
  have hp1 : 1 ≤ 2 ^ n := Nat.one_le_two_pow
  refine lv_iload_n hF.1 hF.2.1 dX12_at_0 rfl (lv_at hl 1 rfl) ?_
  refine lv_if_ge (tgt := 6) hF.1 hF.2.1 dX12_at_1 (by decide) (fun c_1 => ?_) (fun c_1 => ?_)
  · --
    refine lv_aload_n hF.1 hF.2.1 dX12_at_6 rfl (lv_at hl 0 rfl) ?_
    refine k_ci (r_V (As := []) hF hK hA hG (c_X12_isJoiners hS) (cwV 0 hF.2.2.2.2 gX12_at_X12_isJoiners rfl rfl rfl (by decide +kernel) ⟨Nat.le_of_ble_eq_true rfl, Nat.le_of_ble_eq_true rfl⟩) 0 rfl rfl rfl rfl hl.1 rfl (lv_room (Nat.le_of_ble_eq_true rfl)) dX12_at_7 ⟨Nat.le_of_ble_eq_true rfl, Nat.le_of_ble_eq_true rfl⟩) hG (fun r_7 u_7 H locs hp_7 hG => ?_)
    subst hp_7
    refine lv_if_ne (tgt := 16) hF.1 hF.2.1 dX12_at_10 (by decide) (fun c_10 => ?_) (fun c_10 => ?_)
    · --
      have n_10 : (joi n kd) = true := b2i_nz.mp c_10
      refine lv_aload_n hF.1 hF.2.1 dX12_at_16 rfl (lv_at hl 0 rfl) ?_
      refine lv_aload_n hF.1 hF.2.1 dX12_at_17 rfl (lv_at hl 0 rfl) ?_
      refine k_ci (r_V (As := []) hF hK hA hG (c_X12_everything hS) (cwV 0 hF.2.2.2.2 gX12_at_X12_everything rfl rfl rfl (by decide +kernel) ⟨Nat.le_of_ble_eq_true rfl, Nat.le_of_ble_eq_true rfl⟩) 0 rfl rfl rfl rfl hl.1 rfl (lv_room (Nat.le_of_ble_eq_true rfl)) dX12_at_18 ⟨Nat.le_of_ble_eq_true rfl, Nat.le_of_ble_eq_true rfl⟩) hG (fun r_18 u_18 H locs hp_18 hG => ?_)
      subst hp_18
      refine k_cv (r_V (As := [.int (nI (2 ^ n - 1))]) hF hK hA hG (c_X12_findsPulls hS (show 2 ^ n - 1 < 2 ^ n by omega)) (cwV 1 hF.2.2.2.2 gX12_at_X12_findsPulls rfl rfl rfl (by decide +kernel) ⟨Nat.le_of_ble_eq_true rfl, Nat.le_of_ble_eq_true rfl⟩) 0 rfl rfl rfl rfl hl.1 rfl (lv_room (Nat.le_of_ble_eq_true rfl)) dX12_at_21 ⟨Nat.le_of_ble_eq_true rfl, Nat.le_of_ble_eq_true rfl⟩) hG (fun u_21 H locs hp_21 hG => ?_)
      refine lv_iconst (v := (nI 0)) hF.1 hF.2.1 dX12_at_24 (by decide +kernel) ?_
      refine lv_istore_n (lv' := [(2, .int (nI 0)), (0, .ref (ob 0)), (1, .int k)]) hF.1 hF.2.1 dX12_at_25 rfl hl (by decide) rfl (fun ls hl => ?_)
      have lp26 : ∀ (fuel : Nat), ∀ (z : Nat), (hz : z ≤ 2 ^ n) → (hq : ∀ y, y < z → ¬ DS n kd fg (2 ^ n - 1) y k) → (2 ^ n - z) < fuel → ∀ (H : Heap) (locs : List Loc), Gd D A (MW cA ob aS aI aR aM aK aT aZ aE aD aF aN u_21 aH vH vT vP vB vE vS) s.heap H locs → ∀ ls : Array Slot, lv_has ls 3 [(0, .ref (ob 0)), (1, .int k), (2, .int (nI z))] → W p l e rmX12_at s m args below meth c H locs (0) (0) Q (F0 m 26 ls []) := by
        intro fuel
        induction fuel with
        | zero => intro z hz hq hmu; exact absurd hmu (Nat.not_lt_zero _)
        | succ fuel ih26 =>
          intro z hz hq hmu H locs hG ls hl
          refine lv_iload_n hF.1 hF.2.1 dX12_at_26 rfl (lv_at hl 2 rfl) ?_
          refine lv_aload_n hF.1 hF.2.1 dX12_at_27 rfl (lv_at hl 0 rfl) ?_
          refine k_ci (r_V (As := []) hF hK hA hG (c_X12_everything hS) (cwV 0 hF.2.2.2.2 gX12_at_X12_everything rfl rfl rfl (by decide +kernel) ⟨Nat.le_of_ble_eq_true rfl, Nat.le_of_ble_eq_true rfl⟩) 0 rfl rfl rfl rfl hl.1 rfl (lv_room (Nat.le_of_ble_eq_true rfl)) dX12_at_28 ⟨Nat.le_of_ble_eq_true rfl, Nat.le_of_ble_eq_true rfl⟩) hG (fun r_28 u_28 H locs hp_28 hG => ?_)
          subst hp_28
          refine lv_icmp_gt (tgt := 52) hF.1 hF.2.1 dX12_at_31 (by decide) (fun c_31 => ?_) (fun c_31 => ?_)
          · --
            have n_31 : 2 ^ n - 1 < z := (nI_ltI (a := 2 ^ n - 1) (b := z) (by omega) (by omega)).mp c_31
            refine lv_bipush (v := (-4)) hF.1 hF.2.1 dX12_at_52 (by decide +kernel) ?_
            exact hret _ u_21 _ ls _ _ _ _ (by unfold spAt; rw [if_neg (Int32.not_lt.mpr c_1), if_pos n_10]; exact Or.inl ⟨rfl, fun y hy => hq y (by omega)⟩) (by first | rfl | exact nar_b2i _) hG (Nat.le_of_ble_eq_true rfl) (Nat.le_of_ble_eq_true rfl) dX12_at_54
          · --
            have n_31 : ¬ (2 ^ n - 1 < z) := fun zz9 => c_31 ((nI_ltI (a := 2 ^ n - 1) (b := z) (by omega) (by omega)).mpr zz9)
            refine lv_aload_n hF.1 hF.2.1 dX12_at_34 rfl (lv_at hl 0 rfl) ?_
            refine k_get (C := RX12) (T := TX12) (N := 19) hF hK hG (fun _ h => List.mem_cons_of_mem _ (List.mem_append_right _ h)) 0 rfl rfl 16 (by decide) (List.mem_of_getElem? (i := 1) rfl) (fun _ h9 => h9) rfl dX12_at_35 ?_
            refine lv_iload_n hF.1 hF.2.1 dX12_at_38 rfl (lv_at hl 2 rfl) ?_
            refine k_ialdN hF hK hG 12 rfl (z) rfl (by omega) (by omega) dX12_at_39 ?_
            refine lv_iload_n hF.1 hF.2.1 dX12_at_40 rfl (lv_at hl 1 rfl) ?_
            refine lv_icmp_ne (tgt := 46) hF.1 hF.2.1 dX12_at_41 (by decide) (fun c_41 => ?_) (fun c_41 => ?_)
            · --
              refine lv_iinc (v := (nI (z + 1))) (lv' := [(2, .int (nI (z + 1))), (0, .ref (ob 0)), (1, .int k)]) hF.1 hF.2.1 dX12_at_46 hl (k := 2) rfl (nI_inc _ _) (by decide) rfl (fun ls hl => ?_)
              refine lv_goto (tgt := 26) hF.1 hF.2.1 dX12_at_49 (by decide) ?_
              exact ih26 (z + 1) (by omega) (lt_s hq (fun hd => c_41 (IsW.one (hp_21 z (by omega)) hd))) (by omega) _ _ hG ls (lv_sub hl [1, 2, 0] rfl)
            · --
              refine lv_iload_n hF.1 hF.2.1 dX12_at_44 rfl (lv_at hl 2 rfl) ?_
              exact hret _ u_21 _ ls _ _ _ _ (by unfold spAt; rw [if_neg (Int32.not_lt.mpr c_1), if_pos n_10]; exact Or.inr ⟨z, by omega, rfl, by rw [← c_41]; exact hp_21 z (by omega), hq⟩) (by first | rfl | exact nar_b2i _) hG (Nat.le_of_ble_eq_true rfl) (Nat.le_of_ble_eq_true rfl) dX12_at_45
      exact lp26 _ (0) (by omega) (fun y h => absurd h (Nat.not_lt_zero y)) (Nat.lt_succ_self _) _ _ hG ls (lv_sub hl [1, 2, 0] rfl)
    · --
      have n_10 : (joi n kd) = false := b2i_z.mp c_10
      refine lv_bipush (v := (-3)) hF.1 hF.2.1 dX12_at_13 (by decide +kernel) ?_
      exact hret _ aP _ ls _ _ _ _ (by unfold spAt; rw [if_neg (Int32.not_lt.mpr c_1), n_10]; rfl) (by first | rfl | exact nar_b2i _) hG (Nat.le_of_ble_eq_true rfl) (Nat.le_of_ble_eq_true rfl) dX12_at_15
  · --
    refine lv_iconst (v := (-1)) hF.1 hF.2.1 dX12_at_4 (by decide +kernel) ?_
    exact hret _ aP _ ls _ _ _ _ (by unfold spAt; rw [if_pos (Int32.not_le.mp c_1)]) (by first | rfl | exact nar_b2i _) hG (Nat.le_of_ble_eq_true rfl) (Nat.le_of_ble_eq_true rfl) dX12_at_5
