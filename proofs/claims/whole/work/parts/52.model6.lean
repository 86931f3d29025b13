theorem m1_100 {n : Nat} (h : n < 101) : ((nI n - nI 1).toInt64).toInt = (n : Int) - 1 := by
  apply fin1 101 n h
  decide +kernel
theorem spPut_n {x : Nat → Sf} {d i v : Int32} (h : ¬ wrA (sfA x d) = 0) : spPut x d i v = (wrA (sfA x d), x) := by
  unfold spPut
  split
  · rename_i z e
    rw [e] at h
    exact absurd (by decide +kernel : nI 0 = 0) h
  · rfl
theorem spPut_f {x : Nat → Sf} {j : Nat} {z : Nat × Nat × (Nat → Int32)} {i v : Int32} (hj : j < 8) (hx : x j = some (.inr z)) (h : inB z.2.1 i = false) : spPut x (nI j) i v = (-13, x) := by
  unfold spPut
  rw [sfA_j x hj, hx]
  show (if inB z.2.1 i = true then _ else _) = _
  rw [h]
  rfl
theorem spPut_t {x : Nat → Sf} {j k : Nat} {z : Nat × Nat × (Nat → Int32)} {v : Int32} (hj : j < 8) (hx : x j = some (.inr z)) (hz : z.2.1 ≤ 100) (hk : k < z.2.1) : spPut x (nI j) (nI k) v = (nI 0, va_up x j (some (.inr (z.1, z.2.1, upd z.2.2 k (narS z.1 v))))) := by
  unfold spPut
  rw [sfA_j x hj, hx]
  show (if inB z.2.1 (nI k) = true then _ else _) = _
  rw [if_pos (inB_j (by omega) hk), nI_clamp (by omega), putR_t hz hk]
theorem spRow_n {x : Nat → Sf} {j a : Nat} {n : Int32} (hj : j < 8) (ha : a < 3) (h : n ≤ nI 100) (h0 : n < 0) : spRow x (nI j) (nI a) n = (-14, x) := by
  unfold spRow
  rw [if_pos (rowOk_t hj ha h), if_pos h0]
theorem spRow_t {x : Nat → Sf} {j a k : Nat} (hj : j < 8) (ha : a < 3) (hk : k ≤ 100) : spRow x (nI j) (nI a) (nI k) = (nI 0, va_up x j (some (.inr (a, k, fun _ => 0)))) := by
  unfold spRow
  rw [if_pos (rowOk_t hj ha (nI_le hk (by decide))), if_neg (nI_pos (by omega)), nI_clamp (by omega), nI_clamp (by omega), nI_clamp (by omega)]
theorem sf_putE {aK aT aZ aE aD aF : Nat → Int32} {x : Nat → Sf} {j k : Nat} {z : Nat × Nat × (Nat → Int32)} {u : Int32} (h : ∀ d, d < 8 → SF aK aT aZ aE aD aF d (x d)) (hj : j < 8) (hx : x j = some (.inr z)) (hk : k < z.2.1) : ∀ d, d < 8 → SF aK aT aZ (upd aE (100 * j + k) u) aD aF d (va_up x j (some (.inr (z.1, z.2.1, upd z.2.2 k u))) d) := by
  obtain ⟨f1, f2, f3, f4, f5, f6⟩ := sf_r (h j hj) hx
  refine SF.upd h ⟨f1, f2, f3, f4, f5, fun i hi => ?_⟩ (fun _ _ => ⟨rfl, rfl, rfl, rfl, rfl⟩) (fun d i hd hi => pk_un (by omega))
  by_cases e : i = k
  · subst e
    show upd aE (100 * j + i) u (100 * j + i) = upd z.2.2 i u i
    rw [pk_us, pk_us]
  · show upd aE (100 * j + k) u (100 * j + i) = upd z.2.2 k u i
    rw [pk_un e, pk_un (by omega)]
    exact f6 i hi
abbrev rmX12_row : Room := { frames := 2, cells := 0, slots := 0, locals := 45 }
set_option maxHeartbeats 4000000 in
set_option maxRecDepth 100000 in
theorem c_X12_row {l : Launch} {D : va_G} {cA : Nat → ClassId} {A : Nat → Prop}  {ob : Nat → Nat} {aS aI aR aM aK aT aZ aE aD aF aN aP aH : Nat → Int32} {vH vT vP vB vE vS : Int32} {x : Nat → Sf} (hXF : ∀ d, d < 8 → SF aK aT aZ aE aD aF d (x d)) {d so n : Int32} : Met l yX12_row wsX12_row rmX12_row (va_Pc [.ref (ob 0), .int d, .int so, .int n] (Pre D cA A (MW cA ob aS aI aR aM aK aT aZ aE aD aF aN aP aH vH vT vP vB vE vS))) (va_Qi (fun r (u : (Nat → Int32) × (Nat → Int32) × (Nat → Int32) × (Nat → Int32)) => r = (spRow x d so n).1 ∧ ∀ e, e < 8 → SF u.1 u.2.1 u.2.2.1 u.2.2.2 aD aF e ((spRow x d so n).2 e)) (fun u t => Wd D A ((fun (u : (Nat → Int32) × (Nat → Int32) × (Nat → Int32) × (Nat → Int32)) => MW cA ob aS aI aR aM u.1 u.2.1 u.2.2.1 u.2.2.2 aD aF aN aP aH vH vT vP vB vE vS) u) t) A) (0) (0) A := by
  refine k_ofi (S := (Nat → Int32) × (Nat → Int32) × (Nat → Int32) × (Nat → Int32)) (F := fun (u : (Nat → Int32) × (Nat → Int32) × (Nat → Int32) × (Nat → Int32)) => MW cA ob aS aI aR aM u.1 u.2.1 u.2.2.1 u.2.2.2 aD aF aN aP aH vH vT vP vB vE vS) (cc := cX12_row) (maxL := 5) (by decide) rfl (Nat.le_of_ble_eq_true rfl) ?_
  intro p e s m args below meth c Q hF hini hK hA hG hret ls hl
  have hl : lv_has ls 5 [(0, .ref (ob 0)), (1, .int d), (2, .int so), (3, .int n)] := hl
  refine lv_iload_n hF.1 hF.2.1 dX12_row_0 rfl (lv_at hl 1 rfl) ?_
  refine k_ci (r_S (As := [.int d]) hF hK hA hG (c_X12_isShelf) (cwS 1 hF.2.2.2.2 gX12_row_X12_isShelf rfl rfl rfl (by decide +kernel) ⟨Nat.le_of_ble_eq_true rfl, Nat.le_of_ble_eq_true rfl⟩) rfl hl.1 rfl (lv_room (Nat.le_of_ble_eq_true rfl)) dX12_row_1 ⟨Nat.le_of_ble_eq_true rfl, Nat.le_of_ble_eq_true rfl⟩) hG (fun r_1 u_1 H locs hp_1 hG => ?_)
  subst hp_1
  refine lv_if_eq (tgt := 25) hF.1 hF.2.1 dX12_row_4 (by decide) (fun c_4 => ?_) (fun c_4 => ?_)
  · --
    have n_4 : (inB 8 d) = false := b2i_z.mp c_4
    refine lv_iconst (v := (-1)) hF.1 hF.2.1 dX12_row_25 (by decide +kernel) ?_
    exact hret _ (aK, aT, aZ, aE) _ ls _ _ _ _ (by first | (rw [spRow_f (rowOk_1 n_4)]; exact ⟨rfl, hXF⟩) | (rw [spRow_f (rowOk_2 n_16)]; exact ⟨rfl, hXF⟩) | (rw [spRow_f (rowOk_3 c_22)]; exact ⟨rfl, hXF⟩)) (by first | rfl | exact nar_b2i _) hG (Nat.le_of_ble_eq_true rfl) (Nat.le_of_ble_eq_true rfl) dX12_row_26
  · --
    have n_4 : (inB 8 d) = true := b2i_nz.mp c_4
    obtain ⟨j, hj, rfl⟩ := inB_ex (by omega) n_4
    refine lv_iload_n hF.1 hF.2.1 dX12_row_7 rfl (lv_at hl 2 rfl) ?_
    refine lv_i2l hF.1 hF.2.1 dX12_row_8 rfl ?_
    refine lv_lconst (v := 0) hF.1 hF.2.1 dX12_row_9 (by decide +kernel) ?_
    refine lv_ldc2 hF.1 hF.2.1 (own := RX12) hF.2.2.2.1 (hF.2.2.2.2 _ (List.mem_of_getElem? (i := 1) rfl)) dX12_row_10 ?_
    refine k_ci (r_S (As := [.long (so.toInt64), .long (0), .long (2)]) hF hK hA hG (c_X12_isIn) (cwS 3 hF.2.2.2.2 gX12_row_X12_isIn rfl rfl rfl (by decide +kernel) ⟨Nat.le_of_ble_eq_true rfl, Nat.le_of_ble_eq_true rfl⟩) rfl hl.1 rfl (lv_room (Nat.le_of_ble_eq_true rfl)) dX12_row_13 ⟨Nat.le_of_ble_eq_true rfl, Nat.le_of_ble_eq_true rfl⟩) hG (fun r_13 u_13 H locs hp_13 hG => ?_)
    rw [inL (n := 3) (by omega) (by decide +kernel)] at hp_13
    subst hp_13
    refine lv_if_eq (tgt := 25) hF.1 hF.2.1 dX12_row_16 (by decide) (fun c_16 => ?_) (fun c_16 => ?_)
    · --
      have n_16 := b2i_z.mp c_16
      refine lv_iconst (v := (-1)) hF.1 hF.2.1 dX12_row_25 (by decide +kernel) ?_
      exact hret _ (aK, aT, aZ, aE) _ ls _ _ _ _ (by first | (rw [spRow_f (rowOk_1 n_4)]; exact ⟨rfl, hXF⟩) | (rw [spRow_f (rowOk_2 n_16)]; exact ⟨rfl, hXF⟩) | (rw [spRow_f (rowOk_3 c_22)]; exact ⟨rfl, hXF⟩)) (by first | rfl | exact nar_b2i _) hG (Nat.le_of_ble_eq_true rfl) (Nat.le_of_ble_eq_true rfl) dX12_row_26
    · --
      have n_16 := b2i_nz.mp c_16
      obtain ⟨a, ha, rfl⟩ := inB_ex (by omega) n_16
      refine lv_iload_n hF.1 hF.2.1 dX12_row_19 rfl (lv_at hl 3 rfl) ?_
      refine lv_bipush (v := (nI 100)) hF.1 hF.2.1 dX12_row_20 (by decide +kernel) ?_
      refine lv_icmp_le (tgt := 27) hF.1 hF.2.1 dX12_row_22 (by decide) (fun c_22 => ?_) (fun c_22 => ?_)
      · --
        refine lv_iload_n hF.1 hF.2.1 dX12_row_27 rfl (lv_at hl 3 rfl) ?_
        refine lv_if_ge (tgt := 34) hF.1 hF.2.1 dX12_row_28 (by decide) (fun c_28 => ?_) (fun c_28 => ?_)
        · --
          obtain ⟨k, hk, rfl⟩ := nI_of2 (n := 100) (M := nI 100) (by decide +kernel) (Int32.not_lt.mpr c_28) c_22
          refine lv_aload_n hF.1 hF.2.1 dX12_row_34 rfl (lv_at hl 0 rfl) ?_
          refine k_get (C := RX12) (T := TX12) (N := 19) hF hK hG (fun _ h => List.mem_cons_of_mem _ (List.mem_append_right _ h)) 0 rfl rfl 4 (by decide) (List.mem_of_getElem? (i := 2) rfl) (fun _ h9 => h9) rfl dX12_row_35 ?_
          refine lv_iload_n hF.1 hF.2.1 dX12_row_38 rfl (lv_at hl 1 rfl) ?_
          refine lv_iconst (v := (nI 2)) hF.1 hF.2.1 dX12_row_39 (by decide +kernel) ?_
          refine k_iastN hF hK hG 5 rfl (j) rfl (by omega) (by omega) dX12_row_40 (fun H locs hG => ?_)
          refine lv_aload_n hF.1 hF.2.1 dX12_row_41 rfl (lv_at hl 0 rfl) ?_
          refine k_get (C := RX12) (T := TX12) (N := 19) hF hK hG (fun _ h => List.mem_cons_of_mem _ (List.mem_append_right _ h)) 0 rfl rfl 5 (by decide) (List.mem_of_getElem? (i := 3) rfl) (fun _ h9 => h9) rfl dX12_row_42 ?_
          refine lv_iload_n hF.1 hF.2.1 dX12_row_45 rfl (lv_at hl 1 rfl) ?_
          refine lv_iload_n hF.1 hF.2.1 dX12_row_46 rfl (lv_at hl 2 rfl) ?_
          refine k_iastN hF hK hG 6 rfl (j) rfl (by omega) (by omega) dX12_row_47 (fun H locs hG => ?_)
          refine lv_aload_n hF.1 hF.2.1 dX12_row_48 rfl (lv_at hl 0 rfl) ?_
          refine k_get (C := RX12) (T := TX12) (N := 19) hF hK hG (fun _ h => List.mem_cons_of_mem _ (List.mem_append_right _ h)) 0 rfl rfl 6 (by decide) (List.mem_of_getElem? (i := 4) rfl) (fun _ h9 => h9) rfl dX12_row_49 ?_
          refine lv_iload_n hF.1 hF.2.1 dX12_row_52 rfl (lv_at hl 1 rfl) ?_
          refine lv_iload_n hF.1 hF.2.1 dX12_row_53 rfl (lv_at hl 3 rfl) ?_
          refine k_iastN hF hK hG 7 rfl (j) rfl (by omega) (by omega) dX12_row_54 (fun H locs hG => ?_)
          refine lv_iconst (v := (nI 0)) hF.1 hF.2.1 dX12_row_55 (by decide +kernel) ?_
          refine lv_istore (lv' := [(4, .int (nI 0)), (0, .ref (ob 0)), (1, .int (nI j)), (2, .int (nI a)), (3, .int (nI k))]) hF.1 hF.2.1 dX12_row_56 hl (by decide) rfl (fun ls hl => ?_)
          have lp58 : ∀ (fuel : Nat), ∀ (q : Nat) (bE : Nat → Int32), (hq : q ≤ 100) → (hz : ∀ i, i < q → bE (100 * j + i) = 0) → (ho : ∀ e i, e ≠ j → i < 100 → bE (100 * e + i) = aE (100 * e + i)) → (100 - q) < fuel → ∀ (H : Heap) (locs : List Loc), Gd D A (MW cA ob aS aI aR aM (upd aK j (nI 2)) (upd aT j (nI a)) (upd aZ j (nI k)) bE aD aF aN aP aH vH vT vP vB vE vS) s.heap H locs → ∀ ls : Array Slot, lv_has ls 5 [(0, .ref (ob 0)), (1, .int (nI j)), (4, .int (nI q))] → W p l e rmX12_row s m args below meth c H locs (0) (0) Q (F0 m 58 ls []) := by
            intro fuel
            induction fuel with
            | zero => intro q bE hq hz ho hmu; exact absurd hmu (Nat.not_lt_zero _)
            | succ fuel ih58 =>
              intro q bE hq hz ho hmu H locs hG ls hl
              refine lv_iload hF.1 hF.2.1 dX12_row_58 (lv_at hl 2 rfl) ?_
              refine lv_bipush (v := (nI 100)) hF.1 hF.2.1 dX12_row_60 (by decide +kernel) ?_
              refine lv_icmp_ge (tgt := 84) hF.1 hF.2.1 dX12_row_62 (by decide) (fun c_62 => ?_) (fun c_62 => ?_)
              · --
                have n_62 : 100 ≤ q := (nI_leI (a := 100) (b := q) (by omega) (by omega)).mp c_62
                refine lv_iconst (v := (nI 0)) hF.1 hF.2.1 dX12_row_84 (by decide +kernel) ?_
                exact hret _ (upd aK j (nI 2), upd aT j (nI a), upd aZ j (nI k), bE) _ ls _ _ _ _ (by rw [spRow_t hj ha hk]; exact ⟨rfl, SF.upd hXF ⟨pk_us, pk_us, pk_us, ha, hk, fun i hi => hz i (Nat.lt_of_lt_of_le (show i < k from hi) (Nat.le_trans hk n_62))⟩ (fun e he => ⟨pk_un he, pk_un he, pk_un he, rfl, rfl⟩) ho⟩) (by first | rfl | exact nar_b2i _) hG (Nat.le_of_ble_eq_true rfl) (Nat.le_of_ble_eq_true rfl) dX12_row_85
              · --
                have n_62 : ¬ (100 ≤ q) := fun zz9 => c_62 ((nI_leI (a := 100) (b := q) (by omega) (by omega)).mpr zz9)
                refine lv_aload_n hF.1 hF.2.1 dX12_row_65 rfl (lv_at hl 0 rfl) ?_
                refine k_get (C := RX12) (T := TX12) (N := 19) hF hK hG (fun _ h => List.mem_cons_of_mem _ (List.mem_append_right _ h)) 0 rfl rfl 7 (by decide) (List.mem_of_getElem? (i := 5) rfl) (fun _ h9 => h9) rfl dX12_row_66 ?_
                refine lv_bipush (v := (nI 100)) hF.1 hF.2.1 dX12_row_69 (by decide +kernel) ?_
                refine lv_iload_n hF.1 hF.2.1 dX12_row_71 rfl (lv_at hl 1 rfl) ?_
                refine lv_imul hF.1 hF.2.1 dX12_row_72 ?_
                rw [pk_mul]
                refine lv_iload hF.1 hF.2.1 dX12_row_73 (lv_at hl 2 rfl) ?_
                refine lv_iadd hF.1 hF.2.1 dX12_row_75 ?_
                rw [nI_add]
                refine lv_iconst (v := (nI 0)) hF.1 hF.2.1 dX12_row_76 (by decide +kernel) ?_
                refine k_iastN hF hK hG 8 rfl ((100) * (j) + q) rfl (by omega) (by omega) dX12_row_77 (fun H locs hG => ?_)
                refine lv_iinc (v := (nI (q + 1))) (lv' := [(4, .int (nI (q + 1))), (0, .ref (ob 0)), (1, .int (nI j))]) hF.1 hF.2.1 dX12_row_78 hl (k := 2) rfl (nI_inc _ _) (by decide) rfl (fun ls hl => ?_)
                refine lv_goto (tgt := 58) hF.1 hF.2.1 dX12_row_81 (by decide) ?_
                exact ih58 (q + 1) (upd bE (100 * j + q) (nI 0)) (by omega) (lt_s (fun i h => by rw [pk_un (by omega)]; exact hz i h) (by rw [pk_us]; rfl)) (fun e i he hi => by rw [pk_un (by omega)]; exact ho e i he hi) (by omega) _ _ hG ls (lv_sub hl [1, 2, 0] rfl)
          exact lp58 _ (0) (aE) (by omega) (fun i h => absurd h (Nat.not_lt_zero i)) (fun _ _ _ _ => rfl) (Nat.lt_succ_self _) _ _ hG ls (lv_sub hl [1, 2, 0] rfl)
        · --
          refine lv_bipush (v := (-14)) hF.1 hF.2.1 dX12_row_31 (by decide +kernel) ?_
          exact hret _ (aK, aT, aZ, aE) _ ls _ _ _ _ (by rw [spRow_n hj ha c_22 (Int32.not_le.mp c_28)]; exact ⟨rfl, hXF⟩) (by first | rfl | exact nar_b2i _) hG (Nat.le_of_ble_eq_true rfl) (Nat.le_of_ble_eq_true rfl) dX12_row_33
      · --
        refine lv_iconst (v := (-1)) hF.1 hF.2.1 dX12_row_25 (by decide +kernel) ?_
        exact hret _ (aK, aT, aZ, aE) _ ls _ _ _ _ (by first | (rw [spRow_f (rowOk_1 n_4)]; exact ⟨rfl, hXF⟩) | (rw [spRow_f (rowOk_2 n_16)]; exact ⟨rfl, hXF⟩) | (rw [spRow_f (rowOk_3 c_22)]; exact ⟨rfl, hXF⟩)) (by first | rfl | exact nar_b2i _) hG (Nat.le_of_ble_eq_true rfl) (Nat.le_of_ble_eq_true rfl) dX12_row_26

abbrev rmX12_put : Room := { frames := 3, cells := 0, slots := 0, locals := 67 }
set_option maxHeartbeats 4000000 in
set_option maxRecDepth 100000 in
theorem c_X12_put {l : Launch} {D : va_G} {cA : Nat → ClassId} {A : Nat → Prop}  {ob : Nat → Nat} {aS aI aR aM aK aT aZ aE aD aF aN aP aH : Nat → Int32} {vH vT vP vB vE vS : Int32} {x : Nat → Sf} (hXF : ∀ d, d < 8 → SF aK aT aZ aE aD aF d (x d)) {d i v : Int32} : Met l yX12_put wsX12_put rmX12_put (va_Pc [.ref (ob 0), .int d, .int i, .int v] (Pre D cA A (MW cA ob aS aI aR aM aK aT aZ aE aD aF aN aP aH vH vT vP vB vE vS))) (va_Qi (fun r (u : Nat → Int32) => r = (spPut x d i v).1 ∧ ∀ e, e < 8 → SF aK aT aZ u aD aF e ((spPut x d i v).2 e)) (fun u t => Wd D A ((fun (u : Nat → Int32) => MW cA ob aS aI aR aM aK aT aZ u aD aF aN aP aH vH vT vP vB vE vS) u) t) A) (0) (0) A := by
  refine k_ofi (S := Nat → Int32) (F := fun (u : Nat → Int32) => MW cA ob aS aI aR aM aK aT aZ u aD aF aN aP aH vH vT vP vB vE vS) (cc := cX12_put) (maxL := 5) (by decide) rfl (Nat.le_of_ble_eq_true rfl) ?_
  intro p e s m args below meth c Q hF hini hK hA hG hret ls hl
  have hl : lv_has ls 5 [(0, .ref (ob 0)), (1, .int d), (2, .int i), (3, .int v)] := hl
  refine lv_aload_n hF.1 hF.2.1 dX12_put_0 rfl (lv_at hl 0 rfl) ?_
  refine lv_iload_n hF.1 hF.2.1 dX12_put_1 rfl (lv_at hl 1 rfl) ?_
  refine lv_iconst (v := (-1)) hF.1 hF.2.1 dX12_put_2 (by decide +kernel) ?_
  refine k_ci (r_V (As := [.int d, .int (-1)]) hF hK hA hG (c_X12_wrongRow_A hXF) (cwV 2 hF.2.2.2.2 gX12_put_X12_wrongRow rfl rfl rfl (by decide +kernel) ⟨Nat.le_of_ble_eq_true rfl, Nat.le_of_ble_eq_true rfl⟩) 0 rfl rfl rfl rfl hl.1 rfl (lv_room (Nat.le_of_ble_eq_true rfl)) dX12_put_3 ⟨Nat.le_of_ble_eq_true rfl, Nat.le_of_ble_eq_true rfl⟩) hG (fun r_3 u_3 H locs hp_3 hG => ?_)
  subst hp_3
  refine lv_istore (lv' := [(4, .int (wrA (sfA x d))), (0, .ref (ob 0)), (1, .int d), (2, .int i), (3, .int v)]) hF.1 hF.2.1 dX12_put_6 hl (by decide) rfl (fun ls hl => ?_)
  refine lv_iload hF.1 hF.2.1 dX12_put_8 (lv_at hl 0 rfl) ?_
  refine lv_if_eq (tgt := 16) hF.1 hF.2.1 dX12_put_10 (by decide) (fun c_10 => ?_) (fun c_10 => ?_)
  · --
    obtain ⟨j, z, hj, rfl, hx⟩ := wa_0 c_10
    obtain ⟨f1, f2, f3, f4, f5, f6⟩ := sf_r (hXF j hj) hx
    refine lv_iload_n hF.1 hF.2.1 dX12_put_16 rfl (lv_at hl 3 rfl) ?_
    refine lv_i2l hF.1 hF.2.1 dX12_put_17 rfl ?_
    refine lv_lconst (v := 0) hF.1 hF.2.1 dX12_put_18 (by decide +kernel) ?_
    refine lv_aload_n hF.1 hF.2.1 dX12_put_19 rfl (lv_at hl 1 rfl) ?_
    refine k_get (C := RX12) (T := TX12) (N := 19) hF hK hG (fun _ h => List.mem_cons_of_mem _ (List.mem_append_right _ h)) 0 rfl rfl 6 (by decide) (List.mem_of_getElem? (i := 1) rfl) (fun _ h9 => h9) rfl dX12_put_20 ?_
    refine lv_iload_n hF.1 hF.2.1 dX12_put_23 rfl (lv_at hl 2 rfl) ?_
    refine k_ialdN hF hK hG 7 rfl (j) rfl (by omega) (by omega) dX12_put_24 ?_
    rw [f3]
    refine lv_iconst (v := (nI 1)) hF.1 hF.2.1 dX12_put_25 (by decide +kernel) ?_
    refine lv_isub hF.1 hF.2.1 dX12_put_26 ?_
    refine lv_i2l hF.1 hF.2.1 dX12_put_27 rfl ?_
    refine k_ci (r_S (As := [.long (i.toInt64), .long (0), .long (((nI (z.2.1)) - (nI 1)).toInt64)]) hF hK hA hG (c_X12_isIn) (cwS 3 hF.2.2.2.2 gX12_put_X12_isIn rfl rfl rfl (by decide +kernel) ⟨Nat.le_of_ble_eq_true rfl, Nat.le_of_ble_eq_true rfl⟩) rfl hl.1 rfl (lv_room (Nat.le_of_ble_eq_true rfl)) dX12_put_28 ⟨Nat.le_of_ble_eq_true rfl, Nat.le_of_ble_eq_true rfl⟩) hG (fun r_28 u_28 H locs hp_28 hG => ?_)
    rw [inL (n := z.2.1) (by omega) (m1_100 (by omega))] at hp_28
    subst hp_28
    refine lv_if_ne (tgt := 37) hF.1 hF.2.1 dX12_put_31 (by decide) (fun c_31 => ?_) (fun c_31 => ?_)
    · --
      have n_31 := b2i_nz.mp c_31
      obtain ⟨k, hk, rfl⟩ := inB_ex (by omega) n_31
      refine lv_aload_n hF.1 hF.2.1 dX12_put_37 rfl (lv_at hl 1 rfl) ?_
      refine k_get (C := RX12) (T := TX12) (N := 19) hF hK hG (fun _ h => List.mem_cons_of_mem _ (List.mem_append_right _ h)) 0 rfl rfl 7 (by decide) (List.mem_of_getElem? (i := 2) rfl) (fun _ h9 => h9) rfl dX12_put_38 ?_
      refine lv_bipush (v := (nI 100)) hF.1 hF.2.1 dX12_put_41 (by decide +kernel) ?_
      refine lv_iload_n hF.1 hF.2.1 dX12_put_43 rfl (lv_at hl 2 rfl) ?_
      refine lv_imul hF.1 hF.2.1 dX12_put_44 ?_
      rw [pk_mul]
      refine lv_iload_n hF.1 hF.2.1 dX12_put_45 rfl (lv_at hl 3 rfl) ?_
      refine lv_iadd hF.1 hF.2.1 dX12_put_46 ?_
      rw [nI_add]
      refine lv_aload_n hF.1 hF.2.1 dX12_put_47 rfl (lv_at hl 1 rfl) ?_
      refine k_get (C := RX12) (T := TX12) (N := 19) hF hK hG (fun _ h => List.mem_cons_of_mem _ (List.mem_append_right _ h)) 0 rfl rfl 5 (by decide) (List.mem_of_getElem? (i := 3) rfl) (fun _ h9 => h9) rfl dX12_put_48 ?_
      refine lv_iload_n hF.1 hF.2.1 dX12_put_51 rfl (lv_at hl 2 rfl) ?_
      refine k_ialdN hF hK hG 6 rfl (j) rfl (by omega) (by omega) dX12_put_52 ?_
      rw [f2]
      refine lv_if_ne (tgt := 61) hF.1 hF.2.1 dX12_put_53 (by decide) (fun c_53 => ?_) (fun c_53 => ?_)
      · --
        have n_53 : ¬ (z.1 = 0) := fun zz9 => c_53 ((nI_eq (a := z.1) (b := 0) (by omega) (by omega)).mpr zz9)
        refine lv_aload_n hF.1 hF.2.1 dX12_put_61 rfl (lv_at hl 1 rfl) ?_
        refine k_get (C := RX12) (T := TX12) (N := 19) hF hK hG (fun _ h => List.mem_cons_of_mem _ (List.mem_append_right _ h)) 0 rfl rfl 5 (by decide) (List.mem_of_getElem? (i := 3) rfl) (fun _ h9 => h9) rfl dX12_put_62 ?_
        refine lv_iload_n hF.1 hF.2.1 dX12_put_65 rfl (lv_at hl 2 rfl) ?_
        refine k_ialdN hF hK hG 6 rfl (j) rfl (by omega) (by omega) dX12_put_66 ?_
        rw [f2]
        refine lv_iconst (v := (nI 1)) hF.1 hF.2.1 dX12_put_67 (by decide +kernel) ?_
        refine lv_icmp_ne (tgt := 76) hF.1 hF.2.1 dX12_put_68 (by decide) (fun c_68 => ?_) (fun c_68 => ?_)
        · --
          have n_68 : ¬ (z.1 = 1) := fun zz9 => c_68 ((nI_eq (a := z.1) (b := 1) (by omega) (by omega)).mpr zz9)
          refine lv_iload_n hF.1 hF.2.1 dX12_put_76 rfl (lv_at hl 4 rfl) ?_
          refine k_iastN hF hK hG 8 rfl ((100) * (j) + k) rfl (by omega) (by omega) dX12_put_77 (fun H locs hG => ?_)
          refine lv_iconst (v := (nI 0)) hF.1 hF.2.1 dX12_put_78 (by decide +kernel) ?_
          exact hret _ _ _ ls _ _ _ _ (by rw [spPut_t hj hx f5 hk]; first | (rw [narS_0 n_53]; exact ⟨rfl, sf_putE hXF hj hx hk⟩) | (rw [narS_1 n_53 n_68]; exact ⟨rfl, sf_putE hXF hj hx hk⟩) | (rw [narS_2 n_53 n_68]; exact ⟨rfl, sf_putE hXF hj hx hk⟩)) (by first | rfl | exact nar_b2i _) hG (Nat.le_of_ble_eq_true rfl) (Nat.le_of_ble_eq_true rfl) dX12_put_79
        · --
          have n_68 : z.1 = 1 := (nI_eq (a := z.1) (b := 1) (by omega) (by omega)).mp c_68
          refine lv_iload_n hF.1 hF.2.1 dX12_put_71 rfl (lv_at hl 4 rfl) ?_
          refine lv_i2s hF.1 hF.2.1 dX12_put_72 rfl ?_
          refine lv_goto (tgt := 77) hF.1 hF.2.1 dX12_put_73 (by decide) ?_
          refine k_iastN hF hK hG 8 rfl ((100) * (j) + k) rfl (by omega) (by omega) dX12_put_77 (fun H locs hG => ?_)
          refine lv_iconst (v := (nI 0)) hF.1 hF.2.1 dX12_put_78 (by decide +kernel) ?_
          exact hret _ _ _ ls _ _ _ _ (by rw [spPut_t hj hx f5 hk]; first | (rw [narS_0 n_53]; exact ⟨rfl, sf_putE hXF hj hx hk⟩) | (rw [narS_1 n_53 n_68]; exact ⟨rfl, sf_putE hXF hj hx hk⟩) | (rw [narS_2 n_53 n_68]; exact ⟨rfl, sf_putE hXF hj hx hk⟩)) (by first | rfl | exact nar_b2i _) hG (Nat.le_of_ble_eq_true rfl) (Nat.le_of_ble_eq_true rfl) dX12_put_79
      · --
        have n_53 : z.1 = 0 := (nI_eq (a := z.1) (b := 0) (by omega) (by omega)).mp c_53
        refine lv_iload_n hF.1 hF.2.1 dX12_put_56 rfl (lv_at hl 4 rfl) ?_
        refine lv_i2b hF.1 hF.2.1 dX12_put_57 rfl ?_
        refine lv_goto (tgt := 77) hF.1 hF.2.1 dX12_put_58 (by decide) ?_
        refine k_iastN hF hK hG 8 rfl ((100) * (j) + k) rfl (by omega) (by omega) dX12_put_77 (fun H locs hG => ?_)
        refine lv_iconst (v := (nI 0)) hF.1 hF.2.1 dX12_put_78 (by decide +kernel) ?_
        exact hret _ _ _ ls _ _ _ _ (by rw [spPut_t hj hx f5 hk]; first | (rw [narS_0 n_53]; exact ⟨rfl, sf_putE hXF hj hx hk⟩) | (rw [narS_1 n_53 n_68]; exact ⟨rfl, sf_putE hXF hj hx hk⟩) | (rw [narS_2 n_53 n_68]; exact ⟨rfl, sf_putE hXF hj hx hk⟩)) (by first | rfl | exact nar_b2i _) hG (Nat.le_of_ble_eq_true rfl) (Nat.le_of_ble_eq_true rfl) dX12_put_79
    · --
      have n_31 := b2i_z.mp c_31
      refine lv_bipush (v := (-13)) hF.1 hF.2.1 dX12_put_34 (by decide +kernel) ?_
      exact hret _ aE _ ls _ _ _ _ (by rw [spPut_f hj hx n_31]; exact ⟨rfl, hXF⟩) (by first | rfl | exact nar_b2i _) hG (Nat.le_of_ble_eq_true rfl) (Nat.le_of_ble_eq_true rfl) dX12_put_36
  · --
    refine lv_iload hF.1 hF.2.1 dX12_put_13 (lv_at hl 0 rfl) ?_
    exact hret _ aE _ ls _ _ _ _ (by rw [spPut_n c_10]; exact ⟨rfl, hXF⟩) (by first | rfl | exact nar_b2i _) hG (Nat.le_of_ble_eq_true rfl) (Nat.le_of_ble_eq_true rfl) dX12_put_15
