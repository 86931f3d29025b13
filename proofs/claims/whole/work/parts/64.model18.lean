/-! ===== a row's elements come into another one ===== -/
def cpI (a b : Option Sf) : Int32 := match a, b with
  | none, _ => -1
  | _, none => -1
  | some none, _ => -11
  | _, some none => -11
  | _, _ => -12
def spCopy (x : Nat → Sf) (d i e j n : Int32) : Int32 × (Nat → Sf) := match sfA x d, sfA x e with
  | some (some (.inr z)), some (some (.inr y)) => if z.1 = y.1 then (if (plB z.2.1 i n && plB y.2.1 j n) = true then (n, va_up x e.toNatClampNeg (some (.inr (y.1, y.2.1, va_cpy z.2.2 y.2.2 i.toNatClampNeg j.toNatClampNeg n.toNatClampNeg)))) else (-13, x)) else (-12, x)
  | a, b => (cpI a b, x)
section COPY
variable {x : Nat → Sf} {d e i j n : Int32} {a b : Nat}
theorem spCopy_1 (h : inB 8 d = false) : spCopy x d i e j n = (-1, x) := by
  unfold spCopy
  rw [sfA_f x h]
  rfl
theorem spCopy_2 (ha : a < 8) (h : inB 8 e = false) : spCopy x (nI a) i e j n = (-1, x) := by
  unfold spCopy
  rw [sfA_f x h, sfA_j x ha]
  match x a with
  | none => rfl
  | some (.inl _) => rfl
  | some (.inr _) => rfl
theorem spCopy_3 (ha : a < 8) (hb : b < 8) (h : x a = none) : spCopy x (nI a) i (nI b) j n = (-11, x) := by
  unfold spCopy
  rw [sfA_j x ha, sfA_j x hb, h]
  match x b with
  | none => rfl
  | some (.inl _) => rfl
  | some (.inr _) => rfl
theorem spCopy_4 (ha : a < 8) (hb : b < 8) (h : x b = none) : spCopy x (nI a) i (nI b) j n = (-11, x) := by
  unfold spCopy
  rw [sfA_j x ha, sfA_j x hb, h]
  match x a with
  | none => rfl
  | some (.inl _) => rfl
  | some (.inr _) => rfl
theorem spCopy_5 (ha : a < 8) (hb : b < 8) {u : Nat × Nat} {v : (Nat × Nat) ⊕ (Nat × Nat × (Nat → Int32))} (h : x a = some (.inl u)) (h2 : x b = some v) : spCopy x (nI a) i (nI b) j n = (-12, x) := by
  unfold spCopy
  rw [sfA_j x ha, sfA_j x hb, h, h2]
  match v with
  | .inl _ => rfl
  | .inr _ => rfl
theorem spCopy_6 (ha : a < 8) (hb : b < 8) {u : Nat × Nat} {v : (Nat × Nat) ⊕ (Nat × Nat × (Nat → Int32))} (h : x b = some (.inl u)) (h2 : x a = some v) : spCopy x (nI a) i (nI b) j n = (-12, x) := by
  unfold spCopy
  rw [sfA_j x ha, sfA_j x hb, h, h2]
  match v with
  | .inl _ => rfl
  | .inr _ => rfl
theorem spCopy_7 (ha : a < 8) (hb : b < 8) {z y : Nat × Nat × (Nat → Int32)} (h : x a = some (.inr z)) (h2 : x b = some (.inr y)) (h3 : ¬ z.1 = y.1) : spCopy x (nI a) i (nI b) j n = (-12, x) := by
  unfold spCopy
  rw [sfA_j x ha, sfA_j x hb, h, h2]
  exact if_neg h3
theorem spCopy_8 (ha : a < 8) (hb : b < 8) {z y : Nat × Nat × (Nat → Int32)} (h : x a = some (.inr z)) (h2 : x b = some (.inr y)) (h3 : z.1 = y.1) (h4 : plB z.2.1 i n = false ∨ plB y.2.1 j n = false) : spCopy x (nI a) i (nI b) j n = (-13, x) := by
  unfold spCopy
  rw [sfA_j x ha, sfA_j x hb, h, h2]
  refine (if_pos h3).trans (if_neg ?_)
  rcases h4 with h4 | h4 <;> rw [h4] <;> simp
theorem spCopy_t {I J N : Nat} (ha : a < 8) (hb : b < 8) {z y : Nat × Nat × (Nat → Int32)} (h : x a = some (.inr z)) (h2 : x b = some (.inr y)) (h3 : z.1 = y.1) (h4 : plB z.2.1 (nI I) (nI N) = true) (h5 : plB y.2.1 (nI J) (nI N) = true) (hI : I ≤ 100) (hJ : J ≤ 100) (hN : N ≤ 100) : spCopy x (nI a) (nI I) (nI b) (nI J) (nI N) = (nI N, va_up x b (some (.inr (y.1, y.2.1, va_cpy z.2.2 y.2.2 I J N)))) := by
  unfold spCopy
  rw [sfA_j x ha, sfA_j x hb, h, h2]
  refine (if_pos h3).trans ((if_pos (by rw [h4, h5]; rfl)).trans ?_)
  rw [nI_clamp (by omega), nI_clamp (by omega), nI_clamp (by omega), nI_clamp (by omega)]
theorem pl_ex (m : Nat) (hm : m ≤ 100) (h : plB m i n = true) : ∃ I N, I + N ≤ m ∧ i = nI I ∧ n = nI N := by
  obtain ⟨h1, h2, h3, h4⟩ := of_decide_eq_true h
  obtain ⟨I, hI, rfl⟩ := nI_of h1
  obtain ⟨N, hN, rfl⟩ := nI_of h2
  have h5 : I ≤ m := Nat.le_of_not_lt (fun q => h3 (nI_lt q hI))
  rw [pk_sub h5] at h4
  have h6 : N ≤ m - I := Nat.le_of_not_lt (fun q => h4 (nI_lt q hN))
  exact ⟨I, N, by omega, rfl, rfl⟩
theorem pl_t {m I N : Nat} (hm : m ≤ 100) (h : I + N ≤ m) : plB m (nI I) (nI N) = true := by
  refine decide_eq_true ⟨nI_pos (by omega), nI_pos (by omega), nI_nlt (by omega) (by omega), ?_⟩
  rw [pk_sub (by omega)]
  exact nI_nlt (by omega) (by omega)
theorem pl_1 {m : Nat} (h : i < 0) : plB m i n = false := decide_eq_false (fun q => q.1 h)
theorem pl_2 {m : Nat} (h : n < 0) : plB m i n = false := decide_eq_false (fun q => q.2.1 h)
theorem pl_3 {m I : Nat} (h : nI m - nI I < n) : plB m (nI I) n = false := decide_eq_false (fun q => q.2.2.2 h)
/-- n is not above what is left behind i -/
theorem pl_4 {m I N : Nat} (hm : m ≤ 100) (hI : I < 2 ^ 31) (hN : N < 2 ^ 31) (h : ¬ nI m - nI I < nI N) (h0 : I < 2 ^ 30) : I + N ≤ m := by
  rw [Int32.lt_iff_toInt_lt, pk_sub_toInt (by omega) h0, nI_toInt hN] at h
  omega
end COPY
theorem sf_s {aK aT aZ aE aD aF : Nat → Int32} {d : Nat} {y : Sf} (h : SF aK aT aZ aE aD aF d y) (c : ¬ aK d = 0) : ∃ v, y = some v := by
  cases y with
  | none => exact absurd (show aK d = nI 0 from h) c
  | some v => exact ⟨v, rfl⟩
/-- the row that was copied into, and the others -/
theorem SF.copy {aK aT aZ aE aD aF bE : Nat → Int32} {x : Nat → Sf} {a b I J N : Nat} {z y : Nat × Nat × (Nat → Int32)} (h : ∀ d, d < 8 → SF aK aT aZ aE aD aF d (x d)) (ha : a < 8) (hb : b < 8) (hz : x a = some (.inr z)) (hy : x b = some (.inr y)) (h1 : I + N ≤ z.2.1) (h2 : J + N ≤ y.2.1)
    (g1 : ∀ t, t < N → bE (100 * b + J + t) = aE (100 * a + I + t)) (g2 : ∀ q, (∀ t, t < N → q ≠ 100 * b + J + t) → bE q = aE q) : ∀ d, d < 8 → SF aK aT aZ bE aD aF d (va_up x b (some (.inr (y.1, y.2.1, va_cpy z.2.2 y.2.2 I J N))) d) := by
  obtain ⟨e1, e2, e3, e4, e5, e6⟩ := sf_r (h a ha) hz
  obtain ⟨f1, f2, f3, f4, f5, f6⟩ := sf_r (h b hb) hy
  refine SF.upd h ⟨f1, f2, f3, f4, f5, fun q hq => ?_⟩ (fun _ _ => ⟨rfl, rfl, rfl, rfl, rfl⟩) (fun c i hc hi => g2 _ (fun t ht => by omega))
  have hq : q < y.2.1 := hq
  show bE (100 * b + q) = va_cpy z.2.2 y.2.2 I J N q
  by_cases c : J ≤ q ∧ q < J + N
  · rw [pk_cpy_in c.1 c.2, ← e6 _ (by omega)]
    have := g1 (q - J) (by omega)
    rw [show 100 * b + J + (q - J) = 100 * b + q by omega] at this
    rw [this, show 100 * a + I + (q - J) = 100 * a + (I + (q - J)) by omega]
  · rw [pk_cpy_out (by omega), ← f6 q hq]
    exact g2 _ (fun t ht => by omega)
theorem cp_le {m I N : Nat} (hm : m ≤ 100) (hI : I < 2 ^ 31) (hN : N < 2 ^ 31) (h : ¬ nI m - nI I < nI N) : I + N ≤ m := by
  have h0 : I < 2 ^ 30 := by
    apply Nat.lt_of_not_le
    intro q
    apply h
    rw [Int32.lt_iff_toInt_lt, nI_toInt hN]
    have e : (nI m - nI I).toInt = (m : Int) - I := by
      rw [Int32.toInt_sub, nI_toInt (by omega), nI_toInt hI]
      apply Int.bmod_eq_of_le <;> omega
    omega
  exact pl_4 hm hI hN h h0
abbrev rmX12_copy : Room := { frames := 2, cells := 0, slots := 0, locals := 45 }
set_option maxHeartbeats 4000000 in
set_option maxRecDepth 100000 in
theorem c_X12_copy {l : Launch} {D : va_G} {cA : Nat → ClassId} {A : Nat → Prop}  {ob : Nat → Nat} {aS aI aR aM aK aT aZ aE aD aF aN aP aH : Nat → Int32} {vH vT vP vB vE vS : Int32} {x : Nat → Sf} (hXF : ∀ d, d < 8 → SF aK aT aZ aE aD aF d (x d)) {d i ee j mm : Int32} : Met l yX12_copy wsX12_copy rmX12_copy (va_Pc [.ref (ob 0), .int d, .int i, .int ee, .int j, .int mm] (Pre D cA A (MW cA ob aS aI aR aM aK aT aZ aE aD aF aN aP aH vH vT vP vB vE vS))) (va_Qi (fun r (u : Nat → Int32) => r = (spCopy x d i ee j mm).1 ∧ ∀ q, q < 8 → SF aK aT aZ u aD aF q ((spCopy x d i ee j mm).2 q)) (fun u t => Wd D A ((fun (u : Nat → Int32) => MW cA ob aS aI aR aM aK aT aZ u aD aF aN aP aH vH vT vP vB vE vS) u) t) A) (0) (0) A := by
  refine k_ofi (S := Nat → Int32) (F := fun (u : Nat → Int32) => MW cA ob aS aI aR aM aK aT aZ u aD aF aN aP aH vH vT vP vB vE vS) (cc := cX12_copy) (maxL := 8) (by decide) rfl (Nat.le_of_ble_eq_true rfl) ?_
  intro p e s m args below meth c Q hF hini hK hA hG hret ls hl
  have hl : lv_has ls 8 [(0, .ref (ob 0)), (1, .int d), (2, .int i), (3, .int ee), (4, .int j), (5, .int mm)] := hl
  refine lv_iload_n hF.1 hF.2.1 dX12_copy_0 rfl (lv_at hl 1 rfl) ?_
  refine k_ci (r_S (As := [.int d]) hF hK hA hG (c_X12_isShelf) (cwS 1 hF.2.2.2.2 gX12_copy_X12_isShelf rfl rfl rfl (by decide +kernel) ⟨Nat.le_of_ble_eq_true rfl, Nat.le_of_ble_eq_true rfl⟩) rfl hl.1 rfl (lv_room (Nat.le_of_ble_eq_true rfl)) dX12_copy_1 ⟨Nat.le_of_ble_eq_true rfl, Nat.le_of_ble_eq_true rfl⟩) hG (fun r_1 u_1 H locs hp_1 hG => ?_)
  subst hp_1
  refine lv_if_eq (tgt := 14) hF.1 hF.2.1 dX12_copy_4 (by decide) (fun c_4 => ?_) (fun c_4 => ?_)
  · --
    have n_4 : (inB 8 d) = false := b2i_z.mp c_4
    refine lv_iconst (v := (-1)) hF.1 hF.2.1 dX12_copy_14 (by decide +kernel) ?_
    exact hret _ aE _ ls _ _ _ _ (by first | (rw [spCopy_1 n_4]; exact ⟨rfl, hXF⟩) | (rw [spCopy_2 ha n_11]; exact ⟨rfl, hXF⟩)) (by first | rfl | exact nar_b2i _) hG (Nat.le_of_ble_eq_true rfl) (Nat.le_of_ble_eq_true rfl) dX12_copy_15
  · --
    have n_4 : (inB 8 d) = true := b2i_nz.mp c_4
    obtain ⟨a, ha, rfl⟩ := inB_ex (by omega) n_4
    refine lv_iload_n hF.1 hF.2.1 dX12_copy_7 rfl (lv_at hl 3 rfl) ?_
    refine k_ci (r_S (As := [.int ee]) hF hK hA hG (c_X12_isShelf) (cwS 1 hF.2.2.2.2 gX12_copy_X12_isShelf rfl rfl rfl (by decide +kernel) ⟨Nat.le_of_ble_eq_true rfl, Nat.le_of_ble_eq_true rfl⟩) rfl hl.1 rfl (lv_room (Nat.le_of_ble_eq_true rfl)) dX12_copy_8 ⟨Nat.le_of_ble_eq_true rfl, Nat.le_of_ble_eq_true rfl⟩) hG (fun r_8 u_8 H locs hp_8 hG => ?_)
    subst hp_8
    refine lv_if_ne (tgt := 16) hF.1 hF.2.1 dX12_copy_11 (by decide) (fun c_11 => ?_) (fun c_11 => ?_)
    · --
      have n_11 : (inB 8 ee) = true := b2i_nz.mp c_11
      obtain ⟨b, hb, rfl⟩ := inB_ex (by omega) n_11
      refine lv_aload_n hF.1 hF.2.1 dX12_copy_16 rfl (lv_at hl 0 rfl) ?_
      refine k_get (C := RX12) (T := TX12) (N := 19) hF hK hG (fun _ h => List.mem_cons_of_mem _ (List.mem_append_right _ h)) 0 rfl rfl 4 (by decide) (List.mem_of_getElem? (i := 1) rfl) (fun _ h9 => h9) rfl dX12_copy_17 ?_
      refine lv_iload_n hF.1 hF.2.1 dX12_copy_20 rfl (lv_at hl 1 rfl) ?_
      refine k_ialdN hF hK hG 5 rfl (a) rfl (by omega) (by omega) dX12_copy_21 ?_
      refine lv_if_eq (tgt := 34) hF.1 hF.2.1 dX12_copy_22 (by decide) (fun c_22 => ?_) (fun c_22 => ?_)
      · --
        refine lv_bipush (v := (-11)) hF.1 hF.2.1 dX12_copy_34 (by decide +kernel) ?_
        exact hret _ aE _ ls _ _ _ _ (by first | (rw [spCopy_3 ha hb (sf_0 (hXF a ha) c_22)]; exact ⟨rfl, hXF⟩) | (rw [spCopy_4 ha hb (sf_0 (hXF b hb) c_31)]; exact ⟨rfl, hXF⟩)) (by first | rfl | exact nar_b2i _) hG (Nat.le_of_ble_eq_true rfl) (Nat.le_of_ble_eq_true rfl) dX12_copy_36
      · --
        refine lv_aload_n hF.1 hF.2.1 dX12_copy_25 rfl (lv_at hl 0 rfl) ?_
        refine k_get (C := RX12) (T := TX12) (N := 19) hF hK hG (fun _ h => List.mem_cons_of_mem _ (List.mem_append_right _ h)) 0 rfl rfl 4 (by decide) (List.mem_of_getElem? (i := 1) rfl) (fun _ h9 => h9) rfl dX12_copy_26 ?_
        refine lv_iload_n hF.1 hF.2.1 dX12_copy_29 rfl (lv_at hl 3 rfl) ?_
        refine k_ialdN hF hK hG 5 rfl (b) rfl (by omega) (by omega) dX12_copy_30 ?_
        refine lv_if_ne (tgt := 37) hF.1 hF.2.1 dX12_copy_31 (by decide) (fun c_31 => ?_) (fun c_31 => ?_)
        · --
          refine lv_aload_n hF.1 hF.2.1 dX12_copy_37 rfl (lv_at hl 0 rfl) ?_
          refine k_get (C := RX12) (T := TX12) (N := 19) hF hK hG (fun _ h => List.mem_cons_of_mem _ (List.mem_append_right _ h)) 0 rfl rfl 4 (by decide) (List.mem_of_getElem? (i := 1) rfl) (fun _ h9 => h9) rfl dX12_copy_38 ?_
          refine lv_iload_n hF.1 hF.2.1 dX12_copy_41 rfl (lv_at hl 1 rfl) ?_
          refine k_ialdN hF hK hG 5 rfl (a) rfl (by omega) (by omega) dX12_copy_42 ?_
          refine lv_iconst (v := (nI 2)) hF.1 hF.2.1 dX12_copy_43 (by decide +kernel) ?_
          refine lv_icmp_ne (tgt := 72) hF.1 hF.2.1 dX12_copy_44 (by decide) (fun c_44 => ?_) (fun c_44 => ?_)
          · --
            obtain ⟨u, hu⟩ := sf_n2 (hXF a ha) c_22 c_44
            obtain ⟨v, hv⟩ := sf_s (hXF b hb) c_31
            have h12 := fun (i j n : Int32) => spCopy_5 (x := x) (i := i) (j := j) (n := n) ha hb hu hv
            refine lv_bipush (v := (-12)) hF.1 hF.2.1 dX12_copy_72 (by decide +kernel) ?_
            exact hret _ aE _ ls _ _ _ _ (by rw [h12]; exact ⟨rfl, hXF⟩) (by first | rfl | exact nar_b2i _) hG (Nat.le_of_ble_eq_true rfl) (Nat.le_of_ble_eq_true rfl) dX12_copy_74
          · --
            obtain ⟨z, hz, hz2, hz3⟩ := sf_2 (hXF a ha) c_44
            refine lv_aload_n hF.1 hF.2.1 dX12_copy_47 rfl (lv_at hl 0 rfl) ?_
            refine k_get (C := RX12) (T := TX12) (N := 19) hF hK hG (fun _ h => List.mem_cons_of_mem _ (List.mem_append_right _ h)) 0 rfl rfl 4 (by decide) (List.mem_of_getElem? (i := 1) rfl) (fun _ h9 => h9) rfl dX12_copy_48 ?_
            refine lv_iload_n hF.1 hF.2.1 dX12_copy_51 rfl (lv_at hl 3 rfl) ?_
            refine k_ialdN hF hK hG 5 rfl (b) rfl (by omega) (by omega) dX12_copy_52 ?_
            refine lv_iconst (v := (nI 2)) hF.1 hF.2.1 dX12_copy_53 (by decide +kernel) ?_
            refine lv_icmp_ne (tgt := 72) hF.1 hF.2.1 dX12_copy_54 (by decide) (fun c_54 => ?_) (fun c_54 => ?_)
            · --
              obtain ⟨u, hu⟩ := sf_n2 (hXF b hb) c_31 c_54
              have h12 := fun (i j n : Int32) => spCopy_6 (x := x) (i := i) (j := j) (n := n) ha hb hu hz
              refine lv_bipush (v := (-12)) hF.1 hF.2.1 dX12_copy_72 (by decide +kernel) ?_
              exact hret _ aE _ ls _ _ _ _ (by rw [h12]; exact ⟨rfl, hXF⟩) (by first | rfl | exact nar_b2i _) hG (Nat.le_of_ble_eq_true rfl) (Nat.le_of_ble_eq_true rfl) dX12_copy_74
            · --
              obtain ⟨y, hy, hy2, hy3⟩ := sf_2 (hXF b hb) c_54
              refine lv_aload_n hF.1 hF.2.1 dX12_copy_57 rfl (lv_at hl 0 rfl) ?_
              refine k_get (C := RX12) (T := TX12) (N := 19) hF hK hG (fun _ h => List.mem_cons_of_mem _ (List.mem_append_right _ h)) 0 rfl rfl 5 (by decide) (List.mem_of_getElem? (i := 2) rfl) (fun _ h9 => h9) rfl dX12_copy_58 ?_
              refine lv_iload_n hF.1 hF.2.1 dX12_copy_61 rfl (lv_at hl 1 rfl) ?_
              refine k_ialdN hF hK hG 6 rfl (a) rfl (by omega) (by omega) dX12_copy_62 ?_
              refine lv_aload_n hF.1 hF.2.1 dX12_copy_63 rfl (lv_at hl 0 rfl) ?_
              refine k_get (C := RX12) (T := TX12) (N := 19) hF hK hG (fun _ h => List.mem_cons_of_mem _ (List.mem_append_right _ h)) 0 rfl rfl 5 (by decide) (List.mem_of_getElem? (i := 2) rfl) (fun _ h9 => h9) rfl dX12_copy_64 ?_
              refine lv_iload_n hF.1 hF.2.1 dX12_copy_67 rfl (lv_at hl 3 rfl) ?_
              refine k_ialdN hF hK hG 6 rfl (b) rfl (by omega) (by omega) dX12_copy_68 ?_
              refine lv_icmp_eq (tgt := 75) hF.1 hF.2.1 dX12_copy_69 (by decide) (fun c_69 => ?_) (fun c_69 => ?_)
              · --
                have hzy : z.1 = y.1 := by rw [hz2, hy2] at c_69; exact (nI_eq (by omega) (by omega)).mp c_69
                obtain ⟨f1, f2, f3, f4, f5, f6⟩ := sf_r (hXF a ha) hz
                obtain ⟨g1, g2, g3, g4, g5, g6⟩ := sf_r (hXF b hb) hy
                refine lv_iload hF.1 hF.2.1 dX12_copy_75 (lv_at hl 5 rfl) ?_
                refine lv_if_lt (tgt := 116) hF.1 hF.2.1 dX12_copy_77 (by decide) (fun c_77 => ?_) (fun c_77 => ?_)
                · --
                  refine lv_bipush (v := (-13)) hF.1 hF.2.1 dX12_copy_116 (by decide +kernel) ?_
                  exact hret _ aE _ ls _ _ _ _ (by rw [spCopy_8 ha hb hz hy hzy (by first | exact Or.inl (pl_2 c_77) | exact Or.inl (pl_1 c_81) | exact Or.inr (pl_1 c_86) | exact Or.inl (pl_3 c_99) | exact Or.inr (pl_3 (Int32.not_le.mp c_113)))]; exact ⟨rfl, hXF⟩) (by first | rfl | exact nar_b2i _) hG (Nat.le_of_ble_eq_true rfl) (Nat.le_of_ble_eq_true rfl) dX12_copy_118
                · --
                  obtain ⟨N_, hN, rfl⟩ := nI_of c_77
                  refine lv_iload_n hF.1 hF.2.1 dX12_copy_80 rfl (lv_at hl 2 rfl) ?_
                  refine lv_if_lt (tgt := 116) hF.1 hF.2.1 dX12_copy_81 (by decide) (fun c_81 => ?_) (fun c_81 => ?_)
                  · --
                    refine lv_bipush (v := (-13)) hF.1 hF.2.1 dX12_copy_116 (by decide +kernel) ?_
                    exact hret _ aE _ ls _ _ _ _ (by rw [spCopy_8 ha hb hz hy hzy (by first | exact Or.inl (pl_2 c_77) | exact Or.inl (pl_1 c_81) | exact Or.inr (pl_1 c_86) | exact Or.inl (pl_3 c_99) | exact Or.inr (pl_3 (Int32.not_le.mp c_113)))]; exact ⟨rfl, hXF⟩) (by first | rfl | exact nar_b2i _) hG (Nat.le_of_ble_eq_true rfl) (Nat.le_of_ble_eq_true rfl) dX12_copy_118
                  · --
                    obtain ⟨I_, hI, rfl⟩ := nI_of c_81
                    refine lv_iload hF.1 hF.2.1 dX12_copy_84 (lv_at hl 4 rfl) ?_
                    refine lv_if_lt (tgt := 116) hF.1 hF.2.1 dX12_copy_86 (by decide) (fun c_86 => ?_) (fun c_86 => ?_)
                    · --
                      refine lv_bipush (v := (-13)) hF.1 hF.2.1 dX12_copy_116 (by decide +kernel) ?_
                      exact hret _ aE _ ls _ _ _ _ (by rw [spCopy_8 ha hb hz hy hzy (by first | exact Or.inl (pl_2 c_77) | exact Or.inl (pl_1 c_81) | exact Or.inr (pl_1 c_86) | exact Or.inl (pl_3 c_99) | exact Or.inr (pl_3 (Int32.not_le.mp c_113)))]; exact ⟨rfl, hXF⟩) (by first | rfl | exact nar_b2i _) hG (Nat.le_of_ble_eq_true rfl) (Nat.le_of_ble_eq_true rfl) dX12_copy_118
                    · --
                      obtain ⟨J_, hJ, rfl⟩ := nI_of c_86
                      refine lv_iload hF.1 hF.2.1 dX12_copy_89 (lv_at hl 5 rfl) ?_
                      refine lv_aload_n hF.1 hF.2.1 dX12_copy_91 rfl (lv_at hl 0 rfl) ?_
                      refine k_get (C := RX12) (T := TX12) (N := 19) hF hK hG (fun _ h => List.mem_cons_of_mem _ (List.mem_append_right _ h)) 0 rfl rfl 6 (by decide) (List.mem_of_getElem? (i := 3) rfl) (fun _ h9 => h9) rfl dX12_copy_92 ?_
                      refine lv_iload_n hF.1 hF.2.1 dX12_copy_95 rfl (lv_at hl 1 rfl) ?_
                      refine k_ialdN hF hK hG 7 rfl (a) rfl (by omega) (by omega) dX12_copy_96 ?_
                      rw [f3]
                      refine lv_iload_n hF.1 hF.2.1 dX12_copy_97 rfl (lv_at hl 2 rfl) ?_
                      refine lv_isub hF.1 hF.2.1 dX12_copy_98 ?_
                      refine lv_icmp_gt (tgt := 116) hF.1 hF.2.1 dX12_copy_99 (by decide) (fun c_99 => ?_) (fun c_99 => ?_)
                      · --
                        refine lv_bipush (v := (-13)) hF.1 hF.2.1 dX12_copy_116 (by decide +kernel) ?_
                        exact hret _ aE _ ls _ _ _ _ (by rw [spCopy_8 ha hb hz hy hzy (by first | exact Or.inl (pl_2 c_77) | exact Or.inl (pl_1 c_81) | exact Or.inr (pl_1 c_86) | exact Or.inl (pl_3 c_99) | exact Or.inr (pl_3 (Int32.not_le.mp c_113)))]; exact ⟨rfl, hXF⟩) (by first | rfl | exact nar_b2i _) hG (Nat.le_of_ble_eq_true rfl) (Nat.le_of_ble_eq_true rfl) dX12_copy_118
                      · --
                        refine lv_iload hF.1 hF.2.1 dX12_copy_102 (lv_at hl 5 rfl) ?_
                        refine lv_aload_n hF.1 hF.2.1 dX12_copy_104 rfl (lv_at hl 0 rfl) ?_
                        refine k_get (C := RX12) (T := TX12) (N := 19) hF hK hG (fun _ h => List.mem_cons_of_mem _ (List.mem_append_right _ h)) 0 rfl rfl 6 (by decide) (List.mem_of_getElem? (i := 3) rfl) (fun _ h9 => h9) rfl dX12_copy_105 ?_
                        refine lv_iload_n hF.1 hF.2.1 dX12_copy_108 rfl (lv_at hl 3 rfl) ?_
                        refine k_ialdN hF hK hG 7 rfl (b) rfl (by omega) (by omega) dX12_copy_109 ?_
                        rw [g3]
                        refine lv_iload hF.1 hF.2.1 dX12_copy_110 (lv_at hl 4 rfl) ?_
                        refine lv_isub hF.1 hF.2.1 dX12_copy_112 ?_
                        refine lv_icmp_le (tgt := 119) hF.1 hF.2.1 dX12_copy_113 (by decide) (fun c_113 => ?_) (fun c_113 => ?_)
                        · --
                          have e1 : I_ + N_ ≤ z.2.1 := cp_le f5 hI hN (Int32.not_lt.mpr (Int32.not_lt.mp c_99))
                          have e2 : J_ + N_ ≤ y.2.1 := cp_le g5 hJ hN (Int32.not_lt.mpr c_113)
                          rcases Nat.lt_or_ge J_ I_ with cij | cij
                          · --
                            refine lv_iconst (v := (nI 0)) hF.1 hF.2.1 dX12_copy_119 (by decide +kernel) ?_
                            refine lv_istore (lv' := [(6, .int (nI 0)), (0, .ref (ob 0)), (1, .int (nI a)), (2, .int (nI I_)), (3, .int (nI b)), (4, .int (nI J_)), (5, .int (nI N_))]) hF.1 hF.2.1 dX12_copy_120 hl (by decide) rfl (fun ls hl => ?_)
                            have lp122 : ∀ (fuel : Nat), ∀ (k : Nat) (bE : Nat → Int32), (hk : k ≤ N_) → (ha_ : ∀ t, t < k → bE (100 * b + J_ + t) = aE (100 * a + I_ + t)) → (hb_ : ∀ q, (∀ t, t < k → q ≠ 100 * b + J_ + t) → bE q = aE q) → (N_ - k) < fuel → ∀ (H : Heap) (locs : List Loc), Gd D A (MW cA ob aS aI aR aM aK aT aZ bE aD aF aN aP aH vH vT vP vB vE vS) s.heap H locs → ∀ ls : Array Slot, lv_has ls 8 [(0, .ref (ob 0)), (1, .int (nI a)), (2, .int (nI I_)), (3, .int (nI b)), (4, .int (nI J_)), (5, .int (nI N_)), (6, .int (nI k))] → W p l e rmX12_copy s m args below meth c H locs (0) (0) Q (F0 m 122 ls []) := by
                              intro fuel
                              induction fuel with
                              | zero => intro k bE hk ha_ hb_ hmu; exact absurd hmu (Nat.not_lt_zero _)
                              | succ fuel ih122 =>
                                intro k bE hk ha_ hb_ hmu H locs hG ls hl
                                refine lv_iload hF.1 hF.2.1 dX12_copy_122 (lv_at hl 6 rfl) ?_
                                refine lv_iload hF.1 hF.2.1 dX12_copy_124 (lv_at hl 5 rfl) ?_
                                refine lv_icmp_ge (tgt := 184) hF.1 hF.2.1 dX12_copy_126 (by decide) (fun c_126 => ?_) (fun c_126 => ?_)
                                · --
                                  have n_126 : N_ ≤ k := (nI_leI (a := N_) (b := k) (by omega) (by omega)).mp c_126
                                  refine lv_iload hF.1 hF.2.1 dX12_copy_184 (lv_at hl 5 rfl) ?_
                                  exact hret _ _ _ ls _ _ _ _ (by obtain rfl : k = N_ := (by omega); rw [spCopy_t ha hb hz hy hzy (pl_t f5 e1) (pl_t g5 e2) (by omega) (by omega) (by omega)]; exact ⟨rfl, SF.copy hXF ha hb hz hy e1 e2 (by first | exact ha_ | exact fun t ht => ha_ t (by omega) ht) (by first | exact hb_ | exact fun q h => hb_ q (fun t _ h2 => h t h2))⟩) (by first | rfl | exact nar_b2i _) hG (Nat.le_of_ble_eq_true rfl) (Nat.le_of_ble_eq_true rfl) dX12_copy_186
                                · --
                                  have n_126 : ¬ (N_ ≤ k) := fun zz9 => c_126 ((nI_leI (a := N_) (b := k) (by omega) (by omega)).mpr zz9)
                                  refine lv_iload_n hF.1 hF.2.1 dX12_copy_129 rfl (lv_at hl 2 rfl) ?_
                                  refine lv_iload hF.1 hF.2.1 dX12_copy_130 (lv_at hl 4 rfl) ?_
                                  refine lv_icmp_le (tgt := 140) hF.1 hF.2.1 dX12_copy_132 (by decide) (fun c_132 => absurd ((nI_leI (a := I_) (b := J_) (by omega) (by omega)).mp c_132) (by omega)) (fun c_132 => ?_)
                                  refine lv_iload hF.1 hF.2.1 dX12_copy_135 (lv_at hl 6 rfl) ?_
                                  refine lv_goto (tgt := 147) hF.1 hF.2.1 dX12_copy_137 (by decide) ?_
                                  refine lv_istore (lv' := [(7, .int (nI k)), (0, .ref (ob 0)), (1, .int (nI a)), (2, .int (nI I_)), (3, .int (nI b)), (4, .int (nI J_)), (5, .int (nI N_)), (6, .int (nI k))]) hF.1 hF.2.1 dX12_copy_147 hl (by decide) rfl (fun ls hl => ?_)
                                  refine lv_aload_n hF.1 hF.2.1 dX12_copy_149 rfl (lv_at hl 1 rfl) ?_
                                  refine k_get (C := RX12) (T := TX12) (N := 19) hF hK hG (fun _ h => List.mem_cons_of_mem _ (List.mem_append_right _ h)) 0 rfl rfl 7 (by decide) (List.mem_of_getElem? (i := 4) rfl) (fun _ h9 => h9) rfl dX12_copy_150 ?_
                                  refine lv_bipush (v := (nI 100)) hF.1 hF.2.1 dX12_copy_153 (by decide +kernel) ?_
                                  refine lv_iload_n hF.1 hF.2.1 dX12_copy_155 rfl (lv_at hl 4 rfl) ?_
                                  refine lv_imul hF.1 hF.2.1 dX12_copy_156 ?_
                                  rw [pk_mul]
                                  refine lv_iload hF.1 hF.2.1 dX12_copy_157 (lv_at hl 5 rfl) ?_
                                  refine lv_iadd hF.1 hF.2.1 dX12_copy_159 ?_
                                  rw [nI_add]
                                  refine lv_iload hF.1 hF.2.1 dX12_copy_160 (lv_at hl 0 rfl) ?_
                                  refine lv_iadd hF.1 hF.2.1 dX12_copy_162 ?_
                                  rw [nI_add]
                                  refine lv_aload_n hF.1 hF.2.1 dX12_copy_163 rfl (lv_at hl 1 rfl) ?_
                                  refine k_get (C := RX12) (T := TX12) (N := 19) hF hK hG (fun _ h => List.mem_cons_of_mem _ (List.mem_append_right _ h)) 0 rfl rfl 7 (by decide) (List.mem_of_getElem? (i := 4) rfl) (fun _ h9 => h9) rfl dX12_copy_164 ?_
                                  refine lv_bipush (v := (nI 100)) hF.1 hF.2.1 dX12_copy_167 (by decide +kernel) ?_
                                  refine lv_iload_n hF.1 hF.2.1 dX12_copy_169 rfl (lv_at hl 2 rfl) ?_
                                  refine lv_imul hF.1 hF.2.1 dX12_copy_170 ?_
                                  rw [pk_mul]
                                  refine lv_iload_n hF.1 hF.2.1 dX12_copy_171 rfl (lv_at hl 3 rfl) ?_
                                  refine lv_iadd hF.1 hF.2.1 dX12_copy_172 ?_
                                  rw [nI_add]
                                  refine lv_iload hF.1 hF.2.1 dX12_copy_173 (lv_at hl 0 rfl) ?_
                                  refine lv_iadd hF.1 hF.2.1 dX12_copy_175 ?_
                                  rw [nI_add]
                                  refine k_ialdN hF hK hG 8 rfl (100 * a + I_ + k) rfl (by omega) (by omega) dX12_copy_176 ?_
                                  have hrd : bE (100 * a + I_ + (k)) = aE (100 * a + I_ + (k)) := hb_ _ (by omega)
                                  refine k_iastN hF hK hG 8 rfl (100 * b + J_ + k) rfl (by omega) (by omega) dX12_copy_177 (fun H locs hG => ?_)
                                  refine lv_iinc (v := (nI (k + 1))) (lv' := [(6, .int (nI (k + 1))), (7, .int (nI k)), (0, .ref (ob 0)), (1, .int (nI a)), (2, .int (nI I_)), (3, .int (nI b)), (4, .int (nI J_)), (5, .int (nI N_))]) hF.1 hF.2.1 dX12_copy_178 hl (k := 7) rfl (nI_inc _ _) (by decide) rfl (fun ls hl => ?_)
                                  refine lv_goto (tgt := 122) hF.1 hF.2.1 dX12_copy_181 (by decide) ?_
                                  exact ih122 (k + 1) (_) (by omega) (lt_s (fun t h => by rw [pk_un (by omega)]; exact ha_ t h) (by rw [pk_us]; exact hrd)) (fun q h => by rw [pk_un (h k (Nat.lt_succ_self k))]; exact hb_ q (fun t ht => h t (by omega))) (by omega) _ _ hG ls (lv_sub hl [2, 3, 4, 5, 6, 7, 0] rfl)
                            exact lp122 _ (0) (aE) (by omega) (fun t h => absurd h (by omega)) (fun _ _ => rfl) (Nat.lt_succ_self _) _ _ hG ls (lv_sub hl [1, 2, 3, 4, 5, 6, 0] rfl)
                          · --
                            refine lv_iconst (v := (nI 0)) hF.1 hF.2.1 dX12_copy_119 (by decide +kernel) ?_
                            refine lv_istore (lv' := [(6, .int (nI 0)), (0, .ref (ob 0)), (1, .int (nI a)), (2, .int (nI I_)), (3, .int (nI b)), (4, .int (nI J_)), (5, .int (nI N_))]) hF.1 hF.2.1 dX12_copy_120 hl (by decide) rfl (fun ls hl => ?_)
                            have lp122 : ∀ (fuel : Nat), ∀ (k : Nat) (bE : Nat → Int32), (hk : k ≤ N_) → (ha_ : ∀ t, N_ ≤ t + k → t < N_ → bE (100 * b + J_ + t) = aE (100 * a + I_ + t)) → (hb_ : ∀ q, (∀ t, N_ ≤ t + k → t < N_ → q ≠ 100 * b + J_ + t) → bE q = aE q) → (N_ - k) < fuel → ∀ (H : Heap) (locs : List Loc), Gd D A (MW cA ob aS aI aR aM aK aT aZ bE aD aF aN aP aH vH vT vP vB vE vS) s.heap H locs → ∀ ls : Array Slot, lv_has ls 8 [(0, .ref (ob 0)), (1, .int (nI a)), (2, .int (nI I_)), (3, .int (nI b)), (4, .int (nI J_)), (5, .int (nI N_)), (6, .int (nI k))] → W p l e rmX12_copy s m args below meth c H locs (0) (0) Q (F0 m 122 ls []) := by
                              intro fuel
                              induction fuel with
                              | zero => intro k bE hk ha_ hb_ hmu; exact absurd hmu (Nat.not_lt_zero _)
                              | succ fuel ih122 =>
                                intro k bE hk ha_ hb_ hmu H locs hG ls hl
                                refine lv_iload hF.1 hF.2.1 dX12_copy_122 (lv_at hl 6 rfl) ?_
                                refine lv_iload hF.1 hF.2.1 dX12_copy_124 (lv_at hl 5 rfl) ?_
                                refine lv_icmp_ge (tgt := 184) hF.1 hF.2.1 dX12_copy_126 (by decide) (fun c_126 => ?_) (fun c_126 => ?_)
                                · --
                                  have n_126 : N_ ≤ k := (nI_leI (a := N_) (b := k) (by omega) (by omega)).mp c_126
                                  refine lv_iload hF.1 hF.2.1 dX12_copy_184 (lv_at hl 5 rfl) ?_
                                  exact hret _ _ _ ls _ _ _ _ (by obtain rfl : k = N_ := (by omega); rw [spCopy_t ha hb hz hy hzy (pl_t f5 e1) (pl_t g5 e2) (by omega) (by omega) (by omega)]; exact ⟨rfl, SF.copy hXF ha hb hz hy e1 e2 (by first | exact ha_ | exact fun t ht => ha_ t (by omega) ht) (by first | exact hb_ | exact fun q h => hb_ q (fun t _ h2 => h t h2))⟩) (by first | rfl | exact nar_b2i _) hG (Nat.le_of_ble_eq_true rfl) (Nat.le_of_ble_eq_true rfl) dX12_copy_186
                                · --
                                  have n_126 : ¬ (N_ ≤ k) := fun zz9 => c_126 ((nI_leI (a := N_) (b := k) (by omega) (by omega)).mpr zz9)
                                  refine lv_iload_n hF.1 hF.2.1 dX12_copy_129 rfl (lv_at hl 2 rfl) ?_
                                  refine lv_iload hF.1 hF.2.1 dX12_copy_130 (lv_at hl 4 rfl) ?_
                                  refine lv_icmp_le (tgt := 140) hF.1 hF.2.1 dX12_copy_132 (by decide) (fun c_132 => ?_) (fun c_132 => absurd ((nI_leI (a := I_) (b := J_) (by omega) (by omega)).mpr cij) c_132)
                                  refine lv_iload hF.1 hF.2.1 dX12_copy_140 (lv_at hl 5 rfl) ?_
                                  refine lv_iconst (v := (nI 1)) hF.1 hF.2.1 dX12_copy_142 (by decide +kernel) ?_
                                  refine lv_isub hF.1 hF.2.1 dX12_copy_143 ?_
                                  rw [pk_sub (by omega)]
                                  refine lv_iload hF.1 hF.2.1 dX12_copy_144 (lv_at hl 6 rfl) ?_
                                  refine lv_isub hF.1 hF.2.1 dX12_copy_146 ?_
                                  rw [pk_sub (by omega)]
                                  refine lv_istore (lv' := [(7, .int (nI ((N_ - 1 - k)))), (0, .ref (ob 0)), (1, .int (nI a)), (2, .int (nI I_)), (3, .int (nI b)), (4, .int (nI J_)), (5, .int (nI N_)), (6, .int (nI k))]) hF.1 hF.2.1 dX12_copy_147 hl (by decide) rfl (fun ls hl => ?_)
                                  refine lv_aload_n hF.1 hF.2.1 dX12_copy_149 rfl (lv_at hl 1 rfl) ?_
                                  refine k_get (C := RX12) (T := TX12) (N := 19) hF hK hG (fun _ h => List.mem_cons_of_mem _ (List.mem_append_right _ h)) 0 rfl rfl 7 (by decide) (List.mem_of_getElem? (i := 4) rfl) (fun _ h9 => h9) rfl dX12_copy_150 ?_
                                  refine lv_bipush (v := (nI 100)) hF.1 hF.2.1 dX12_copy_153 (by decide +kernel) ?_
                                  refine lv_iload_n hF.1 hF.2.1 dX12_copy_155 rfl (lv_at hl 4 rfl) ?_
                                  refine lv_imul hF.1 hF.2.1 dX12_copy_156 ?_
                                  rw [pk_mul]
                                  refine lv_iload hF.1 hF.2.1 dX12_copy_157 (lv_at hl 5 rfl) ?_
                                  refine lv_iadd hF.1 hF.2.1 dX12_copy_159 ?_
                                  rw [nI_add]
                                  refine lv_iload hF.1 hF.2.1 dX12_copy_160 (lv_at hl 0 rfl) ?_
                                  refine lv_iadd hF.1 hF.2.1 dX12_copy_162 ?_
                                  rw [nI_add]
                                  refine lv_aload_n hF.1 hF.2.1 dX12_copy_163 rfl (lv_at hl 1 rfl) ?_
                                  refine k_get (C := RX12) (T := TX12) (N := 19) hF hK hG (fun _ h => List.mem_cons_of_mem _ (List.mem_append_right _ h)) 0 rfl rfl 7 (by decide) (List.mem_of_getElem? (i := 4) rfl) (fun _ h9 => h9) rfl dX12_copy_164 ?_
                                  refine lv_bipush (v := (nI 100)) hF.1 hF.2.1 dX12_copy_167 (by decide +kernel) ?_
                                  refine lv_iload_n hF.1 hF.2.1 dX12_copy_169 rfl (lv_at hl 2 rfl) ?_
                                  refine lv_imul hF.1 hF.2.1 dX12_copy_170 ?_
                                  rw [pk_mul]
                                  refine lv_iload_n hF.1 hF.2.1 dX12_copy_171 rfl (lv_at hl 3 rfl) ?_
                                  refine lv_iadd hF.1 hF.2.1 dX12_copy_172 ?_
                                  rw [nI_add]
                                  refine lv_iload hF.1 hF.2.1 dX12_copy_173 (lv_at hl 0 rfl) ?_
                                  refine lv_iadd hF.1 hF.2.1 dX12_copy_175 ?_
                                  rw [nI_add]
                                  refine k_ialdN hF hK hG 8 rfl (100 * a + I_ + (N_ - 1 - k)) rfl (by omega) (by omega) dX12_copy_176 ?_
                                  have hrd : bE (100 * a + I_ + ((N_ - 1 - k))) = aE (100 * a + I_ + ((N_ - 1 - k))) := hb_ _ (by omega)
                                  refine k_iastN hF hK hG 8 rfl (100 * b + J_ + (N_ - 1 - k)) rfl (by omega) (by omega) dX12_copy_177 (fun H locs hG => ?_)
                                  refine lv_iinc (v := (nI (k + 1))) (lv' := [(6, .int (nI (k + 1))), (7, .int (nI ((N_ - 1 - k)))), (0, .ref (ob 0)), (1, .int (nI a)), (2, .int (nI I_)), (3, .int (nI b)), (4, .int (nI J_)), (5, .int (nI N_))]) hF.1 hF.2.1 dX12_copy_178 hl (k := 7) rfl (nI_inc _ _) (by decide) rfl (fun ls hl => ?_)
                                  refine lv_goto (tgt := 122) hF.1 hF.2.1 dX12_copy_181 (by decide) ?_
                                  exact ih122 (k + 1) (_) (by omega) (fun t h h2 => by by_cases e : t = N_ - 1 - k; rw [e, pk_us]; exact hrd; rw [pk_un (by omega)]; exact ha_ t (by omega) h2) (fun q h => by rw [pk_un (h (N_ - 1 - k) (by omega) (by omega))]; exact hb_ q (fun t ht h2 => h t (by omega) h2)) (by omega) _ _ hG ls (lv_sub hl [2, 3, 4, 5, 6, 7, 0] rfl)
                            exact lp122 _ (0) (aE) (by omega) (fun t h h2 => absurd h (by omega)) (fun _ _ => rfl) (Nat.lt_succ_self _) _ _ hG ls (lv_sub hl [1, 2, 3, 4, 5, 6, 0] rfl)
                        · --
                          refine lv_bipush (v := (-13)) hF.1 hF.2.1 dX12_copy_116 (by decide +kernel) ?_
                          exact hret _ aE _ ls _ _ _ _ (by rw [spCopy_8 ha hb hz hy hzy (by first | exact Or.inl (pl_2 c_77) | exact Or.inl (pl_1 c_81) | exact Or.inr (pl_1 c_86) | exact Or.inl (pl_3 c_99) | exact Or.inr (pl_3 (Int32.not_le.mp c_113)))]; exact ⟨rfl, hXF⟩) (by first | rfl | exact nar_b2i _) hG (Nat.le_of_ble_eq_true rfl) (Nat.le_of_ble_eq_true rfl) dX12_copy_118
              · --
                have hzy : ¬ z.1 = y.1 := fun q => c_69 (by rw [hz2, hy2, q])
                have h12 := fun (i j n : Int32) => spCopy_7 (x := x) (i := i) (j := j) (n := n) ha hb hz hy hzy
                refine lv_bipush (v := (-12)) hF.1 hF.2.1 dX12_copy_72 (by decide +kernel) ?_
                exact hret _ aE _ ls _ _ _ _ (by rw [h12]; exact ⟨rfl, hXF⟩) (by first | rfl | exact nar_b2i _) hG (Nat.le_of_ble_eq_true rfl) (Nat.le_of_ble_eq_true rfl) dX12_copy_74
        · --
          refine lv_bipush (v := (-11)) hF.1 hF.2.1 dX12_copy_34 (by decide +kernel) ?_
          exact hret _ aE _ ls _ _ _ _ (by first | (rw [spCopy_3 ha hb (sf_0 (hXF a ha) c_22)]; exact ⟨rfl, hXF⟩) | (rw [spCopy_4 ha hb (sf_0 (hXF b hb) c_31)]; exact ⟨rfl, hXF⟩)) (by first | rfl | exact nar_b2i _) hG (Nat.le_of_ble_eq_true rfl) (Nat.le_of_ble_eq_true rfl) dX12_copy_36
    · --
      have n_11 : (inB 8 ee) = false := b2i_z.mp c_11
      refine lv_iconst (v := (-1)) hF.1 hF.2.1 dX12_copy_14 (by decide +kernel) ?_
      exact hret _ aE _ ls _ _ _ _ (by first | (rw [spCopy_1 n_4]; exact ⟨rfl, hXF⟩) | (rw [spCopy_2 ha n_11]; exact ⟨rfl, hXF⟩)) (by first | rfl | exact nar_b2i _) hG (Nat.le_of_ble_eq_true rfl) (Nat.le_of_ble_eq_true rfl) dX12_copy_15
