def wsL_element_r1 : List Cond := [Cond.classLink RL 13 "java/lang/IllegalArgumentException", Cond.classLink RL 15 "java/lang/IllegalStateException", Cond.methodLink RL 7 yX11_element, Cond.instanceMethod yX11_element, Cond.selects RX11 yX11_element yX11_element, Cond.initialized RX11, Cond.code yX11_element cX11_element 4 (some .long), Cond.classLink RX11 224 "java/lang/IllegalArgumentException", Cond.initialized "java/lang/IllegalArgumentException", Cond.classLink RX11 231 "java/lang/IllegalStateException", Cond.initialized "java/lang/IllegalStateException", Cond.methodLink RX11 179 yX11_isShelf, Cond.static yX11_isShelf, Cond.code yX11_isShelf cX11_isShelf 1 (some .boolean), Cond.methodLink RX11 209 yX11_rowOn, Cond.instanceMethod yX11_rowOn, Cond.selects RX11 yX11_rowOn yX11_rowOn, Cond.code yX11_rowOn cX11_rowOn 2 (some (.object "AboveIsShut$Row")), Cond.fieldLink RX11 37 "AboveIsShut" "keptRows" "[LAboveIsShut$Row;", Cond.methodLink RX11 218 yX6_hasPlace, Cond.instanceMethod yX6_hasPlace, Cond.selects RX6 yX6_hasPlace yX6_hasPlace, Cond.initialized RX6, Cond.code yX6_hasPlace cX6_hasPlace 2 (some .boolean)]
def wsL_element_r2 : List Cond := [Cond.fieldLink RX6 22 "AboveIsShut$Row" "elements" "[I", Cond.methodLink RX11 73 yX6_valueAt, Cond.instanceMethod yX6_valueAt, Cond.selects RX6 yX6_valueAt yX6_valueAt, Cond.code yX6_valueAt cX6_valueAt 2 (some .int), Cond.methodLink RX6 26 yX6_hasPlace]
def wsL_element : List Cond := .codeWith yL_element cL_element 5 (some .int) [(0, 9, 12, 13), (0, 9, 16, 15)] :: ((wsL_element_r1 ++ wsL_element_r2) ++ wsX110 ++ wsX60 ++ (vx_atS RX11 228 "java/lang/IllegalArgumentException" ["java/lang/RuntimeException", "java/lang/Exception"]).filter goodWord ++ (vx_atS RX11 235 "java/lang/IllegalStateException" ["java/lang/RuntimeException", "java/lang/Exception"]).filter goodWord)
theorem ggL_element_X11_element : GoodIn wsL_element wsX11_element := goodIn_ca (goodIn_ca (goodIn_r _ [7, 8, 9, 10, 11, 12, 13, 6, 14, 15, 16, 17, 18, 19, 20, 21, 22, 23, 24, 25, 26, 27, 28, 29, 30, 31, 32, 33, 34, 35, 36, 37, 38, 39, 40, 41] (by decide +kernel) (by decide +kernel)) (goodIn_sub (fun _ h => List.mem_cons_of_mem _ (List.mem_append_left _ (List.mem_append_right _ h))) (by decide +kernel))) (goodIn_sub (fun _ h => List.mem_cons_of_mem _ (List.mem_append_right _ h)) (by decide +kernel))
set_option maxRecDepth 20000 in
theorem gL_element_X11_element : GoodIn wsL_element (wsV RL 7 RX11 yX11_element wsX11_element) := goodIn_app (goodIn_of _ (by decide +kernel)) ggL_element_X11_element
theorem dL_element_0 : decode cL_element 0 = .ok (.aload_n 3, 1) := by decide +kernel
theorem dL_element_1 : decode cL_element 1 = .ok (.iconst 0, 1) := by decide +kernel
theorem dL_element_2 : decode cL_element 2 = .ok (.aload_n 0, 1) := by decide +kernel
theorem dL_element_3 : decode cL_element 3 = .ok (.iload_n 1, 1) := by decide +kernel
theorem dL_element_4 : decode cL_element 4 = .ok (.iload_n 2, 1) := by decide +kernel
theorem dL_element_5 : decode cL_element 5 = .ok (.invokevirtual 7, 3) := by decide +kernel
theorem dL_element_8 : decode cL_element 8 = .ok (.lastore, 1) := by decide +kernel
theorem dL_element_9 : decode cL_element 9 = .ok (.goto 11, 3) := by decide +kernel
theorem dL_element_12 : decode cL_element 12 = .ok (.astore 4, 2) := by decide +kernel
theorem dL_element_14 : decode cL_element 14 = .ok (.iconst 1, 1) := by decide +kernel
theorem dL_element_15 : decode cL_element 15 = .ok (.ireturn, 1) := by decide +kernel
theorem dL_element_16 : decode cL_element 16 = .ok (.astore 4, 2) := by decide +kernel
theorem dL_element_18 : decode cL_element 18 = .ok (.iconst 2, 1) := by decide +kernel
theorem dL_element_19 : decode cL_element 19 = .ok (.ireturn, 1) := by decide +kernel
theorem dL_element_20 : decode cL_element 20 = .ok (.iconst 0, 1) := by decide +kernel
theorem dL_element_21 : decode cL_element 21 = .ok (.ireturn, 1) := by decide +kernel
def elX (x : Nat → Sf) (d i : Int32) (E : String) : Prop := (E = EA ∧ sfA x d = none) ∨ (E = EI ∧ ∃ y, sfA x d = some y ∧ ∀ z, y = some (.inr z) → inB z.2.1 i = false)
def elR (x : Nat → Sf) (d i : Int32) (r : Int64) : Prop := ∃ (z : Nat × Nat × (Nat → Int32)) (k : Nat), sfA x d = some (some (.inr z)) ∧ k < z.2.1 ∧ i = nI k ∧ r = (z.2.2 k).toInt64
section XOUT
variable {cA : Nat → ClassId} {ob : Nat → Nat} {mb ss sh sp : Nat → Int32} {mt : Nat → Int64} {rc n o : Nat} {dr : Nat → Option Nat} {n1 o1 : Nat} {dr1 : Nat → Option Nat} {n2 o2 : Nat} {dr2 dk rk : Nat → Option Nat} {kt : Nat → Int32} {tk : Int32} {pool : va_W} {z y : Nat × va_E}
theorem XW_out : (XW cA ob mb ss sh sp mt rc n o dr n1 o1 dr1 n2 o2 dr2 dk rk kt tk (pool ++ [z]))[pool.length + 16]? = some z := by
  show (pool ++ [z])[pool.length]? = some z
  rw [List.getElem?_append_right (Nat.le_refl _), Nat.sub_self]
  rfl
theorem XW_set : (XW cA ob mb ss sh sp mt rc n o dr n1 o1 dr1 n2 o2 dr2 dk rk kt tk (pool ++ [z])).set (pool.length + 16) y = XW cA ob mb ss sh sp mt rc n o dr n1 o1 dr1 n2 o2 dr2 dk rk kt tk (pool ++ [y]) := by
  have h : (pool ++ [z]).set pool.length y = pool ++ [y] := by
    rw [List.set_append_right _ _ (Nat.le_refl _), Nat.sub_self]
    rfl
  rw [← h]
  rfl
end XOUT

abbrev rmX11_element : Room := { frames := 6, cells := 1, slots := 6, locals := 120 }
set_option maxHeartbeats 4000000 in
set_option maxRecDepth 100000 in
theorem c_X11_element {l : Launch} (hfl : l.stackTraces = false) {D : va_G} {cA : Nat → ClassId} {A : Nat → Prop} {ob : Nat → Nat} {mb ss sh sp : Nat → Int32} {mt : Nat → Int64} {rc n o : Nat} {dr : Nat → Option Nat} {n1 o1 : Nat} {dr1 : Nat → Option Nat} {n2 o2 : Nat} {dr2 dk rk : Nat → Option Nat} {kt : Nat → Int32} {tk : Int32} {pool : va_W} {x : Nat → Sf} {P : Nat → Nat} (hX : SX cA pool dk rk x P) {d i : Int32} : vx_Met l yX11_element wsX11_element rmX11_element (va_Pc [.ref (ob 6), .int d, .int i] (PreX D cA A (XW cA ob mb ss sh sp mt rc n o dr n1 o1 dr1 n2 o2 dr2 dk rk kt tk pool))) (va_Ql (fun r _ => elR x d i r) (fun u t => Wd D A ((fun (_ : Unit) => (XW cA ob mb ss sh sp mt rc n o dr n1 o1 dr1 n2 o2 dr2 dk rk kt tk pool)) u) t) A) (XC (elX x d i) D A (XW cA ob mb ss sh sp mt rc n o dr n1 o1 dr1 n2 o2 dr2 dk rk kt tk pool)) 1 6 A := by
  refine k_ofxl (S := Unit) (F := fun (_ : Unit) => (XW cA ob mb ss sh sp mt rc n o dr n1 o1 dr1 n2 o2 dr2 dk rk kt tk pool)) (cc := cX11_element) (maxL := 4) (by decide) rfl (Nat.le_of_ble_eq_true rfl) ?_
  intro p e s m args below meth c Q hQ hlo ht hF hK hXX hA hG hret ls hl
  have hl : lv_has ls 4 [(0, .ref (ob 6)), (1, .int d), (2, .int i)] := hl
  refine lv_iload_n hF.1 hF.2.1 dX11_element_0 rfl (lv_at hl 1 rfl) ?_
  refine k_ci (r_S (As := [.int d]) hF hK hA hG (c_X11_isShelf) (cwS 1 hF.2.2.2.2 gX11_element_X11_isShelf rfl rfl rfl (by decide +kernel) ⟨(Nat.le_of_ble_eq_true rfl), (Nat.le_of_ble_eq_true rfl)⟩) rfl hl.1 rfl (lv_room (Nat.le_of_ble_eq_true rfl)) dX11_element_1 ⟨(Nat.le_of_ble_eq_true rfl), (Nat.le_of_ble_eq_true rfl)⟩) hG (fun r_1 u_1 H locs hp_1 hG => ?_)
  subst hp_1
  refine lv_if_ne (tgt := 17) hF.1 hF.2.1 dX11_element_4 (by decide) (fun c_4 => ?_) (fun c_4 => ?_)
  · have n_4 : inB 8 d = true := b2i_nz.mp c_4
    obtain ⟨jd, hjd, rfl⟩ := inB_ex (by omega) n_4
    refine lv_aload_n hF.1 hF.2.1 dX11_element_17 rfl (lv_at hl 0 rfl) ?_
    refine lv_iload_n hF.1 hF.2.1 dX11_element_18 rfl (lv_at hl 1 rfl) ?_
    refine k_cq (r_V (As := [.int (nI jd)]) hF hK hA hG (c_X11_rowOn) (cwV 1 hF.2.2.2.2 gX11_element_X11_rowOn rfl rfl rfl (by decide +kernel) ⟨(Nat.le_of_ble_eq_true rfl), (Nat.le_of_ble_eq_true rfl)⟩) 6 rfl rfl rfl rfl hl.1 rfl (lv_room (Nat.le_of_ble_eq_true rfl)) dX11_element_19 ⟨(Nat.le_of_ble_eq_true rfl), (Nat.le_of_ble_eq_true rfl)⟩) hG (fun r_2 u_2 H locs hp_2 hG => ?_)
    cases r_2 with
    | none =>
      show W p l e rmX11_element s m args below meth c _ _ _ _ Q (F0 m 22 ls (.null :: []))
      refine lv_astore_nN (lv' := [(3, .null), (0, .ref (ob 6)), (1, .int (nI jd)), (2, .int i)]) hF.1 hF.2.1 dX11_element_22 rfl hl (by decide) rfl (fun ls hl => ?_)
      refine lv_aload_nN hF.1 hF.2.1 dX11_element_23 rfl (lv_at hl 0 rfl) ?_
      refine lv_ifnonnullN hF.1 hF.2.1 dX11_element_24 ?_
      refine x_throw (text := "no row") hQ hfl hlo ht hF hXX hG (px := elX x (nI jd) i) (Or.inr ⟨rfl, x jd, sfA_j x hjd, fun z hz => ?_⟩) (by decide) (by decide) (by decide +kernel) (List.mem_of_getElem? (i := 3) rfl) (List.mem_of_getElem? (i := 4) rfl) (fun _ h => List.mem_cons_of_mem _ (List.mem_append_right _ h)) (by decide +kernel) (by decide +kernel) hl.1 dX11_element_27 dX11_element_30 dX11_element_31 dX11_element_33 dX11_element_36 (by decide)
      rw [shA_j rk hjd] at hp_2
      have h1 := hX.1 jd hjd
      rw [hz] at h1
      obtain ⟨-, r, arr, qr, h2, -⟩ := h1
      rw [h2] at hp_2
      cases hp_2
    | some b =>
      obtain ⟨j2, z, arr, qr, hj2, hjj, hx, hR⟩ := shR_s hX hp_2
      have hxs : sfA x (nI jd) = some (some (.inr z)) := by rw [hjj, sfA_j x hj2, hx]
      have hR : RW cA (XW cA ob mb ss sh sp mt rc n o dr n1 o1 dr1 n2 o2 dr2 dk rk kt tk pool) b arr (qr + 16) (P j2 + 16) z.1 z.2.1 z.2.2 := hR.c16
      show W p l e rmX11_element s m args below meth c _ _ _ _ Q (F0 m 22 ls (.ref b :: []))
      refine lv_astore_n (lv' := [(3, .ref b), (0, .ref (ob 6)), (1, .int (nI jd)), (2, .int i)]) hF.1 hF.2.1 dX11_element_22 rfl hl (by decide) rfl (fun ls hl => ?_)
      refine lv_aload_n hF.1 hF.2.1 dX11_element_23 rfl (lv_at hl 0 rfl) ?_
      refine lv_ifnonnull (tgt := 37) hF.1 hF.2.1 dX11_element_24 (by decide) ?_
      refine lv_aload_n hF.1 hF.2.1 dX11_element_37 rfl (lv_at hl 0 rfl) ?_
      refine lv_iload_n hF.1 hF.2.1 dX11_element_38 rfl (lv_at hl 3 rfl) ?_
      refine k_ci (r_V (As := [.int i]) hF hK hA hG (c_X6_hasPlace hR) (cwV 1 hF.2.2.2.2 gX11_element_X6_hasPlace rfl rfl rfl (by decide +kernel) ⟨(Nat.le_of_ble_eq_true rfl), (Nat.le_of_ble_eq_true rfl)⟩) (qr + 16) hR.1 rfl rfl rfl hl.1 rfl (lv_room (Nat.le_of_ble_eq_true rfl)) dX11_element_39 ⟨(Nat.le_of_ble_eq_true rfl), (Nat.le_of_ble_eq_true rfl)⟩) hG (fun r_39 u_39 H locs hp_39 hG => ?_)
      subst hp_39
      refine lv_if_ne (tgt := 55) hF.1 hF.2.1 dX11_element_42 (by decide) (fun c_42 => ?_) (fun c_42 => ?_)
      · have n_42 : inB z.2.1 i = true := b2i_nz.mp c_42
        have hn100 := hR.2.2.1
        obtain ⟨k, hk, rfl⟩ := inB_ex (by omega) n_42
        refine lv_aload_n hF.1 hF.2.1 dX11_element_55 rfl (lv_at hl 0 rfl) ?_
        refine lv_iload_n hF.1 hF.2.1 dX11_element_56 rfl (lv_at hl 3 rfl) ?_
        refine k_ci (r_V (As := [.int (nI k)]) hF hK hA hG (c_X6_valueAt hR) (cwV 1 hF.2.2.2.2 gX11_element_X6_valueAt rfl rfl rfl (by decide +kernel) ⟨(Nat.le_of_ble_eq_true rfl), (Nat.le_of_ble_eq_true rfl)⟩) (qr + 16) hR.1 rfl rfl rfl hl.1 rfl (lv_room (Nat.le_of_ble_eq_true rfl)) dX11_element_57 ⟨(Nat.le_of_ble_eq_true rfl), (Nat.le_of_ble_eq_true rfl)⟩) hG (fun r_57 u_57 H locs hp_57 hG => ?_)
        subst hp_57
        refine lv_i2l hF.1 hF.2.1 dX11_element_60 rfl ?_
        exact hret _ () _ ls _ _ _ _ ⟨z, k, hxs, hk, rfl, by rw [getR_t hn100 hk]⟩ hG (by decide) (by decide) dX11_element_61
      · have n_42 : inB z.2.1 i = false := b2i_z.mp c_42
        exact x_throw (text := "no such place") hQ hfl hlo ht hF hXX hG (px := elX x (nI jd) i) (Or.inr ⟨rfl, _, hxs, fun z9 hz => by cases hz; exact n_42⟩) (by decide) (by decide) (by decide +kernel) (List.mem_of_getElem? (i := 3) rfl) (List.mem_of_getElem? (i := 4) rfl) (fun _ h => List.mem_cons_of_mem _ (List.mem_append_right _ h)) (by decide +kernel) (by decide +kernel) hl.1 dX11_element_45 dX11_element_48 dX11_element_49 dX11_element_51 dX11_element_54 (by decide)
  · have n_4 : inB 8 d = false := b2i_z.mp c_4
    exact x_throw (text := "no such shelf") hQ hfl hlo ht hF hXX hG (px := elX x d i) (Or.inl ⟨rfl, sfA_f x n_4⟩) (by decide) (by decide) (by decide +kernel) (List.mem_of_getElem? (i := 1) rfl) (List.mem_of_getElem? (i := 2) rfl) (fun _ h => List.mem_cons_of_mem _ (List.mem_append_left _ (List.mem_append_right _ h))) (by decide +kernel) (by decide +kernel) hl.1 dX11_element_7 dX11_element_10 dX11_element_11 dX11_element_13 dX11_element_16 (by decide)
abbrev rmL_element : Room := { frames := 7, cells := 1, slots := 6, locals := 160 }
set_option maxHeartbeats 4000000 in
set_option maxRecDepth 100000 in
theorem c_L_element {l : Launch} (hfl : l.stackTraces = false) {D : va_G} {cA : Nat → ClassId} {A : Nat → Prop} {ob : Nat → Nat} {mb ss sh sp : Nat → Int32} {mt : Nat → Int64} {rc n o : Nat} {dr : Nat → Option Nat} {n1 o1 : Nat} {dr1 : Nat → Option Nat} {n2 o2 : Nat} {dr2 dk rk : Nat → Option Nat} {kt : Nat → Int32} {tk : Int32} {pool : va_W} {x : Nat → Sf} {P : Nat → Nat} (hX : SX cA pool dk rk x P) {d i : Int32} {out : Nat} {fo : Nat → Int64} : Met l yL_element wsL_element rmL_element (va_Pc [.ref (ob 6), .int d, .int i, .ref out] (PreX D cA A (XW cA ob mb ss sh sp mt rc n o dr n1 o1 dr1 n2 o2 dr2 dk rk kt tk (pool ++ [(out, .inl (cA 1, 1, .inr (.inl fo)))])))) (va_Qi (fun (r : Int32) (u : Nat → Int64) => (r = 1 ∧ elX x d i EA ∧ u = fo) ∨ (r = 2 ∧ elX x d i EI ∧ u = fo) ∨ (r = 0 ∧ elR x d i (u 0))) (fun u t => Wd D A ((fun (u : Nat → Int64) => (XW cA ob mb ss sh sp mt rc n o dr n1 o1 dr1 n2 o2 dr2 dk rk kt tk (pool ++ [(out, .inl (cA 1, 1, .inr (.inl u)))]))) u) t) A) 1 6 A := by
  refine k_ofiW (y := yL_element) (ws0 := wsL_element) (av := [.ref (ob 6), .int d, .int i, .ref out]) (S := Nat → Int64) (F := fun (u : Nat → Int64) => (XW cA ob mb ss sh sp mt rc n o dr n1 o1 dr1 n2 o2 dr2 dk rk kt tk (pool ++ [(out, .inl (cA 1, 1, .inr (.inl u)))]))) (cc := cL_element) (maxL := 5) (by decide) rfl (Nat.le_of_ble_eq_true rfl) ?_
  intro p e s m args below meth c Q htb hF hK hXX hA hG hret ls hl
  have hl : lv_has ls 5 [(0, .ref (ob 6)), (1, .int d), (2, .int i), (3, .ref out)] := hl
  refine lv_aload_n hF.1 hF.2.1 dL_element_0 rfl (lv_at hl 3 rfl) ?_
  refine lv_iconst (v := (nI 0)) hF.1 hF.2.1 dL_element_1 (by decide +kernel) ?_
  refine lv_aload_n hF.1 hF.2.1 dL_element_2 rfl (lv_at hl 0 rfl) ?_
  refine lv_iload_n hF.1 hF.2.1 dL_element_3 rfl (lv_at hl 1 rfl) ?_
  refine lv_iload_n hF.1 hF.2.1 dL_element_4 rfl (lv_at hl 2 rfl) ?_
  refine x_cl (vx_runV (As := [.int d, .int i]) hF (c_X11_element hfl hX.push) (cwV 2 hF.2.2.2.2 gL_element_X11_element rfl rfl rfl (by decide +kernel) ⟨(Nat.le_of_ble_eq_true rfl), (Nat.le_of_ble_eq_true rfl)⟩) (preXV_of (q0 := 6) hK hXX hA hG rfl rfl rfl) rfl rfl hl.1 rfl (lv_room (Nat.le_of_ble_eq_true rfl)) dL_element_5 ⟨(Nat.le_of_ble_eq_true rfl), (Nat.le_of_ble_eq_true rfl)⟩) hG (fun E ce q9 H1 locs1 hp hG h5 h6 h7 => ?_) (fun r u H1 locs1 hp hG => ?_)
  · have hpx := hp
    rcases hp with ⟨rfl, hp⟩ | ⟨rfl, hp⟩
    · refine vx_catch (own := RL) (name := EA) (E := EA) hF.2.2.2.1 [] ⟨0, 9, 12, 13⟩ [⟨0, 9, 16, 15⟩] (htb.trans rfl) (fun _ hzz => by cases hzz) rfl (by decide) (hF.2.2.2.2 _ (List.mem_of_getElem? (i := 1) rfl)) (va_Nw.use rfl (hXX.2.2.2.1 EA (by decide))) h5 h6 h7 ?_
      refine lv_astore (lv' := [(4, .ref q9), (0, .ref (ob 6)), (1, .int d), (2, .int i), (3, .ref out)]) hF.1 hF.2.1 dL_element_12 hl (by decide) rfl (fun ls hl => ?_)
      refine lv_iconst (v := 1) hF.1 hF.2.1 dL_element_14 (by decide +kernel) ?_
      exact hret _ fo _ ls _ _ _ _ (Or.inl ⟨rfl, hpx, rfl⟩) rfl hG (by decide) (by decide) dL_element_15
    · have hpass : ∀ zz ∈ ([⟨0, 9, 12, 13⟩] : List ExceptionTableEntry), covers zz 5 = false ∨ (zz.catchType ≠ 0 ∧ ∃ nm : String, (Cond.classLink RL zz.catchType nm).before args s = true ∧ va_Nc EI nm s) := fun zz hzz => by
        rw [List.mem_singleton.mp hzz]
        exact Or.inr ⟨by decide, EA, (hF.2.2.2.2 _ (List.mem_of_getElem? (i := 1) rfl)), hXX.2.2.2.2.2 (EI, EA) (by decide)⟩
      refine vx_catch (own := RL) (name := EI) (E := EI) hF.2.2.2.1 [⟨0, 9, 12, 13⟩] ⟨0, 9, 16, 15⟩ [] (htb.trans rfl) hpass rfl (by decide) (hF.2.2.2.2 _ (List.mem_of_getElem? (i := 2) rfl)) (va_Nw.use rfl (hXX.2.2.2.1 EI (by decide))) h5 h6 h7 ?_
      refine lv_astore (lv' := [(4, .ref q9), (0, .ref (ob 6)), (1, .int d), (2, .int i), (3, .ref out)]) hF.1 hF.2.1 dL_element_16 hl (by decide) rfl (fun ls hl => ?_)
      refine lv_iconst (v := 2) hF.1 hF.2.1 dL_element_18 (by decide +kernel) ?_
      exact hret _ fo _ ls _ _ _ _ (Or.inr (Or.inl ⟨rfl, hpx, rfl⟩)) rfl hG (by decide) (by decide) dL_element_19
  · refine k_lastN hF hK hG (pool.length + 16) XW_out 0 rfl (by decide) (by decide) dL_element_8 (fun H locs hG => ?_)
    rw [XW_set] at hG
    refine lv_goto (tgt := 20) hF.1 hF.2.1 dL_element_9 (by decide) ?_
    refine lv_iconst (v := 0) hF.1 hF.2.1 dL_element_20 (by decide +kernel) ?_
    exact hret _ (va_up fo 0 r) _ ls _ _ _ _ (Or.inr (Or.inr ⟨rfl, by rw [va_up_self]; exact hp⟩)) rfl hG (by decide) (by decide) dL_element_21
