/-! ===== a method with a table of its own, where something may be thrown ===== -/
section OFW2
variable {S : Type} {l : Launch} {y : MethodName} {ws0 ws' : List Cond} {rm : Room} {av : List Value} {D : va_G} {cA : Nat → ClassId} {A : Nat → Prop} {ws : va_W} {F : S → va_W} {mc ms : Nat} {cc : ByteArray} {maxL : Nat} {hh : List (Nat × Nat × Nat × Nat)}
theorem k_ofiW {post : Int32 → S → Prop} {ty : FieldType} (hy : plainName y.cls = true) (hw : ws0 = Cond.codeWith y cc maxL (some ty) hh :: ws') (hln : (lg_sl av).length ≤ maxL)
    (body : ∀ (p : Program) (e : Env) (s : State) (m : MethodId) (args : Array Value) (below : List Frame) (meth : Method) (c : Code) (Q : State → Prop),
      c.exceptionTable.toList = tableOf hh → CallFix p m c cc maxL s args ws0 y.cls → KK D cA s → XX A s → (∀ q, s.heap.size ≤ q → A q) → Gd D A ws s.heap s.heap [] →
      (∀ (v : Int32) (u : S) (pc : Nat) (ls : Array Slot) (H : Heap) (locs : List Loc) (k n : Nat), post v u → narrow ty (.int v) = .int v → Gd D A (F u) s.heap H locs → k ≤ mc → n ≤ ms → decode cc pc = .ok (.ireturn, 1) → W p l e rm s m args below meth c H locs k n Q (F0 m pc ls [.int v])) →
      ∀ ls : Array Slot, lv_has ls maxL (lv_args 0 av) → W p l e rm s m args below meth c s.heap [] 0 0 Q (F0 m 0 ls [])) :
    Met l y ws0 rm (va_Pc av (PreX D cA A ws)) (va_Qi post (fun u t => Wd D A (F u) t) A) mc ms A := by
  refine va_MetW (cc := cc) (maxL := maxL) (ret := some ty) hy hw ?_
  intro p e s m args below meth c s₁ B hml hv
  obtain ⟨rfl, ⟨hA, hP, hD, hK⟩, hX⟩ := hv
  have htb := vx_table (x := y) B (atoms_spec (ws := ws0) B.pre _ (by rw [hw]; exact List.mem_cons_self))
  have hl := lv_entry av (n := maxL) hln
  rw [lg_entry_eq]
  generalize (lg_sl av ++ List.replicate (maxL - (lg_sl av).length) Slot.unset).toArray = ls at hl ⊢
  exact body p e s m _ below meth c _ htb ⟨B.exec, B.bytes, hml, findClass_of_methodNamed B.named, atoms_spec (ws := ws0) B.pre⟩ hK hX hA ⟨hP, hD, va_S.rf⟩ (fun v u pc ls H locs k n hp hn hG hk hn2 hd => W.widen hk hn2 (W.zret B.exec B.bytes B.returns hn (fun t ht hW => ⟨⟨v, u, rfl, hp, by rw [← ht] at hG; exact ⟨hG.1, hG.2.1⟩⟩, hG.2.2.F ht⟩) hG.2.2.2.2 hd (hlocks := B.notSynchronized))) ls hl
end OFW2
theorem toss_q {k f : Nat} (h : failQ k f) : tossI k f = -15 := by unfold tossI; exact if_pos h
theorem toss_i {k f : Nat} (h : ¬ failQ k f) (h4 : ¬ k = 4) (h5 : ¬ k = 5) : tossI k f = nI f := by
  unfold tossI
  rw [if_neg (show ¬ (k = 1 ∨ f = 0) from h), if_neg h4, if_neg h5]
theorem toss_a {f : Nat} (h : ¬ failQ 4 f) : tossI 4 f = nI f + 100 := by
  unfold tossI
  rw [if_neg (show ¬ (4 = 1 ∨ f = 0) from h), if_pos rfl, Int32.add_comm]
  rfl
theorem toss_u {f : Nat} (h : ¬ failQ 5 f) : tossI 5 f = pr 5 f + 200 := by
  unfold tossI
  rw [if_neg (show ¬ (5 = 1 ∨ f = 0) from h), if_neg (by decide), if_pos rfl, Int32.add_comm]
  rfl

abbrev rmX11_toss : Room := { frames := 8, cells := 1, slots := 6, locals := 200 }
set_option maxHeartbeats 4000000 in
set_option maxRecDepth 100000 in
theorem c_X11_toss {l : Launch} (hfl : l.stackTraces = false) {D : va_G} {cA : Nat → ClassId} {A : Nat → Prop}  {ob : Nat → Nat} {mb ss sh sp : Nat → Int32} {mt : Nat → Int64} {rc n o : Nat} {dr : Nat → Option Nat} {n1 o1 : Nat} {dr1 : Nat → Option Nat} {n2 o2 : Nat} {dr2 dk rk : Nat → Option Nat} {kt : Nat → Int32} {tk : Int32} {pool : va_W} {kd fg : Nat → Nat} (hI : WI pool n o dr kd fg) {kd1 fg1 : Nat → Nat} (hJ : WI pool n1 o1 dr1 kd1 fg1) {kd2 fg2 : Nat → Nat} (hM : WI pool n2 o2 dr2 kd2 fg2) {x : Nat → Sf} {P : Nat → Nat} (hX : SX cA pool dk rk x P) {tkb : Bool} (htk : tk = b2i tkb) {d : Int32} : Met l yX11_toss wsX11_toss rmX11_toss (va_Pc [.ref (ob 6), .int d] (PreX D cA A (XW cA ob mb ss sh sp mt rc n o dr n1 o1 dr1 n2 o2 dr2 dk rk kt tk pool))) (va_Qi (fun r (u : XS) => (r = spToss (sfA x d)) ∧ XI cA u (n, o, kd, fg) (n1, o1, kd1, fg1) tkb x) (fun u t => Wd D A ((fun (u : XS) => XV cA ob u) u) t) A) 1 6 A := by
  refine k_ofiW (S := XS) (F := fun (u : XS) => XV cA ob u) (cc := cX11_toss) (maxL := 4) (by decide) rfl (Nat.le_of_ble_eq_true rfl) ?_
  intro p e s m args below meth c Q htb hF hK hXX hA hG hret ls hl
  have hl : lv_has ls 4 [(0, .ref (ob 6)), (1, .int d)] := hl
  refine lv_aload_n hF.1 hF.2.1 dX11_toss_0 rfl (lv_at hl 0 rfl) ?_
  refine lv_iload_n hF.1 hF.2.1 dX11_toss_1 rfl (lv_at hl 1 rfl) ?_
  refine k_cq (r_V (As := [.int d]) hF hK hA hG (c_X11_drawerOn) (cwV 1 hF.2.2.2.2 gX11_toss_X11_drawerOn rfl rfl rfl (by decide +kernel) ⟨Nat.le_of_ble_eq_true rfl, Nat.le_of_ble_eq_true rfl⟩) 6 rfl rfl rfl rfl hl.1 rfl (lv_room (Nat.le_of_ble_eq_true rfl)) dX11_toss_2 ⟨Nat.le_of_ble_eq_true rfl, Nat.le_of_ble_eq_true rfl⟩) hG (fun r_2 u_2 H locs hp_2 hG => ?_)
  cases r_2 with
  | none =>
    show W p l e rmX11_toss s m args below meth c _ _ _ _ Q (F0 m 5 ls (.null :: []))
    refine lv_astore_nN (lv' := [(2, .null), (0, .ref (ob 6)), (1, .int d)]) hF.1 hF.2.1 dX11_toss_5 rfl hl (by decide) rfl (fun ls hl => ?_)
    refine lv_aload_nN hF.1 hF.2.1 dX11_toss_6 rfl (lv_at hl 0 rfl) ?_
    refine lv_ifnonnullN hF.1 hF.2.1 dX11_toss_7 ?_
    refine lv_aload_n hF.1 hF.2.1 dX11_toss_10 rfl (lv_at hl 1 rfl) ?_
    refine lv_iload_n hF.1 hF.2.1 dX11_toss_11 rfl (lv_at hl 2 rfl) ?_
    refine k_ci (r_V (As := [.int d]) hF hK hA hG (c_X11_lacking hX) (cwV 1 hF.2.2.2.2 gX11_toss_X11_lacking rfl rfl rfl (by decide +kernel) ⟨Nat.le_of_ble_eq_true rfl, Nat.le_of_ble_eq_true rfl⟩) 6 rfl rfl rfl rfl hl.1 rfl (lv_room (Nat.le_of_ble_eq_true rfl)) dX11_toss_12 ⟨Nat.le_of_ble_eq_true rfl, Nat.le_of_ble_eq_true rfl⟩) hG (fun r_12 u_12 H locs hp_12 hG => ?_)
    subst hp_12
    exact hret _ (_, _, _, _, _, _, _, _, _, _, _, _, _, _, _, _, _, _, _, _) _ ls _ _ _ _ (by rw [spToss_n (shA_n hX hp_2).2]; exact ⟨(shA_n hX hp_2).1, ⟨⟨rfl, rfl⟩, ⟨rfl, rfl⟩, htk, hI, hJ, ⟨_, _, hM⟩, ⟨_, hX⟩⟩⟩) rfl hG (by decide) (by decide) dX11_toss_15
  | some b =>
    obtain ⟨jd, z, hjd, rfl, hx, hds⟩ := shA_s hX hp_2
    show W p l e rmX11_toss s m args below meth c _ _ _ _ Q (F0 m 5 ls (.ref b :: []))
    refine lv_astore_n (lv' := [(2, .ref b), (0, .ref (ob 6)), (1, .int (nI jd))]) hF.1 hF.2.1 dX11_toss_5 rfl hl (by decide) rfl (fun ls hl => ?_)
    refine lv_aload_n hF.1 hF.2.1 dX11_toss_6 rfl (lv_at hl 0 rfl) ?_
    refine lv_ifnonnull (tgt := 16) hF.1 hF.2.1 dX11_toss_7 (by decide) ?_
    have hz8 := hds.1
    have hz10 := hds.2.1
    have hval : ∀ v : Int32, v = tossI z.1 z.2 → v = spToss (sfA x (nI jd)) := fun v h => by rw [sfA_j x hjd, hx]; exact h
    refine lv_aload_n hF.1 hF.2.1 dX11_toss_16 rfl (lv_at hl 0 rfl) ?_
    rcases (show z.1 = 0 ∨ z.1 = 1 ∨ z.1 = 2 ∨ z.1 = 3 ∨ z.1 = 4 ∨ z.1 = 5 ∨ z.1 = 6 ∨ z.1 = 7 by omega) with ek | ek | ek | ek | ek | ek | ek | ek
    · --
      obtain ⟨-, -, q, hb⟩ := (hds.c16 : DR (XW cA ob mb ss sh sp mt rc n o dr n1 o1 dr1 n2 o2 dr2 dk rk kt tk pool) b (z.1) (z.2))
      rw [ek] at hb
      have hb : (XW cA ob mb ss sh sp mt rc n o dr n1 o1 dr1 n2 o2 dr2 dk rk kt tk pool)[q]? = some (b, .inr (0, [.int (nI (z.2))])) := hb
      refine x_cv (vx_runV (As := []) hF (c_X0_fail_X0 hfl hz10 hb) (cwV 0 hF.2.2.2.2 gX11_toss_X0_fail rfl rfl rfl (by decide +kernel) ⟨(Nat.le_of_ble_eq_true rfl), (Nat.le_of_ble_eq_true rfl)⟩) (preXV_of hK hXX hA hG hb rfl rfl) rfl rfl hl.1 rfl (lv_room (Nat.le_of_ble_eq_true rfl)) dX11_toss_17 ⟨(Nat.le_of_ble_eq_true rfl), (Nat.le_of_ble_eq_true rfl)⟩) hG (fun E ce q9 H1 locs1 hp hG h5 h6 h7 => ?_) (fun u H1 locs1 hp hG => ?_)
      · obtain ⟨rfl, hp⟩ := hp
        refine vx_catch (own := RX11) (name := EI) (E := EI) hF.2.2.2.1 [] ⟨16, 20, 23, 231⟩ [⟨16, 20, 29, 224⟩, ⟨16, 20, 38, 262⟩] (htb.trans rfl) (fun _ hzz => by cases hzz) rfl (by decide) (hF.2.2.2.2 _ (List.mem_of_getElem? (i := 1) rfl)) (va_Nw.use rfl (hXX.2.2.2.1 EI (by decide))) h5 h6 h7 ?_
        refine lv_astore_n (lv' := [(3, .ref q9), (2, .ref b), (0, .ref (ob 6)), (1, .int (nI jd))]) hF.1 hF.2.1 dX11_toss_23 rfl hl (by decide) rfl (fun ls hl => ?_)
        refine lv_aload_n hF.1 hF.2.1 dX11_toss_24 rfl (lv_at hl 1 rfl) ?_
        refine k_get (C := RX0) (T := TX0) (N := 1) hF hK hG (fun _ h => List.mem_cons_of_mem _ (List.mem_append_left _ (List.mem_append_left _ (List.mem_append_left _ (List.mem_append_left _ (List.mem_append_left _ (List.mem_append_left _ (List.mem_append_left _ (List.mem_append_left _ (List.mem_append_left _ (List.mem_append_left _ (List.mem_append_left _ (List.mem_append_right _ h))))))))))))) q hb rfl 0 (by decide) (List.mem_of_getElem? (i := 4) rfl) (fun _ h9 => h9) rfl dX11_toss_25 ?_
        exact hret _ (_, _, _, _, _, _, _, _, _, _, _, _, _, _, _, _, _, _, _, _) _ ls _ _ _ _ ⟨hval _ (by rw [ek]; exact (toss_i hp (by decide) (by decide)).symm), ⟨⟨rfl, rfl⟩, ⟨rfl, rfl⟩, htk, hI, hJ, ⟨_, _, hM⟩, ⟨_, hX⟩⟩⟩ rfl hG (by decide) (by decide) dX11_toss_28
      · refine lv_goto (tgt := 48) hF.1 hF.2.1 dX11_toss_20 (by decide) ?_
        refine lv_bipush (v := (-15)) hF.1 hF.2.1 dX11_toss_48 (by decide +kernel) ?_
        exact hret _ (_, _, _, _, _, _, _, _, _, _, _, _, _, _, _, _, _, _, _, _) _ ls _ _ _ _ ⟨hval _ (by rw [ek]; exact (toss_q hp).symm), ⟨⟨rfl, rfl⟩, ⟨rfl, rfl⟩, htk, hI, hJ, ⟨_, _, hM⟩, ⟨_, hX⟩⟩⟩ rfl hG (by decide) (by decide) dX11_toss_50
    · --
      obtain ⟨-, -, q, hb⟩ := (hds.c16 : DR (XW cA ob mb ss sh sp mt rc n o dr n1 o1 dr1 n2 o2 dr2 dk rk kt tk pool) b (z.1) (z.2))
      rw [ek] at hb
      have hb : (XW cA ob mb ss sh sp mt rc n o dr n1 o1 dr1 n2 o2 dr2 dk rk kt tk pool)[q]? = some (b, .inr (1, [.int (nI (z.2))])) := hb
      refine x_cv (vx_runU (As := []) hF (c_X1_fail_X1 hfl hz10 hb) (va_cwO 0 hF.2.2.2.2 gX11_toss_X1_fail_u259X1 rfl rfl rfl (List.mem_of_getElem? (i := 31) rfl) (by decide +kernel) ⟨(Nat.le_of_ble_eq_true rfl), (Nat.le_of_ble_eq_true rfl)⟩) (preXV_of hK hXX hA hG hb rfl rfl) rfl rfl hl.1 rfl (lv_room (Nat.le_of_ble_eq_true rfl)) dX11_toss_17 ⟨(Nat.le_of_ble_eq_true rfl), (Nat.le_of_ble_eq_true rfl)⟩) hG (fun E ce q9 H1 locs1 hp hG h5 h6 h7 => ?_) (fun u H1 locs1 hp hG => ?_)
      · obtain ⟨rfl, hp⟩ := hp
        refine vx_catch (own := RX11) (name := EI) (E := EI) hF.2.2.2.1 [] ⟨16, 20, 23, 231⟩ [⟨16, 20, 29, 224⟩, ⟨16, 20, 38, 262⟩] (htb.trans rfl) (fun _ hzz => by cases hzz) rfl (by decide) (hF.2.2.2.2 _ (List.mem_of_getElem? (i := 1) rfl)) (va_Nw.use rfl (hXX.2.2.2.1 EI (by decide))) h5 h6 h7 ?_
        refine lv_astore_n (lv' := [(3, .ref q9), (2, .ref b), (0, .ref (ob 6)), (1, .int (nI jd))]) hF.1 hF.2.1 dX11_toss_23 rfl hl (by decide) rfl (fun ls hl => ?_)
        refine lv_aload_n hF.1 hF.2.1 dX11_toss_24 rfl (lv_at hl 1 rfl) ?_
        refine k_get (C := RX1) (T := TX1) (N := 1) hF hK hG (fun _ h => List.mem_cons_of_mem _ (List.mem_append_left _ (List.mem_append_left _ (List.mem_append_left _ (List.mem_append_left _ (List.mem_append_left _ (List.mem_append_left _ (List.mem_append_left _ (List.mem_append_left _ (List.mem_append_left _ (List.mem_append_left _ (List.mem_append_right _ h)))))))))))) q hb rfl 0 (by decide) (List.mem_of_getElem? (i := 4) rfl) (fun _ h9 => h9) rfl dX11_toss_25 ?_
        exact hret _ (_, _, _, _, _, _, _, _, _, _, _, _, _, _, _, _, _, _, _, _) _ ls _ _ _ _ ⟨hval _ (by rw [ek]; exact (toss_i hp (by decide) (by decide)).symm), ⟨⟨rfl, rfl⟩, ⟨rfl, rfl⟩, htk, hI, hJ, ⟨_, _, hM⟩, ⟨_, hX⟩⟩⟩ rfl hG (by decide) (by decide) dX11_toss_28
      · refine lv_goto (tgt := 48) hF.1 hF.2.1 dX11_toss_20 (by decide) ?_
        refine lv_bipush (v := (-15)) hF.1 hF.2.1 dX11_toss_48 (by decide +kernel) ?_
        exact hret _ (_, _, _, _, _, _, _, _, _, _, _, _, _, _, _, _, _, _, _, _) _ ls _ _ _ _ ⟨hval _ (by rw [ek]; exact (toss_q hp).symm), ⟨⟨rfl, rfl⟩, ⟨rfl, rfl⟩, htk, hI, hJ, ⟨_, _, hM⟩, ⟨_, hX⟩⟩⟩ rfl hG (by decide) (by decide) dX11_toss_50
    · --
      obtain ⟨-, -, q, hb⟩ := (hds.c16 : DR (XW cA ob mb ss sh sp mt rc n o dr n1 o1 dr1 n2 o2 dr2 dk rk kt tk pool) b (z.1) (z.2))
      rw [ek] at hb
      have hb : (XW cA ob mb ss sh sp mt rc n o dr n1 o1 dr1 n2 o2 dr2 dk rk kt tk pool)[q]? = some (b, .inr (7, [.int (nI (z.2))])) := hb
      refine x_cv (vx_runU (As := []) hF (c_X0_fail_X7 hfl hz10 hb) (va_cwU 0 hF.2.2.2.2 gX11_toss_X0_fail_u259X7 rfl rfl rfl rfl (by decide +kernel) ⟨(Nat.le_of_ble_eq_true rfl), (Nat.le_of_ble_eq_true rfl)⟩) (preXV_of hK hXX hA hG hb rfl rfl) rfl rfl hl.1 rfl (lv_room (Nat.le_of_ble_eq_true rfl)) dX11_toss_17 ⟨(Nat.le_of_ble_eq_true rfl), (Nat.le_of_ble_eq_true rfl)⟩) hG (fun E ce q9 H1 locs1 hp hG h5 h6 h7 => ?_) (fun u H1 locs1 hp hG => ?_)
      · obtain ⟨rfl, hp⟩ := hp
        refine vx_catch (own := RX11) (name := EI) (E := EI) hF.2.2.2.1 [] ⟨16, 20, 23, 231⟩ [⟨16, 20, 29, 224⟩, ⟨16, 20, 38, 262⟩] (htb.trans rfl) (fun _ hzz => by cases hzz) rfl (by decide) (hF.2.2.2.2 _ (List.mem_of_getElem? (i := 1) rfl)) (va_Nw.use rfl (hXX.2.2.2.1 EI (by decide))) h5 h6 h7 ?_
        refine lv_astore_n (lv' := [(3, .ref q9), (2, .ref b), (0, .ref (ob 6)), (1, .int (nI jd))]) hF.1 hF.2.1 dX11_toss_23 rfl hl (by decide) rfl (fun ls hl => ?_)
        refine lv_aload_n hF.1 hF.2.1 dX11_toss_24 rfl (lv_at hl 1 rfl) ?_
        refine k_get (C := RX7) (T := TX7) (N := 1) hF hK hG (fun _ h => List.mem_cons_of_mem _ (List.mem_append_left _ (List.mem_append_left _ (List.mem_append_left _ (List.mem_append_left _ (List.mem_append_left _ (List.mem_append_right _ h))))))) q hb rfl 0 (by decide) (List.mem_of_getElem? (i := 4) rfl) (fun _ h9 => h9) rfl dX11_toss_25 ?_
        exact hret _ (_, _, _, _, _, _, _, _, _, _, _, _, _, _, _, _, _, _, _, _) _ ls _ _ _ _ ⟨hval _ (by rw [ek]; exact (toss_i hp (by decide) (by decide)).symm), ⟨⟨rfl, rfl⟩, ⟨rfl, rfl⟩, htk, hI, hJ, ⟨_, _, hM⟩, ⟨_, hX⟩⟩⟩ rfl hG (by decide) (by decide) dX11_toss_28
      · refine lv_goto (tgt := 48) hF.1 hF.2.1 dX11_toss_20 (by decide) ?_
        refine lv_bipush (v := (-15)) hF.1 hF.2.1 dX11_toss_48 (by decide +kernel) ?_
        exact hret _ (_, _, _, _, _, _, _, _, _, _, _, _, _, _, _, _, _, _, _, _) _ ls _ _ _ _ ⟨hval _ (by rw [ek]; exact (toss_q hp).symm), ⟨⟨rfl, rfl⟩, ⟨rfl, rfl⟩, htk, hI, hJ, ⟨_, _, hM⟩, ⟨_, hX⟩⟩⟩ rfl hG (by decide) (by decide) dX11_toss_50
    · --
      obtain ⟨-, -, q, hb⟩ := (hds.c16 : DR (XW cA ob mb ss sh sp mt rc n o dr n1 o1 dr1 n2 o2 dr2 dk rk kt tk pool) b (z.1) (z.2))
      rw [ek] at hb
      have hb : (XW cA ob mb ss sh sp mt rc n o dr n1 o1 dr1 n2 o2 dr2 dk rk kt tk pool)[q]? = some (b, .inr (8, [.int (nI (z.2))])) := hb
      refine x_cv (vx_runU (As := []) hF (c_X1_fail_X8 hfl hz10 hb) (va_cwO 0 hF.2.2.2.2 gX11_toss_X1_fail_u259X8 rfl rfl rfl (List.mem_of_getElem? (i := 31) rfl) (by decide +kernel) ⟨(Nat.le_of_ble_eq_true rfl), (Nat.le_of_ble_eq_true rfl)⟩) (preXV_of hK hXX hA hG hb rfl rfl) rfl rfl hl.1 rfl (lv_room (Nat.le_of_ble_eq_true rfl)) dX11_toss_17 ⟨(Nat.le_of_ble_eq_true rfl), (Nat.le_of_ble_eq_true rfl)⟩) hG (fun E ce q9 H1 locs1 hp hG h5 h6 h7 => ?_) (fun u H1 locs1 hp hG => ?_)
      · obtain ⟨rfl, hp⟩ := hp
        refine vx_catch (own := RX11) (name := EI) (E := EI) hF.2.2.2.1 [] ⟨16, 20, 23, 231⟩ [⟨16, 20, 29, 224⟩, ⟨16, 20, 38, 262⟩] (htb.trans rfl) (fun _ hzz => by cases hzz) rfl (by decide) (hF.2.2.2.2 _ (List.mem_of_getElem? (i := 1) rfl)) (va_Nw.use rfl (hXX.2.2.2.1 EI (by decide))) h5 h6 h7 ?_
        refine lv_astore_n (lv' := [(3, .ref q9), (2, .ref b), (0, .ref (ob 6)), (1, .int (nI jd))]) hF.1 hF.2.1 dX11_toss_23 rfl hl (by decide) rfl (fun ls hl => ?_)
        refine lv_aload_n hF.1 hF.2.1 dX11_toss_24 rfl (lv_at hl 1 rfl) ?_
        refine k_get (C := RX8) (T := TX8) (N := 1) hF hK hG (fun _ h => List.mem_cons_of_mem _ (List.mem_append_left _ (List.mem_append_left _ (List.mem_append_left _ (List.mem_append_left _ (List.mem_append_right _ h)))))) q hb rfl 0 (by decide) (List.mem_of_getElem? (i := 4) rfl) (fun _ h9 => h9) rfl dX11_toss_25 ?_
        exact hret _ (_, _, _, _, _, _, _, _, _, _, _, _, _, _, _, _, _, _, _, _) _ ls _ _ _ _ ⟨hval _ (by rw [ek]; exact (toss_i hp (by decide) (by decide)).symm), ⟨⟨rfl, rfl⟩, ⟨rfl, rfl⟩, htk, hI, hJ, ⟨_, _, hM⟩, ⟨_, hX⟩⟩⟩ rfl hG (by decide) (by decide) dX11_toss_28
      · refine lv_goto (tgt := 48) hF.1 hF.2.1 dX11_toss_20 (by decide) ?_
        refine lv_bipush (v := (-15)) hF.1 hF.2.1 dX11_toss_48 (by decide +kernel) ?_
        exact hret _ (_, _, _, _, _, _, _, _, _, _, _, _, _, _, _, _, _, _, _, _) _ ls _ _ _ _ ⟨hval _ (by rw [ek]; exact (toss_q hp).symm), ⟨⟨rfl, rfl⟩, ⟨rfl, rfl⟩, htk, hI, hJ, ⟨_, _, hM⟩, ⟨_, hX⟩⟩⟩ rfl hG (by decide) (by decide) dX11_toss_50
    · --
      obtain ⟨-, -, q, hb⟩ := (hds.c16 : DR (XW cA ob mb ss sh sp mt rc n o dr n1 o1 dr1 n2 o2 dr2 dk rk kt tk pool) b (z.1) (z.2))
      rw [ek] at hb
      have hb : (XW cA ob mb ss sh sp mt rc n o dr n1 o1 dr1 n2 o2 dr2 dk rk kt tk pool)[q]? = some (b, .inr (5, [.int (nI (z.2))])) := hb
      refine x_cv (vx_runU (As := []) hF (c_X5_fail_X5 hfl hz10 hb) (va_cwO 0 hF.2.2.2.2 gX11_toss_X5_fail_u259X5 rfl rfl rfl (List.mem_of_getElem? (i := 31) rfl) (by decide +kernel) ⟨(Nat.le_of_ble_eq_true rfl), (Nat.le_of_ble_eq_true rfl)⟩) (preXV_of hK hXX hA hG hb rfl rfl) rfl rfl hl.1 rfl (lv_room (Nat.le_of_ble_eq_true rfl)) dX11_toss_17 ⟨(Nat.le_of_ble_eq_true rfl), (Nat.le_of_ble_eq_true rfl)⟩) hG (fun E ce q9 H1 locs1 hp hG h5 h6 h7 => ?_) (fun u H1 locs1 hp hG => ?_)
      · obtain ⟨rfl, hp⟩ := hp
        have hpass : ∀ zz ∈ ([⟨16, 20, 23, 231⟩] : List ExceptionTableEntry), covers zz 17 = false ∨ (zz.catchType ≠ 0 ∧ ∃ nm : String, (Cond.classLink RX11 zz.catchType nm).before args s = true ∧ va_Nc EA nm s) := fun zz hzz => by
          rw [List.mem_singleton.mp hzz]
          exact Or.inr ⟨by decide, EI, (hF.2.2.2.2 _ (List.mem_of_getElem? (i := 1) rfl)), hXX.2.2.2.2.2 (EA, EI) (by decide)⟩
        refine vx_catch (own := RX11) (name := EA) (E := EA) hF.2.2.2.1 [⟨16, 20, 23, 231⟩] ⟨16, 20, 29, 224⟩ [⟨16, 20, 38, 262⟩] (htb.trans rfl) hpass rfl (by decide) (hF.2.2.2.2 _ (List.mem_of_getElem? (i := 2) rfl)) (va_Nw.use rfl (hXX.2.2.2.1 EA (by decide))) h5 h6 h7 ?_
        refine lv_astore_n (lv' := [(3, .ref q9), (2, .ref b), (0, .ref (ob 6)), (1, .int (nI jd))]) hF.1 hF.2.1 dX11_toss_29 rfl hl (by decide) rfl (fun ls hl => ?_)
        refine lv_aload_n hF.1 hF.2.1 dX11_toss_30 rfl (lv_at hl 1 rfl) ?_
        refine k_get (C := RX5) (T := TX5) (N := 1) hF hK hG (fun _ h => List.mem_cons_of_mem _ (List.mem_append_left _ (List.mem_append_left _ (List.mem_append_left _ (List.mem_append_left _ (List.mem_append_left _ (List.mem_append_left _ (List.mem_append_right _ h)))))))) q hb rfl 0 (by decide) (List.mem_of_getElem? (i := 4) rfl) (fun _ h9 => h9) rfl dX11_toss_31 ?_
        refine lv_bipush (v := 100) hF.1 hF.2.1 dX11_toss_34 (by decide +kernel) ?_
        refine lv_iadd hF.1 hF.2.1 dX11_toss_36 ?_
        exact hret _ (_, _, _, _, _, _, _, _, _, _, _, _, _, _, _, _, _, _, _, _) _ ls _ _ _ _ ⟨hval _ (by rw [ek]; exact (toss_a hp).symm), ⟨⟨rfl, rfl⟩, ⟨rfl, rfl⟩, htk, hI, hJ, ⟨_, _, hM⟩, ⟨_, hX⟩⟩⟩ rfl hG (by decide) (by decide) dX11_toss_37
      · refine lv_goto (tgt := 48) hF.1 hF.2.1 dX11_toss_20 (by decide) ?_
        refine lv_bipush (v := (-15)) hF.1 hF.2.1 dX11_toss_48 (by decide +kernel) ?_
        exact hret _ (_, _, _, _, _, _, _, _, _, _, _, _, _, _, _, _, _, _, _, _) _ ls _ _ _ _ ⟨hval _ (by rw [ek]; exact (toss_q hp).symm), ⟨⟨rfl, rfl⟩, ⟨rfl, rfl⟩, htk, hI, hJ, ⟨_, _, hM⟩, ⟨_, hX⟩⟩⟩ rfl hG (by decide) (by decide) dX11_toss_50
    · --
      obtain ⟨-, -, q, hb⟩ := (hds.c16 : DR (XW cA ob mb ss sh sp mt rc n o dr n1 o1 dr1 n2 o2 dr2 dk rk kt tk pool) b (z.1) (z.2))
      rw [ek] at hb
      have hb : (XW cA ob mb ss sh sp mt rc n o dr n1 o1 dr1 n2 o2 dr2 dk rk kt tk pool)[q]? = some (b, .inr (3, [.int (nI (z.2))])) := hb
      refine x_cv (vx_runU (As := []) hF (c_X3_fail_X3 hfl hz10 hb) (va_cwO 0 hF.2.2.2.2 gX11_toss_X3_fail_u259X3 rfl rfl rfl (List.mem_of_getElem? (i := 31) rfl) (by decide +kernel) ⟨(Nat.le_of_ble_eq_true rfl), (Nat.le_of_ble_eq_true rfl)⟩) (preXV_of hK hXX hA hG hb rfl rfl) rfl rfl hl.1 rfl (lv_room (Nat.le_of_ble_eq_true rfl)) dX11_toss_17 ⟨(Nat.le_of_ble_eq_true rfl), (Nat.le_of_ble_eq_true rfl)⟩) hG (fun E ce q9 H1 locs1 hp hG h5 h6 h7 => ?_) (fun u H1 locs1 hp hG => ?_)
      · obtain ⟨rfl, hp⟩ := hp
        have hpass : ∀ zz ∈ ([⟨16, 20, 23, 231⟩, ⟨16, 20, 29, 224⟩] : List ExceptionTableEntry), covers zz 17 = false ∨ (zz.catchType ≠ 0 ∧ ∃ nm : String, (Cond.classLink RX11 zz.catchType nm).before args s = true ∧ va_Nc EU nm s) := fun zz hzz => by
          rcases List.mem_cons.mp hzz with rfl | hzz
          · exact Or.inr ⟨by decide, EI, (hF.2.2.2.2 _ (List.mem_of_getElem? (i := 1) rfl)), hXX.2.2.2.2.2 (EU, EI) (by decide)⟩
          · rw [List.mem_singleton.mp hzz]
            exact Or.inr ⟨by decide, EA, (hF.2.2.2.2 _ (List.mem_of_getElem? (i := 2) rfl)), hXX.2.2.2.2.2 (EU, EA) (by decide)⟩
        refine vx_catch (own := RX11) (name := EU) (E := EU) hF.2.2.2.1 [⟨16, 20, 23, 231⟩, ⟨16, 20, 29, 224⟩] ⟨16, 20, 38, 262⟩ [] (htb.trans rfl) hpass rfl (by decide) (hF.2.2.2.2 _ (List.mem_of_getElem? (i := 3) rfl)) (va_Nw.use rfl (hXX.2.2.2.1 EU (by decide))) h5 h6 h7 ?_
        refine lv_astore_n (lv' := [(3, .ref q9), (2, .ref b), (0, .ref (ob 6)), (1, .int (nI jd))]) hF.1 hF.2.1 dX11_toss_38 rfl hl (by decide) rfl (fun ls hl => ?_)
        refine lv_aload_n hF.1 hF.2.1 dX11_toss_39 rfl (lv_at hl 1 rfl) ?_
        refine k_ci (r_U (As := []) hF hK hA hG (c_X3_price hz10 hb) (va_cwO 0 hF.2.2.2.2 gX11_toss_X3_price_u256X3 rfl rfl rfl (List.mem_of_getElem? (i := 85) rfl) (by decide +kernel) ⟨(Nat.le_of_ble_eq_true rfl), (Nat.le_of_ble_eq_true rfl)⟩) q hb rfl rfl rfl hl.1 rfl (lv_room (Nat.le_of_ble_eq_true rfl)) dX11_toss_40 ⟨(Nat.le_of_ble_eq_true rfl), (Nat.le_of_ble_eq_true rfl)⟩) hG (fun r_40 u_40 H locs hp_40 hG => ?_)
        subst hp_40
        refine lv_sipush (v := 200) hF.1 hF.2.1 dX11_toss_43 (by decide +kernel) ?_
        refine lv_iadd hF.1 hF.2.1 dX11_toss_46 ?_
        exact hret _ (_, _, _, _, _, _, _, _, _, _, _, _, _, _, _, _, _, _, _, _) _ ls _ _ _ _ ⟨hval _ (by rw [ek]; exact (toss_u hp).symm), ⟨⟨rfl, rfl⟩, ⟨rfl, rfl⟩, htk, hI, hJ, ⟨_, _, hM⟩, ⟨_, hX⟩⟩⟩ rfl hG (by decide) (by decide) dX11_toss_47
      · refine lv_goto (tgt := 48) hF.1 hF.2.1 dX11_toss_20 (by decide) ?_
        refine lv_bipush (v := (-15)) hF.1 hF.2.1 dX11_toss_48 (by decide +kernel) ?_
        exact hret _ (_, _, _, _, _, _, _, _, _, _, _, _, _, _, _, _, _, _, _, _) _ ls _ _ _ _ ⟨hval _ (by rw [ek]; exact (toss_q hp).symm), ⟨⟨rfl, rfl⟩, ⟨rfl, rfl⟩, htk, hI, hJ, ⟨_, _, hM⟩, ⟨_, hX⟩⟩⟩ rfl hG (by decide) (by decide) dX11_toss_50
    · --
      obtain ⟨-, -, q, hb⟩ := (hds.c16 : DR (XW cA ob mb ss sh sp mt rc n o dr n1 o1 dr1 n2 o2 dr2 dk rk kt tk pool) b (z.1) (z.2))
      rw [ek] at hb
      have hb : (XW cA ob mb ss sh sp mt rc n o dr n1 o1 dr1 n2 o2 dr2 dk rk kt tk pool)[q]? = some (b, .inr (4, [.int (nI (z.2))])) := hb
      refine x_cv (vx_runU (As := []) hF (c_X1_fail_X4 hfl hz10 hb) (va_cwO 0 hF.2.2.2.2 gX11_toss_X1_fail_u259X4 rfl rfl rfl (List.mem_of_getElem? (i := 31) rfl) (by decide +kernel) ⟨(Nat.le_of_ble_eq_true rfl), (Nat.le_of_ble_eq_true rfl)⟩) (preXV_of hK hXX hA hG hb rfl rfl) rfl rfl hl.1 rfl (lv_room (Nat.le_of_ble_eq_true rfl)) dX11_toss_17 ⟨(Nat.le_of_ble_eq_true rfl), (Nat.le_of_ble_eq_true rfl)⟩) hG (fun E ce q9 H1 locs1 hp hG h5 h6 h7 => ?_) (fun u H1 locs1 hp hG => ?_)
      · obtain ⟨rfl, hp⟩ := hp
        refine vx_catch (own := RX11) (name := EI) (E := EI) hF.2.2.2.1 [] ⟨16, 20, 23, 231⟩ [⟨16, 20, 29, 224⟩, ⟨16, 20, 38, 262⟩] (htb.trans rfl) (fun _ hzz => by cases hzz) rfl (by decide) (hF.2.2.2.2 _ (List.mem_of_getElem? (i := 1) rfl)) (va_Nw.use rfl (hXX.2.2.2.1 EI (by decide))) h5 h6 h7 ?_
        refine lv_astore_n (lv' := [(3, .ref q9), (2, .ref b), (0, .ref (ob 6)), (1, .int (nI jd))]) hF.1 hF.2.1 dX11_toss_23 rfl hl (by decide) rfl (fun ls hl => ?_)
        refine lv_aload_n hF.1 hF.2.1 dX11_toss_24 rfl (lv_at hl 1 rfl) ?_
        refine k_get (C := RX4) (T := TX4) (N := 1) hF hK hG (fun _ h => List.mem_cons_of_mem _ (List.mem_append_left _ (List.mem_append_left _ (List.mem_append_left _ (List.mem_append_left _ (List.mem_append_left _ (List.mem_append_left _ (List.mem_append_left _ (List.mem_append_right _ h))))))))) q hb rfl 0 (by decide) (List.mem_of_getElem? (i := 4) rfl) (fun _ h9 => h9) rfl dX11_toss_25 ?_
        exact hret _ (_, _, _, _, _, _, _, _, _, _, _, _, _, _, _, _, _, _, _, _) _ ls _ _ _ _ ⟨hval _ (by rw [ek]; exact (toss_i hp (by decide) (by decide)).symm), ⟨⟨rfl, rfl⟩, ⟨rfl, rfl⟩, htk, hI, hJ, ⟨_, _, hM⟩, ⟨_, hX⟩⟩⟩ rfl hG (by decide) (by decide) dX11_toss_28
      · refine lv_goto (tgt := 48) hF.1 hF.2.1 dX11_toss_20 (by decide) ?_
        refine lv_bipush (v := (-15)) hF.1 hF.2.1 dX11_toss_48 (by decide +kernel) ?_
        exact hret _ (_, _, _, _, _, _, _, _, _, _, _, _, _, _, _, _, _, _, _, _) _ ls _ _ _ _ ⟨hval _ (by rw [ek]; exact (toss_q hp).symm), ⟨⟨rfl, rfl⟩, ⟨rfl, rfl⟩, htk, hI, hJ, ⟨_, _, hM⟩, ⟨_, hX⟩⟩⟩ rfl hG (by decide) (by decide) dX11_toss_50
    · --
      obtain ⟨-, -, q, hb⟩ := (hds.c16 : DR (XW cA ob mb ss sh sp mt rc n o dr n1 o1 dr1 n2 o2 dr2 dk rk kt tk pool) b (z.1) (z.2))
      rw [ek] at hb
      have hb : (XW cA ob mb ss sh sp mt rc n o dr n1 o1 dr1 n2 o2 dr2 dk rk kt tk pool)[q]? = some (b, .inr (2, [.int (nI (z.2))])) := hb
      refine x_cv (vx_runU (As := []) hF (c_X0_fail_X2 hfl hz10 hb) (va_cwU 0 hF.2.2.2.2 gX11_toss_X0_fail_u259X2 rfl rfl rfl rfl (by decide +kernel) ⟨(Nat.le_of_ble_eq_true rfl), (Nat.le_of_ble_eq_true rfl)⟩) (preXV_of hK hXX hA hG hb rfl rfl) rfl rfl hl.1 rfl (lv_room (Nat.le_of_ble_eq_true rfl)) dX11_toss_17 ⟨(Nat.le_of_ble_eq_true rfl), (Nat.le_of_ble_eq_true rfl)⟩) hG (fun E ce q9 H1 locs1 hp hG h5 h6 h7 => ?_) (fun u H1 locs1 hp hG => ?_)
      · obtain ⟨rfl, hp⟩ := hp
        refine vx_catch (own := RX11) (name := EI) (E := EI) hF.2.2.2.1 [] ⟨16, 20, 23, 231⟩ [⟨16, 20, 29, 224⟩, ⟨16, 20, 38, 262⟩] (htb.trans rfl) (fun _ hzz => by cases hzz) rfl (by decide) (hF.2.2.2.2 _ (List.mem_of_getElem? (i := 1) rfl)) (va_Nw.use rfl (hXX.2.2.2.1 EI (by decide))) h5 h6 h7 ?_
        refine lv_astore_n (lv' := [(3, .ref q9), (2, .ref b), (0, .ref (ob 6)), (1, .int (nI jd))]) hF.1 hF.2.1 dX11_toss_23 rfl hl (by decide) rfl (fun ls hl => ?_)
        refine lv_aload_n hF.1 hF.2.1 dX11_toss_24 rfl (lv_at hl 1 rfl) ?_
        refine k_get (C := RX2) (T := TX2) (N := 1) hF hK hG (fun _ h => List.mem_cons_of_mem _ (List.mem_append_left _ (List.mem_append_left _ (List.mem_append_left _ (List.mem_append_left _ (List.mem_append_left _ (List.mem_append_left _ (List.mem_append_left _ (List.mem_append_left _ (List.mem_append_left _ (List.mem_append_right _ h))))))))))) q hb rfl 0 (by decide) (List.mem_of_getElem? (i := 4) rfl) (fun _ h9 => h9) rfl dX11_toss_25 ?_
        exact hret _ (_, _, _, _, _, _, _, _, _, _, _, _, _, _, _, _, _, _, _, _) _ ls _ _ _ _ ⟨hval _ (by rw [ek]; exact (toss_i hp (by decide) (by decide)).symm), ⟨⟨rfl, rfl⟩, ⟨rfl, rfl⟩, htk, hI, hJ, ⟨_, _, hM⟩, ⟨_, hX⟩⟩⟩ rfl hG (by decide) (by decide) dX11_toss_28
      · refine lv_goto (tgt := 48) hF.1 hF.2.1 dX11_toss_20 (by decide) ?_
        refine lv_bipush (v := (-15)) hF.1 hF.2.1 dX11_toss_48 (by decide +kernel) ?_
        exact hret _ (_, _, _, _, _, _, _, _, _, _, _, _, _, _, _, _, _, _, _, _) _ ls _ _ _ _ ⟨hval _ (by rw [ek]; exact (toss_q hp).symm), ⟨⟨rfl, rfl⟩, ⟨rfl, rfl⟩, htk, hI, hJ, ⟨_, _, hM⟩, ⟨_, hX⟩⟩⟩ rfl hG (by decide) (by decide) dX11_toss_50
