/-! THE CLAIM OUT OF ONE WALK OF THE LAW'S BODY. Your part is whole_start (and what it stands on); all else here is the same for every law, but numbers. -/
def R_law : String := "AboveIsShutLaw"
def lw_P (b : Addr) (xs : List Int32) (args : Array Value) (s : State) : Prop := args = #[.ref b] ∧ s.IntsAt b xs ∧ xs.length ≤ 3072 ∧ (Jvm.Cond.and given_1 narrow_1).before args s = true
def lw_Q (_ : Array Value) (s : State) (o : Outcome) (t : State) : Prop := o = .returned (some (.int 1)) ∧ Framed s o t [] 601024 7293034
def lw_Z (below : List Frame) (a : Array Value) (s : State) : State → Prop := fun t => ∃ o, t.status = .running ∧ Ended t below o ∧ lw_Q a s o t
/-- the law's own end, with 1 on the stack, nothing written that was there before, its room as the claim has it -/
theorem lw_ret {p : Program} {l : Launch} {e : Env} {s : State} {m : MethodId} {below : List Frame} {meth : Method} {c : Code} {b : Nat} (hx : p.tables.exec = Jvm.exec) (hb : c.code = code) (hr : meth.sig.returnType = ret) (hlocks : meth.locks = false) {pc : Nat} {H : Heap} {ls : Array Slot} (hdg : decode code pc = .ok (.ireturn, 1)) : W p l e room_1 s m #[Value.ref b] below meth c H [] 601024 7293034 (lw_Z below #[Value.ref b] s) (F0 m pc ls [.int 1]) := by
  intro T hT X
  obtain ⟨fs, hret, hrun, hended, hW, hframe⟩ := X.leave (v := some (.int 1)) (hlocks := hlocks) (fun h => by rw [hr] at h; cases h)
  have hmeth' : T.vm.method? m = some meth := X.method'
  refine ⟨T.setFrames fs, ?_, .returned (some (.int 1)), hrun, hended, rfl, ⟨_, rfl⟩, hW, hframe⟩
  jvm_step X.here [X.here.top, hx, hb, hdg, hmeth', hr, ret, narrow_b1]
  (try refine ⟨rfl, ?_⟩); (try refine ⟨rfl, ?_⟩)
  first | (intro acts; rw [hret _ acts rfl rfl rfl]) | rw [hret _ _ rfl rfl rfl]
  exact Steps.refl _
/-- what holds at the law's entry: the machine, the code, the tables' words (any of lw_tbl by 'hts w (by decide +kernel)'), the script of L ints xs at the cell b, what the Statement gives of the start (any of its parts by flat_of_before) -/
def lw_At (p : Program) (s : State) (m : MethodId) (meth : Method) (c : Code) (b L : Nat) (xs : Nat → Int32) : Prop :=
  p.tables.exec = Jvm.exec ∧ c.code = code ∧ meth.sig.returnType = ret ∧ c.maxLocals = 8 ∧ s.vm.findClass R_law = some m.cls ∧ (∀ w ∈ lw_tbl, w.before #[Value.ref b] s = true) ∧ va_X b L xs s s.heap ∧ b < s.heap.size ∧ meth.locks = false ∧ (Jvm.Cond.and given_1 narrow_1).before #[Value.ref b] s = true
/-- at the law's entry: classes, array classes, casts, links -/
theorem law_KK {args : Array Value} {s : State} (hts : ∀ w ∈ lw_tbl, w.before args s = true) : ∃ (D : va_G) (cA : Nat → ClassId), KK D cA s := by
  have hw : ∀ w ∈ wsL_law, w.before args s = true := fun w h => hts w (wsL_law_in w h)
  obtain ⟨cX0, iX0, kX0⟩ := u_known (C := RX0) (T := TX0) (N := 1) (n := 1) hw inlX0 (hts (.instantiable RX0 1) (by decide +kernel))
  obtain ⟨cX1, iX1, kX1⟩ := u_known (C := RX1) (T := TX1) (N := 1) (n := 1) hw inlX1 (hts (.instantiable RX1 1) (by decide +kernel))
  obtain ⟨cX2, iX2, kX2⟩ := u_known (C := RX2) (T := TX2) (N := 1) (n := 1) hw inlX2 (hts (.instantiable RX2 1) (by decide +kernel))
  obtain ⟨cX3, iX3, kX3⟩ := u_known (C := RX3) (T := TX3) (N := 1) (n := 1) hw inlX3 (hts (.instantiable RX3 1) (by decide +kernel))
  obtain ⟨cX4, iX4, kX4⟩ := u_known (C := RX4) (T := TX4) (N := 1) (n := 1) hw inlX4 (hts (.instantiable RX4 1) (by decide +kernel))
  obtain ⟨cX5, iX5, kX5⟩ := u_known (C := RX5) (T := TX5) (N := 1) (n := 1) hw inlX5 (hts (.instantiable RX5 1) (by decide +kernel))
  obtain ⟨cX6, iX6, kX6⟩ := u_known (C := RX6) (T := TX6) (N := 3) (n := 3) hw inlX6 (hts (.instantiable RX6 3) (by decide +kernel))
  obtain ⟨cX7, iX7, kX7⟩ := u_known (C := RX7) (T := TX7) (N := 1) (n := 1) hw inlX7 (hts (.instantiable RX7 1) (by decide +kernel))
  obtain ⟨cX8, iX8, kX8⟩ := u_known (C := RX8) (T := TX8) (N := 1) (n := 1) hw inlX8 (hts (.instantiable RX8 1) (by decide +kernel))
  obtain ⟨cX9, iX9, kX9⟩ := u_known (C := RX9) (T := TX9) (N := 3) (n := 3) hw inlX9 (hts (.instantiable RX9 3) (by decide +kernel))
  obtain ⟨cX10, iX10, kX10⟩ := u_known (C := RX10) (T := TX10) (N := 6) (n := 6) hw inlX10 (hts (.instantiable RX10 6) (by decide +kernel))
  obtain ⟨cX11, iX11, kX11⟩ := u_known (C := RX11) (T := TX11) (N := 8) (n := 8) hw inlX11 (hts (.instantiable RX11 8) (by decide +kernel))
  obtain ⟨cX12, iX12, kX12⟩ := u_known (C := RX12) (T := TX12) (N := 19) (n := 19) hw inlX12 (hts (.instantiable RX12 19) (by decide +kernel))
  obtain ⟨a0, y0, z0, f0, g0, h0⟩ := Cond.arrayClass_spec (hts (.arrayClass .int) (by decide +kernel))
  obtain ⟨a1, y1, z1, f1, g1, h1⟩ := Cond.arrayClass_spec (hts (.arrayClass .long) (by decide +kernel))
  have o2 := hts (.arrayOver (.object RX0)) (by decide +kernel)
  have o3 := hts (.arrayOver (.object RX6)) (by decide +kernel)
  obtain ⟨z2, a2, y2, f2, -, g2, h2, j2⟩ := Cond.arrayOver_spec o2
  obtain ⟨z3, a3, y3, f3, -, g3, h3, j3⟩ := Cond.arrayOver_spec o3
  refine ⟨(fun k => ([cX0, cX1, cX2, cX3, cX4, cX5, cX6, cX7, cX8, cX9, cX10, cX11, cX12] : List ClassId).getD k cX0, fun k => ([iX0, iX1, iX2, iX3, iX4, iX5, iX6, iX7, iX8, iX9, iX10, iX11, iX12] : List (Nat → Nat)).getD k iX0), fun k => ([a0, a1, a2, a3] : List ClassId).getD k a0, ⟨fun k q hq => ?_, fun k q hq => ?_⟩, fun k k0 k8 => ?_, va_AO.of o2, va_AO.of o3, fun w hw => ?_⟩
  · match k, hq with
    | 0, hq => cases hq; exact kX0
    | 1, hq => cases hq; exact kX1
    | 2, hq => cases hq; exact kX2
    | 3, hq => cases hq; exact kX3
    | 4, hq => cases hq; exact kX4
    | 5, hq => cases hq; exact kX5
    | 6, hq => cases hq; exact kX6
    | 7, hq => cases hq; exact kX7
    | 8, hq => cases hq; exact kX8
    | 9, hq => cases hq; exact kX9
    | 10, hq => cases hq; exact kX10
    | 11, hq => cases hq; exact kX11
    | 12, hq => cases hq; exact kX12
    | k + 13, hq => exact absurd (List.getElem?_eq_some_iff.mp hq).1 (by show ¬ k + 13 < 13; omega)
  · match k, hq with
    | 0, hq => cases hq; exact ⟨fun n z => ⟨fun k h => (by cases h), y0, g0, z0, h0⟩, f0⟩
    | 1, hq => cases hq; exact ⟨fun n z => ⟨fun k h => (by cases h), y1, g1, z1, h1⟩, f1⟩
    | 2, hq => cases hq; exact ⟨fun n z => ⟨fun k h => (by cases h), y2, g2, z2, h2⟩, y2, z2, g2, h2, f2, j2⟩
    | 3, hq => cases hq; exact ⟨fun n z => ⟨fun k h => (by cases h), y3, g3, z3, h3⟩, y3, z3, g3, h3, f3, j3⟩
    | k + 4, hq => exact absurd (List.getElem?_eq_some_iff.mp hq).1 (by show ¬ k + 4 < 4; omega)
  · have hm : ∀ i : Fin 7, Cond.castable (kcN (i.val + 1)) RX0 ∈ lw_tbl := by decide +kernel
    have h9 := hm ⟨k - 1, by omega⟩
    have e9 : k - 1 + 1 = k := by omega
    simp only [e9] at h9
    exact va_Nw.of rfl (hts _ h9)
  · have hm : ∀ w ∈ NM, Cond.methodLinkNest w.1 w.2.1 w.2.2.1 w.2.2.2 ∈ lw_tbl := by decide +kernel
    exact va_Nw.of rfl (hts _ (hm w hw))
theorem law_str {args : Array Value} {s : State} (hts : ∀ w ∈ lw_tbl, w.before args s = true) {own tx : String} {k n : Nat} (hi : Cond.instantiable own n ∈ lw_tbl) (hm : Cond.stringRef own k tx ∈ lw_tbl) : ∃ sa, vk_R own k tx sa s := by
  obtain ⟨cC, kC, hfc, -⟩ := Cond.instantiable_spec (hts _ hi)
  obtain ⟨-, -, -, sa, -, -, -, -, -, hev⟩ := Cond.stringRef_spec hfc (hts _ hm)
  exact ⟨sa, vk_R.of (hts _ hm) hev⟩
/-- and what a throw needs -/
theorem law_XX {args : Array Value} {s : State} (hts : ∀ w ∈ lw_tbl, w.before args s = true) (hgv : (Jvm.Cond.and given_1 narrow_1).before args s = true) : XX (fun q => s.heap.size ≤ q) s := by
  have hs := flat_of_before _ hgv
  refine ⟨vx_Zqof (hts (.laysStatic Bundle.tN "UNASSIGNED_STACK" Bundle.steD) (by decide +kernel)) (hts (.initialized Bundle.tN) (by decide +kernel)) (hs (.isRef (.static Bundle.tN "UNASSIGNED_STACK" Bundle.steD)) (by decide +kernel)) (fun a h => Nat.not_le.mpr h), vx_Zqof (hts (.laysStatic Bundle.tN "SUPPRESSED_SENTINEL" Bundle.listD) (by decide +kernel)) (hts (.initialized Bundle.tN) (by decide +kernel)) (hs (.isRef (.static Bundle.tN "SUPPRESSED_SENTINEL" Bundle.listD)) (by decide +kernel)) (fun a h => Nat.not_le.mpr h), fun y hy => ?_, fun C hC => ?_, fun q hq => ?_, fun q hq => ?_⟩
  · have hm : ∀ y ∈ DCL, Cond.declares y ∈ lw_tbl := by decide +kernel
    exact va_Nw.of rfl (hts _ (hm y hy))
  · have hm : ∀ C ∈ XCL, Cond.castable C C ∈ lw_tbl := by decide +kernel
    exact va_Nw.of rfl (hts _ (hm C hC))
  · rcases List.mem_cons.mp hq with rfl | hq
    · exact law_str hts (n := 1) (by decide +kernel) (by decide +kernel)
    rcases List.mem_cons.mp hq with rfl | hq
    · exact law_str hts (n := 1) (by decide +kernel) (by decide +kernel)
    rcases List.mem_cons.mp hq with rfl | hq
    · exact law_str hts (n := 1) (by decide +kernel) (by decide +kernel)
    rcases List.mem_cons.mp hq with rfl | hq
    · exact law_str hts (n := 8) (by decide +kernel) (by decide +kernel)
    rcases List.mem_cons.mp hq with rfl | hq
    · exact law_str hts (n := 8) (by decide +kernel) (by decide +kernel)
    rcases List.mem_cons.mp hq with rfl | hq
    · exact law_str hts (n := 8) (by decide +kernel) (by decide +kernel)
    exact absurd hq List.not_mem_nil
  · rcases List.mem_cons.mp hq with rfl | hq
    · exact va_Nc.of (hs _ (by decide +kernel))
    rcases List.mem_cons.mp hq with rfl | hq
    · exact va_Nc.of (hs _ (by decide +kernel))
    rcases List.mem_cons.mp hq with rfl | hq
    · exact va_Nc.of (hs _ (by decide +kernel))
    rcases List.mem_cons.mp hq with rfl | hq
    · exact va_Nc.of (hs _ (by decide +kernel))
    exact absurd hq List.not_mem_nil
set_option maxHeartbeats 4000000 in
set_option maxRecDepth 100000 in
theorem whole_start {p : Program} {e : Env} {s : State} {m : MethodId} {below : List Frame} {meth : Method} {c : Code} (l : Launch) (hflags : l.flags = flags0) {b L : Nat} {xs : Nat → Int32} (hL : L ≤ 3072) (C0 : lw_At p s m meth c b L xs) : W p l e room_1 s m #[Value.ref b] below meth c s.heap [] 0 0 (lw_Z below #[Value.ref b] s) (entryFrame m ([Value.ref b] : List Value).toArray 8) := by
  obtain ⟨hx, hb, hr, hml, hown, hts, hX, hbl, hlocks, hgv⟩ := C0
  have hfl : l.stackTraces = false := by
    show (!l.flags.contains noTraceFlag) = false
    rw [hflags]
    decide +kernel
  obtain ⟨D, cA, hK⟩ := law_KK hts
  have hXX := law_XX hts hgv
  have hA : ∀ q : Nat, s.heap.size ≤ q → (fun q : Nat => s.heap.size ≤ q) q := fun _ h => h
  have hbA : ¬ (fun q : Nat => s.heap.size ≤ q) b := Nat.not_le.mpr hbl
  have hF : CallFix p m c cL_law 8 s #[Value.ref b] wsL_law RL := ⟨hx, hb, hml, hown, fun w h => hts w (wsL_law_in w h)⟩
  have hLA : LA p s m #[Value.ref b] c D cA (fun q : Nat => s.heap.size ≤ q) b L xs := ⟨hF, hK, hXX, hA, hX, hbl, hbA, hL⟩
  have hG : Gd D (fun q : Nat => s.heap.size ≤ q) [] s.heap s.heap [] := ⟨fun k q h => by simp at h, ⟨fun i j p q h => by simp at h, fun k q h => by simp at h⟩, va_S.rf⟩
  have hl := lv_entry ([.ref b]) (n := 8) (Nat.le_of_ble_eq_true rfl)
  rw [lg_entry_eq]
  generalize (lg_sl ([.ref b]) ++ List.replicate (8 - (lg_sl ([.ref b])).length) Slot.unset).toArray = ls at hl ⊢
  have hl : lv_has ls 8 [(0, .ref b)] := hl
  refine k_new (C := RX11) (T := TX11) (N := 8) (ci := 11) (fs := [.null, .null, .null, .null, .null, .null, .null, .int 0]) hF hK hA hG inlX11 tyX11 tyX11_ok (List.mem_of_getElem? (i := 0) (by decide +kernel)) (List.mem_of_getElem? (i := 1) (by decide +kernel)) (List.mem_of_getElem? (i := 2) (by decide +kernel)) rfl (by decide +kernel) (Nat.le_of_ble_eq_true rfl) (Nat.le_of_ble_eq_true rfl) dL_law_0 (fun q0 H hG => ?_)
  have hG : Gd D (fun q : Nat => s.heap.size ≤ q) ([] ++ ([((q0, .inr (11, [.null, .null, .null, .null, .null, .null, .null, .int 0])) : Nat × va_E)] ++ [])) s.heap H [] := hG
  refine lv_dup hx hb dL_law_3 rfl ?_
  refine j_cv hA (j_I (As := []) (rest := [.ref q0]) (w0 := []) (w1 := [((q0, .inr (11, [.null, .null, .null, .null, .null, .null, .null, .int 0])) : Nat × va_E)]) (w2 := []) hF hK hG c_X11_init (cwI 0 hF.2.2.2.2 gL_law_X11_init rfl rfl rfl (hF.2.2.2.2 _ (List.mem_of_getElem? (i := 2) (by decide +kernel))) (hF.2.2.2.2 _ (List.mem_of_getElem? (i := 7) (by decide +kernel))) (hF.2.2.2.2 _ (List.mem_of_getElem? (i := 8) (by decide +kernel))) rfl (by decide +kernel) ⟨(Nat.le_of_ble_eq_true rfl), (Nat.le_of_ble_eq_true rfl)⟩) rfl hl.1 rfl (lv_room (Nat.le_of_ble_eq_true rfl)) dL_law_4 ⟨(Nat.le_of_ble_eq_true rfl), (Nat.le_of_ble_eq_true rfl)⟩) hG (fun ob H locs hob hG1 => ?_)
  have hob : ob 6 = q0 := hob
  subst hob
  have hG : Gd D (fun q : Nat => s.heap.size ≤ q) (XW cA ob (fun _ => 0) (fun _ => 0) (fun _ => 0) (fun _ => 0) (fun _ => 0) 0 0 0 (fun _ => none) 0 0 (fun _ => none) 0 0 (fun _ => none) (fun _ => none) (fun _ => none) (fun _ => 0) (nI 0) []) s.heap H locs := gd_lin (w0 := []) hG1
  refine lv_astore_n hx hb dL_law_7 rfl hl (by decide) rfl (fun ls hl => ?_)
  have hl : lv_has ls 8 [(1, .ref (ob 6)), (0, .ref b)] := hl
  refine k_new (C := RX12) (T := TX12) (N := 19) (ci := 12) (fs := [.null, .null, .null, .null, .null, .null, .null, .null, .null, .null, .int 0, .int 0, .int 0, .int 0, .int 0, .null, .null, .null, .int 0]) hF hK hA hG inlX12 tyX12 tyX12_ok (List.mem_of_getElem? (i := 3) (by decide +kernel)) (List.mem_of_getElem? (i := 4) (by decide +kernel)) (List.mem_of_getElem? (i := 5) (by decide +kernel)) rfl (by decide +kernel) (Nat.le_of_ble_eq_true rfl) (Nat.le_of_ble_eq_true rfl) dL_law_8 (fun q1 H hG => ?_)
  have hG : Gd D (fun q : Nat => s.heap.size ≤ q) ((XW cA ob (fun _ => 0) (fun _ => 0) (fun _ => 0) (fun _ => 0) (fun _ => 0) 0 0 0 (fun _ => none) 0 0 (fun _ => none) 0 0 (fun _ => none) (fun _ => none) (fun _ => none) (fun _ => 0) (nI 0) []) ++ ([((q1, .inr (12, [.null, .null, .null, .null, .null, .null, .null, .null, .null, .null, .int 0, .int 0, .int 0, .int 0, .int 0, .null, .null, .null, .int 0])) : Nat × va_E)] ++ [])) s.heap H locs := hG
  refine lv_dup hx hb dL_law_11 rfl ?_
  refine j_cv hA (j_I (As := []) (rest := [.ref q1]) (w0 := XW cA ob (fun _ => 0) (fun _ => 0) (fun _ => 0) (fun _ => 0) (fun _ => 0) 0 0 0 (fun _ => none) 0 0 (fun _ => none) 0 0 (fun _ => none) (fun _ => none) (fun _ => none) (fun _ => 0) (nI 0) []) (w1 := [((q1, .inr (12, [.null, .null, .null, .null, .null, .null, .null, .null, .null, .null, .int 0, .int 0, .int 0, .int 0, .int 0, .null, .null, .null, .int 0])) : Nat × va_E)]) (w2 := []) hF hK hG c_X12_init0 (cwI 0 hF.2.2.2.2 gL_law_X12_init rfl rfl rfl (hF.2.2.2.2 _ (List.mem_of_getElem? (i := 5) (by decide +kernel))) (hF.2.2.2.2 _ (show Cond.methodLink RL 20 yX12_init ∈ wsL_law by decide +kernel)) (hF.2.2.2.2 _ (show Cond.instanceMethod yX12_init ∈ wsL_law by decide +kernel)) rfl (by decide +kernel) ⟨(Nat.le_of_ble_eq_true rfl), (Nat.le_of_ble_eq_true rfl)⟩) rfl hl.1 rfl (lv_room (Nat.le_of_ble_eq_true rfl)) dL_law_12 ⟨(Nat.le_of_ble_eq_true rfl), (Nat.le_of_ble_eq_true rfl)⟩) hG (fun om H locs hom hG1 => ?_)
  have hom : om 0 = q1 := hom
  subst hom
  have hG : Gd D (fun q : Nat => s.heap.size ≤ q) ((XW cA ob (fun _ => 0) (fun _ => 0) (fun _ => 0) (fun _ => 0) (fun _ => 0) 0 0 0 (fun _ => none) 0 0 (fun _ => none) 0 0 (fun _ => none) (fun _ => none) (fun _ => none) (fun _ => 0) (nI 0) []) ++ (MW cA om (fun _ => 0) (fun _ => 0) (fun _ => 0) (fun _ => 0) (fun _ => 0) (fun _ => 0) (fun _ => 0) (fun _ => 0) (fun _ => 0) (fun _ => 0) (fun _ => 0) (fun _ => 0) (fun _ => 0) 0 0 0 0 0 0)) s.heap H locs := gd_lin hG1
  refine lv_astore_n hx hb dL_law_15 rfl hl (by decide) rfl (fun ls hl => ?_)
  have hl : lv_has ls 8 [(2, .ref (om 0)), (1, .ref (ob 6)), (0, .ref b)] := hl
  refine lv_iconst (v := nI 1) hx hb dL_law_16 (by decide +kernel) ?_
  refine k_newl hF hK hA hG (List.mem_of_getElem? (i := 6) (by decide +kernel)) (N' := 1) rfl (by omega) (Nat.le_of_ble_eq_true rfl) (Nat.le_of_ble_eq_true rfl) dL_law_17 (fun out H hG => ?_)
  have hG : Gd D (fun q : Nat => s.heap.size ≤ q) ((MW cA om (fun _ => 0) (fun _ => 0) (fun _ => 0) (fun _ => 0) (fun _ => 0) (fun _ => 0) (fun _ => 0) (fun _ => 0) (fun _ => 0) (fun _ => 0) (fun _ => 0) (fun _ => 0) (fun _ => 0) 0 0 0 0 0 0) ++ ((XW cA ob (fun _ => 0) (fun _ => 0) (fun _ => 0) (fun _ => 0) (fun _ => 0) 0 0 0 (fun _ => none) 0 0 (fun _ => none) 0 0 (fun _ => none) (fun _ => none) (fun _ => none) (fun _ => 0) (nI 0) []) ++ [((out, .inl (cA 1, 1, .inr (.inl (fun _ => 0)))) : Nat × va_E)])) s.heap H locs := ⟨hG.1.sub [16, 17, 18, 19, 20, 21, 22, 23, 24, 25, 26, 27, 28, 29, 0, 1, 2, 3, 4, 5, 6, 7, 8, 9, 10, 11, 12, 13, 14, 15, 30] rfl, hG.2.1.sub [16, 17, 18, 19, 20, 21, 22, 23, 24, 25, 26, 27, 28, 29, 0, 1, 2, 3, 4, 5, 6, 7, 8, 9, 10, 11, 12, 13, 14, 15, 30] rfl rfl, hG.2.2⟩
  refine lv_astore_n hx hb dL_law_19 rfl hl (by decide) rfl (fun ls hl => ?_)
  refine lv_iconst (v := nI (6 * 0)) hx hb dL_law_20 (by decide +kernel) ?_
  refine lv_istore hx hb dL_law_21 hl (by decide) rfl (fun ls hl => ?_)
  have hl : lv_has ls 8 [(4, .int (nI (6 * 0))), (3, .ref out), (2, .ref (om 0)), (1, .ref (ob 6)), (0, .ref b)] := hl
  have hWI : WI [] 0 0 (fun _ => none) (fun _ => 0) (fun _ => 0) := ⟨by decide, by decide, fun j hj => absurd hj (Nat.not_lt_zero j), fun j _ => rfl⟩
  have hSR : SR (fun _ => 0) 0 0 (fun _ => 0) (fun _ => 0) := ⟨rfl, rfl, by decide, by decide, fun i hi => absurd hi (Nat.not_lt_zero i)⟩
  have hSX : SX cA [] (fun _ => none) (fun _ => none) (fun _ => none) (fun _ => 0) := ⟨fun d _ => ⟨rfl, rfl⟩, fun d e _ _ _ h1 => by
    obtain ⟨z, hz⟩ := h1
    cases hz⟩
  have hXI : XI cA ((fun _ => 0), (fun _ => 0), (fun _ => 0), (fun _ => 0), (fun _ => 0), 0, 0, 0, (fun _ => none), 0, 0, (fun _ => none), 0, 0, (fun _ => none), (fun _ => none), (fun _ => none), (fun _ => 0), nI 0, []) (0, 0, (fun _ => 0), (fun _ => 0)) (0, 0, (fun _ => 0), (fun _ => 0)) false (fun _ => none) := ⟨⟨rfl, rfl⟩, ⟨rfl, rfl⟩, by decide, hWI, hWI, ⟨_, _, hWI⟩, ⟨_, hSX⟩⟩
  have hRJ : RJ ((fun _ => 0), (fun _ => 0), (fun _ => 0), (fun _ => 0), (fun _ => 0), (fun _ => 0), (fun _ => 0), (fun _ => 0), (fun _ => 0), (fun _ => 0), (fun _ => 0), (fun _ => 0), (fun _ => 0), 0, 0, 0, 0, 0, 0) (0, 0, (fun _ => 0), (fun _ => 0)) (0, 0, (fun _ => 0), (fun _ => 0)) false (fun _ => none) := ⟨hSR, hSR, by decide, fun d _ => rfl⟩
  exact law_go (D := D) (cA := cA) (A := fun q : Nat => s.heap.size ≤ q) (ob := ob) (om := om) (out := out) hfl hLA (fun q h => h) (fun H ls => lw_ret hx hb hr hlocks dL_law_1321) 512 0 _ _ ((fun _ => 0), (fun _ => 0), (fun _ => 0), (fun _ => 0), (fun _ => 0), 0, 0, 0, (fun _ => none), 0, 0, (fun _ => none), 0, 0, (fun _ => none), (fun _ => none), (fun _ => none), (fun _ => 0), nI 0, []) ((fun _ => 0), (fun _ => 0), (fun _ => 0), (fun _ => 0), (fun _ => 0), (fun _ => 0), (fun _ => 0), (fun _ => 0), (fun _ => 0), (fun _ => 0), (fun _ => 0), (fun _ => 0), (fun _ => 0), 0, 0, 0, 0, 0, 0) (fun _ => 0) (0, 0, (fun _ => 0), (fun _ => 0)) (0, 0, (fun _ => 0), (fun _ => 0)) false (fun _ => none) H locs ls (by omega) (by omega) (by decide) (by decide) hXI hRJ hl hG
