/-! ===== BEGIN a method of a class above, found by the receiver, that may throw (follows va_callVU, va_runU of this kit) ===== -/
section
variable {p : Program} {l : Launch} {e : Env} {R : Room} {s : State} {m : MethodId} {args : Array Value} {below : List Frame} {meth : Method} {c : Code} {H : Heap} {locs : List Loc} {cells slots : Nat}
theorem vx_callVU {T : State} {locs : List Loc} {cells slots : Nat} (X : Stand p l e R s m args below meth c T locs cells slots) (hexec : p.tables.exec = Jvm.exec) {own C owner : String} {index : Nat} {x y : MethodName} {bytes : ByteArray} {maxL : Nat} {ret : Option FieldType}
    (hown : s.vm.findClass own = some m.cls) (hlink : (Cond.methodLink own index x).before args s = true) (hsame : (Cond.sameMethod x.cls owner x.name x.desc).before args s = true)
    (hd0 : va_Decl s ⟨owner, x.name, x.desc⟩) (howner : owner ≠ "java/lang/invoke/MethodHandle" ∧ owner ≠ "java/lang/invoke/VarHandle")
    (hsel : (Cond.selects C x y).before args s = true) (hinst : (Cond.instanceMethod y).before args s = true) (hcode : (Cond.code y bytes maxL ret).before args s = true)
    {W : Nat} {Pre : Pt → Array Value → Prop} {Post : Pt → Array Value → Option Value → Pt → Prop} {PostX : Pt → Array Value → Addr → Pt → Prop} (hK : vx_Back l R p e below s args y 3 W Pre Post PostX)
    {b : Addr} {cellB : Cell} (hcell : T.heap[b]? = some cellB) (hobj : cellB.vm.isStatics = false) (hcls : s.vm.findClass C = some cellB.cls)
    {g : JFrame} (hg : g.method = m) (hsize : g.locals.size = c.maxLocals) {argsL rest : List Value} (hlen : ∀ sig, parseMethodDescriptor x.desc = some sig → argsL.length = sig.parameters.length)
    (hstack : g.stack = argsL.reverse ++ .ref b :: rest) (hW : 2 * g.monitorRoom + (rest.map fun v => v.category).sum ≤ W) (hdg : decode c.code g.pc = .ok (.invokevirtual index, 3))
    (hpre : ∀ vm₁, s.WarmedH vm₁ → Pre ⟨T.setVm vm₁, locs, cells, slots⟩ (Value.ref b :: argsL).toArray) :
    (∃ (v : Option Value) (vm₁ : Vm) (B : Pt), s.WarmedH vm₁ ∧ Stand p l e R s m args below meth c B.U B.locs B.cells B.slots ∧ Post ⟨T.setVm vm₁, locs, cells, slots⟩ (Value.ref b :: argsL).toArray v B ∧
      ∀ target, Steps p.tables e below (B.U.setTop { g with pc := g.pc + 3, stack := v.toList ++ rest }) target → Steps p.tables e below (T.setTop g) target) ∨
    (∃ (q : Addr) (vm₁ : Vm) (B : Pt), s.WarmedH vm₁ ∧ Stand p l e R s m args below meth c B.U B.locs B.cells B.slots ∧ PostX ⟨T.setVm vm₁, locs, cells, slots⟩ (Value.ref b :: argsL).toArray q B ∧
      Steps p.tables e below (T.setTop g) ((B.U.setTop { g with stack := rest }).pushFrame (.throwing q))) := by
  obtain ⟨r0, r, hn, hrm, hstR, hsigR⟩ := hd0
  obtain ⟨cn, ck, r1, hcn, hck, hni, hf, hn1⟩ := Cond.sameMethod_found hsame
  cases hn.symm.trans hn1
  obtain ⟨mk, methM, hnamed, hmethM, -, habM⟩ := Cond.instanceMethod_spec hinst
  obtain ⟨c2, r2, m2, q1, q2, q3, q4, kP, hkP, hkPi⟩ := Cond.selects_spec hsel
  cases hcls.symm.trans q1
  cases hf.symm.trans q2
  cases hnamed.symm.trans q3
  have hselP : selectMethod e.platform s.vm cellB.cls r0 = .method mk := by rw [Launch.admits_selectMethod X.admits]; exact q4
  obtain ⟨vm₁, X₁, hstep₁⟩ := X.invokevirtualUp hexec hown hlink hsame howner hn hrm hstR (a := b) (cell := cellB) hcell
    (fun z h => by rw [h] at hobj; cases hobj) hselP hmethM habM hkP hkPi (g := g) hg (argsL := argsL) (rest := rest) (hlen _ hsigR) hstack hdg
  rcases hK m meth c ⟨T.setVm vm₁, locs, cells, slots⟩ { g with stack := rest } (.invokevirtual index) mk (Value.ref b :: argsL).toArray X₁ hg hsize hdg hW (X₁.named hnamed) (hpre vm₁ X₁.warmed) with ⟨v, B, X', hpost, hsteps⟩ | ⟨q, B, X', hpost, hsteps⟩
  · exact Or.inl ⟨v, vm₁, B, X₁.warmed, X', hpost, fun target h => hstep₁ _ fun acts => by rw [doInvoke_state]; exact hsteps.trans h⟩
  · exact Or.inr ⟨q, vm₁, B, X₁.warmed, X', hpost, hstep₁ _ fun acts => by rw [doInvoke_state]; exact hsteps⟩
theorem vx_runU {x y : MethodName} {bytes cc : ByteArray} {maxL nL mc ms n index : Nat} {ret : Option FieldType} {ws : List Cond} {rm : Room} {Pc : Array Value → State → Prop} {Qc : Array Value → State → Outcome → State → Prop} {XC : String → State → State → Prop} {free : Addr → Prop} {Ts : List Cond} {own C owner : String} {b : Addr} {As rest : List Value} {g : JFrame}
    (S : CallFix p m c cc nL s args Ts own) (hM : vx_Met l y ws rm Pc Qc XC mc ms free) (cw : va_CU R s args own C owner index x y bytes maxL ret ws rm mc ms n) (hp : PreV s H C b Pc As)
    (hg : g.method = m) (hn : As.length = n) (hsize : g.locals.size = nL) (hstack : g.stack = As.reverse ++ .ref b :: rest) (hW : 2 * g.monitorRoom + (rest.map fun v => v.category).sum ≤ 8) (hdg : decode cc g.pc = .ok (.invokevirtual index, 3)) (hf : cells + mc ≤ R.cells ∧ slots + ms ≤ R.slots) :
    vx_Run p l e R s m args below meth c H locs cells slots mc ms g rest (Qc (Value.ref b :: As).toArray) XC free := by
  obtain ⟨hrc, hrs, hfr, hlo, hws, hcw⟩ := cw.back
  have hini := cw.init
  have hK : vx_Back l R p e below s args y 3 8 (PreOf R mc ms Pc) (PostOf Qc mc ms free) (vx_Post XC mc ms free) := vx_back (bytes := bytes) (maxL := maxL) (ret := ret) hM hp.1 hrc hrs hfr hlo hws hcw (fun a' U hW => word_at hW (Or.inl (by first | rfl | simp [Cond.onTables, Cond.keeps, Cond.steady])) hini)
  obtain ⟨hx, hb, hml, ho, -⟩ := S
  obtain ⟨-, ⟨cellB, hcB, hoB, hclB⟩, hPc⟩ := hp
  intro T hT X
  rcases vx_callVU X hx (C := C) (owner := owner) (bytes := bytes) (maxL := maxL) (ret := ret) ho cw.link cw.same cw.decl cw.notMH cw.sel cw.inst cw.code hK (by rw [hT]; exact hcB) hoB hclB hg (hsize.trans hml.symm) (argsL := As) (rest := rest) (fun sig h => hn.trans (cw.len sig h)) hstack hW (by rw [hb]; exact hdg)
    (fun vm₁ hW₁ => ⟨hf.1, hf.2, hPc (T.setVm vm₁) hT hW₁⟩) with ⟨v, vm₁, ⟨U', l2, c2, s2⟩, hW₁, X', ⟨g', mk, t, L, e1, e2, hq, h1, hL, h2, h3⟩, st⟩ | ⟨q, vm₁, ⟨U', l2, c2, s2⟩, hW₁, X', ⟨g', mk, t, L, E, ce, e1, e2, hq, hce, hcv, hcl, h1, hL, h2, h3⟩, st⟩
  · dsimp only [Pt.U, Pt.locs, Pt.cells, Pt.slots] at X' e1 e2 h1 h2 h3 st
    subst h1; subst h2; subst h3
    exact Or.inl ⟨v, (T.setVm vm₁).calling g' mk (Value.ref b :: As).toArray, t, U', L, hT, X', hL, e1, e2, hq, st⟩
  · dsimp only [Pt.U, Pt.locs, Pt.cells, Pt.slots] at X' e1 e2 h1 h2 h3 st hcl
    subst h1; subst h2; subst h3
    exact Or.inr ⟨q, (T.setVm vm₁).calling g' mk (Value.ref b :: As).toArray, t, U', L, E, ce, hT, X', hL, e1, e2, hq, hce, hcv, vx_cls hW₁ hcl, st⟩
end
/-! ===== END ===== -/
/-! ===== BEGIN super.m(..) that may throw (follows va_callSU, va_runSU) ===== -/
section
variable {p : Program} {l : Launch} {e : Env} {R : Room} {s : State} {m : MethodId} {args : Array Value} {below : List Frame} {meth : Method} {c : Code} {H : Heap} {locs : List Loc} {cells slots : Nat}
theorem vx_callSU {T : State} {locs : List Loc} {cells slots : Nat} (X : Stand p l e R s m args below meth c T locs cells slots) (hexec : p.tables.exec = Jvm.exec) {own : String} {index : Nat} {y : MethodName} {bytes : ByteArray} {maxL : Nat} {ret : Option FieldType}
    (hown : s.vm.findClass own = some m.cls) (hlink : (Cond.methodLink own index y).before args s = true) (hsame : (Cond.sameMethod y.cls y.cls y.name y.desc).before args s = true) (hsup : (Cond.superclass own y.cls).before args s = true)
    (hinst : (Cond.instanceMethod y).before args s = true) (hcode : (Cond.code y bytes maxL ret).before args s = true) (hno : y.name ≠ "<init>")
    {W : Nat} {Pre : Pt → Array Value → Prop} {Post : Pt → Array Value → Option Value → Pt → Prop} {PostX : Pt → Array Value → Addr → Pt → Prop} (hK : vx_Back l R p e below s args y 3 W Pre Post PostX)
    {b : Addr} {cellB : Cell} {kB : Class} (hcell : T.heap[b]? = some cellB) (hobj : cellB.vm.isStatics = false) (hkB : s.vm.classes[cellB.cls]? = some kB)
    {g : JFrame} (hg : g.method = m) (hsize : g.locals.size = c.maxLocals) {argsL rest : List Value} (hlen : ∀ sig, parseMethodDescriptor y.desc = some sig → argsL.length = sig.parameters.length)
    (hstack : g.stack = argsL.reverse ++ .ref b :: rest) (hW : 2 * g.monitorRoom + (rest.map fun v => v.category).sum ≤ W) (hdg : decode c.code g.pc = .ok (.invokespecial index, 3))
    (hpre : ∀ vm₁, s.WarmedH vm₁ → Pre ⟨T.setVm vm₁, locs, cells, slots⟩ (Value.ref b :: argsL).toArray) :
    (∃ (v : Option Value) (vm₁ : Vm) (B : Pt), s.WarmedH vm₁ ∧ Stand p l e R s m args below meth c B.U B.locs B.cells B.slots ∧ Post ⟨T.setVm vm₁, locs, cells, slots⟩ (Value.ref b :: argsL).toArray v B ∧
      ∀ target, Steps p.tables e below (B.U.setTop { g with pc := g.pc + 3, stack := v.toList ++ rest }) target → Steps p.tables e below (T.setTop g) target) ∨
    (∃ (q : Addr) (vm₁ : Vm) (B : Pt), s.WarmedH vm₁ ∧ Stand p l e R s m args below meth c B.U B.locs B.cells B.slots ∧ PostX ⟨T.setVm vm₁, locs, cells, slots⟩ (Value.ref b :: argsL).toArray q B ∧
      Steps p.tables e below (T.setTop g) ((B.U.setTop { g with stack := rest }).pushFrame (.throwing q))) := by
  obtain ⟨mk, methM, hnamed, hmethM, hstM, habM⟩ := Cond.instanceMethod_spec hinst
  obtain ⟨methM', cM, hmethM', -, -, -, -, -, -, hsigM⟩ := Cond.code_spec hnamed hcode
  cases hmethM.symm.trans hmethM'
  obtain ⟨ps, dk, kp, hps, hdk, hkp, hsuper, -, -, hnid⟩ := Cond.superclass_spec hown hsup
  have hn : s.methodNamed? ⟨y.cls, y.name, y.desc⟩ = some mk := hnamed
  have hpm : ps = mk.cls := Option.some.inj (hps.symm.trans (findClass_of_methodNamed hnamed))
  have hsub : s.vm.isSubclass ps mk.cls = true := by rw [hpm]; simp [Vm.isSubclass, Vm.isSubclassAux]
  obtain ⟨vm₁, X₁, hstep₁⟩ := X.invokespecialUp hexec hown hlink hsame hn hmethM hstM habM hno hdk hnid hps hsuper hsub (a := b) (cell := cellB) hcell
    (fun z h => by rw [h] at hobj; cases hobj) hkB (g := g) hg (argsL := argsL) (rest := rest) (hlen _ hsigM) hstack hdg
  rcases hK m meth c ⟨T.setVm vm₁, locs, cells, slots⟩ { g with stack := rest } (.invokespecial index) mk (Value.ref b :: argsL).toArray X₁ hg hsize hdg hW (X₁.named hnamed) (hpre vm₁ X₁.warmed) with ⟨v, B, X', hpost, hsteps⟩ | ⟨q, B, X', hpost, hsteps⟩
  · exact Or.inl ⟨v, vm₁, B, X₁.warmed, X', hpost, fun target h => hstep₁ _ (by rw [doInvoke_state]; exact hsteps.trans h)⟩
  · exact Or.inr ⟨q, vm₁, B, X₁.warmed, X', hpost, hstep₁ _ (by rw [doInvoke_state]; exact hsteps)⟩
theorem vx_runSU {y : MethodName} {bytes cc : ByteArray} {maxL nL mc ms n index : Nat} {ret : Option FieldType} {ws : List Cond} {rm : Room} {Pc : Array Value → State → Prop} {Qc : Array Value → State → Outcome → State → Prop} {XC : String → State → State → Prop} {free : Addr → Prop} {Ts : List Cond} {own C : String} {cC : ClassId} {b : Addr} {As rest : List Value} {g : JFrame}
    (hat : ClassAt s C cC) (S : CallFix p m c cc nL s args Ts own) (hM : vx_Met l y ws rm Pc Qc XC mc ms free) (cw : va_CS R s args own index y bytes maxL ret ws rm mc ms n) (hp : PreV s H C b Pc As)
    (hg : g.method = m) (hn : As.length = n) (hsize : g.locals.size = nL) (hstack : g.stack = As.reverse ++ .ref b :: rest) (hW : 2 * g.monitorRoom + (rest.map fun v => v.category).sum ≤ 8) (hdg : decode cc g.pc = .ok (.invokespecial index, 3)) (hf : cells + mc ≤ R.cells ∧ slots + ms ≤ R.slots) :
    vx_Run p l e R s m args below meth c H locs cells slots mc ms g rest (Qc (Value.ref b :: As).toArray) XC free := by
  obtain ⟨⟨hrc, hrs, hfr, hlo, hws, hcw⟩, hl1, hl2, hl3, hl4, hini, hcode, hno, hlen⟩ := cw
  have hK : vx_Back l R p e below s args y 3 8 (PreOf R mc ms Pc) (PostOf Qc mc ms free) (vx_Post XC mc ms free) := vx_back (bytes := bytes) (maxL := maxL) (ret := ret) hM hp.1 hrc hrs hfr hlo hws hcw (fun a' U hW => word_at hW (Or.inl (by first | rfl | simp [Cond.onTables, Cond.keeps, Cond.steady])) hini)
  obtain ⟨hx, hb, hml, ho, -⟩ := S
  obtain ⟨-, ⟨cellB, hcB, hoB, hclB⟩, hPc⟩ := hp
  obtain ⟨hfc, kB, hkB, -⟩ := hat
  cases hfc.symm.trans hclB
  intro T hT X
  rcases vx_callSU X hx (bytes := bytes) (maxL := maxL) (ret := ret) ho hl1 hl2 hl3 hl4 hcode hno hK (by rw [hT]; exact hcB) hoB hkB hg (hsize.trans hml.symm) (argsL := As) (rest := rest) (fun sig h => hn.trans (hlen sig h)) hstack hW (by rw [hb]; exact hdg)
    (fun vm₁ hW₁ => ⟨hf.1, hf.2, hPc (T.setVm vm₁) hT hW₁⟩) with ⟨v, vm₁, ⟨U', l2, c2, s2⟩, hW₁, X', ⟨g', mk, t, L, e1, e2, hq, h1, hL, h2, h3⟩, st⟩ | ⟨q, vm₁, ⟨U', l2, c2, s2⟩, hW₁, X', ⟨g', mk, t, L, E, ce, e1, e2, hq, hce, hcv, hcl, h1, hL, h2, h3⟩, st⟩
  · dsimp only [Pt.U, Pt.locs, Pt.cells, Pt.slots] at X' e1 e2 h1 h2 h3 st
    subst h1; subst h2; subst h3
    exact Or.inl ⟨v, (T.setVm vm₁).calling g' mk (Value.ref b :: As).toArray, t, U', L, hT, X', hL, e1, e2, hq, st⟩
  · dsimp only [Pt.U, Pt.locs, Pt.cells, Pt.slots] at X' e1 e2 h1 h2 h3 st hcl
    subst h1; subst h2; subst h3
    exact Or.inr ⟨q, (T.setVm vm₁).calling g' mk (Value.ref b :: As).toArray, t, U', L, E, ce, hT, X', hL, e1, e2, hq, hce, hcv, vx_cls hW₁ hcl, st⟩
end
/-! ===== END ===== -/
/-! ===== exceptions: the words that a throw needs, kept along; a method that may throw ===== -/
abbrev EI : String := "java/lang/IllegalStateException"
abbrev EA : String := "java/lang/IllegalArgumentException"
abbrev EU : String := "java/lang/UnsupportedOperationException"
abbrev NM2 : List String := ["java/lang/RuntimeException", "java/lang/Exception"]
abbrev DCL : List MethodName := [Bundle.initS "java/lang/RuntimeException", Bundle.initS "java/lang/Exception", Bundle.initS Bundle.tN]
abbrev XCL : List String := [EI, EA, EU]
abbrev XST : List (String × Nat × String) := [(RX0, 21, "a drawer's failure"), (RX3, 31, "a loose one's failure"), (RX5, 28, "an over one's failure"), (RX11, 226, "no such shelf"), (RX11, 233, "no row"), (RX11, 236, "no such place")]
abbrev XNC : List (String × String) := [(EA, EI), (EU, EI), (EU, EA), (EI, EA)]
def XX (A : Nat → Prop) (U : State) : Prop :=
  vx_Zq Bundle.tN "UNASSIGNED_STACK" Bundle.steD A U U.heap ∧ vx_Zq Bundle.tN "SUPPRESSED_SENTINEL" Bundle.listD A U U.heap ∧ (∀ y ∈ DCL, va_Nw (.declares y) U) ∧ (∀ C ∈ XCL, va_Nw (.castable C C) U) ∧ (∀ q ∈ XST, ∃ sa, vk_R q.1 q.2.1 q.2.2 sa U) ∧ ∀ q ∈ XNC, va_Nc q.1 q.2 U
theorem XX.move {A : Nat → Prop} {s U : State} {locs : List Loc} (hW : s.WarmedH U.vm) (hS : va_S A s.heap U.heap locs) (h : XX A s) : XX A U :=
  ⟨vx_Zq.moved hW.alike (h.1.kept hS.2.1), vx_Zq.moved hW.alike (h.2.1.kept hS.2.1), fun y hy => va_Nw.warmD hW (h.2.2.1 y hy), fun C hC => va_Nw.warmC hW (h.2.2.2.1 C hC), fun q hq => by
    obtain ⟨sa, h9⟩ := h.2.2.2.2.1 q hq
    exact ⟨sa, vk_R.warm hW h9⟩, fun q hq => va_Nc.moved hW.alike (h.2.2.2.2.2 q hq)⟩
theorem XX.same {A : Nat → Prop} {u U : State} (eh : U.heap = u.heap) (e : u.vm = U.vm) (h : XX A u) : XX A U := by
  refine XX.move (locs := []) (by rw [← e]; exact State.WarmedH.refl u) ?_ h
  rw [eh]
  exact va_S.rf
/-- a start where something may be thrown -/
def PreX (D : va_G) (cA : Nat → ClassId) (A : Nat → Prop) (ws : va_W) (U : State) : Prop := Pre D cA A ws U ∧ XX A U
theorem PreX_blind {D : va_G} {cA : Nat → ClassId} {A : Nat → Prop} {ws : va_W} {av : List Value} : FrameBlind (va_Pc av (PreX D cA A ws)) := fun a U g mk q => by
  obtain ⟨q0, ⟨q1, q2, q3, q4⟩, q5⟩ := q
  exact ⟨q0, ⟨q1, q2, q3, KK.same (u := U) (U := U.calling g mk a) rfl q4⟩, XX.same (u := U) (U := U.calling g mk a) rfl rfl q5⟩
theorem preXV_of {D : va_G} {cA : Nat → ClassId} {A : Nat → Prop} {ws : va_W} {s : State} {H : Heap} {locs : List Loc} {As : List Value} {b q0 ci : Nat} {fs : List Value} {r : vw_C} {C : String} (hK : KK D cA s) (hX : XX A s) (hA : ∀ q, s.heap.size ≤ q → A q) (hG : Gd D A ws s.heap H locs) (he : ws[q0]? = some (b, .inr (ci, fs))) (hc : vwCl[ci]? = some r) (hC : r.1 = C) : PreV s H C b (va_Pc (.ref b :: As) (PreX D cA A ws)) As :=
  ⟨PreX_blind, by subst hC; exact va_recv hK.1 hG.1 hc he, fun U hU hW => ⟨rfl, ⟨fun q h => hA q (Nat.le_trans hG.2.2.1 (by rw [← hU]; exact h)), by rw [hU]; exact hG.1, hG.2.1, KK.warm hW hK⟩, XX.move hW (by rw [hU]; exact hG.2.2) hX⟩⟩
/-- how a method ends that throws -/
def XC (px : String → Prop) (D : va_G) (A : Nat → Prop) (ws : va_W) : String → State → State → Prop := vx_X (fun _ : Unit => True) (fun E _ t => px E ∧ Wd D A ws t) A
theorem vx_bad {args : Array Value} {s : State} {A : Nat → Prop} (h : XX A s) {cls : String} (hc : cls ∈ XCL) : ∀ w ∈ DCL.map Cond.declares ++ [Cond.castable cls cls], w.before args s = true := by
  intro w hw
  rcases List.mem_append.mp hw with hw | hw
  · obtain ⟨y, hy, rfl⟩ := List.mem_map.mp hw
    exact va_Nw.use rfl (h.2.2.1 y hy)
  · rw [List.mem_singleton] at hw
    rw [hw]
    exact va_Nw.use rfl (h.2.2.2.1 cls hc)
section OFX
variable {S : Type} {l : Launch} {y : MethodName} {ws0 ws' : List Cond} {rm : Room} {av : List Value} {D : va_G} {cA : Nat → ClassId} {A : Nat → Prop} {ws : va_W} {F : S → va_W} {mc ms : Nat} {cc : ByteArray} {maxL : Nat} {px : String → Prop}
theorem k_ofxv {post : S → Prop} (hy : plainName y.cls = true) (hw : ws0 = Cond.code y cc maxL none :: ws') (hln : (lg_sl av).length ≤ maxL)
    (body : ∀ (p : Program) (e : Env) (s : State) (m : MethodId) (args : Array Value) (below : List Frame) (meth : Method) (c : Code) (Q : State → Prop),
      Q = vx_MQ below (va_Qv post (fun u t => Wd D A (F u) t) A) (XC px D A ws) args s mc ms A → meth.locks = false → (∀ x ∈ c.exceptionTable.toList, False) →
      CallFix p m c cc maxL s args ws0 y.cls → KK D cA s → XX A s → (∀ q, s.heap.size ≤ q → A q) → Gd D A ws s.heap s.heap [] →
      (∀ (u : S) (pc : Nat) (ls : Array Slot) (H : Heap) (locs : List Loc) (k n : Nat), post u → Gd D A (F u) s.heap H locs → k ≤ mc → n ≤ ms → decode cc pc = .ok (.return_, 1) → W p l e rm s m args below meth c H locs k n Q (F0 m pc ls [])) →
      ∀ ls : Array Slot, lv_has ls maxL (lv_args 0 av) → W p l e rm s m args below meth c s.heap [] 0 0 Q (F0 m 0 ls [])) :
    vx_Met l y ws0 rm (va_Pc av (PreX D cA A ws)) (va_Qv post (fun u t => Wd D A (F u) t) A) (XC px D A ws) mc ms A := by
  refine vx_ofW (cc := cc) (maxL := maxL) (ret := none) hy hw ?_
  intro p e s m args below meth c s₁ B hml ht hv
  obtain ⟨rfl, ⟨hA, hP, hD, hK⟩, hX⟩ := hv
  have hl := lv_entry av (n := maxL) hln
  rw [lg_entry_eq]
  generalize (lg_sl av ++ List.replicate (maxL - (lg_sl av).length) Slot.unset).toArray = ls at hl ⊢
  exact body p e s m _ below meth c _ rfl B.notSynchronized ht ⟨B.exec, B.bytes, hml, findClass_of_methodNamed B.named, atoms_spec (ws := ws0) B.pre⟩ hK hX hA ⟨hP, hD, va_S.rf⟩ (fun u pc ls H locs k n hp hG hk hn2 hd => vx_ret (W.widen hk hn2 (W.vret B.exec B.bytes B.returns (fun t ht hW => ⟨⟨u, rfl, hp, by rw [← ht] at hG; exact ⟨hG.1, hG.2.1⟩⟩, hG.2.2.F ht⟩) hG.2.2.2.2 hd (hlocks := B.notSynchronized)))) ls hl
theorem k_ofxl {post : Int64 → S → Prop} (hy : plainName y.cls = true) (hw : ws0 = Cond.code y cc maxL (some .long) :: ws') (hln : (lg_sl av).length ≤ maxL)
    (body : ∀ (p : Program) (e : Env) (s : State) (m : MethodId) (args : Array Value) (below : List Frame) (meth : Method) (c : Code) (Q : State → Prop),
      Q = vx_MQ below (va_Ql post (fun u t => Wd D A (F u) t) A) (XC px D A ws) args s mc ms A → meth.locks = false → (∀ x ∈ c.exceptionTable.toList, False) →
      CallFix p m c cc maxL s args ws0 y.cls → KK D cA s → XX A s → (∀ q, s.heap.size ≤ q → A q) → Gd D A ws s.heap s.heap [] →
      (∀ (v : Int64) (u : S) (pc : Nat) (ls : Array Slot) (H : Heap) (locs : List Loc) (k n : Nat), post v u → Gd D A (F u) s.heap H locs → k ≤ mc → n ≤ ms → decode cc pc = .ok (.lreturn, 1) → W p l e rm s m args below meth c H locs k n Q (F0 m pc ls [.long v])) →
      ∀ ls : Array Slot, lv_has ls maxL (lv_args 0 av) → W p l e rm s m args below meth c s.heap [] 0 0 Q (F0 m 0 ls [])) :
    vx_Met l y ws0 rm (va_Pc av (PreX D cA A ws)) (va_Ql post (fun u t => Wd D A (F u) t) A) (XC px D A ws) mc ms A := by
  refine vx_ofW (cc := cc) (maxL := maxL) (ret := some .long) hy hw ?_
  intro p e s m args below meth c s₁ B hml ht hv
  obtain ⟨rfl, ⟨hA, hP, hD, hK⟩, hX⟩ := hv
  have hl := lv_entry av (n := maxL) hln
  rw [lg_entry_eq]
  generalize (lg_sl av ++ List.replicate (maxL - (lg_sl av).length) Slot.unset).toArray = ls at hl ⊢
  exact body p e s m _ below meth c _ rfl B.notSynchronized ht ⟨B.exec, B.bytes, hml, findClass_of_methodNamed B.named, atoms_spec (ws := ws0) B.pre⟩ hK hX hA ⟨hP, hD, va_S.rf⟩ (fun v u pc ls H locs k n hp hG hk hn2 hd => vx_ret (W.widen hk hn2 (W.lret B.exec B.bytes B.returns (fun t ht hW => ⟨⟨v, u, rfl, hp, by rw [← ht] at hG; exact ⟨hG.1, hG.2.1⟩⟩, hG.2.2.F ht⟩) hG.2.2.2.2 hd (hlocks := B.notSynchronized)))) ls hl
end OFX
section THR
variable {p : Program} {l : Launch} {e : Env} {R : Room} {s : State} {m : MethodId} {args : Array Value} {below : List Frame} {meth : Method} {c : Code} {H : Heap} {locs : List Loc} {cells slots : Nat} {Q : State → Prop}
variable {cc : ByteArray} {pc nL mc ms : Nat} {ls : Array Slot} {rest : List Value} {D : va_G} {A : Nat → Prop} {ws : va_W} {Ts : List Cond} {own : String} {Qc : Array Value → State → Outcome → State → Prop} {px : String → Prop}
theorem XC_end {t : State} {cls : String} (hpx : px cls) (hG : Gd D A ws s.heap H locs) (hz : H.size ≤ t.heap.size) (hq : ∀ q : Nat, q < H.size → t.heap[q]? = H[q]?) : XC px D A ws cls s t :=
  ⟨(), trivial, ⟨hpx, hG.1.kept (fun _ _ hk => hq _ (vx_lt hG.1 hk)), hG.2.1⟩, Nat.le_trans hG.2.2.1 hz, fun q h1 h2 => (hq q (Nat.lt_of_lt_of_le h1 hG.2.2.1)).trans (hG.2.2.2.1 q h1 h2)⟩
theorem x_throw (hQ : Q = vx_MQ below Qc (XC px D A ws) args s mc ms A) (hfl : l.stackTraces = false) (hlo : meth.locks = false) (ht : ∀ x ∈ c.exceptionTable.toList, False) (hF : CallFix p m c cc nL s args Ts own) (hX : XX A s) (hG : Gd D A ws s.heap H locs) {cls text : String} {ik is ic : Nat} (hpx : px cls) (hcl : cls ∈ XCL) (hst : (own, is, text) ∈ XST) (hfit : Bundle.fit cls = true) (hk : Cond.classLink own ik cls ∈ Ts) (hini : Cond.initialized cls ∈ Ts)
    (hat : ∀ w ∈ (vx_atS own ic cls NM2).filter goodWord, w ∈ Ts) (hbad : ∀ w ∈ (vx_atS own ic cls NM2).filter (fun w => !goodWord w), w ∈ DCL.map Cond.declares ++ [Cond.castable cls cls]) (hgood : ∀ w ∈ Cond.classLink own ik cls :: Cond.initialized cls :: vx_atS own ic cls NM2, vx_ot w = true) (hsize : ls.size = nL)
    (d0 : decode cc pc = .ok (.new ik, 3)) (d3 : decode cc (pc + 3) = .ok (.dup, 1)) (d4 : decode cc (pc + 4) = .ok (.ldc is, 2)) (d6 : decode cc (pc + 6) = .ok (.invokespecial ic, 3)) (d9 : decode cc (pc + 9) = .ok (.athrow, 1))
    (hR : 5 < R.frames ∧ 82 ≤ R.locals ∧ cells + 1 ≤ R.cells ∧ slots + 6 ≤ R.slots ∧ cells + 1 ≤ mc ∧ slots + 6 ≤ ms) :
    W p l e R s m args below meth c H locs cells slots Q (F0 m pc ls []) := by
  subst hQ
  obtain ⟨sa, hsa⟩ := hX.2.2.2.2.1 _ hst
  exact vx_throwS (names := NM2) hF.1 hF.2.1 hfl hF.2.2.2.1 hfit (by decide +kernel) (hF.2.2.2.2 _ hk) (hF.2.2.2.2 _ hini) hsa (vx_hat (fun w h => hF.2.2.2.2 _ (hat w h)) hbad (vx_bad hX hcl)) hgood hX.1 hX.2.1 hG.2.2 (hsize.trans hF.2.2.1.symm) d0 d3 d4 d6 d9 (fun x h => (ht x h).elim) hR.1 hR.2.1 hR.2.2.1 hR.2.2.2.1 hlo (fun t _ hz hq => XC_end hpx hG hz hq) hG.2.2.2.2 hR.2.2.2.2.1 hR.2.2.2.2.2
/-- passed on to the caller, from a body without a table -/
theorem x_out (hQ : Q = vx_MQ below Qc (XC px D A ws) args s mc ms A) (hlo : meth.locks = false) (ht : ∀ x ∈ c.exceptionTable.toList, False) (hG : Gd D A ws s.heap H locs) {E : String} {ce : Cell} {q9 : Addr} (hpx : px E) (hcell : H[q9]? = some ce) (hv : ce.vm = .none) (hcl : s.vm.findClass E = some ce.cls) (hc : cells ≤ mc) (hs : slots ≤ ms) : vx_W p l e R s m args below meth c H locs cells slots Q (F0 m pc ls rest) q9 := by
  subst hQ
  exact vx_out (fun x h => (ht x h).elim) hlo hcell hv hcl (fun t e1 _ => XC_end hpx hG (Nat.le_of_eq (by rw [e1])) (fun q _ => by rw [e1])) hG.2.2.2.2 hc hs
/-- a call of a method that may throw: what it throws and what it answers -/
theorem x_cv {S : Type} {post : S → Prop} {F : S → va_W} {st : List Value} {H0 : Heap} {a : Array Value} {px1 : String → Prop} (hr : vx_Run p l e R s m args below meth c H locs cells slots mc ms (F0 m pc ls st) rest (va_Qv post (fun u t => Wd D A (F u) t) A a) (XC px1 D A ws) A) (hG : Gd D A ws H0 H locs)
    (kx : ∀ (E : String) (ce : Cell) (q9 : Addr) (H1 : Heap) (locs1 : List Loc), px1 E → Gd D A ws H0 H1 locs1 → H1[q9]? = some ce → ce.vm = .none → s.vm.findClass E = some ce.cls → vx_W p l e R s m args below meth c H1 locs1 (cells + mc) (slots + ms) Q (F0 m pc ls rest) q9)
    (kk : ∀ (u : S) (H1 : Heap) (locs1 : List Loc), post u → Gd D A (F u) H0 H1 locs1 → W p l e R s m args below meth c H1 locs1 (cells + mc) (slots + ms) Q (F0 m (pc + 3) ls rest)) : W p l e R s m args below meth c H locs cells slots Q (F0 m pc ls st) :=
  vx_callv hr hG.2.2 (fun _ _ h => h) (fun _ h => h) (fun _ _ h => h) (fun E ce q9 u t H1 locs1 e1 hvm hp hB hz hk hS h5 h6 h7 => kx E ce q9 H1 locs1 hB.1 ⟨by rw [← e1]; exact hB.2.1, hB.2.2, hS⟩ h5 h6 h7) (fun u t H1 locs1 e1 hvm hp hB hz hk hS => kk u H1 locs1 hp ⟨by rw [← e1]; exact hB.1, hB.2, hS⟩)
theorem x_cl {S : Type} {post : Int64 → S → Prop} {F : S → va_W} {st : List Value} {H0 : Heap} {a : Array Value} {px1 : String → Prop} (hr : vx_Run p l e R s m args below meth c H locs cells slots mc ms (F0 m pc ls st) rest (va_Ql post (fun u t => Wd D A (F u) t) A a) (XC px1 D A ws) A) (hG : Gd D A ws H0 H locs)
    (kx : ∀ (E : String) (ce : Cell) (q9 : Addr) (H1 : Heap) (locs1 : List Loc), px1 E → Gd D A ws H0 H1 locs1 → H1[q9]? = some ce → ce.vm = .none → s.vm.findClass E = some ce.cls → vx_W p l e R s m args below meth c H1 locs1 (cells + mc) (slots + ms) Q (F0 m pc ls rest) q9)
    (kk : ∀ (r : Int64) (u : S) (H1 : Heap) (locs1 : List Loc), post r u → Gd D A (F u) H0 H1 locs1 → W p l e R s m args below meth c H1 locs1 (cells + mc) (slots + ms) Q (F0 m (pc + 3) ls (.long r :: rest))) : W p l e R s m args below meth c H locs cells slots Q (F0 m pc ls st) :=
  vx_calll hr hG.2.2 (fun _ _ h => h) (fun _ h => h) (fun _ _ h => h) (fun E ce q9 u t H1 locs1 e1 hvm hp hB hz hk hS h5 h6 h7 => kx E ce q9 H1 locs1 hB.1 ⟨by rw [← e1]; exact hB.2.1, hB.2.2, hS⟩ h5 h6 h7) (fun r u t H1 locs1 e1 hvm hp hB hz hk hS => kk r u H1 locs1 hp ⟨by rw [← e1]; exact hB.1, hB.2, hS⟩)
end THR
def exE (k : Nat) : String := if k = 4 then EA else if k = 5 then EU else EI
def failQ (k f : Nat) : Prop := k = 1 ∨ f = 0
def failX (k f : Nat) (E : String) : Prop := E = exE k ∧ ¬ failQ k f

abbrev rmX0_fail : Room := { frames := 6, cells := 1, slots := 6, locals := 82 }
set_option maxHeartbeats 4000000 in
set_option maxRecDepth 100000 in
theorem c_X0_fail_X0 {l : Launch} (hfl : l.stackTraces = false) {D : va_G} {cA : Nat → ClassId} {A : Nat → Prop} {ws : va_W} {w f qw : Nat} (hf : f < 10) (hw : ws[qw]? = some (w, .inr (0, [.int (nI f)]))) : vx_Met l yX0_fail wsX0_fail rmX0_fail (va_Pc [.ref w] (PreX D cA A ws)) (va_Qv (fun _ => failQ 0 f) (fun u t => Wd D A ((fun (_ : Unit) => ws) u) t) A) (XC (failX 0 f) D A ws) 1 6 A := by
  refine k_ofxv (S := Unit) (F := fun (_ : Unit) => ws) (cc := cX0_fail) (maxL := 1) (by decide) rfl (Nat.le_of_ble_eq_true rfl) ?_
  intro p e s m args below meth c Q hQ hlo ht hF hK hX hA hG hret ls hl
  have hl : lv_has ls 1 [(0, .ref w)] := hl
  refine lv_aload_n hF.1 hF.2.1 dX0_fail_0 rfl (lv_at hl 0 rfl) ?_
  refine k_get (C := RX0) (T := TX0) (N := 1) hF hK hG (fun _ h => List.mem_cons_of_mem _ (List.mem_append_left _ (List.mem_append_left _ (List.mem_append_left _ (List.mem_append_left _ (List.mem_append_left _ (List.mem_append_left _ (List.mem_append_left _ (List.mem_append_left _ (List.mem_append_right _ h)))))))))) qw hw rfl 0 (by decide) (List.mem_of_getElem? (i := 3) rfl) (fun _ h9 => h9) rfl dX0_fail_1 ?_
  refine lv_if_eq (tgt := 17) hF.1 hF.2.1 dX0_fail_4 (by decide) (fun c_4 => ?_) (fun c_4 => ?_)
  · have n_4 : f = 0 := (nI_eq (a := f) (b := 0) (by omega) (by omega)).mp c_4
    exact hret () _ ls _ _ _ _ (Or.inr n_4) hG (by decide) (by decide) dX0_fail_17
  · have n_4 : ¬ failQ 0 f := fun z => by
      rcases z with z | z
      · exact absurd z (by decide)
      · exact c_4 (by rw [z]; rfl)
    exact x_throw (text := "a drawer's failure") hQ hfl hlo ht hF hX hG (px := failX 0 f) ⟨by decide, n_4⟩ (by decide) (by decide) (by decide +kernel) (List.mem_of_getElem? (i := 1) rfl) (List.mem_of_getElem? (i := 2) rfl) (fun _ h => List.mem_cons_of_mem _ (List.mem_append_right _ h)) (by decide +kernel) (by decide +kernel) hl.1 dX0_fail_7 dX0_fail_10 dX0_fail_11 dX0_fail_13 dX0_fail_16 (by decide)
set_option maxHeartbeats 4000000 in
set_option maxRecDepth 100000 in
theorem c_X0_fail_X7 {l : Launch} (hfl : l.stackTraces = false) {D : va_G} {cA : Nat → ClassId} {A : Nat → Prop} {ws : va_W} {w f qw : Nat} (hf : f < 10) (hw : ws[qw]? = some (w, .inr (7, [.int (nI f)]))) : vx_Met l yX0_fail wsX0_fail rmX0_fail (va_Pc [.ref w] (PreX D cA A ws)) (va_Qv (fun _ => failQ 2 f) (fun u t => Wd D A ((fun (_ : Unit) => ws) u) t) A) (XC (failX 2 f) D A ws) 1 6 A := by
  refine k_ofxv (S := Unit) (F := fun (_ : Unit) => ws) (cc := cX0_fail) (maxL := 1) (by decide) rfl (Nat.le_of_ble_eq_true rfl) ?_
  intro p e s m args below meth c Q hQ hlo ht hF hK hX hA hG hret ls hl
  have hl : lv_has ls 1 [(0, .ref w)] := hl
  refine lv_aload_n hF.1 hF.2.1 dX0_fail_0 rfl (lv_at hl 0 rfl) ?_
  refine k_get (C := RX7) (T := TX7) (N := 1) hF hK hG (fun _ h => List.mem_cons_of_mem _ (List.mem_append_left _ (List.mem_append_left _ (List.mem_append_right _ h)))) qw hw rfl 0 (by decide) (List.mem_of_getElem? (i := 3) rfl) (fun _ h9 => h9) rfl dX0_fail_1 ?_
  refine lv_if_eq (tgt := 17) hF.1 hF.2.1 dX0_fail_4 (by decide) (fun c_4 => ?_) (fun c_4 => ?_)
  · have n_4 : f = 0 := (nI_eq (a := f) (b := 0) (by omega) (by omega)).mp c_4
    exact hret () _ ls _ _ _ _ (Or.inr n_4) hG (by decide) (by decide) dX0_fail_17
  · have n_4 : ¬ failQ 2 f := fun z => by
      rcases z with z | z
      · exact absurd z (by decide)
      · exact c_4 (by rw [z]; rfl)
    exact x_throw (text := "a drawer's failure") hQ hfl hlo ht hF hX hG (px := failX 2 f) ⟨by decide, n_4⟩ (by decide) (by decide) (by decide +kernel) (List.mem_of_getElem? (i := 1) rfl) (List.mem_of_getElem? (i := 2) rfl) (fun _ h => List.mem_cons_of_mem _ (List.mem_append_right _ h)) (by decide +kernel) (by decide +kernel) hl.1 dX0_fail_7 dX0_fail_10 dX0_fail_11 dX0_fail_13 dX0_fail_16 (by decide)
set_option maxHeartbeats 4000000 in
set_option maxRecDepth 100000 in
theorem c_X0_fail_X2 {l : Launch} (hfl : l.stackTraces = false) {D : va_G} {cA : Nat → ClassId} {A : Nat → Prop} {ws : va_W} {w f qw : Nat} (hf : f < 10) (hw : ws[qw]? = some (w, .inr (2, [.int (nI f)]))) : vx_Met l yX0_fail wsX0_fail rmX0_fail (va_Pc [.ref w] (PreX D cA A ws)) (va_Qv (fun _ => failQ 7 f) (fun u t => Wd D A ((fun (_ : Unit) => ws) u) t) A) (XC (failX 7 f) D A ws) 1 6 A := by
  refine k_ofxv (S := Unit) (F := fun (_ : Unit) => ws) (cc := cX0_fail) (maxL := 1) (by decide) rfl (Nat.le_of_ble_eq_true rfl) ?_
  intro p e s m args below meth c Q hQ hlo ht hF hK hX hA hG hret ls hl
  have hl : lv_has ls 1 [(0, .ref w)] := hl
  refine lv_aload_n hF.1 hF.2.1 dX0_fail_0 rfl (lv_at hl 0 rfl) ?_
  refine k_get (C := RX2) (T := TX2) (N := 1) hF hK hG (fun _ h => List.mem_cons_of_mem _ (List.mem_append_left _ (List.mem_append_left _ (List.mem_append_left _ (List.mem_append_left _ (List.mem_append_left _ (List.mem_append_left _ (List.mem_append_right _ h)))))))) qw hw rfl 0 (by decide) (List.mem_of_getElem? (i := 3) rfl) (fun _ h9 => h9) rfl dX0_fail_1 ?_
  refine lv_if_eq (tgt := 17) hF.1 hF.2.1 dX0_fail_4 (by decide) (fun c_4 => ?_) (fun c_4 => ?_)
  · have n_4 : f = 0 := (nI_eq (a := f) (b := 0) (by omega) (by omega)).mp c_4
    exact hret () _ ls _ _ _ _ (Or.inr n_4) hG (by decide) (by decide) dX0_fail_17
  · have n_4 : ¬ failQ 7 f := fun z => by
      rcases z with z | z
      · exact absurd z (by decide)
      · exact c_4 (by rw [z]; rfl)
    exact x_throw (text := "a drawer's failure") hQ hfl hlo ht hF hX hG (px := failX 7 f) ⟨by decide, n_4⟩ (by decide) (by decide) (by decide +kernel) (List.mem_of_getElem? (i := 1) rfl) (List.mem_of_getElem? (i := 2) rfl) (fun _ h => List.mem_cons_of_mem _ (List.mem_append_right _ h)) (by decide +kernel) (by decide +kernel) hl.1 dX0_fail_7 dX0_fail_10 dX0_fail_11 dX0_fail_13 dX0_fail_16 (by decide)
set_option maxHeartbeats 4000000 in
set_option maxRecDepth 100000 in
theorem c_X0_fail_X8 {l : Launch} (hfl : l.stackTraces = false) {D : va_G} {cA : Nat → ClassId} {A : Nat → Prop} {ws : va_W} {w f qw : Nat} (hf : f < 10) (hw : ws[qw]? = some (w, .inr (8, [.int (nI f)]))) : vx_Met l yX0_fail wsX0_fail rmX0_fail (va_Pc [.ref w] (PreX D cA A ws)) (va_Qv (fun _ => failQ 3 f) (fun u t => Wd D A ((fun (_ : Unit) => ws) u) t) A) (XC (failX 3 f) D A ws) 1 6 A := by
  refine k_ofxv (S := Unit) (F := fun (_ : Unit) => ws) (cc := cX0_fail) (maxL := 1) (by decide) rfl (Nat.le_of_ble_eq_true rfl) ?_
  intro p e s m args below meth c Q hQ hlo ht hF hK hX hA hG hret ls hl
  have hl : lv_has ls 1 [(0, .ref w)] := hl
  refine lv_aload_n hF.1 hF.2.1 dX0_fail_0 rfl (lv_at hl 0 rfl) ?_
  refine k_get (C := RX8) (T := TX8) (N := 1) hF hK hG (fun _ h => List.mem_cons_of_mem _ (List.mem_append_left _ (List.mem_append_right _ h))) qw hw rfl 0 (by decide) (List.mem_of_getElem? (i := 3) rfl) (fun _ h9 => h9) rfl dX0_fail_1 ?_
  refine lv_if_eq (tgt := 17) hF.1 hF.2.1 dX0_fail_4 (by decide) (fun c_4 => ?_) (fun c_4 => ?_)
  · have n_4 : f = 0 := (nI_eq (a := f) (b := 0) (by omega) (by omega)).mp c_4
    exact hret () _ ls _ _ _ _ (Or.inr n_4) hG (by decide) (by decide) dX0_fail_17
  · have n_4 : ¬ failQ 3 f := fun z => by
      rcases z with z | z
      · exact absurd z (by decide)
      · exact c_4 (by rw [z]; rfl)
    exact x_throw (text := "a drawer's failure") hQ hfl hlo ht hF hX hG (px := failX 3 f) ⟨by decide, n_4⟩ (by decide) (by decide) (by decide +kernel) (List.mem_of_getElem? (i := 1) rfl) (List.mem_of_getElem? (i := 2) rfl) (fun _ h => List.mem_cons_of_mem _ (List.mem_append_right _ h)) (by decide +kernel) (by decide +kernel) hl.1 dX0_fail_7 dX0_fail_10 dX0_fail_11 dX0_fail_13 dX0_fail_16 (by decide)
set_option maxHeartbeats 4000000 in
set_option maxRecDepth 100000 in
theorem c_X0_fail_X4 {l : Launch} (hfl : l.stackTraces = false) {D : va_G} {cA : Nat → ClassId} {A : Nat → Prop} {ws : va_W} {w f qw : Nat} (hf : f < 10) (hw : ws[qw]? = some (w, .inr (4, [.int (nI f)]))) : vx_Met l yX0_fail wsX0_fail rmX0_fail (va_Pc [.ref w] (PreX D cA A ws)) (va_Qv (fun _ => failQ 6 f) (fun u t => Wd D A ((fun (_ : Unit) => ws) u) t) A) (XC (failX 6 f) D A ws) 1 6 A := by
  refine k_ofxv (S := Unit) (F := fun (_ : Unit) => ws) (cc := cX0_fail) (maxL := 1) (by decide) rfl (Nat.le_of_ble_eq_true rfl) ?_
  intro p e s m args below meth c Q hQ hlo ht hF hK hX hA hG hret ls hl
  have hl : lv_has ls 1 [(0, .ref w)] := hl
  refine lv_aload_n hF.1 hF.2.1 dX0_fail_0 rfl (lv_at hl 0 rfl) ?_
  refine k_get (C := RX4) (T := TX4) (N := 1) hF hK hG (fun _ h => List.mem_cons_of_mem _ (List.mem_append_left _ (List.mem_append_left _ (List.mem_append_left _ (List.mem_append_left _ (List.mem_append_right _ h)))))) qw hw rfl 0 (by decide) (List.mem_of_getElem? (i := 3) rfl) (fun _ h9 => h9) rfl dX0_fail_1 ?_
  refine lv_if_eq (tgt := 17) hF.1 hF.2.1 dX0_fail_4 (by decide) (fun c_4 => ?_) (fun c_4 => ?_)
  · have n_4 : f = 0 := (nI_eq (a := f) (b := 0) (by omega) (by omega)).mp c_4
    exact hret () _ ls _ _ _ _ (Or.inr n_4) hG (by decide) (by decide) dX0_fail_17
  · have n_4 : ¬ failQ 6 f := fun z => by
      rcases z with z | z
      · exact absurd z (by decide)
      · exact c_4 (by rw [z]; rfl)
    exact x_throw (text := "a drawer's failure") hQ hfl hlo ht hF hX hG (px := failX 6 f) ⟨by decide, n_4⟩ (by decide) (by decide) (by decide +kernel) (List.mem_of_getElem? (i := 1) rfl) (List.mem_of_getElem? (i := 2) rfl) (fun _ h => List.mem_cons_of_mem _ (List.mem_append_right _ h)) (by decide +kernel) (by decide +kernel) hl.1 dX0_fail_7 dX0_fail_10 dX0_fail_11 dX0_fail_13 dX0_fail_16 (by decide)
abbrev rmX5_fail : Room := { frames := 6, cells := 1, slots := 6, locals := 82 }
set_option maxHeartbeats 4000000 in
set_option maxRecDepth 100000 in
theorem c_X5_fail_X5 {l : Launch} (hfl : l.stackTraces = false) {D : va_G} {cA : Nat → ClassId} {A : Nat → Prop} {ws : va_W} {w f qw : Nat} (hf : f < 10) (hw : ws[qw]? = some (w, .inr (5, [.int (nI f)]))) : vx_Met l yX5_fail wsX5_fail rmX5_fail (va_Pc [.ref w] (PreX D cA A ws)) (va_Qv (fun _ => failQ 4 f) (fun u t => Wd D A ((fun (_ : Unit) => ws) u) t) A) (XC (failX 4 f) D A ws) 1 6 A := by
  refine k_ofxv (S := Unit) (F := fun (_ : Unit) => ws) (cc := cX5_fail) (maxL := 1) (by decide) rfl (Nat.le_of_ble_eq_true rfl) ?_
  intro p e s m args below meth c Q hQ hlo ht hF hK hX hA hG hret ls hl
  have hl : lv_has ls 1 [(0, .ref w)] := hl
  refine lv_aload_n hF.1 hF.2.1 dX5_fail_0 rfl (lv_at hl 0 rfl) ?_
  refine k_get (C := RX5) (T := TX5) (N := 1) hF hK hG (fun _ h => List.mem_cons_of_mem _ (List.mem_append_left _ (List.mem_append_left _ (List.mem_append_left _ (List.mem_append_right _ h))))) qw hw rfl 0 (by decide) (List.mem_of_getElem? (i := 3) rfl) (fun x9 h9 => u_same (hF.2.2.2.2 _ (List.mem_of_getElem? (i := 4) rfl)) x9 h9) rfl dX5_fail_1 ?_
  refine lv_if_eq (tgt := 17) hF.1 hF.2.1 dX5_fail_4 (by decide) (fun c_4 => ?_) (fun c_4 => ?_)
  · have n_4 : f = 0 := (nI_eq (a := f) (b := 0) (by omega) (by omega)).mp c_4
    exact hret () _ ls _ _ _ _ (Or.inr n_4) hG (by decide) (by decide) dX5_fail_17
  · have n_4 : ¬ failQ 4 f := fun z => by
      rcases z with z | z
      · exact absurd z (by decide)
      · exact c_4 (by rw [z]; rfl)
    exact x_throw (text := "an over one's failure") hQ hfl hlo ht hF hX hG (px := failX 4 f) ⟨by decide, n_4⟩ (by decide) (by decide) (by decide +kernel) (List.mem_of_getElem? (i := 1) rfl) (List.mem_of_getElem? (i := 2) rfl) (fun _ h => List.mem_cons_of_mem _ (List.mem_append_right _ h)) (by decide +kernel) (by decide +kernel) hl.1 dX5_fail_7 dX5_fail_10 dX5_fail_11 dX5_fail_13 dX5_fail_16 (by decide)
abbrev rmX3_fail : Room := { frames := 6, cells := 1, slots := 6, locals := 82 }
set_option maxHeartbeats 4000000 in
set_option maxRecDepth 100000 in
theorem c_X3_fail_X3 {l : Launch} (hfl : l.stackTraces = false) {D : va_G} {cA : Nat → ClassId} {A : Nat → Prop} {ws : va_W} {w f qw : Nat} (hf : f < 10) (hw : ws[qw]? = some (w, .inr (3, [.int (nI f)]))) : vx_Met l yX3_fail wsX3_fail rmX3_fail (va_Pc [.ref w] (PreX D cA A ws)) (va_Qv (fun _ => failQ 5 f) (fun u t => Wd D A ((fun (_ : Unit) => ws) u) t) A) (XC (failX 5 f) D A ws) 1 6 A := by
  refine k_ofxv (S := Unit) (F := fun (_ : Unit) => ws) (cc := cX3_fail) (maxL := 1) (by decide) rfl (Nat.le_of_ble_eq_true rfl) ?_
  intro p e s m args below meth c Q hQ hlo ht hF hK hX hA hG hret ls hl
  have hl : lv_has ls 1 [(0, .ref w)] := hl
  refine lv_aload_n hF.1 hF.2.1 dX3_fail_0 rfl (lv_at hl 0 rfl) ?_
  refine k_get (C := RX3) (T := TX3) (N := 1) hF hK hG (fun _ h => List.mem_cons_of_mem _ (List.mem_append_left _ (List.mem_append_left _ (List.mem_append_left _ (List.mem_append_left _ (List.mem_append_left _ (List.mem_append_right _ h))))))) qw hw rfl 0 (by decide) (List.mem_of_getElem? (i := 3) rfl) (fun x9 h9 => u_same (hF.2.2.2.2 _ (List.mem_of_getElem? (i := 4) rfl)) x9 h9) rfl dX3_fail_1 ?_
  refine lv_if_eq (tgt := 17) hF.1 hF.2.1 dX3_fail_4 (by decide) (fun c_4 => ?_) (fun c_4 => ?_)
  · have n_4 : f = 0 := (nI_eq (a := f) (b := 0) (by omega) (by omega)).mp c_4
    exact hret () _ ls _ _ _ _ (Or.inr n_4) hG (by decide) (by decide) dX3_fail_17
  · have n_4 : ¬ failQ 5 f := fun z => by
      rcases z with z | z
      · exact absurd z (by decide)
      · exact c_4 (by rw [z]; rfl)
    exact x_throw (text := "a loose one's failure") hQ hfl hlo ht hF hX hG (px := failX 5 f) ⟨by decide, n_4⟩ (by decide) (by decide) (by decide +kernel) (List.mem_of_getElem? (i := 1) rfl) (List.mem_of_getElem? (i := 2) rfl) (fun _ h => List.mem_cons_of_mem _ (List.mem_append_right _ h)) (by decide +kernel) (by decide +kernel) hl.1 dX3_fail_7 dX3_fail_10 dX3_fail_11 dX3_fail_13 dX3_fail_16 (by decide)
abbrev rmX1_fail : Room := { frames := 7, cells := 1, slots := 6, locals := 110 }
set_option maxHeartbeats 4000000 in
set_option maxRecDepth 100000 in
theorem c_X1_fail_X1 {l : Launch} (hfl : l.stackTraces = false) {D : va_G} {cA : Nat → ClassId} {A : Nat → Prop} {ws : va_W} {w f qw : Nat} (hf : f < 10) (hw : ws[qw]? = some (w, .inr (1, [.int (nI f)]))) : vx_Met l yX1_fail wsX1_fail rmX1_fail (va_Pc [.ref w] (PreX D cA A ws)) (va_Qv (fun _ => failQ 1 f) (fun u t => Wd D A ((fun (_ : Unit) => ws) u) t) A) (XC (failX 1 f) D A ws) 1 6 A := by
  refine k_ofxv (S := Unit) (F := fun (_ : Unit) => ws) (cc := cX1_fail) (maxL := 1) (by decide) rfl (Nat.le_of_ble_eq_true rfl) ?_
  intro p e s m args below meth c Q hQ hlo ht hF hK hX hA hG hret ls hl
  have hl : lv_has ls 1 [(0, .ref w)] := hl
  refine lv_aload_n hF.1 hF.2.1 dX1_fail_0 rfl (lv_at hl 0 rfl) ?_
  refine k_ci (r_V (As := []) hF hK hA hG (c_X1_kind) (cwV 0 hF.2.2.2.2 gX1_fail_X1_kind rfl rfl rfl (by decide +kernel) ⟨(Nat.le_of_ble_eq_true rfl), (Nat.le_of_ble_eq_true rfl)⟩) qw hw rfl rfl rfl hl.1 rfl (lv_room (Nat.le_of_ble_eq_true rfl)) dX1_fail_1 ⟨(Nat.le_of_ble_eq_true rfl), (Nat.le_of_ble_eq_true rfl)⟩) hG (fun r_1 u_1 H locs hp_1 hG => ?_)
  subst hp_1
  refine lv_iconst (v := (nI 1)) hF.1 hF.2.1 dX1_fail_4 (by decide +kernel) ?_
  refine lv_icmp_eq (tgt := 12) hF.1 hF.2.1 dX1_fail_5 (by decide) (fun c_5 => ?_) (fun c_5 => absurd rfl c_5)
  exact hret () _ ls _ _ _ _ (Or.inl rfl) hG (by decide) (by decide) dX1_fail_12
set_option maxHeartbeats 4000000 in
set_option maxRecDepth 100000 in
theorem c_X1_fail_X8 {l : Launch} (hfl : l.stackTraces = false) {D : va_G} {cA : Nat → ClassId} {A : Nat → Prop} {ws : va_W} {w f qw : Nat} (hf : f < 10) (hw : ws[qw]? = some (w, .inr (8, [.int (nI f)]))) : vx_Met l yX1_fail wsX1_fail rmX1_fail (va_Pc [.ref w] (PreX D cA A ws)) (va_Qv (fun _ => failQ 3 f) (fun u t => Wd D A ((fun (_ : Unit) => ws) u) t) A) (XC (failX 3 f) D A ws) 1 6 A := by
  refine k_ofxv (S := Unit) (F := fun (_ : Unit) => ws) (cc := cX1_fail) (maxL := 1) (by decide) rfl (Nat.le_of_ble_eq_true rfl) ?_
  intro p e s m args below meth c Q hQ hlo ht hF hK hX hA hG hret ls hl
  have hl : lv_has ls 1 [(0, .ref w)] := hl
  refine lv_aload_n hF.1 hF.2.1 dX1_fail_0 rfl (lv_at hl 0 rfl) ?_
  refine k_ci (r_U (As := []) hF hK hA hG (c_X8_kind) (va_cwO 0 hF.2.2.2.2 gX1_fail_X8_kind_u13X8 rfl rfl rfl (List.mem_of_getElem? (i := 5) rfl) (by decide +kernel) ⟨(Nat.le_of_ble_eq_true rfl), (Nat.le_of_ble_eq_true rfl)⟩) qw hw rfl rfl rfl hl.1 rfl (lv_room (Nat.le_of_ble_eq_true rfl)) dX1_fail_1 ⟨(Nat.le_of_ble_eq_true rfl), (Nat.le_of_ble_eq_true rfl)⟩) hG (fun r_1 u_1 H locs hp_1 hG => ?_)
  subst hp_1
  refine lv_iconst (v := (nI 1)) hF.1 hF.2.1 dX1_fail_4 (by decide +kernel) ?_
  refine lv_icmp_eq (tgt := 12) hF.1 hF.2.1 dX1_fail_5 (by decide) (fun c_5 => absurd c_5 (by decide)) (fun c_5 => ?_)
  refine lv_aload_n hF.1 hF.2.1 dX1_fail_8 rfl (lv_at hl 0 rfl) ?_
  refine x_cv (vx_runSU (As := []) (hK.1.1 8 _ rfl).2 hF (c_X0_fail_X8 hfl hf hw) (va_cwSU 0 hF.2.2.2.2 gX1_fail_X0_fail_s18 rfl rfl rfl (by decide +kernel) ⟨(Nat.le_of_ble_eq_true rfl), (Nat.le_of_ble_eq_true rfl)⟩) (preXV_of hK hX hA hG hw rfl rfl) rfl rfl hl.1 rfl (lv_room (Nat.le_of_ble_eq_true rfl)) dX1_fail_9 ⟨(Nat.le_of_ble_eq_true rfl), (Nat.le_of_ble_eq_true rfl)⟩) hG (fun E ce q9 H1 locs1 hp hG h5 h6 h7 => ?_) (fun u H1 locs1 hp hG => ?_)
  · exact x_out hQ hlo ht hG hp h5 h6 h7 (by decide) (by decide)
  · exact hret () _ ls _ _ _ _ hp hG (by decide) (by decide) dX1_fail_12
set_option maxHeartbeats 4000000 in
set_option maxRecDepth 100000 in
theorem c_X1_fail_X4 {l : Launch} (hfl : l.stackTraces = false) {D : va_G} {cA : Nat → ClassId} {A : Nat → Prop} {ws : va_W} {w f qw : Nat} (hf : f < 10) (hw : ws[qw]? = some (w, .inr (4, [.int (nI f)]))) : vx_Met l yX1_fail wsX1_fail rmX1_fail (va_Pc [.ref w] (PreX D cA A ws)) (va_Qv (fun _ => failQ 6 f) (fun u t => Wd D A ((fun (_ : Unit) => ws) u) t) A) (XC (failX 6 f) D A ws) 1 6 A := by
  refine k_ofxv (S := Unit) (F := fun (_ : Unit) => ws) (cc := cX1_fail) (maxL := 1) (by decide) rfl (Nat.le_of_ble_eq_true rfl) ?_
  intro p e s m args below meth c Q hQ hlo ht hF hK hX hA hG hret ls hl
  have hl : lv_has ls 1 [(0, .ref w)] := hl
  refine lv_aload_n hF.1 hF.2.1 dX1_fail_0 rfl (lv_at hl 0 rfl) ?_
  refine k_ci (r_U (As := []) hF hK hA hG (c_X4_kind) (va_cwO 0 hF.2.2.2.2 gX1_fail_X4_kind_u13X4 rfl rfl rfl (List.mem_of_getElem? (i := 5) rfl) (by decide +kernel) ⟨(Nat.le_of_ble_eq_true rfl), (Nat.le_of_ble_eq_true rfl)⟩) qw hw rfl rfl rfl hl.1 rfl (lv_room (Nat.le_of_ble_eq_true rfl)) dX1_fail_1 ⟨(Nat.le_of_ble_eq_true rfl), (Nat.le_of_ble_eq_true rfl)⟩) hG (fun r_1 u_1 H locs hp_1 hG => ?_)
  subst hp_1
  refine lv_iconst (v := (nI 1)) hF.1 hF.2.1 dX1_fail_4 (by decide +kernel) ?_
  refine lv_icmp_eq (tgt := 12) hF.1 hF.2.1 dX1_fail_5 (by decide) (fun c_5 => absurd c_5 (by decide)) (fun c_5 => ?_)
  refine lv_aload_n hF.1 hF.2.1 dX1_fail_8 rfl (lv_at hl 0 rfl) ?_
  refine x_cv (vx_runSU (As := []) (hK.1.1 4 _ rfl).2 hF (c_X0_fail_X4 hfl hf hw) (va_cwSU 0 hF.2.2.2.2 gX1_fail_X0_fail_s18 rfl rfl rfl (by decide +kernel) ⟨(Nat.le_of_ble_eq_true rfl), (Nat.le_of_ble_eq_true rfl)⟩) (preXV_of hK hX hA hG hw rfl rfl) rfl rfl hl.1 rfl (lv_room (Nat.le_of_ble_eq_true rfl)) dX1_fail_9 ⟨(Nat.le_of_ble_eq_true rfl), (Nat.le_of_ble_eq_true rfl)⟩) hG (fun E ce q9 H1 locs1 hp hG h5 h6 h7 => ?_) (fun u H1 locs1 hp hG => ?_)
  · exact x_out hQ hlo ht hG hp h5 h6 h7 (by decide) (by decide)
  · exact hret () _ ls _ _ _ _ hp hG (by decide) (by decide) dX1_fail_12
