/-! ===== words and rows of this claim's own ===== -/
abbrev TY (cA : Nat → ClassId) : List (ClassId × FieldType) := [(cA 0, .int), (cA 1, .long), (cA 2, .object RX0), (cA 3, .object RX6)]
/-- a kind's class, by name and by its place in vwCl -/
def kcN : Nat → String := fun k => match k with
  | 0 => RX0
  | 1 => RX1
  | 2 => RX7
  | 3 => RX8
  | 4 => RX5
  | 5 => RX3
  | 6 => RX4
  | _ => RX2
def kcI : Nat → Nat := fun k => match k with
  | 0 => 0
  | 1 => 1
  | 2 => 7
  | 3 => 8
  | 4 => 5
  | 5 => 3
  | 6 => 4
  | _ => 2
/-- the calls among nest mates -/
abbrev NM : List (String × Nat × MethodName × String) := [(RX11, 24, yX10_init, "AboveIsShut"), (RX11, 9, yX9_init, "AboveIsShut"), (RX0, 15, yX11_isOpen, "AboveIsShut"), (RX2, 9, yX11_isOpen, "AboveIsShut"), (RX5, 19, yX11_isOpen, "AboveIsShut"), (RX8, 9, yX11_isOpen, "AboveIsShut"), (RX9, 43, yX11_turned, "AboveIsShut"), (RX10, 66, yX11_turned, "AboveIsShut"), (RX10, 69, yX11_isAmong, "AboveIsShut")]
/-- what stays the same from the law's entry on: classes, array classes, which may be cast, which are linked -/
def KK (D : va_G) (cA : Nat → ClassId) (U : State) : Prop :=
  va_K D vwCl (TY cA) U ∧ (∀ k : Nat, 0 < k → k < 8 → va_Nw (.castable (kcN k) RX0) U) ∧ va_AO RX0 U ∧ va_AO RX6 U ∧ ∀ w ∈ NM, va_Nw (.methodLinkNest w.1 w.2.1 w.2.2.1 w.2.2.2) U
theorem KK.warm {D : va_G} {cA : Nat → ClassId} {s U : State} (hW : s.WarmedH U.vm) (h : KK D cA s) : KK D cA U :=
  ⟨va_K.moved hW.alike h.1, fun k h0 h1 => va_Nw.warmC hW (h.2.1 k h0 h1), va_AO.moved hW.alike h.2.2.1, va_AO.moved hW.alike h.2.2.2.1, fun w hw => va_Nw.warmM hW (h.2.2.2.2 w hw)⟩
theorem KK.same {D : va_G} {cA : Nat → ClassId} {u U : State} (e : u.vm = U.vm) (h : KK D cA u) : KK D cA U :=
  ⟨va_K.moved (by rw [e]; exact Vm.Alike.refl _) h.1, fun k h0 h1 => va_Nw.same rfl e (h.2.1 k h0 h1), va_AO.moved (by rw [e]; exact Vm.Alike.refl _) h.2.2.1, va_AO.moved (by rw [e]; exact Vm.Alike.refl _) h.2.2.2.1, fun w hw => va_Nw.same rfl e (h.2.2.2.2 w hw)⟩
/-- a method's start: the world ws lies in A, all that is new lies in A -/
def Pre (D : va_G) (cA : Nat → ClassId) (A : Nat → Prop) (ws : va_W) (U : State) : Prop := (∀ q, U.heap.size ≤ q → A q) ∧ va_P D vwCl ws U.heap ∧ va_D A ws ∧ KK D cA U
theorem Pre_blind {D : va_G} {cA : Nat → ClassId} {A : Nat → Prop} {ws : va_W} {av : List Value} : FrameBlind (va_Pc av (Pre D cA A ws)) := fun a U g mk q => by
  obtain ⟨q0, q1, q2, q3, q4⟩ := q
  exact ⟨q0, q1, q2, q3, KK.same (u := U) (U := U.calling g mk a) rfl q4⟩
/-- a method's end -/
def Wd (D : va_G) (A : Nat → Prop) (ws : va_W) (t : State) : Prop := va_P D vwCl ws t.heap ∧ va_D A ws
/-- the world, inside a method -/
def Gd (D : va_G) (A : Nat → Prop) (ws : va_W) (H0 H : Heap) (locs : List Loc) : Prop := va_P D vwCl ws H ∧ va_D A ws ∧ va_S A H0 H locs
theorem preS_of {D : va_G} {cA : Nat → ClassId} {A : Nat → Prop} {ws : va_W} {s : State} {H : Heap} {locs : List Loc} {As : List Value} (hK : KK D cA s) (hA : ∀ q, s.heap.size ≤ q → A q) (hG : Gd D A ws s.heap H locs) : PreS s H (va_Pc As (Pre D cA A ws)) As :=
  ⟨Pre_blind, fun U hU hW => ⟨rfl, fun q h => hA q (Nat.le_trans hG.2.2.1 (by rw [← hU]; exact h)), by rw [hU]; exact hG.1, hG.2.1, KK.warm hW hK⟩⟩
theorem preV_of {D : va_G} {cA : Nat → ClassId} {A : Nat → Prop} {ws : va_W} {s : State} {H : Heap} {locs : List Loc} {As : List Value} {b q0 ci : Nat} {fs : List Value} {r : vw_C} {C : String} (hK : KK D cA s) (hA : ∀ q, s.heap.size ≤ q → A q) (hG : Gd D A ws s.heap H locs) (he : ws[q0]? = some (b, .inr (ci, fs))) (hc : vwCl[ci]? = some r) (hC : r.1 = C) : PreV s H C b (va_Pc (.ref b :: As) (Pre D cA A ws)) As :=
  ⟨Pre_blind, by subst hC; exact va_recv hK.1 hG.1 hc he, fun U hU hW => ⟨rfl, fun q h => hA q (Nat.le_trans hG.2.2.1 (by rw [← hU]; exact h)), by rw [hU]; exact hG.1, hG.2.1, KK.warm hW hK⟩⟩
section OFW
variable {S : Type} {l : Launch} {y : MethodName} {ws0 ws' : List Cond} {rm : Room} {av : List Value} {D : va_G} {cA : Nat → ClassId} {A : Nat → Prop} {ws : va_W} {F : S → va_W} {mc ms : Nat} {cc : ByteArray} {maxL : Nat}
/-- a method that answers an int or a boolean -/
theorem k_ofi {post : Int32 → S → Prop} {ty : FieldType} (hy : plainName y.cls = true) (hw : ws0 = Cond.code y cc maxL (some ty) :: ws') (hln : (lg_sl av).length ≤ maxL)
    (body : ∀ (p : Program) (e : Env) (s : State) (m : MethodId) (args : Array Value) (below : List Frame) (meth : Method) (c : Code) (Q : State → Prop),
      CallFix p m c cc maxL s args ws0 y.cls → meth.name = y.name → KK D cA s → (∀ q, s.heap.size ≤ q → A q) → Gd D A ws s.heap s.heap [] →
      (∀ (v : Int32) (u : S) (pc : Nat) (ls : Array Slot) (H : Heap) (locs : List Loc) (k n : Nat), post v u → narrow ty (.int v) = .int v → Gd D A (F u) s.heap H locs → k ≤ mc → n ≤ ms → decode cc pc = .ok (.ireturn, 1) → W p l e rm s m args below meth c H locs k n Q (F0 m pc ls [.int v])) →
      ∀ ls : Array Slot, lv_has ls maxL (lv_args 0 av) → W p l e rm s m args below meth c s.heap [] 0 0 Q (F0 m 0 ls [])) :
    Met l y ws0 rm (va_Pc av (Pre D cA A ws)) (va_Qi post (fun u t => Wd D A (F u) t) A) mc ms A := by
  refine Met.ofW (cc := cc) (maxL := maxL) (ret := some ty) hy hw ?_
  intro p e s m args below meth c s₁ B hml hv
  obtain ⟨rfl, hA, hP, hD, hK⟩ := hv
  have hl := lv_entry av (n := maxL) hln
  rw [lg_entry_eq]
  generalize (lg_sl av ++ List.replicate (maxL - (lg_sl av).length) Slot.unset).toArray = ls at hl ⊢
  exact body p e s m _ below meth c _ ⟨B.exec, B.bytes, hml, findClass_of_methodNamed B.named, atoms_spec (ws := ws0) B.pre⟩ (name_of_methodNamed B.named B.method).1 hK hA ⟨hP, hD, va_S.rf⟩ (fun v u pc ls H locs k n hp hn hG hk hn2 hd => W.widen hk hn2 (W.zret B.exec B.bytes B.returns hn (fun t ht hW => ⟨⟨v, u, rfl, hp, by rw [← ht] at hG; exact ⟨hG.1, hG.2.1⟩⟩, hG.2.2.F ht⟩) hG.2.2.2.2 hd (hlocks := B.notSynchronized))) ls hl
/-- a method that answers a long -/
theorem k_ofl {post : Int64 → S → Prop} (hy : plainName y.cls = true) (hw : ws0 = Cond.code y cc maxL (some .long) :: ws') (hln : (lg_sl av).length ≤ maxL)
    (body : ∀ (p : Program) (e : Env) (s : State) (m : MethodId) (args : Array Value) (below : List Frame) (meth : Method) (c : Code) (Q : State → Prop),
      CallFix p m c cc maxL s args ws0 y.cls → meth.name = y.name → KK D cA s → (∀ q, s.heap.size ≤ q → A q) → Gd D A ws s.heap s.heap [] →
      (∀ (v : Int64) (u : S) (pc : Nat) (ls : Array Slot) (H : Heap) (locs : List Loc) (k n : Nat), post v u → Gd D A (F u) s.heap H locs → k ≤ mc → n ≤ ms → decode cc pc = .ok (.lreturn, 1) → W p l e rm s m args below meth c H locs k n Q (F0 m pc ls [.long v])) →
      ∀ ls : Array Slot, lv_has ls maxL (lv_args 0 av) → W p l e rm s m args below meth c s.heap [] 0 0 Q (F0 m 0 ls [])) :
    Met l y ws0 rm (va_Pc av (Pre D cA A ws)) (va_Ql post (fun u t => Wd D A (F u) t) A) mc ms A := by
  refine Met.ofW (cc := cc) (maxL := maxL) (ret := some .long) hy hw ?_
  intro p e s m args below meth c s₁ B hml hv
  obtain ⟨rfl, hA, hP, hD, hK⟩ := hv
  have hl := lv_entry av (n := maxL) hln
  rw [lg_entry_eq]
  generalize (lg_sl av ++ List.replicate (maxL - (lg_sl av).length) Slot.unset).toArray = ls at hl ⊢
  exact body p e s m _ below meth c _ ⟨B.exec, B.bytes, hml, findClass_of_methodNamed B.named, atoms_spec (ws := ws0) B.pre⟩ (name_of_methodNamed B.named B.method).1 hK hA ⟨hP, hD, va_S.rf⟩ (fun v u pc ls H locs k n hp hG hk hn2 hd => W.widen hk hn2 (W.lret B.exec B.bytes B.returns (fun t ht hW => ⟨⟨v, u, rfl, hp, by rw [← ht] at hG; exact ⟨hG.1, hG.2.1⟩⟩, hG.2.2.F ht⟩) hG.2.2.2.2 hd (hlocks := B.notSynchronized))) ls hl
/-- a method that answers nothing -/
theorem k_ofv {post : S → Prop} (hy : plainName y.cls = true) (hw : ws0 = Cond.code y cc maxL none :: ws') (hln : (lg_sl av).length ≤ maxL)
    (body : ∀ (p : Program) (e : Env) (s : State) (m : MethodId) (args : Array Value) (below : List Frame) (meth : Method) (c : Code) (Q : State → Prop),
      CallFix p m c cc maxL s args ws0 y.cls → meth.name = y.name → KK D cA s → (∀ q, s.heap.size ≤ q → A q) → Gd D A ws s.heap s.heap [] →
      (∀ (u : S) (pc : Nat) (ls : Array Slot) (H : Heap) (locs : List Loc) (k n : Nat), post u → Gd D A (F u) s.heap H locs → k ≤ mc → n ≤ ms → decode cc pc = .ok (.return_, 1) → W p l e rm s m args below meth c H locs k n Q (F0 m pc ls [])) →
      ∀ ls : Array Slot, lv_has ls maxL (lv_args 0 av) → W p l e rm s m args below meth c s.heap [] 0 0 Q (F0 m 0 ls [])) :
    Met l y ws0 rm (va_Pc av (Pre D cA A ws)) (va_Qv post (fun u t => Wd D A (F u) t) A) mc ms A := by
  refine Met.ofW (cc := cc) (maxL := maxL) (ret := none) hy hw ?_
  intro p e s m args below meth c s₁ B hml hv
  obtain ⟨rfl, hA, hP, hD, hK⟩ := hv
  have hl := lv_entry av (n := maxL) hln
  rw [lg_entry_eq]
  generalize (lg_sl av ++ List.replicate (maxL - (lg_sl av).length) Slot.unset).toArray = ls at hl ⊢
  exact body p e s m _ below meth c _ ⟨B.exec, B.bytes, hml, findClass_of_methodNamed B.named, atoms_spec (ws := ws0) B.pre⟩ (name_of_methodNamed B.named B.method).1 hK hA ⟨hP, hD, va_S.rf⟩ (fun u pc ls H locs k n hp hG hk hn2 hd => W.widen hk hn2 (W.vret B.exec B.bytes B.returns (fun t ht hW => ⟨⟨u, rfl, hp, by rw [← ht] at hG; exact ⟨hG.1, hG.2.1⟩⟩, hG.2.2.F ht⟩) hG.2.2.2.2 hd (hlocks := B.notSynchronized))) ls hl
/-- a method that answers a reference or null -/
theorem k_ofq {post : Option Nat → S → Prop} {nm : String} (hy : plainName y.cls = true) (hw : ws0 = Cond.code y cc maxL (some (.object nm)) :: ws') (hln : (lg_sl av).length ≤ maxL)
    (body : ∀ (p : Program) (e : Env) (s : State) (m : MethodId) (args : Array Value) (below : List Frame) (meth : Method) (c : Code) (Q : State → Prop),
      CallFix p m c cc maxL s args ws0 y.cls → meth.name = y.name → KK D cA s → (∀ q, s.heap.size ≤ q → A q) → Gd D A ws s.heap s.heap [] →
      (∀ (v : Option Nat) (w : Value) (u : S) (pc : Nat) (ls : Array Slot) (H : Heap) (locs : List Loc) (k n : Nat), post v u → w = va_rf v → Gd D A (F u) s.heap H locs → k ≤ mc → n ≤ ms → decode cc pc = .ok (.areturn, 1) → W p l e rm s m args below meth c H locs k n Q (F0 m pc ls [w])) →
      ∀ ls : Array Slot, lv_has ls maxL (lv_args 0 av) → W p l e rm s m args below meth c s.heap [] 0 0 Q (F0 m 0 ls [])) :
    Met l y ws0 rm (va_Pc av (Pre D cA A ws)) (va_Qq post (fun u t => Wd D A (F u) t) A) mc ms A := by
  refine Met.ofW (cc := cc) (maxL := maxL) (ret := some (.object nm)) hy hw ?_
  intro p e s m args below meth c s₁ B hml hv
  obtain ⟨rfl, hA, hP, hD, hK⟩ := hv
  have hl := lv_entry av (n := maxL) hln
  rw [lg_entry_eq]
  generalize (lg_sl av ++ List.replicate (maxL - (lg_sl av).length) Slot.unset).toArray = ls at hl ⊢
  exact body p e s m _ below meth c _ ⟨B.exec, B.bytes, hml, findClass_of_methodNamed B.named, atoms_spec (ws := ws0) B.pre⟩ (name_of_methodNamed B.named B.method).1 hK hA ⟨hP, hD, va_S.rf⟩ (fun v w u pc ls H locs k n hp hv hG hk hn2 hd => W.widen hk hn2 (by subst hv; exact W.aret B.exec B.bytes B.returns (Or.inl ⟨nm, rfl⟩) (va_rf_or v) (fun t ht hW => ⟨⟨v, u, rfl, hp, by rw [← ht] at hG; exact ⟨hG.1, hG.2.1⟩⟩, hG.2.2.F ht⟩) hG.2.2.2.2 hd (hlocks := B.notSynchronized))) ls hl
end OFW
section RUNS
variable {p : Program} {l : Launch} {e : Env} {R : Room} {s : State} {m : MethodId} {args : Array Value} {below : List Frame} {meth : Method} {c : Code} {H : Heap} {locs : List Loc} {cells slots : Nat} {Q : State → Prop}
variable {cc bytes : ByteArray} {pc nL maxL index n mc ms : Nat} {ls : Array Slot} {rest st As : List Value} {D : va_G} {cA : Nat → ClassId} {A : Nat → Prop} {a b : Nat} {ws : va_W} {Ts w' : List Cond} {own C host owner : String} {y x : MethodName} {rm' : Room} {ret : Option FieldType} {Qc : Array Value → State → Outcome → State → Prop} {ci : Nat} {fs : List Value} {r : vw_C}
theorem r_V (hF : CallFix p m c cc nL s args Ts own) (hK : KK D cA s) (hA : ∀ q, s.heap.size ≤ q → A q) (hG : Gd D A ws s.heap H locs) (hM : Met l y w' rm' (va_Pc (.ref b :: As) (Pre D cA A ws)) Qc mc ms A) (cw : CallW R s args own C index y bytes maxL ret w' rm' mc ms n)
    (q0 : Nat) (he : ws[q0]? = some (b, .inr (ci, fs))) (hc : vwCl[ci]? = some r) (hC : r.1 = C) (hn : As.length = n) (hsize : ls.size = nL) (hst : st = As.reverse ++ .ref b :: rest) (hW : 2 * (F0 m pc ls st).monitorRoom + (rest.map fun v => v.category).sum ≤ 8) (hdg : decode cc pc = .ok (.invokevirtual index, 3)) (hf : cells + mc ≤ R.cells ∧ slots + ms ≤ R.slots) :
    va_Run p l e R s m args below meth c H locs cells slots mc ms (F0 m pc ls st) rest (Qc (Value.ref b :: As).toArray) A :=
  va_runV hF hM cw (preV_of hK hA hG he hc hC) rfl hn hsize hst hW hdg hf
theorem r_U (hF : CallFix p m c cc nL s args Ts own) (hK : KK D cA s) (hA : ∀ q, s.heap.size ≤ q → A q) (hG : Gd D A ws s.heap H locs) (hM : Met l y w' rm' (va_Pc (.ref b :: As) (Pre D cA A ws)) Qc mc ms A) (cw : va_CU R s args own C owner index x y bytes maxL ret w' rm' mc ms n)
    (q0 : Nat) (he : ws[q0]? = some (b, .inr (ci, fs))) (hc : vwCl[ci]? = some r) (hC : r.1 = C) (hn : As.length = n) (hsize : ls.size = nL) (hst : st = As.reverse ++ .ref b :: rest) (hW : 2 * (F0 m pc ls st).monitorRoom + (rest.map fun v => v.category).sum ≤ 8) (hdg : decode cc pc = .ok (.invokevirtual index, 3)) (hf : cells + mc ≤ R.cells ∧ slots + ms ≤ R.slots) :
    va_Run p l e R s m args below meth c H locs cells slots mc ms (F0 m pc ls st) rest (Qc (Value.ref b :: As).toArray) A :=
  va_runU hF hM cw (preV_of hK hA hG he hc hC) rfl hn hsize hst hW hdg hf
theorem r_SU (hF : CallFix p m c cc nL s args Ts own) (hK : KK D cA s) (hA : ∀ q, s.heap.size ≤ q → A q) (hG : Gd D A ws s.heap H locs) (hM : Met l y w' rm' (va_Pc (.ref b :: As) (Pre D cA A ws)) Qc mc ms A) (cw : va_CS R s args own index y bytes maxL ret w' rm' mc ms n)
    (q0 : Nat) (he : ws[q0]? = some (b, .inr (ci, fs))) (hc : vwCl[ci]? = some r) (hC : r.1 = C) (hn : As.length = n) (hsize : ls.size = nL) (hst : st = As.reverse ++ .ref b :: rest) (hW : 2 * (F0 m pc ls st).monitorRoom + (rest.map fun v => v.category).sum ≤ 8) (hdg : decode cc pc = .ok (.invokespecial index, 3)) (hf : cells + mc ≤ R.cells ∧ slots + ms ≤ R.slots) :
    va_Run p l e R s m args below meth c H locs cells slots mc ms (F0 m pc ls st) rest (Qc (Value.ref b :: As).toArray) A := by
  subst hC
  exact va_runSU (hK.1.1 ci r hc).2 hF hM cw (preV_of hK hA hG he hc rfl) rfl hn hsize hst hW hdg hf
theorem r_VN (hF : CallFix p m c cc nL s args Ts own) (hK : KK D cA s) (hA : ∀ q, s.heap.size ≤ q → A q) (hG : Gd D A ws s.heap H locs) (hM : Met l y w' rm' (va_Pc (.ref b :: As) (Pre D cA A ws)) Qc mc ms A) (cw : va_CN R s args own index y host bytes maxL ret w' rm' mc ms n ∧ (Cond.instanceMethod y).before args s = true ∧ (Cond.selects C y y).before args s = true)
    (q0 : Nat) (he : ws[q0]? = some (b, .inr (ci, fs))) (hc : vwCl[ci]? = some r) (hC : r.1 = C) (hn : As.length = n) (hsize : ls.size = nL) (hst : st = As.reverse ++ .ref b :: rest) (hW : 2 * (F0 m pc ls st).monitorRoom + (rest.map fun v => v.category).sum ≤ 8) (hdg : decode cc pc = .ok (.invokevirtual index, 3)) (hf : cells + mc ≤ R.cells ∧ slots + ms ≤ R.slots) :
    va_Run p l e R s m args below meth c H locs cells slots mc ms (F0 m pc ls st) rest (Qc (Value.ref b :: As).toArray) A :=
  va_runVN hF hM cw (preV_of hK hA hG he hc hC) rfl hn hsize hst hW hdg hf
theorem r_S (hF : CallFix p m c cc nL s args Ts own) (hK : KK D cA s) (hA : ∀ q, s.heap.size ≤ q → A q) (hG : Gd D A ws s.heap H locs) (hM : Met l y w' rm' (va_Pc As (Pre D cA A ws)) Qc mc ms A) (cw : CallB R s args own index y bytes maxL ret w' rm' mc ms n ∧ (Cond.static y).before args s = true)
    (hn : As.length = n) (hsize : ls.size = nL) (hst : st = As.reverse ++ rest) (hW : 2 * (F0 m pc ls st).monitorRoom + (rest.map fun v => v.category).sum ≤ 8) (hdg : decode cc pc = .ok (.invokestatic index, 3)) (hf : cells + mc ≤ R.cells ∧ slots + ms ≤ R.slots) :
    va_Run p l e R s m args below meth c H locs cells slots mc ms (F0 m pc ls st) rest (Qc As.toArray) A :=
  va_runS hF hM cw (preS_of hK hA hG) rfl hn hsize hst hW hdg hf
theorem r_SN (hF : CallFix p m c cc nL s args Ts own) (hK : KK D cA s) (hA : ∀ q, s.heap.size ≤ q → A q) (hG : Gd D A ws s.heap H locs) (hM : Met l y w' rm' (va_Pc As (Pre D cA A ws)) Qc mc ms A) (cw : va_CN R s args own index y host bytes maxL ret w' rm' mc ms n ∧ (Cond.static y).before args s = true ∧ True)
    (hn : As.length = n) (hsize : ls.size = nL) (hst : st = As.reverse ++ rest) (hW : 2 * (F0 m pc ls st).monitorRoom + (rest.map fun v => v.category).sum ≤ 8) (hdg : decode cc pc = .ok (.invokestatic index, 3)) (hf : cells + mc ≤ R.cells ∧ slots + ms ≤ R.slots) :
    va_Run p l e R s m args below meth c H locs cells slots mc ms (F0 m pc ls st) rest (Qc As.toArray) A :=
  va_runSN hF hM cw (preS_of hK hA hG) rfl hn hsize hst hW hdg hf
theorem r_I (hF : CallFix p m c cc nL s args Ts own) (hK : KK D cA s) (hA : ∀ q, s.heap.size ≤ q → A q) (hG : Gd D A ws s.heap H locs) (hM : Met l y w' rm' (va_Pc (.ref b :: As) (Pre D cA A ws)) Qc mc ms A) (cw : CallB R s args own index y bytes maxL none w' rm' mc ms n ∧ y.name = "<init>" ∧ (Cond.instanceMethod y).before args s = true)
    (hn : As.length = n) (hsize : ls.size = nL) (hst : st = As.reverse ++ .ref b :: rest) (hW : 2 * (F0 m pc ls st).monitorRoom + (rest.map fun v => v.category).sum ≤ 8) (hdg : decode cc pc = .ok (.invokespecial index, 3)) (hf : cells + mc ≤ R.cells ∧ slots + ms ≤ R.slots) :
    va_Run p l e R s m args below meth c H locs cells slots mc ms (F0 m pc ls st) rest (Qc (Value.ref b :: As).toArray) A :=
  va_runI hF hM cw (preS_of hK hA hG) rfl hn hsize hst hW hdg hf
theorem r_IN (hF : CallFix p m c cc nL s args Ts own) (hK : KK D cA s) (hA : ∀ q, s.heap.size ≤ q → A q) (hG : Gd D A ws s.heap H locs) (hM : Met l y w' rm' (va_Pc (.ref b :: As) (Pre D cA A ws)) Qc mc ms A) (cw : va_CN R s args own index y host bytes maxL none w' rm' mc ms n ∧ y.name = "<init>" ∧ (Cond.instanceMethod y).before args s = true)
    (hn : As.length = n) (hsize : ls.size = nL) (hst : st = As.reverse ++ .ref b :: rest) (hW : 2 * (F0 m pc ls st).monitorRoom + (rest.map fun v => v.category).sum ≤ 8) (hdg : decode cc pc = .ok (.invokespecial index, 3)) (hf : cells + mc ≤ R.cells ∧ slots + ms ≤ R.slots) :
    va_Run p l e R s m args below meth c H locs cells slots mc ms (F0 m pc ls st) rest (Qc (Value.ref b :: As).toArray) A :=
  va_runIN hF hM cw (preS_of hK hA hG) rfl hn hsize hst hW hdg hf
variable {S : Type} {F : S → va_W} {H0 : Heap} {av : Array Value}
theorem k_ci {post : Int32 → S → Prop} (hr : va_Run p l e R s m args below meth c H locs cells slots mc ms (F0 m pc ls st) rest (va_Qi post (fun u t => Wd D A (F u) t) A av) A) (hG : Gd D A ws H0 H locs)
    (kk : ∀ (r : Int32) (u : S) (H1 : Heap) (locs1 : List Loc), post r u → Gd D A (F u) H0 H1 locs1 → W p l e R s m args below meth c H1 locs1 (cells + mc) (slots + ms) Q (F0 m (pc + 3) ls (.int r :: rest))) : W p l e R s m args below meth c H locs cells slots Q (F0 m pc ls st) :=
  va_calli hr hG.2.2 (fun _ _ h => h) (fun _ h => h) (fun r u t H1 locs1 ht hvm hp hB hz hk hS => kk r u H1 locs1 hp ⟨by rw [← ht]; exact hB.1, hB.2, hS⟩)
theorem k_cl {post : Int64 → S → Prop} (hr : va_Run p l e R s m args below meth c H locs cells slots mc ms (F0 m pc ls st) rest (va_Ql post (fun u t => Wd D A (F u) t) A av) A) (hG : Gd D A ws H0 H locs)
    (kk : ∀ (r : Int64) (u : S) (H1 : Heap) (locs1 : List Loc), post r u → Gd D A (F u) H0 H1 locs1 → W p l e R s m args below meth c H1 locs1 (cells + mc) (slots + ms) Q (F0 m (pc + 3) ls (.long r :: rest))) : W p l e R s m args below meth c H locs cells slots Q (F0 m pc ls st) :=
  va_calll hr hG.2.2 (fun _ _ h => h) (fun _ h => h) (fun r u t H1 locs1 ht hvm hp hB hz hk hS => kk r u H1 locs1 hp ⟨by rw [← ht]; exact hB.1, hB.2, hS⟩)
theorem k_cv {post : S → Prop} (hr : va_Run p l e R s m args below meth c H locs cells slots mc ms (F0 m pc ls st) rest (va_Qv post (fun u t => Wd D A (F u) t) A av) A) (hG : Gd D A ws H0 H locs)
    (kk : ∀ (u : S) (H1 : Heap) (locs1 : List Loc), post u → Gd D A (F u) H0 H1 locs1 → W p l e R s m args below meth c H1 locs1 (cells + mc) (slots + ms) Q (F0 m (pc + 3) ls rest)) : W p l e R s m args below meth c H locs cells slots Q (F0 m pc ls st) :=
  va_callv hr hG.2.2 (fun _ _ h => h) (fun _ h => h) (fun u t H1 locs1 ht hvm hp hB hz hk hS => kk u H1 locs1 hp ⟨by rw [← ht]; exact hB.1, hB.2, hS⟩)
theorem k_cq {post : Option Nat → S → Prop} (hr : va_Run p l e R s m args below meth c H locs cells slots mc ms (F0 m pc ls st) rest (va_Qq post (fun u t => Wd D A (F u) t) A av) A) (hG : Gd D A ws H0 H locs)
    (kk : ∀ (r : Option Nat) (u : S) (H1 : Heap) (locs1 : List Loc), post r u → Gd D A (F u) H0 H1 locs1 → W p l e R s m args below meth c H1 locs1 (cells + mc) (slots + ms) Q (F0 m (pc + 3) ls (va_rf r :: rest))) : W p l e R s m args below meth c H locs cells slots Q (F0 m pc ls st) :=
  va_callq hr hG.2.2 (fun _ _ h => h) (fun _ h => h) (fun r u t H1 locs1 ht hvm hp hB hz hk hS => kk r u H1 locs1 hp ⟨by rw [← ht]; exact hB.1, hB.2, hS⟩)
end RUNS
section ROWS
variable {p : Program} {l : Launch} {e : Env} {R : Room} {s : State} {m : MethodId} {args : Array Value} {below : List Frame} {meth : Method} {c : Code} {H H0 : Heap} {locs : List Loc} {cells slots : Nat} {Q : State → Prop}
variable {cc : ByteArray} {pc nL : Nat} {ls : Array Slot} {rest : List Value} {D : va_G} {cA : Nat → ClassId} {A : Nat → Prop} {a : Nat} {ws : va_W} {Ts : List Cond} {own : String}
theorem k_get (hF : CallFix p m c cc nL s args Ts own) (hK : KK D cA s) (hG : Gd D A ws H0 H locs) {ref C : String} {T : u_T} {N ci index : Nat} (hin : ∀ w ∈ u_ws C T N, w ∈ Ts) (q0 : Nat) {fs : List Value} (he : ws[q0]? = some (a, .inr (ci, fs))) (hc : vwCl[ci]? = some (C, T, N)) (k : Nat) (hk : k < N) (hl : Cond.fieldLink own index ref (T k).2.1 (T k).2.2.1 ∈ Ts) (hsame : ∀ x, s.fieldFound? (T k).1 (T k).2.1 (T k).2.2.1 = some x → s.fieldFound? ref (T k).2.1 (T k).2.2.1 = some x) {v : Value} (hv : fs[k]? = some v) (hdg : decode cc pc = .ok (.getfield index, 3))
    (kk : W p l e R s m args below meth c H locs cells slots Q (F0 m (pc + 3) ls (v :: rest))) : W p l e R s m args below meth c H locs cells slots Q (F0 m pc ls (.ref a :: rest)) :=
  va_get hF.1 hF.2.1 hF.2.2.2.2 hin hF.2.2.2.1 hK.1 hG.1 q0 he hc k hk (hF.2.2.2.2 _ hl) hsame hv hdg kk
theorem k_put (hF : CallFix p m c cc nL s args Ts own) (hK : KK D cA s) (hG : Gd D A ws H0 H locs) {ref C : String} {T : u_T} {N ci index : Nat} (hin : ∀ w ∈ u_ws C T N, w ∈ Ts) (ty0 : Nat → FieldType) (hty : ∀ k, k < N → parseFieldDescriptor (T k).2.2.1 = some (ty0 k)) (hnm : ∀ a, a < N → ∀ b, b < N → a ≠ b → (T a).2.1 ≠ (T b).2.1) (q0 : Nat) {fs : List Value} (he : ws[q0]? = some (a, .inr (ci, fs))) (hc : vwCl[ci]? = some (C, T, N)) (k : Nat) (hk : k < N) (hl : Cond.fieldLink own index ref (T k).2.1 (T k).2.2.1 ∈ Ts) (hsame : ∀ x, s.fieldFound? (T k).1 (T k).2.1 (T k).2.2.1 = some x → s.fieldFound? ref (T k).2.1 (T k).2.2.1 = some x) (hfin : (T k).2.2.2 = false) {v : Value} (hn : narrow (ty0 k) v = v) (hfit : fits (ty0 k) v = true) (hlen : k < fs.length) (hdg : decode cc pc = .ok (.putfield index, 3))
    (kk : ∀ (H1 : Heap) (locs1 : List Loc), Gd D A (ws.set q0 (a, .inr (ci, fs.set k v))) H0 H1 locs1 → W p l e R s m args below meth c H1 locs1 cells slots Q (F0 m (pc + 3) ls rest)) : W p l e R s m args below meth c H locs cells slots Q (F0 m pc ls (v :: .ref a :: rest)) :=
  va_put hF.1 hF.2.1 hF.2.2.2.2 hin ty0 hty hnm hF.2.2.2.1 hK.1 hG.1 hG.2.1 hG.2.2 q0 he hc k hk (hF.2.2.2.2 _ hl) hsame hfin (hty k hk) hn hfit hlen hdg (fun H1 locs1 hP hD hS => kk H1 locs1 ⟨hP, hD, hS⟩)
theorem k_putF (hF : CallFix p m c cc nL s args Ts own) (hK : KK D cA s) (hG : Gd D A ws H0 H locs) {ref C : String} {T : u_T} {N ci index : Nat} (hin : ∀ w ∈ u_ws C T N, w ∈ Ts) (ty0 : Nat → FieldType) (hty : ∀ k, k < N → parseFieldDescriptor (T k).2.2.1 = some (ty0 k)) (hnm : ∀ a, a < N → ∀ b, b < N → a ≠ b → (T a).2.1 ≠ (T b).2.1) (q0 : Nat) {fs : List Value} (he : ws[q0]? = some (a, .inr (ci, fs))) (hc : vwCl[ci]? = some (C, T, N)) (k : Nat) (hk : k < N) (hl : Cond.fieldLink own index ref (T k).2.1 (T k).2.2.1 ∈ Ts) (hsame : ∀ x, s.fieldFound? (T k).1 (T k).2.1 (T k).2.2.1 = some x → s.fieldFound? ref (T k).2.1 (T k).2.2.1 = some x) (hfin : (T k).2.2.2 = true) (hini : meth.name = "<init>") (hdecl : (T k).1 = own) {v : Value} (hn : narrow (ty0 k) v = v) (hfit : fits (ty0 k) v = true) (hlen : k < fs.length) (hdg : decode cc pc = .ok (.putfield index, 3))
    (kk : ∀ (H1 : Heap) (locs1 : List Loc), Gd D A (ws.set q0 (a, .inr (ci, fs.set k v))) H0 H1 locs1 → W p l e R s m args below meth c H1 locs1 cells slots Q (F0 m (pc + 3) ls rest)) : W p l e R s m args below meth c H locs cells slots Q (F0 m pc ls (v :: .ref a :: rest)) :=
  va_putF hF.1 hF.2.1 hF.2.2.2.2 hin ty0 hty hnm hF.2.2.2.1 hK.1 hG.1 hG.2.1 hG.2.2 q0 he hc k hk (hF.2.2.2.2 _ hl) hsame hfin hini hdecl (hty k hk) hn hfit hlen hdg (fun H1 locs1 hP hD hS => kk H1 locs1 ⟨hP, hD, hS⟩)
theorem k_iald (hF : CallFix p m c cc nL s args Ts own) (hK : KK D cA s) (hG : Gd D A ws H0 H locs) (q0 : Nat) {n : Nat} {f : Nat → Int32} (ha : ws[q0]? = some (a, .inl (cA 0, n, .inl f))) {i : Int32} (hin : vp_in i n) (hdg : decode cc pc = .ok (.iaload, 1))
    (kk : W p l e R s m args below meth c H locs cells slots Q (F0 m (pc + 1) ls (.int (f i.toNatClampNeg) :: rest))) : W p l e R s m args below meth c H locs cells slots Q (F0 m pc ls (.int i :: .ref a :: rest)) :=
  va_iald hF.1 hF.2.1 hK.1 hG.1 q0 0 ha rfl hin hdg kk
/-- at a place that is a number -/
theorem k_ialdN (hF : CallFix p m c cc nL s args Ts own) (hK : KK D cA s) (hG : Gd D A ws H0 H locs) (q0 : Nat) {n : Nat} {f : Nat → Int32} (ha : ws[q0]? = some (a, .inl (cA 0, n, .inl f))) {i : Int32} (j : Nat) (hi : i = nI j) (hj : j < n) (hn : n < 2 ^ 31) (hdg : decode cc pc = .ok (.iaload, 1))
    (kk : W p l e R s m args below meth c H locs cells slots Q (F0 m (pc + 1) ls (.int (f j) :: rest))) : W p l e R s m args below meth c H locs cells slots Q (F0 m pc ls (.int i :: .ref a :: rest)) := by
  subst hi
  refine k_iald hF hK hG q0 ha (vp_in_nI hj hn) hdg ?_
  rw [nI_clamp (Nat.lt_trans hj hn)]
  exact kk
theorem k_laldN (hF : CallFix p m c cc nL s args Ts own) (hK : KK D cA s) (hG : Gd D A ws H0 H locs) (q0 : Nat) {n : Nat} {f : Nat → Int64} (ha : ws[q0]? = some (a, .inl (cA 1, n, .inr (.inl f)))) {i : Int32} (j : Nat) (hi : i = nI j) (hj : j < n) (hn : n < 2 ^ 31) (hdg : decode cc pc = .ok (.laload, 1))
    (kk : W p l e R s m args below meth c H locs cells slots Q (F0 m (pc + 1) ls (.long (f j) :: rest))) : W p l e R s m args below meth c H locs cells slots Q (F0 m pc ls (.int i :: .ref a :: rest)) := by
  subst hi
  refine va_lald hF.1 hF.2.1 hK.1 hG.1 q0 1 ha rfl (vp_in_nI hj hn) hdg ?_
  rw [nI_clamp (Nat.lt_trans hj hn)]
  exact kk
/-- a reference out of an array of references: t is 2 for drawers, 3 for rows -/
theorem k_aldN (hF : CallFix p m c cc nL s args Ts own) (hK : KK D cA s) (hG : Gd D A ws H0 H locs) (q0 t : Nat) {n : Nat} {C : String} {f : Nat → Option Nat} (ha : ws[q0]? = some (a, .inl (cA t, n, .inr (.inr (.inr (.inr f)))))) (ht : (TY cA)[t]? = some (cA t, .object C)) {i : Int32} (j : Nat) (hi : i = nI j) (hj : j < n) (hn : n < 2 ^ 31) (hdg : decode cc pc = .ok (.aaload, 1))
    (kk : W p l e R s m args below meth c H locs cells slots Q (F0 m (pc + 1) ls (va_rf (f j) :: rest))) : W p l e R s m args below meth c H locs cells slots Q (F0 m pc ls (.int i :: .ref a :: rest)) := by
  subst hi
  refine va_aldq hF.1 hF.2.1 hK.1 hG.1 q0 t ha ht (vp_in_nI hj hn) hdg ?_
  rw [nI_clamp (Nat.lt_trans hj hn)]
  exact kk
theorem k_iastN (hF : CallFix p m c cc nL s args Ts own) (hK : KK D cA s) (hG : Gd D A ws H0 H locs) (q0 : Nat) {n : Nat} {f : Nat → Int32} (ha : ws[q0]? = some (a, .inl (cA 0, n, .inl f))) {i x : Int32} (j : Nat) (hi : i = nI j) (hj : j < n) (hn : n < 2 ^ 31) (hdg : decode cc pc = .ok (.iastore, 1))
    (kk : ∀ (H1 : Heap) (locs1 : List Loc), Gd D A (ws.set q0 (a, .inl (cA 0, n, .inl (upd f j x)))) H0 H1 locs1 → W p l e R s m args below meth c H1 locs1 cells slots Q (F0 m (pc + 1) ls rest)) : W p l e R s m args below meth c H locs cells slots Q (F0 m pc ls (.int x :: .int i :: .ref a :: rest)) := by
  subst hi
  refine va_iast hF.1 hF.2.1 hK.1 hG.1 hG.2.1 hG.2.2 q0 0 ha rfl (vp_in_nI hj hn) hdg (fun H1 locs1 hP hD hS => ?_)
  rw [nI_clamp (Nat.lt_trans hj hn)] at hP hD
  exact kk H1 locs1 ⟨hP, hD, hS⟩
theorem k_lastN (hF : CallFix p m c cc nL s args Ts own) (hK : KK D cA s) (hG : Gd D A ws H0 H locs) (q0 : Nat) {n : Nat} {f : Nat → Int64} (ha : ws[q0]? = some (a, .inl (cA 1, n, .inr (.inl f)))) {i : Int32} {x : Int64} (j : Nat) (hi : i = nI j) (hj : j < n) (hn : n < 2 ^ 31) (hdg : decode cc pc = .ok (.lastore, 1))
    (kk : ∀ (H1 : Heap) (locs1 : List Loc), Gd D A (ws.set q0 (a, .inl (cA 1, n, .inr (.inl (vp_updL f j x))))) H0 H1 locs1 → W p l e R s m args below meth c H1 locs1 cells slots Q (F0 m (pc + 1) ls rest)) : W p l e R s m args below meth c H locs cells slots Q (F0 m pc ls (.long x :: .int i :: .ref a :: rest)) := by
  subst hi
  refine va_last hF.1 hF.2.1 hK.1 hG.1 hG.2.1 hG.2.2 q0 1 ha rfl (vp_in_nI hj hn) hdg (fun H1 locs1 hP hD hS => ?_)
  rw [nI_clamp (Nat.lt_trans hj hn)] at hP hD
  exact kk H1 locs1 ⟨hP, hD, hS⟩
/-- null into an array of references -/
theorem k_astZ (hF : CallFix p m c cc nL s args Ts own) (hK : KK D cA s) (hG : Gd D A ws H0 H locs) (q0 t : Nat) {n : Nat} {C : String} {f : Nat → Option Nat} (ha : ws[q0]? = some (a, .inl (cA t, n, .inr (.inr (.inr (.inr f)))))) (ht : (TY cA)[t]? = some (cA t, .object C)) {i : Int32} (j : Nat) (hi : i = nI j) (hj : j < n) (hn : n < 2 ^ 31) (hdg : decode cc pc = .ok (.aastore, 1))
    (kk : ∀ (H1 : Heap) (locs1 : List Loc), Gd D A (ws.set q0 (a, .inl (cA t, n, .inr (.inr (.inr (.inr (va_up f j none))))))) H0 H1 locs1 → W p l e R s m args below meth c H1 locs1 cells slots Q (F0 m (pc + 1) ls rest)) : W p l e R s m args below meth c H locs cells slots Q (F0 m pc ls (.null :: .int i :: .ref a :: rest)) := by
  subst hi
  refine va_astqN hF.1 hF.2.1 hK.1 hG.1 hG.2.1 hG.2.2 q0 t ha ht (vp_in_nI hj hn) hdg (fun H1 locs1 hP hD hS => ?_)
  rw [nI_clamp (Nat.lt_trans hj hn)] at hP hD
  exact kk H1 locs1 ⟨hP, hD, hS⟩
/-- a row object into the array of rows -/
theorem k_astR (hF : CallFix p m c cc nL s args Ts own) (hK : KK D cA s) (hG : Gd D A ws H0 H locs) (q0 qk : Nat) {n v : Nat} {vs : List Value} {f : Nat → Option Nat} (ha : ws[q0]? = some (a, .inl (cA 3, n, .inr (.inr (.inr (.inr f)))))) (hv : ws[qk]? = some (v, .inr (6, vs))) {i : Int32} (j : Nat) (hi : i = nI j) (hj : j < n) (hn : n < 2 ^ 31) (hdg : decode cc pc = .ok (.aastore, 1))
    (kk : ∀ (H1 : Heap) (locs1 : List Loc), Gd D A (ws.set q0 (a, .inl (cA 3, n, .inr (.inr (.inr (.inr (va_up f j (some v)))))))) H0 H1 locs1 → W p l e R s m args below meth c H1 locs1 cells slots Q (F0 m (pc + 1) ls rest)) : W p l e R s m args below meth c H locs cells slots Q (F0 m pc ls (.ref v :: .int i :: .ref a :: rest)) := by
  subst hi
  refine va_astq hF.1 hF.2.1 hK.1 hG.1 hG.2.1 hG.2.2 q0 3 qk 6 (r := (RX6, TX6, 3)) ha rfl hv rfl (vp_in_nI hj hn) hdg (fun H1 locs1 hP hD hS => ?_)
  rw [nI_clamp (Nat.lt_trans hj hn)] at hP hD
  exact kk H1 locs1 ⟨hP, hD, hS⟩
theorem kc_of (k : Nat) : ∃ T : u_T, vwCl[kcI k]? = some (kcN k, T, 1) := by
  match k with
  | 0 => exact ⟨TX0, rfl⟩
  | 1 => exact ⟨TX1, rfl⟩
  | 2 => exact ⟨TX7, rfl⟩
  | 3 => exact ⟨TX8, rfl⟩
  | 4 => exact ⟨TX5, rfl⟩
  | 5 => exact ⟨TX3, rfl⟩
  | 6 => exact ⟨TX4, rfl⟩
  | k + 7 => exact ⟨TX2, rfl⟩
theorem kc_any {k v qk : Nat} {vs : List Value} (hK : KK D cA s) (hP : va_P D vwCl ws H) (hk : k < 8) (hv : ws[qk]? = some (v, .inr (kcI k, vs))) : va_Any RX0 s H v := by
  obtain ⟨T, hc⟩ := kc_of k
  refine va_rAny hK.1 hP hv hc (fun comp c0 h1 h2 => ?_)
  by_cases hz : k = 0
  · subst hz
    have h3 := (hK.1.1 _ _ hc).2
    have e1 : comp = D.1 (kcI 0) := Option.some.inj (h1.symm.trans h3.1)
    have e2 : c0 = D.1 (kcI 0) := Option.some.inj (h2.symm.trans h3.1)
    rw [e1, e2]
    exact va_assign h3
  · obtain ⟨c0', t1, f1, f2, f3⟩ := Cond.castable_spec (va_Nw.use (A := #[]) rfl (hK.2.1 k (by omega) hk))
    cases f1.symm.trans h2
    cases f2.symm.trans h1
    exact f3
/-- a drawer of any kind into an array of drawers -/
theorem k_astD (hF : CallFix p m c cc nL s args Ts own) (hK : KK D cA s) (hG : Gd D A ws H0 H locs) (q0 qk : Nat) {n v k : Nat} {vs : List Value} {f : Nat → Option Nat} (ha : ws[q0]? = some (a, .inl (cA 2, n, .inr (.inr (.inr (.inr f)))))) (hk : k < 8) (hv : ws[qk]? = some (v, .inr (kcI k, vs))) {i : Int32} (j : Nat) (hi : i = nI j) (hj : j < n) (hn : n < 2 ^ 31) (hdg : decode cc pc = .ok (.aastore, 1))
    (kk : ∀ (H1 : Heap) (locs1 : List Loc), Gd D A (ws.set q0 (a, .inl (cA 2, n, .inr (.inr (.inr (.inr (va_up f j (some v)))))))) H0 H1 locs1 → W p l e R s m args below meth c H1 locs1 cells slots Q (F0 m (pc + 1) ls rest)) : W p l e R s m args below meth c H locs cells slots Q (F0 m pc ls (.ref v :: .int i :: .ref a :: rest)) := by
  subst hi
  refine va_astqM hF.1 hF.2.1 hK.1 hG.1 hG.2.1 hG.2.2 q0 2 (E := RX0) ha rfl (kc_any hK hG.1 hk hv) (vp_in_nI hj hn) hdg (fun H1 locs1 hP hD hS => ?_)
  rw [nI_clamp (Nat.lt_trans hj hn)] at hP hD
  exact kk H1 locs1 ⟨hP, hD, hS⟩
theorem k_new (hF : CallFix p m c cc nL s args Ts own) (hK : KK D cA s) (hA : ∀ q, H0.size ≤ q → A q) (hG : Gd D A ws H0 H locs) {C : String} {T : u_T} {N ci index : Nat} (hin : ∀ w ∈ u_ws C T N, w ∈ Ts) (ty : Nat → FieldType) (hty : ∀ k, k < N → parseFieldDescriptor (T k).2.2.1 = some (ty k)) (hcl : Cond.classLink own index C ∈ Ts) (hinst : Cond.instantiable C N ∈ Ts) (hini : Cond.initialized C ∈ Ts) (hc : vwCl[ci]? = some (C, T, N)) {fs : List Value} (hfs : ∀ j, j < N → defaultValue (ty j) = vp_V fs j) (hcells : cells + 1 ≤ R.cells) (hslots : slots + N ≤ R.slots) (hdg : decode cc pc = .ok (.new index, 3))
    (kk : ∀ (q : Nat) (H1 : Heap), Gd D A (ws ++ [(q, .inr (ci, fs))]) H0 H1 locs → W p l e R s m args below meth c H1 locs (cells + 1) (slots + N) Q (F0 m (pc + 3) ls (.ref q :: rest))) : W p l e R s m args below meth c H locs cells slots Q (F0 m pc ls rest) :=
  va_new hF.1 hF.2.1 hF.2.2.2.2 hin ty hty hF.2.2.2.1 (hF.2.2.2.2 _ hcl) (hF.2.2.2.2 _ hinst) (hF.2.2.2.2 _ hini) hK.1 hG.1 hG.2.1 hG.2.2 hA hc hfs hcells hslots hdg (fun q H1 hP hD hS => kk q H1 ⟨hP, hD, hS⟩)
theorem ty_app {tys : List (ClassId × FieldType)} {c1 : ClassId} {ty : FieldType} (h : va_K D vwCl (tys ++ [(c1, ty)]) s) : va_RA s c1 ty := (h.2 tys.length (c1, ty) (by rw [List.getElem?_append_right (Nat.le_refl _)]; simp)).2
theorem k_newi (hF : CallFix p m c cc nL s args Ts own) (hK : KK D cA s) (hA : ∀ q, H0.size ≤ q → A q) (hG : Gd D A ws H0 H locs) (harr : Cond.arrayClass .int ∈ Ts) {n : Int32} {N' : Nat} (hi : n = nI N') (hN : N' ≤ 10000) (hcells : cells + 1 ≤ R.cells) (hslots : slots + N' ≤ R.slots) (hdg : decode cc pc = .ok (.newarray .int, 2))
    (kk : ∀ (q : Nat) (H1 : Heap), Gd D A (ws ++ [(q, .inl (cA 0, N', .inl (fun _ => 0)))]) H0 H1 locs → W p l e R s m args below meth c H1 locs (cells + 1) (slots + N') Q (F0 m (pc + 2) ls (.ref q :: rest))) : W p l e R s m args below meth c H locs cells slots Q (F0 m pc ls (.int n :: rest)) := by
  subst hi
  refine va_newa (atype := .int) hF.1 hF.2.1 (hF.2.2.2.2 _ harr) rfl hK.1 hG.1 hG.2.1 hG.2.2 hA (N' := N') (a0 := (N', .inl (fun _ => 0))) (fun _ => rfl) (nI_pos (by omega)) (nI_clamp (by omega)) (by show N' * 4 ≤ 536870912; omega) hcells hslots hdg (fun q c1 H1 hK1 hP hD hS => ?_)
  have h1 : s.vm.findClass ("[" ++ FieldType.int.toString) = some c1 := ty_app hK1
  have h2 : s.vm.findClass ("[" ++ FieldType.int.toString) = some (cA 0) := (hK.1.2 0 (cA 0, .int) rfl).2
  cases h1.symm.trans h2
  exact kk q H1 ⟨hP, hD, hS⟩
theorem k_newl (hF : CallFix p m c cc nL s args Ts own) (hK : KK D cA s) (hA : ∀ q, H0.size ≤ q → A q) (hG : Gd D A ws H0 H locs) (harr : Cond.arrayClass .long ∈ Ts) {n : Int32} {N' : Nat} (hi : n = nI N') (hN : N' ≤ 10000) (hcells : cells + 1 ≤ R.cells) (hslots : slots + N' ≤ R.slots) (hdg : decode cc pc = .ok (.newarray .long, 2))
    (kk : ∀ (q : Nat) (H1 : Heap), Gd D A (ws ++ [(q, .inl (cA 1, N', .inr (.inl (fun _ => 0))))]) H0 H1 locs → W p l e R s m args below meth c H1 locs (cells + 1) (slots + N') Q (F0 m (pc + 2) ls (.ref q :: rest))) : W p l e R s m args below meth c H locs cells slots Q (F0 m pc ls (.int n :: rest)) := by
  subst hi
  refine va_newa (atype := .long) hF.1 hF.2.1 (hF.2.2.2.2 _ harr) rfl hK.1 hG.1 hG.2.1 hG.2.2 hA (N' := N') (a0 := (N', .inr (.inl (fun _ => 0)))) (fun _ => rfl) (nI_pos (by omega)) (nI_clamp (by omega)) (by show N' * 8 ≤ 536870912; omega) hcells hslots hdg (fun q c1 H1 hK1 hP hD hS => ?_)
  have h1 : s.vm.findClass ("[" ++ FieldType.long.toString) = some c1 := ty_app hK1
  have h2 : s.vm.findClass ("[" ++ FieldType.long.toString) = some (cA 1) := (hK.1.2 1 (cA 1, .long) rfl).2
  cases h1.symm.trans h2
  exact kk q H1 ⟨hP, hD, hS⟩
theorem k_newq (hF : CallFix p m c cc nL s args Ts own) (hK : KK D cA s) (hA : ∀ q, H0.size ≤ q → A q) (hG : Gd D A ws H0 H locs) {C : String} {index t : Nat} (hcl : Cond.classLink own index C ∈ Ts) (hover : va_AO C s) (ht : (TY cA)[t]? = some (cA t, .object C)) {n : Int32} {N' : Nat} (hi : n = nI N') (hN : N' ≤ 10000) (hcells : cells + 1 ≤ R.cells) (hslots : slots + N' ≤ R.slots) (hdg : decode cc pc = .ok (.anewarray index, 3))
    (kk : ∀ (q : Nat) (H1 : Heap), Gd D A (ws ++ [(q, .inl (cA t, N', .inr (.inr (.inr (.inr (fun _ => none))))))]) H0 H1 locs → W p l e R s m args below meth c H1 locs (cells + 1) (slots + N') Q (F0 m (pc + 3) ls (.ref q :: rest))) : W p l e R s m args below meth c H locs cells slots Q (F0 m pc ls (.int n :: rest)) := by
  subst hi
  refine va_newq hF.1 hF.2.1 hF.2.2.2.1 (hF.2.2.2.2 _ hcl) hover hK.1 hG.1 hG.2.1 hG.2.2 hA (N' := N') (nI_pos (by omega)) (nI_clamp (by omega)) (by omega) hcells hslots hdg (fun q c1 H1 hK1 hP hD hS => ?_)
  obtain ⟨kA, comp, -, -, -, h1⟩ := ty_app hK1
  obtain ⟨kA2, comp2, -, -, -, h2⟩ := (hK.1.2 t _ ht).2
  cases h1.symm.trans h2
  exact kk q H1 ⟨hP, hD, hS⟩
end ROWS
/-! ===== pure words: booleans as ints, bits, drawers' laws ===== -/
def b2i (b : Bool) : Int32 := if b then 1 else 0
theorem b2i_z {b : Bool} : b2i b = 0 ↔ b = false := by cases b <;> decide
theorem b2i_nz {b : Bool} : ¬ b2i b = 0 ↔ b = true := by cases b <;> decide
theorem nar_b2i (b : Bool) : narrow .boolean (.int (b2i b)) = .int (b2i b) := by cases b <;> rfl
theorem b2i_inj {a b : Bool} (h : b2i a = b2i b) : a = b := by
  cases a <;> cases b <;> first | rfl | exact absurd h (by decide)
theorem nI_inc (j k : Nat) : nI j + Int32.ofInt (k : Int) = nI (j + k) := by
  rw [← nI_add]
  rfl
theorem fin1 {P : Nat → Prop} (N st : Nat) (h : st < N) (a : ∀ z : Fin N, P z.val) : P st := a ⟨st, h⟩
theorem fin2 {P : Nat → Nat → Prop} (N M st i : Nat) (hs : st < N) (hi : i < M) (a : ∀ z : Fin N, ∀ w : Fin M, P z.val w.val) : P st i := a ⟨st, hs⟩ ⟨i, hi⟩
theorem fin3 {P : Nat → Nat → Nat → Prop} (N M K st i f : Nat) (hs : st < N) (hi : i < M) (hf : f < K) (a : ∀ z : Fin N, ∀ w : Fin M, ∀ v : Fin K, P z.val w.val v.val) : P st i f := a ⟨st, hs⟩ ⟨i, hi⟩ ⟨f, hf⟩
section SWB
variable {p : Program} {l : Launch} {e : Env} {R : Room} {s : State} {m : MethodId} {args : Array Value} {below : List Frame} {meth : Method} {c : Code} {H : Heap} {locs : List Loc} {cells slots : Nat} {Q : State → Prop} {pc : Nat} {ls : Array Slot} {rest : List Value}
theorem sw_by {x : Int32} (k : Int32) (kt : x = k → W p l e R s m args below meth c H locs cells slots Q (F0 m pc ls (.int k :: rest))) (kf : ¬ x = k → W p l e R s m args below meth c H locs cells slots Q (F0 m pc ls (.int x :: rest))) : W p l e R s m args below meth c H locs cells slots Q (F0 m pc ls (.int x :: rest)) := by
  by_cases h : x = k
  · have := kt h
    rw [← h] at this
    exact this
  · exact kf h
end SWB
theorem nx_and (a b : Nat) : nI a &&& nI b = nI (a &&& b) := by
  apply Int32.toBitVec_inj.1
  show BitVec.ofNat 32 a &&& BitVec.ofNat 32 b = BitVec.ofNat 32 (a &&& b)
  apply BitVec.eq_of_getLsbD_eq
  intro i hi
  simp [BitVec.getLsbD_ofNat, Nat.testBit_and, hi]
theorem nx_xor (a b : Nat) : nI a ^^^ nI b = nI (a ^^^ b) := by
  apply Int32.toBitVec_inj.1
  show BitVec.ofNat 32 a ^^^ BitVec.ofNat 32 b = BitVec.ofNat 32 (a ^^^ b)
  apply BitVec.eq_of_getLsbD_eq
  intro i hi
  simp [BitVec.getLsbD_ofNat, Nat.testBit_xor, hi]
theorem nx_or (a b : Nat) : nI a ||| nI b = nI (a ||| b) := by
  apply Int32.toBitVec_inj.1
  show BitVec.ofNat 32 a ||| BitVec.ofNat 32 b = BitVec.ofNat 32 (a ||| b)
  apply BitVec.eq_of_getLsbD_eq
  intro i hi
  simp [BitVec.getLsbD_ofNat, Nat.testBit_or, hi]
theorem bit_sh {st i : Nat} (hs : st < 64) (hi : i < 16) : (nI st >>> (nI i &&& 31)) &&& nI 1 = nI (st.testBit i).toNat := by
  apply fin2 64 16 st i hs hi
  decide +kernel
theorem shl_1 {i : Nat} (hi : i < 31) : nI 1 <<< (nI i &&& 31) = nI (2 ^ i) := by
  apply fin1 31 i hi
  decide +kernel
theorem tog_lt {st i : Nat} (hs : st < 64) (hi : i < 6) : st ^^^ 2 ^ i < 64 := by
  apply fin2 64 6 st i hs hi
  decide +kernel
/-- a number below n, as an int -/
def inB (n : Nat) (d : Int32) : Bool := decide (¬ d < 0 ∧ ¬ nI n ≤ d)
theorem inB_t {n : Nat} {d : Int32} (h1 : ¬ d < 0) (h2 : ¬ nI n ≤ d) : inB n d = true := decide_eq_true ⟨h1, h2⟩
theorem inB_l {n : Nat} {d : Int32} (h1 : d < 0) : inB n d = false := decide_eq_false (fun h => h.1 h1)
theorem inB_r {n : Nat} {d : Int32} (h1 : nI n ≤ d) : inB n d = false := decide_eq_false (fun h => h.2 h1)
theorem inB_ex {n : Nat} {d : Int32} (hn : n < 2 ^ 31) (h : inB n d = true) : ∃ j : Nat, j < n ∧ d = nI j := by
  have h := of_decide_eq_true h
  rcases pk_ix d hn with h1 | h1 | h1
  · exact absurd h1 h.1
  · exact absurd h1 h.2
  · exact h1
theorem inB_nI {n j : Nat} (hn : n < 2 ^ 31) (hj : j < 2 ^ 31) : inB n (nI j) = decide (j < n) := by
  by_cases h : j < n
  · rw [inB_t (nI_pos hj) (nI_ge h hn), decide_eq_true h]
  · rw [inB_r (nI_le (by omega) hj), decide_eq_false h]
def dgB (d : Int32) : Bool := decide (¬ d < nI 48 ∧ ¬ nI 57 < d)
theorem dgB_t {d : Int32} (h1 : ¬ d < nI 48) (h2 : ¬ nI 57 < d) : dgB d = true := decide_eq_true ⟨h1, h2⟩
theorem dgB_l {d : Int32} (h1 : d < nI 48) : dgB d = false := decide_eq_false (fun h => h.1 h1)
theorem dgB_r {d : Int32} (h1 : nI 57 < d) : dgB d = false := decide_eq_false (fun h => h.2 h1)
theorem at_last (ws : va_W) (x : Nat × va_E) : (ws ++ [x])[ws.length]? = some x := by simp
theorem set_last (ws : va_W) (x y : Nat × va_E) : (ws ++ [x]).set ws.length y = ws ++ [y] := by simp
/-- how many bits a standing has -/
def cnt (st : Nat) : Nat := (st.testBit 0).toNat + (st.testBit 1).toNat + (st.testBit 2).toNat + (st.testBit 3).toNat + (st.testBit 4).toNat + (st.testBit 5).toNat + (st.testBit 6).toNat + (st.testBit 7).toNat
/-- the joiner's law, and that of a drawer under a shut one -/
def jn (i st : Nat) : Bool := i == 0 || st % 2 ^ i == 2 ^ (i - 1) - 1
def us (i st : Nat) : Bool := i == 0 || !(st.testBit (i - 1))
/-- may a drawer of kind k and figure f be pulled as drawer i at the standing st -/
def mv (k f i st : Nat) : Bool := match k with
  | 0 => jn i st
  | 1 => true
  | 2 => false
  | 3 => us i st
  | 4 => jn i st && !(st.testBit f)
  | 5 => us i st || decide (f ≤ cnt st)
  | 6 => (cnt (if st.testBit i then st - 2 ^ i else st) + f) % 2 == 0
  | _ => st.testBit i || jn i st
/-- a drawer's price, by kind and figure -/
def pr (k f : Nat) : Int32 := match k with
  | 0 => nI 4
  | 1 => nI 3
  | 2 => nI 4 + nI f
  | 3 => nI 6
  | 4 => nI 4 * (nI f + nI 1)
  | 5 => nI 6 - nI f
  | 6 => nI 8
  | _ => nI 4
theorem clr_b {st i : Nat} (hs : st < 64) (hi : i < 6) : nI st &&& ((nI 1 <<< (nI i &&& 31)) ^^^ (-1)) = nI (if st.testBit i then st - 2 ^ i else st) := by
  apply fin2 64 6 st i hs hi
  decide +kernel
theorem clr_lt {st i : Nat} (hs : st < 64) (hi : i < 6) : (if st.testBit i then st - 2 ^ i else st) < 64 := by
  apply fin2 64 6 st i hs hi
  decide +kernel
theorem cnt_lt {st : Nat} (hs : st < 64) : cnt st ≤ 6 := by
  apply fin1 64 st hs
  decide +kernel
