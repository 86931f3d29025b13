/-! ===== the law: one answer of both; a callee's cells out of the whole world and back ===== -/
theorem jn_farC {P Q : Nat → Int32} {K : Nat} (h : ∀ z, z < K → P z = Q z) : ∀ k, k ≤ K → farC P k = farC Q k := by
  intro k
  induction k with
  | zero => intro _; rfl
  | succ k ih =>
    intro hk
    show farC P k + (if P k < 0 then 0 else 1) = farC Q k + (if Q k < 0 then 0 else 1)
    rw [ih (by omega), h k (by omega)]
theorem jn_farM {P Q : Nat → Int32} {K : Nat} (h : ∀ z, z < K → P z = Q z) : ∀ k, k ≤ K → farM P k = farM Q k := by
  intro k
  induction k with
  | zero => intro _; rfl
  | succ k ih =>
    intro hk
    show (if (farM P k).2 < P k then (k, P k) else farM P k) = (if (farM Q k).2 < Q k then (k, Q k) else farM Q k)
    rw [ih (by omega), h k (by omega)]
theorem jn_nev {n : Nat} {kd fg : Nat → Nat} {P Q : Nat → Int32} {K : Nat} (h : ∀ z, z < K → P z = Q z) : ∀ k, k ≤ K → nevU n kd fg P k = nevU n kd fg Q k := by
  intro k
  induction k with
  | zero => intro _; rfl
  | succ k ih =>
    intro hk
    show (if P k < 0 then nevU n kd fg P k else nevU n kd fg P k &&& (63 - mayU kd fg k n)) = (if Q k < 0 then nevU n kd fg Q k else nevU n kd fg Q k &&& (63 - mayU kd fg k n))
    rw [ih (by omega), h k (by omega)]
theorem jn_lng {P Q : Nat → Int32} {K : Nat} (h : ∀ z, z < K → P z = Q z) : ∀ k, k ≤ K → lngU P k = lngU Q k := by
  intro k
  induction k with
  | zero => intro _; rfl
  | succ k ih =>
    intro hk
    show (if P k < 0 then lngU P k else if (lngU P k).1 < 0 then (nI k, P k) else if (lngU P k).2 < P k then (nI k, P k) else lngU P k) = (if Q k < 0 then lngU Q k else if (lngU Q k).1 < 0 then (nI k, Q k) else if (lngU Q k).2 < Q k then (nI k, Q k) else lngU Q k)
    rw [ih (by omega), h k (by omega)]
theorem spFar_one {n o : Nat} {kd fg : Nat → Nat} {what r q : Int32} (h : spFar n o kd fg what r) (g : spFar n o kd fg what q) : r = q := by
  unfold spFar at h g
  by_cases e : inB 3 what = true
  · rw [if_pos e] at h g
    obtain ⟨P, h1, h2⟩ := h
    obtain ⟨V, g1, g2⟩ := g
    have e1 : ∀ z, z < 2 ^ n → P z = V z := fun z hz => IsW.one (h1 z hz) (g1 z hz)
    rw [h2, g2]
    unfold farI
    rw [jn_farC e1 _ (Nat.le_refl _), jn_farM e1 _ (Nat.le_refl _)]
  · rw [if_neg e] at h g
    rw [h, g]
theorem spNever_one {n o : Nat} {kd fg : Nat → Nat} {r q : Int32} (h : spNever n o kd fg r) (g : spNever n o kd fg q) : r = q := by
  obtain ⟨P, h1, h2⟩ := h
  obtain ⟨V, g1, g2⟩ := g
  have e1 : ∀ z, z < 2 ^ n → P z = V z := fun z hz => IsW.one (h1 z hz) (g1 z hz)
  rw [h2, g2, jn_nev e1 _ (Nat.le_refl _)]
theorem spAt_one {n : Nat} {kd fg : Nat → Nat} {k r q : Int32} (h : spAt n kd fg k r) (g : spAt n kd fg k q) : r = q := by
  unfold spAt at h g
  by_cases e : k < 0
  · rw [if_pos e] at h g
    rw [h, g]
  · rw [if_neg e] at h g
    by_cases e2 : joi n kd = true
    · rw [if_pos e2] at h g
      rcases h with ⟨h1, h2⟩ | ⟨z, h0, h1, h2, h3⟩ <;> rcases g with ⟨g1, g2⟩ | ⟨y, g0, g1, g2, g3⟩
      · rw [h1, g1]
      · exact absurd g2 (h2 y g0)
      · exact absurd h2 (g2 z h0)
      · rcases Nat.lt_trichotomy z y with e3 | e3 | e3
        · exact absurd h2 (g3 z e3)
        · rw [h1, g1, e3]
        · exact absurd g2 (h3 y e3)
    · rw [if_neg e2] at h g
      rw [h, g]
theorem spLongest_one {n o : Nat} {kd fg : Nat → Nat} {d f e what r q : Int32} (h : spLongest n o kd fg d f e what r) (g : spLongest n o kd fg d f e what q) : r = q := by
  unfold spLongest at h g
  by_cases e0 : lngOk n d f e what = true
  · rw [if_pos e0] at h g
    obtain ⟨P, h1, h2⟩ := h
    obtain ⟨V, g1, g2⟩ := g
    have e1 : ∀ z, z < 8 → P z = V z := fun z hz => IsW.one (h1 z hz) (g1 z hz)
    rw [h2, g2, jn_lng e1 8 (Nat.le_refl _)]
  · rw [if_neg e0] at h g
    rw [h, g]
theorem spJudge_one {n o : Nat} {kd fg : Nat → Nat} {y : Option Sf} {r q : Int32} (h : spJudge n o kd fg y r) (g : spJudge n o kd fg y q) : r = q := by
  match y, h, g with
  | none, h, g => exact Eq.trans h (Eq.symm g)
  | some none, h, g => exact Eq.trans h (Eq.symm g)
  | some (some (.inl z)), h, g => exact Eq.trans h (Eq.symm g)
  | some (some (.inr z)), h, g => exact JDG.one h g
section JOIN
variable {D : va_G} {cl : List vw_C} {A A0 : Nat → Prop} {w0 w1 w2 v ws : va_W} {H H1 H0 : Heap} {locs : List Loc}
theorem vaP_m : va_P D cl ws H ↔ ∀ q ∈ ws, va_at D cl q H := ⟨fun h q hq => by
  obtain ⟨k, hk⟩ := List.getElem?_of_mem hq
  exact h k q hk, fun h _ q hk => h q (List.mem_of_getElem? hk)⟩
theorem vaD_m : va_D A ws ↔ (ws.map Prod.fst).Pairwise (fun a b => a ≠ b) ∧ ∀ q ∈ ws, A q.1 := by
  constructor
  · intro h
    refine ⟨?_, fun q hq => ?_⟩
    · rw [List.pairwise_iff_getElem]
      intro i j hi hj hij e
      rw [List.getElem_map, List.getElem_map] at e
      rw [List.length_map] at hi hj
      have := h.1 i j _ _ (List.getElem?_eq_getElem hi) (List.getElem?_eq_getElem hj) e
      omega
    · obtain ⟨k, hk⟩ := List.getElem?_of_mem hq
      exact h.2 k q hk
  · intro ⟨h1, h2⟩
    rw [List.pairwise_iff_getElem] at h1
    have key : ∀ (i j : Nat) (p q : Nat × va_E), ws[i]? = some p → ws[j]? = some q → p.1 = q.1 → ¬ i < j := by
      intro i j p q hp hq e hij
      obtain ⟨hi, ei⟩ := List.getElem?_eq_some_iff.mp hp
      obtain ⟨hj, ej⟩ := List.getElem?_eq_some_iff.mp hq
      refine h1 i j (by rw [List.length_map]; exact hi) (by rw [List.length_map]; exact hj) hij ?_
      rw [List.getElem_map, List.getElem_map, ei, ej]
      exact e
    refine ⟨fun i j p q hp hq e => ?_, fun _ q hk => h2 q (List.mem_of_getElem? hk)⟩
    have k1 := key i j p q hp hq e
    have k2 := key j i q p hq hp e.symm
    omega
theorem jn_w1 (hP : va_P D cl (w0 ++ (w1 ++ w2)) H) : va_P D cl w1 H := vaP_m.mpr fun q hq => vaP_m.mp hP q (List.mem_append_right _ (List.mem_append_left _ hq))
theorem jn_d1 {sz : Nat} (hD : va_D A (w0 ++ (w1 ++ w2))) : va_D (va_A w1 sz) w1 := by
  obtain ⟨h1, h2⟩ := vaD_m.mp hD
  rw [List.map_append, List.map_append, List.pairwise_append, List.pairwise_append] at h1
  have h3 : va_D A w1 := vaD_m.mpr ⟨h1.2.1.1, fun q hq => h2 q (List.mem_append_right _ (List.mem_append_left _ hq))⟩
  exact h3.self
theorem jn_sub (hD : va_D A (w0 ++ (w1 ++ w2))) {sz : Nat} (hA : ∀ q, sz ≤ q → A q) {q : Nat} (h : va_A w1 sz q) : A q := by
  rcases h with ⟨k, e, h⟩ | h
  · exact (vaD_m.mp hD).2 (q, e) (List.mem_append_right _ (List.mem_append_left _ (List.mem_of_getElem? h)))
  · exact hA q h
theorem jn_out (hP : va_P D cl (w0 ++ (w1 ++ w2)) H) (hD : va_D A (w0 ++ (w1 ++ w2))) {q : Nat × va_E} (hq : q ∈ w0 ∨ q ∈ w2) : q.1 < H.size ∧ ¬ va_A w1 H.size q.1 := by
  have hm : q ∈ w0 ++ (w1 ++ w2) := hq.elim (fun h => List.mem_append_left _ h) (fun h => List.mem_append_right _ (List.mem_append_right _ h))
  have hlt : q.1 < H.size := (vaP_m.mp hP q hm).lt
  refine ⟨hlt, fun h => ?_⟩
  rcases h with ⟨k, e, h⟩ | h
  · obtain ⟨h1, -⟩ := vaD_m.mp hD
    rw [List.map_append, List.map_append, List.pairwise_append, List.pairwise_append] at h1
    have hm1 : q.1 ∈ w1.map Prod.fst := List.mem_map.mpr ⟨(q.1, e), List.mem_of_getElem? h, rfl⟩
    rcases hq with hq | hq
    · exact h1.2.2 q.1 (List.mem_map.mpr ⟨q, hq, rfl⟩) q.1 (List.mem_append_left _ hm1) rfl
    · exact h1.2.1.2.2 q.1 hm1 q.1 (List.mem_map.mpr ⟨q, hq, rfl⟩) rfl
  · omega
theorem jn_join (hP : va_P D cl (w0 ++ (w1 ++ w2)) H) (hD : va_D A (w0 ++ (w1 ++ w2))) (hA : ∀ q, H.size ≤ q → A q) (hk : ∀ q : Nat, q < H.size → ¬ va_A w1 H.size q → H1[q]? = H[q]?) (hP1 : va_P D cl v H1) (hD1 : va_D (va_A w1 H.size) v) : va_P D cl (w0 ++ (v ++ w2)) H1 ∧ va_D A (w0 ++ (v ++ w2)) := by
  have hkeep : ∀ q : Nat × va_E, q ∈ w0 ∨ q ∈ w2 → va_at D cl q H1 := fun q hq => by
    obtain ⟨o1, o2⟩ := jn_out hP hD hq
    exact (vaP_m.mp hP q (hq.elim (fun h => List.mem_append_left _ h) (fun h => List.mem_append_right _ (List.mem_append_right _ h)))).kept (hk q.1 o1 o2)
  refine ⟨vaP_m.mpr fun q hq => ?_, vaD_m.mpr ⟨?_, fun q hq => ?_⟩⟩
  · rcases List.mem_append.mp hq with h | h
    · exact hkeep q (Or.inl h)
    · rcases List.mem_append.mp h with h | h
      · exact vaP_m.mp hP1 q h
      · exact hkeep q (Or.inr h)
  · obtain ⟨h1, -⟩ := vaD_m.mp hD
    rw [List.map_append, List.map_append, List.pairwise_append, List.pairwise_append] at h1
    obtain ⟨d1, d2⟩ := vaD_m.mp hD1
    rw [List.map_append, List.map_append, List.pairwise_append, List.pairwise_append]
    refine ⟨h1.1, ⟨d1, h1.2.1.2.1, fun a ha c hc e => ?_⟩, fun a ha c hc e => ?_⟩
    · obtain ⟨qa, hqa, rfl⟩ := List.mem_map.mp ha
      obtain ⟨qc, hqc, rfl⟩ := List.mem_map.mp hc
      exact (jn_out hP hD (Or.inr hqc)).2 (by rw [← e]; exact d2 qa hqa)
    · obtain ⟨qa, hqa, rfl⟩ := List.mem_map.mp ha
      rcases List.mem_append.mp hc with hc | hc
      · obtain ⟨qc, hqc, rfl⟩ := List.mem_map.mp hc
        exact (jn_out hP hD (Or.inl hqa)).2 (by rw [e]; exact d2 qc hqc)
      · exact h1.2.2 _ (List.mem_map.mpr ⟨qa, hqa, rfl⟩) c (List.mem_append_right _ hc) e
  · rcases List.mem_append.mp hq with h | h
    · exact (vaD_m.mp hD).2 q (List.mem_append_left _ h)
    · rcases List.mem_append.mp h with h | h
      · exact jn_sub hD hA ((vaD_m.mp hD1).2 q h)
      · exact (vaD_m.mp hD).2 q (List.mem_append_right _ (List.mem_append_right _ h))
theorem XX.narrow {A B : Nat → Prop} {U : State} (hAB : ∀ q, B q → A q) (h : XX A U) : XX B U := ⟨h.1.narrow hAB, h.2.1.narrow hAB, h.2.2⟩
end JOIN
section JROW
variable {p : Program} {l : Launch} {e : Env} {R : Room} {s : State} {m : MethodId} {args : Array Value} {below : List Frame} {meth : Method} {c : Code} {H H0 : Heap} {locs : List Loc} {cells slots : Nat} {Q : State → Prop}
variable {cc bytes : ByteArray} {pc nL maxL index n mc ms : Nat} {ls : Array Slot} {rest st As : List Value} {D : va_G} {cA : Nat → ClassId} {A : Nat → Prop} {a b : Nat} {w0 w1 w2 : va_W} {Ts w' : List Cond} {own C host owner : String} {y x : MethodName} {rm' : Room} {ret : Option FieldType} {Qc : Array Value → State → Outcome → State → Prop} {ci : Nat} {fs : List Value} {r : vw_C} {hh : List (Nat × Nat × Nat × Nat)}
theorem jn_preV (hK : KK D cA s) (hG : Gd D A (w0 ++ (w1 ++ w2)) H0 H locs) {q0 : Nat} (he : w1[q0]? = some (b, .inr (ci, fs))) (hc : vwCl[ci]? = some r) (hC : r.1 = C) : PreV s H C b (va_Pc (.ref b :: As) (Pre D cA (va_A w1 H.size) w1)) As :=
  ⟨Pre_blind, by subst hC; exact va_recv hK.1 (jn_w1 hG.1) hc he, fun U hU hW => ⟨rfl, fun q h => Or.inr (by rw [← hU]; exact h), by rw [hU]; exact jn_w1 hG.1, jn_d1 hG.2.1, KK.warm hW hK⟩⟩
theorem jn_preVX (hK : KK D cA s) (hX : XX A s) (hA : ∀ q, s.heap.size ≤ q → A q) (hG : Gd D A (w0 ++ (w1 ++ w2)) s.heap H locs) {q0 : Nat} (he : w1[q0]? = some (b, .inr (ci, fs))) (hc : vwCl[ci]? = some r) (hC : r.1 = C) : PreV s H C b (va_Pc (.ref b :: As) (PreX D cA (va_A w1 H.size) w1)) As :=
  ⟨PreX_blind, by subst hC; exact va_recv hK.1 (jn_w1 hG.1) hc he, fun U hU hW => ⟨rfl, ⟨fun q h => Or.inr (by rw [← hU]; exact h), by rw [hU]; exact jn_w1 hG.1, jn_d1 hG.2.1, KK.warm hW hK⟩, XX.narrow (fun q h => jn_sub hG.2.1 (fun q h => hA q (Nat.le_trans hG.2.2.1 h)) h) (XX.move hW (by rw [hU]; exact hG.2.2) hX)⟩⟩
theorem jn_preSX (hK : KK D cA s) (hX : XX A s) (hA : ∀ q, s.heap.size ≤ q → A q) (hG : Gd D A (w0 ++ (w1 ++ w2)) s.heap H locs) : PreS s H (va_Pc As (PreX D cA (va_A w1 H.size) w1)) As :=
  ⟨PreX_blind, fun U hU hW => ⟨rfl, ⟨fun q h => Or.inr (by rw [← hU]; exact h), by rw [hU]; exact jn_w1 hG.1, jn_d1 hG.2.1, KK.warm hW hK⟩, XX.narrow (fun q h => jn_sub hG.2.1 (fun q h => hA q (Nat.le_trans hG.2.2.1 h)) h) (XX.move hW (by rw [hU]; exact hG.2.2) hX)⟩⟩
theorem jn_preS (hK : KK D cA s) (hG : Gd D A (w0 ++ (w1 ++ w2)) H0 H locs) : PreS s H (va_Pc As (Pre D cA (va_A w1 H.size) w1)) As :=
  ⟨Pre_blind, fun U hU hW => ⟨rfl, fun q h => Or.inr (by rw [← hU]; exact h), by rw [hU]; exact jn_w1 hG.1, jn_d1 hG.2.1, KK.warm hW hK⟩⟩
theorem j_V (hF : CallFix p m c cc nL s args Ts own) (hK : KK D cA s) (hG : Gd D A (w0 ++ (w1 ++ w2)) s.heap H locs) (hM : Met l y w' rm' (va_Pc (.ref b :: As) (Pre D cA (va_A w1 H.size) w1)) Qc mc ms (va_A w1 H.size)) (cw : CallW R s args own C index y bytes maxL ret w' rm' mc ms n)
    (q0 : Nat) (he : w1[q0]? = some (b, .inr (ci, fs))) (hc : vwCl[ci]? = some r) (hC : r.1 = C) (hn : As.length = n) (hsize : ls.size = nL) (hst : st = As.reverse ++ .ref b :: rest) (hW : 2 * (F0 m pc ls st).monitorRoom + (rest.map fun v => v.category).sum ≤ 8) (hdg : decode cc pc = .ok (.invokevirtual index, 3)) (hf : cells + mc ≤ R.cells ∧ slots + ms ≤ R.slots) :
    va_Run p l e R s m args below meth c H locs cells slots mc ms (F0 m pc ls st) rest (Qc (Value.ref b :: As).toArray) (va_A w1 H.size) :=
  va_runV hF hM cw (jn_preV hK hG he hc hC) rfl hn hsize hst hW hdg hf
theorem j_VX (hF : CallFix p m c cc nL s args Ts own) (hK : KK D cA s) (hX : XX A s) (hA : ∀ q, s.heap.size ≤ q → A q) (hG : Gd D A (w0 ++ (w1 ++ w2)) s.heap H locs) (hM : Met l y w' rm' (va_Pc (.ref b :: As) (PreX D cA (va_A w1 H.size) w1)) Qc mc ms (va_A w1 H.size)) (cw : vx_CVW R s args own C index y bytes maxL ret hh w' rm' mc ms n)
    (q0 : Nat) (he : w1[q0]? = some (b, .inr (ci, fs))) (hc : vwCl[ci]? = some r) (hC : r.1 = C) (hn : As.length = n) (hsize : ls.size = nL) (hst : st = As.reverse ++ .ref b :: rest) (hW : 2 * (F0 m pc ls st).monitorRoom + (rest.map fun v => v.category).sum ≤ 8) (hdg : decode cc pc = .ok (.invokevirtual index, 3)) (hf : cells + mc ≤ R.cells ∧ slots + ms ≤ R.slots) :
    va_Run p l e R s m args below meth c H locs cells slots mc ms (F0 m pc ls st) rest (Qc (Value.ref b :: As).toArray) (va_A w1 H.size) :=
  vx_runVW hF hM cw (jn_preVX hK hX hA hG he hc hC) rfl hn hsize hst hW hdg hf
theorem j_SX (hF : CallFix p m c cc nL s args Ts own) (hK : KK D cA s) (hX : XX A s) (hA : ∀ q, s.heap.size ≤ q → A q) (hG : Gd D A (w0 ++ (w1 ++ w2)) s.heap H locs) (hM : Met l y w' rm' (va_Pc As (PreX D cA (va_A w1 H.size) w1)) Qc mc ms (va_A w1 H.size)) (cw : vx_CSW R s args own index y bytes maxL ret hh w' rm' mc ms n)
    (hn : As.length = n) (hsize : ls.size = nL) (hst : st = As.reverse ++ rest) (hW : 2 * (F0 m pc ls st).monitorRoom + (rest.map fun v => v.category).sum ≤ 8) (hdg : decode cc pc = .ok (.invokestatic index, 3)) (hf : cells + mc ≤ R.cells ∧ slots + ms ≤ R.slots) :
    va_Run p l e R s m args below meth c H locs cells slots mc ms (F0 m pc ls st) rest (Qc As.toArray) (va_A w1 H.size) :=
  vx_runSW hF hM cw (jn_preSX hK hX hA hG) rfl hn hsize hst hW hdg hf
theorem j_I (hF : CallFix p m c cc nL s args Ts own) (hK : KK D cA s) (hG : Gd D A (w0 ++ (w1 ++ w2)) s.heap H locs) (hM : Met l y w' rm' (va_Pc (.ref b :: As) (Pre D cA (va_A w1 H.size) w1)) Qc mc ms (va_A w1 H.size)) (cw : CallB R s args own index y bytes maxL none w' rm' mc ms n ∧ y.name = "<init>" ∧ (Cond.instanceMethod y).before args s = true)
    (hn : As.length = n) (hsize : ls.size = nL) (hst : st = As.reverse ++ .ref b :: rest) (hW : 2 * (F0 m pc ls st).monitorRoom + (rest.map fun v => v.category).sum ≤ 8) (hdg : decode cc pc = .ok (.invokespecial index, 3)) (hf : cells + mc ≤ R.cells ∧ slots + ms ≤ R.slots) :
    va_Run p l e R s m args below meth c H locs cells slots mc ms (F0 m pc ls st) rest (Qc (Value.ref b :: As).toArray) (va_A w1 H.size) :=
  va_runI hF hM cw (jn_preS hK hG) rfl hn hsize hst hW hdg hf
variable {S : Type} {F : S → va_W} {av : Array Value}
theorem j_ci {post : Int32 → S → Prop} (hA : ∀ q, H0.size ≤ q → A q) (hr : va_Run p l e R s m args below meth c H locs cells slots mc ms (F0 m pc ls st) rest (va_Qi post (fun u t => Wd D (va_A w1 H.size) (F u) t) (va_A w1 H.size) av) (va_A w1 H.size)) (hG : Gd D A (w0 ++ (w1 ++ w2)) H0 H locs)
    (kk : ∀ (r : Int32) (u : S) (H1 : Heap) (locs1 : List Loc), post r u → Gd D A (w0 ++ (F u ++ w2)) H0 H1 locs1 → W p l e R s m args below meth c H1 locs1 (cells + mc) (slots + ms) Q (F0 m (pc + 3) ls (.int r :: rest))) : W p l e R s m args below meth c H locs cells slots Q (F0 m pc ls st) :=
  have hA1 : ∀ q, H.size ≤ q → A q := fun q h => hA q (Nat.le_trans hG.2.2.1 h)
  va_calli hr hG.2.2 (fun _ _ h => jn_sub hG.2.1 hA1 h) (fun _ h => jn_sub hG.2.1 hA1 h) (fun r u t H1 locs1 ht hvm hp hB hz hk hS => kk r u H1 locs1 hp (by
    obtain ⟨j1, j2⟩ := jn_join hG.1 hG.2.1 hA1 hk (by rw [← ht]; exact hB.1) hB.2
    exact ⟨j1, j2, hS⟩))
theorem j_cl {post : Int64 → S → Prop} (hA : ∀ q, H0.size ≤ q → A q) (hr : va_Run p l e R s m args below meth c H locs cells slots mc ms (F0 m pc ls st) rest (va_Ql post (fun u t => Wd D (va_A w1 H.size) (F u) t) (va_A w1 H.size) av) (va_A w1 H.size)) (hG : Gd D A (w0 ++ (w1 ++ w2)) H0 H locs)
    (kk : ∀ (r : Int64) (u : S) (H1 : Heap) (locs1 : List Loc), post r u → Gd D A (w0 ++ (F u ++ w2)) H0 H1 locs1 → W p l e R s m args below meth c H1 locs1 (cells + mc) (slots + ms) Q (F0 m (pc + 3) ls (.long r :: rest))) : W p l e R s m args below meth c H locs cells slots Q (F0 m pc ls st) :=
  have hA1 : ∀ q, H.size ≤ q → A q := fun q h => hA q (Nat.le_trans hG.2.2.1 h)
  va_calll hr hG.2.2 (fun _ _ h => jn_sub hG.2.1 hA1 h) (fun _ h => jn_sub hG.2.1 hA1 h) (fun r u t H1 locs1 ht hvm hp hB hz hk hS => kk r u H1 locs1 hp (by
    obtain ⟨j1, j2⟩ := jn_join hG.1 hG.2.1 hA1 hk (by rw [← ht]; exact hB.1) hB.2
    exact ⟨j1, j2, hS⟩))
theorem j_cv {post : S → Prop} (hA : ∀ q, H0.size ≤ q → A q) (hr : va_Run p l e R s m args below meth c H locs cells slots mc ms (F0 m pc ls st) rest (va_Qv post (fun u t => Wd D (va_A w1 H.size) (F u) t) (va_A w1 H.size) av) (va_A w1 H.size)) (hG : Gd D A (w0 ++ (w1 ++ w2)) H0 H locs)
    (kk : ∀ (u : S) (H1 : Heap) (locs1 : List Loc), post u → Gd D A (w0 ++ (F u ++ w2)) H0 H1 locs1 → W p l e R s m args below meth c H1 locs1 (cells + mc) (slots + ms) Q (F0 m (pc + 3) ls rest)) : W p l e R s m args below meth c H locs cells slots Q (F0 m pc ls st) :=
  have hA1 : ∀ q, H.size ≤ q → A q := fun q h => hA q (Nat.le_trans hG.2.2.1 h)
  va_callv hr hG.2.2 (fun _ _ h => jn_sub hG.2.1 hA1 h) (fun _ h => jn_sub hG.2.1 hA1 h) (fun u t H1 locs1 ht hvm hp hB hz hk hS => kk u H1 locs1 hp (by
    obtain ⟨j1, j2⟩ := jn_join hG.1 hG.2.1 hA1 hk (by rw [← ht]; exact hB.1) hB.2
    exact ⟨j1, j2, hS⟩))
/-- one number of the script onto the stack -/
theorem law_arg {b L t k : Nat} {xs : Nat → Int32} {n0 : Int} (hx : p.tables.exec = Jvm.exec) (hb : c.code = cc) (hX : va_X b L xs s s.heap) (hbl : b < s.heap.size) (hbA : ¬ A b) (hS : va_S A s.heap H locs) (hL : L ≤ 3072) (hk : 6 * t + k < L) (l0 : ls[0]? = some (.val (.ref b))) (l4 : ls[4]? = some (.val (.int (nI (6 * t))))) (hn : Int32.ofInt n0 = nI k)
    (d0 : decode cc pc = .ok (.aload_n 0, 1)) (d1 : decode cc (pc + 1) = .ok (.iload 4, 2)) (d3 : decode cc (pc + 3) = .ok (.iconst n0, 1)) (d4 : decode cc (pc + 4) = .ok (.iadd, 1)) (d5 : decode cc (pc + 5) = .ok (.iaload, 1))
    (kk : W p l e R s m args below meth c H locs cells slots Q (F0 m (pc + 6) ls (.int (xs (6 * t + k)) :: rest))) : W p l e R s m args below meth c H locs cells slots Q (F0 m pc ls rest) := by
  refine lv_aload_n hx hb d0 rfl l0 ?_
  refine lv_iload hx hb d1 l4 ?_
  refine lv_iconst (v := nI k) hx hb d3 hn ?_
  refine lv_iadd hx hb d4 ?_
  rw [nI_add]
  refine va_sld hx hb hX hbl hbA hS (vp_in_nI hk (by omega)) d5 ?_
  rw [nI_clamp (by omega)]
  exact kk
end JROW
