/-! ===== the search by pulls: a queue of stops ===== -/
/-- the bit i of a long -/
def lb (x : Int64) (i : Nat) : Bool := x.toBitVec.getLsbD i
theorem sh63 : ∀ k : Fin 64, (((nI k.val).toInt64 &&& 63).toBitVec.smod 64).toNat = k.val := by decide +kernel
theorem lb_sh (x : Int64) {st : Nat} (h : st < 64) : ((x >>> ((nI st).toInt64 &&& 63)) &&& 1) = 1 ↔ lb x st = true := by
  have e := sh63 ⟨st, h⟩
  rw [← Int64.toBitVec_inj, Int64.toBitVec_and, Int64.toBitVec_shiftRight]
  show (x.toBitVec.sshiftRight' _) &&& 1#64 = 1#64 ↔ _
  rw [BitVec.sshiftRight_eq', e]
  unfold lb
  constructor
  · intro q
    have t := congrArg (fun z => z.getLsbD 0) q
    simp only [BitVec.getLsbD_and, BitVec.getLsbD_sshiftRight] at t
    simpa [h] using t
  · intro q
    apply BitVec.eq_of_getLsbD_eq
    intro i hi
    rw [BitVec.getLsbD_and, BitVec.getLsbD_sshiftRight]
    by_cases h0 : i = 0
    · subst h0
      simp [h, q]
    · simp [BitVec.getLsbD_one, h0]
theorem lb_or (x : Int64) {st i : Nat} (h : st < 64) (hi : i < 64) : lb (x ||| (1 <<< ((nI st).toInt64 &&& 63))) i = (lb x i || decide (i = st)) := by
  have e := sh63 ⟨st, h⟩
  unfold lb
  rw [Int64.toBitVec_or, Int64.toBitVec_shiftLeft, BitVec.shiftLeft_eq', e, BitVec.getLsbD_or]
  congr 1
  show ((1#64 : BitVec 64) <<< st).getLsbD i = _
  rw [BitVec.getLsbD_shiftLeft, BitVec.getLsbD_one]
  by_cases h1 : i = st
  · subst h1
    simp [hi]
  · by_cases h2 : i < st
    · simp [h2, h1]
    · have : i - st ≠ 0 := by omega
      simp [h1, this]
theorem lb_0 (i : Nat) : lb 0 i = false := by
  unfold lb
  show (0#64).getLsbD i = false
  simp
theorem among_t {x : Int64} {st : Nat} (h : st < 64) (c : lg_cmp ((x >>> ((nI st).toInt64 &&& 63)) &&& 1) 1 = 0) : lb x st = true := (lb_sh x h).mp ((lg_cmp_eq _ _).mp c)
theorem among_f {x : Int64} {st : Nat} (h : st < 64) (c : ¬ lg_cmp ((x >>> ((nI st).toInt64 &&& 63)) &&& 1) 1 = 0) : lb x st = false := by
  cases q : lb x st with
  | false => rfl
  | true => exact absurd ((lg_cmp_eq _ _).mpr ((lb_sh x h).mpr q)) c
/-- a stop: a standing, which of the told drawers have been open, and how many pulls it took -/
abbrev Stop : Type := Nat × Nat × Nat
def metQ (Q : List Stop) (st had : Nat) : Bool := Q.any (fun q => q.1 == st && q.2.1 == had)
def meetQ (Q : List Stop) (st had p : Nat) : List Stop := if metQ Q st had = true ∨ 729 ≤ Q.length then Q else Q ++ [(st, had, p)]
/-- the drawers below i of those that may be pulled at the stop -/
def goU (may st had p told : Nat) : Nat → List Stop → List Stop
  | 0, Q => Q
  | i + 1, Q => if may.testBit i = true then meetQ (goU may st had p told i Q) (st ^^^ 2 ^ i) (had ||| ((st ^^^ 2 ^ i) &&& told)) (p + 1) else goU may st had p told i Q
def goQ (ma : Nat → Nat) (told : Nat) (Q : List Stop) (s : Nat) : List Stop := match Q[s]? with
  | none => Q
  | some q => goU (ma q.1) q.1 q.2.1 q.2.2 told 6 Q
/-- all stops that are met, when those below s have gone on; f: how many may go on yet -/
def bfsQ (ma : Nat → Nat) (told : Nat) : Nat → Nat → List Stop → List Stop
  | 0, _, Q => Q
  | f + 1, s, Q => if s < Q.length then bfsQ ma told f (s + 1) (goQ ma told Q s) else Q
/-- how many pulls it took to the first stop that is wanted -/
def findQ (ma : Nat → Nat) (told : Nat) (w : Stop → Bool) : Nat → Nat → List Stop → Option Nat
  | 0, _, _ => none
  | f + 1, s, Q => match Q[s]? with
    | none => none
    | some q => if w q = true then some q.2.2 else findQ ma told w f (s + 1) (goQ ma told Q s)
def optI (r : Option Nat) : Int32 := match r with
  | none => -4
  | some n => nI n
/-- the queue as it lies in the heap -/
def BQ (Q : List Stop) (ss sh sp : Nat → Int32) (mt : Nat → Int64) (rc : Nat) : Prop :=
  rc = Q.length ∧ Q.length ≤ 729 ∧ (∀ (i : Nat) (q : Stop), Q[i]? = some q → q.1 < 64 ∧ q.2.1 < 64 ∧ q.2.2 ≤ i ∧ ss i = nI q.1 ∧ sh i = nI q.2.1 ∧ sp i = nI q.2.2) ∧ ∀ had st, had < 64 → st < 64 → lb (mt had) st = metQ Q st had
abbrev YW (cA : Nat → ClassId) (y am at_ as_ ah ap : Nat) (mb ss sh sp : Nat → Int32) (mt : Nat → Int64) (rc : Nat) (rest : va_W) : va_W :=
  (y, .inr (10, [.ref am, .ref at_, .ref as_, .ref ah, .ref ap, .int (nI rc)])) :: (am, .inl (cA 0, 64, .inl mb)) :: (at_, .inl (cA 1, 64, .inr (.inl mt))) :: (as_, .inl (cA 0, 729, .inl ss)) :: (ah, .inl (cA 0, 729, .inl sh)) :: (ap, .inl (cA 0, 729, .inl sp)) :: rest
theorem metQ_app (Q : List Stop) (q : Stop) (st had : Nat) : metQ (Q ++ [q]) st had = (metQ Q st had || (q.1 == st && q.2.1 == had)) := by
  unfold metQ
  rw [List.any_append]
  simp
theorem BQ.push {Q : List Stop} {ss sh sp : Nat → Int32} {mt : Nat → Int64} {st had p : Nat} {x : Int64} (h : BQ Q ss sh sp mt Q.length) (hst : st < 64) (hh : had < 64) (hp : p ≤ Q.length) (hl : Q.length < 729)
    (hx : ∀ i, i < 64 → lb x i = (lb (mt had) i || decide (i = st))) : BQ (Q ++ [(st, had, p)]) (upd ss Q.length (nI st)) (upd sh Q.length (nI had)) (upd sp Q.length (nI p)) (vp_updL mt had x) (Q.length + 1) := by
  obtain ⟨-, h2, h3, h4⟩ := h
  refine ⟨by simp, by simp; omega, fun i q hq => ?_, fun had2 st2 hh2 hs2 => ?_⟩
  · by_cases hi : i < Q.length
    · rw [List.getElem?_append_left hi] at hq
      obtain ⟨a1, a2, a3, a4, a5, a6⟩ := h3 i q hq
      rw [pk_un (by omega), pk_un (by omega), pk_un (by omega)]
      exact ⟨a1, a2, a3, a4, a5, a6⟩
    · have hi2 : i = Q.length := by
        have := (List.getElem?_eq_some_iff.mp hq).1
        simp at this
        omega
      subst hi2
      rw [List.getElem?_append_right (Nat.le_refl _)] at hq
      simp at hq
      subst hq
      exact ⟨hst, hh, hp, pk_us, pk_us, pk_us⟩
  · rw [metQ_app]
    by_cases e : had2 = had
    · subst e
      rw [pk_uLs, hx st2 hs2, h4 had2 st2 hh2 hs2]
      congr 1
      by_cases e2 : st2 = st
      · subst e2
        simp
      · have : ¬ st = st2 := fun q => e2 q.symm
        simp [e2, this]
    · have e' : ¬ had = had2 := fun q => e q.symm
      rw [pk_uLn e, h4 had2 st2 hh2 hs2]
      simp [e']
abbrev YU : Type := (Nat → Int32) × (Nat → Int32) × (Nat → Int32) × (Nat → Int64) × Nat
abbrev rmX11_isAmong : Room := { frames := 0, cells := 0, slots := 0, locals := 0 }
set_option maxHeartbeats 4000000 in
set_option maxRecDepth 100000 in
theorem c_X11_isAmong {l : Launch} {D : va_G} {cA : Nat → ClassId} {A : Nat → Prop} {ws : va_W} {x : Int64} {st : Nat} (hst : st < 64) : Met l yX11_isAmong wsX11_isAmong rmX11_isAmong (va_Pc [.long x, .int (nI st)] (Pre D cA A (ws))) (va_Qi (fun r _ => r = b2i (lb x st)) (fun u t => Wd D A ((fun (_ : Unit) => ws) u) t) A) (0) (0) A := by
  refine k_ofi (S := Unit) (F := fun (_ : Unit) => ws) (cc := cX11_isAmong) (maxL := 3) (by decide) rfl (Nat.le_of_ble_eq_true rfl) ?_
  intro p e s m args below meth c Q hF hini hK hA hG hret ls hl
  have hl : lv_has ls 3 [(0, .long x), (2, .int (nI st))] := hl
  refine lv_lload_n hF.1 hF.2.1 dX11_isAmong_0 rfl (lv_at hl 0 rfl) ?_
  refine lv_iload_n hF.1 hF.2.1 dX11_isAmong_1 rfl (lv_at hl 1 rfl) ?_
  refine lv_lshr hF.1 hF.2.1 dX11_isAmong_2 rfl ?_
  refine lv_lconst (v := 1) hF.1 hF.2.1 dX11_isAmong_3 (by decide +kernel) ?_
  refine lv_land hF.1 hF.2.1 dX11_isAmong_4 ?_
  refine lv_lconst (v := 1) hF.1 hF.2.1 dX11_isAmong_5 (by decide +kernel) ?_
  refine W.lcmp hF.1 hF.2.1 dX11_isAmong_6 ?_
  refine lv_if_ne (tgt := 14) hF.1 hF.2.1 dX11_isAmong_7 (by decide) (fun c_7 => ?_) (fun c_7 => ?_)
  · --
    refine lv_iconst (v := (nI 0)) hF.1 hF.2.1 dX11_isAmong_14 (by decide +kernel) ?_
    exact hret _ () _ ls _ _ _ _ (by first | (rw [among_t hst c_7]; rfl) | (rw [among_f hst c_7]; rfl)) (by first | rfl | exact nar_b2i _) hG (Nat.le_of_ble_eq_true rfl) (Nat.le_of_ble_eq_true rfl) dX11_isAmong_15
  · --
    refine lv_iconst (v := (nI 1)) hF.1 hF.2.1 dX11_isAmong_10 (by decide +kernel) ?_
    refine lv_goto (tgt := 15) hF.1 hF.2.1 dX11_isAmong_11 (by decide) ?_
    exact hret _ () _ ls _ _ _ _ (by first | (rw [among_t hst c_7]; rfl) | (rw [among_f hst c_7]; rfl)) (by first | rfl | exact nar_b2i _) hG (Nat.le_of_ble_eq_true rfl) (Nat.le_of_ble_eq_true rfl) dX11_isAmong_15

abbrev rmX10_mayFrom : Room := { frames := 0, cells := 0, slots := 0, locals := 0 }
set_option maxHeartbeats 4000000 in
set_option maxRecDepth 100000 in
theorem c_X10_mayFrom {l : Launch} {D : va_G} {cA : Nat → ClassId} {A : Nat → Prop}  {y am at_ as_ ah ap : Nat} {mb ss sh sp : Nat → Int32} {mt : Nat → Int64} {rc : Nat} {rest : va_W} {ma : Nat → Nat} (hma : ∀ z, z < 64 → mb z = nI (ma z) ∧ ma z < 64) {st : Nat} (hst : st < 64) : Met l yX10_mayFrom wsX10_mayFrom rmX10_mayFrom (va_Pc [.ref y, .int (nI st)] (Pre D cA A (YW cA y am at_ as_ ah ap mb ss sh sp mt rc rest))) (va_Qi (fun r _ => r = nI (ma st)) (fun u t => Wd D A ((fun (_ : Unit) => YW cA y am at_ as_ ah ap mb ss sh sp mt rc rest) u) t) A) (0) (0) A := by
  refine k_ofi (S := Unit) (F := fun (_ : Unit) => YW cA y am at_ as_ ah ap mb ss sh sp mt rc rest) (cc := cX10_mayFrom) (maxL := 2) (by decide) rfl (Nat.le_of_ble_eq_true rfl) ?_
  intro p e s m args below meth c Q hF hini hK hA hG hret ls hl
  have hl : lv_has ls 2 [(0, .ref y), (1, .int (nI st))] := hl
  refine lv_iload_n hF.1 hF.2.1 dX10_mayFrom_0 rfl (lv_at hl 1 rfl) ?_
  refine lv_if_lt (tgt := 19) hF.1 hF.2.1 dX10_mayFrom_1 (by decide) (fun c_1 => ?_) (fun c_1 => ?_)
  · --
    have n_1 : st < 0 := (nI_ltI (a := st) (b := 0) (by omega) (by omega)).mp c_1
    exact absurd n_1 (by omega)
  · --
    have n_1 : ¬ (st < 0) := fun q => c_1 ((nI_ltI (a := st) (b := 0) (by omega) (by omega)).mpr q)
    refine lv_iload_n hF.1 hF.2.1 dX10_mayFrom_4 rfl (lv_at hl 1 rfl) ?_
    refine lv_bipush (v := (nI 64)) hF.1 hF.2.1 dX10_mayFrom_5 (by decide +kernel) ?_
    refine lv_icmp_ge (tgt := 19) hF.1 hF.2.1 dX10_mayFrom_7 (by decide) (fun c_7 => ?_) (fun c_7 => ?_)
    · --
      have n_7 : 64 ≤ st := (nI_leI (a := 64) (b := st) (by omega) (by omega)).mp c_7
      exact absurd n_7 (by omega)
    · --
      have n_7 : ¬ (64 ≤ st) := fun q => c_7 ((nI_leI (a := 64) (b := st) (by omega) (by omega)).mpr q)
      refine lv_aload_n hF.1 hF.2.1 dX10_mayFrom_10 rfl (lv_at hl 0 rfl) ?_
      refine k_get (C := RX10) (T := TX10) (N := 6) hF hK hG (fun _ h => List.mem_cons_of_mem _ (List.mem_append_right _ h)) 0 rfl rfl 0 (by decide) (List.mem_of_getElem? (i := 1) rfl) (fun _ h9 => h9) rfl dX10_mayFrom_11 ?_
      refine lv_iload_n hF.1 hF.2.1 dX10_mayFrom_14 rfl (lv_at hl 1 rfl) ?_
      refine k_ialdN hF hK hG 1 rfl (st) rfl (by omega) (by omega) dX10_mayFrom_15 ?_
      refine lv_goto (tgt := 20) hF.1 hF.2.1 dX10_mayFrom_16 (by decide) ?_
      exact hret _ () _ ls _ _ _ _ (by exact (hma st hst).1) (by first | rfl | exact nar_b2i _) hG (Nat.le_of_ble_eq_true rfl) (Nat.le_of_ble_eq_true rfl) dX10_mayFrom_20

abbrev rmX10_meet : Room := { frames := 1, cells := 0, slots := 0, locals := 22 }
set_option maxHeartbeats 4000000 in
set_option maxRecDepth 100000 in
theorem c_X10_meet {l : Launch} {D : va_G} {cA : Nat → ClassId} {A : Nat → Prop}  {y am at_ as_ ah ap : Nat} {mb ss sh sp : Nat → Int32} {mt : Nat → Int64} {rc : Nat} {rest : va_W} {Q0 : List Stop} (hB : BQ Q0 ss sh sp mt rc) {st had k : Nat} (hst : st < 64) (hh : had < 64) (hk : k ≤ Q0.length) : Met l yX10_meet wsX10_meet rmX10_meet (va_Pc [.ref y, .int (nI st), .int (nI had), .int (nI k)] (Pre D cA A (YW cA y am at_ as_ ah ap mb ss sh sp mt rc rest))) (va_Qv (fun (u : YU) => BQ (meetQ Q0 st had k) u.1 u.2.1 u.2.2.1 u.2.2.2.1 u.2.2.2.2) (fun u t => Wd D A ((fun (u : YU) => YW cA y am at_ as_ ah ap mb u.1 u.2.1 u.2.2.1 u.2.2.2.1 u.2.2.2.2 rest) u) t) A) (0) (0) A := by
  refine k_ofv (S := YU) (F := fun (u : YU) => YW cA y am at_ as_ ah ap mb u.1 u.2.1 u.2.2.1 u.2.2.2.1 u.2.2.2.2 rest) (cc := cX10_meet) (maxL := 4) (by decide) rfl (Nat.le_of_ble_eq_true rfl) ?_
  intro p e s m args below meth c Q hF hini hK hA hG hret ls hl
  have hl : lv_has ls 4 [(0, .ref y), (1, .int (nI st)), (2, .int (nI had)), (3, .int (nI k))] := hl
  obtain rfl : rc = Q0.length := hB.1
  have h729 : Q0.length ≤ 729 := hB.2.1
  refine lv_iload_n hF.1 hF.2.1 dX10_meet_0 rfl (lv_at hl 1 rfl) ?_
  refine lv_if_lt (tgt := 20) hF.1 hF.2.1 dX10_meet_1 (by decide) (fun c_1 => ?_) (fun c_1 => ?_)
  · --
    have n_1 : st < 0 := (nI_ltI (a := st) (b := 0) (by omega) (by omega)).mp c_1
    exact absurd n_1 (by omega)
  · --
    have n_1 : ¬ (st < 0) := fun q => c_1 ((nI_ltI (a := st) (b := 0) (by omega) (by omega)).mpr q)
    refine lv_iload_n hF.1 hF.2.1 dX10_meet_4 rfl (lv_at hl 1 rfl) ?_
    refine lv_bipush (v := (nI 64)) hF.1 hF.2.1 dX10_meet_5 (by decide +kernel) ?_
    refine lv_icmp_ge (tgt := 20) hF.1 hF.2.1 dX10_meet_7 (by decide) (fun c_7 => ?_) (fun c_7 => ?_)
    · --
      have n_7 : 64 ≤ st := (nI_leI (a := 64) (b := st) (by omega) (by omega)).mp c_7
      exact absurd n_7 (by omega)
    · --
      have n_7 : ¬ (64 ≤ st) := fun q => c_7 ((nI_leI (a := 64) (b := st) (by omega) (by omega)).mpr q)
      refine lv_iload_n hF.1 hF.2.1 dX10_meet_10 rfl (lv_at hl 2 rfl) ?_
      refine lv_if_lt (tgt := 20) hF.1 hF.2.1 dX10_meet_11 (by decide) (fun c_11 => ?_) (fun c_11 => ?_)
      · --
        have n_11 : had < 0 := (nI_ltI (a := had) (b := 0) (by omega) (by omega)).mp c_11
        exact absurd n_11 (by omega)
      · --
        have n_11 : ¬ (had < 0) := fun q => c_11 ((nI_ltI (a := had) (b := 0) (by omega) (by omega)).mpr q)
        refine lv_iload_n hF.1 hF.2.1 dX10_meet_14 rfl (lv_at hl 2 rfl) ?_
        refine lv_bipush (v := (nI 64)) hF.1 hF.2.1 dX10_meet_15 (by decide +kernel) ?_
        refine lv_icmp_lt (tgt := 21) hF.1 hF.2.1 dX10_meet_17 (by decide) (fun c_17 => ?_) (fun c_17 => ?_)
        · --
          have n_17 : had < 64 := (nI_ltI (a := had) (b := 64) (by omega) (by omega)).mp c_17
          refine lv_aload_n hF.1 hF.2.1 dX10_meet_21 rfl (lv_at hl 0 rfl) ?_
          refine k_get (C := RX10) (T := TX10) (N := 6) hF hK hG (fun _ h => List.mem_cons_of_mem _ (List.mem_append_right _ h)) 0 rfl rfl 1 (by decide) (List.mem_of_getElem? (i := 1) rfl) (fun _ h9 => h9) rfl dX10_meet_22 ?_
          refine lv_iload_n hF.1 hF.2.1 dX10_meet_25 rfl (lv_at hl 2 rfl) ?_
          refine k_laldN hF hK hG 2 rfl (had) rfl (by omega) (by omega) dX10_meet_26 ?_
          refine lv_iload_n hF.1 hF.2.1 dX10_meet_27 rfl (lv_at hl 1 rfl) ?_
          refine k_ci (r_SN (As := [.long (mt had), .int (nI st)]) hF hK hA hG (c_X11_isAmong hst) ⟨(va_cnB 2 hF.2.2.2.2 gX10_meet_X11_isAmong_n69 rfl rfl rfl (hK.2.2.2.2 _ (List.mem_of_getElem? (i := 8) rfl)) (hF.2.2.2.2 _ (List.mem_of_getElem? (i := 7) rfl)) (by decide +kernel) ⟨Nat.le_of_ble_eq_true rfl, Nat.le_of_ble_eq_true rfl⟩), hF.2.2.2.2 _ (List.mem_of_getElem? (i := 6) rfl), trivial⟩ rfl hl.1 rfl (lv_room (Nat.le_of_ble_eq_true rfl)) dX10_meet_28 ⟨Nat.le_of_ble_eq_true rfl, Nat.le_of_ble_eq_true rfl⟩) hG (fun r_28 u_28 H locs hp_28 hG => ?_)
          subst hp_28
          refine lv_if_ne (tgt := 51) hF.1 hF.2.1 dX10_meet_31 (by decide) (fun c_31 => ?_) (fun c_31 => ?_)
          · --
            have n_31 : (lb (mt had) st) = true := b2i_nz.mp c_31
            rw [hB.2.2.2 had st hh hst] at n_31
            exact hret (ss, sh, sp, mt, Q0.length) _ ls _ _ _ _ (by first | (rw [meetQ, if_pos (Or.inl n_31)]; exact hB) | (rw [meetQ, if_pos (Or.inr (Nat.le_of_not_lt n_48))]; exact hB)) hG (Nat.le_of_ble_eq_true rfl) (Nat.le_of_ble_eq_true rfl) dX10_meet_51
          · --
            have n_31 : (lb (mt had) st) = false := b2i_z.mp c_31
            rw [hB.2.2.2 had st hh hst] at n_31
            refine lv_aload_n hF.1 hF.2.1 dX10_meet_34 rfl (lv_at hl 0 rfl) ?_
            refine k_get (C := RX10) (T := TX10) (N := 6) hF hK hG (fun _ h => List.mem_cons_of_mem _ (List.mem_append_right _ h)) 0 rfl rfl 5 (by decide) (List.mem_of_getElem? (i := 2) rfl) (fun _ h9 => h9) rfl dX10_meet_35 ?_
            refine lv_if_lt (tgt := 51) hF.1 hF.2.1 dX10_meet_38 (by decide) (fun c_38 => ?_) (fun c_38 => ?_)
            · --
              have n_38 : Q0.length < 0 := (nI_ltI (a := Q0.length) (b := 0) (by omega) (by omega)).mp c_38
              exact absurd n_38 (by omega)
            · --
              have n_38 : ¬ (Q0.length < 0) := fun q => c_38 ((nI_ltI (a := Q0.length) (b := 0) (by omega) (by omega)).mpr q)
              refine lv_aload_n hF.1 hF.2.1 dX10_meet_41 rfl (lv_at hl 0 rfl) ?_
              refine k_get (C := RX10) (T := TX10) (N := 6) hF hK hG (fun _ h => List.mem_cons_of_mem _ (List.mem_append_right _ h)) 0 rfl rfl 5 (by decide) (List.mem_of_getElem? (i := 2) rfl) (fun _ h9 => h9) rfl dX10_meet_42 ?_
              refine lv_sipush (v := (nI 729)) hF.1 hF.2.1 dX10_meet_45 (by decide +kernel) ?_
              refine lv_icmp_lt (tgt := 52) hF.1 hF.2.1 dX10_meet_48 (by decide) (fun c_48 => ?_) (fun c_48 => ?_)
              · --
                have n_48 : Q0.length < 729 := (nI_ltI (a := Q0.length) (b := 729) (by omega) (by omega)).mp c_48
                refine lv_aload_n hF.1 hF.2.1 dX10_meet_52 rfl (lv_at hl 0 rfl) ?_
                refine k_get (C := RX10) (T := TX10) (N := 6) hF hK hG (fun _ h => List.mem_cons_of_mem _ (List.mem_append_right _ h)) 0 rfl rfl 1 (by decide) (List.mem_of_getElem? (i := 1) rfl) (fun _ h9 => h9) rfl dX10_meet_53 ?_
                refine lv_iload_n hF.1 hF.2.1 dX10_meet_56 rfl (lv_at hl 2 rfl) ?_
                refine lv_dup2_11 hF.1 hF.2.1 dX10_meet_57 rfl rfl ?_
                refine k_laldN hF hK hG 2 rfl (had) rfl (by omega) (by omega) dX10_meet_58 ?_
                refine lv_lconst (v := 1) hF.1 hF.2.1 dX10_meet_59 (by decide +kernel) ?_
                refine lv_iload_n hF.1 hF.2.1 dX10_meet_60 rfl (lv_at hl 1 rfl) ?_
                refine lv_lshl hF.1 hF.2.1 dX10_meet_61 rfl ?_
                refine lv_lor hF.1 hF.2.1 dX10_meet_62 ?_
                refine k_lastN hF hK hG 2 rfl (had) rfl (by omega) (by omega) dX10_meet_63 (fun H locs hG => ?_)
                refine lv_aload_n hF.1 hF.2.1 dX10_meet_64 rfl (lv_at hl 0 rfl) ?_
                refine k_get (C := RX10) (T := TX10) (N := 6) hF hK hG (fun _ h => List.mem_cons_of_mem _ (List.mem_append_right _ h)) 0 rfl rfl 2 (by decide) (List.mem_of_getElem? (i := 3) rfl) (fun _ h9 => h9) rfl dX10_meet_65 ?_
                refine lv_aload_n hF.1 hF.2.1 dX10_meet_68 rfl (lv_at hl 0 rfl) ?_
                refine k_get (C := RX10) (T := TX10) (N := 6) hF hK hG (fun _ h => List.mem_cons_of_mem _ (List.mem_append_right _ h)) 0 rfl rfl 5 (by decide) (List.mem_of_getElem? (i := 2) rfl) (fun _ h9 => h9) rfl dX10_meet_69 ?_
                refine lv_iload_n hF.1 hF.2.1 dX10_meet_72 rfl (lv_at hl 1 rfl) ?_
                refine k_iastN hF hK hG 3 rfl (Q0.length) rfl (by omega) (by omega) dX10_meet_73 (fun H locs hG => ?_)
                refine lv_aload_n hF.1 hF.2.1 dX10_meet_74 rfl (lv_at hl 0 rfl) ?_
                refine k_get (C := RX10) (T := TX10) (N := 6) hF hK hG (fun _ h => List.mem_cons_of_mem _ (List.mem_append_right _ h)) 0 rfl rfl 3 (by decide) (List.mem_of_getElem? (i := 4) rfl) (fun _ h9 => h9) rfl dX10_meet_75 ?_
                refine lv_aload_n hF.1 hF.2.1 dX10_meet_78 rfl (lv_at hl 0 rfl) ?_
                refine k_get (C := RX10) (T := TX10) (N := 6) hF hK hG (fun _ h => List.mem_cons_of_mem _ (List.mem_append_right _ h)) 0 rfl rfl 5 (by decide) (List.mem_of_getElem? (i := 2) rfl) (fun _ h9 => h9) rfl dX10_meet_79 ?_
                refine lv_iload_n hF.1 hF.2.1 dX10_meet_82 rfl (lv_at hl 2 rfl) ?_
                refine k_iastN hF hK hG 4 rfl (Q0.length) rfl (by omega) (by omega) dX10_meet_83 (fun H locs hG => ?_)
                refine lv_aload_n hF.1 hF.2.1 dX10_meet_84 rfl (lv_at hl 0 rfl) ?_
                refine k_get (C := RX10) (T := TX10) (N := 6) hF hK hG (fun _ h => List.mem_cons_of_mem _ (List.mem_append_right _ h)) 0 rfl rfl 4 (by decide) (List.mem_of_getElem? (i := 5) rfl) (fun _ h9 => h9) rfl dX10_meet_85 ?_
                refine lv_aload_n hF.1 hF.2.1 dX10_meet_88 rfl (lv_at hl 0 rfl) ?_
                refine k_get (C := RX10) (T := TX10) (N := 6) hF hK hG (fun _ h => List.mem_cons_of_mem _ (List.mem_append_right _ h)) 0 rfl rfl 5 (by decide) (List.mem_of_getElem? (i := 2) rfl) (fun _ h9 => h9) rfl dX10_meet_89 ?_
                refine lv_iload_n hF.1 hF.2.1 dX10_meet_92 rfl (lv_at hl 3 rfl) ?_
                refine k_iastN hF hK hG 5 rfl (Q0.length) rfl (by omega) (by omega) dX10_meet_93 (fun H locs hG => ?_)
                refine lv_aload_n hF.1 hF.2.1 dX10_meet_94 rfl (lv_at hl 0 rfl) ?_
                refine lv_dup hF.1 hF.2.1 dX10_meet_95 rfl ?_
                refine k_get (C := RX10) (T := TX10) (N := 6) hF hK hG (fun _ h => List.mem_cons_of_mem _ (List.mem_append_right _ h)) 0 rfl rfl 5 (by decide) (List.mem_of_getElem? (i := 2) rfl) (fun _ h9 => h9) rfl dX10_meet_96 ?_
                refine lv_iconst (v := (nI 1)) hF.1 hF.2.1 dX10_meet_99 (by decide +kernel) ?_
                refine lv_iadd hF.1 hF.2.1 dX10_meet_100 ?_
                rw [nI_add]
                refine k_put (C := RX10) (T := TX10) (N := 6) hF hK hG (fun _ h => List.mem_cons_of_mem _ (List.mem_append_right _ h)) tyX10 tyX10_ok nmX10 0 rfl rfl 5 (by decide) (List.mem_of_getElem? (i := 2) rfl) (fun _ h9 => h9) rfl rfl rfl (Nat.le_of_ble_eq_true rfl) dX10_meet_101 (fun H locs hG => ?_)
                exact hret (upd ss Q0.length (nI st), upd sh Q0.length (nI had), upd sp Q0.length (nI k), vp_updL mt had (mt had ||| (1 <<< ((nI st).toInt64 &&& 63))), Q0.length + 1) _ ls _ _ _ _ (by rw [meetQ, if_neg (fun q => q.elim (fun q => by rw [n_31] at q; cases q) (fun q => by omega))]; exact hB.push hst hh hk n_48 (fun i hi => lb_or _ hst hi)) hG (Nat.le_of_ble_eq_true rfl) (Nat.le_of_ble_eq_true rfl) dX10_meet_104
              · --
                have n_48 : ¬ (Q0.length < 729) := fun q => c_48 ((nI_ltI (a := Q0.length) (b := 729) (by omega) (by omega)).mpr q)
                exact hret (ss, sh, sp, mt, Q0.length) _ ls _ _ _ _ (by first | (rw [meetQ, if_pos (Or.inl n_31)]; exact hB) | (rw [meetQ, if_pos (Or.inr (Nat.le_of_not_lt n_48))]; exact hB)) hG (Nat.le_of_ble_eq_true rfl) (Nat.le_of_ble_eq_true rfl) dX10_meet_51
        · --
          have n_17 : ¬ (had < 64) := fun q => c_17 ((nI_ltI (a := had) (b := 64) (by omega) (by omega)).mpr q)
          exact absurd hh n_17

abbrev rmX10_begin : Room := { frames := 2, cells := 0, slots := 0, locals := 45 }
set_option maxHeartbeats 4000000 in
set_option maxRecDepth 100000 in
theorem c_X10_begin {l : Launch} {D : va_G} {cA : Nat → ClassId} {A : Nat → Prop}  {y am at_ as_ ah ap : Nat} {mb ss sh sp : Nat → Int32} {mt : Nat → Int64} {rc : Nat} {rest : va_W} {st told : Nat} (hst : st < 64) (ht : told < 64) : Met l yX10_begin wsX10_begin rmX10_begin (va_Pc [.ref y, .int (nI st), .int (nI told)] (Pre D cA A (YW cA y am at_ as_ ah ap mb ss sh sp mt rc rest))) (va_Qv (fun (u : YU) => BQ ([(st, st &&& told, 0)]) u.1 u.2.1 u.2.2.1 u.2.2.2.1 u.2.2.2.2) (fun u t => Wd D A ((fun (u : YU) => YW cA y am at_ as_ ah ap mb u.1 u.2.1 u.2.2.1 u.2.2.2.1 u.2.2.2.2 rest) u) t) A) (0) (0) A := by
  refine k_ofv (S := YU) (F := fun (u : YU) => YW cA y am at_ as_ ah ap mb u.1 u.2.1 u.2.2.1 u.2.2.2.1 u.2.2.2.2 rest) (cc := cX10_begin) (maxL := 4) (by decide) rfl (Nat.le_of_ble_eq_true rfl) ?_
  intro p e s m args below meth c Q hF hini hK hA hG hret ls hl
  have hl : lv_has ls 4 [(0, .ref y), (1, .int (nI st)), (2, .int (nI told))] := hl
  refine lv_iconst (v := (nI 0)) hF.1 hF.2.1 dX10_begin_0 (by decide +kernel) ?_
  refine lv_istore_n (lv' := [(3, .int (nI 0)), (0, .ref y), (1, .int (nI st)), (2, .int (nI told))]) hF.1 hF.2.1 dX10_begin_1 rfl hl (by decide) rfl (fun ls hl => ?_)
  have lp2 : ∀ (fuel : Nat), ∀ (j : Nat) (mt : Nat → Int64), (hj : j ≤ 64) → (hz : ∀ i, i < j → mt i = 0) → (64 - j) < fuel → ∀ (H : Heap) (locs : List Loc), Gd D A (YW cA y am at_ as_ ah ap mb ss sh sp mt rc rest) s.heap H locs → ∀ ls : Array Slot, lv_has ls 4 [(0, .ref y), (1, .int (nI st)), (2, .int (nI told)), (3, .int (nI j))] → W p l e rmX10_begin s m args below meth c H locs (0) (0) Q (F0 m 2 ls []) := by
    intro fuel
    induction fuel with
    | zero => intro j mt hj hz hmu; exact absurd hmu (Nat.not_lt_zero _)
    | succ fuel ih2 =>
      intro j mt hj hz hmu H locs hG ls hl
      refine lv_iload_n hF.1 hF.2.1 dX10_begin_2 rfl (lv_at hl 3 rfl) ?_
      refine lv_bipush (v := (nI 64)) hF.1 hF.2.1 dX10_begin_3 (by decide +kernel) ?_
      refine lv_icmp_ge (tgt := 21) hF.1 hF.2.1 dX10_begin_5 (by decide) (fun c_5 => ?_) (fun c_5 => ?_)
      · --
        have n_5 : 64 ≤ j := (nI_leI (a := 64) (b := j) (by omega) (by omega)).mp c_5
        obtain rfl : j = 64 := by omega
        refine lv_aload_n hF.1 hF.2.1 dX10_begin_21 rfl (lv_at hl 0 rfl) ?_
        refine lv_iconst (v := (nI 0)) hF.1 hF.2.1 dX10_begin_22 (by decide +kernel) ?_
        refine k_put (C := RX10) (T := TX10) (N := 6) hF hK hG (fun _ h => List.mem_cons_of_mem _ (List.mem_append_right _ h)) tyX10 tyX10_ok nmX10 0 rfl rfl 5 (by decide) (List.mem_of_getElem? (i := 2) rfl) (fun _ h9 => h9) rfl rfl rfl (Nat.le_of_ble_eq_true rfl) dX10_begin_23 (fun H locs hG => ?_)
        have hG : Gd D A (YW cA y am at_ as_ ah ap mb ss sh sp mt 0 rest) s.heap H locs := hG
        refine lv_aload_n hF.1 hF.2.1 dX10_begin_26 rfl (lv_at hl 0 rfl) ?_
        refine lv_iload_n hF.1 hF.2.1 dX10_begin_27 rfl (lv_at hl 1 rfl) ?_
        refine lv_iload_n hF.1 hF.2.1 dX10_begin_28 rfl (lv_at hl 1 rfl) ?_
        refine lv_iload_n hF.1 hF.2.1 dX10_begin_29 rfl (lv_at hl 2 rfl) ?_
        refine lv_iand hF.1 hF.2.1 dX10_begin_30 ?_
        rw [nx_and]
        refine lv_iconst (v := (nI 0)) hF.1 hF.2.1 dX10_begin_31 (by decide +kernel) ?_
        refine k_cv (r_V (As := [.int (nI st), .int (nI (st &&& told)), .int (nI 0)]) hF hK hA hG (c_X10_meet (Q0 := []) ⟨rfl, by decide, fun i q hq => by simp at hq, fun a b ha hb => by rw [hz a ha, lb_0]; rfl⟩ hst (Nat.lt_of_le_of_lt Nat.and_le_right ht) (Nat.zero_le _)) (cwV 3 hF.2.2.2.2 gX10_begin_X10_meet rfl rfl rfl (by decide +kernel) ⟨Nat.le_of_ble_eq_true rfl, Nat.le_of_ble_eq_true rfl⟩) 0 rfl rfl rfl rfl hl.1 rfl (lv_room (Nat.le_of_ble_eq_true rfl)) dX10_begin_32 ⟨Nat.le_of_ble_eq_true rfl, Nat.le_of_ble_eq_true rfl⟩) hG (fun u_32 H locs hp_32 hG => ?_)
        exact hret u_32 _ ls _ _ _ _ (by exact hp_32) hG (Nat.le_of_ble_eq_true rfl) (Nat.le_of_ble_eq_true rfl) dX10_begin_35
      · --
        have n_5 : ¬ (64 ≤ j) := fun q => c_5 ((nI_leI (a := 64) (b := j) (by omega) (by omega)).mpr q)
        refine lv_aload_n hF.1 hF.2.1 dX10_begin_8 rfl (lv_at hl 0 rfl) ?_
        refine k_get (C := RX10) (T := TX10) (N := 6) hF hK hG (fun _ h => List.mem_cons_of_mem _ (List.mem_append_right _ h)) 0 rfl rfl 1 (by decide) (List.mem_of_getElem? (i := 1) rfl) (fun _ h9 => h9) rfl dX10_begin_9 ?_
        refine lv_iload_n hF.1 hF.2.1 dX10_begin_12 rfl (lv_at hl 3 rfl) ?_
        refine lv_lconst (v := 0) hF.1 hF.2.1 dX10_begin_13 (by decide +kernel) ?_
        refine k_lastN hF hK hG 2 rfl (j) rfl (by omega) (by omega) dX10_begin_14 (fun H locs hG => ?_)
        refine lv_iinc (v := (nI (j + 1))) (lv' := [(3, .int (nI (j + 1))), (0, .ref y), (1, .int (nI st)), (2, .int (nI told))]) hF.1 hF.2.1 dX10_begin_15 hl (k := 3) rfl (nI_inc _ _) (by decide) rfl (fun ls hl => ?_)
        refine lv_goto (tgt := 2) hF.1 hF.2.1 dX10_begin_18 (by decide) ?_
        exact ih2 (j + 1) (vp_updL mt j 0) (by omega) (lt_s (fun i hi => by rw [pk_uLn (Nat.ne_of_lt hi)]; exact hz i hi) pk_uLs) (by omega) _ _ hG ls (lv_sub hl [1, 2, 3, 0] rfl)
  exact lp2 _ (0) (mt) (by omega) (fun i hi => absurd hi (Nat.not_lt_zero i)) (Nat.lt_succ_self _) _ _ hG ls (lv_sub hl [1, 2, 3, 0] rfl)
