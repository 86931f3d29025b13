abbrev rmX12_init : Room := { frames := 1, cells := 13, slots := 5058, locals := 24 }
set_option maxHeartbeats 4000000 in
set_option maxRecDepth 100000 in
theorem c_X12_init {l : Launch} {D : va_G} {cA : Nat → ClassId} {A : Nat → Prop}  {w : Nat} : Met l yX12_init wsX12_init rmX12_init (va_Pc [.ref w] (Pre D cA A ([((w, .inr (12, [.null, .null, .null, .null, .null, .null, .null, .null, .null, .null, .int 0, .int 0, .int 0, .int 0, .int 0, .null, .null, .null, .int 0])) : Nat × va_E)]))) (va_Qv (fun _ => True) (fun u t => Wd D A ((fun (ob : Nat → Nat) => MW cA ob (fun _ => 0) (fun _ => 0) (fun _ => 0) (fun _ => 0) (fun _ => 0) (fun _ => 0) (fun _ => 0) (fun _ => 0) (fun _ => 0) (fun _ => 0) (fun _ => 0) (fun _ => 0) (fun _ => 0) 0 0 0 0 0 0) u) t) A) (13) (5058) A := by
  refine k_ofv (S := Nat → Nat) (F := fun (ob : Nat → Nat) => MW cA ob (fun _ => 0) (fun _ => 0) (fun _ => 0) (fun _ => 0) (fun _ => 0) (fun _ => 0) (fun _ => 0) (fun _ => 0) (fun _ => 0) (fun _ => 0) (fun _ => 0) (fun _ => 0) (fun _ => 0) 0 0 0 0 0 0) (cc := cX12_init) (maxL := 1) (by decide) rfl (Nat.le_of_ble_eq_true rfl) ?_
  intro p e s m args below meth c Q hF hini hK hA hG hret ls hl
  have hl : lv_has ls 1 [(0, .ref w)] := hl
  refine lv_aload_n hF.1 hF.2.1 dX12_init_0 rfl (lv_at hl 0 rfl) ?_
  refine W.objInit hF.1 hF.2.1 hF.2.2.2.1 (hF.2.2.2.2 _ (List.mem_of_getElem? (i := 1) rfl)) (hF.2.2.2.2 _ (List.mem_of_getElem? (i := 2) rfl)) (hF.2.2.2.2 _ (List.mem_of_getElem? (i := 3) rfl)) rfl (by rw [hF.2.2.1]; exact hl.1) rfl dX12_init_1 (Nat.le_of_ble_eq_true rfl) (Nat.le_of_ble_eq_true rfl) ?_
  refine W.eq (g2 := F0 m 4 ls []) rfl ?_
  refine lv_aload_n hF.1 hF.2.1 dX12_init_4 rfl (lv_at hl 0 rfl) ?_
  refine lv_bipush (v := (nI 14)) hF.1 hF.2.1 dX12_init_5 (by decide +kernel) ?_
  refine k_newi hF hK hA hG (List.mem_of_getElem? (i := 4) rfl) (N' := 14) rfl (by omega) (Nat.le_of_ble_eq_true rfl) (Nat.le_of_ble_eq_true rfl) dX12_init_7 (fun q1 H hG => ?_)
  refine k_putF (C := RX12) (T := TX12) (N := 19) hF hK hG (fun _ h => List.mem_cons_of_mem _ (List.mem_append_right _ h)) tyX12 tyX12_ok nmX12 0 rfl rfl 0 (by decide) (List.mem_of_getElem? (i := 5) rfl) (fun _ h9 => h9) rfl hini rfl rfl rfl (Nat.le_of_ble_eq_true rfl) dX12_init_9 (fun H locs hG => ?_)
  refine lv_aload_n hF.1 hF.2.1 dX12_init_12 rfl (lv_at hl 0 rfl) ?_
  refine lv_bipush (v := (nI 14)) hF.1 hF.2.1 dX12_init_13 (by decide +kernel) ?_
  refine k_newi hF hK hA hG (List.mem_of_getElem? (i := 4) rfl) (N' := 14) rfl (by omega) (Nat.le_of_ble_eq_true rfl) (Nat.le_of_ble_eq_true rfl) dX12_init_15 (fun q2 H hG => ?_)
  refine k_putF (C := RX12) (T := TX12) (N := 19) hF hK hG (fun _ h => List.mem_cons_of_mem _ (List.mem_append_right _ h)) tyX12 tyX12_ok nmX12 0 rfl rfl 1 (by decide) (List.mem_of_getElem? (i := 6) rfl) (fun _ h9 => h9) rfl hini rfl rfl rfl (Nat.le_of_ble_eq_true rfl) dX12_init_17 (fun H locs hG => ?_)
  refine lv_aload_n hF.1 hF.2.1 dX12_init_20 rfl (lv_at hl 0 rfl) ?_
  refine lv_bipush (v := (nI 14)) hF.1 hF.2.1 dX12_init_21 (by decide +kernel) ?_
  refine k_newi hF hK hA hG (List.mem_of_getElem? (i := 4) rfl) (N' := 14) rfl (by omega) (Nat.le_of_ble_eq_true rfl) (Nat.le_of_ble_eq_true rfl) dX12_init_23 (fun q3 H hG => ?_)
  refine k_putF (C := RX12) (T := TX12) (N := 19) hF hK hG (fun _ h => List.mem_cons_of_mem _ (List.mem_append_right _ h)) tyX12 tyX12_ok nmX12 0 rfl rfl 2 (by decide) (List.mem_of_getElem? (i := 7) rfl) (fun _ h9 => h9) rfl hini rfl rfl rfl (Nat.le_of_ble_eq_true rfl) dX12_init_25 (fun H locs hG => ?_)
  refine lv_aload_n hF.1 hF.2.1 dX12_init_28 rfl (lv_at hl 0 rfl) ?_
  refine lv_bipush (v := (nI 14)) hF.1 hF.2.1 dX12_init_29 (by decide +kernel) ?_
  refine k_newi hF hK hA hG (List.mem_of_getElem? (i := 4) rfl) (N' := 14) rfl (by omega) (Nat.le_of_ble_eq_true rfl) (Nat.le_of_ble_eq_true rfl) dX12_init_31 (fun q4 H hG => ?_)
  refine k_putF (C := RX12) (T := TX12) (N := 19) hF hK hG (fun _ h => List.mem_cons_of_mem _ (List.mem_append_right _ h)) tyX12 tyX12_ok nmX12 0 rfl rfl 3 (by decide) (List.mem_of_getElem? (i := 8) rfl) (fun _ h9 => h9) rfl hini rfl rfl rfl (Nat.le_of_ble_eq_true rfl) dX12_init_33 (fun H locs hG => ?_)
  refine lv_aload_n hF.1 hF.2.1 dX12_init_36 rfl (lv_at hl 0 rfl) ?_
  refine lv_bipush (v := (nI 8)) hF.1 hF.2.1 dX12_init_37 (by decide +kernel) ?_
  refine k_newi hF hK hA hG (List.mem_of_getElem? (i := 4) rfl) (N' := 8) rfl (by omega) (Nat.le_of_ble_eq_true rfl) (Nat.le_of_ble_eq_true rfl) dX12_init_39 (fun q5 H hG => ?_)
  refine k_putF (C := RX12) (T := TX12) (N := 19) hF hK hG (fun _ h => List.mem_cons_of_mem _ (List.mem_append_right _ h)) tyX12 tyX12_ok nmX12 0 rfl rfl 4 (by decide) (List.mem_of_getElem? (i := 9) rfl) (fun _ h9 => h9) rfl hini rfl rfl rfl (Nat.le_of_ble_eq_true rfl) dX12_init_41 (fun H locs hG => ?_)
  refine lv_aload_n hF.1 hF.2.1 dX12_init_44 rfl (lv_at hl 0 rfl) ?_
  refine lv_bipush (v := (nI 8)) hF.1 hF.2.1 dX12_init_45 (by decide +kernel) ?_
  refine k_newi hF hK hA hG (List.mem_of_getElem? (i := 4) rfl) (N' := 8) rfl (by omega) (Nat.le_of_ble_eq_true rfl) (Nat.le_of_ble_eq_true rfl) dX12_init_47 (fun q6 H hG => ?_)
  refine k_putF (C := RX12) (T := TX12) (N := 19) hF hK hG (fun _ h => List.mem_cons_of_mem _ (List.mem_append_right _ h)) tyX12 tyX12_ok nmX12 0 rfl rfl 5 (by decide) (List.mem_of_getElem? (i := 10) rfl) (fun _ h9 => h9) rfl hini rfl rfl rfl (Nat.le_of_ble_eq_true rfl) dX12_init_49 (fun H locs hG => ?_)
  refine lv_aload_n hF.1 hF.2.1 dX12_init_52 rfl (lv_at hl 0 rfl) ?_
  refine lv_bipush (v := (nI 8)) hF.1 hF.2.1 dX12_init_53 (by decide +kernel) ?_
  refine k_newi hF hK hA hG (List.mem_of_getElem? (i := 4) rfl) (N' := 8) rfl (by omega) (Nat.le_of_ble_eq_true rfl) (Nat.le_of_ble_eq_true rfl) dX12_init_55 (fun q7 H hG => ?_)
  refine k_putF (C := RX12) (T := TX12) (N := 19) hF hK hG (fun _ h => List.mem_cons_of_mem _ (List.mem_append_right _ h)) tyX12 tyX12_ok nmX12 0 rfl rfl 6 (by decide) (List.mem_of_getElem? (i := 11) rfl) (fun _ h9 => h9) rfl hini rfl rfl rfl (Nat.le_of_ble_eq_true rfl) dX12_init_57 (fun H locs hG => ?_)
  refine lv_aload_n hF.1 hF.2.1 dX12_init_60 rfl (lv_at hl 0 rfl) ?_
  refine lv_sipush (v := (nI 800)) hF.1 hF.2.1 dX12_init_61 (by decide +kernel) ?_
  refine k_newi hF hK hA hG (List.mem_of_getElem? (i := 4) rfl) (N' := 800) rfl (by omega) (Nat.le_of_ble_eq_true rfl) (Nat.le_of_ble_eq_true rfl) dX12_init_64 (fun q8 H hG => ?_)
  refine k_putF (C := RX12) (T := TX12) (N := 19) hF hK hG (fun _ h => List.mem_cons_of_mem _ (List.mem_append_right _ h)) tyX12 tyX12_ok nmX12 0 rfl rfl 7 (by decide) (List.mem_of_getElem? (i := 12) rfl) (fun _ h9 => h9) rfl hini rfl rfl rfl (Nat.le_of_ble_eq_true rfl) dX12_init_66 (fun H locs hG => ?_)
  refine lv_aload_n hF.1 hF.2.1 dX12_init_69 rfl (lv_at hl 0 rfl) ?_
  refine lv_bipush (v := (nI 8)) hF.1 hF.2.1 dX12_init_70 (by decide +kernel) ?_
  refine k_newi hF hK hA hG (List.mem_of_getElem? (i := 4) rfl) (N' := 8) rfl (by omega) (Nat.le_of_ble_eq_true rfl) (Nat.le_of_ble_eq_true rfl) dX12_init_72 (fun q9 H hG => ?_)
  refine k_putF (C := RX12) (T := TX12) (N := 19) hF hK hG (fun _ h => List.mem_cons_of_mem _ (List.mem_append_right _ h)) tyX12 tyX12_ok nmX12 0 rfl rfl 8 (by decide) (List.mem_of_getElem? (i := 13) rfl) (fun _ h9 => h9) rfl hini rfl rfl rfl (Nat.le_of_ble_eq_true rfl) dX12_init_74 (fun H locs hG => ?_)
  refine lv_aload_n hF.1 hF.2.1 dX12_init_77 rfl (lv_at hl 0 rfl) ?_
  refine lv_bipush (v := (nI 8)) hF.1 hF.2.1 dX12_init_78 (by decide +kernel) ?_
  refine k_newi hF hK hA hG (List.mem_of_getElem? (i := 4) rfl) (N' := 8) rfl (by omega) (Nat.le_of_ble_eq_true rfl) (Nat.le_of_ble_eq_true rfl) dX12_init_80 (fun q10 H hG => ?_)
  refine k_putF (C := RX12) (T := TX12) (N := 19) hF hK hG (fun _ h => List.mem_cons_of_mem _ (List.mem_append_right _ h)) tyX12 tyX12_ok nmX12 0 rfl rfl 9 (by decide) (List.mem_of_getElem? (i := 14) rfl) (fun _ h9 => h9) rfl hini rfl rfl rfl (Nat.le_of_ble_eq_true rfl) dX12_init_82 (fun H locs hG => ?_)
  refine lv_aload_n hF.1 hF.2.1 dX12_init_85 rfl (lv_at hl 0 rfl) ?_
  refine lv_iconst (v := (nI 2)) hF.1 hF.2.1 dX12_init_86 (by decide +kernel) ?_
  refine k_newi hF hK hA hG (List.mem_of_getElem? (i := 4) rfl) (N' := 2) rfl (by omega) (Nat.le_of_ble_eq_true rfl) (Nat.le_of_ble_eq_true rfl) dX12_init_87 (fun q11 H hG => ?_)
  refine k_putF (C := RX12) (T := TX12) (N := 19) hF hK hG (fun _ h => List.mem_cons_of_mem _ (List.mem_append_right _ h)) tyX12 tyX12_ok nmX12 0 rfl rfl 15 (by decide) (List.mem_of_getElem? (i := 15) rfl) (fun _ h9 => h9) rfl hini rfl rfl rfl (Nat.le_of_ble_eq_true rfl) dX12_init_89 (fun H locs hG => ?_)
  refine lv_aload_n hF.1 hF.2.1 dX12_init_92 rfl (lv_at hl 0 rfl) ?_
  refine lv_bipush (v := (nI 64)) hF.1 hF.2.1 dX12_init_93 (by decide +kernel) ?_
  refine k_newi hF hK hA hG (List.mem_of_getElem? (i := 4) rfl) (N' := 64) rfl (by omega) (Nat.le_of_ble_eq_true rfl) (Nat.le_of_ble_eq_true rfl) dX12_init_95 (fun q12 H hG => ?_)
  refine k_putF (C := RX12) (T := TX12) (N := 19) hF hK hG (fun _ h => List.mem_cons_of_mem _ (List.mem_append_right _ h)) tyX12 tyX12_ok nmX12 0 rfl rfl 16 (by decide) (List.mem_of_getElem? (i := 16) rfl) (fun _ h9 => h9) rfl hini rfl rfl rfl (Nat.le_of_ble_eq_true rfl) dX12_init_97 (fun H locs hG => ?_)
  refine lv_aload_n hF.1 hF.2.1 dX12_init_100 rfl (lv_at hl 0 rfl) ?_
  refine lv_sipush (v := (nI 4096)) hF.1 hF.2.1 dX12_init_101 (by decide +kernel) ?_
  refine k_newi hF hK hA hG (List.mem_of_getElem? (i := 4) rfl) (N' := 4096) rfl (by omega) (Nat.le_of_ble_eq_true rfl) (Nat.le_of_ble_eq_true rfl) dX12_init_104 (fun q13 H hG => ?_)
  refine k_putF (C := RX12) (T := TX12) (N := 19) hF hK hG (fun _ h => List.mem_cons_of_mem _ (List.mem_append_right _ h)) tyX12 tyX12_ok nmX12 0 rfl rfl 17 (by decide) (List.mem_of_getElem? (i := 17) rfl) (fun _ h9 => h9) rfl hini rfl rfl rfl (Nat.le_of_ble_eq_true rfl) dX12_init_106 (fun H locs hG => ?_)
  exact hret (fun k => ([w, q1, q2, q3, q4, q5, q6, q7, q8, q9, q10, q11, q12, q13] : List Nat).getD k 0) _ ls _ _ _ _ (by trivial) hG (Nat.le_of_ble_eq_true rfl) (Nat.le_of_ble_eq_true rfl) dX12_init_109
