set_option maxHeartbeats 1000000 in
set_option maxRecDepth 100000 in
theorem c_X2_init (l : Launch) (D : va_G) (g : jk_G) (q0 : Nat) : jk_C l D g jk_noZ yX2_init wsX2_init 1 12 6 59 [.ref q0] [(q0, .inr (2, [.null, .null, .null, .null, .null, .null, .int 0, .int 0, .int 0, .int 0, .int 0, .int 0, .int 0]))] none (fun o : Nat → Nat => jm_W g (jn_ad q0 o) jm_0) := by
  refine jk_ofC (cc := cX2_init) (maxL := 1) (ret := none) (by decide +kernel) rfl (Nat.le_of_ble_eq_true rfl) ?_
  intro pp e s m args below meth c hx hb hr hml hts hown hlocks hin hK hN A H locs hZ hsH hP hD hA hS ls hl
  have hown : s.vm.findClass RX2 = some m.cls := hown
  have hin := hin rfl
  have hl : lv_has ls 1 [(0, .ref q0)] := hl
  have hP : va_P D vwCl [(q0, .inr (2, [.null, .null, .null, .null, .null, .null, .int 0, .int 0, .int 0, .int 0, .int 0, .int 0, .int 0]))] H := hP
  have hD : va_D A [(q0, .inr (2, [.null, .null, .null, .null, .null, .null, .int 0, .int 0, .int 0, .int 0, .int 0, .int 0, .int 0]))] := hD
  refine lv_aload_n hx hb dX2_init_0 rfl (lv_at hl 0 rfl) ?_
  refine W.objInit hx hb hown (hts (.methodLink RX2 3 objectInit) (by decide +kernel)) (hts (.instanceMethod objectInit) (by decide +kernel)) (hts (.code objectInit ⟨#[0xb1]⟩ 1 none) (by exact List.mem_of_getElem? (i := 3) rfl)) rfl (by rw [hml]; exact hl.1) rfl dX2_init_1 (Nat.le_of_ble_eq_true rfl) (Nat.le_of_ble_eq_true rfl) ?_
  refine W.eq (g2 := F0 m 4 ls []) rfl ?_
  refine lv_aload_n hx hb dX2_init_4 rfl (lv_at hl 0 rfl) ?_
  refine lv_iconst (v := 5) hx hb dX2_init_5 (by decide) ?_
  refine jk_newi hx hb (hts (.arrayClass .int) (by decide +kernel)) hK hP hD hS hA (by decide) (N' := 5) (by decide) (Nat.le_of_ble_eq_true rfl) (Nat.le_of_ble_eq_true rfl) (Nat.le_of_ble_eq_true rfl) dX2_init_6 (fun q1 H hP hD hS => ?_)
  have hP : va_P D vwCl [(q0, .inr (2, [.null, .null, .null, .null, .null, .null, .int 0, .int 0, .int 0, .int 0, .int 0, .int 0, .int 0])), (q1, .inl (g.1, 5, .inl (fun _ => 0)))] H := hP
  have hD : va_D A [(q0, .inr (2, [.null, .null, .null, .null, .null, .null, .int 0, .int 0, .int 0, .int 0, .int 0, .int 0, .int 0])), (q1, .inl (g.1, 5, .inl (fun _ => 0)))] := hD
  refine lv_dup hx hb dX2_init_8 rfl ?_
  refine lv_iconst (v := 0) hx hb dX2_init_9 (by decide) ?_
  refine lv_bipush (v := 12) hx hb dX2_init_10 (by decide) ?_
  refine va_iast (f := (fun _ => 0)) hx hb hK hP hD hS 1 0 rfl rfl (jk_inC (by decide +kernel)) dX2_init_12 (fun H locs hP hD hS => ?_)
  have hP : va_P D vwCl [(q0, .inr (2, [.null, .null, .null, .null, .null, .null, .int 0, .int 0, .int 0, .int 0, .int 0, .int 0, .int 0])), (q1, .inl (g.1, 5, .inl (upd (fun _ => 0) 0 12)))] H := hP
  have hD : va_D A [(q0, .inr (2, [.null, .null, .null, .null, .null, .null, .int 0, .int 0, .int 0, .int 0, .int 0, .int 0, .int 0])), (q1, .inl (g.1, 5, .inl (upd (fun _ => 0) 0 12)))] := hD
  refine lv_dup hx hb dX2_init_13 rfl ?_
  refine lv_iconst (v := 1) hx hb dX2_init_14 (by decide) ?_
  refine lv_iconst (v := 2) hx hb dX2_init_15 (by decide) ?_
  refine va_iast (f := (upd (fun _ => 0) 0 12)) hx hb hK hP hD hS 1 0 rfl rfl (jk_inC (by decide +kernel)) dX2_init_16 (fun H locs hP hD hS => ?_)
  have hP : va_P D vwCl [(q0, .inr (2, [.null, .null, .null, .null, .null, .null, .int 0, .int 0, .int 0, .int 0, .int 0, .int 0, .int 0])), (q1, .inl (g.1, 5, .inl (upd (upd (fun _ => 0) 0 12) 1 2)))] H := hP
  have hD : va_D A [(q0, .inr (2, [.null, .null, .null, .null, .null, .null, .int 0, .int 0, .int 0, .int 0, .int 0, .int 0, .int 0])), (q1, .inl (g.1, 5, .inl (upd (upd (fun _ => 0) 0 12) 1 2)))] := hD
  refine lv_dup hx hb dX2_init_17 rfl ?_
  refine lv_iconst (v := 2) hx hb dX2_init_18 (by decide) ?_
  refine lv_bipush (v := 30) hx hb dX2_init_19 (by decide) ?_
  refine va_iast (f := (upd (upd (fun _ => 0) 0 12) 1 2)) hx hb hK hP hD hS 1 0 rfl rfl (jk_inC (by decide +kernel)) dX2_init_21 (fun H locs hP hD hS => ?_)
  have hP : va_P D vwCl [(q0, .inr (2, [.null, .null, .null, .null, .null, .null, .int 0, .int 0, .int 0, .int 0, .int 0, .int 0, .int 0])), (q1, .inl (g.1, 5, .inl (upd (upd (upd (fun _ => 0) 0 12) 1 2) 2 30)))] H := hP
  have hD : va_D A [(q0, .inr (2, [.null, .null, .null, .null, .null, .null, .int 0, .int 0, .int 0, .int 0, .int 0, .int 0, .int 0])), (q1, .inl (g.1, 5, .inl (upd (upd (upd (fun _ => 0) 0 12) 1 2) 2 30)))] := hD
  refine lv_dup hx hb dX2_init_22 rfl ?_
  refine lv_iconst (v := 3) hx hb dX2_init_23 (by decide) ?_
  refine lv_bipush (v := 20) hx hb dX2_init_24 (by decide) ?_
  refine va_iast (f := (upd (upd (upd (fun _ => 0) 0 12) 1 2) 2 30)) hx hb hK hP hD hS 1 0 rfl rfl (jk_inC (by decide +kernel)) dX2_init_26 (fun H locs hP hD hS => ?_)
  have hP : va_P D vwCl [(q0, .inr (2, [.null, .null, .null, .null, .null, .null, .int 0, .int 0, .int 0, .int 0, .int 0, .int 0, .int 0])), (q1, .inl (g.1, 5, .inl (upd (upd (upd (upd (fun _ => 0) 0 12) 1 2) 2 30) 3 20)))] H := hP
  have hD : va_D A [(q0, .inr (2, [.null, .null, .null, .null, .null, .null, .int 0, .int 0, .int 0, .int 0, .int 0, .int 0, .int 0])), (q1, .inl (g.1, 5, .inl (upd (upd (upd (upd (fun _ => 0) 0 12) 1 2) 2 30) 3 20)))] := hD
  refine lv_dup hx hb dX2_init_27 rfl ?_
  refine lv_iconst (v := 4) hx hb dX2_init_28 (by decide) ?_
  refine lv_sipush (v := 1000) hx hb dX2_init_29 (by decide) ?_
  refine va_iast (f := (upd (upd (upd (upd (fun _ => 0) 0 12) 1 2) 2 30) 3 20)) hx hb hK hP hD hS 1 0 rfl rfl (jk_inC (by decide +kernel)) dX2_init_32 (fun H locs hP hD hS => ?_)
  have hP : va_P D vwCl [(q0, .inr (2, [.null, .null, .null, .null, .null, .null, .int 0, .int 0, .int 0, .int 0, .int 0, .int 0, .int 0])), (q1, .inl (g.1, 5, .inl (upd (upd (upd (upd (upd (fun _ => 0) 0 12) 1 2) 2 30) 3 20) 4 1000)))] H := hP
  have hD : va_D A [(q0, .inr (2, [.null, .null, .null, .null, .null, .null, .int 0, .int 0, .int 0, .int 0, .int 0, .int 0, .int 0])), (q1, .inl (g.1, 5, .inl (upd (upd (upd (upd (upd (fun _ => 0) 0 12) 1 2) 2 30) 3 20) 4 1000)))] := hD
  refine va_putF (D := D) (ci := 2) (v := .ref q1) (ty := tyX2 0) (C := RX2) (T := TX2) (N := 13) hx hb hts (by decide +kernel) tyX2 tyX2_ok nmX2 hown hK hP hD hS 0 rfl rfl 0 (by decide) (hts (.fieldLink RX2 9 "InfluenceJars$Machine" "settings" "[I") (by decide +kernel)) (fun _ h9 => h9) rfl hin rfl (by decide +kernel) rfl rfl (Nat.le_of_ble_eq_true rfl) dX2_init_33 (fun H locs hP hD hS => ?_)
  have hP : va_P D vwCl [(q0, .inr (2, [.ref q1, .null, .null, .null, .null, .null, .int 0, .int 0, .int 0, .int 0, .int 0, .int 0, .int 0])), (q1, .inl (g.1, 5, .inl (upd (upd (upd (upd (upd (fun _ => 0) 0 12) 1 2) 2 30) 3 20) 4 1000)))] H := hP
  have hD : va_D A [(q0, .inr (2, [.ref q1, .null, .null, .null, .null, .null, .int 0, .int 0, .int 0, .int 0, .int 0, .int 0, .int 0])), (q1, .inl (g.1, 5, .inl (upd (upd (upd (upd (upd (fun _ => 0) 0 12) 1 2) 2 30) 3 20) 4 1000)))] := hD
  refine lv_aload_n hx hb dX2_init_36 rfl (lv_at hl 0 rfl) ?_
  refine lv_bipush (v := 24) hx hb dX2_init_37 (by decide) ?_
  refine jk_newi hx hb (hts (.arrayClass .int) (by decide +kernel)) hK hP hD hS hA (by decide) (N' := 24) (by decide) (Nat.le_of_ble_eq_true rfl) (Nat.le_of_ble_eq_true rfl) (Nat.le_of_ble_eq_true rfl) dX2_init_39 (fun q2 H hP hD hS => ?_)
  have hP : va_P D vwCl [(q0, .inr (2, [.ref q1, .null, .null, .null, .null, .null, .int 0, .int 0, .int 0, .int 0, .int 0, .int 0, .int 0])), (q1, .inl (g.1, 5, .inl (upd (upd (upd (upd (upd (fun _ => 0) 0 12) 1 2) 2 30) 3 20) 4 1000))), (q2, .inl (g.1, 24, .inl (fun _ => 0)))] H := hP
  have hD : va_D A [(q0, .inr (2, [.ref q1, .null, .null, .null, .null, .null, .int 0, .int 0, .int 0, .int 0, .int 0, .int 0, .int 0])), (q1, .inl (g.1, 5, .inl (upd (upd (upd (upd (upd (fun _ => 0) 0 12) 1 2) 2 30) 3 20) 4 1000))), (q2, .inl (g.1, 24, .inl (fun _ => 0)))] := hD
  refine va_putF (D := D) (ci := 2) (v := .ref q2) (ty := tyX2 1) (C := RX2) (T := TX2) (N := 13) hx hb hts (by decide +kernel) tyX2 tyX2_ok nmX2 hown hK hP hD hS 0 rfl rfl 1 (by decide) (hts (.fieldLink RX2 15 "InfluenceJars$Machine" "charges" "[I") (by decide +kernel)) (fun _ h9 => h9) rfl hin rfl (by decide +kernel) rfl rfl (Nat.le_of_ble_eq_true rfl) dX2_init_41 (fun H locs hP hD hS => ?_)
  have hP : va_P D vwCl [(q0, .inr (2, [.ref q1, .ref q2, .null, .null, .null, .null, .int 0, .int 0, .int 0, .int 0, .int 0, .int 0, .int 0])), (q1, .inl (g.1, 5, .inl (upd (upd (upd (upd (upd (fun _ => 0) 0 12) 1 2) 2 30) 3 20) 4 1000))), (q2, .inl (g.1, 24, .inl (fun _ => 0)))] H := hP
  have hD : va_D A [(q0, .inr (2, [.ref q1, .ref q2, .null, .null, .null, .null, .int 0, .int 0, .int 0, .int 0, .int 0, .int 0, .int 0])), (q1, .inl (g.1, 5, .inl (upd (upd (upd (upd (upd (fun _ => 0) 0 12) 1 2) 2 30) 3 20) 4 1000))), (q2, .inl (g.1, 24, .inl (fun _ => 0)))] := hD
  refine lv_aload_n hx hb dX2_init_44 rfl (lv_at hl 0 rfl) ?_
  refine lv_iconst (v := 2) hx hb dX2_init_45 (by decide) ?_
  refine jk_newi hx hb (hts (.arrayClass .int) (by decide +kernel)) hK hP hD hS hA (by decide) (N' := 2) (by decide) (Nat.le_of_ble_eq_true rfl) (Nat.le_of_ble_eq_true rfl) (Nat.le_of_ble_eq_true rfl) dX2_init_46 (fun q3 H hP hD hS => ?_)
  have hP : va_P D vwCl [(q0, .inr (2, [.ref q1, .ref q2, .null, .null, .null, .null, .int 0, .int 0, .int 0, .int 0, .int 0, .int 0, .int 0])), (q1, .inl (g.1, 5, .inl (upd (upd (upd (upd (upd (fun _ => 0) 0 12) 1 2) 2 30) 3 20) 4 1000))), (q2, .inl (g.1, 24, .inl (fun _ => 0))), (q3, .inl (g.1, 2, .inl (fun _ => 0)))] H := hP
  have hD : va_D A [(q0, .inr (2, [.ref q1, .ref q2, .null, .null, .null, .null, .int 0, .int 0, .int 0, .int 0, .int 0, .int 0, .int 0])), (q1, .inl (g.1, 5, .inl (upd (upd (upd (upd (upd (fun _ => 0) 0 12) 1 2) 2 30) 3 20) 4 1000))), (q2, .inl (g.1, 24, .inl (fun _ => 0))), (q3, .inl (g.1, 2, .inl (fun _ => 0)))] := hD
  refine va_putF (D := D) (ci := 2) (v := .ref q3) (ty := tyX2 2) (C := RX2) (T := TX2) (N := 13) hx hb hts (by decide +kernel) tyX2 tyX2_ok nmX2 hown hK hP hD hS 0 rfl rfl 2 (by decide) (hts (.fieldLink RX2 18 "InfluenceJars$Machine" "jars" "[I") (by decide +kernel)) (fun _ h9 => h9) rfl hin rfl (by decide +kernel) rfl rfl (Nat.le_of_ble_eq_true rfl) dX2_init_48 (fun H locs hP hD hS => ?_)
  have hP : va_P D vwCl [(q0, .inr (2, [.ref q1, .ref q2, .ref q3, .null, .null, .null, .int 0, .int 0, .int 0, .int 0, .int 0, .int 0, .int 0])), (q1, .inl (g.1, 5, .inl (upd (upd (upd (upd (upd (fun _ => 0) 0 12) 1 2) 2 30) 3 20) 4 1000))), (q2, .inl (g.1, 24, .inl (fun _ => 0))), (q3, .inl (g.1, 2, .inl (fun _ => 0)))] H := hP
  have hD : va_D A [(q0, .inr (2, [.ref q1, .ref q2, .ref q3, .null, .null, .null, .int 0, .int 0, .int 0, .int 0, .int 0, .int 0, .int 0])), (q1, .inl (g.1, 5, .inl (upd (upd (upd (upd (upd (fun _ => 0) 0 12) 1 2) 2 30) 3 20) 4 1000))), (q2, .inl (g.1, 24, .inl (fun _ => 0))), (q3, .inl (g.1, 2, .inl (fun _ => 0)))] := hD
  refine lv_aload_n hx hb dX2_init_51 rfl (lv_at hl 0 rfl) ?_
  refine lv_iconst (v := 2) hx hb dX2_init_52 (by decide) ?_
  refine jk_newi hx hb (hts (.arrayClass .int) (by decide +kernel)) hK hP hD hS hA (by decide) (N' := 2) (by decide) (Nat.le_of_ble_eq_true rfl) (Nat.le_of_ble_eq_true rfl) (Nat.le_of_ble_eq_true rfl) dX2_init_53 (fun q4 H hP hD hS => ?_)
  have hP : va_P D vwCl [(q0, .inr (2, [.ref q1, .ref q2, .ref q3, .null, .null, .null, .int 0, .int 0, .int 0, .int 0, .int 0, .int 0, .int 0])), (q1, .inl (g.1, 5, .inl (upd (upd (upd (upd (upd (fun _ => 0) 0 12) 1 2) 2 30) 3 20) 4 1000))), (q2, .inl (g.1, 24, .inl (fun _ => 0))), (q3, .inl (g.1, 2, .inl (fun _ => 0))), (q4, .inl (g.1, 2, .inl (fun _ => 0)))] H := hP
  have hD : va_D A [(q0, .inr (2, [.ref q1, .ref q2, .ref q3, .null, .null, .null, .int 0, .int 0, .int 0, .int 0, .int 0, .int 0, .int 0])), (q1, .inl (g.1, 5, .inl (upd (upd (upd (upd (upd (fun _ => 0) 0 12) 1 2) 2 30) 3 20) 4 1000))), (q2, .inl (g.1, 24, .inl (fun _ => 0))), (q3, .inl (g.1, 2, .inl (fun _ => 0))), (q4, .inl (g.1, 2, .inl (fun _ => 0)))] := hD
  refine va_putF (D := D) (ci := 2) (v := .ref q4) (ty := tyX2 3) (C := RX2) (T := TX2) (N := 13) hx hb hts (by decide +kernel) tyX2 tyX2_ok nmX2 hown hK hP hD hS 0 rfl rfl 3 (by decide) (hts (.fieldLink RX2 21 "InfluenceJars$Machine" "taken" "[I") (by decide +kernel)) (fun _ h9 => h9) rfl hin rfl (by decide +kernel) rfl rfl (Nat.le_of_ble_eq_true rfl) dX2_init_55 (fun H locs hP hD hS => ?_)
  have hP : va_P D vwCl [(q0, .inr (2, [.ref q1, .ref q2, .ref q3, .ref q4, .null, .null, .int 0, .int 0, .int 0, .int 0, .int 0, .int 0, .int 0])), (q1, .inl (g.1, 5, .inl (upd (upd (upd (upd (upd (fun _ => 0) 0 12) 1 2) 2 30) 3 20) 4 1000))), (q2, .inl (g.1, 24, .inl (fun _ => 0))), (q3, .inl (g.1, 2, .inl (fun _ => 0))), (q4, .inl (g.1, 2, .inl (fun _ => 0)))] H := hP
  have hD : va_D A [(q0, .inr (2, [.ref q1, .ref q2, .ref q3, .ref q4, .null, .null, .int 0, .int 0, .int 0, .int 0, .int 0, .int 0, .int 0])), (q1, .inl (g.1, 5, .inl (upd (upd (upd (upd (upd (fun _ => 0) 0 12) 1 2) 2 30) 3 20) 4 1000))), (q2, .inl (g.1, 24, .inl (fun _ => 0))), (q3, .inl (g.1, 2, .inl (fun _ => 0))), (q4, .inl (g.1, 2, .inl (fun _ => 0)))] := hD
  refine lv_aload_n hx hb dX2_init_58 rfl (lv_at hl 0 rfl) ?_
  refine lv_iconst (v := 2) hx hb dX2_init_59 (by decide) ?_
  refine jk_newi hx hb (hts (.arrayClass .int) (by decide +kernel)) hK hP hD hS hA (by decide) (N' := 2) (by decide) (Nat.le_of_ble_eq_true rfl) (Nat.le_of_ble_eq_true rfl) (Nat.le_of_ble_eq_true rfl) dX2_init_60 (fun q5 H hP hD hS => ?_)
  have hP : va_P D vwCl [(q0, .inr (2, [.ref q1, .ref q2, .ref q3, .ref q4, .null, .null, .int 0, .int 0, .int 0, .int 0, .int 0, .int 0, .int 0])), (q1, .inl (g.1, 5, .inl (upd (upd (upd (upd (upd (fun _ => 0) 0 12) 1 2) 2 30) 3 20) 4 1000))), (q2, .inl (g.1, 24, .inl (fun _ => 0))), (q3, .inl (g.1, 2, .inl (fun _ => 0))), (q4, .inl (g.1, 2, .inl (fun _ => 0))), (q5, .inl (g.1, 2, .inl (fun _ => 0)))] H := hP
  have hD : va_D A [(q0, .inr (2, [.ref q1, .ref q2, .ref q3, .ref q4, .null, .null, .int 0, .int 0, .int 0, .int 0, .int 0, .int 0, .int 0])), (q1, .inl (g.1, 5, .inl (upd (upd (upd (upd (upd (fun _ => 0) 0 12) 1 2) 2 30) 3 20) 4 1000))), (q2, .inl (g.1, 24, .inl (fun _ => 0))), (q3, .inl (g.1, 2, .inl (fun _ => 0))), (q4, .inl (g.1, 2, .inl (fun _ => 0))), (q5, .inl (g.1, 2, .inl (fun _ => 0)))] := hD
  refine va_putF (D := D) (ci := 2) (v := .ref q5) (ty := tyX2 4) (C := RX2) (T := TX2) (N := 13) hx hb hts (by decide +kernel) tyX2 tyX2_ok nmX2 hown hK hP hD hS 0 rfl rfl 4 (by decide) (hts (.fieldLink RX2 24 "InfluenceJars$Machine" "leakedOfJar" "[I") (by decide +kernel)) (fun _ h9 => h9) rfl hin rfl (by decide +kernel) rfl rfl (Nat.le_of_ble_eq_true rfl) dX2_init_62 (fun H locs hP hD hS => ?_)
  have hP : va_P D vwCl [(q0, .inr (2, [.ref q1, .ref q2, .ref q3, .ref q4, .ref q5, .null, .int 0, .int 0, .int 0, .int 0, .int 0, .int 0, .int 0])), (q1, .inl (g.1, 5, .inl (upd (upd (upd (upd (upd (fun _ => 0) 0 12) 1 2) 2 30) 3 20) 4 1000))), (q2, .inl (g.1, 24, .inl (fun _ => 0))), (q3, .inl (g.1, 2, .inl (fun _ => 0))), (q4, .inl (g.1, 2, .inl (fun _ => 0))), (q5, .inl (g.1, 2, .inl (fun _ => 0)))] H := hP
  have hD : va_D A [(q0, .inr (2, [.ref q1, .ref q2, .ref q3, .ref q4, .ref q5, .null, .int 0, .int 0, .int 0, .int 0, .int 0, .int 0, .int 0])), (q1, .inl (g.1, 5, .inl (upd (upd (upd (upd (upd (fun _ => 0) 0 12) 1 2) 2 30) 3 20) 4 1000))), (q2, .inl (g.1, 24, .inl (fun _ => 0))), (q3, .inl (g.1, 2, .inl (fun _ => 0))), (q4, .inl (g.1, 2, .inl (fun _ => 0))), (q5, .inl (g.1, 2, .inl (fun _ => 0)))] := hD
  refine lv_aload_n hx hb dX2_init_65 rfl (lv_at hl 0 rfl) ?_
  refine lv_bipush (v := 24) hx hb dX2_init_66 (by decide) ?_
  refine jk_newi hx hb (hts (.arrayClass .int) (by decide +kernel)) hK hP hD hS hA (by decide) (N' := 24) (by decide) (Nat.le_of_ble_eq_true rfl) (Nat.le_of_ble_eq_true rfl) (Nat.le_of_ble_eq_true rfl) dX2_init_68 (fun q6 H hP hD hS => ?_)
  have hP : va_P D vwCl [(q0, .inr (2, [.ref q1, .ref q2, .ref q3, .ref q4, .ref q5, .null, .int 0, .int 0, .int 0, .int 0, .int 0, .int 0, .int 0])), (q1, .inl (g.1, 5, .inl (upd (upd (upd (upd (upd (fun _ => 0) 0 12) 1 2) 2 30) 3 20) 4 1000))), (q2, .inl (g.1, 24, .inl (fun _ => 0))), (q3, .inl (g.1, 2, .inl (fun _ => 0))), (q4, .inl (g.1, 2, .inl (fun _ => 0))), (q5, .inl (g.1, 2, .inl (fun _ => 0))), (q6, .inl (g.1, 24, .inl (fun _ => 0)))] H := hP
  have hD : va_D A [(q0, .inr (2, [.ref q1, .ref q2, .ref q3, .ref q4, .ref q5, .null, .int 0, .int 0, .int 0, .int 0, .int 0, .int 0, .int 0])), (q1, .inl (g.1, 5, .inl (upd (upd (upd (upd (upd (fun _ => 0) 0 12) 1 2) 2 30) 3 20) 4 1000))), (q2, .inl (g.1, 24, .inl (fun _ => 0))), (q3, .inl (g.1, 2, .inl (fun _ => 0))), (q4, .inl (g.1, 2, .inl (fun _ => 0))), (q5, .inl (g.1, 2, .inl (fun _ => 0))), (q6, .inl (g.1, 24, .inl (fun _ => 0)))] := hD
  refine va_putF (D := D) (ci := 2) (v := .ref q6) (ty := tyX2 5) (C := RX2) (T := TX2) (N := 13) hx hb hts (by decide +kernel) tyX2 tyX2_ok nmX2 hown hK hP hD hS 0 rfl rfl 5 (by decide) (hts (.fieldLink RX2 27 "InfluenceJars$Machine" "sparkLog" "[I") (by decide +kernel)) (fun _ h9 => h9) rfl hin rfl (by decide +kernel) rfl rfl (Nat.le_of_ble_eq_true rfl) dX2_init_70 (fun H locs hP hD hS => ?_)
  have hP : va_P D vwCl [(q0, .inr (2, [.ref q1, .ref q2, .ref q3, .ref q4, .ref q5, .ref q6, .int 0, .int 0, .int 0, .int 0, .int 0, .int 0, .int 0])), (q1, .inl (g.1, 5, .inl (upd (upd (upd (upd (upd (fun _ => 0) 0 12) 1 2) 2 30) 3 20) 4 1000))), (q2, .inl (g.1, 24, .inl (fun _ => 0))), (q3, .inl (g.1, 2, .inl (fun _ => 0))), (q4, .inl (g.1, 2, .inl (fun _ => 0))), (q5, .inl (g.1, 2, .inl (fun _ => 0))), (q6, .inl (g.1, 24, .inl (fun _ => 0)))] H := hP
  have hD : va_D A [(q0, .inr (2, [.ref q1, .ref q2, .ref q3, .ref q4, .ref q5, .ref q6, .int 0, .int 0, .int 0, .int 0, .int 0, .int 0, .int 0])), (q1, .inl (g.1, 5, .inl (upd (upd (upd (upd (upd (fun _ => 0) 0 12) 1 2) 2 30) 3 20) 4 1000))), (q2, .inl (g.1, 24, .inl (fun _ => 0))), (q3, .inl (g.1, 2, .inl (fun _ => 0))), (q4, .inl (g.1, 2, .inl (fun _ => 0))), (q5, .inl (g.1, 2, .inl (fun _ => 0))), (q6, .inl (g.1, 24, .inl (fun _ => 0)))] := hD
  exact jk_vretC (jn_l [q1, q2, q3, q4, q5, q6]) hx hb hr hlocks hP hD hS (Nat.le_of_ble_eq_true rfl) (Nat.le_of_ble_eq_true rfl) rfl dX2_init_73

set_option maxHeartbeats 1000000 in
set_option maxRecDepth 100000 in
theorem c_X3_init (l : Launch) (D : va_G) (g : jk_G) (q0 : Nat) : jk_C l D g jk_noZ yX3_init wsX3_init 1 12 1 60 [.ref q0] [(q0, .inr (3, [.null, .int 0]))] none (fun o : Nat → Nat => jp_W g (jn_ad q0 o) jp_0) := by
  refine jk_ofC (cc := cX3_init) (maxL := 1) (ret := none) (by decide +kernel) rfl (Nat.le_of_ble_eq_true rfl) ?_
  intro pp e s m args below meth c hx hb hr hml hts hown hlocks hin hK hN A H locs hZ hsH hP hD hA hS ls hl
  have hown : s.vm.findClass RX3 = some m.cls := hown
  have hin := hin rfl
  have hl : lv_has ls 1 [(0, .ref q0)] := hl
  have hP : va_P D vwCl [(q0, .inr (3, [.null, .int 0]))] H := hP
  have hD : va_D A [(q0, .inr (3, [.null, .int 0]))] := hD
  refine lv_aload_n hx hb dX3_init_0 rfl (lv_at hl 0 rfl) ?_
  refine W.objInit hx hb hown (hts (.methodLink RX3 3 objectInit) (by decide +kernel)) (hts (.instanceMethod objectInit) (by decide +kernel)) (hts (.code objectInit ⟨#[0xb1]⟩ 1 none) (by exact List.mem_of_getElem? (i := 3) rfl)) rfl (by rw [hml]; exact hl.1) rfl dX3_init_1 (Nat.le_of_ble_eq_true rfl) (Nat.le_of_ble_eq_true rfl) ?_
  refine W.eq (g2 := F0 m 4 ls []) rfl ?_
  refine lv_aload_n hx hb dX3_init_4 rfl (lv_at hl 0 rfl) ?_
  refine lv_bipush (v := 60) hx hb dX3_init_5 (by decide) ?_
  refine jk_newc hx hb (hts (.arrayClass .char) (by decide +kernel)) hK hP hD hS hA (by decide) (N' := 60) (by decide) (Nat.le_of_ble_eq_true rfl) (Nat.le_of_ble_eq_true rfl) (Nat.le_of_ble_eq_true rfl) dX3_init_7 (fun q1 H hP hD hS => ?_)
  have hP : va_P D vwCl [(q0, .inr (3, [.null, .int 0])), (q1, .inl (g.2.1, 60, .inl (fun _ => 0)))] H := hP
  have hD : va_D A [(q0, .inr (3, [.null, .int 0])), (q1, .inl (g.2.1, 60, .inl (fun _ => 0)))] := hD
  refine va_putF (D := D) (ci := 3) (v := .ref q1) (ty := tyX3 0) (C := RX3) (T := TX3) (N := 2) hx hb hts (by decide +kernel) tyX3 tyX3_ok nmX3 hown hK hP hD hS 0 rfl rfl 0 (by decide) (hts (.fieldLink RX3 9 "InfluenceJars$Pad" "signs" "[C") (by decide +kernel)) (fun _ h9 => h9) rfl hin rfl (by decide +kernel) rfl rfl (Nat.le_of_ble_eq_true rfl) dX3_init_9 (fun H locs hP hD hS => ?_)
  have hP : va_P D vwCl [(q0, .inr (3, [.ref q1, .int 0])), (q1, .inl (g.2.1, 60, .inl (fun _ => 0)))] H := hP
  have hD : va_D A [(q0, .inr (3, [.ref q1, .int 0])), (q1, .inl (g.2.1, 60, .inl (fun _ => 0)))] := hD
  exact jk_vretC (jn_l [q1]) hx hb hr hlocks hP hD hS (Nat.le_of_ble_eq_true rfl) (Nat.le_of_ble_eq_true rfl) rfl dX3_init_12

set_option maxHeartbeats 1000000 in
set_option maxRecDepth 100000 in
theorem c_X0_init (l : Launch) (D : va_G) (g : jk_G) (q0 : Nat) : jk_C l D g jk_noZ yX0_init wsX0_init 2 32 2 62 [.ref q0] [(q0, .inr (0, [.null, .int 0, .int 0, .int 0, .int 0, .int 0]))] none (fun o : Nat → Nat => List.flatten [jd_X g (fun _ => q0) (o 0) jd_0, jp_W g o jp_0]) := by
  refine jk_ofC (cc := cX0_init) (maxL := 1) (ret := none) (by decide +kernel) rfl (Nat.le_of_ble_eq_true rfl) ?_
  intro pp e s m args below meth c hx hb hr hml hts hown hlocks hin hK hN A H locs hZ hsH hP hD hA hS ls hl
  have hown : s.vm.findClass RX0 = some m.cls := hown
  have hin := hin rfl
  have hl : lv_has ls 1 [(0, .ref q0)] := hl
  have hP : va_P D vwCl [(q0, .inr (0, [.null, .int 0, .int 0, .int 0, .int 0, .int 0]))] H := hP
  have hD : va_D A [(q0, .inr (0, [.null, .int 0, .int 0, .int 0, .int 0, .int 0]))] := hD
  refine lv_aload_n hx hb dX0_init_0 rfl (lv_at hl 0 rfl) ?_
  refine W.objInit hx hb hown (hts (.methodLink RX0 3 objectInit) (by decide +kernel)) (hts (.instanceMethod objectInit) (by decide +kernel)) (hts (.code objectInit ⟨#[0xb1]⟩ 1 none) (by exact List.mem_of_getElem? (i := 3) rfl)) rfl (by rw [hml]; exact hl.1) rfl dX0_init_1 (Nat.le_of_ble_eq_true rfl) (Nat.le_of_ble_eq_true rfl) ?_
  refine W.eq (g2 := F0 m 4 ls []) rfl ?_
  refine lv_aload_n hx hb dX0_init_4 rfl (lv_at hl 0 rfl) ?_
  refine va_new (ci := 3) (fs := [.null, .int 0]) (C := RX3) (T := TX3) (N := 2) hx hb hts (by decide +kernel) tyX3 tyX3_ok hown (hts (.classLink RX0 9 RX3) (by decide +kernel)) (hts (.instantiable RX3 2) (by decide +kernel)) (hts (.initialized RX3) (by decide +kernel)) hK hP hD hS hA rfl (fun j hj => by rcases (show j = 0 ∨ j = 1 by omega) with rfl | rfl <;> rfl) (Nat.le_of_ble_eq_true rfl) (Nat.le_of_ble_eq_true rfl) dX0_init_5 (fun q1 H hP hD hS => ?_)
  have hP : va_P D vwCl [(q0, .inr (0, [.null, .int 0, .int 0, .int 0, .int 0, .int 0])), (q1, .inr (3, [.null, .int 0]))] H := hP
  have hD : va_D A [(q0, .inr (0, [.null, .int 0, .int 0, .int 0, .int 0, .int 0])), (q1, .inr (3, [.null, .int 0]))] := hD
  refine lv_dup hx hb dX0_init_8 rfl ?_
  have hPc := hP.sub (ws' := [(q1, .inr (3, [.null, .int 0]))]) [1] rfl
  have hDc := hD.sub (ws' := [(q1, .inr (3, [.null, .int 0]))]) [1] (by decide) rfl
  have hFc := va_free (wc := [(q1, .inr (3, [.null, .int 0]))]) hD hS hA [1] rfl
  refine jk_callIN (host := RX4) (As := []) (rest := [.ref q1, .ref q0]) ⟨hx, hb, hml, hown, hts⟩ (c_X3_init l D g q1) (fun _ _ _ _ _ h => h) (fun _ _ _ => trivial) ⟨va_cnB 0 hts gX0_init_X3_init_n11 rfl rfl rfl hN.2.2.2.1 (hts (.initialized RX3) (by decide +kernel)) (by decide +kernel) ⟨Nat.le_of_ble_eq_true rfl, Nat.le_of_ble_eq_true rfl⟩, rfl, hts (.instanceMethod yX3_init) (by decide +kernel)⟩ hPc hDc hK hN rfl hl rfl (Nat.le_of_ble_eq_true rfl) dX0_init_9 ⟨Nat.le_of_ble_eq_true rfl, Nat.le_of_ble_eq_true rfl⟩ hS hFc (fun o2 H1 locs hP1 hD1 hk1 hS => ?_)
  obtain ⟨hP, hD⟩ := va_join (wr := [(q0, .inr (0, [.null, .int 0, .int 0, .int 0, .int 0, .int 0]))]) (w1 := [(q1, .inr (3, [.ref (o2 0), .int 0])), ((o2 0), .inl (g.2.1, 60, .inl (fun _ => 0)))]) hP hD [1] [0] rfl rfl (by decide) (by decide) hk1 hFc hP1 hD1
  generalize H1 = H at hP hS ⊢
  have hP : va_P D vwCl [(q0, .inr (0, [.null, .int 0, .int 0, .int 0, .int 0, .int 0])), (q1, .inr (3, [.ref (o2 0), .int 0])), ((o2 0), .inl (g.2.1, 60, .inl (fun _ => 0)))] H := hP
  have hD : va_D A [(q0, .inr (0, [.null, .int 0, .int 0, .int 0, .int 0, .int 0])), (q1, .inr (3, [.ref (o2 0), .int 0])), ((o2 0), .inl (g.2.1, 60, .inl (fun _ => 0)))] := hD
  refine W.eq (g2 := F0 m 12 ls [.ref q1, .ref q0]) rfl ?_
  refine va_putF (D := D) (ci := 0) (v := .ref q1) (ty := tyX0 0) (C := RX0) (T := TX0) (N := 6) hx hb hts (by decide +kernel) tyX0 tyX0_ok nmX0 hown hK hP hD hS 0 rfl rfl 0 (by decide) (hts (.fieldLink RX0 12 "InfluenceJars$DeedReader" "pad" "LInfluenceJars$Pad;") (by decide +kernel)) (fun _ h9 => h9) rfl hin rfl (by decide +kernel) rfl rfl (Nat.le_of_ble_eq_true rfl) dX0_init_12 (fun H locs hP hD hS => ?_)
  have hP : va_P D vwCl [(q0, .inr (0, [.ref q1, .int 0, .int 0, .int 0, .int 0, .int 0])), (q1, .inr (3, [.ref (o2 0), .int 0])), ((o2 0), .inl (g.2.1, 60, .inl (fun _ => 0)))] H := hP
  have hD : va_D A [(q0, .inr (0, [.ref q1, .int 0, .int 0, .int 0, .int 0, .int 0])), (q1, .inr (3, [.ref (o2 0), .int 0])), ((o2 0), .inl (g.2.1, 60, .inl (fun _ => 0)))] := hD
  exact jk_vretC (jn_l [q1, (o2 0)]) hx hb hr hlocks hP hD hS (Nat.le_of_ble_eq_true rfl) (Nat.le_of_ble_eq_true rfl) rfl dX0_init_15

set_option maxHeartbeats 1000000 in
set_option maxRecDepth 100000 in
theorem c_X1_init (l : Launch) (D : va_G) (g : jk_G) (q0 : Nat) (p : Nat → Nat → Nat) : jk_C l D g jk_AO yX1_init wsX1_init 1 12 1 6 [.ref q0] [(q0, .inr (1, [.null, .int 0, .int 0]))] none (fun o : Nat → Nat => jh_X g (jn_ad q0 o) p (fun _ => none) jh_0) := by
  refine jk_ofC (cc := cX1_init) (maxL := 1) (ret := none) (by decide +kernel) rfl (Nat.le_of_ble_eq_true rfl) ?_
  intro pp e s m args below meth c hx hb hr hml hts hown hlocks hin hK hN A H locs hZ hsH hP hD hA hS ls hl
  have hown : s.vm.findClass RX1 = some m.cls := hown
  have hin := hin rfl
  have hl : lv_has ls 1 [(0, .ref q0)] := hl
  have hP : va_P D vwCl [(q0, .inr (1, [.null, .int 0, .int 0]))] H := hP
  have hD : va_D A [(q0, .inr (1, [.null, .int 0, .int 0]))] := hD
  refine lv_aload_n hx hb dX1_init_0 rfl (lv_at hl 0 rfl) ?_
  refine W.objInit hx hb hown (hts (.methodLink RX1 3 objectInit) (by decide +kernel)) (hts (.instanceMethod objectInit) (by decide +kernel)) (hts (.code objectInit ⟨#[0xb1]⟩ 1 none) (by exact List.mem_of_getElem? (i := 3) rfl)) rfl (by rw [hml]; exact hl.1) rfl dX1_init_1 (Nat.le_of_ble_eq_true rfl) (Nat.le_of_ble_eq_true rfl) ?_
  refine W.eq (g2 := F0 m 4 ls []) rfl ?_
  refine lv_aload_n hx hb dX1_init_4 rfl (lv_at hl 0 rfl) ?_
  refine lv_bipush (v := 6) hx hb dX1_init_5 (by decide) ?_
  refine jk_newq hx hb hown (hts (.classLink RX1 9 RX2) (by decide +kernel)) hZ hK hP hD hS hA (by decide) (N' := 6) (by decide) (Nat.le_of_ble_eq_true rfl) (Nat.le_of_ble_eq_true rfl) (Nat.le_of_ble_eq_true rfl) dX1_init_7 (fun q1 H hP hD hS => ?_)
  have hP : va_P D vwCl [(q0, .inr (1, [.null, .int 0, .int 0])), (q1, .inl (g.2.2, 6, .inr (.inr (.inr (.inr (fun _ => none))))))] H := hP
  have hD : va_D A [(q0, .inr (1, [.null, .int 0, .int 0])), (q1, .inl (g.2.2, 6, .inr (.inr (.inr (.inr (fun _ => none))))))] := hD
  refine va_putF (D := D) (ci := 1) (v := .ref q1) (ty := tyX1 0) (C := RX1) (T := TX1) (N := 3) hx hb hts (by decide +kernel) tyX1 tyX1_ok nmX1 hown hK hP hD hS 0 rfl rfl 0 (by decide) (hts (.fieldLink RX1 11 "InfluenceJars$History" "states" "[LInfluenceJars$Machine;") (by decide +kernel)) (fun _ h9 => h9) rfl hin rfl (by decide +kernel) rfl rfl (Nat.le_of_ble_eq_true rfl) dX1_init_10 (fun H locs hP hD hS => ?_)
  have hP : va_P D vwCl [(q0, .inr (1, [.ref q1, .int 0, .int 0])), (q1, .inl (g.2.2, 6, .inr (.inr (.inr (.inr (fun _ => none))))))] H := hP
  have hD : va_D A [(q0, .inr (1, [.ref q1, .int 0, .int 0])), (q1, .inl (g.2.2, 6, .inr (.inr (.inr (.inr (fun _ => none))))))] := hD
  exact jk_vretC (jn_l [q1]) hx hb hr hlocks hP hD hS (Nat.le_of_ble_eq_true rfl) (Nat.le_of_ble_eq_true rfl) rfl dX1_init_13

