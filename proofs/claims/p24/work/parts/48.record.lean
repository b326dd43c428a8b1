set_option maxHeartbeats 1000000 in
set_option maxRecDepth 100000 in
theorem c_X1_record_s (l : Launch) (D : va_G) (g : jk_G) (h : Nat → Nat) (p : (Nat → Nat → Nat)) (F : jf_T) (Hs : jh_T) (n : Nat → Nat) (N : jm_T) (Mj : jm_T) (hF : F (jh_ix Hs).toNatClampNeg = some Mj) : jk_C l D g jk_noZ yX1_record wsX1_record 3 102 7 72 [.ref (h 0), .ref (n 0)] (List.flatten [(jh_X g h p F Hs), (jm_W g n N), (jm_W g (p (jh_ix Hs).toNatClampNeg) Mj)]) none (fun o : Unit => (List.flatten [(jh_X g h p F (jh_rec Hs)), (jm_W g n N), (jm_W g (p (jh_ix Hs).toNatClampNeg) N)])) := by
  refine jk_ofC (cc := cX1_record) (maxL := 4) (ret := none) (by decide +kernel) rfl (Nat.le_of_ble_eq_true rfl) ?_
  intro pp e s m args below meth c hx hb hr hml hts hown hlocks hin hK hN A H locs hZ hsH hP hD hA hS ls hl
  have hown : s.vm.findClass RX1 = some m.cls := hown
  have hl : lv_has ls 4 [(0, .ref (h 0)), (1, .ref (n 0))] := hl
  have hDu : ∀ (z0 : jh_T) (z1 : jm_T) (z2 : jm_T), va_D A (List.flatten [(jh_X g h p F z0), (jm_W g n z1), (jm_W g (p (jh_ix Hs).toNatClampNeg) z2)]) := fun z0 z1 z2 => jk_D.same hD rfl
  have hf_17 := hts (.fieldLink RX1 17 "InfluenceJars$History" "size" "I") (by decide +kernel)
  have hi_1 : ∀ w ∈ u_ws RX1 TX1 3, w ∈ wsX1_record := by decide +kernel
  have hf_21 := hts (.fieldLink RX1 21 "InfluenceJars$History" "oldest" "I") (by decide +kernel)
  have hf_11 := hts (.fieldLink RX1 11 "InfluenceJars$History" "states" "[LInfluenceJars$Machine;") (by decide +kernel)
  refine lv_aload_n hx hb dX1_record_0 rfl (lv_at hl 0 rfl) ?_
  refine va_get (D := D) (ci := 1) (v := .int (jh_sz Hs)) (C := RX1) (T := TX1) (N := 3) hx hb hts hi_1 hown hK hP 0 rfl rfl 2 (by decide) hf_17 (fun _ h9 => h9) rfl dX1_record_1 ?_
  refine lv_bipush (v := 6) hx hb dX1_record_4 (by decide) ?_
  refine lv_icmp_ne (tgt := 29) hx hb dX1_record_6 (by decide) (fun c_6 => ?_) (fun c_6 => ?_)
  · refine lv_aload_n hx hb dX1_record_29 rfl (lv_at hl 0 rfl) ?_
    refine va_get (D := D) (ci := 1) (v := .int (jh_ol Hs)) (C := RX1) (T := TX1) (N := 3) hx hb hts hi_1 hown hK hP 0 rfl rfl 1 (by decide) hf_21 (fun _ h9 => h9) rfl dX1_record_30 ?_
    refine lv_aload_n hx hb dX1_record_33 rfl (lv_at hl 0 rfl) ?_
    refine va_get (D := D) (ci := 1) (v := .int (jh_sz Hs)) (C := RX1) (T := TX1) (N := 3) hx hb hts hi_1 hown hK hP 0 rfl rfl 2 (by decide) hf_17 (fun _ h9 => h9) rfl dX1_record_34 ?_
    refine lv_iadd hx hb dX1_record_37 ?_
    refine lv_bipush (v := 6) hx hb dX1_record_38 (by decide) ?_
    refine jk_callS (As := [.int ((jh_ol Hs) + (jh_sz Hs)), .int 6]) (rest := []) (ws1 := (List.flatten [(jh_X g h p F Hs), (jm_W g n N), (jm_W g (p (jh_ix Hs).toNatClampNeg) Mj)])) ⟨hx, hb, hml, hown, hts⟩ (c_J9_floorMod_7cf53 l D g ((jh_ol Hs) + (jh_sz Hs)) (6 : Int32) (by decide)) (va_cwS 2 hts gX1_record_J9_floorMod_7cf53 rfl rfl rfl (by decide +kernel) ⟨Nat.le_of_ble_eq_true rfl, Nat.le_of_ble_eq_true rfl⟩) jk_nilP (jk_nilD (A := A)) hK hN rfl hl rfl (Nat.le_of_ble_eq_true rfl) dX1_record_40 ⟨Nat.le_of_ble_eq_true rfl, Nat.le_of_ble_eq_true rfl⟩ hS hA (fun _ _ hk => jk_keep hP hk) (fun H locs hP hS => ?_)
    refine W.eq (g2 := F0 m 43 ls [.int (rJ9_floorMod_7cf53 ((jh_ol Hs) + (jh_sz Hs)) (6 : Int32))]) rfl ?_
    refine lv_topi (fun x1 ex1 => ?_)
    refine lv_istore_n (lv' := [(2, .int x1), (0, .ref (h 0)), (1, .ref (n 0))]) hx hb dX1_record_43 rfl hl (by decide) rfl (fun ls hl => ?_)
    refine lv_aload_n hx hb dX1_record_44 rfl (lv_at hl 1 rfl) ?_
    refine va_get (D := D) (ci := 1) (v := .ref (h 1)) (C := RX1) (T := TX1) (N := 3) hx hb hts hi_1 hown hK hP 0 rfl rfl 0 (by decide) hf_11 (fun _ h9 => h9) rfl dX1_record_45 ?_
    refine lv_iload_n hx hb dX1_record_48 rfl (lv_at hl 0 rfl) ?_
    refine va_aldq (f := (jq p F)) hx hb hK hP 1 2 rfl rfl (by have qex1 := ex1.symm; subst qex1; exact jh_fm_in _) dX1_record_49 ?_
    refine W.eq (g2 := F0 m 50 ls [.ref ((p (jh_ix Hs).toNatClampNeg) 0)]) (by rw [show va_rf ((jq p F) x1.toNatClampNeg) = .ref ((p (jh_ix Hs).toNatClampNeg) 0) from (by have qex1 := ex1.symm; subst qex1; exact jh_ald (jh_ixn c_6) hF)]) ?_
    refine lv_astore_n (lv' := [(3, .ref ((p (jh_ix Hs).toNatClampNeg) 0)), (2, .int x1), (0, .ref (h 0)), (1, .ref (n 0))]) hx hb dX1_record_50 rfl hl (by decide) rfl (fun ls hl => ?_)
    refine lv_aload_n hx hb dX1_record_51 rfl (lv_at hl 0 rfl) ?_
    refine lv_ifnonnull (tgt := 70) hx hb dX1_record_52 (by decide) ?_
    refine lv_aload_n hx hb dX1_record_70 rfl (lv_at hl 0 rfl) ?_
    refine lv_aload_n hx hb dX1_record_71 rfl (lv_at hl 3 rfl) ?_
    obtain ⟨S2, eS2⟩ : ∃ z : jm_T, z = N := ⟨_, rfl⟩
    refine jk_callV (As := [.ref (n 0)]) (rest := []) (ws1 := (List.flatten [(jh_X g h p F Hs), (jm_W g n N), (jm_W g (p (jh_ix Hs).toNatClampNeg) S2)])) ⟨hx, hb, hml, hown, hts⟩ (c_X2_become l D g (p (jh_ix Hs).toNatClampNeg) Mj n N) (cwV 1 hts gX1_record_X2_become rfl rfl rfl (by decide +kernel) ⟨Nat.le_of_ble_eq_true rfl, Nat.le_of_ble_eq_true rfl⟩) (va_recv hK hP (ci := 2) (q0 := 9) rfl rfl) (show va_P D vwCl (List.flatten [(jm_W g (p (jh_ix Hs).toNatClampNeg) Mj), (jm_W g n N)]) H from  (jk_segSub (L := [(jh_X g h p F Hs), (jm_W g n N), (jm_W g (p (jh_ix Hs).toNatClampNeg) Mj)]) hP [2, 1])) (show va_D A (List.flatten [(jm_W g (p (jh_ix Hs).toNatClampNeg) Mj), (jm_W g n N)]) from  (jk_segSubD (L := [(jh_X g h p F Hs), (jm_W g n N), (jm_W g (p (jh_ix Hs).toNatClampNeg) Mj)]) hD [2, 1] (by decide))) hK hN rfl hl rfl (Nat.le_of_ble_eq_true rfl) dX1_record_72 ⟨Nat.le_of_ble_eq_true rfl, Nat.le_of_ble_eq_true rfl⟩ hS hA (jk_seg (L := [(jh_X g h p F Hs), (jm_W g n N), (jm_W g (p (jh_ix Hs).toNatClampNeg) Mj)]) (L' := [(jh_X g h p F Hs), (jm_W g n N), (jm_W g (p (jh_ix Hs).toNatClampNeg) S2)]) (T := [(jm_W g (p (jh_ix Hs).toNatClampNeg) S2), (jm_W g n N)]) hP hD [2, 1] [(false, 0), (true, 1), (true, 0)] (by rw [eS2]; try rfl) (by decide) rfl) (fun H locs hP hS => ?_)
    refine W.eq (g2 := F0 m 75 ls []) rfl ?_
    have hD : va_D A (List.flatten [(jh_X g h p F Hs), (jm_W g n N), (jm_W g (p (jh_ix Hs).toNatClampNeg) S2)]) := hDu _ _ _
    refine lv_aload_n hx hb dX1_record_75 rfl (lv_at hl 2 rfl) ?_
    refine lv_dup hx hb dX1_record_76 rfl ?_
    refine va_get (D := D) (ci := 1) (v := .int (jh_sz Hs)) (C := RX1) (T := TX1) (N := 3) hx hb hts hi_1 hown hK hP 0 rfl rfl 2 (by decide) hf_17 (fun _ h9 => h9) rfl dX1_record_77 ?_
    refine lv_iconst (v := 1) hx hb dX1_record_80 (by decide) ?_
    refine lv_iadd hx hb dX1_record_81 ?_
    refine lv_topi (fun x3 ex3 => ?_)
    refine va_put (D := D) (ci := 1) (v := .int x3) (ty := .int) (C := RX1) (T := TX1) (N := 3) hx hb hts hi_1 tyX1 tyX1_ok nmX1 hown hK hP hD hS 0 rfl rfl 2 (by decide) hf_17 (fun _ h9 => h9) rfl (by decide +kernel) rfl rfl (Nat.le_of_ble_eq_true rfl) dX1_record_82 (fun H locs hP hD hS => ?_)
    have hP : va_P D vwCl (List.flatten [(jh_X g h p F (jh_usz Hs x3)), (jm_W g n N), (jm_W g (p (jh_ix Hs).toNatClampNeg) S2)]) H := hP
    have hD : va_D A (List.flatten [(jh_X g h p F (jh_usz Hs x3)), (jm_W g n N), (jm_W g (p (jh_ix Hs).toNatClampNeg) S2)]) := hD
    have qex3 := ex3.symm; subst qex3
    have qeS2 := eS2.symm; subst qeS2
    have qex1 := ex1.symm; subst qex1
    have es0 : (jh_usz Hs ((jh_sz Hs) + 1)) = (jh_rec Hs) := (jh_recn c_6).symm
    have es2 : N = N := rfl
    exact jk_vretC () hx hb hr hlocks hP hD hS (Nat.le_of_ble_eq_true rfl) (Nat.le_of_ble_eq_true rfl) (jk_cg2 (fun z0 z2 => (List.flatten [(jh_X g h p F z0), (jm_W g n N), (jm_W g (p (jh_ix Hs).toNatClampNeg) z2)])) es0 es2) dX1_record_85
  · refine lv_aload_n hx hb dX1_record_9 rfl (lv_at hl 0 rfl) ?_
    refine lv_dup hx hb dX1_record_10 rfl ?_
    refine va_get (D := D) (ci := 1) (v := .int (jh_ol Hs)) (C := RX1) (T := TX1) (N := 3) hx hb hts hi_1 hown hK hP 0 rfl rfl 1 (by decide) hf_21 (fun _ h9 => h9) rfl dX1_record_11 ?_
    refine lv_iconst (v := 1) hx hb dX1_record_14 (by decide) ?_
    refine lv_iadd hx hb dX1_record_15 ?_
    refine lv_topi (fun x4 ex4 => ?_)
    refine va_put (D := D) (ci := 1) (v := .int x4) (ty := .int) (C := RX1) (T := TX1) (N := 3) hx hb hts hi_1 tyX1 tyX1_ok nmX1 hown hK hP hD hS 0 rfl rfl 1 (by decide) hf_21 (fun _ h9 => h9) rfl (by decide +kernel) rfl rfl (Nat.le_of_ble_eq_true rfl) dX1_record_16 (fun H locs hP hD hS => ?_)
    have hP : va_P D vwCl (List.flatten [(jh_X g h p F (jh_uol Hs x4)), (jm_W g n N), (jm_W g (p (jh_ix Hs).toNatClampNeg) Mj)]) H := hP
    have hD : va_D A (List.flatten [(jh_X g h p F (jh_uol Hs x4)), (jm_W g n N), (jm_W g (p (jh_ix Hs).toNatClampNeg) Mj)]) := hD
    refine lv_aload_n hx hb dX1_record_19 rfl (lv_at hl 0 rfl) ?_
    refine lv_dup hx hb dX1_record_20 rfl ?_
    refine va_get (D := D) (ci := 1) (v := .int (jh_sz Hs)) (C := RX1) (T := TX1) (N := 3) hx hb hts hi_1 hown hK hP 0 rfl rfl 2 (by decide) hf_17 (fun _ h9 => h9) rfl dX1_record_21 ?_
    refine lv_iconst (v := 1) hx hb dX1_record_24 (by decide) ?_
    refine lv_isub hx hb dX1_record_25 ?_
    refine lv_topi (fun x5 ex5 => ?_)
    refine va_put (D := D) (ci := 1) (v := .int x5) (ty := .int) (C := RX1) (T := TX1) (N := 3) hx hb hts hi_1 tyX1 tyX1_ok nmX1 hown hK hP hD hS 0 rfl rfl 2 (by decide) hf_17 (fun _ h9 => h9) rfl (by decide +kernel) rfl rfl (Nat.le_of_ble_eq_true rfl) dX1_record_26 (fun H locs hP hD hS => ?_)
    have hP : va_P D vwCl (List.flatten [(jh_X g h p F (jh_usz (jh_uol Hs x4) x5)), (jm_W g n N), (jm_W g (p (jh_ix Hs).toNatClampNeg) Mj)]) H := hP
    have hD : va_D A (List.flatten [(jh_X g h p F (jh_usz (jh_uol Hs x4) x5)), (jm_W g n N), (jm_W g (p (jh_ix Hs).toNatClampNeg) Mj)]) := hD
    refine lv_aload_n hx hb dX1_record_29 rfl (lv_at hl 0 rfl) ?_
    refine va_get (D := D) (ci := 1) (v := .int x4) (C := RX1) (T := TX1) (N := 3) hx hb hts hi_1 hown hK hP 0 rfl rfl 1 (by decide) hf_21 (fun _ h9 => h9) rfl dX1_record_30 ?_
    refine lv_aload_n hx hb dX1_record_33 rfl (lv_at hl 0 rfl) ?_
    refine va_get (D := D) (ci := 1) (v := .int x5) (C := RX1) (T := TX1) (N := 3) hx hb hts hi_1 hown hK hP 0 rfl rfl 2 (by decide) hf_17 (fun _ h9 => h9) rfl dX1_record_34 ?_
    refine lv_iadd hx hb dX1_record_37 ?_
    refine lv_bipush (v := 6) hx hb dX1_record_38 (by decide) ?_
    refine jk_callS (As := [.int (x4 + x5), .int 6]) (rest := []) (ws1 := (List.flatten [(jh_X g h p F (jh_usz (jh_uol Hs x4) x5)), (jm_W g n N), (jm_W g (p (jh_ix Hs).toNatClampNeg) Mj)])) ⟨hx, hb, hml, hown, hts⟩ (c_J9_floorMod_7cf53 l D g (x4 + x5) (6 : Int32) (by decide)) (va_cwS 2 hts gX1_record_J9_floorMod_7cf53 rfl rfl rfl (by decide +kernel) ⟨Nat.le_of_ble_eq_true rfl, Nat.le_of_ble_eq_true rfl⟩) jk_nilP (jk_nilD (A := A)) hK hN rfl hl rfl (Nat.le_of_ble_eq_true rfl) dX1_record_40 ⟨Nat.le_of_ble_eq_true rfl, Nat.le_of_ble_eq_true rfl⟩ hS hA (fun _ _ hk => jk_keep hP hk) (fun H locs hP hS => ?_)
    refine W.eq (g2 := F0 m 43 ls [.int (rJ9_floorMod_7cf53 (x4 + x5) (6 : Int32))]) rfl ?_
    refine lv_topi (fun x6 ex6 => ?_)
    refine lv_istore_n (lv' := [(2, .int x6), (0, .ref (h 0)), (1, .ref (n 0))]) hx hb dX1_record_43 rfl hl (by decide) rfl (fun ls hl => ?_)
    refine lv_aload_n hx hb dX1_record_44 rfl (lv_at hl 1 rfl) ?_
    refine va_get (D := D) (ci := 1) (v := .ref (h 1)) (C := RX1) (T := TX1) (N := 3) hx hb hts hi_1 hown hK hP 0 rfl rfl 0 (by decide) hf_11 (fun _ h9 => h9) rfl dX1_record_45 ?_
    refine lv_iload_n hx hb dX1_record_48 rfl (lv_at hl 0 rfl) ?_
    refine va_aldq (f := (jq p F)) hx hb hK hP 1 2 rfl rfl (by have qex6 := ex6.symm; subst qex6; have qex5 := ex5.symm; subst qex5; have qex4 := ex4.symm; subst qex4; exact jh_fm_in _) dX1_record_49 ?_
    refine W.eq (g2 := F0 m 50 ls [.ref ((p (jh_ix Hs).toNatClampNeg) 0)]) (by rw [show va_rf ((jq p F) x6.toNatClampNeg) = .ref ((p (jh_ix Hs).toNatClampNeg) 0) from (by have qex6 := ex6.symm; subst qex6; have qex5 := ex5.symm; subst qex5; have qex4 := ex4.symm; subst qex4; exact jh_ald (jh_ix6 c_6) hF)]) ?_
    refine lv_astore_n (lv' := [(3, .ref ((p (jh_ix Hs).toNatClampNeg) 0)), (2, .int x6), (0, .ref (h 0)), (1, .ref (n 0))]) hx hb dX1_record_50 rfl hl (by decide) rfl (fun ls hl => ?_)
    refine lv_aload_n hx hb dX1_record_51 rfl (lv_at hl 0 rfl) ?_
    refine lv_ifnonnull (tgt := 70) hx hb dX1_record_52 (by decide) ?_
    refine lv_aload_n hx hb dX1_record_70 rfl (lv_at hl 0 rfl) ?_
    refine lv_aload_n hx hb dX1_record_71 rfl (lv_at hl 3 rfl) ?_
    obtain ⟨S7, eS7⟩ : ∃ z : jm_T, z = N := ⟨_, rfl⟩
    refine jk_callV (As := [.ref (n 0)]) (rest := []) (ws1 := (List.flatten [(jh_X g h p F (jh_usz (jh_uol Hs x4) x5)), (jm_W g n N), (jm_W g (p (jh_ix Hs).toNatClampNeg) S7)])) ⟨hx, hb, hml, hown, hts⟩ (c_X2_become l D g (p (jh_ix Hs).toNatClampNeg) Mj n N) (cwV 1 hts gX1_record_X2_become rfl rfl rfl (by decide +kernel) ⟨Nat.le_of_ble_eq_true rfl, Nat.le_of_ble_eq_true rfl⟩) (va_recv hK hP (ci := 2) (q0 := 9) rfl rfl) (show va_P D vwCl (List.flatten [(jm_W g (p (jh_ix Hs).toNatClampNeg) Mj), (jm_W g n N)]) H from  (jk_segSub (L := [(jh_X g h p F (jh_usz (jh_uol Hs x4) x5)), (jm_W g n N), (jm_W g (p (jh_ix Hs).toNatClampNeg) Mj)]) hP [2, 1])) (show va_D A (List.flatten [(jm_W g (p (jh_ix Hs).toNatClampNeg) Mj), (jm_W g n N)]) from  (jk_segSubD (L := [(jh_X g h p F (jh_usz (jh_uol Hs x4) x5)), (jm_W g n N), (jm_W g (p (jh_ix Hs).toNatClampNeg) Mj)]) hD [2, 1] (by decide))) hK hN rfl hl rfl (Nat.le_of_ble_eq_true rfl) dX1_record_72 ⟨Nat.le_of_ble_eq_true rfl, Nat.le_of_ble_eq_true rfl⟩ hS hA (jk_seg (L := [(jh_X g h p F (jh_usz (jh_uol Hs x4) x5)), (jm_W g n N), (jm_W g (p (jh_ix Hs).toNatClampNeg) Mj)]) (L' := [(jh_X g h p F (jh_usz (jh_uol Hs x4) x5)), (jm_W g n N), (jm_W g (p (jh_ix Hs).toNatClampNeg) S7)]) (T := [(jm_W g (p (jh_ix Hs).toNatClampNeg) S7), (jm_W g n N)]) hP hD [2, 1] [(false, 0), (true, 1), (true, 0)] (by rw [eS7]; try rfl) (by decide) rfl) (fun H locs hP hS => ?_)
    refine W.eq (g2 := F0 m 75 ls []) rfl ?_
    have hD : va_D A (List.flatten [(jh_X g h p F (jh_usz (jh_uol Hs x4) x5)), (jm_W g n N), (jm_W g (p (jh_ix Hs).toNatClampNeg) S7)]) := hDu _ _ _
    refine lv_aload_n hx hb dX1_record_75 rfl (lv_at hl 2 rfl) ?_
    refine lv_dup hx hb dX1_record_76 rfl ?_
    refine va_get (D := D) (ci := 1) (v := .int x5) (C := RX1) (T := TX1) (N := 3) hx hb hts hi_1 hown hK hP 0 rfl rfl 2 (by decide) hf_17 (fun _ h9 => h9) rfl dX1_record_77 ?_
    refine lv_iconst (v := 1) hx hb dX1_record_80 (by decide) ?_
    refine lv_iadd hx hb dX1_record_81 ?_
    refine lv_topi (fun x8 ex8 => ?_)
    refine va_put (D := D) (ci := 1) (v := .int x8) (ty := .int) (C := RX1) (T := TX1) (N := 3) hx hb hts hi_1 tyX1 tyX1_ok nmX1 hown hK hP hD hS 0 rfl rfl 2 (by decide) hf_17 (fun _ h9 => h9) rfl (by decide +kernel) rfl rfl (Nat.le_of_ble_eq_true rfl) dX1_record_82 (fun H locs hP hD hS => ?_)
    have hP : va_P D vwCl (List.flatten [(jh_X g h p F (jh_usz (jh_uol Hs x4) x8)), (jm_W g n N), (jm_W g (p (jh_ix Hs).toNatClampNeg) S7)]) H := hP
    have hD : va_D A (List.flatten [(jh_X g h p F (jh_usz (jh_uol Hs x4) x8)), (jm_W g n N), (jm_W g (p (jh_ix Hs).toNatClampNeg) S7)]) := hD
    have qex8 := ex8.symm; subst qex8
    have qeS7 := eS7.symm; subst qeS7
    have qex6 := ex6.symm; subst qex6
    have qex5 := ex5.symm; subst qex5
    have qex4 := ex4.symm; subst qex4
    have es0 : (jh_usz (jh_uol Hs ((jh_ol Hs) + 1)) (((jh_sz Hs) - 1) + 1)) = (jh_rec Hs) := (jh_rec6 c_6).symm
    have es2 : N = N := rfl
    exact jk_vretC () hx hb hr hlocks hP hD hS (Nat.le_of_ble_eq_true rfl) (Nat.le_of_ble_eq_true rfl) (jk_cg2 (fun z0 z2 => (List.flatten [(jh_X g h p F z0), (jm_W g n N), (jm_W g (p (jh_ix Hs).toNatClampNeg) z2)])) es0 es2) dX1_record_85

set_option maxHeartbeats 1000000 in
set_option maxRecDepth 100000 in
theorem c_X1_record_n (l : Launch) (D : va_G) (g : jk_G) (h : Nat → Nat) (p : (Nat → Nat → Nat)) (F : jf_T) (Hs : jh_T) (n : Nat → Nat) (N : jm_T) (hF : F (jh_ix Hs).toNatClampNeg = none) : jk_C l D g jk_noZ yX1_record wsX1_record 3 102 7 72 [.ref (h 0), .ref (n 0)] (List.flatten [(jh_X g h p F Hs), (jm_W g n N)]) none (fun o : Nat → Nat => List.flatten [(jh_X g h (ja_u p (jh_ix Hs).toNatClampNeg o) (jf_u F (jh_ix Hs).toNatClampNeg N) (jh_rec Hs)), (jm_W g n N), (jm_W g o N)]) := by
  refine jk_ofC (cc := cX1_record) (maxL := 4) (ret := none) (by decide +kernel) rfl (Nat.le_of_ble_eq_true rfl) ?_
  intro pp e s m args below meth c hx hb hr hml hts hown hlocks hin hK hN A H locs hZ hsH hP hD hA hS ls hl
  have hown : s.vm.findClass RX1 = some m.cls := hown
  have hl : lv_has ls 4 [(0, .ref (h 0)), (1, .ref (n 0))] := hl
  have hDu : ∀ (z0 : jh_T) (z1 : jm_T), va_D A (List.flatten [(jh_X g h p F z0), (jm_W g n z1)]) := fun z0 z1 => jk_D.same hD rfl
  have hf_17 := hts (.fieldLink RX1 17 "InfluenceJars$History" "size" "I") (by decide +kernel)
  have hi_1 : ∀ w ∈ u_ws RX1 TX1 3, w ∈ wsX1_record := by decide +kernel
  have hf_21 := hts (.fieldLink RX1 21 "InfluenceJars$History" "oldest" "I") (by decide +kernel)
  have hf_11 := hts (.fieldLink RX1 11 "InfluenceJars$History" "states" "[LInfluenceJars$Machine;") (by decide +kernel)
  have hi_2 : ∀ w ∈ u_ws RX2 TX2 13, w ∈ wsX1_record := by decide +kernel
  have hw__classLink_RX1_9_RX2 := hts (.classLink RX1 9 RX2) (by decide +kernel)
  have hw__instantiable_RX2_13 := hts (.instantiable RX2 13) (by decide +kernel)
  have hw__initialized_RX2 := hts (.initialized RX2) (by decide +kernel)
  have hw__instanceMethod_yX2_init := hts (.instanceMethod yX2_init) (by decide +kernel)
  refine lv_aload_n hx hb dX1_record_0 rfl (lv_at hl 0 rfl) ?_
  refine va_get (D := D) (ci := 1) (v := .int (jh_sz Hs)) (C := RX1) (T := TX1) (N := 3) hx hb hts hi_1 hown hK hP 0 rfl rfl 2 (by decide) hf_17 (fun _ h9 => h9) rfl dX1_record_1 ?_
  refine lv_bipush (v := 6) hx hb dX1_record_4 (by decide) ?_
  refine lv_icmp_ne (tgt := 29) hx hb dX1_record_6 (by decide) (fun c_6 => ?_) (fun c_6 => ?_)
  · refine lv_aload_n hx hb dX1_record_29 rfl (lv_at hl 0 rfl) ?_
    refine va_get (D := D) (ci := 1) (v := .int (jh_ol Hs)) (C := RX1) (T := TX1) (N := 3) hx hb hts hi_1 hown hK hP 0 rfl rfl 1 (by decide) hf_21 (fun _ h9 => h9) rfl dX1_record_30 ?_
    refine lv_aload_n hx hb dX1_record_33 rfl (lv_at hl 0 rfl) ?_
    refine va_get (D := D) (ci := 1) (v := .int (jh_sz Hs)) (C := RX1) (T := TX1) (N := 3) hx hb hts hi_1 hown hK hP 0 rfl rfl 2 (by decide) hf_17 (fun _ h9 => h9) rfl dX1_record_34 ?_
    refine lv_iadd hx hb dX1_record_37 ?_
    refine lv_bipush (v := 6) hx hb dX1_record_38 (by decide) ?_
    refine jk_callS (As := [.int ((jh_ol Hs) + (jh_sz Hs)), .int 6]) (rest := []) (ws1 := (List.flatten [(jh_X g h p F Hs), (jm_W g n N)])) ⟨hx, hb, hml, hown, hts⟩ (c_J9_floorMod_7cf53 l D g ((jh_ol Hs) + (jh_sz Hs)) (6 : Int32) (by decide)) (va_cwS 2 hts gX1_record_J9_floorMod_7cf53 rfl rfl rfl (by decide +kernel) ⟨Nat.le_of_ble_eq_true rfl, Nat.le_of_ble_eq_true rfl⟩) jk_nilP (jk_nilD (A := A)) hK hN rfl hl rfl (Nat.le_of_ble_eq_true rfl) dX1_record_40 ⟨Nat.le_of_ble_eq_true rfl, Nat.le_of_ble_eq_true rfl⟩ hS hA (fun _ _ hk => jk_keep hP hk) (fun H locs hP hS => ?_)
    refine W.eq (g2 := F0 m 43 ls [.int (rJ9_floorMod_7cf53 ((jh_ol Hs) + (jh_sz Hs)) (6 : Int32))]) rfl ?_
    refine lv_topi (fun x1 ex1 => ?_)
    refine lv_istore_n (lv' := [(2, .int x1), (0, .ref (h 0)), (1, .ref (n 0))]) hx hb dX1_record_43 rfl hl (by decide) rfl (fun ls hl => ?_)
    refine lv_aload_n hx hb dX1_record_44 rfl (lv_at hl 1 rfl) ?_
    refine va_get (D := D) (ci := 1) (v := .ref (h 1)) (C := RX1) (T := TX1) (N := 3) hx hb hts hi_1 hown hK hP 0 rfl rfl 0 (by decide) hf_11 (fun _ h9 => h9) rfl dX1_record_45 ?_
    refine lv_iload_n hx hb dX1_record_48 rfl (lv_at hl 0 rfl) ?_
    refine va_aldq (f := (jq p F)) hx hb hK hP 1 2 rfl rfl (by have qex1 := ex1.symm; subst qex1; exact jh_fm_in _) dX1_record_49 ?_
    refine W.eq (g2 := F0 m 50 ls [.null]) (by rw [show va_rf ((jq p F) x1.toNatClampNeg) = .null from (by have qex1 := ex1.symm; subst qex1; exact jh_aldn (jh_ixn c_6) hF)]) ?_
    refine lv_astore_nN (lv' := [(3, .null), (2, .int x1), (0, .ref (h 0)), (1, .ref (n 0))]) hx hb dX1_record_50 rfl hl (by decide) rfl (fun ls hl => ?_)
    refine lv_aload_nN hx hb dX1_record_51 rfl (lv_at hl 0 rfl) ?_
    refine lv_ifnonnullN hx hb dX1_record_52 ?_
    refine va_new (ci := 2) (fs := [.null, .null, .null, .null, .null, .null, .int 0, .int 0, .int 0, .int 0, .int 0, .int 0, .int 0]) (C := RX2) (T := TX2) (N := 13) hx hb hts hi_2 tyX2 tyX2_ok hown hw__classLink_RX1_9_RX2 hw__instantiable_RX2_13 hw__initialized_RX2 hK hP hD hS hA rfl (fun j hj => by rcases (show j = 0 ∨ j = 1 ∨ j = 2 ∨ j = 3 ∨ j = 4 ∨ j = 5 ∨ j = 6 ∨ j = 7 ∨ j = 8 ∨ j = 9 ∨ j = 10 ∨ j = 11 ∨ j = 12 by omega) with rfl | rfl | rfl | rfl | rfl | rfl | rfl | rfl | rfl | rfl | rfl | rfl | rfl <;> rfl) (Nat.le_of_ble_eq_true rfl) (Nat.le_of_ble_eq_true rfl) dX1_record_55 (fun q2 H hP hD hS => ?_)
    have hP : va_P D vwCl (List.flatten [(jh_X g h p F Hs), (jm_W g n N), [(q2, .inr (2, [.null, .null, .null, .null, .null, .null, .int 0, .int 0, .int 0, .int 0, .int 0, .int 0, .int 0]))]]) H := hP
    have hD : va_D A (List.flatten [(jh_X g h p F Hs), (jm_W g n N), [(q2, .inr (2, [.null, .null, .null, .null, .null, .null, .int 0, .int 0, .int 0, .int 0, .int 0, .int 0, .int 0]))]]) := hD
    have hDu : ∀ (z0 : jh_T) (z1 : jm_T), va_D A (List.flatten [(jh_X g h p F z0), (jm_W g n z1), [(q2, .inr (2, [.null, .null, .null, .null, .null, .null, .int 0, .int 0, .int 0, .int 0, .int 0, .int 0, .int 0]))]]) := fun z0 z1 => jk_D.same hD rfl
    refine lv_dup hx hb dX1_record_58 rfl ?_
    have hDc : va_D A [(q2, .inr (2, [.null, .null, .null, .null, .null, .null, .int 0, .int 0, .int 0, .int 0, .int 0, .int 0, .int 0]))] := jk_oneD.mp (jk_segSubD (L := [(jh_X g h p F Hs), (jm_W g n N), [(q2, .inr (2, [.null, .null, .null, .null, .null, .null, .int 0, .int 0, .int 0, .int 0, .int 0, .int 0, .int 0]))]]) hD [2] (by decide))
    refine jk_callINC (host := RX4) (As := []) (rest := [.ref q2]) (ws1 := fun o3 => List.flatten [(jh_X g h p F Hs), (jm_W g n N), (jm_W g (jn_ad q2 o3) jm_0)]) ⟨hx, hb, hml, hown, hts⟩ (c_X2_init l D g q2) (fun _ _ _ _ _ h => h) (fun _ _ _ => trivial) ⟨va_cnB 0 hts gX1_record_X2_init_n30 rfl rfl rfl hN.2.2.2.2.1 hw__initialized_RX2 (by decide +kernel) ⟨Nat.le_of_ble_eq_true rfl, Nat.le_of_ble_eq_true rfl⟩, rfl, hw__instanceMethod_yX2_init⟩ (jk_one.mp (jk_segSub (L := [(jh_X g h p F Hs), (jm_W g n N), [(q2, .inr (2, [.null, .null, .null, .null, .null, .null, .int 0, .int 0, .int 0, .int 0, .int 0, .int 0, .int 0]))]]) hP [2])) hDc hK hN rfl hl rfl (Nat.le_of_ble_eq_true rfl) dX1_record_59 ⟨Nat.le_of_ble_eq_true rfl, Nat.le_of_ble_eq_true rfl⟩ hS hA (fun o3 => jk_seg1 (L := [(jh_X g h p F Hs), (jm_W g n N), [(q2, .inr (2, [.null, .null, .null, .null, .null, .null, .int 0, .int 0, .int 0, .int 0, .int 0, .int 0, .int 0]))]]) (L' := [(jh_X g h p F Hs), (jm_W g n N), (jm_W g (jn_ad q2 o3) jm_0)]) (T := (jm_W g (jn_ad q2 o3) jm_0)) hP hD 2 [(false, 0), (false, 1), (true, 0)] (by decide) rfl) (fun o3 => jk_segD (L := [(jh_X g h p F Hs), (jm_W g n N), [(q2, .inr (2, [.null, .null, .null, .null, .null, .null, .int 0, .int 0, .int 0, .int 0, .int 0, .int 0, .int 0]))]]) (L' := [(jh_X g h p F Hs), (jm_W g n N), (jm_W g (jn_ad q2 o3) jm_0)]) (T := [(jm_W g (jn_ad q2 o3) jm_0)]) hP hD [2] [(false, 0), (false, 1), (true, 0)] (by rw [List.flatten_cons, List.flatten_nil, List.append_nil]) (by decide) (by decide) rfl (fun _ h => h) (jk_freeA hDc hS hA)) (fun o3 H locs hP hD hS => ?_)
    refine W.eq (g2 := F0 m 62 ls [.ref q2]) rfl ?_
    have hP : va_P D vwCl (List.flatten [(jh_X g h p F Hs), (jm_W g n N), (jm_W g (jn_ad q2 o3) jm_0)]) H := hP
    have hD : va_D A (List.flatten [(jh_X g h p F Hs), (jm_W g n N), (jm_W g (jn_ad q2 o3) jm_0)]) := hD
    have hDu : ∀ (z0 : jh_T) (z1 : jm_T) (z2 : jm_T), va_D A (List.flatten [(jh_X g h p F z0), (jm_W g n z1), (jm_W g (jn_ad q2 o3) z2)]) := fun z0 z1 z2 => jk_D.same hD rfl
    refine lv_astore_n (lv' := [(3, .ref q2), (2, .int x1), (0, .ref (h 0)), (1, .ref (n 0))]) hx hb dX1_record_62 rfl hl (by decide) rfl (fun ls hl => ?_)
    refine lv_aload_n hx hb dX1_record_63 rfl (lv_at hl 2 rfl) ?_
    refine va_get (D := D) (ci := 1) (v := .ref (h 1)) (C := RX1) (T := TX1) (N := 3) hx hb hts hi_1 hown hK hP 0 rfl rfl 0 (by decide) hf_11 (fun _ h9 => h9) rfl dX1_record_64 ?_
    refine lv_iload_n hx hb dX1_record_67 rfl (lv_at hl 1 rfl) ?_
    refine lv_aload_n hx hb dX1_record_68 rfl (lv_at hl 0 rfl) ?_
    refine va_astq (f := (jq p F)) hx hb hK hP hD hS 1 2 9 2 rfl rfl rfl rfl (by have qex1 := ex1.symm; subst qex1; exact jh_fm_in _) dX1_record_69 (fun H locs hP hD hS => ?_)
    have hq9 : va_up (jq p F) x1.toNatClampNeg (some ((jn_ad q2 o3) 0)) = jq (ja_u p x1.toNatClampNeg (jn_ad q2 o3)) (jf_u F x1.toNatClampNeg N) := jq_up _ _ _ (jn_ad q2 o3) _
    rw [hq9] at hP hD
    have hP : va_P D vwCl (List.flatten [(jh_X g h (ja_u p x1.toNatClampNeg (jn_ad q2 o3)) (jf_u F x1.toNatClampNeg N) Hs), (jm_W g n N), (jm_W g (jn_ad q2 o3) jm_0)]) H := hP
    have hD : va_D A (List.flatten [(jh_X g h (ja_u p x1.toNatClampNeg (jn_ad q2 o3)) (jf_u F x1.toNatClampNeg N) Hs), (jm_W g n N), (jm_W g (jn_ad q2 o3) jm_0)]) := hD
    have hDu : ∀ (z0 : jh_T) (z1 : jm_T) (z2 : jm_T), va_D A (List.flatten [(jh_X g h (ja_u p x1.toNatClampNeg (jn_ad q2 o3)) (jf_u F x1.toNatClampNeg N) z0), (jm_W g n z1), (jm_W g (jn_ad q2 o3) z2)]) := fun z0 z1 z2 => jk_D.same hD rfl
    refine lv_aload_n hx hb dX1_record_70 rfl (lv_at hl 0 rfl) ?_
    refine lv_aload_n hx hb dX1_record_71 rfl (lv_at hl 3 rfl) ?_
    obtain ⟨S4, eS4⟩ : ∃ z : jm_T, z = N := ⟨_, rfl⟩
    refine jk_callV (As := [.ref (n 0)]) (rest := []) (ws1 := (List.flatten [(jh_X g h (ja_u p x1.toNatClampNeg (jn_ad q2 o3)) (jf_u F x1.toNatClampNeg N) Hs), (jm_W g n N), (jm_W g (jn_ad q2 o3) S4)])) ⟨hx, hb, hml, hown, hts⟩ (c_X2_become l D g (jn_ad q2 o3) jm_0 n N) (cwV 1 hts gX1_record_X2_become rfl rfl rfl (by decide +kernel) ⟨Nat.le_of_ble_eq_true rfl, Nat.le_of_ble_eq_true rfl⟩) (va_recv hK hP (ci := 2) (q0 := 9) rfl rfl) (show va_P D vwCl (List.flatten [(jm_W g (jn_ad q2 o3) jm_0), (jm_W g n N)]) H from  (jk_segSub (L := [(jh_X g h (ja_u p x1.toNatClampNeg (jn_ad q2 o3)) (jf_u F x1.toNatClampNeg N) Hs), (jm_W g n N), (jm_W g (jn_ad q2 o3) jm_0)]) hP [2, 1])) (show va_D A (List.flatten [(jm_W g (jn_ad q2 o3) jm_0), (jm_W g n N)]) from  (jk_segSubD (L := [(jh_X g h (ja_u p x1.toNatClampNeg (jn_ad q2 o3)) (jf_u F x1.toNatClampNeg N) Hs), (jm_W g n N), (jm_W g (jn_ad q2 o3) jm_0)]) hD [2, 1] (by decide))) hK hN rfl hl rfl (Nat.le_of_ble_eq_true rfl) dX1_record_72 ⟨Nat.le_of_ble_eq_true rfl, Nat.le_of_ble_eq_true rfl⟩ hS hA (jk_seg (L := [(jh_X g h (ja_u p x1.toNatClampNeg (jn_ad q2 o3)) (jf_u F x1.toNatClampNeg N) Hs), (jm_W g n N), (jm_W g (jn_ad q2 o3) jm_0)]) (L' := [(jh_X g h (ja_u p x1.toNatClampNeg (jn_ad q2 o3)) (jf_u F x1.toNatClampNeg N) Hs), (jm_W g n N), (jm_W g (jn_ad q2 o3) S4)]) (T := [(jm_W g (jn_ad q2 o3) S4), (jm_W g n N)]) hP hD [2, 1] [(false, 0), (true, 1), (true, 0)] (by rw [eS4]; try rfl) (by decide) rfl) (fun H locs hP hS => ?_)
    refine W.eq (g2 := F0 m 75 ls []) rfl ?_
    have hD : va_D A (List.flatten [(jh_X g h (ja_u p x1.toNatClampNeg (jn_ad q2 o3)) (jf_u F x1.toNatClampNeg N) Hs), (jm_W g n N), (jm_W g (jn_ad q2 o3) S4)]) := hDu _ _ _
    refine lv_aload_n hx hb dX1_record_75 rfl (lv_at hl 2 rfl) ?_
    refine lv_dup hx hb dX1_record_76 rfl ?_
    refine va_get (D := D) (ci := 1) (v := .int (jh_sz Hs)) (C := RX1) (T := TX1) (N := 3) hx hb hts hi_1 hown hK hP 0 rfl rfl 2 (by decide) hf_17 (fun _ h9 => h9) rfl dX1_record_77 ?_
    refine lv_iconst (v := 1) hx hb dX1_record_80 (by decide) ?_
    refine lv_iadd hx hb dX1_record_81 ?_
    refine lv_topi (fun x5 ex5 => ?_)
    refine va_put (D := D) (ci := 1) (v := .int x5) (ty := .int) (C := RX1) (T := TX1) (N := 3) hx hb hts hi_1 tyX1 tyX1_ok nmX1 hown hK hP hD hS 0 rfl rfl 2 (by decide) hf_17 (fun _ h9 => h9) rfl (by decide +kernel) rfl rfl (Nat.le_of_ble_eq_true rfl) dX1_record_82 (fun H locs hP hD hS => ?_)
    have hP : va_P D vwCl (List.flatten [(jh_X g h (ja_u p x1.toNatClampNeg (jn_ad q2 o3)) (jf_u F x1.toNatClampNeg N) (jh_usz Hs x5)), (jm_W g n N), (jm_W g (jn_ad q2 o3) S4)]) H := hP
    have hD : va_D A (List.flatten [(jh_X g h (ja_u p x1.toNatClampNeg (jn_ad q2 o3)) (jf_u F x1.toNatClampNeg N) (jh_usz Hs x5)), (jm_W g n N), (jm_W g (jn_ad q2 o3) S4)]) := hD
    have qex5 := ex5.symm; subst qex5
    have qeS4 := eS4.symm; subst qeS4
    have qex1 := ex1.symm; subst qex1
    rw [jh_ixn c_6] at hP hD
    exact jk_vretC (jn_ad q2 o3) hx hb hr hlocks hP hD hS (Nat.le_of_ble_eq_true rfl) (Nat.le_of_ble_eq_true rfl) (by rw [jh_recn c_6]) dX1_record_85
  · refine lv_aload_n hx hb dX1_record_9 rfl (lv_at hl 0 rfl) ?_
    refine lv_dup hx hb dX1_record_10 rfl ?_
    refine va_get (D := D) (ci := 1) (v := .int (jh_ol Hs)) (C := RX1) (T := TX1) (N := 3) hx hb hts hi_1 hown hK hP 0 rfl rfl 1 (by decide) hf_21 (fun _ h9 => h9) rfl dX1_record_11 ?_
    refine lv_iconst (v := 1) hx hb dX1_record_14 (by decide) ?_
    refine lv_iadd hx hb dX1_record_15 ?_
    refine lv_topi (fun x6 ex6 => ?_)
    refine va_put (D := D) (ci := 1) (v := .int x6) (ty := .int) (C := RX1) (T := TX1) (N := 3) hx hb hts hi_1 tyX1 tyX1_ok nmX1 hown hK hP hD hS 0 rfl rfl 1 (by decide) hf_21 (fun _ h9 => h9) rfl (by decide +kernel) rfl rfl (Nat.le_of_ble_eq_true rfl) dX1_record_16 (fun H locs hP hD hS => ?_)
    have hP : va_P D vwCl (List.flatten [(jh_X g h p F (jh_uol Hs x6)), (jm_W g n N)]) H := hP
    have hD : va_D A (List.flatten [(jh_X g h p F (jh_uol Hs x6)), (jm_W g n N)]) := hD
    refine lv_aload_n hx hb dX1_record_19 rfl (lv_at hl 0 rfl) ?_
    refine lv_dup hx hb dX1_record_20 rfl ?_
    refine va_get (D := D) (ci := 1) (v := .int (jh_sz Hs)) (C := RX1) (T := TX1) (N := 3) hx hb hts hi_1 hown hK hP 0 rfl rfl 2 (by decide) hf_17 (fun _ h9 => h9) rfl dX1_record_21 ?_
    refine lv_iconst (v := 1) hx hb dX1_record_24 (by decide) ?_
    refine lv_isub hx hb dX1_record_25 ?_
    refine lv_topi (fun x7 ex7 => ?_)
    refine va_put (D := D) (ci := 1) (v := .int x7) (ty := .int) (C := RX1) (T := TX1) (N := 3) hx hb hts hi_1 tyX1 tyX1_ok nmX1 hown hK hP hD hS 0 rfl rfl 2 (by decide) hf_17 (fun _ h9 => h9) rfl (by decide +kernel) rfl rfl (Nat.le_of_ble_eq_true rfl) dX1_record_26 (fun H locs hP hD hS => ?_)
    have hP : va_P D vwCl (List.flatten [(jh_X g h p F (jh_usz (jh_uol Hs x6) x7)), (jm_W g n N)]) H := hP
    have hD : va_D A (List.flatten [(jh_X g h p F (jh_usz (jh_uol Hs x6) x7)), (jm_W g n N)]) := hD
    refine lv_aload_n hx hb dX1_record_29 rfl (lv_at hl 0 rfl) ?_
    refine va_get (D := D) (ci := 1) (v := .int x6) (C := RX1) (T := TX1) (N := 3) hx hb hts hi_1 hown hK hP 0 rfl rfl 1 (by decide) hf_21 (fun _ h9 => h9) rfl dX1_record_30 ?_
    refine lv_aload_n hx hb dX1_record_33 rfl (lv_at hl 0 rfl) ?_
    refine va_get (D := D) (ci := 1) (v := .int x7) (C := RX1) (T := TX1) (N := 3) hx hb hts hi_1 hown hK hP 0 rfl rfl 2 (by decide) hf_17 (fun _ h9 => h9) rfl dX1_record_34 ?_
    refine lv_iadd hx hb dX1_record_37 ?_
    refine lv_bipush (v := 6) hx hb dX1_record_38 (by decide) ?_
    refine jk_callS (As := [.int (x6 + x7), .int 6]) (rest := []) (ws1 := (List.flatten [(jh_X g h p F (jh_usz (jh_uol Hs x6) x7)), (jm_W g n N)])) ⟨hx, hb, hml, hown, hts⟩ (c_J9_floorMod_7cf53 l D g (x6 + x7) (6 : Int32) (by decide)) (va_cwS 2 hts gX1_record_J9_floorMod_7cf53 rfl rfl rfl (by decide +kernel) ⟨Nat.le_of_ble_eq_true rfl, Nat.le_of_ble_eq_true rfl⟩) jk_nilP (jk_nilD (A := A)) hK hN rfl hl rfl (Nat.le_of_ble_eq_true rfl) dX1_record_40 ⟨Nat.le_of_ble_eq_true rfl, Nat.le_of_ble_eq_true rfl⟩ hS hA (fun _ _ hk => jk_keep hP hk) (fun H locs hP hS => ?_)
    refine W.eq (g2 := F0 m 43 ls [.int (rJ9_floorMod_7cf53 (x6 + x7) (6 : Int32))]) rfl ?_
    refine lv_topi (fun x8 ex8 => ?_)
    refine lv_istore_n (lv' := [(2, .int x8), (0, .ref (h 0)), (1, .ref (n 0))]) hx hb dX1_record_43 rfl hl (by decide) rfl (fun ls hl => ?_)
    refine lv_aload_n hx hb dX1_record_44 rfl (lv_at hl 1 rfl) ?_
    refine va_get (D := D) (ci := 1) (v := .ref (h 1)) (C := RX1) (T := TX1) (N := 3) hx hb hts hi_1 hown hK hP 0 rfl rfl 0 (by decide) hf_11 (fun _ h9 => h9) rfl dX1_record_45 ?_
    refine lv_iload_n hx hb dX1_record_48 rfl (lv_at hl 0 rfl) ?_
    refine va_aldq (f := (jq p F)) hx hb hK hP 1 2 rfl rfl (by have qex8 := ex8.symm; subst qex8; have qex7 := ex7.symm; subst qex7; have qex6 := ex6.symm; subst qex6; exact jh_fm_in _) dX1_record_49 ?_
    refine W.eq (g2 := F0 m 50 ls [.null]) (by rw [show va_rf ((jq p F) x8.toNatClampNeg) = .null from (by have qex8 := ex8.symm; subst qex8; have qex7 := ex7.symm; subst qex7; have qex6 := ex6.symm; subst qex6; exact jh_aldn (jh_ix6 c_6) hF)]) ?_
    refine lv_astore_nN (lv' := [(3, .null), (2, .int x8), (0, .ref (h 0)), (1, .ref (n 0))]) hx hb dX1_record_50 rfl hl (by decide) rfl (fun ls hl => ?_)
    refine lv_aload_nN hx hb dX1_record_51 rfl (lv_at hl 0 rfl) ?_
    refine lv_ifnonnullN hx hb dX1_record_52 ?_
    refine va_new (ci := 2) (fs := [.null, .null, .null, .null, .null, .null, .int 0, .int 0, .int 0, .int 0, .int 0, .int 0, .int 0]) (C := RX2) (T := TX2) (N := 13) hx hb hts hi_2 tyX2 tyX2_ok hown hw__classLink_RX1_9_RX2 hw__instantiable_RX2_13 hw__initialized_RX2 hK hP hD hS hA rfl (fun j hj => by rcases (show j = 0 ∨ j = 1 ∨ j = 2 ∨ j = 3 ∨ j = 4 ∨ j = 5 ∨ j = 6 ∨ j = 7 ∨ j = 8 ∨ j = 9 ∨ j = 10 ∨ j = 11 ∨ j = 12 by omega) with rfl | rfl | rfl | rfl | rfl | rfl | rfl | rfl | rfl | rfl | rfl | rfl | rfl <;> rfl) (Nat.le_of_ble_eq_true rfl) (Nat.le_of_ble_eq_true rfl) dX1_record_55 (fun q9 H hP hD hS => ?_)
    have hP : va_P D vwCl (List.flatten [(jh_X g h p F (jh_usz (jh_uol Hs x6) x7)), (jm_W g n N), [(q9, .inr (2, [.null, .null, .null, .null, .null, .null, .int 0, .int 0, .int 0, .int 0, .int 0, .int 0, .int 0]))]]) H := hP
    have hD : va_D A (List.flatten [(jh_X g h p F (jh_usz (jh_uol Hs x6) x7)), (jm_W g n N), [(q9, .inr (2, [.null, .null, .null, .null, .null, .null, .int 0, .int 0, .int 0, .int 0, .int 0, .int 0, .int 0]))]]) := hD
    have hDu : ∀ (z0 : jh_T) (z1 : jm_T), va_D A (List.flatten [(jh_X g h p F z0), (jm_W g n z1), [(q9, .inr (2, [.null, .null, .null, .null, .null, .null, .int 0, .int 0, .int 0, .int 0, .int 0, .int 0, .int 0]))]]) := fun z0 z1 => jk_D.same hD rfl
    refine lv_dup hx hb dX1_record_58 rfl ?_
    have hDc : va_D A [(q9, .inr (2, [.null, .null, .null, .null, .null, .null, .int 0, .int 0, .int 0, .int 0, .int 0, .int 0, .int 0]))] := jk_oneD.mp (jk_segSubD (L := [(jh_X g h p F (jh_usz (jh_uol Hs x6) x7)), (jm_W g n N), [(q9, .inr (2, [.null, .null, .null, .null, .null, .null, .int 0, .int 0, .int 0, .int 0, .int 0, .int 0, .int 0]))]]) hD [2] (by decide))
    refine jk_callINC (host := RX4) (As := []) (rest := [.ref q9]) (ws1 := fun o10 => List.flatten [(jh_X g h p F (jh_usz (jh_uol Hs x6) x7)), (jm_W g n N), (jm_W g (jn_ad q9 o10) jm_0)]) ⟨hx, hb, hml, hown, hts⟩ (c_X2_init l D g q9) (fun _ _ _ _ _ h => h) (fun _ _ _ => trivial) ⟨va_cnB 0 hts gX1_record_X2_init_n30 rfl rfl rfl hN.2.2.2.2.1 hw__initialized_RX2 (by decide +kernel) ⟨Nat.le_of_ble_eq_true rfl, Nat.le_of_ble_eq_true rfl⟩, rfl, hw__instanceMethod_yX2_init⟩ (jk_one.mp (jk_segSub (L := [(jh_X g h p F (jh_usz (jh_uol Hs x6) x7)), (jm_W g n N), [(q9, .inr (2, [.null, .null, .null, .null, .null, .null, .int 0, .int 0, .int 0, .int 0, .int 0, .int 0, .int 0]))]]) hP [2])) hDc hK hN rfl hl rfl (Nat.le_of_ble_eq_true rfl) dX1_record_59 ⟨Nat.le_of_ble_eq_true rfl, Nat.le_of_ble_eq_true rfl⟩ hS hA (fun o10 => jk_seg1 (L := [(jh_X g h p F (jh_usz (jh_uol Hs x6) x7)), (jm_W g n N), [(q9, .inr (2, [.null, .null, .null, .null, .null, .null, .int 0, .int 0, .int 0, .int 0, .int 0, .int 0, .int 0]))]]) (L' := [(jh_X g h p F (jh_usz (jh_uol Hs x6) x7)), (jm_W g n N), (jm_W g (jn_ad q9 o10) jm_0)]) (T := (jm_W g (jn_ad q9 o10) jm_0)) hP hD 2 [(false, 0), (false, 1), (true, 0)] (by decide) rfl) (fun o10 => jk_segD (L := [(jh_X g h p F (jh_usz (jh_uol Hs x6) x7)), (jm_W g n N), [(q9, .inr (2, [.null, .null, .null, .null, .null, .null, .int 0, .int 0, .int 0, .int 0, .int 0, .int 0, .int 0]))]]) (L' := [(jh_X g h p F (jh_usz (jh_uol Hs x6) x7)), (jm_W g n N), (jm_W g (jn_ad q9 o10) jm_0)]) (T := [(jm_W g (jn_ad q9 o10) jm_0)]) hP hD [2] [(false, 0), (false, 1), (true, 0)] (by rw [List.flatten_cons, List.flatten_nil, List.append_nil]) (by decide) (by decide) rfl (fun _ h => h) (jk_freeA hDc hS hA)) (fun o10 H locs hP hD hS => ?_)
    refine W.eq (g2 := F0 m 62 ls [.ref q9]) rfl ?_
    have hP : va_P D vwCl (List.flatten [(jh_X g h p F (jh_usz (jh_uol Hs x6) x7)), (jm_W g n N), (jm_W g (jn_ad q9 o10) jm_0)]) H := hP
    have hD : va_D A (List.flatten [(jh_X g h p F (jh_usz (jh_uol Hs x6) x7)), (jm_W g n N), (jm_W g (jn_ad q9 o10) jm_0)]) := hD
    have hDu : ∀ (z0 : jh_T) (z1 : jm_T) (z2 : jm_T), va_D A (List.flatten [(jh_X g h p F z0), (jm_W g n z1), (jm_W g (jn_ad q9 o10) z2)]) := fun z0 z1 z2 => jk_D.same hD rfl
    refine lv_astore_n (lv' := [(3, .ref q9), (2, .int x8), (0, .ref (h 0)), (1, .ref (n 0))]) hx hb dX1_record_62 rfl hl (by decide) rfl (fun ls hl => ?_)
    refine lv_aload_n hx hb dX1_record_63 rfl (lv_at hl 2 rfl) ?_
    refine va_get (D := D) (ci := 1) (v := .ref (h 1)) (C := RX1) (T := TX1) (N := 3) hx hb hts hi_1 hown hK hP 0 rfl rfl 0 (by decide) hf_11 (fun _ h9 => h9) rfl dX1_record_64 ?_
    refine lv_iload_n hx hb dX1_record_67 rfl (lv_at hl 1 rfl) ?_
    refine lv_aload_n hx hb dX1_record_68 rfl (lv_at hl 0 rfl) ?_
    refine va_astq (f := (jq p F)) hx hb hK hP hD hS 1 2 9 2 rfl rfl rfl rfl (by have qex8 := ex8.symm; subst qex8; have qex7 := ex7.symm; subst qex7; have qex6 := ex6.symm; subst qex6; exact jh_fm_in _) dX1_record_69 (fun H locs hP hD hS => ?_)
    have hq9 : va_up (jq p F) x8.toNatClampNeg (some ((jn_ad q9 o10) 0)) = jq (ja_u p x8.toNatClampNeg (jn_ad q9 o10)) (jf_u F x8.toNatClampNeg N) := jq_up _ _ _ (jn_ad q9 o10) _
    rw [hq9] at hP hD
    have hP : va_P D vwCl (List.flatten [(jh_X g h (ja_u p x8.toNatClampNeg (jn_ad q9 o10)) (jf_u F x8.toNatClampNeg N) (jh_usz (jh_uol Hs x6) x7)), (jm_W g n N), (jm_W g (jn_ad q9 o10) jm_0)]) H := hP
    have hD : va_D A (List.flatten [(jh_X g h (ja_u p x8.toNatClampNeg (jn_ad q9 o10)) (jf_u F x8.toNatClampNeg N) (jh_usz (jh_uol Hs x6) x7)), (jm_W g n N), (jm_W g (jn_ad q9 o10) jm_0)]) := hD
    have hDu : ∀ (z0 : jh_T) (z1 : jm_T) (z2 : jm_T), va_D A (List.flatten [(jh_X g h (ja_u p x8.toNatClampNeg (jn_ad q9 o10)) (jf_u F x8.toNatClampNeg N) z0), (jm_W g n z1), (jm_W g (jn_ad q9 o10) z2)]) := fun z0 z1 z2 => jk_D.same hD rfl
    refine lv_aload_n hx hb dX1_record_70 rfl (lv_at hl 0 rfl) ?_
    refine lv_aload_n hx hb dX1_record_71 rfl (lv_at hl 3 rfl) ?_
    obtain ⟨S11, eS11⟩ : ∃ z : jm_T, z = N := ⟨_, rfl⟩
    refine jk_callV (As := [.ref (n 0)]) (rest := []) (ws1 := (List.flatten [(jh_X g h (ja_u p x8.toNatClampNeg (jn_ad q9 o10)) (jf_u F x8.toNatClampNeg N) (jh_usz (jh_uol Hs x6) x7)), (jm_W g n N), (jm_W g (jn_ad q9 o10) S11)])) ⟨hx, hb, hml, hown, hts⟩ (c_X2_become l D g (jn_ad q9 o10) jm_0 n N) (cwV 1 hts gX1_record_X2_become rfl rfl rfl (by decide +kernel) ⟨Nat.le_of_ble_eq_true rfl, Nat.le_of_ble_eq_true rfl⟩) (va_recv hK hP (ci := 2) (q0 := 9) rfl rfl) (show va_P D vwCl (List.flatten [(jm_W g (jn_ad q9 o10) jm_0), (jm_W g n N)]) H from  (jk_segSub (L := [(jh_X g h (ja_u p x8.toNatClampNeg (jn_ad q9 o10)) (jf_u F x8.toNatClampNeg N) (jh_usz (jh_uol Hs x6) x7)), (jm_W g n N), (jm_W g (jn_ad q9 o10) jm_0)]) hP [2, 1])) (show va_D A (List.flatten [(jm_W g (jn_ad q9 o10) jm_0), (jm_W g n N)]) from  (jk_segSubD (L := [(jh_X g h (ja_u p x8.toNatClampNeg (jn_ad q9 o10)) (jf_u F x8.toNatClampNeg N) (jh_usz (jh_uol Hs x6) x7)), (jm_W g n N), (jm_W g (jn_ad q9 o10) jm_0)]) hD [2, 1] (by decide))) hK hN rfl hl rfl (Nat.le_of_ble_eq_true rfl) dX1_record_72 ⟨Nat.le_of_ble_eq_true rfl, Nat.le_of_ble_eq_true rfl⟩ hS hA (jk_seg (L := [(jh_X g h (ja_u p x8.toNatClampNeg (jn_ad q9 o10)) (jf_u F x8.toNatClampNeg N) (jh_usz (jh_uol Hs x6) x7)), (jm_W g n N), (jm_W g (jn_ad q9 o10) jm_0)]) (L' := [(jh_X g h (ja_u p x8.toNatClampNeg (jn_ad q9 o10)) (jf_u F x8.toNatClampNeg N) (jh_usz (jh_uol Hs x6) x7)), (jm_W g n N), (jm_W g (jn_ad q9 o10) S11)]) (T := [(jm_W g (jn_ad q9 o10) S11), (jm_W g n N)]) hP hD [2, 1] [(false, 0), (true, 1), (true, 0)] (by rw [eS11]; try rfl) (by decide) rfl) (fun H locs hP hS => ?_)
    refine W.eq (g2 := F0 m 75 ls []) rfl ?_
    have hD : va_D A (List.flatten [(jh_X g h (ja_u p x8.toNatClampNeg (jn_ad q9 o10)) (jf_u F x8.toNatClampNeg N) (jh_usz (jh_uol Hs x6) x7)), (jm_W g n N), (jm_W g (jn_ad q9 o10) S11)]) := hDu _ _ _
    refine lv_aload_n hx hb dX1_record_75 rfl (lv_at hl 2 rfl) ?_
    refine lv_dup hx hb dX1_record_76 rfl ?_
    refine va_get (D := D) (ci := 1) (v := .int x7) (C := RX1) (T := TX1) (N := 3) hx hb hts hi_1 hown hK hP 0 rfl rfl 2 (by decide) hf_17 (fun _ h9 => h9) rfl dX1_record_77 ?_
    refine lv_iconst (v := 1) hx hb dX1_record_80 (by decide) ?_
    refine lv_iadd hx hb dX1_record_81 ?_
    refine lv_topi (fun x12 ex12 => ?_)
    refine va_put (D := D) (ci := 1) (v := .int x12) (ty := .int) (C := RX1) (T := TX1) (N := 3) hx hb hts hi_1 tyX1 tyX1_ok nmX1 hown hK hP hD hS 0 rfl rfl 2 (by decide) hf_17 (fun _ h9 => h9) rfl (by decide +kernel) rfl rfl (Nat.le_of_ble_eq_true rfl) dX1_record_82 (fun H locs hP hD hS => ?_)
    have hP : va_P D vwCl (List.flatten [(jh_X g h (ja_u p x8.toNatClampNeg (jn_ad q9 o10)) (jf_u F x8.toNatClampNeg N) (jh_usz (jh_uol Hs x6) x12)), (jm_W g n N), (jm_W g (jn_ad q9 o10) S11)]) H := hP
    have hD : va_D A (List.flatten [(jh_X g h (ja_u p x8.toNatClampNeg (jn_ad q9 o10)) (jf_u F x8.toNatClampNeg N) (jh_usz (jh_uol Hs x6) x12)), (jm_W g n N), (jm_W g (jn_ad q9 o10) S11)]) := hD
    have qex12 := ex12.symm; subst qex12
    have qeS11 := eS11.symm; subst qeS11
    have qex8 := ex8.symm; subst qex8
    have qex7 := ex7.symm; subst qex7
    have qex6 := ex6.symm; subst qex6
    rw [jh_ix6 c_6] at hP hD
    exact jk_vretC (jn_ad q9 o10) hx hb hr hlocks hP hD hS (Nat.le_of_ble_eq_true rfl) (Nat.le_of_ble_eq_true rfl) (by rw [jh_rec6 c_6]) dX1_record_85

set_option maxHeartbeats 1000000 in
set_option maxRecDepth 100000 in
theorem c_X1_takeBack_0 (l : Launch) (D : va_G) (g : jk_G) (h : Nat → Nat) (p : (Nat → Nat → Nat)) (F : jf_T) (Hs : jh_T) (n : Nat → Nat) (N : jm_T) (hz : jh_sz Hs = 0) : jk_M l D g yX1_takeBack wsX1_takeBack 0 0 [.ref (h 0), .ref (n 0)] (List.flatten [(jh_X g h p F Hs), (jm_W g n N)]) (some (.int 0)) (List.flatten [(jh_X g h p F Hs), (jm_W g n N)]) := by
  refine jk_of (cc := cX1_takeBack) (maxL := 3) (ret := (some .boolean)) (by decide +kernel) rfl (Nat.le_of_ble_eq_true rfl) ?_
  intro pp e s m args below meth c hx hb hr hml hts hown hlocks hK hN A H locs hP hD hA hS ls hl
  have hown : s.vm.findClass RX1 = some m.cls := hown
  have hl : lv_has ls 3 [(0, .ref (h 0)), (1, .ref (n 0))] := hl
  have hDu : ∀ (z0 : jh_T) (z1 : jm_T), va_D A (List.flatten [(jh_X g h p F z0), (jm_W g n z1)]) := fun z0 z1 => jk_D.same hD rfl
  have hf_17 := hts (.fieldLink RX1 17 "InfluenceJars$History" "size" "I") (by decide +kernel)
  have hi_1 : ∀ w ∈ u_ws RX1 TX1 3, w ∈ wsX1_takeBack := by decide +kernel
  refine lv_aload_n hx hb dX1_takeBack_0 rfl (lv_at hl 0 rfl) ?_
  refine va_get (D := D) (ci := 1) (v := .int (jh_sz Hs)) (C := RX1) (T := TX1) (N := 3) hx hb hts hi_1 hown hK hP 0 rfl rfl 2 (by decide) hf_17 (fun _ h9 => h9) rfl dX1_takeBack_1 ?_
  refine lv_if_ne (tgt := 9) hx hb dX1_takeBack_4 (by decide) (fun c_4 => ?_) (fun c_4 => ?_)
  · exact absurd hz c_4
  · refine lv_iconst (v := 0) hx hb dX1_takeBack_7 (by decide) ?_
    exact jk_zret hx hb hr rfl hlocks hP hS rfl rfl dX1_takeBack_8

set_option maxHeartbeats 1000000 in
set_option maxRecDepth 100000 in
theorem c_X1_takeBack_s (l : Launch) (D : va_G) (g : jk_G) (h : Nat → Nat) (p : (Nat → Nat → Nat)) (F : jf_T) (Hs : jh_T) (n : Nat → Nat) (N : jm_T) (Mj : jm_T) (hz : ¬ jh_sz Hs = 0) (hF : F (jh_ib Hs).toNatClampNeg = some Mj) : jk_M l D g yX1_takeBack wsX1_takeBack 3 102 [.ref (h 0), .ref (n 0)] (List.flatten [(jh_X g h p F Hs), (jm_W g n N), (jm_W g (p (jh_ib Hs).toNatClampNeg) Mj)]) (some (.int 1)) (List.flatten [(jh_X g h p F (jh_usz Hs (jh_sz Hs - 1))), (jm_W g n Mj), (jm_W g (p (jh_ib Hs).toNatClampNeg) Mj)]) := by
  refine jk_of (cc := cX1_takeBack) (maxL := 3) (ret := (some .boolean)) (by decide +kernel) rfl (Nat.le_of_ble_eq_true rfl) ?_
  intro pp e s m args below meth c hx hb hr hml hts hown hlocks hK hN A H locs hP hD hA hS ls hl
  have hown : s.vm.findClass RX1 = some m.cls := hown
  have hl : lv_has ls 3 [(0, .ref (h 0)), (1, .ref (n 0))] := hl
  have hDu : ∀ (z0 : jh_T) (z1 : jm_T) (z2 : jm_T), va_D A (List.flatten [(jh_X g h p F z0), (jm_W g n z1), (jm_W g (p (jh_ib Hs).toNatClampNeg) z2)]) := fun z0 z1 z2 => jk_D.same hD rfl
  have hf_17 := hts (.fieldLink RX1 17 "InfluenceJars$History" "size" "I") (by decide +kernel)
  have hi_1 : ∀ w ∈ u_ws RX1 TX1 3, w ∈ wsX1_takeBack := by decide +kernel
  have hf_11 := hts (.fieldLink RX1 11 "InfluenceJars$History" "states" "[LInfluenceJars$Machine;") (by decide +kernel)
  have hf_21 := hts (.fieldLink RX1 21 "InfluenceJars$History" "oldest" "I") (by decide +kernel)
  refine lv_aload_n hx hb dX1_takeBack_0 rfl (lv_at hl 0 rfl) ?_
  refine va_get (D := D) (ci := 1) (v := .int (jh_sz Hs)) (C := RX1) (T := TX1) (N := 3) hx hb hts hi_1 hown hK hP 0 rfl rfl 2 (by decide) hf_17 (fun _ h9 => h9) rfl dX1_takeBack_1 ?_
  refine lv_if_ne (tgt := 9) hx hb dX1_takeBack_4 (by decide) (fun c_4 => ?_) (fun c_4 => ?_)
  · refine lv_aload_n hx hb dX1_takeBack_9 rfl (lv_at hl 0 rfl) ?_
    refine va_get (D := D) (ci := 1) (v := .ref (h 1)) (C := RX1) (T := TX1) (N := 3) hx hb hts hi_1 hown hK hP 0 rfl rfl 0 (by decide) hf_11 (fun _ h9 => h9) rfl dX1_takeBack_10 ?_
    refine lv_aload_n hx hb dX1_takeBack_13 rfl (lv_at hl 0 rfl) ?_
    refine va_get (D := D) (ci := 1) (v := .int (jh_ol Hs)) (C := RX1) (T := TX1) (N := 3) hx hb hts hi_1 hown hK hP 0 rfl rfl 1 (by decide) hf_21 (fun _ h9 => h9) rfl dX1_takeBack_14 ?_
    refine lv_aload_n hx hb dX1_takeBack_17 rfl (lv_at hl 0 rfl) ?_
    refine va_get (D := D) (ci := 1) (v := .int (jh_sz Hs)) (C := RX1) (T := TX1) (N := 3) hx hb hts hi_1 hown hK hP 0 rfl rfl 2 (by decide) hf_17 (fun _ h9 => h9) rfl dX1_takeBack_18 ?_
    refine lv_iadd hx hb dX1_takeBack_21 ?_
    refine lv_iconst (v := 1) hx hb dX1_takeBack_22 (by decide) ?_
    refine lv_isub hx hb dX1_takeBack_23 ?_
    refine lv_topi (fun x1 ex1 => ?_)
    refine lv_bipush (v := 6) hx hb dX1_takeBack_24 (by decide) ?_
    refine jk_callS (As := [.int x1, .int 6]) (rest := [.ref (h 1)]) (ws1 := (List.flatten [(jh_X g h p F Hs), (jm_W g n N), (jm_W g (p (jh_ib Hs).toNatClampNeg) Mj)])) ⟨hx, hb, hml, hown, hts⟩ (c_J9_floorMod_7cf53 l D g x1 (6 : Int32) (by decide)) (va_cwS 2 hts gX1_takeBack_J9_floorMod_7cf53 rfl rfl rfl (by decide +kernel) ⟨Nat.le_of_ble_eq_true rfl, Nat.le_of_ble_eq_true rfl⟩) jk_nilP (jk_nilD (A := A)) hK hN rfl hl rfl (Nat.le_of_ble_eq_true rfl) dX1_takeBack_26 ⟨Nat.zero_le _, Nat.zero_le _⟩ hS hA (fun _ _ hk => jk_keep hP hk) (fun H locs hP hS => ?_)
    refine W.eq (g2 := F0 m 29 ls [.int (rJ9_floorMod_7cf53 x1 (6 : Int32)), .ref (h 1)]) rfl ?_
    refine lv_topi (fun x2 ex2 => ?_)
    refine va_aldq (f := (jq p F)) hx hb hK hP 1 2 rfl rfl (by have qex2 := ex2.symm; subst qex2; have qex1 := ex1.symm; subst qex1; exact jh_fm_in _) dX1_takeBack_29 ?_
    refine W.eq (g2 := F0 m 30 ls [.ref ((p (jh_ib Hs).toNatClampNeg) 0)]) (by rw [show va_rf ((jq p F) x2.toNatClampNeg) = .ref ((p (jh_ib Hs).toNatClampNeg) 0) from (by have qex2 := ex2.symm; subst qex2; have qex1 := ex1.symm; subst qex1; exact jh_ald rfl hF)]) ?_
    refine lv_astore_n (lv' := [(2, .ref ((p (jh_ib Hs).toNatClampNeg) 0)), (0, .ref (h 0)), (1, .ref (n 0))]) hx hb dX1_takeBack_30 rfl hl (by decide) rfl (fun ls hl => ?_)
    refine lv_aload_n hx hb dX1_takeBack_31 rfl (lv_at hl 0 rfl) ?_
    refine lv_ifnonnull (tgt := 37) hx hb dX1_takeBack_32 (by decide) ?_
    refine lv_aload_n hx hb dX1_takeBack_37 rfl (lv_at hl 2 rfl) ?_
    refine lv_aload_n hx hb dX1_takeBack_38 rfl (lv_at hl 0 rfl) ?_
    obtain ⟨S3, eS3⟩ : ∃ z : jm_T, z = Mj := ⟨_, rfl⟩
    refine jk_callV (As := [.ref ((p (jh_ib Hs).toNatClampNeg) 0)]) (rest := []) (ws1 := (List.flatten [(jh_X g h p F Hs), (jm_W g n S3), (jm_W g (p (jh_ib Hs).toNatClampNeg) Mj)])) ⟨hx, hb, hml, hown, hts⟩ (c_X2_become l D g n N (p (jh_ib Hs).toNatClampNeg) Mj) (cwV 1 hts gX1_takeBack_X2_become rfl rfl rfl (by decide +kernel) ⟨Nat.le_of_ble_eq_true rfl, Nat.le_of_ble_eq_true rfl⟩) (va_recv hK hP (ci := 2) (q0 := 2) rfl rfl) (show va_P D vwCl (List.flatten [(jm_W g n N), (jm_W g (p (jh_ib Hs).toNatClampNeg) Mj)]) H from  (jk_segSub (L := [(jh_X g h p F Hs), (jm_W g n N), (jm_W g (p (jh_ib Hs).toNatClampNeg) Mj)]) hP [1, 2])) (show va_D A (List.flatten [(jm_W g n N), (jm_W g (p (jh_ib Hs).toNatClampNeg) Mj)]) from  (jk_segSubD (L := [(jh_X g h p F Hs), (jm_W g n N), (jm_W g (p (jh_ib Hs).toNatClampNeg) Mj)]) hD [1, 2] (by decide))) hK hN rfl hl rfl (Nat.le_of_ble_eq_true rfl) dX1_takeBack_39 ⟨Nat.zero_le _, Nat.zero_le _⟩ hS hA (jk_seg (L := [(jh_X g h p F Hs), (jm_W g n N), (jm_W g (p (jh_ib Hs).toNatClampNeg) Mj)]) (L' := [(jh_X g h p F Hs), (jm_W g n S3), (jm_W g (p (jh_ib Hs).toNatClampNeg) Mj)]) (T := [(jm_W g n S3), (jm_W g (p (jh_ib Hs).toNatClampNeg) Mj)]) hP hD [1, 2] [(false, 0), (true, 0), (true, 1)] (by rw [eS3]; try rfl) (by decide) rfl) (fun H locs hP hS => ?_)
    refine W.eq (g2 := F0 m 42 ls []) rfl ?_
    have hD : va_D A (List.flatten [(jh_X g h p F Hs), (jm_W g n S3), (jm_W g (p (jh_ib Hs).toNatClampNeg) Mj)]) := hDu _ _ _
    refine lv_aload_n hx hb dX1_takeBack_42 rfl (lv_at hl 1 rfl) ?_
    refine lv_dup hx hb dX1_takeBack_43 rfl ?_
    refine va_get (D := D) (ci := 1) (v := .int (jh_sz Hs)) (C := RX1) (T := TX1) (N := 3) hx hb hts hi_1 hown hK hP 0 rfl rfl 2 (by decide) hf_17 (fun _ h9 => h9) rfl dX1_takeBack_44 ?_
    refine lv_iconst (v := 1) hx hb dX1_takeBack_47 (by decide) ?_
    refine lv_isub hx hb dX1_takeBack_48 ?_
    refine lv_topi (fun x4 ex4 => ?_)
    refine va_put (D := D) (ci := 1) (v := .int x4) (ty := .int) (C := RX1) (T := TX1) (N := 3) hx hb hts hi_1 tyX1 tyX1_ok nmX1 hown hK hP hD hS 0 rfl rfl 2 (by decide) hf_17 (fun _ h9 => h9) rfl (by decide +kernel) rfl rfl (Nat.le_of_ble_eq_true rfl) dX1_takeBack_49 (fun H locs hP hD hS => ?_)
    have hP : va_P D vwCl (List.flatten [(jh_X g h p F (jh_usz Hs x4)), (jm_W g n S3), (jm_W g (p (jh_ib Hs).toNatClampNeg) Mj)]) H := hP
    have hD : va_D A (List.flatten [(jh_X g h p F (jh_usz Hs x4)), (jm_W g n S3), (jm_W g (p (jh_ib Hs).toNatClampNeg) Mj)]) := hD
    refine lv_iconst (v := 1) hx hb dX1_takeBack_52 (by decide) ?_
    have qex4 := ex4.symm; subst qex4
    have qeS3 := eS3.symm; subst qeS3
    have qex2 := ex2.symm; subst qex2
    have qex1 := ex1.symm; subst qex1
    have es0 : (jh_usz Hs ((jh_sz Hs) - 1)) = (jh_usz Hs (jh_sz Hs - 1)) := rfl
    have es1 : Mj = Mj := rfl
    exact jk_zret hx hb hr rfl hlocks hP hS rfl (jk_cg2 (fun z0 z1 => (List.flatten [(jh_X g h p F z0), (jm_W g n z1), (jm_W g (p (jh_ib Hs).toNatClampNeg) Mj)])) es0 es1) dX1_takeBack_53
  · exact absurd c_4 hz
