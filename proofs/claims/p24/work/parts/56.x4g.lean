def sX4_doReadDeed_1 (N : jm_T) (Q : jd_T) : jm_T := if (jd_de Q) = 0 then (let S6 : jm_T := sX2_putCharge N (jd_di Q) (jd_pl Q) (jd_am Q); let x7 : Int32 := rX2_putCharge N (jd_di Q) (jd_pl Q) (jd_am Q); S6) else (if (jd_de Q) = 2 then (let S4 : jm_T := sX2_emptyJars N; let x5 : Int32 := rX2_emptyJars N; S4) else (let x1 : Int32 := rX2_hasTurnsLeft N (jd_am Q); if x1 = 0 then (N) else (let S2 : jm_T := lp_turn N (jd_am Q).toNatClampNeg; let x3 : Int32 := jm_sp (lp_turn N (jd_am Q).toNatClampNeg) - jm_sp N; S2)))
set_option maxHeartbeats 1000000 in
set_option maxRecDepth 100000 in
theorem c_X4_doReadDeed (l : Launch) (D : va_G) (g : jk_G) (xx : Nat → Nat) (n : Nat → Nat) (t : Nat → Nat) (h : Nat → Nat) (z : Nat → Nat) (d : Nat → Nat) (b : Nat → Nat) (N : jm_T) (Q : jd_T)  : jk_M l D g yX4_doReadDeed wsX4_doReadDeed 6 140 [.ref (xx 0)] (List.flatten [(jo_X xx (n 0) (t 0) (h 0) (z 0) (d 0) (b 0)), (jm_W g n N), (jd_X g d (b 0) Q)]) none (List.flatten [(jo_X xx (n 0) (t 0) (h 0) (z 0) (d 0) (b 0)), (jm_W g n (sX4_doReadDeed_1 N Q)), (jd_X g d (b 0) Q)]) := by
  refine jk_of (cc := cX4_doReadDeed) (maxL := 1) (ret := none) (by decide +kernel) rfl (Nat.le_of_ble_eq_true rfl) ?_
  intro p e s m args below meth c hx hb hr hml hts hown hlocks hK hN A H locs hP hD hA hS ls hl
  have hown : s.vm.findClass RX4 = some m.cls := hown
  have hl : lv_has ls 1 [(0, .ref (xx 0))] := hl
  have hDu : ∀ (z1 : jm_T) (z2 : jd_T), va_D A (List.flatten [(jo_X xx (n 0) (t 0) (h 0) (z 0) (d 0) (b 0)), (jm_W g n z1), (jd_X g d (b 0) z2)]) := fun z1 z2 => jk_D.same hD rfl
  have hf_33 := hts (.fieldLink RX4 33 "InfluenceJars" "reader" "LInfluenceJars$DeedReader;") (by decide +kernel)
  have hi_4 : ∀ w ∈ u_ws RX4 TX4 6, w ∈ wsX4_doReadDeed := by decide +kernel
  have hf_116 := hts (.fieldLink RX4 116 "InfluenceJars$DeedReader" "deed" "I") (by decide +kernel)
  have hi_0 : ∀ w ∈ u_ws RX0 TX0 6, w ∈ wsX4_doReadDeed := by decide +kernel
  have hf_10 := hts (.fieldLink RX4 10 "InfluenceJars" "now" "LInfluenceJars$Machine;") (by decide +kernel)
  have hf_125 := hts (.fieldLink RX4 125 "InfluenceJars$DeedReader" "amount" "I") (by decide +kernel)
  have hf_119 := hts (.fieldLink RX4 119 "InfluenceJars$DeedReader" "disc" "I") (by decide +kernel)
  have hf_122 := hts (.fieldLink RX4 122 "InfluenceJars$DeedReader" "place" "I") (by decide +kernel)
  refine lv_aload_n hx hb dX4_doReadDeed_0 rfl (lv_at hl 0 rfl) ?_
  refine va_get (D := D) (ci := 4) (v := .ref (d 0)) (C := RX4) (T := TX4) (N := 6) hx hb hts hi_4 hown hK hP 0 rfl rfl 4 (by decide) hf_33 (fun _ h9 => h9) rfl dX4_doReadDeed_1 ?_
  refine va_get (D := D) (ci := 0) (v := .int (jd_de Q)) (C := RX0) (T := TX0) (N := 6) hx hb hts hi_0 hown hK hP 8 rfl rfl 2 (by decide) hf_116 (fun _ h9 => h9) rfl dX4_doReadDeed_4 ?_
  refine lv_if_ne (tgt := 42) hx hb dX4_doReadDeed_7 (by decide) (fun c_7 => ?_) (fun c_7 => ?_)
  · refine lv_aload_n hx hb dX4_doReadDeed_42 rfl (lv_at hl 0 rfl) ?_
    refine va_get (D := D) (ci := 4) (v := .ref (d 0)) (C := RX4) (T := TX4) (N := 6) hx hb hts hi_4 hown hK hP 0 rfl rfl 4 (by decide) hf_33 (fun _ h9 => h9) rfl dX4_doReadDeed_43 ?_
    refine va_get (D := D) (ci := 0) (v := .int (jd_de Q)) (C := RX0) (T := TX0) (N := 6) hx hb hts hi_0 hown hK hP 8 rfl rfl 2 (by decide) hf_116 (fun _ h9 => h9) rfl dX4_doReadDeed_46 ?_
    refine lv_iconst (v := 2) hx hb dX4_doReadDeed_49 (by decide) ?_
    refine lv_icmp_ne (tgt := 64) hx hb dX4_doReadDeed_50 (by decide) (fun c_50 => ?_) (fun c_50 => ?_)
    · refine lv_aload_n hx hb dX4_doReadDeed_64 rfl (lv_at hl 0 rfl) ?_
      refine va_get (D := D) (ci := 4) (v := .ref (n 0)) (C := RX4) (T := TX4) (N := 6) hx hb hts hi_4 hown hK hP 0 rfl rfl 0 (by decide) hf_10 (fun _ h9 => h9) rfl dX4_doReadDeed_65 ?_
      refine lv_aload_n hx hb dX4_doReadDeed_68 rfl (lv_at hl 0 rfl) ?_
      refine va_get (D := D) (ci := 4) (v := .ref (d 0)) (C := RX4) (T := TX4) (N := 6) hx hb hts hi_4 hown hK hP 0 rfl rfl 4 (by decide) hf_33 (fun _ h9 => h9) rfl dX4_doReadDeed_69 ?_
      refine va_get (D := D) (ci := 0) (v := .int (jd_am Q)) (C := RX0) (T := TX0) (N := 6) hx hb hts hi_0 hown hK hP 8 rfl rfl 5 (by decide) hf_125 (fun _ h9 => h9) rfl dX4_doReadDeed_72 ?_
      refine jk_callV (As := [.int (jd_am Q)]) (rest := []) (ws1 := (List.flatten [(jo_X xx (n 0) (t 0) (h 0) (z 0) (d 0) (b 0)), (jm_W g n N), (jd_X g d (b 0) Q)])) ⟨hx, hb, hml, hown, hts⟩ (c_X2_hasTurnsLeft l D g n N (jd_am Q)) (cwV 1 hts gX4_doReadDeed_X2_hasTurnsLeft rfl rfl rfl (by decide +kernel) ⟨Nat.le_of_ble_eq_true rfl, Nat.le_of_ble_eq_true rfl⟩) (va_recv hK hP (ci := 2) (q0 := 1) rfl rfl) (show va_P D vwCl (jm_W g n N) H from jk_one.mp (jk_segSub (L := [(jo_X xx (n 0) (t 0) (h 0) (z 0) (d 0) (b 0)), (jm_W g n N), (jd_X g d (b 0) Q)]) hP [1])) (show va_D A (jm_W g n N) from jk_oneD.mp (jk_segSubD (L := [(jo_X xx (n 0) (t 0) (h 0) (z 0) (d 0) (b 0)), (jm_W g n N), (jd_X g d (b 0) Q)]) hD [1] (by decide))) hK hN rfl hl rfl (Nat.le_of_ble_eq_true rfl) dX4_doReadDeed_75 ⟨Nat.zero_le _, Nat.zero_le _⟩ hS hA (jk_seg1 (L := [(jo_X xx (n 0) (t 0) (h 0) (z 0) (d 0) (b 0)), (jm_W g n N), (jd_X g d (b 0) Q)]) (L' := [(jo_X xx (n 0) (t 0) (h 0) (z 0) (d 0) (b 0)), (jm_W g n N), (jd_X g d (b 0) Q)]) (T := (jm_W g n N)) hP hD 1 [(false, 0), (true, 0), (false, 2)] (by decide) rfl) (fun H locs hP hS => ?_)
      refine W.eq (g2 := F0 m 78 ls [.int (rX2_hasTurnsLeft N (jd_am Q))]) rfl ?_
      refine lv_topi (fun x1 ex1 => ?_)
      refine lv_if_eq (tgt := 96) hx hb dX4_doReadDeed_78 (by decide) (fun c_78 => ?_) (fun c_78 => ?_)
      · have qex1 := ex1.symm; subst qex1
        have es1 : N = sX4_doReadDeed_1 N Q := (by unfold sX4_doReadDeed_1; rw [if_neg c_7, if_neg c_50, if_pos c_78])
        exact jk_vret hx hb hr hlocks hP hS (jk_cg1 (fun z1 => (List.flatten [(jo_X xx (n 0) (t 0) (h 0) (z 0) (d 0) (b 0)), (jm_W g n z1), (jd_X g d (b 0) Q)])) es1) dX4_doReadDeed_96
      · refine lv_aload_n hx hb dX4_doReadDeed_81 rfl (lv_at hl 0 rfl) ?_
        refine va_get (D := D) (ci := 4) (v := .ref (n 0)) (C := RX4) (T := TX4) (N := 6) hx hb hts hi_4 hown hK hP 0 rfl rfl 0 (by decide) hf_10 (fun _ h9 => h9) rfl dX4_doReadDeed_82 ?_
        refine lv_aload_n hx hb dX4_doReadDeed_85 rfl (lv_at hl 0 rfl) ?_
        refine va_get (D := D) (ci := 4) (v := .ref (d 0)) (C := RX4) (T := TX4) (N := 6) hx hb hts hi_4 hown hK hP 0 rfl rfl 4 (by decide) hf_33 (fun _ h9 => h9) rfl dX4_doReadDeed_86 ?_
        refine va_get (D := D) (ci := 0) (v := .int (jd_am Q)) (C := RX0) (T := TX0) (N := 6) hx hb hts hi_0 hown hK hP 8 rfl rfl 5 (by decide) hf_125 (fun _ h9 => h9) rfl dX4_doReadDeed_89 ?_
        obtain ⟨S2, eS2⟩ : ∃ z : jm_T, z = lp_turn N (jd_am Q).toNatClampNeg := ⟨_, rfl⟩
        refine jk_callV (As := [.int (jd_am Q)]) (rest := []) (ws1 := (List.flatten [(jo_X xx (n 0) (t 0) (h 0) (z 0) (d 0) (b 0)), (jm_W g n S2), (jd_X g d (b 0) Q)])) ⟨hx, hb, hml, hown, hts⟩ (c_X2_turnHandle l D g n N (jd_am Q)) (cwV 1 hts gX4_doReadDeed_X2_turnHandle rfl rfl rfl (by decide +kernel) ⟨Nat.le_of_ble_eq_true rfl, Nat.le_of_ble_eq_true rfl⟩) (va_recv hK hP (ci := 2) (q0 := 1) rfl rfl) (show va_P D vwCl (jm_W g n N) H from jk_one.mp (jk_segSub (L := [(jo_X xx (n 0) (t 0) (h 0) (z 0) (d 0) (b 0)), (jm_W g n N), (jd_X g d (b 0) Q)]) hP [1])) (show va_D A (jm_W g n N) from jk_oneD.mp (jk_segSubD (L := [(jo_X xx (n 0) (t 0) (h 0) (z 0) (d 0) (b 0)), (jm_W g n N), (jd_X g d (b 0) Q)]) hD [1] (by decide))) hK hN rfl hl rfl (Nat.le_of_ble_eq_true rfl) dX4_doReadDeed_92 ⟨Nat.zero_le _, Nat.zero_le _⟩ hS hA (fun H9 hh => jk_seg1 (L := [(jo_X xx (n 0) (t 0) (h 0) (z 0) (d 0) (b 0)), (jm_W g n N), (jd_X g d (b 0) Q)]) (L' := [(jo_X xx (n 0) (t 0) (h 0) (z 0) (d 0) (b 0)), (jm_W g n S2), (jd_X g d (b 0) Q)]) (T := (jm_W g n S2)) hP hD 1 [(false, 0), (true, 0), (false, 2)] (by decide) rfl H9 (by rw [eS2]; exact hh)) (fun H locs hP hS => ?_)
        refine W.eq (g2 := F0 m 95 ls [.int (jm_sp (lp_turn N (jd_am Q).toNatClampNeg) - jm_sp N)]) rfl ?_
        have hD : va_D A (List.flatten [(jo_X xx (n 0) (t 0) (h 0) (z 0) (d 0) (b 0)), (jm_W g n S2), (jd_X g d (b 0) Q)]) := hDu _ _
        refine lv_topi (fun x3 ex3 => ?_)
        refine lv_pop hx hb dX4_doReadDeed_95 rfl ?_
        have qex3 := ex3.symm; subst qex3
        have qeS2 := eS2.symm; subst qeS2
        have qex1 := ex1.symm; subst qex1
        have es1 : (lp_turn N (jd_am Q).toNatClampNeg) = sX4_doReadDeed_1 N Q := (by unfold sX4_doReadDeed_1; rw [if_neg c_7, if_neg c_50, if_neg c_78])
        exact jk_vret hx hb hr hlocks hP hS (jk_cg1 (fun z1 => (List.flatten [(jo_X xx (n 0) (t 0) (h 0) (z 0) (d 0) (b 0)), (jm_W g n z1), (jd_X g d (b 0) Q)])) es1) dX4_doReadDeed_96
    · refine lv_aload_n hx hb dX4_doReadDeed_53 rfl (lv_at hl 0 rfl) ?_
      refine va_get (D := D) (ci := 4) (v := .ref (n 0)) (C := RX4) (T := TX4) (N := 6) hx hb hts hi_4 hown hK hP 0 rfl rfl 0 (by decide) hf_10 (fun _ h9 => h9) rfl dX4_doReadDeed_54 ?_
      obtain ⟨S4, eS4⟩ : ∃ z : jm_T, z = sX2_emptyJars N := ⟨_, rfl⟩
      refine jk_callV (As := []) (rest := []) (ws1 := (List.flatten [(jo_X xx (n 0) (t 0) (h 0) (z 0) (d 0) (b 0)), (jm_W g n S4), (jd_X g d (b 0) Q)])) ⟨hx, hb, hml, hown, hts⟩ (c_X2_emptyJars l D g n N) (cwV 0 hts gX4_doReadDeed_X2_emptyJars rfl rfl rfl (by decide +kernel) ⟨Nat.le_of_ble_eq_true rfl, Nat.le_of_ble_eq_true rfl⟩) (va_recv hK hP (ci := 2) (q0 := 1) rfl rfl) (show va_P D vwCl (jm_W g n N) H from jk_one.mp (jk_segSub (L := [(jo_X xx (n 0) (t 0) (h 0) (z 0) (d 0) (b 0)), (jm_W g n N), (jd_X g d (b 0) Q)]) hP [1])) (show va_D A (jm_W g n N) from jk_oneD.mp (jk_segSubD (L := [(jo_X xx (n 0) (t 0) (h 0) (z 0) (d 0) (b 0)), (jm_W g n N), (jd_X g d (b 0) Q)]) hD [1] (by decide))) hK hN rfl hl rfl (Nat.le_of_ble_eq_true rfl) dX4_doReadDeed_57 ⟨Nat.zero_le _, Nat.zero_le _⟩ hS hA (fun H9 hh => jk_seg1 (L := [(jo_X xx (n 0) (t 0) (h 0) (z 0) (d 0) (b 0)), (jm_W g n N), (jd_X g d (b 0) Q)]) (L' := [(jo_X xx (n 0) (t 0) (h 0) (z 0) (d 0) (b 0)), (jm_W g n S4), (jd_X g d (b 0) Q)]) (T := (jm_W g n S4)) hP hD 1 [(false, 0), (true, 0), (false, 2)] (by decide) rfl H9 (by rw [eS4]; exact hh)) (fun H locs hP hS => ?_)
      refine W.eq (g2 := F0 m 60 ls [.int (rX2_emptyJars N)]) rfl ?_
      have hD : va_D A (List.flatten [(jo_X xx (n 0) (t 0) (h 0) (z 0) (d 0) (b 0)), (jm_W g n S4), (jd_X g d (b 0) Q)]) := hDu _ _
      refine lv_topi (fun x5 ex5 => ?_)
      refine lv_pop hx hb dX4_doReadDeed_60 rfl ?_
      refine lv_goto (tgt := 96) hx hb dX4_doReadDeed_61 (by decide) ?_
      have qex5 := ex5.symm; subst qex5
      have qeS4 := eS4.symm; subst qeS4
      have es1 : (sX2_emptyJars N) = sX4_doReadDeed_1 N Q := (by unfold sX4_doReadDeed_1; rw [if_neg c_7, if_pos c_50])
      exact jk_vret hx hb hr hlocks hP hS (jk_cg1 (fun z1 => (List.flatten [(jo_X xx (n 0) (t 0) (h 0) (z 0) (d 0) (b 0)), (jm_W g n z1), (jd_X g d (b 0) Q)])) es1) dX4_doReadDeed_96
  · refine lv_aload_n hx hb dX4_doReadDeed_10 rfl (lv_at hl 0 rfl) ?_
    refine va_get (D := D) (ci := 4) (v := .ref (n 0)) (C := RX4) (T := TX4) (N := 6) hx hb hts hi_4 hown hK hP 0 rfl rfl 0 (by decide) hf_10 (fun _ h9 => h9) rfl dX4_doReadDeed_11 ?_
    refine lv_aload_n hx hb dX4_doReadDeed_14 rfl (lv_at hl 0 rfl) ?_
    refine va_get (D := D) (ci := 4) (v := .ref (d 0)) (C := RX4) (T := TX4) (N := 6) hx hb hts hi_4 hown hK hP 0 rfl rfl 4 (by decide) hf_33 (fun _ h9 => h9) rfl dX4_doReadDeed_15 ?_
    refine va_get (D := D) (ci := 0) (v := .int (jd_di Q)) (C := RX0) (T := TX0) (N := 6) hx hb hts hi_0 hown hK hP 8 rfl rfl 3 (by decide) hf_119 (fun _ h9 => h9) rfl dX4_doReadDeed_18 ?_
    refine lv_aload_n hx hb dX4_doReadDeed_21 rfl (lv_at hl 0 rfl) ?_
    refine va_get (D := D) (ci := 4) (v := .ref (d 0)) (C := RX4) (T := TX4) (N := 6) hx hb hts hi_4 hown hK hP 0 rfl rfl 4 (by decide) hf_33 (fun _ h9 => h9) rfl dX4_doReadDeed_22 ?_
    refine va_get (D := D) (ci := 0) (v := .int (jd_pl Q)) (C := RX0) (T := TX0) (N := 6) hx hb hts hi_0 hown hK hP 8 rfl rfl 4 (by decide) hf_122 (fun _ h9 => h9) rfl dX4_doReadDeed_25 ?_
    refine lv_aload_n hx hb dX4_doReadDeed_28 rfl (lv_at hl 0 rfl) ?_
    refine va_get (D := D) (ci := 4) (v := .ref (d 0)) (C := RX4) (T := TX4) (N := 6) hx hb hts hi_4 hown hK hP 0 rfl rfl 4 (by decide) hf_33 (fun _ h9 => h9) rfl dX4_doReadDeed_29 ?_
    refine va_get (D := D) (ci := 0) (v := .int (jd_am Q)) (C := RX0) (T := TX0) (N := 6) hx hb hts hi_0 hown hK hP 8 rfl rfl 5 (by decide) hf_125 (fun _ h9 => h9) rfl dX4_doReadDeed_32 ?_
    obtain ⟨S6, eS6⟩ : ∃ z : jm_T, z = sX2_putCharge N (jd_di Q) (jd_pl Q) (jd_am Q) := ⟨_, rfl⟩
    refine jk_callV (As := [.int (jd_di Q), .int (jd_pl Q), .int (jd_am Q)]) (rest := []) (ws1 := (List.flatten [(jo_X xx (n 0) (t 0) (h 0) (z 0) (d 0) (b 0)), (jm_W g n S6), (jd_X g d (b 0) Q)])) ⟨hx, hb, hml, hown, hts⟩ (c_X2_putCharge l D g n N (jd_di Q) (jd_pl Q) (jd_am Q)) (cwV 3 hts gX4_doReadDeed_X2_putCharge rfl rfl rfl (by decide +kernel) ⟨Nat.le_of_ble_eq_true rfl, Nat.le_of_ble_eq_true rfl⟩) (va_recv hK hP (ci := 2) (q0 := 1) rfl rfl) (show va_P D vwCl (jm_W g n N) H from jk_one.mp (jk_segSub (L := [(jo_X xx (n 0) (t 0) (h 0) (z 0) (d 0) (b 0)), (jm_W g n N), (jd_X g d (b 0) Q)]) hP [1])) (show va_D A (jm_W g n N) from jk_oneD.mp (jk_segSubD (L := [(jo_X xx (n 0) (t 0) (h 0) (z 0) (d 0) (b 0)), (jm_W g n N), (jd_X g d (b 0) Q)]) hD [1] (by decide))) hK hN rfl hl rfl (Nat.le_of_ble_eq_true rfl) dX4_doReadDeed_35 ⟨Nat.zero_le _, Nat.zero_le _⟩ hS hA (fun H9 hh => jk_seg1 (L := [(jo_X xx (n 0) (t 0) (h 0) (z 0) (d 0) (b 0)), (jm_W g n N), (jd_X g d (b 0) Q)]) (L' := [(jo_X xx (n 0) (t 0) (h 0) (z 0) (d 0) (b 0)), (jm_W g n S6), (jd_X g d (b 0) Q)]) (T := (jm_W g n S6)) hP hD 1 [(false, 0), (true, 0), (false, 2)] (by decide) rfl H9 (by rw [eS6]; exact hh)) (fun H locs hP hS => ?_)
    refine W.eq (g2 := F0 m 38 ls [.int (rX2_putCharge N (jd_di Q) (jd_pl Q) (jd_am Q))]) rfl ?_
    have hD : va_D A (List.flatten [(jo_X xx (n 0) (t 0) (h 0) (z 0) (d 0) (b 0)), (jm_W g n S6), (jd_X g d (b 0) Q)]) := hDu _ _
    refine lv_topi (fun x7 ex7 => ?_)
    refine lv_pop hx hb dX4_doReadDeed_38 rfl ?_
    refine lv_goto (tgt := 96) hx hb dX4_doReadDeed_39 (by decide) ?_
    have qex7 := ex7.symm; subst qex7
    have qeS6 := eS6.symm; subst qeS6
    have es1 : (sX2_putCharge N (jd_di Q) (jd_pl Q) (jd_am Q)) = sX4_doReadDeed_1 N Q := (by unfold sX4_doReadDeed_1; rw [if_pos c_7])
    exact jk_vret hx hb hr hlocks hP hS (jk_cg1 (fun z1 => (List.flatten [(jo_X xx (n 0) (t 0) (h 0) (z 0) (d 0) (b 0)), (jm_W g n z1), (jd_X g d (b 0) Q)])) es1) dX4_doReadDeed_96
