def rX0_readSector (Q : jd_T) (P : jp_T) : Int32 := let S1 : jd_T := sX0_readSign_0 Q P (102 : Int32); let x2 : Int32 := rX0_readSign Q P (102 : Int32); if x2 = 0 then (let S3 : jd_T := sX0_readSign_0 S1 P (98 : Int32); let x4 : Int32 := rX0_readSign S1 P (98 : Int32); if x4 = 0 then (0) else (let S5 : jd_T := (if (0 : Int32) ≤ rX0_digitAt (jd_udi S3 1) P (jd_at (jd_udi S3 1)) then (lc_nl (11 : Int32) P 60 (rX0_digitAt (jd_udi S3 1) P (jd_at (jd_udi S3 1))) (jd_uat (jd_udi S3 1) (jd_at (jd_udi S3 1) + 1))).2 else (jd_udi S3 1)); let x6 : Int32 := (if (0 : Int32) ≤ rX0_digitAt (jd_udi S3 1) P (jd_at (jd_udi S3 1)) then (lc_nl (11 : Int32) P 60 (rX0_digitAt (jd_udi S3 1) P (jd_at (jd_udi S3 1))) (jd_uat (jd_udi S3 1) (jd_at (jd_udi S3 1) + 1))).1 else (-1)); if x6 = (-1) then (0) else (1))) else (let S7 : jd_T := (if (0 : Int32) ≤ rX0_digitAt (jd_udi S1 0) P (jd_at (jd_udi S1 0)) then (lc_nl (11 : Int32) P 60 (rX0_digitAt (jd_udi S1 0) P (jd_at (jd_udi S1 0))) (jd_uat (jd_udi S1 0) (jd_at (jd_udi S1 0) + 1))).2 else (jd_udi S1 0)); let x8 : Int32 := (if (0 : Int32) ≤ rX0_digitAt (jd_udi S1 0) P (jd_at (jd_udi S1 0)) then (lc_nl (11 : Int32) P 60 (rX0_digitAt (jd_udi S1 0) P (jd_at (jd_udi S1 0))) (jd_uat (jd_udi S1 0) (jd_at (jd_udi S1 0) + 1))).1 else (-1)); if x8 = (-1) then (0) else (1))
def sX0_readSector_0 (Q : jd_T) (P : jp_T) : jd_T := let S1 : jd_T := sX0_readSign_0 Q P (102 : Int32); let x2 : Int32 := rX0_readSign Q P (102 : Int32); if x2 = 0 then (let S3 : jd_T := sX0_readSign_0 S1 P (98 : Int32); let x4 : Int32 := rX0_readSign S1 P (98 : Int32); if x4 = 0 then (S3) else (let S5 : jd_T := (if (0 : Int32) ≤ rX0_digitAt (jd_udi S3 1) P (jd_at (jd_udi S3 1)) then (lc_nl (11 : Int32) P 60 (rX0_digitAt (jd_udi S3 1) P (jd_at (jd_udi S3 1))) (jd_uat (jd_udi S3 1) (jd_at (jd_udi S3 1) + 1))).2 else (jd_udi S3 1)); let x6 : Int32 := (if (0 : Int32) ≤ rX0_digitAt (jd_udi S3 1) P (jd_at (jd_udi S3 1)) then (lc_nl (11 : Int32) P 60 (rX0_digitAt (jd_udi S3 1) P (jd_at (jd_udi S3 1))) (jd_uat (jd_udi S3 1) (jd_at (jd_udi S3 1) + 1))).1 else (-1)); if x6 = (-1) then ((jd_upl S5 x6)) else ((jd_upl S5 x6)))) else (let S7 : jd_T := (if (0 : Int32) ≤ rX0_digitAt (jd_udi S1 0) P (jd_at (jd_udi S1 0)) then (lc_nl (11 : Int32) P 60 (rX0_digitAt (jd_udi S1 0) P (jd_at (jd_udi S1 0))) (jd_uat (jd_udi S1 0) (jd_at (jd_udi S1 0) + 1))).2 else (jd_udi S1 0)); let x8 : Int32 := (if (0 : Int32) ≤ rX0_digitAt (jd_udi S1 0) P (jd_at (jd_udi S1 0)) then (lc_nl (11 : Int32) P 60 (rX0_digitAt (jd_udi S1 0) P (jd_at (jd_udi S1 0))) (jd_uat (jd_udi S1 0) (jd_at (jd_udi S1 0) + 1))).1 else (-1)); if x8 = (-1) then ((jd_upl S7 x8)) else ((jd_upl S7 x8)))
set_option maxHeartbeats 1000000 in
set_option maxRecDepth 100000 in
theorem c_X0_readSector (l : Launch) (D : va_G) (g : jk_G) (d : Nat → Nat) (b : Nat → Nat) (Q : jd_T) (P : jp_T) (hch : jp_chs P) : jk_M l D g yX0_readSector wsX0_readSector 3 68 [.ref (d 0)] (List.flatten [(jd_X g d (b 0) Q), (jp_W g b P)]) (some (.int (rX0_readSector Q P))) (List.flatten [(jd_X g d (b 0) (sX0_readSector_0 Q P)), (jp_W g b P)]) := by
  refine jk_of (cc := cX0_readSector) (maxL := 1) (ret := (some .boolean)) (by decide +kernel) rfl (Nat.le_of_ble_eq_true rfl) ?_
  intro p e s m args below meth c hx hb hr hml hts hown hlocks hK hN A H locs hP hD hA hS ls hl
  have hown : s.vm.findClass RX0 = some m.cls := hown
  have hl : lv_has ls 1 [(0, .ref (d 0))] := hl
  have hDu : ∀ (z0 : jd_T) (z1 : jp_T), va_D A (List.flatten [(jd_X g d (b 0) z0), (jp_W g b z1)]) := fun z0 z1 => jk_D.same hD rfl
  have hf_57 := hts (.fieldLink RX0 57 "InfluenceJars$DeedReader" "disc" "I") (by decide +kernel)
  have hi_0 : ∀ w ∈ u_ws RX0 TX0 6, w ∈ wsX0_readSector := by decide +kernel
  have hf_60 := hts (.fieldLink RX0 60 "InfluenceJars$DeedReader" "place" "I") (by decide +kernel)
  refine lv_aload_n hx hb dX0_readSector_0 rfl (lv_at hl 0 rfl) ?_
  refine lv_bipush (v := 102) hx hb dX0_readSector_1 (by decide) ?_
  obtain ⟨S1, eS1⟩ : ∃ z : jd_T, z = sX0_readSign_0 Q P (102 : Int32) := ⟨_, rfl⟩
  refine jk_callV (As := [.int 102]) (rest := []) (ws1 := (List.flatten [(jd_X g d (b 0) S1), (jp_W g b P)])) ⟨hx, hb, hml, hown, hts⟩ (c_X0_readSign l D g d b Q P (102 : Int32) hch) (cwV 1 hts gX0_readSector_X0_readSign rfl rfl rfl (by decide +kernel) ⟨Nat.le_of_ble_eq_true rfl, Nat.le_of_ble_eq_true rfl⟩) (va_recv hK hP (ci := 0) (q0 := 0) rfl rfl) (show va_P D vwCl (List.flatten [(jd_X g d (b 0) Q), (jp_W g b P)]) H from  (jk_segSub (L := [(jd_X g d (b 0) Q), (jp_W g b P)]) hP [0, 1])) (show va_D A (List.flatten [(jd_X g d (b 0) Q), (jp_W g b P)]) from  (jk_segSubD (L := [(jd_X g d (b 0) Q), (jp_W g b P)]) hD [0, 1] (by decide))) hK hN rfl hl rfl (Nat.le_of_ble_eq_true rfl) dX0_readSector_3 ⟨Nat.zero_le _, Nat.zero_le _⟩ hS hA (jk_seg (L := [(jd_X g d (b 0) Q), (jp_W g b P)]) (L' := [(jd_X g d (b 0) S1), (jp_W g b P)]) (T := [(jd_X g d (b 0) S1), (jp_W g b P)]) hP hD [0, 1] [(true, 0), (true, 1)] (by rw [eS1]; try rfl) (by decide) rfl) (fun H locs hP hS => ?_)
  refine W.eq (g2 := F0 m 6 ls [.int (rX0_readSign Q P (102 : Int32))]) rfl ?_
  have hD : va_D A (List.flatten [(jd_X g d (b 0) S1), (jp_W g b P)]) := hDu _ _
  refine lv_topi (fun x2 ex2 => ?_)
  refine lv_if_eq (tgt := 17) hx hb dX0_readSector_6 (by decide) (fun c_6 => ?_) (fun c_6 => ?_)
  · refine lv_aload_n hx hb dX0_readSector_17 rfl (lv_at hl 0 rfl) ?_
    refine lv_bipush (v := 98) hx hb dX0_readSector_18 (by decide) ?_
    obtain ⟨S3, eS3⟩ : ∃ z : jd_T, z = sX0_readSign_0 S1 P (98 : Int32) := ⟨_, rfl⟩
    refine jk_callV (As := [.int 98]) (rest := []) (ws1 := (List.flatten [(jd_X g d (b 0) S3), (jp_W g b P)])) ⟨hx, hb, hml, hown, hts⟩ (c_X0_readSign l D g d b S1 P (98 : Int32) hch) (cwV 1 hts gX0_readSector_X0_readSign rfl rfl rfl (by decide +kernel) ⟨Nat.le_of_ble_eq_true rfl, Nat.le_of_ble_eq_true rfl⟩) (va_recv hK hP (ci := 0) (q0 := 0) rfl rfl) (show va_P D vwCl (List.flatten [(jd_X g d (b 0) S1), (jp_W g b P)]) H from  (jk_segSub (L := [(jd_X g d (b 0) S1), (jp_W g b P)]) hP [0, 1])) (show va_D A (List.flatten [(jd_X g d (b 0) S1), (jp_W g b P)]) from  (jk_segSubD (L := [(jd_X g d (b 0) S1), (jp_W g b P)]) hD [0, 1] (by decide))) hK hN rfl hl rfl (Nat.le_of_ble_eq_true rfl) dX0_readSector_20 ⟨Nat.zero_le _, Nat.zero_le _⟩ hS hA (jk_seg (L := [(jd_X g d (b 0) S1), (jp_W g b P)]) (L' := [(jd_X g d (b 0) S3), (jp_W g b P)]) (T := [(jd_X g d (b 0) S3), (jp_W g b P)]) hP hD [0, 1] [(true, 0), (true, 1)] (by rw [eS3]; try rfl) (by decide) rfl) (fun H locs hP hS => ?_)
    refine W.eq (g2 := F0 m 23 ls [.int (rX0_readSign S1 P (98 : Int32))]) rfl ?_
    have hD : va_D A (List.flatten [(jd_X g d (b 0) S3), (jp_W g b P)]) := hDu _ _
    refine lv_topi (fun x4 ex4 => ?_)
    refine lv_if_eq (tgt := 34) hx hb dX0_readSector_23 (by decide) (fun c_23 => ?_) (fun c_23 => ?_)
    · refine lv_iconst (v := 0) hx hb dX0_readSector_34 (by decide) ?_
      have qex4 := ex4.symm; subst qex4
      have qeS3 := eS3.symm; subst qeS3
      have qex2 := ex2.symm; subst qex2
      have qeS1 := eS1.symm; subst qeS1
      have es0 : (sX0_readSign_0 (sX0_readSign_0 Q P (102 : Int32)) P (98 : Int32)) = sX0_readSector_0 Q P := (by unfold sX0_readSector_0; rw [if_pos c_6, if_pos c_23])
      exact jk_zret hx hb hr rfl hlocks hP hS (by unfold rX0_readSector; rw [if_pos c_6, if_pos c_23]) (jk_cg1 (fun z0 => (List.flatten [(jd_X g d (b 0) z0), (jp_W g b P)])) es0) dX0_readSector_35
    · refine lv_aload_n hx hb dX0_readSector_26 rfl (lv_at hl 0 rfl) ?_
      refine lv_iconst (v := 1) hx hb dX0_readSector_27 (by decide) ?_
      refine va_put (D := D) (ci := 0) (v := .int 1) (ty := .int) (C := RX0) (T := TX0) (N := 6) hx hb hts hi_0 tyX0 tyX0_ok nmX0 hown hK hP hD hS 0 rfl rfl 3 (by decide) hf_57 (fun _ h9 => h9) rfl (by decide +kernel) rfl rfl (Nat.le_of_ble_eq_true rfl) dX0_readSector_28 (fun H locs hP hD hS => ?_)
      have hP : va_P D vwCl (List.flatten [(jd_X g d (b 0) (jd_udi S3 1)), (jp_W g b P)]) H := hP
      have hD : va_D A (List.flatten [(jd_X g d (b 0) (jd_udi S3 1)), (jp_W g b P)]) := hD
      refine lv_goto (tgt := 36) hx hb dX0_readSector_31 (by decide) ?_
      refine lv_aload_n hx hb dX0_readSector_36 rfl (lv_at hl 0 rfl) ?_
      refine lv_aload_n hx hb dX0_readSector_37 rfl (lv_at hl 0 rfl) ?_
      refine lv_iconst (v := 0) hx hb dX0_readSector_38 (by decide) ?_
      refine lv_bipush (v := 11) hx hb dX0_readSector_39 (by decide) ?_
      obtain ⟨S5, eS5⟩ : ∃ z : jd_T, z = (if (0 : Int32) ≤ rX0_digitAt (jd_udi S3 1) P (jd_at (jd_udi S3 1)) then (lc_nl (11 : Int32) P 60 (rX0_digitAt (jd_udi S3 1) P (jd_at (jd_udi S3 1))) (jd_uat (jd_udi S3 1) (jd_at (jd_udi S3 1) + 1))).2 else (jd_udi S3 1)) := ⟨_, rfl⟩
      refine jk_callV (As := [.int 0, .int 11]) (rest := [.ref (d 0)]) (ws1 := (List.flatten [(jd_X g d (b 0) S5), (jp_W g b P)])) ⟨hx, hb, hml, hown, hts⟩ (c_X0_readNumber l D g d b (jd_udi S3 1) P (0 : Int32) (11 : Int32) hch) (cwV 2 hts gX0_readSector_X0_readNumber rfl rfl rfl (by decide +kernel) ⟨Nat.le_of_ble_eq_true rfl, Nat.le_of_ble_eq_true rfl⟩) (va_recv hK hP (ci := 0) (q0 := 0) rfl rfl) (show va_P D vwCl (List.flatten [(jd_X g d (b 0) (jd_udi S3 1)), (jp_W g b P)]) H from  (jk_segSub (L := [(jd_X g d (b 0) (jd_udi S3 1)), (jp_W g b P)]) hP [0, 1])) (show va_D A (List.flatten [(jd_X g d (b 0) (jd_udi S3 1)), (jp_W g b P)]) from  (jk_segSubD (L := [(jd_X g d (b 0) (jd_udi S3 1)), (jp_W g b P)]) hD [0, 1] (by decide))) hK hN rfl hl rfl (Nat.le_of_ble_eq_true rfl) dX0_readSector_41 ⟨Nat.zero_le _, Nat.zero_le _⟩ hS hA (jk_seg (L := [(jd_X g d (b 0) (jd_udi S3 1)), (jp_W g b P)]) (L' := [(jd_X g d (b 0) S5), (jp_W g b P)]) (T := [(jd_X g d (b 0) S5), (jp_W g b P)]) hP hD [0, 1] [(true, 0), (true, 1)] (by rw [eS5]; try rfl) (by decide) rfl) (fun H locs hP hS => ?_)
      refine W.eq (g2 := F0 m 44 ls [.int (if (0 : Int32) ≤ rX0_digitAt (jd_udi S3 1) P (jd_at (jd_udi S3 1)) then (lc_nl (11 : Int32) P 60 (rX0_digitAt (jd_udi S3 1) P (jd_at (jd_udi S3 1))) (jd_uat (jd_udi S3 1) (jd_at (jd_udi S3 1) + 1))).1 else (-1)), .ref (d 0)]) rfl ?_
      have hD : va_D A (List.flatten [(jd_X g d (b 0) S5), (jp_W g b P)]) := hDu _ _
      refine lv_topi (fun x6 ex6 => ?_)
      refine va_put (D := D) (ci := 0) (v := .int x6) (ty := .int) (C := RX0) (T := TX0) (N := 6) hx hb hts hi_0 tyX0 tyX0_ok nmX0 hown hK hP hD hS 0 rfl rfl 4 (by decide) hf_60 (fun _ h9 => h9) rfl (by decide +kernel) rfl rfl (Nat.le_of_ble_eq_true rfl) dX0_readSector_44 (fun H locs hP hD hS => ?_)
      have hP : va_P D vwCl (List.flatten [(jd_X g d (b 0) (jd_upl S5 x6)), (jp_W g b P)]) H := hP
      have hD : va_D A (List.flatten [(jd_X g d (b 0) (jd_upl S5 x6)), (jp_W g b P)]) := hD
      refine lv_aload_n hx hb dX0_readSector_47 rfl (lv_at hl 0 rfl) ?_
      refine va_get (D := D) (ci := 0) (v := .int x6) (C := RX0) (T := TX0) (N := 6) hx hb hts hi_0 hown hK hP 0 rfl rfl 4 (by decide) hf_60 (fun _ h9 => h9) rfl dX0_readSector_48 ?_
      refine lv_iconst (v := (-1)) hx hb dX0_readSector_51 (by decide) ?_
      refine lv_icmp_eq (tgt := 59) hx hb dX0_readSector_52 (by decide) (fun c_52 => ?_) (fun c_52 => ?_)
      · refine lv_iconst (v := 0) hx hb dX0_readSector_59 (by decide) ?_
        have qex6 := ex6.symm; subst qex6
        have qeS5 := eS5.symm; subst qeS5
        have qex4 := ex4.symm; subst qex4
        have qeS3 := eS3.symm; subst qeS3
        have qex2 := ex2.symm; subst qex2
        have qeS1 := eS1.symm; subst qeS1
        have es0 : (jd_upl (if (0 : Int32) ≤ rX0_digitAt (jd_udi (sX0_readSign_0 (sX0_readSign_0 Q P (102 : Int32)) P (98 : Int32)) 1) P (jd_at (jd_udi (sX0_readSign_0 (sX0_readSign_0 Q P (102 : Int32)) P (98 : Int32)) 1)) then (lc_nl (11 : Int32) P 60 (rX0_digitAt (jd_udi (sX0_readSign_0 (sX0_readSign_0 Q P (102 : Int32)) P (98 : Int32)) 1) P (jd_at (jd_udi (sX0_readSign_0 (sX0_readSign_0 Q P (102 : Int32)) P (98 : Int32)) 1))) (jd_uat (jd_udi (sX0_readSign_0 (sX0_readSign_0 Q P (102 : Int32)) P (98 : Int32)) 1) (jd_at (jd_udi (sX0_readSign_0 (sX0_readSign_0 Q P (102 : Int32)) P (98 : Int32)) 1) + 1))).2 else (jd_udi (sX0_readSign_0 (sX0_readSign_0 Q P (102 : Int32)) P (98 : Int32)) 1)) (if (0 : Int32) ≤ rX0_digitAt (jd_udi (sX0_readSign_0 (sX0_readSign_0 Q P (102 : Int32)) P (98 : Int32)) 1) P (jd_at (jd_udi (sX0_readSign_0 (sX0_readSign_0 Q P (102 : Int32)) P (98 : Int32)) 1)) then (lc_nl (11 : Int32) P 60 (rX0_digitAt (jd_udi (sX0_readSign_0 (sX0_readSign_0 Q P (102 : Int32)) P (98 : Int32)) 1) P (jd_at (jd_udi (sX0_readSign_0 (sX0_readSign_0 Q P (102 : Int32)) P (98 : Int32)) 1))) (jd_uat (jd_udi (sX0_readSign_0 (sX0_readSign_0 Q P (102 : Int32)) P (98 : Int32)) 1) (jd_at (jd_udi (sX0_readSign_0 (sX0_readSign_0 Q P (102 : Int32)) P (98 : Int32)) 1) + 1))).1 else (-1))) = sX0_readSector_0 Q P := (by unfold sX0_readSector_0; rw [if_pos c_6, if_neg c_23, if_pos c_52])
        exact jk_zret hx hb hr rfl hlocks hP hS (by unfold rX0_readSector; rw [if_pos c_6, if_neg c_23, if_pos c_52]) (jk_cg1 (fun z0 => (List.flatten [(jd_X g d (b 0) z0), (jp_W g b P)])) es0) dX0_readSector_60
      · refine lv_iconst (v := 1) hx hb dX0_readSector_55 (by decide) ?_
        refine lv_goto (tgt := 60) hx hb dX0_readSector_56 (by decide) ?_
        have qex6 := ex6.symm; subst qex6
        have qeS5 := eS5.symm; subst qeS5
        have qex4 := ex4.symm; subst qex4
        have qeS3 := eS3.symm; subst qeS3
        have qex2 := ex2.symm; subst qex2
        have qeS1 := eS1.symm; subst qeS1
        have es0 : (jd_upl (if (0 : Int32) ≤ rX0_digitAt (jd_udi (sX0_readSign_0 (sX0_readSign_0 Q P (102 : Int32)) P (98 : Int32)) 1) P (jd_at (jd_udi (sX0_readSign_0 (sX0_readSign_0 Q P (102 : Int32)) P (98 : Int32)) 1)) then (lc_nl (11 : Int32) P 60 (rX0_digitAt (jd_udi (sX0_readSign_0 (sX0_readSign_0 Q P (102 : Int32)) P (98 : Int32)) 1) P (jd_at (jd_udi (sX0_readSign_0 (sX0_readSign_0 Q P (102 : Int32)) P (98 : Int32)) 1))) (jd_uat (jd_udi (sX0_readSign_0 (sX0_readSign_0 Q P (102 : Int32)) P (98 : Int32)) 1) (jd_at (jd_udi (sX0_readSign_0 (sX0_readSign_0 Q P (102 : Int32)) P (98 : Int32)) 1) + 1))).2 else (jd_udi (sX0_readSign_0 (sX0_readSign_0 Q P (102 : Int32)) P (98 : Int32)) 1)) (if (0 : Int32) ≤ rX0_digitAt (jd_udi (sX0_readSign_0 (sX0_readSign_0 Q P (102 : Int32)) P (98 : Int32)) 1) P (jd_at (jd_udi (sX0_readSign_0 (sX0_readSign_0 Q P (102 : Int32)) P (98 : Int32)) 1)) then (lc_nl (11 : Int32) P 60 (rX0_digitAt (jd_udi (sX0_readSign_0 (sX0_readSign_0 Q P (102 : Int32)) P (98 : Int32)) 1) P (jd_at (jd_udi (sX0_readSign_0 (sX0_readSign_0 Q P (102 : Int32)) P (98 : Int32)) 1))) (jd_uat (jd_udi (sX0_readSign_0 (sX0_readSign_0 Q P (102 : Int32)) P (98 : Int32)) 1) (jd_at (jd_udi (sX0_readSign_0 (sX0_readSign_0 Q P (102 : Int32)) P (98 : Int32)) 1) + 1))).1 else (-1))) = sX0_readSector_0 Q P := (by unfold sX0_readSector_0; rw [if_pos c_6, if_neg c_23, if_neg c_52])
        exact jk_zret hx hb hr rfl hlocks hP hS (by unfold rX0_readSector; rw [if_pos c_6, if_neg c_23, if_neg c_52]) (jk_cg1 (fun z0 => (List.flatten [(jd_X g d (b 0) z0), (jp_W g b P)])) es0) dX0_readSector_60
  · refine lv_aload_n hx hb dX0_readSector_9 rfl (lv_at hl 0 rfl) ?_
    refine lv_iconst (v := 0) hx hb dX0_readSector_10 (by decide) ?_
    refine va_put (D := D) (ci := 0) (v := .int 0) (ty := .int) (C := RX0) (T := TX0) (N := 6) hx hb hts hi_0 tyX0 tyX0_ok nmX0 hown hK hP hD hS 0 rfl rfl 3 (by decide) hf_57 (fun _ h9 => h9) rfl (by decide +kernel) rfl rfl (Nat.le_of_ble_eq_true rfl) dX0_readSector_11 (fun H locs hP hD hS => ?_)
    have hP : va_P D vwCl (List.flatten [(jd_X g d (b 0) (jd_udi S1 0)), (jp_W g b P)]) H := hP
    have hD : va_D A (List.flatten [(jd_X g d (b 0) (jd_udi S1 0)), (jp_W g b P)]) := hD
    refine lv_goto (tgt := 36) hx hb dX0_readSector_14 (by decide) ?_
    refine lv_aload_n hx hb dX0_readSector_36 rfl (lv_at hl 0 rfl) ?_
    refine lv_aload_n hx hb dX0_readSector_37 rfl (lv_at hl 0 rfl) ?_
    refine lv_iconst (v := 0) hx hb dX0_readSector_38 (by decide) ?_
    refine lv_bipush (v := 11) hx hb dX0_readSector_39 (by decide) ?_
    obtain ⟨S7, eS7⟩ : ∃ z : jd_T, z = (if (0 : Int32) ≤ rX0_digitAt (jd_udi S1 0) P (jd_at (jd_udi S1 0)) then (lc_nl (11 : Int32) P 60 (rX0_digitAt (jd_udi S1 0) P (jd_at (jd_udi S1 0))) (jd_uat (jd_udi S1 0) (jd_at (jd_udi S1 0) + 1))).2 else (jd_udi S1 0)) := ⟨_, rfl⟩
    refine jk_callV (As := [.int 0, .int 11]) (rest := [.ref (d 0)]) (ws1 := (List.flatten [(jd_X g d (b 0) S7), (jp_W g b P)])) ⟨hx, hb, hml, hown, hts⟩ (c_X0_readNumber l D g d b (jd_udi S1 0) P (0 : Int32) (11 : Int32) hch) (cwV 2 hts gX0_readSector_X0_readNumber rfl rfl rfl (by decide +kernel) ⟨Nat.le_of_ble_eq_true rfl, Nat.le_of_ble_eq_true rfl⟩) (va_recv hK hP (ci := 0) (q0 := 0) rfl rfl) (show va_P D vwCl (List.flatten [(jd_X g d (b 0) (jd_udi S1 0)), (jp_W g b P)]) H from  (jk_segSub (L := [(jd_X g d (b 0) (jd_udi S1 0)), (jp_W g b P)]) hP [0, 1])) (show va_D A (List.flatten [(jd_X g d (b 0) (jd_udi S1 0)), (jp_W g b P)]) from  (jk_segSubD (L := [(jd_X g d (b 0) (jd_udi S1 0)), (jp_W g b P)]) hD [0, 1] (by decide))) hK hN rfl hl rfl (Nat.le_of_ble_eq_true rfl) dX0_readSector_41 ⟨Nat.zero_le _, Nat.zero_le _⟩ hS hA (jk_seg (L := [(jd_X g d (b 0) (jd_udi S1 0)), (jp_W g b P)]) (L' := [(jd_X g d (b 0) S7), (jp_W g b P)]) (T := [(jd_X g d (b 0) S7), (jp_W g b P)]) hP hD [0, 1] [(true, 0), (true, 1)] (by rw [eS7]; try rfl) (by decide) rfl) (fun H locs hP hS => ?_)
    refine W.eq (g2 := F0 m 44 ls [.int (if (0 : Int32) ≤ rX0_digitAt (jd_udi S1 0) P (jd_at (jd_udi S1 0)) then (lc_nl (11 : Int32) P 60 (rX0_digitAt (jd_udi S1 0) P (jd_at (jd_udi S1 0))) (jd_uat (jd_udi S1 0) (jd_at (jd_udi S1 0) + 1))).1 else (-1)), .ref (d 0)]) rfl ?_
    have hD : va_D A (List.flatten [(jd_X g d (b 0) S7), (jp_W g b P)]) := hDu _ _
    refine lv_topi (fun x8 ex8 => ?_)
    refine va_put (D := D) (ci := 0) (v := .int x8) (ty := .int) (C := RX0) (T := TX0) (N := 6) hx hb hts hi_0 tyX0 tyX0_ok nmX0 hown hK hP hD hS 0 rfl rfl 4 (by decide) hf_60 (fun _ h9 => h9) rfl (by decide +kernel) rfl rfl (Nat.le_of_ble_eq_true rfl) dX0_readSector_44 (fun H locs hP hD hS => ?_)
    have hP : va_P D vwCl (List.flatten [(jd_X g d (b 0) (jd_upl S7 x8)), (jp_W g b P)]) H := hP
    have hD : va_D A (List.flatten [(jd_X g d (b 0) (jd_upl S7 x8)), (jp_W g b P)]) := hD
    refine lv_aload_n hx hb dX0_readSector_47 rfl (lv_at hl 0 rfl) ?_
    refine va_get (D := D) (ci := 0) (v := .int x8) (C := RX0) (T := TX0) (N := 6) hx hb hts hi_0 hown hK hP 0 rfl rfl 4 (by decide) hf_60 (fun _ h9 => h9) rfl dX0_readSector_48 ?_
    refine lv_iconst (v := (-1)) hx hb dX0_readSector_51 (by decide) ?_
    refine lv_icmp_eq (tgt := 59) hx hb dX0_readSector_52 (by decide) (fun c_52 => ?_) (fun c_52 => ?_)
    · refine lv_iconst (v := 0) hx hb dX0_readSector_59 (by decide) ?_
      have qex8 := ex8.symm; subst qex8
      have qeS7 := eS7.symm; subst qeS7
      have qex2 := ex2.symm; subst qex2
      have qeS1 := eS1.symm; subst qeS1
      have es0 : (jd_upl (if (0 : Int32) ≤ rX0_digitAt (jd_udi (sX0_readSign_0 Q P (102 : Int32)) 0) P (jd_at (jd_udi (sX0_readSign_0 Q P (102 : Int32)) 0)) then (lc_nl (11 : Int32) P 60 (rX0_digitAt (jd_udi (sX0_readSign_0 Q P (102 : Int32)) 0) P (jd_at (jd_udi (sX0_readSign_0 Q P (102 : Int32)) 0))) (jd_uat (jd_udi (sX0_readSign_0 Q P (102 : Int32)) 0) (jd_at (jd_udi (sX0_readSign_0 Q P (102 : Int32)) 0) + 1))).2 else (jd_udi (sX0_readSign_0 Q P (102 : Int32)) 0)) (if (0 : Int32) ≤ rX0_digitAt (jd_udi (sX0_readSign_0 Q P (102 : Int32)) 0) P (jd_at (jd_udi (sX0_readSign_0 Q P (102 : Int32)) 0)) then (lc_nl (11 : Int32) P 60 (rX0_digitAt (jd_udi (sX0_readSign_0 Q P (102 : Int32)) 0) P (jd_at (jd_udi (sX0_readSign_0 Q P (102 : Int32)) 0))) (jd_uat (jd_udi (sX0_readSign_0 Q P (102 : Int32)) 0) (jd_at (jd_udi (sX0_readSign_0 Q P (102 : Int32)) 0) + 1))).1 else (-1))) = sX0_readSector_0 Q P := (by unfold sX0_readSector_0; rw [if_neg c_6, if_pos c_52])
      exact jk_zret hx hb hr rfl hlocks hP hS (by unfold rX0_readSector; rw [if_neg c_6, if_pos c_52]) (jk_cg1 (fun z0 => (List.flatten [(jd_X g d (b 0) z0), (jp_W g b P)])) es0) dX0_readSector_60
    · refine lv_iconst (v := 1) hx hb dX0_readSector_55 (by decide) ?_
      refine lv_goto (tgt := 60) hx hb dX0_readSector_56 (by decide) ?_
      have qex8 := ex8.symm; subst qex8
      have qeS7 := eS7.symm; subst qeS7
      have qex2 := ex2.symm; subst qex2
      have qeS1 := eS1.symm; subst qeS1
      have es0 : (jd_upl (if (0 : Int32) ≤ rX0_digitAt (jd_udi (sX0_readSign_0 Q P (102 : Int32)) 0) P (jd_at (jd_udi (sX0_readSign_0 Q P (102 : Int32)) 0)) then (lc_nl (11 : Int32) P 60 (rX0_digitAt (jd_udi (sX0_readSign_0 Q P (102 : Int32)) 0) P (jd_at (jd_udi (sX0_readSign_0 Q P (102 : Int32)) 0))) (jd_uat (jd_udi (sX0_readSign_0 Q P (102 : Int32)) 0) (jd_at (jd_udi (sX0_readSign_0 Q P (102 : Int32)) 0) + 1))).2 else (jd_udi (sX0_readSign_0 Q P (102 : Int32)) 0)) (if (0 : Int32) ≤ rX0_digitAt (jd_udi (sX0_readSign_0 Q P (102 : Int32)) 0) P (jd_at (jd_udi (sX0_readSign_0 Q P (102 : Int32)) 0)) then (lc_nl (11 : Int32) P 60 (rX0_digitAt (jd_udi (sX0_readSign_0 Q P (102 : Int32)) 0) P (jd_at (jd_udi (sX0_readSign_0 Q P (102 : Int32)) 0))) (jd_uat (jd_udi (sX0_readSign_0 Q P (102 : Int32)) 0) (jd_at (jd_udi (sX0_readSign_0 Q P (102 : Int32)) 0) + 1))).1 else (-1))) = sX0_readSector_0 Q P := (by unfold sX0_readSector_0; rw [if_neg c_6, if_neg c_52])
      exact jk_zret hx hb hr rfl hlocks hP hS (by unfold rX0_readSector; rw [if_neg c_6, if_neg c_52]) (jk_cg1 (fun z0 => (List.flatten [(jd_X g d (b 0) z0), (jp_W g b P)])) es0) dX0_readSector_60

def rX0_readCharge (Q : jd_T) (P : jp_T) : Int32 := let S1 : jd_T := sX0_readSign_0 Q P (45 : Int32); let x2 : Int32 := rX0_readSign Q P (45 : Int32); let S3 : jd_T := (if (0 : Int32) ≤ rX0_digitAt S1 P (jd_at S1) then (lc_nl (99 : Int32) P 60 (rX0_digitAt S1 P (jd_at S1)) (jd_uat S1 (jd_at S1 + 1))).2 else S1); let x4 : Int32 := (if (0 : Int32) ≤ rX0_digitAt S1 P (jd_at S1) then (lc_nl (99 : Int32) P 60 (rX0_digitAt S1 P (jd_at S1)) (jd_uat S1 (jd_at S1 + 1))).1 else (-1)); if x4 = (-1) then (0) else (let x6 : Int32 := (if x2 = 0 then x4 else (-x4)); 1)
def sX0_readCharge_0 (Q : jd_T) (P : jp_T) : jd_T := let S1 : jd_T := sX0_readSign_0 Q P (45 : Int32); let x2 : Int32 := rX0_readSign Q P (45 : Int32); let S3 : jd_T := (if (0 : Int32) ≤ rX0_digitAt S1 P (jd_at S1) then (lc_nl (99 : Int32) P 60 (rX0_digitAt S1 P (jd_at S1)) (jd_uat S1 (jd_at S1 + 1))).2 else S1); let x4 : Int32 := (if (0 : Int32) ≤ rX0_digitAt S1 P (jd_at S1) then (lc_nl (99 : Int32) P 60 (rX0_digitAt S1 P (jd_at S1)) (jd_uat S1 (jd_at S1 + 1))).1 else (-1)); if x4 = (-1) then (S3) else (let x6 : Int32 := (if x2 = 0 then x4 else (-x4)); (jd_uam S3 x6))
set_option maxHeartbeats 1000000 in
set_option maxRecDepth 100000 in
theorem c_X0_readCharge (l : Launch) (D : va_G) (g : jk_G) (d : Nat → Nat) (b : Nat → Nat) (Q : jd_T) (P : jp_T) (hch : jp_chs P) : jk_M l D g yX0_readCharge wsX0_readCharge 3 68 [.ref (d 0)] (List.flatten [(jd_X g d (b 0) Q), (jp_W g b P)]) (some (.int (rX0_readCharge Q P))) (List.flatten [(jd_X g d (b 0) (sX0_readCharge_0 Q P)), (jp_W g b P)]) := by
  refine jk_of (cc := cX0_readCharge) (maxL := 3) (ret := (some .boolean)) (by decide +kernel) rfl (Nat.le_of_ble_eq_true rfl) ?_
  intro p e s m args below meth c hx hb hr hml hts hown hlocks hK hN A H locs hP hD hA hS ls hl
  have hown : s.vm.findClass RX0 = some m.cls := hown
  have hl : lv_has ls 3 [(0, .ref (d 0))] := hl
  have hDu : ∀ (z0 : jd_T) (z1 : jp_T), va_D A (List.flatten [(jd_X g d (b 0) z0), (jp_W g b z1)]) := fun z0 z1 => jk_D.same hD rfl
  have hf_48 := hts (.fieldLink RX0 48 "InfluenceJars$DeedReader" "amount" "I") (by decide +kernel)
  have hi_0 : ∀ w ∈ u_ws RX0 TX0 6, w ∈ wsX0_readCharge := by decide +kernel
  refine lv_aload_n hx hb dX0_readCharge_0 rfl (lv_at hl 0 rfl) ?_
  refine lv_bipush (v := 45) hx hb dX0_readCharge_1 (by decide) ?_
  obtain ⟨S1, eS1⟩ : ∃ z : jd_T, z = sX0_readSign_0 Q P (45 : Int32) := ⟨_, rfl⟩
  refine jk_callV (As := [.int 45]) (rest := []) (ws1 := (List.flatten [(jd_X g d (b 0) S1), (jp_W g b P)])) ⟨hx, hb, hml, hown, hts⟩ (c_X0_readSign l D g d b Q P (45 : Int32) hch) (cwV 1 hts gX0_readCharge_X0_readSign rfl rfl rfl (by decide +kernel) ⟨Nat.le_of_ble_eq_true rfl, Nat.le_of_ble_eq_true rfl⟩) (va_recv hK hP (ci := 0) (q0 := 0) rfl rfl) (show va_P D vwCl (List.flatten [(jd_X g d (b 0) Q), (jp_W g b P)]) H from  (jk_segSub (L := [(jd_X g d (b 0) Q), (jp_W g b P)]) hP [0, 1])) (show va_D A (List.flatten [(jd_X g d (b 0) Q), (jp_W g b P)]) from  (jk_segSubD (L := [(jd_X g d (b 0) Q), (jp_W g b P)]) hD [0, 1] (by decide))) hK hN rfl hl rfl (Nat.le_of_ble_eq_true rfl) dX0_readCharge_3 ⟨Nat.zero_le _, Nat.zero_le _⟩ hS hA (jk_seg (L := [(jd_X g d (b 0) Q), (jp_W g b P)]) (L' := [(jd_X g d (b 0) S1), (jp_W g b P)]) (T := [(jd_X g d (b 0) S1), (jp_W g b P)]) hP hD [0, 1] [(true, 0), (true, 1)] (by rw [eS1]; try rfl) (by decide) rfl) (fun H locs hP hS => ?_)
  refine W.eq (g2 := F0 m 6 ls [.int (rX0_readSign Q P (45 : Int32))]) rfl ?_
  have hD : va_D A (List.flatten [(jd_X g d (b 0) S1), (jp_W g b P)]) := hDu _ _
  refine lv_topi (fun x2 ex2 => ?_)
  refine lv_istore_n (lv' := [(1, .int x2), (0, .ref (d 0))]) hx hb dX0_readCharge_6 rfl hl (by decide) rfl (fun ls hl => ?_)
  refine lv_aload_n hx hb dX0_readCharge_7 rfl (lv_at hl 1 rfl) ?_
  refine lv_iconst (v := 0) hx hb dX0_readCharge_8 (by decide) ?_
  refine lv_bipush (v := 99) hx hb dX0_readCharge_9 (by decide) ?_
  obtain ⟨S3, eS3⟩ : ∃ z : jd_T, z = (if (0 : Int32) ≤ rX0_digitAt S1 P (jd_at S1) then (lc_nl (99 : Int32) P 60 (rX0_digitAt S1 P (jd_at S1)) (jd_uat S1 (jd_at S1 + 1))).2 else S1) := ⟨_, rfl⟩
  refine jk_callV (As := [.int 0, .int 99]) (rest := []) (ws1 := (List.flatten [(jd_X g d (b 0) S3), (jp_W g b P)])) ⟨hx, hb, hml, hown, hts⟩ (c_X0_readNumber l D g d b S1 P (0 : Int32) (99 : Int32) hch) (cwV 2 hts gX0_readCharge_X0_readNumber rfl rfl rfl (by decide +kernel) ⟨Nat.le_of_ble_eq_true rfl, Nat.le_of_ble_eq_true rfl⟩) (va_recv hK hP (ci := 0) (q0 := 0) rfl rfl) (show va_P D vwCl (List.flatten [(jd_X g d (b 0) S1), (jp_W g b P)]) H from  (jk_segSub (L := [(jd_X g d (b 0) S1), (jp_W g b P)]) hP [0, 1])) (show va_D A (List.flatten [(jd_X g d (b 0) S1), (jp_W g b P)]) from  (jk_segSubD (L := [(jd_X g d (b 0) S1), (jp_W g b P)]) hD [0, 1] (by decide))) hK hN rfl hl rfl (Nat.le_of_ble_eq_true rfl) dX0_readCharge_11 ⟨Nat.zero_le _, Nat.zero_le _⟩ hS hA (jk_seg (L := [(jd_X g d (b 0) S1), (jp_W g b P)]) (L' := [(jd_X g d (b 0) S3), (jp_W g b P)]) (T := [(jd_X g d (b 0) S3), (jp_W g b P)]) hP hD [0, 1] [(true, 0), (true, 1)] (by rw [eS3]; try rfl) (by decide) rfl) (fun H locs hP hS => ?_)
  refine W.eq (g2 := F0 m 14 ls [.int (if (0 : Int32) ≤ rX0_digitAt S1 P (jd_at S1) then (lc_nl (99 : Int32) P 60 (rX0_digitAt S1 P (jd_at S1)) (jd_uat S1 (jd_at S1 + 1))).1 else (-1))]) rfl ?_
  have hD : va_D A (List.flatten [(jd_X g d (b 0) S3), (jp_W g b P)]) := hDu _ _
  refine lv_topi (fun x4 ex4 => ?_)
  refine lv_istore_n (lv' := [(2, .int x4), (1, .int x2), (0, .ref (d 0))]) hx hb dX0_readCharge_14 rfl hl (by decide) rfl (fun ls hl => ?_)
  refine lv_iload_n hx hb dX0_readCharge_15 rfl (lv_at hl 0 rfl) ?_
  refine lv_iconst (v := (-1)) hx hb dX0_readCharge_16 (by decide) ?_
  refine lv_icmp_ne (tgt := 22) hx hb dX0_readCharge_17 (by decide) (fun c_17 => ?_) (fun c_17 => ?_)
  · refine lv_aload_n hx hb dX0_readCharge_22 rfl (lv_at hl 2 rfl) ?_
    refine lv_iload_n hx hb dX0_readCharge_23 rfl (lv_at hl 1 rfl) ?_
    have J5 : ∀ (x6 : Int32) (H : Heap) (locs : List Loc), x6 = (if x2 = 0 then x4 else (-x4)) → va_P D vwCl (List.flatten [(jd_X g d (b 0) S3), (jp_W g b P)]) H → va_S A s.heap H locs → W p l e ({ frames := 3, cells := 0, slots := 0, locals := 68 }) s m args below meth c H locs 0 0 (MQ below (jk_Q (some (.int (rX0_readCharge Q P))) D (List.flatten [(jd_X g d (b 0) (sX0_readCharge_0 Q P)), (jp_W g b P)]) A) args s 0 0 A) (F0 m 33 ls [.int x6, .ref (d 0)]) := by
      intro x6 H locs ex6 hP hS
      refine va_put (D := D) (ci := 0) (v := .int x6) (ty := .int) (C := RX0) (T := TX0) (N := 6) hx hb hts hi_0 tyX0 tyX0_ok nmX0 hown hK hP hD hS 0 rfl rfl 5 (by decide) hf_48 (fun _ h9 => h9) rfl (by decide +kernel) rfl rfl (Nat.le_of_ble_eq_true rfl) dX0_readCharge_33 (fun H locs hP hD hS => ?_)
      have hP : va_P D vwCl (List.flatten [(jd_X g d (b 0) (jd_uam S3 x6)), (jp_W g b P)]) H := hP
      have hD : va_D A (List.flatten [(jd_X g d (b 0) (jd_uam S3 x6)), (jp_W g b P)]) := hD
      refine lv_iconst (v := 1) hx hb dX0_readCharge_36 (by decide) ?_
      have qex6 := ex6.symm; subst qex6
      have qex4 := ex4.symm; subst qex4
      have qeS3 := eS3.symm; subst qeS3
      have qex2 := ex2.symm; subst qex2
      have qeS1 := eS1.symm; subst qeS1
      have es0 : (jd_uam (if (0 : Int32) ≤ rX0_digitAt (sX0_readSign_0 Q P (45 : Int32)) P (jd_at (sX0_readSign_0 Q P (45 : Int32))) then (lc_nl (99 : Int32) P 60 (rX0_digitAt (sX0_readSign_0 Q P (45 : Int32)) P (jd_at (sX0_readSign_0 Q P (45 : Int32)))) (jd_uat (sX0_readSign_0 Q P (45 : Int32)) (jd_at (sX0_readSign_0 Q P (45 : Int32)) + 1))).2 else (sX0_readSign_0 Q P (45 : Int32))) (if (rX0_readSign Q P (45 : Int32)) = 0 then (if (0 : Int32) ≤ rX0_digitAt (sX0_readSign_0 Q P (45 : Int32)) P (jd_at (sX0_readSign_0 Q P (45 : Int32))) then (lc_nl (99 : Int32) P 60 (rX0_digitAt (sX0_readSign_0 Q P (45 : Int32)) P (jd_at (sX0_readSign_0 Q P (45 : Int32)))) (jd_uat (sX0_readSign_0 Q P (45 : Int32)) (jd_at (sX0_readSign_0 Q P (45 : Int32)) + 1))).1 else (-1)) else (-(if (0 : Int32) ≤ rX0_digitAt (sX0_readSign_0 Q P (45 : Int32)) P (jd_at (sX0_readSign_0 Q P (45 : Int32))) then (lc_nl (99 : Int32) P 60 (rX0_digitAt (sX0_readSign_0 Q P (45 : Int32)) P (jd_at (sX0_readSign_0 Q P (45 : Int32)))) (jd_uat (sX0_readSign_0 Q P (45 : Int32)) (jd_at (sX0_readSign_0 Q P (45 : Int32)) + 1))).1 else (-1))))) = sX0_readCharge_0 Q P := (by unfold sX0_readCharge_0; rw [if_neg c_17])
      exact jk_zret hx hb hr rfl hlocks hP hS (by unfold rX0_readCharge; rw [if_neg c_17]) (jk_cg1 (fun z0 => (List.flatten [(jd_X g d (b 0) z0), (jp_W g b P)])) es0) dX0_readCharge_37
    refine lv_if_eq (tgt := 32) hx hb dX0_readCharge_24 (by decide) (fun c_24 => ?_) (fun c_24 => ?_)
    · refine lv_iload_n hx hb dX0_readCharge_32 rfl (lv_at hl 0 rfl) ?_
      exact J5 _ H locs ((if_pos c_24).trans (rfl)).symm hP hS
    · refine lv_iload_n hx hb dX0_readCharge_27 rfl (lv_at hl 0 rfl) ?_
      refine lv_ineg hx hb dX0_readCharge_28 ?_
      refine lv_goto (tgt := 33) hx hb dX0_readCharge_29 (by decide) ?_
      exact J5 _ H locs ((if_neg c_24).trans (rfl)).symm hP hS
  · refine lv_iconst (v := 0) hx hb dX0_readCharge_20 (by decide) ?_
    have qex4 := ex4.symm; subst qex4
    have qeS3 := eS3.symm; subst qeS3
    have qex2 := ex2.symm; subst qex2
    have qeS1 := eS1.symm; subst qeS1
    have es0 : (if (0 : Int32) ≤ rX0_digitAt (sX0_readSign_0 Q P (45 : Int32)) P (jd_at (sX0_readSign_0 Q P (45 : Int32))) then (lc_nl (99 : Int32) P 60 (rX0_digitAt (sX0_readSign_0 Q P (45 : Int32)) P (jd_at (sX0_readSign_0 Q P (45 : Int32)))) (jd_uat (sX0_readSign_0 Q P (45 : Int32)) (jd_at (sX0_readSign_0 Q P (45 : Int32)) + 1))).2 else (sX0_readSign_0 Q P (45 : Int32))) = sX0_readCharge_0 Q P := (by unfold sX0_readCharge_0; rw [if_pos c_17])
    exact jk_zret hx hb hr rfl hlocks hP hS (by unfold rX0_readCharge; rw [if_pos c_17]) (jk_cg1 (fun z0 => (List.flatten [(jd_X g d (b 0) z0), (jp_W g b P)])) es0) dX0_readCharge_21

def rX0_readDeed (Q : jd_T) (P : jp_T) : Int32 := let S1 : jd_T := sX0_readSign_0 Q P (120 : Int32); let x2 : Int32 := rX0_readSign Q P (120 : Int32); if x2 = 0 then (let S3 : jd_T := sX0_readSign_0 S1 P (46 : Int32); let x4 : Int32 := rX0_readSign S1 P (46 : Int32); if x4 = 0 then (let S5 : jd_T := sX0_readSector_0 (jd_ude S3 0) P; let x6 : Int32 := rX0_readSector (jd_ude S3 0) P; if x6 = 0 then (0) else (let S7 : jd_T := sX0_readSign_0 S5 P (61 : Int32); let x8 : Int32 := rX0_readSign S5 P (61 : Int32); if x8 = 0 then (0) else (let S9 : jd_T := sX0_readCharge_0 S7 P; let x10 : Int32 := rX0_readCharge S7 P; if x10 = 0 then (0) else (1)))) else (let S11 : jd_T := (if (1 : Int32) ≤ rX0_digitAt (jd_ude S3 1) P (jd_at (jd_ude S3 1)) then (lc_nl (99 : Int32) P 60 (rX0_digitAt (jd_ude S3 1) P (jd_at (jd_ude S3 1))) (jd_uat (jd_ude S3 1) (jd_at (jd_ude S3 1) + 1))).2 else (jd_ude S3 1)); let x12 : Int32 := (if (1 : Int32) ≤ rX0_digitAt (jd_ude S3 1) P (jd_at (jd_ude S3 1)) then (lc_nl (99 : Int32) P 60 (rX0_digitAt (jd_ude S3 1) P (jd_at (jd_ude S3 1))) (jd_uat (jd_ude S3 1) (jd_at (jd_ude S3 1) + 1))).1 else (-1)); if x12 = (-1) then (0) else (1))) else (1)
def sX0_readDeed_0 (Q : jd_T) (P : jp_T) : jd_T := let S1 : jd_T := sX0_readSign_0 Q P (120 : Int32); let x2 : Int32 := rX0_readSign Q P (120 : Int32); if x2 = 0 then (let S3 : jd_T := sX0_readSign_0 S1 P (46 : Int32); let x4 : Int32 := rX0_readSign S1 P (46 : Int32); if x4 = 0 then (let S5 : jd_T := sX0_readSector_0 (jd_ude S3 0) P; let x6 : Int32 := rX0_readSector (jd_ude S3 0) P; if x6 = 0 then (S5) else (let S7 : jd_T := sX0_readSign_0 S5 P (61 : Int32); let x8 : Int32 := rX0_readSign S5 P (61 : Int32); if x8 = 0 then (S7) else (let S9 : jd_T := sX0_readCharge_0 S7 P; let x10 : Int32 := rX0_readCharge S7 P; if x10 = 0 then (S9) else (S9)))) else (let S11 : jd_T := (if (1 : Int32) ≤ rX0_digitAt (jd_ude S3 1) P (jd_at (jd_ude S3 1)) then (lc_nl (99 : Int32) P 60 (rX0_digitAt (jd_ude S3 1) P (jd_at (jd_ude S3 1))) (jd_uat (jd_ude S3 1) (jd_at (jd_ude S3 1) + 1))).2 else (jd_ude S3 1)); let x12 : Int32 := (if (1 : Int32) ≤ rX0_digitAt (jd_ude S3 1) P (jd_at (jd_ude S3 1)) then (lc_nl (99 : Int32) P 60 (rX0_digitAt (jd_ude S3 1) P (jd_at (jd_ude S3 1))) (jd_uat (jd_ude S3 1) (jd_at (jd_ude S3 1) + 1))).1 else (-1)); if x12 = (-1) then ((jd_uam S11 x12)) else ((jd_uam S11 x12)))) else ((jd_ude S1 2))
set_option maxHeartbeats 1000000 in
set_option maxRecDepth 100000 in
theorem c_X0_readDeed (l : Launch) (D : va_G) (g : jk_G) (d : Nat → Nat) (b : Nat → Nat) (Q : jd_T) (P : jp_T) (hch : jp_chs P) : jk_M l D g yX0_readDeed wsX0_readDeed 4 90 [.ref (d 0)] (List.flatten [(jd_X g d (b 0) Q), (jp_W g b P)]) (some (.int (rX0_readDeed Q P))) (List.flatten [(jd_X g d (b 0) (sX0_readDeed_0 Q P)), (jp_W g b P)]) := by
  refine jk_of (cc := cX0_readDeed) (maxL := 1) (ret := (some .boolean)) (by decide +kernel) rfl (Nat.le_of_ble_eq_true rfl) ?_
  intro p e s m args below meth c hx hb hr hml hts hown hlocks hK hN A H locs hP hD hA hS ls hl
  have hown : s.vm.findClass RX0 = some m.cls := hown
  have hl : lv_has ls 1 [(0, .ref (d 0))] := hl
  have hDu : ∀ (z0 : jd_T) (z1 : jp_T), va_D A (List.flatten [(jd_X g d (b 0) z0), (jp_W g b z1)]) := fun z0 z1 => jk_D.same hD rfl
  have hf_41 := hts (.fieldLink RX0 41 "InfluenceJars$DeedReader" "deed" "I") (by decide +kernel)
  have hi_0 : ∀ w ∈ u_ws RX0 TX0 6, w ∈ wsX0_readDeed := by decide +kernel
  have hf_48 := hts (.fieldLink RX0 48 "InfluenceJars$DeedReader" "amount" "I") (by decide +kernel)
  refine lv_aload_n hx hb dX0_readDeed_0 rfl (lv_at hl 0 rfl) ?_
  refine lv_bipush (v := 120) hx hb dX0_readDeed_1 (by decide) ?_
  obtain ⟨S1, eS1⟩ : ∃ z : jd_T, z = sX0_readSign_0 Q P (120 : Int32) := ⟨_, rfl⟩
  refine jk_callV (As := [.int 120]) (rest := []) (ws1 := (List.flatten [(jd_X g d (b 0) S1), (jp_W g b P)])) ⟨hx, hb, hml, hown, hts⟩ (c_X0_readSign l D g d b Q P (120 : Int32) hch) (cwV 1 hts gX0_readDeed_X0_readSign rfl rfl rfl (by decide +kernel) ⟨Nat.le_of_ble_eq_true rfl, Nat.le_of_ble_eq_true rfl⟩) (va_recv hK hP (ci := 0) (q0 := 0) rfl rfl) (show va_P D vwCl (List.flatten [(jd_X g d (b 0) Q), (jp_W g b P)]) H from  (jk_segSub (L := [(jd_X g d (b 0) Q), (jp_W g b P)]) hP [0, 1])) (show va_D A (List.flatten [(jd_X g d (b 0) Q), (jp_W g b P)]) from  (jk_segSubD (L := [(jd_X g d (b 0) Q), (jp_W g b P)]) hD [0, 1] (by decide))) hK hN rfl hl rfl (Nat.le_of_ble_eq_true rfl) dX0_readDeed_3 ⟨Nat.zero_le _, Nat.zero_le _⟩ hS hA (jk_seg (L := [(jd_X g d (b 0) Q), (jp_W g b P)]) (L' := [(jd_X g d (b 0) S1), (jp_W g b P)]) (T := [(jd_X g d (b 0) S1), (jp_W g b P)]) hP hD [0, 1] [(true, 0), (true, 1)] (by rw [eS1]; try rfl) (by decide) rfl) (fun H locs hP hS => ?_)
  refine W.eq (g2 := F0 m 6 ls [.int (rX0_readSign Q P (120 : Int32))]) rfl ?_
  have hD : va_D A (List.flatten [(jd_X g d (b 0) S1), (jp_W g b P)]) := hDu _ _
  refine lv_topi (fun x2 ex2 => ?_)
  refine lv_if_eq (tgt := 16) hx hb dX0_readDeed_6 (by decide) (fun c_6 => ?_) (fun c_6 => ?_)
  · refine lv_aload_n hx hb dX0_readDeed_16 rfl (lv_at hl 0 rfl) ?_
    refine lv_bipush (v := 46) hx hb dX0_readDeed_17 (by decide) ?_
    obtain ⟨S3, eS3⟩ : ∃ z : jd_T, z = sX0_readSign_0 S1 P (46 : Int32) := ⟨_, rfl⟩
    refine jk_callV (As := [.int 46]) (rest := []) (ws1 := (List.flatten [(jd_X g d (b 0) S3), (jp_W g b P)])) ⟨hx, hb, hml, hown, hts⟩ (c_X0_readSign l D g d b S1 P (46 : Int32) hch) (cwV 1 hts gX0_readDeed_X0_readSign rfl rfl rfl (by decide +kernel) ⟨Nat.le_of_ble_eq_true rfl, Nat.le_of_ble_eq_true rfl⟩) (va_recv hK hP (ci := 0) (q0 := 0) rfl rfl) (show va_P D vwCl (List.flatten [(jd_X g d (b 0) S1), (jp_W g b P)]) H from  (jk_segSub (L := [(jd_X g d (b 0) S1), (jp_W g b P)]) hP [0, 1])) (show va_D A (List.flatten [(jd_X g d (b 0) S1), (jp_W g b P)]) from  (jk_segSubD (L := [(jd_X g d (b 0) S1), (jp_W g b P)]) hD [0, 1] (by decide))) hK hN rfl hl rfl (Nat.le_of_ble_eq_true rfl) dX0_readDeed_19 ⟨Nat.zero_le _, Nat.zero_le _⟩ hS hA (jk_seg (L := [(jd_X g d (b 0) S1), (jp_W g b P)]) (L' := [(jd_X g d (b 0) S3), (jp_W g b P)]) (T := [(jd_X g d (b 0) S3), (jp_W g b P)]) hP hD [0, 1] [(true, 0), (true, 1)] (by rw [eS3]; try rfl) (by decide) rfl) (fun H locs hP hS => ?_)
    refine W.eq (g2 := F0 m 22 ls [.int (rX0_readSign S1 P (46 : Int32))]) rfl ?_
    have hD : va_D A (List.flatten [(jd_X g d (b 0) S3), (jp_W g b P)]) := hDu _ _
    refine lv_topi (fun x4 ex4 => ?_)
    refine lv_if_eq (tgt := 55) hx hb dX0_readDeed_22 (by decide) (fun c_22 => ?_) (fun c_22 => ?_)
    · refine lv_aload_n hx hb dX0_readDeed_55 rfl (lv_at hl 0 rfl) ?_
      refine lv_iconst (v := 0) hx hb dX0_readDeed_56 (by decide) ?_
      refine va_put (D := D) (ci := 0) (v := .int 0) (ty := .int) (C := RX0) (T := TX0) (N := 6) hx hb hts hi_0 tyX0 tyX0_ok nmX0 hown hK hP hD hS 0 rfl rfl 2 (by decide) hf_41 (fun _ h9 => h9) rfl (by decide +kernel) rfl rfl (Nat.le_of_ble_eq_true rfl) dX0_readDeed_57 (fun H locs hP hD hS => ?_)
      have hP : va_P D vwCl (List.flatten [(jd_X g d (b 0) (jd_ude S3 0)), (jp_W g b P)]) H := hP
      have hD : va_D A (List.flatten [(jd_X g d (b 0) (jd_ude S3 0)), (jp_W g b P)]) := hD
      refine lv_aload_n hx hb dX0_readDeed_60 rfl (lv_at hl 0 rfl) ?_
      obtain ⟨S5, eS5⟩ : ∃ z : jd_T, z = sX0_readSector_0 (jd_ude S3 0) P := ⟨_, rfl⟩
      refine jk_callV (As := []) (rest := []) (ws1 := (List.flatten [(jd_X g d (b 0) S5), (jp_W g b P)])) ⟨hx, hb, hml, hown, hts⟩ (c_X0_readSector l D g d b (jd_ude S3 0) P hch) (cwV 0 hts gX0_readDeed_X0_readSector rfl rfl rfl (by decide +kernel) ⟨Nat.le_of_ble_eq_true rfl, Nat.le_of_ble_eq_true rfl⟩) (va_recv hK hP (ci := 0) (q0 := 0) rfl rfl) (show va_P D vwCl (List.flatten [(jd_X g d (b 0) (jd_ude S3 0)), (jp_W g b P)]) H from  (jk_segSub (L := [(jd_X g d (b 0) (jd_ude S3 0)), (jp_W g b P)]) hP [0, 1])) (show va_D A (List.flatten [(jd_X g d (b 0) (jd_ude S3 0)), (jp_W g b P)]) from  (jk_segSubD (L := [(jd_X g d (b 0) (jd_ude S3 0)), (jp_W g b P)]) hD [0, 1] (by decide))) hK hN rfl hl rfl (Nat.le_of_ble_eq_true rfl) dX0_readDeed_61 ⟨Nat.zero_le _, Nat.zero_le _⟩ hS hA (jk_seg (L := [(jd_X g d (b 0) (jd_ude S3 0)), (jp_W g b P)]) (L' := [(jd_X g d (b 0) S5), (jp_W g b P)]) (T := [(jd_X g d (b 0) S5), (jp_W g b P)]) hP hD [0, 1] [(true, 0), (true, 1)] (by rw [eS5]; try rfl) (by decide) rfl) (fun H locs hP hS => ?_)
      refine W.eq (g2 := F0 m 64 ls [.int (rX0_readSector (jd_ude S3 0) P)]) rfl ?_
      have hD : va_D A (List.flatten [(jd_X g d (b 0) S5), (jp_W g b P)]) := hDu _ _
      refine lv_topi (fun x6 ex6 => ?_)
      refine lv_if_eq (tgt := 87) hx hb dX0_readDeed_64 (by decide) (fun c_64 => ?_) (fun c_64 => ?_)
      · refine lv_iconst (v := 0) hx hb dX0_readDeed_87 (by decide) ?_
        have qex6 := ex6.symm; subst qex6
        have qeS5 := eS5.symm; subst qeS5
        have qex4 := ex4.symm; subst qex4
        have qeS3 := eS3.symm; subst qeS3
        have qex2 := ex2.symm; subst qex2
        have qeS1 := eS1.symm; subst qeS1
        have es0 : (sX0_readSector_0 (jd_ude (sX0_readSign_0 (sX0_readSign_0 Q P (120 : Int32)) P (46 : Int32)) 0) P) = sX0_readDeed_0 Q P := (by unfold sX0_readDeed_0; rw [if_pos c_6, if_pos c_22, if_pos c_64])
        exact jk_zret hx hb hr rfl hlocks hP hS (by unfold rX0_readDeed; rw [if_pos c_6, if_pos c_22, if_pos c_64]) (jk_cg1 (fun z0 => (List.flatten [(jd_X g d (b 0) z0), (jp_W g b P)])) es0) dX0_readDeed_88
      · refine lv_aload_n hx hb dX0_readDeed_67 rfl (lv_at hl 0 rfl) ?_
        refine lv_bipush (v := 61) hx hb dX0_readDeed_68 (by decide) ?_
        obtain ⟨S7, eS7⟩ : ∃ z : jd_T, z = sX0_readSign_0 S5 P (61 : Int32) := ⟨_, rfl⟩
        refine jk_callV (As := [.int 61]) (rest := []) (ws1 := (List.flatten [(jd_X g d (b 0) S7), (jp_W g b P)])) ⟨hx, hb, hml, hown, hts⟩ (c_X0_readSign l D g d b S5 P (61 : Int32) hch) (cwV 1 hts gX0_readDeed_X0_readSign rfl rfl rfl (by decide +kernel) ⟨Nat.le_of_ble_eq_true rfl, Nat.le_of_ble_eq_true rfl⟩) (va_recv hK hP (ci := 0) (q0 := 0) rfl rfl) (show va_P D vwCl (List.flatten [(jd_X g d (b 0) S5), (jp_W g b P)]) H from  (jk_segSub (L := [(jd_X g d (b 0) S5), (jp_W g b P)]) hP [0, 1])) (show va_D A (List.flatten [(jd_X g d (b 0) S5), (jp_W g b P)]) from  (jk_segSubD (L := [(jd_X g d (b 0) S5), (jp_W g b P)]) hD [0, 1] (by decide))) hK hN rfl hl rfl (Nat.le_of_ble_eq_true rfl) dX0_readDeed_70 ⟨Nat.zero_le _, Nat.zero_le _⟩ hS hA (jk_seg (L := [(jd_X g d (b 0) S5), (jp_W g b P)]) (L' := [(jd_X g d (b 0) S7), (jp_W g b P)]) (T := [(jd_X g d (b 0) S7), (jp_W g b P)]) hP hD [0, 1] [(true, 0), (true, 1)] (by rw [eS7]; try rfl) (by decide) rfl) (fun H locs hP hS => ?_)
        refine W.eq (g2 := F0 m 73 ls [.int (rX0_readSign S5 P (61 : Int32))]) rfl ?_
        have hD : va_D A (List.flatten [(jd_X g d (b 0) S7), (jp_W g b P)]) := hDu _ _
        refine lv_topi (fun x8 ex8 => ?_)
        refine lv_if_eq (tgt := 87) hx hb dX0_readDeed_73 (by decide) (fun c_73 => ?_) (fun c_73 => ?_)
        · refine lv_iconst (v := 0) hx hb dX0_readDeed_87 (by decide) ?_
          have qex8 := ex8.symm; subst qex8
          have qeS7 := eS7.symm; subst qeS7
          have qex6 := ex6.symm; subst qex6
          have qeS5 := eS5.symm; subst qeS5
          have qex4 := ex4.symm; subst qex4
          have qeS3 := eS3.symm; subst qeS3
          have qex2 := ex2.symm; subst qex2
          have qeS1 := eS1.symm; subst qeS1
          have es0 : (sX0_readSign_0 (sX0_readSector_0 (jd_ude (sX0_readSign_0 (sX0_readSign_0 Q P (120 : Int32)) P (46 : Int32)) 0) P) P (61 : Int32)) = sX0_readDeed_0 Q P := (by unfold sX0_readDeed_0; rw [if_pos c_6, if_pos c_22, if_neg c_64, if_pos c_73])
          exact jk_zret hx hb hr rfl hlocks hP hS (by unfold rX0_readDeed; rw [if_pos c_6, if_pos c_22, if_neg c_64, if_pos c_73]) (jk_cg1 (fun z0 => (List.flatten [(jd_X g d (b 0) z0), (jp_W g b P)])) es0) dX0_readDeed_88
        · refine lv_aload_n hx hb dX0_readDeed_76 rfl (lv_at hl 0 rfl) ?_
          obtain ⟨S9, eS9⟩ : ∃ z : jd_T, z = sX0_readCharge_0 S7 P := ⟨_, rfl⟩
          refine jk_callV (As := []) (rest := []) (ws1 := (List.flatten [(jd_X g d (b 0) S9), (jp_W g b P)])) ⟨hx, hb, hml, hown, hts⟩ (c_X0_readCharge l D g d b S7 P hch) (cwV 0 hts gX0_readDeed_X0_readCharge rfl rfl rfl (by decide +kernel) ⟨Nat.le_of_ble_eq_true rfl, Nat.le_of_ble_eq_true rfl⟩) (va_recv hK hP (ci := 0) (q0 := 0) rfl rfl) (show va_P D vwCl (List.flatten [(jd_X g d (b 0) S7), (jp_W g b P)]) H from  (jk_segSub (L := [(jd_X g d (b 0) S7), (jp_W g b P)]) hP [0, 1])) (show va_D A (List.flatten [(jd_X g d (b 0) S7), (jp_W g b P)]) from  (jk_segSubD (L := [(jd_X g d (b 0) S7), (jp_W g b P)]) hD [0, 1] (by decide))) hK hN rfl hl rfl (Nat.le_of_ble_eq_true rfl) dX0_readDeed_77 ⟨Nat.zero_le _, Nat.zero_le _⟩ hS hA (jk_seg (L := [(jd_X g d (b 0) S7), (jp_W g b P)]) (L' := [(jd_X g d (b 0) S9), (jp_W g b P)]) (T := [(jd_X g d (b 0) S9), (jp_W g b P)]) hP hD [0, 1] [(true, 0), (true, 1)] (by rw [eS9]; try rfl) (by decide) rfl) (fun H locs hP hS => ?_)
          refine W.eq (g2 := F0 m 80 ls [.int (rX0_readCharge S7 P)]) rfl ?_
          have hD : va_D A (List.flatten [(jd_X g d (b 0) S9), (jp_W g b P)]) := hDu _ _
          refine lv_topi (fun x10 ex10 => ?_)
          refine lv_if_eq (tgt := 87) hx hb dX0_readDeed_80 (by decide) (fun c_80 => ?_) (fun c_80 => ?_)
          · refine lv_iconst (v := 0) hx hb dX0_readDeed_87 (by decide) ?_
            have qex10 := ex10.symm; subst qex10
            have qeS9 := eS9.symm; subst qeS9
            have qex8 := ex8.symm; subst qex8
            have qeS7 := eS7.symm; subst qeS7
            have qex6 := ex6.symm; subst qex6
            have qeS5 := eS5.symm; subst qeS5
            have qex4 := ex4.symm; subst qex4
            have qeS3 := eS3.symm; subst qeS3
            have qex2 := ex2.symm; subst qex2
            have qeS1 := eS1.symm; subst qeS1
            have es0 : (sX0_readCharge_0 (sX0_readSign_0 (sX0_readSector_0 (jd_ude (sX0_readSign_0 (sX0_readSign_0 Q P (120 : Int32)) P (46 : Int32)) 0) P) P (61 : Int32)) P) = sX0_readDeed_0 Q P := (by unfold sX0_readDeed_0; rw [if_pos c_6, if_pos c_22, if_neg c_64, if_neg c_73, if_pos c_80])
            exact jk_zret hx hb hr rfl hlocks hP hS (by unfold rX0_readDeed; rw [if_pos c_6, if_pos c_22, if_neg c_64, if_neg c_73, if_pos c_80]) (jk_cg1 (fun z0 => (List.flatten [(jd_X g d (b 0) z0), (jp_W g b P)])) es0) dX0_readDeed_88
          · refine lv_iconst (v := 1) hx hb dX0_readDeed_83 (by decide) ?_
            refine lv_goto (tgt := 88) hx hb dX0_readDeed_84 (by decide) ?_
            have qex10 := ex10.symm; subst qex10
            have qeS9 := eS9.symm; subst qeS9
            have qex8 := ex8.symm; subst qex8
            have qeS7 := eS7.symm; subst qeS7
            have qex6 := ex6.symm; subst qex6
            have qeS5 := eS5.symm; subst qeS5
            have qex4 := ex4.symm; subst qex4
            have qeS3 := eS3.symm; subst qeS3
            have qex2 := ex2.symm; subst qex2
            have qeS1 := eS1.symm; subst qeS1
            have es0 : (sX0_readCharge_0 (sX0_readSign_0 (sX0_readSector_0 (jd_ude (sX0_readSign_0 (sX0_readSign_0 Q P (120 : Int32)) P (46 : Int32)) 0) P) P (61 : Int32)) P) = sX0_readDeed_0 Q P := (by unfold sX0_readDeed_0; rw [if_pos c_6, if_pos c_22, if_neg c_64, if_neg c_73, if_neg c_80])
            exact jk_zret hx hb hr rfl hlocks hP hS (by unfold rX0_readDeed; rw [if_pos c_6, if_pos c_22, if_neg c_64, if_neg c_73, if_neg c_80]) (jk_cg1 (fun z0 => (List.flatten [(jd_X g d (b 0) z0), (jp_W g b P)])) es0) dX0_readDeed_88
    · refine lv_aload_n hx hb dX0_readDeed_25 rfl (lv_at hl 0 rfl) ?_
      refine lv_iconst (v := 1) hx hb dX0_readDeed_26 (by decide) ?_
      refine va_put (D := D) (ci := 0) (v := .int 1) (ty := .int) (C := RX0) (T := TX0) (N := 6) hx hb hts hi_0 tyX0 tyX0_ok nmX0 hown hK hP hD hS 0 rfl rfl 2 (by decide) hf_41 (fun _ h9 => h9) rfl (by decide +kernel) rfl rfl (Nat.le_of_ble_eq_true rfl) dX0_readDeed_27 (fun H locs hP hD hS => ?_)
      have hP : va_P D vwCl (List.flatten [(jd_X g d (b 0) (jd_ude S3 1)), (jp_W g b P)]) H := hP
      have hD : va_D A (List.flatten [(jd_X g d (b 0) (jd_ude S3 1)), (jp_W g b P)]) := hD
      refine lv_aload_n hx hb dX0_readDeed_30 rfl (lv_at hl 0 rfl) ?_
      refine lv_aload_n hx hb dX0_readDeed_31 rfl (lv_at hl 0 rfl) ?_
      refine lv_iconst (v := 1) hx hb dX0_readDeed_32 (by decide) ?_
      refine lv_bipush (v := 99) hx hb dX0_readDeed_33 (by decide) ?_
      obtain ⟨S11, eS11⟩ : ∃ z : jd_T, z = (if (1 : Int32) ≤ rX0_digitAt (jd_ude S3 1) P (jd_at (jd_ude S3 1)) then (lc_nl (99 : Int32) P 60 (rX0_digitAt (jd_ude S3 1) P (jd_at (jd_ude S3 1))) (jd_uat (jd_ude S3 1) (jd_at (jd_ude S3 1) + 1))).2 else (jd_ude S3 1)) := ⟨_, rfl⟩
      refine jk_callV (As := [.int 1, .int 99]) (rest := [.ref (d 0)]) (ws1 := (List.flatten [(jd_X g d (b 0) S11), (jp_W g b P)])) ⟨hx, hb, hml, hown, hts⟩ (c_X0_readNumber l D g d b (jd_ude S3 1) P (1 : Int32) (99 : Int32) hch) (cwV 2 hts gX0_readDeed_X0_readNumber rfl rfl rfl (by decide +kernel) ⟨Nat.le_of_ble_eq_true rfl, Nat.le_of_ble_eq_true rfl⟩) (va_recv hK hP (ci := 0) (q0 := 0) rfl rfl) (show va_P D vwCl (List.flatten [(jd_X g d (b 0) (jd_ude S3 1)), (jp_W g b P)]) H from  (jk_segSub (L := [(jd_X g d (b 0) (jd_ude S3 1)), (jp_W g b P)]) hP [0, 1])) (show va_D A (List.flatten [(jd_X g d (b 0) (jd_ude S3 1)), (jp_W g b P)]) from  (jk_segSubD (L := [(jd_X g d (b 0) (jd_ude S3 1)), (jp_W g b P)]) hD [0, 1] (by decide))) hK hN rfl hl rfl (Nat.le_of_ble_eq_true rfl) dX0_readDeed_35 ⟨Nat.zero_le _, Nat.zero_le _⟩ hS hA (jk_seg (L := [(jd_X g d (b 0) (jd_ude S3 1)), (jp_W g b P)]) (L' := [(jd_X g d (b 0) S11), (jp_W g b P)]) (T := [(jd_X g d (b 0) S11), (jp_W g b P)]) hP hD [0, 1] [(true, 0), (true, 1)] (by rw [eS11]; try rfl) (by decide) rfl) (fun H locs hP hS => ?_)
      refine W.eq (g2 := F0 m 38 ls [.int (if (1 : Int32) ≤ rX0_digitAt (jd_ude S3 1) P (jd_at (jd_ude S3 1)) then (lc_nl (99 : Int32) P 60 (rX0_digitAt (jd_ude S3 1) P (jd_at (jd_ude S3 1))) (jd_uat (jd_ude S3 1) (jd_at (jd_ude S3 1) + 1))).1 else (-1)), .ref (d 0)]) rfl ?_
      have hD : va_D A (List.flatten [(jd_X g d (b 0) S11), (jp_W g b P)]) := hDu _ _
      refine lv_topi (fun x12 ex12 => ?_)
      refine va_put (D := D) (ci := 0) (v := .int x12) (ty := .int) (C := RX0) (T := TX0) (N := 6) hx hb hts hi_0 tyX0 tyX0_ok nmX0 hown hK hP hD hS 0 rfl rfl 5 (by decide) hf_48 (fun _ h9 => h9) rfl (by decide +kernel) rfl rfl (Nat.le_of_ble_eq_true rfl) dX0_readDeed_38 (fun H locs hP hD hS => ?_)
      have hP : va_P D vwCl (List.flatten [(jd_X g d (b 0) (jd_uam S11 x12)), (jp_W g b P)]) H := hP
      have hD : va_D A (List.flatten [(jd_X g d (b 0) (jd_uam S11 x12)), (jp_W g b P)]) := hD
      refine lv_aload_n hx hb dX0_readDeed_41 rfl (lv_at hl 0 rfl) ?_
      refine va_get (D := D) (ci := 0) (v := .int x12) (C := RX0) (T := TX0) (N := 6) hx hb hts hi_0 hown hK hP 0 rfl rfl 5 (by decide) hf_48 (fun _ h9 => h9) rfl dX0_readDeed_42 ?_
      refine lv_iconst (v := (-1)) hx hb dX0_readDeed_45 (by decide) ?_
      refine lv_icmp_eq (tgt := 53) hx hb dX0_readDeed_46 (by decide) (fun c_46 => ?_) (fun c_46 => ?_)
      · refine lv_iconst (v := 0) hx hb dX0_readDeed_53 (by decide) ?_
        have qex12 := ex12.symm; subst qex12
        have qeS11 := eS11.symm; subst qeS11
        have qex4 := ex4.symm; subst qex4
        have qeS3 := eS3.symm; subst qeS3
        have qex2 := ex2.symm; subst qex2
        have qeS1 := eS1.symm; subst qeS1
        have es0 : (jd_uam (if (1 : Int32) ≤ rX0_digitAt (jd_ude (sX0_readSign_0 (sX0_readSign_0 Q P (120 : Int32)) P (46 : Int32)) 1) P (jd_at (jd_ude (sX0_readSign_0 (sX0_readSign_0 Q P (120 : Int32)) P (46 : Int32)) 1)) then (lc_nl (99 : Int32) P 60 (rX0_digitAt (jd_ude (sX0_readSign_0 (sX0_readSign_0 Q P (120 : Int32)) P (46 : Int32)) 1) P (jd_at (jd_ude (sX0_readSign_0 (sX0_readSign_0 Q P (120 : Int32)) P (46 : Int32)) 1))) (jd_uat (jd_ude (sX0_readSign_0 (sX0_readSign_0 Q P (120 : Int32)) P (46 : Int32)) 1) (jd_at (jd_ude (sX0_readSign_0 (sX0_readSign_0 Q P (120 : Int32)) P (46 : Int32)) 1) + 1))).2 else (jd_ude (sX0_readSign_0 (sX0_readSign_0 Q P (120 : Int32)) P (46 : Int32)) 1)) (if (1 : Int32) ≤ rX0_digitAt (jd_ude (sX0_readSign_0 (sX0_readSign_0 Q P (120 : Int32)) P (46 : Int32)) 1) P (jd_at (jd_ude (sX0_readSign_0 (sX0_readSign_0 Q P (120 : Int32)) P (46 : Int32)) 1)) then (lc_nl (99 : Int32) P 60 (rX0_digitAt (jd_ude (sX0_readSign_0 (sX0_readSign_0 Q P (120 : Int32)) P (46 : Int32)) 1) P (jd_at (jd_ude (sX0_readSign_0 (sX0_readSign_0 Q P (120 : Int32)) P (46 : Int32)) 1))) (jd_uat (jd_ude (sX0_readSign_0 (sX0_readSign_0 Q P (120 : Int32)) P (46 : Int32)) 1) (jd_at (jd_ude (sX0_readSign_0 (sX0_readSign_0 Q P (120 : Int32)) P (46 : Int32)) 1) + 1))).1 else (-1))) = sX0_readDeed_0 Q P := (by unfold sX0_readDeed_0; rw [if_pos c_6, if_neg c_22, if_pos c_46])
        exact jk_zret hx hb hr rfl hlocks hP hS (by unfold rX0_readDeed; rw [if_pos c_6, if_neg c_22, if_pos c_46]) (jk_cg1 (fun z0 => (List.flatten [(jd_X g d (b 0) z0), (jp_W g b P)])) es0) dX0_readDeed_54
      · refine lv_iconst (v := 1) hx hb dX0_readDeed_49 (by decide) ?_
        refine lv_goto (tgt := 54) hx hb dX0_readDeed_50 (by decide) ?_
        have qex12 := ex12.symm; subst qex12
        have qeS11 := eS11.symm; subst qeS11
        have qex4 := ex4.symm; subst qex4
        have qeS3 := eS3.symm; subst qeS3
        have qex2 := ex2.symm; subst qex2
        have qeS1 := eS1.symm; subst qeS1
        have es0 : (jd_uam (if (1 : Int32) ≤ rX0_digitAt (jd_ude (sX0_readSign_0 (sX0_readSign_0 Q P (120 : Int32)) P (46 : Int32)) 1) P (jd_at (jd_ude (sX0_readSign_0 (sX0_readSign_0 Q P (120 : Int32)) P (46 : Int32)) 1)) then (lc_nl (99 : Int32) P 60 (rX0_digitAt (jd_ude (sX0_readSign_0 (sX0_readSign_0 Q P (120 : Int32)) P (46 : Int32)) 1) P (jd_at (jd_ude (sX0_readSign_0 (sX0_readSign_0 Q P (120 : Int32)) P (46 : Int32)) 1))) (jd_uat (jd_ude (sX0_readSign_0 (sX0_readSign_0 Q P (120 : Int32)) P (46 : Int32)) 1) (jd_at (jd_ude (sX0_readSign_0 (sX0_readSign_0 Q P (120 : Int32)) P (46 : Int32)) 1) + 1))).2 else (jd_ude (sX0_readSign_0 (sX0_readSign_0 Q P (120 : Int32)) P (46 : Int32)) 1)) (if (1 : Int32) ≤ rX0_digitAt (jd_ude (sX0_readSign_0 (sX0_readSign_0 Q P (120 : Int32)) P (46 : Int32)) 1) P (jd_at (jd_ude (sX0_readSign_0 (sX0_readSign_0 Q P (120 : Int32)) P (46 : Int32)) 1)) then (lc_nl (99 : Int32) P 60 (rX0_digitAt (jd_ude (sX0_readSign_0 (sX0_readSign_0 Q P (120 : Int32)) P (46 : Int32)) 1) P (jd_at (jd_ude (sX0_readSign_0 (sX0_readSign_0 Q P (120 : Int32)) P (46 : Int32)) 1))) (jd_uat (jd_ude (sX0_readSign_0 (sX0_readSign_0 Q P (120 : Int32)) P (46 : Int32)) 1) (jd_at (jd_ude (sX0_readSign_0 (sX0_readSign_0 Q P (120 : Int32)) P (46 : Int32)) 1) + 1))).1 else (-1))) = sX0_readDeed_0 Q P := (by unfold sX0_readDeed_0; rw [if_pos c_6, if_neg c_22, if_neg c_46])
        exact jk_zret hx hb hr rfl hlocks hP hS (by unfold rX0_readDeed; rw [if_pos c_6, if_neg c_22, if_neg c_46]) (jk_cg1 (fun z0 => (List.flatten [(jd_X g d (b 0) z0), (jp_W g b P)])) es0) dX0_readDeed_54
  · refine lv_aload_n hx hb dX0_readDeed_9 rfl (lv_at hl 0 rfl) ?_
    refine lv_iconst (v := 2) hx hb dX0_readDeed_10 (by decide) ?_
    refine va_put (D := D) (ci := 0) (v := .int 2) (ty := .int) (C := RX0) (T := TX0) (N := 6) hx hb hts hi_0 tyX0 tyX0_ok nmX0 hown hK hP hD hS 0 rfl rfl 2 (by decide) hf_41 (fun _ h9 => h9) rfl (by decide +kernel) rfl rfl (Nat.le_of_ble_eq_true rfl) dX0_readDeed_11 (fun H locs hP hD hS => ?_)
    have hP : va_P D vwCl (List.flatten [(jd_X g d (b 0) (jd_ude S1 2)), (jp_W g b P)]) H := hP
    have hD : va_D A (List.flatten [(jd_X g d (b 0) (jd_ude S1 2)), (jp_W g b P)]) := hD
    refine lv_iconst (v := 1) hx hb dX0_readDeed_14 (by decide) ?_
    have qex2 := ex2.symm; subst qex2
    have qeS1 := eS1.symm; subst qeS1
    have es0 : (jd_ude (sX0_readSign_0 Q P (120 : Int32)) 2) = sX0_readDeed_0 Q P := (by unfold sX0_readDeed_0; rw [if_neg c_6])
    exact jk_zret hx hb hr rfl hlocks hP hS (by unfold rX0_readDeed; rw [if_neg c_6]) (jk_cg1 (fun z0 => (List.flatten [(jd_X g d (b 0) z0), (jp_W g b P)])) es0) dX0_readDeed_15
