set_option maxHeartbeats 1000000 in
set_option maxRecDepth 100000 in
theorem c_X0_findFault (l : Launch) (D : va_G) (g : jk_G) (d : Nat → Nat) (b : Nat → Nat) (Q : jd_T) (P : jp_T) (hch : jp_chs P) : jk_M l D g yX0_findFault wsX0_findFault 5 110 [.ref (d 0)] (List.flatten [(jd_X g d (b 0) Q), (jp_W g b P)]) (some (.int ((lc_ff P 61 (jd_uat Q 0)).1))) (List.flatten [(jd_X g d (b 0) ((lc_ff P 61 (jd_uat Q 0)).2)), (jp_W g b P)]) := by
  refine jk_of (cc := cX0_findFault) (maxL := 2) (ret := (some .int)) (by decide +kernel) rfl (Nat.le_of_ble_eq_true rfl) ?_
  intro p e s m args below meth c hx hb hr hml hts hown hlocks hK hN A H locs hP hD hA hS ls hl
  have hown : s.vm.findClass RX0 = some m.cls := hown
  have hl : lv_has ls 2 [(0, .ref (d 0))] := hl
  have hDu : ∀ (z0 : jd_T) (z1 : jp_T), va_D A (List.flatten [(jd_X g d (b 0) z0), (jp_W g b z1)]) := fun z0 z1 => jk_D.same hD rfl
  have hf_18 := hts (.fieldLink RX0 18 "InfluenceJars$DeedReader" "at" "I") (by decide +kernel)
  have hi_0 : ∀ w ∈ u_ws RX0 TX0 6, w ∈ wsX0_findFault := by decide +kernel
  have hf_12 := hts (.fieldLink RX0 12 "InfluenceJars$DeedReader" "pad" "LInfluenceJars$Pad;") (by decide +kernel)
  have hf_33 := hts (.fieldLink RX0 33 "InfluenceJars$Pad" "length" "I") (by decide +kernel)
  have hi_3 : ∀ w ∈ u_ws RX3 TX3 2, w ∈ wsX0_findFault := by decide +kernel
  have hk_36 := hts (.constant RX0 36 (-1000006)) (by decide +kernel)
  refine lv_aload_n hx hb dX0_findFault_0 rfl (lv_at hl 0 rfl) ?_
  obtain ⟨S1, eS1⟩ : ∃ z : jd_T, z = sX0_start Q := ⟨_, rfl⟩
  refine jk_callV (As := []) (rest := []) (ws1 := (List.flatten [(jd_X g d (b 0) S1), (jp_W g b P)])) ⟨hx, hb, hml, hown, hts⟩ (c_X0_start l D g d b Q) (cwV 0 hts gX0_findFault_X0_start rfl rfl rfl (by decide +kernel) ⟨Nat.le_of_ble_eq_true rfl, Nat.le_of_ble_eq_true rfl⟩) (va_recv hK hP (ci := 0) (q0 := 0) rfl rfl) (show va_P D vwCl (jd_X g d (b 0) Q) H from jk_one.mp (jk_segSub (L := [(jd_X g d (b 0) Q), (jp_W g b P)]) hP [0])) (show va_D A (jd_X g d (b 0) Q) from jk_oneD.mp (jk_segSubD (L := [(jd_X g d (b 0) Q), (jp_W g b P)]) hD [0] (by decide))) hK hN rfl hl rfl (Nat.le_of_ble_eq_true rfl) dX0_findFault_1 ⟨Nat.zero_le _, Nat.zero_le _⟩ hS hA (fun H9 hh => jk_seg1 (L := [(jd_X g d (b 0) Q), (jp_W g b P)]) (L' := [(jd_X g d (b 0) S1), (jp_W g b P)]) (T := (jd_X g d (b 0) S1)) hP hD 0 [(true, 0), (false, 1)] (by decide) rfl H9 (by rw [eS1]; exact hh)) (fun H locs hP hS => ?_)
  refine W.eq (g2 := F0 m 4 ls []) rfl ?_
  have hD : va_D A (List.flatten [(jd_X g d (b 0) S1), (jp_W g b P)]) := hDu _ _
  refine lv_iconst (v := 0) hx hb dX0_findFault_4 (by decide) ?_
  refine lv_istore_n (lv' := [(1, .int 0), (0, .ref (d 0))]) hx hb dX0_findFault_5 rfl hl (by decide) rfl (fun ls hl => ?_)
  have qeS1 := eS1.symm; subst qeS1
  have hlp : ∀ (nn k : Nat) (Y : jd_T), k ≤ 61 → 61 < k + nn → (lc_ff P (61 - k) Y = lc_ff P 61 (jd_uat Q 0)) → ∀ (H : Heap) (locs : List Loc), va_P D vwCl (List.flatten [(jd_X g d (b 0) Y), (jp_W g b P)]) H → va_S A s.heap H locs → ∀ ls : Array Slot, lv_has ls 2 [(0, .ref (d 0)), (1, .int (nI k))] → W p l e ({ frames := 5, cells := 0, slots := 0, locals := 110 }) s m args below meth c H locs 0 0 (MQ below (jk_Q (some (.int ((lc_ff P 61 (jd_uat Q 0)).1))) D (List.flatten [(jd_X g d (b 0) ((lc_ff P 61 (jd_uat Q 0)).2)), (jp_W g b P)]) A) args s 0 0 A) (F0 m 6 ls []) := by
    intro nn
    induction nn with
    | zero => intro k Y hk1 hk2; exact absurd hk2 (by omega)
    | succ nn ih =>
      intro k Y hk hkn hE H locs hP hS ls hl
      have hD : va_D A (List.flatten [(jd_X g d (b 0) Y), (jp_W g b P)]) := hDu _ _
      refine lv_iload_n hx hb dX0_findFault_6 rfl (lv_at hl 1 rfl) ?_
      refine lv_bipush (v := 60) hx hb dX0_findFault_7 (by decide) ?_
      refine lv_icmp_gt (tgt := 42) hx hb dX0_findFault_9 (by decide) (fun c_9 => ?_) (fun c_9 => ?_)
      · have hE2 := lc_ff_61 (lc_gt61 hk c_9) hE
        refine lv_aload_n hx hb dX0_findFault_42 rfl (lv_at hl 0 rfl) ?_
        refine va_get (D := D) (ci := 0) (v := .int (jd_at Y)) (C := RX0) (T := TX0) (N := 6) hx hb hts hi_0 hown hK hP 0 rfl rfl 1 (by decide) hf_18 (fun _ h9 => h9) rfl dX0_findFault_43 ?_
        refine lv_aload_n hx hb dX0_findFault_46 rfl (lv_at hl 0 rfl) ?_
        refine va_get (D := D) (ci := 0) (v := .ref (b 0)) (C := RX0) (T := TX0) (N := 6) hx hb hts hi_0 hown hK hP 0 rfl rfl 0 (by decide) hf_12 (fun _ h9 => h9) rfl dX0_findFault_47 ?_
        refine va_get (D := D) (ci := 3) (v := .int (jp_ln P)) (C := RX3) (T := TX3) (N := 2) hx hb hts hi_3 hown hK hP 1 rfl rfl 1 (by decide) hf_33 (fun _ h9 => h9) rfl dX0_findFault_50 ?_
        refine lv_icmp_ne (tgt := 61) hx hb dX0_findFault_53 (by decide) (fun c_53 => ?_) (fun c_53 => ?_)
        · refine lv_aload_n hx hb dX0_findFault_61 rfl (lv_at hl 0 rfl) ?_
          refine va_get (D := D) (ci := 0) (v := .int (jd_at Y)) (C := RX0) (T := TX0) (N := 6) hx hb hts hi_0 hown hK hP 0 rfl rfl 1 (by decide) hf_18 (fun _ h9 => h9) rfl dX0_findFault_62 ?_
          have es0 : Y = (lc_ff P 61 (jd_uat Q 0)).2 := (lc_fin2 hE2)
          exact jk_iret hx hb hr hlocks hP hS (lc_fin1b c_53 hE2) (jk_cg1 (fun z0 => (List.flatten [(jd_X g d (b 0) z0), (jp_W g b P)])) es0) dX0_findFault_65
        · refine lv_ldc hx hb hown hk_36 dX0_findFault_56 ?_
          refine lv_goto (tgt := 65) hx hb dX0_findFault_58 (by decide) ?_
          have es0 : Y = (lc_ff P 61 (jd_uat Q 0)).2 := (lc_fin2 hE2)
          exact jk_iret hx hb hr hlocks hP hS (lc_fin1a c_53 hE2) (jk_cg1 (fun z0 => (List.flatten [(jd_X g d (b 0) z0), (jp_W g b P)])) es0) dX0_findFault_65
      · have hlt : k < 61 := lc_ngt61 hk c_9
        refine lv_aload_n hx hb dX0_findFault_12 rfl (lv_at hl 0 rfl) ?_
        obtain ⟨S2, eS2⟩ : ∃ z : jd_T, z = sX0_readDeed_0 Y P := ⟨_, rfl⟩
        refine jk_callV (As := []) (rest := []) (ws1 := (List.flatten [(jd_X g d (b 0) S2), (jp_W g b P)])) ⟨hx, hb, hml, hown, hts⟩ (c_X0_readDeed l D g d b Y P hch) (cwV 0 hts gX0_findFault_X0_readDeed rfl rfl rfl (by decide +kernel) ⟨Nat.le_of_ble_eq_true rfl, Nat.le_of_ble_eq_true rfl⟩) (va_recv hK hP (ci := 0) (q0 := 0) rfl rfl) (show va_P D vwCl (List.flatten [(jd_X g d (b 0) Y), (jp_W g b P)]) H from  (jk_segSub (L := [(jd_X g d (b 0) Y), (jp_W g b P)]) hP [0, 1])) (show va_D A (List.flatten [(jd_X g d (b 0) Y), (jp_W g b P)]) from  (jk_segSubD (L := [(jd_X g d (b 0) Y), (jp_W g b P)]) hD [0, 1] (by decide))) hK hN rfl hl rfl (Nat.le_of_ble_eq_true rfl) dX0_findFault_13 ⟨Nat.zero_le _, Nat.zero_le _⟩ hS hA (jk_seg (L := [(jd_X g d (b 0) Y), (jp_W g b P)]) (L' := [(jd_X g d (b 0) S2), (jp_W g b P)]) (T := [(jd_X g d (b 0) S2), (jp_W g b P)]) hP hD [0, 1] [(true, 0), (true, 1)] (by rw [eS2]; try rfl) (by decide) rfl) (fun H locs hP hS => ?_)
        refine W.eq (g2 := F0 m 16 ls [.int (rX0_readDeed Y P)]) rfl ?_
        have hD : va_D A (List.flatten [(jd_X g d (b 0) S2), (jp_W g b P)]) := hDu _ _
        refine lv_topi (fun x3 ex3 => ?_)
        refine lv_if_ne (tgt := 24) hx hb dX0_findFault_16 (by decide) (fun c_16 => ?_) (fun c_16 => ?_)
        · refine lv_aload_n hx hb dX0_findFault_24 rfl (lv_at hl 0 rfl) ?_
          refine lv_bipush (v := 59) hx hb dX0_findFault_25 (by decide) ?_
          obtain ⟨S4, eS4⟩ : ∃ z : jd_T, z = sX0_readSign_0 S2 P (59 : Int32) := ⟨_, rfl⟩
          refine jk_callV (As := [.int 59]) (rest := []) (ws1 := (List.flatten [(jd_X g d (b 0) S4), (jp_W g b P)])) ⟨hx, hb, hml, hown, hts⟩ (c_X0_readSign l D g d b S2 P (59 : Int32) hch) (cwV 1 hts gX0_findFault_X0_readSign rfl rfl rfl (by decide +kernel) ⟨Nat.le_of_ble_eq_true rfl, Nat.le_of_ble_eq_true rfl⟩) (va_recv hK hP (ci := 0) (q0 := 0) rfl rfl) (show va_P D vwCl (List.flatten [(jd_X g d (b 0) S2), (jp_W g b P)]) H from  (jk_segSub (L := [(jd_X g d (b 0) S2), (jp_W g b P)]) hP [0, 1])) (show va_D A (List.flatten [(jd_X g d (b 0) S2), (jp_W g b P)]) from  (jk_segSubD (L := [(jd_X g d (b 0) S2), (jp_W g b P)]) hD [0, 1] (by decide))) hK hN rfl hl rfl (Nat.le_of_ble_eq_true rfl) dX0_findFault_27 ⟨Nat.zero_le _, Nat.zero_le _⟩ hS hA (jk_seg (L := [(jd_X g d (b 0) S2), (jp_W g b P)]) (L' := [(jd_X g d (b 0) S4), (jp_W g b P)]) (T := [(jd_X g d (b 0) S4), (jp_W g b P)]) hP hD [0, 1] [(true, 0), (true, 1)] (by rw [eS4]; try rfl) (by decide) rfl) (fun H locs hP hS => ?_)
          refine W.eq (g2 := F0 m 30 ls [.int (rX0_readSign S2 P (59 : Int32))]) rfl ?_
          have hD : va_D A (List.flatten [(jd_X g d (b 0) S4), (jp_W g b P)]) := hDu _ _
          refine lv_topi (fun x5 ex5 => ?_)
          refine lv_if_ne (tgt := 36) hx hb dX0_findFault_30 (by decide) (fun c_30 => ?_) (fun c_30 => ?_)
          · refine lv_iinc (v := nI (k + 1)) (lv' := [(1, .int (nI (k + 1))), (0, .ref (d 0))]) hx hb dX0_findFault_36 hl (k := 1) rfl (nI_1 _) (by decide) rfl (fun ls hl => ?_)
            refine lv_goto (tgt := 6) hx hb dX0_findFault_39 (by decide) ?_
            have qex5 := ex5.symm; subst qex5
            have qeS4 := eS4.symm; subst qeS4
            have qex3 := ex3.symm; subst qex3
            have qeS2 := eS2.symm; subst qeS2
            exact ih (k + 1) (sX0_readSign_0 (sX0_readDeed_0 Y P) P (59 : Int32)) (by omega) (by omega) (by skip; exact lc_ff_s hlt c_16 c_30 hE) H locs hP hS ls (lv_sub hl [1, 0] rfl)
          · have hE2 := lc_ff_b hlt (by have qex5 := ex5.symm; subst qex5; have qeS4 := eS4.symm; subst qeS4; have qex3 := ex3.symm; subst qex3; have qeS2 := eS2.symm; subst qeS2; exact c_16) (by have qex5 := ex5.symm; subst qex5; have qeS4 := eS4.symm; subst qeS4; have qex3 := ex3.symm; subst qex3; have qeS2 := eS2.symm; subst qeS2; exact c_30) hE
            refine lv_goto (tgt := 42) hx hb dX0_findFault_33 (by decide) ?_
            refine lv_aload_n hx hb dX0_findFault_42 rfl (lv_at hl 0 rfl) ?_
            refine va_get (D := D) (ci := 0) (v := .int (jd_at S4)) (C := RX0) (T := TX0) (N := 6) hx hb hts hi_0 hown hK hP 0 rfl rfl 1 (by decide) hf_18 (fun _ h9 => h9) rfl dX0_findFault_43 ?_
            refine lv_aload_n hx hb dX0_findFault_46 rfl (lv_at hl 0 rfl) ?_
            refine va_get (D := D) (ci := 0) (v := .ref (b 0)) (C := RX0) (T := TX0) (N := 6) hx hb hts hi_0 hown hK hP 0 rfl rfl 0 (by decide) hf_12 (fun _ h9 => h9) rfl dX0_findFault_47 ?_
            refine va_get (D := D) (ci := 3) (v := .int (jp_ln P)) (C := RX3) (T := TX3) (N := 2) hx hb hts hi_3 hown hK hP 1 rfl rfl 1 (by decide) hf_33 (fun _ h9 => h9) rfl dX0_findFault_50 ?_
            refine lv_icmp_ne (tgt := 61) hx hb dX0_findFault_53 (by decide) (fun c_53 => ?_) (fun c_53 => ?_)
            · refine lv_aload_n hx hb dX0_findFault_61 rfl (lv_at hl 0 rfl) ?_
              refine va_get (D := D) (ci := 0) (v := .int (jd_at S4)) (C := RX0) (T := TX0) (N := 6) hx hb hts hi_0 hown hK hP 0 rfl rfl 1 (by decide) hf_18 (fun _ h9 => h9) rfl dX0_findFault_62 ?_
              have qex5 := ex5.symm; subst qex5
              have qeS4 := eS4.symm; subst qeS4
              have qex3 := ex3.symm; subst qex3
              have qeS2 := eS2.symm; subst qeS2
              have es0 : (sX0_readSign_0 (sX0_readDeed_0 Y P) P (59 : Int32)) = (lc_ff P 61 (jd_uat Q 0)).2 := (lc_fin2 hE2)
              exact jk_iret hx hb hr hlocks hP hS (lc_fin1b c_53 hE2) (jk_cg1 (fun z0 => (List.flatten [(jd_X g d (b 0) z0), (jp_W g b P)])) es0) dX0_findFault_65
            · refine lv_ldc hx hb hown hk_36 dX0_findFault_56 ?_
              refine lv_goto (tgt := 65) hx hb dX0_findFault_58 (by decide) ?_
              have qex5 := ex5.symm; subst qex5
              have qeS4 := eS4.symm; subst qeS4
              have qex3 := ex3.symm; subst qex3
              have qeS2 := eS2.symm; subst qeS2
              have es0 : (sX0_readSign_0 (sX0_readDeed_0 Y P) P (59 : Int32)) = (lc_ff P 61 (jd_uat Q 0)).2 := (lc_fin2 hE2)
              exact jk_iret hx hb hr hlocks hP hS (lc_fin1a c_53 hE2) (jk_cg1 (fun z0 => (List.flatten [(jd_X g d (b 0) z0), (jp_W g b P)])) es0) dX0_findFault_65
        · have hE2 := lc_ff_a hlt (by have qex3 := ex3.symm; subst qex3; have qeS2 := eS2.symm; subst qeS2; exact c_16) hE
          refine lv_aload_n hx hb dX0_findFault_19 rfl (lv_at hl 0 rfl) ?_
          refine va_get (D := D) (ci := 0) (v := .int (jd_at S2)) (C := RX0) (T := TX0) (N := 6) hx hb hts hi_0 hown hK hP 0 rfl rfl 1 (by decide) hf_18 (fun _ h9 => h9) rfl dX0_findFault_20 ?_
          have qex3 := ex3.symm; subst qex3
          have qeS2 := eS2.symm; subst qeS2
          have es0 : (sX0_readDeed_0 Y P) = (lc_ff P 61 (jd_uat Q 0)).2 := (lc_p2 hE2)
          exact jk_iret hx hb hr hlocks hP hS (lc_p1 hE2) (jk_cg1 (fun z0 => (List.flatten [(jd_X g d (b 0) z0), (jp_W g b P)])) es0) dX0_findFault_23
  exact hlp (61 + 1) 0 (jd_uat Q 0) (Nat.zero_le _) (by omega) rfl H locs hP hS ls (lv_sub hl [1, 0] rfl)
