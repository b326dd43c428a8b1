set_option maxHeartbeats 1000000 in
set_option maxRecDepth 100000 in
theorem c_X0_readNumber (l : Launch) (D : va_G) (g : jk_G) (d : Nat → Nat) (b : Nat → Nat) (Q : jd_T) (P : jp_T) (lo : Int32) (hi : Int32) (hch : jp_chs P) : jk_M l D g yX0_readNumber wsX0_readNumber 2 43 [.ref (d 0), .int lo, .int hi] (List.flatten [(jd_X g d (b 0) Q), (jp_W g b P)]) (some (.int (if lo ≤ rX0_digitAt Q P (jd_at Q) then (lc_nl hi P 60 (rX0_digitAt Q P (jd_at Q)) (jd_uat Q (jd_at Q + 1))).1 else (-1)))) (List.flatten [(jd_X g d (b 0) (if lo ≤ rX0_digitAt Q P (jd_at Q) then (lc_nl hi P 60 (rX0_digitAt Q P (jd_at Q)) (jd_uat Q (jd_at Q + 1))).2 else Q)), (jp_W g b P)]) := by
  refine jk_of (cc := cX0_readNumber) (maxL := 6) (ret := (some .int)) (by decide +kernel) rfl (Nat.le_of_ble_eq_true rfl) ?_
  intro p e s m args below meth c hx hb hr hml hts hown hlocks hK hN A H locs hP hD hA hS ls hl
  have hown : s.vm.findClass RX0 = some m.cls := hown
  have hl : lv_has ls 6 [(0, .ref (d 0)), (1, .int lo), (2, .int hi)] := hl
  have hDu : ∀ (z0 : jd_T) (z1 : jp_T), va_D A (List.flatten [(jd_X g d (b 0) z0), (jp_W g b z1)]) := fun z0 z1 => jk_D.same hD rfl
  have hf_18 := hts (.fieldLink RX0 18 "InfluenceJars$DeedReader" "at" "I") (by decide +kernel)
  have hi_0 : ∀ w ∈ u_ws RX0 TX0 6, w ∈ wsX0_readNumber := by decide +kernel
  refine lv_aload_n hx hb dX0_readNumber_0 rfl (lv_at hl 0 rfl) ?_
  refine lv_aload_n hx hb dX0_readNumber_1 rfl (lv_at hl 0 rfl) ?_
  refine va_get (D := D) (ci := 0) (v := .int (jd_at Q)) (C := RX0) (T := TX0) (N := 6) hx hb hts hi_0 hown hK hP 0 rfl rfl 1 (by decide) hf_18 (fun _ h9 => h9) rfl dX0_readNumber_2 ?_
  refine jk_callV (As := [.int (jd_at Q)]) (rest := []) (ws1 := (List.flatten [(jd_X g d (b 0) Q), (jp_W g b P)])) ⟨hx, hb, hml, hown, hts⟩ (c_X0_digitAt l D g d b Q P (jd_at Q) hch) (cwV 1 hts gX0_readNumber_X0_digitAt rfl rfl rfl (by decide +kernel) ⟨Nat.le_of_ble_eq_true rfl, Nat.le_of_ble_eq_true rfl⟩) (va_recv hK hP (ci := 0) (q0 := 0) rfl rfl) (show va_P D vwCl (List.flatten [(jd_X g d (b 0) Q), (jp_W g b P)]) H from  (jk_segSub (L := [(jd_X g d (b 0) Q), (jp_W g b P)]) hP [0, 1])) (show va_D A (List.flatten [(jd_X g d (b 0) Q), (jp_W g b P)]) from  (jk_segSubD (L := [(jd_X g d (b 0) Q), (jp_W g b P)]) hD [0, 1] (by decide))) hK hN rfl hl rfl (Nat.le_of_ble_eq_true rfl) dX0_readNumber_5 ⟨Nat.zero_le _, Nat.zero_le _⟩ hS hA (jk_seg (L := [(jd_X g d (b 0) Q), (jp_W g b P)]) (L' := [(jd_X g d (b 0) Q), (jp_W g b P)]) (T := [(jd_X g d (b 0) Q), (jp_W g b P)]) hP hD [0, 1] [(true, 0), (true, 1)] rfl (by decide) rfl) (fun H locs hP hS => ?_)
  refine W.eq (g2 := F0 m 8 ls [.int (rX0_digitAt Q P (jd_at Q))]) rfl ?_
  refine lv_topi (fun x1 ex1 => ?_)
  refine lv_istore_n (lv' := [(3, .int x1), (0, .ref (d 0)), (1, .int lo), (2, .int hi)]) hx hb dX0_readNumber_8 rfl hl (by decide) rfl (fun ls hl => ?_)
  refine lv_iload_n hx hb dX0_readNumber_9 rfl (lv_at hl 0 rfl) ?_
  refine lv_iload_n hx hb dX0_readNumber_10 rfl (lv_at hl 2 rfl) ?_
  refine lv_icmp_ge (tgt := 16) hx hb dX0_readNumber_11 (by decide) (fun c_11 => ?_) (fun c_11 => ?_)
  · refine lv_aload_n hx hb dX0_readNumber_16 rfl (lv_at hl 1 rfl) ?_
    refine lv_dup hx hb dX0_readNumber_17 rfl ?_
    refine va_get (D := D) (ci := 0) (v := .int (jd_at Q)) (C := RX0) (T := TX0) (N := 6) hx hb hts hi_0 hown hK hP 0 rfl rfl 1 (by decide) hf_18 (fun _ h9 => h9) rfl dX0_readNumber_18 ?_
    refine lv_iconst (v := 1) hx hb dX0_readNumber_21 (by decide) ?_
    refine lv_iadd hx hb dX0_readNumber_22 ?_
    refine lv_topi (fun x2 ex2 => ?_)
    refine va_put (D := D) (ci := 0) (v := .int x2) (ty := .int) (C := RX0) (T := TX0) (N := 6) hx hb hts hi_0 tyX0 tyX0_ok nmX0 hown hK hP hD hS 0 rfl rfl 1 (by decide) hf_18 (fun _ h9 => h9) rfl (by decide +kernel) rfl rfl (Nat.le_of_ble_eq_true rfl) dX0_readNumber_23 (fun H locs hP hD hS => ?_)
    have hP : va_P D vwCl (List.flatten [(jd_X g d (b 0) (jd_uat Q x2)), (jp_W g b P)]) H := hP
    have hD : va_D A (List.flatten [(jd_X g d (b 0) (jd_uat Q x2)), (jp_W g b P)]) := hD
    refine lv_iconst (v := 0) hx hb dX0_readNumber_26 (by decide) ?_
    refine lv_istore (lv' := [(4, .int 0), (3, .int x1), (0, .ref (d 0)), (1, .int lo), (2, .int hi)]) hx hb dX0_readNumber_27 hl (by decide) rfl (fun ls hl => ?_)
    have qex2 := ex2.symm; subst qex2
    have qex1 := ex1.symm; subst qex1
    have hlp : ∀ (nn k : Nat) (x : Int32) (Y : jd_T), k ≤ 60 → 60 < k + nn → (lc_nl hi P (60 - k) x Y = lc_nl hi P 60 (rX0_digitAt Q P (jd_at Q)) (jd_uat Q (jd_at Q + 1))) → ∀ (H : Heap) (locs : List Loc), va_P D vwCl (List.flatten [(jd_X g d (b 0) Y), (jp_W g b P)]) H → va_S A s.heap H locs → ∀ ls : Array Slot, lv_has ls 6 [(0, .ref (d 0)), (1, .int lo), (2, .int hi), (3, .int x), (4, .int (nI k))] → W p l e ({ frames := 2, cells := 0, slots := 0, locals := 43 }) s m args below meth c H locs 0 0 (MQ below (jk_Q (some (.int (if lo ≤ rX0_digitAt Q P (jd_at Q) then (lc_nl hi P 60 (rX0_digitAt Q P (jd_at Q)) (jd_uat Q (jd_at Q + 1))).1 else (-1)))) D (List.flatten [(jd_X g d (b 0) (if lo ≤ rX0_digitAt Q P (jd_at Q) then (lc_nl hi P 60 (rX0_digitAt Q P (jd_at Q)) (jd_uat Q (jd_at Q + 1))).2 else Q)), (jp_W g b P)]) A) args s 0 0 A) (F0 m 29 ls []) := by
      intro nn
      induction nn with
      | zero => intro k x Y hk1 hk2; exact absurd hk2 (by omega)
      | succ nn ih =>
        intro k x Y hk hkn hE H locs hP hS ls hl
        have hD : va_D A (List.flatten [(jd_X g d (b 0) Y), (jp_W g b P)]) := hDu _ _
        refine lv_iload hx hb dX0_readNumber_29 (lv_at hl 4 rfl) ?_
        refine lv_bipush (v := 60) hx hb dX0_readNumber_31 (by decide) ?_
        refine lv_icmp_ge (tgt := 94) hx hb dX0_readNumber_33 (by decide) (fun c_33 => ?_) (fun c_33 => ?_)
        · have hE2 := lc_nl_60 (jk_ge (N := 60) (by decide) hk c_33) hE
          refine lv_iload_n hx hb dX0_readNumber_94 rfl (lv_at hl 3 rfl) ?_
          have es0 : Y = (if lo ≤ rX0_digitAt Q P (jd_at Q) then (lc_nl hi P 60 (rX0_digitAt Q P (jd_at Q)) (jd_uat Q (jd_at Q + 1))).2 else Q) := (by rw [if_pos c_11, ← hE2])
          exact jk_iret hx hb hr hlocks hP hS (by rw [if_pos c_11, ← hE2]) (jk_cg1 (fun z0 => (List.flatten [(jd_X g d (b 0) z0), (jp_W g b P)])) es0) dX0_readNumber_95
        · have hlt : k < 60 := jk_lt (N := 60) (by decide) hk c_33
          refine lv_iload_n hx hb dX0_readNumber_36 rfl (lv_at hl 3 rfl) ?_
          refine lv_if_le (tgt := 94) hx hb dX0_readNumber_37 (by decide) (fun c_37 => ?_) (fun c_37 => ?_)
          · have hE2 := lc_nl_0 hlt c_37 hE
            refine lv_iload_n hx hb dX0_readNumber_94 rfl (lv_at hl 3 rfl) ?_
            have es0 : Y = (if lo ≤ rX0_digitAt Q P (jd_at Q) then (lc_nl hi P 60 (rX0_digitAt Q P (jd_at Q)) (jd_uat Q (jd_at Q + 1))).2 else Q) := (by rw [if_pos c_11, ← hE2])
            exact jk_iret hx hb hr hlocks hP hS (by rw [if_pos c_11, ← hE2]) (jk_cg1 (fun z0 => (List.flatten [(jd_X g d (b 0) z0), (jp_W g b P)])) es0) dX0_readNumber_95
          · refine lv_aload_n hx hb dX0_readNumber_40 rfl (lv_at hl 0 rfl) ?_
            refine lv_aload_n hx hb dX0_readNumber_41 rfl (lv_at hl 0 rfl) ?_
            refine va_get (D := D) (ci := 0) (v := .int (jd_at Y)) (C := RX0) (T := TX0) (N := 6) hx hb hts hi_0 hown hK hP 0 rfl rfl 1 (by decide) hf_18 (fun _ h9 => h9) rfl dX0_readNumber_42 ?_
            refine jk_callV (As := [.int (jd_at Y)]) (rest := []) (ws1 := (List.flatten [(jd_X g d (b 0) Y), (jp_W g b P)])) ⟨hx, hb, hml, hown, hts⟩ (c_X0_digitAt l D g d b Y P (jd_at Y) hch) (cwV 1 hts gX0_readNumber_X0_digitAt rfl rfl rfl (by decide +kernel) ⟨Nat.le_of_ble_eq_true rfl, Nat.le_of_ble_eq_true rfl⟩) (va_recv hK hP (ci := 0) (q0 := 0) rfl rfl) (show va_P D vwCl (List.flatten [(jd_X g d (b 0) Y), (jp_W g b P)]) H from  (jk_segSub (L := [(jd_X g d (b 0) Y), (jp_W g b P)]) hP [0, 1])) (show va_D A (List.flatten [(jd_X g d (b 0) Y), (jp_W g b P)]) from  (jk_segSubD (L := [(jd_X g d (b 0) Y), (jp_W g b P)]) hD [0, 1] (by decide))) hK hN rfl hl rfl (Nat.le_of_ble_eq_true rfl) dX0_readNumber_45 ⟨Nat.zero_le _, Nat.zero_le _⟩ hS hA (jk_seg (L := [(jd_X g d (b 0) Y), (jp_W g b P)]) (L' := [(jd_X g d (b 0) Y), (jp_W g b P)]) (T := [(jd_X g d (b 0) Y), (jp_W g b P)]) hP hD [0, 1] [(true, 0), (true, 1)] rfl (by decide) rfl) (fun H locs hP hS => ?_)
            refine W.eq (g2 := F0 m 48 ls [.int (rX0_digitAt Y P (jd_at Y))]) rfl ?_
            refine lv_topi (fun x3 ex3 => ?_)
            refine lv_istore (lv' := [(5, .int x3), (0, .ref (d 0)), (1, .int lo), (2, .int hi), (3, .int x), (4, .int (nI k))]) hx hb dX0_readNumber_48 hl (by decide) rfl (fun ls hl => ?_)
            refine lv_iload hx hb dX0_readNumber_50 (lv_at hl 0 rfl) ?_
            refine lv_iconst (v := (-1)) hx hb dX0_readNumber_52 (by decide) ?_
            refine lv_icmp_eq (tgt := 94) hx hb dX0_readNumber_53 (by decide) (fun c_53 => ?_) (fun c_53 => ?_)
            · have hE2 := lc_nl_n hlt c_37 (by subst_vars; exact c_53) hE
              refine lv_iload_n hx hb dX0_readNumber_94 rfl (lv_at hl 4 rfl) ?_
              have qex3 := ex3.symm; subst qex3
              have es0 : Y = (if lo ≤ rX0_digitAt Q P (jd_at Q) then (lc_nl hi P 60 (rX0_digitAt Q P (jd_at Q)) (jd_uat Q (jd_at Q + 1))).2 else Q) := (by rw [if_pos c_11, ← hE2])
              exact jk_iret hx hb hr hlocks hP hS (by rw [if_pos c_11, ← hE2]) (jk_cg1 (fun z0 => (List.flatten [(jd_X g d (b 0) z0), (jp_W g b P)])) es0) dX0_readNumber_95
            · refine lv_bipush (v := 10) hx hb dX0_readNumber_56 (by decide) ?_
              refine lv_iload_n hx hb dX0_readNumber_58 rfl (lv_at hl 4 rfl) ?_
              refine lv_imul hx hb dX0_readNumber_59 ?_
              refine lv_iload hx hb dX0_readNumber_60 (lv_at hl 0 rfl) ?_
              refine lv_iadd hx hb dX0_readNumber_62 ?_
              refine lv_iload_n hx hb dX0_readNumber_63 rfl (lv_at hl 3 rfl) ?_
              refine lv_icmp_le (tgt := 70) hx hb dX0_readNumber_64 (by decide) (fun c_64 => ?_) (fun c_64 => ?_)
              · refine lv_bipush (v := 10) hx hb dX0_readNumber_70 (by decide) ?_
                refine lv_iload_n hx hb dX0_readNumber_72 rfl (lv_at hl 4 rfl) ?_
                refine lv_imul hx hb dX0_readNumber_73 ?_
                refine lv_iload hx hb dX0_readNumber_74 (lv_at hl 0 rfl) ?_
                refine lv_iadd hx hb dX0_readNumber_76 ?_
                refine lv_istore_n (lv' := [(3, .int ((10 * x) + x3)), (5, .int x3), (0, .ref (d 0)), (1, .int lo), (2, .int hi), (4, .int (nI k))]) hx hb dX0_readNumber_77 rfl hl (by decide) rfl (fun ls hl => ?_)
                refine lv_aload_n hx hb dX0_readNumber_78 rfl (lv_at hl 2 rfl) ?_
                refine lv_dup hx hb dX0_readNumber_79 rfl ?_
                refine va_get (D := D) (ci := 0) (v := .int (jd_at Y)) (C := RX0) (T := TX0) (N := 6) hx hb hts hi_0 hown hK hP 0 rfl rfl 1 (by decide) hf_18 (fun _ h9 => h9) rfl dX0_readNumber_80 ?_
                refine lv_iconst (v := 1) hx hb dX0_readNumber_83 (by decide) ?_
                refine lv_iadd hx hb dX0_readNumber_84 ?_
                refine lv_topi (fun x4 ex4 => ?_)
                refine va_put (D := D) (ci := 0) (v := .int x4) (ty := .int) (C := RX0) (T := TX0) (N := 6) hx hb hts hi_0 tyX0 tyX0_ok nmX0 hown hK hP hD hS 0 rfl rfl 1 (by decide) hf_18 (fun _ h9 => h9) rfl (by decide +kernel) rfl rfl (Nat.le_of_ble_eq_true rfl) dX0_readNumber_85 (fun H locs hP hD hS => ?_)
                have hP : va_P D vwCl (List.flatten [(jd_X g d (b 0) (jd_uat Y x4)), (jp_W g b P)]) H := hP
                have hD : va_D A (List.flatten [(jd_X g d (b 0) (jd_uat Y x4)), (jp_W g b P)]) := hD
                refine lv_iinc (v := nI (k + 1)) (lv' := [(4, .int (nI (k + 1))), (3, .int ((10 * x) + x3)), (5, .int x3), (0, .ref (d 0)), (1, .int lo), (2, .int hi)]) hx hb dX0_readNumber_88 hl (k := 5) rfl (nI_1 _) (by decide) rfl (fun ls hl => ?_)
                refine lv_goto (tgt := 29) hx hb dX0_readNumber_91 (by decide) ?_
                have qex4 := ex4.symm; subst qex4
                have qex3 := ex3.symm; subst qex3
                exact ih (k + 1) ((10 * x) + (rX0_digitAt Y P (jd_at Y))) (jd_uat Y ((jd_at Y) + 1)) (by omega) (by omega) (by subst_vars; exact lc_nl_s hlt c_37 c_53 c_64 hE) H locs hP hS ls (lv_sub hl [3, 4, 5, 1, 0] rfl)
              · have hE2 := lc_nl_m hlt c_37 (by subst_vars; exact c_53) (by subst_vars; exact c_64) hE
                refine lv_goto (tgt := 94) hx hb dX0_readNumber_67 (by decide) ?_
                refine lv_iload_n hx hb dX0_readNumber_94 rfl (lv_at hl 4 rfl) ?_
                have qex3 := ex3.symm; subst qex3
                have es0 : Y = (if lo ≤ rX0_digitAt Q P (jd_at Q) then (lc_nl hi P 60 (rX0_digitAt Q P (jd_at Q)) (jd_uat Q (jd_at Q + 1))).2 else Q) := (by rw [if_pos c_11, ← hE2])
                exact jk_iret hx hb hr hlocks hP hS (by rw [if_pos c_11, ← hE2]) (jk_cg1 (fun z0 => (List.flatten [(jd_X g d (b 0) z0), (jp_W g b P)])) es0) dX0_readNumber_95
    exact hlp (60 + 1) 0 (rX0_digitAt Q P (jd_at Q)) (jd_uat Q (jd_at Q + 1)) (Nat.zero_le _) (by omega) rfl H locs hP hS ls (lv_sub hl [2, 3, 4, 1, 0] rfl)
  · refine lv_iconst (v := (-1)) hx hb dX0_readNumber_14 (by decide) ?_
    have qex1 := ex1.symm; subst qex1
    have es0 : Q = (if lo ≤ rX0_digitAt Q P (jd_at Q) then (lc_nl hi P 60 (rX0_digitAt Q P (jd_at Q)) (jd_uat Q (jd_at Q + 1))).2 else Q) := (by rw [if_neg c_11])
    exact jk_iret hx hb hr hlocks hP hS (by rw [if_neg c_11]) (jk_cg1 (fun z0 => (List.flatten [(jd_X g d (b 0) z0), (jp_W g b P)])) es0) dX0_readNumber_15
