set_option maxHeartbeats 1000000 in
set_option maxRecDepth 100000 in
theorem c_X4_widestGap (l : Launch) (D : va_G) (g : jk_G) (tl tm : Nat) (xx : Nat → Nat) (n : Nat → Nat) (t : Nat → Nat) (h : Nat → Nat) (z : Nat → Nat) (d : Nat → Nat) (b : Nat → Nat) (N : jm_T) (T : jm_T)  : jk_C l D g (jk_Z tl tm) yX4_widestGap wsX4_widestGap 4 102 0 0 [.ref (xx 0)] (List.flatten [(jo_X xx (n 0) (t 0) (h 0) (z 0) (d 0) (b 0)), (jm_W g n N), (jm_W g t T)]) (some (.int (lc_wg N))) (fun o : Unit => (List.flatten [(jo_X xx (n 0) (t 0) (h 0) (z 0) (d 0) (b 0)), (jm_W g n N), (jm_W g t (lp_ahead N 200))])) := by
  refine jk_ofC (cc := cX4_widestGap) (maxL := 3) (ret := (some .int)) (by decide +kernel) rfl (Nat.le_of_ble_eq_true rfl) ?_
  intro pp e s m args below meth c hx hb hr hml hts hown hlocks hin hK hN A H locs hZ hsH hP hD hA hS ls hl
  have hown : s.vm.findClass RX4 = some m.cls := hown
  have hl : lv_has ls 3 [(0, .ref (xx 0))] := hl
  obtain ⟨NN, hNN⟩ : ∃ z : Nat, z = 200 := ⟨_, rfl⟩
  have hDu : ∀ (z1 : jm_T) (z2 : jm_T), va_D A (List.flatten [(jo_X xx (n 0) (t 0) (h 0) (z 0) (d 0) (b 0)), (jm_W g n z1), (jm_W g t z2)]) := fun z1 z2 => jk_D.same hD rfl
  have hf_16 := hts (.fieldLink RX4 16 "InfluenceJars" "trial" "LInfluenceJars$Machine;") (by decide +kernel)
  have hi_4 : ∀ w ∈ u_ws RX4 TX4 6, w ∈ wsX4_widestGap := by decide +kernel
  have hf_10 := hts (.fieldLink RX4 10 "InfluenceJars" "now" "LInfluenceJars$Machine;") (by decide +kernel)
  have hf_47 := hts (.fieldLink RX4 47 "InfluenceJars" "MOST_SETTING" "[I") (by decide +kernel)
  have hm_209 := hts (.methodLink RX4 209 Lib.Math.min.name) (by decide +kernel)
  have hs_min := hts (.static Lib.Math.min.name) (by decide +kernel)
  have hi_Math := hts (.initialized "java/lang/Math") (by decide +kernel)
  have hc_min := hts (.code Lib.Math.min.name Lib.Math.min.code 2 (some .int)) (by exact List.mem_of_getElem? (i := 10) rfl)
  have hf_43 := hts (.fieldLink RX4 43 "InfluenceJars" "LEAST_SETTING" "[I") (by decide +kernel)
  have hk_91 := hts (.constant RX4 91 (-1000006)) (by decide +kernel)
  have hm_204 := hts (.methodLink RX4 204 Lib.Math.max.name) (by decide +kernel)
  have hs_max := hts (.static Lib.Math.max.name) (by decide +kernel)
  have hc_max := hts (.code Lib.Math.max.name Lib.Math.max.code 2 (some .int)) (by exact List.mem_of_getElem? (i := 6) rfl)
  refine lv_aload_n hx hb dX4_widestGap_0 rfl (lv_at hl 0 rfl) ?_
  refine va_get (D := D) (ci := 4) (v := .ref (t 0)) (C := RX4) (T := TX4) (N := 6) hx hb hts hi_4 hown hK hP 0 rfl rfl 1 (by decide) hf_16 (fun _ h9 => h9) rfl dX4_widestGap_1 ?_
  refine lv_aload_n hx hb dX4_widestGap_4 rfl (lv_at hl 0 rfl) ?_
  refine va_get (D := D) (ci := 4) (v := .ref (n 0)) (C := RX4) (T := TX4) (N := 6) hx hb hts hi_4 hown hK hP 0 rfl rfl 0 (by decide) hf_10 (fun _ h9 => h9) rfl dX4_widestGap_5 ?_
  obtain ⟨S1, eS1⟩ : ∃ z : jm_T, z = N := ⟨_, rfl⟩
  refine jk_callV (As := [.ref (n 0)]) (rest := []) (ws1 := (List.flatten [(jo_X xx (n 0) (t 0) (h 0) (z 0) (d 0) (b 0)), (jm_W g n N), (jm_W g t S1)])) ⟨hx, hb, hml, hown, hts⟩ (c_X2_become l D g t T n N) (cwV 1 hts gX4_widestGap_X2_become rfl rfl rfl (by decide +kernel) ⟨Nat.le_of_ble_eq_true rfl, Nat.le_of_ble_eq_true rfl⟩) (va_recv hK hP (ci := 2) (q0 := 8) rfl rfl) (show va_P D vwCl (List.flatten [(jm_W g t T), (jm_W g n N)]) H from  (jk_segSub (L := [(jo_X xx (n 0) (t 0) (h 0) (z 0) (d 0) (b 0)), (jm_W g n N), (jm_W g t T)]) hP [2, 1])) (show va_D A (List.flatten [(jm_W g t T), (jm_W g n N)]) from  (jk_segSubD (L := [(jo_X xx (n 0) (t 0) (h 0) (z 0) (d 0) (b 0)), (jm_W g n N), (jm_W g t T)]) hD [2, 1] (by decide))) hK hN rfl hl rfl (Nat.le_of_ble_eq_true rfl) dX4_widestGap_8 ⟨Nat.le_of_ble_eq_true rfl, Nat.le_of_ble_eq_true rfl⟩ hS hA (jk_seg (L := [(jo_X xx (n 0) (t 0) (h 0) (z 0) (d 0) (b 0)), (jm_W g n N), (jm_W g t T)]) (L' := [(jo_X xx (n 0) (t 0) (h 0) (z 0) (d 0) (b 0)), (jm_W g n N), (jm_W g t S1)]) (T := [(jm_W g t S1), (jm_W g n N)]) hP hD [2, 1] [(false, 0), (true, 1), (true, 0)] (by rw [eS1]; try rfl) (by decide) rfl) (fun H locs hP hS => ?_)
  refine W.eq (g2 := F0 m 11 ls []) rfl ?_
  have hD : va_D A (List.flatten [(jo_X xx (n 0) (t 0) (h 0) (z 0) (d 0) (b 0)), (jm_W g n N), (jm_W g t S1)]) := hDu _ _
  refine lv_iconst (v := 0) hx hb dX4_widestGap_11 (by decide) ?_
  refine lv_istore_n (lv' := [(1, .int 0), (0, .ref (xx 0))]) hx hb dX4_widestGap_12 rfl hl (by decide) rfl (fun ls hl => ?_)
  refine lv_iconst (v := 0) hx hb dX4_widestGap_13 (by decide) ?_
  refine lv_istore_n (lv' := [(2, .int 0), (1, .int 0), (0, .ref (xx 0))]) hx hb dX4_widestGap_14 rfl hl (by decide) rfl (fun ls hl => ?_)
  have qeS1 := eS1.symm; subst qeS1
  have hlp : ∀ (nn k : Nat), k ≤ NN → NN < k + nn → ∀ (H : Heap) (locs : List Loc), va_P D vwCl (List.flatten [(jo_X xx (n 0) (t 0) (h 0) (z 0) (d 0) (b 0)), (jm_W g n N), (jm_W g t (lp_ahead N k))]) H → va_S A s.heap H locs → ∀ ls : Array Slot, lv_has ls 3 [(0, .ref (xx 0)), (1, .int (lc_wid N k)), (2, .int (nI k))] → W pp l e ({ frames := 4, cells := 0, slots := 0, locals := 102 }) s m args below meth c H locs 0 0 (MQ below (jk_QC (some (.int (lc_wg N))) D (fun o : Unit => (List.flatten [(jo_X xx (n 0) (t 0) (h 0) (z 0) (d 0) (b 0)), (jm_W g n N), (jm_W g t (lp_ahead N 200))])) A) args s 0 0 A) (F0 m 15 ls []) := by
    intro nn
    induction nn with
    | zero => intro k  hk1 hk2; exact absurd hk2 (by omega)
    | succ nn ih =>
      intro k  hk hkn  H locs hP hS ls hl
      have hD : va_D A (List.flatten [(jo_X xx (n 0) (t 0) (h 0) (z 0) (d 0) (b 0)), (jm_W g n N), (jm_W g t (lp_ahead N k))]) := hDu _ _
      refine lv_iload_n hx hb dX4_widestGap_15 rfl (lv_at hl 2 rfl) ?_
      refine lv_sipush (v := 200) hx hb dX4_widestGap_16 (by decide) ?_
      refine lv_icmp_ge (tgt := 47) hx hb dX4_widestGap_19 (by decide) (fun c_19 => ?_) (fun c_19 => ?_)
      · have hk9 : NN = k := (jk_geN hNN (by decide) hk c_19).symm
        subst hk9
        obtain ⟨S2, eS2⟩ : ∃ z : jm_T, z = (lp_ahead N NN) := ⟨_, rfl⟩
        rw [← eS2] at hP hD
        obtain ⟨x3, ex3⟩ : ∃ z : Int32, z = lc_wid N NN := ⟨_, rfl⟩
        rw [← ex3] at hl
        refine lv_iload_n hx hb dX4_widestGap_47 rfl (lv_at hl 1 rfl) ?_
        refine lv_bipush (v := 10) hx hb dX4_widestGap_48 (by decide) ?_
        refine lv_idiv hx hb dX4_widestGap_50 (by decide) ?_
        refine va_gets hx hb hZ.2.1 hS hown hf_47 (fun _ h9 => h9) dX4_widestGap_51 ?_
        refine lv_iconst (v := 2) hx hb dX4_widestGap_54 (by decide) ?_
        refine va_ti (v := .int (jz_hi 2)) hx hb hZ.2.2.2 hS (jk_inC (by decide +kernel)) rfl dX4_widestGap_55 ?_
        refine va_mmin hx hb (by rw [hml]; exact hl.1.symm) hown hm_209 hs_min hi_Math hc_min (Nat.le_of_ble_eq_true rfl) (Nat.le_of_ble_eq_true rfl) (Nat.le_of_ble_eq_true rfl) (Nat.le_of_ble_eq_true rfl) dX4_widestGap_56 ?_
        refine lv_topi (fun x4 ex4 => ?_)
        refine lv_istore_n (lv' := [(2, .int x4), (0, .ref (xx 0)), (1, .int x3)]) hx hb dX4_widestGap_59 rfl hl (by decide) rfl (fun ls hl => ?_)
        refine lv_iload_n hx hb dX4_widestGap_60 rfl (lv_at hl 0 rfl) ?_
        refine va_gets hx hb hZ.1 hS hown hf_43 (fun _ h9 => h9) dX4_widestGap_61 ?_
        refine lv_iconst (v := 2) hx hb dX4_widestGap_64 (by decide) ?_
        refine va_ti (v := .int (jz_lo 2)) hx hb hZ.2.2.1 hS (jk_inC (by decide +kernel)) rfl dX4_widestGap_65 ?_
        refine lv_icmp_ge (tgt := 74) hx hb dX4_widestGap_66 (by decide) (fun c_66 => ?_) (fun c_66 => ?_)
        · refine lv_iload_n hx hb dX4_widestGap_74 rfl (lv_at hl 0 rfl) ?_
          have qex4 := ex4.symm; subst qex4
          have qex3 := ex3.symm; subst qex3
          have qeS2 := eS2.symm; subst qeS2
          subst hNN
          have es2 : (lp_ahead N 200) = (lp_ahead N 200) := rfl
          exact jk_iretC () hx hb hr hlocks hP hD hS (Nat.le_of_ble_eq_true rfl) (Nat.le_of_ble_eq_true rfl) (by unfold lc_wg; exact if_t1 c_66 rfl) (jk_cg1 (fun z2 => (List.flatten [(jo_X xx (n 0) (t 0) (h 0) (z 0) (d 0) (b 0)), (jm_W g n N), (jm_W g t z2)])) es2) dX4_widestGap_75
        · refine lv_ldc hx hb hown hk_91 dX4_widestGap_69 ?_
          refine lv_goto (tgt := 75) hx hb dX4_widestGap_71 (by decide) ?_
          have qex4 := ex4.symm; subst qex4
          have qex3 := ex3.symm; subst qex3
          have qeS2 := eS2.symm; subst qeS2
          subst hNN
          have es2 : (lp_ahead N 200) = (lp_ahead N 200) := rfl
          exact jk_iretC () hx hb hr hlocks hP hD hS (Nat.le_of_ble_eq_true rfl) (Nat.le_of_ble_eq_true rfl) (by unfold lc_wg; exact if_f1 c_66 rfl) (jk_cg1 (fun z2 => (List.flatten [(jo_X xx (n 0) (t 0) (h 0) (z 0) (d 0) (b 0)), (jm_W g n N), (jm_W g t z2)])) es2) dX4_widestGap_75
      · have hlt : k < NN := jk_ltN hNN (by decide) hk c_19
        refine lv_aload_n hx hb dX4_widestGap_22 rfl (lv_at hl 0 rfl) ?_
        refine va_get (D := D) (ci := 4) (v := .ref (t 0)) (C := RX4) (T := TX4) (N := 6) hx hb hts hi_4 hown hK hP 0 rfl rfl 1 (by decide) hf_16 (fun _ h9 => h9) rfl dX4_widestGap_23 ?_
        obtain ⟨S5, eS5⟩ : ∃ z : jm_T, z = sX2_turnAheadOfSpark (lp_ahead N k) := ⟨_, rfl⟩
        refine jk_callV (As := []) (rest := []) (ws1 := (List.flatten [(jo_X xx (n 0) (t 0) (h 0) (z 0) (d 0) (b 0)), (jm_W g n N), (jm_W g t S5)])) ⟨hx, hb, hml, hown, hts⟩ (c_X2_turnAheadOfSpark l D g t (lp_ahead N k)) (cwV 0 hts gX4_widestGap_X2_turnAheadOfSpark rfl rfl rfl (by decide +kernel) ⟨Nat.le_of_ble_eq_true rfl, Nat.le_of_ble_eq_true rfl⟩) (va_recv hK hP (ci := 2) (q0 := 8) rfl rfl) (show va_P D vwCl (jm_W g t (lp_ahead N k)) H from jk_one.mp (jk_segSub (L := [(jo_X xx (n 0) (t 0) (h 0) (z 0) (d 0) (b 0)), (jm_W g n N), (jm_W g t (lp_ahead N k))]) hP [2])) (show va_D A (jm_W g t (lp_ahead N k)) from jk_oneD.mp (jk_segSubD (L := [(jo_X xx (n 0) (t 0) (h 0) (z 0) (d 0) (b 0)), (jm_W g n N), (jm_W g t (lp_ahead N k))]) hD [2] (by decide))) hK hN rfl hl rfl (Nat.le_of_ble_eq_true rfl) dX4_widestGap_26 ⟨Nat.le_of_ble_eq_true rfl, Nat.le_of_ble_eq_true rfl⟩ hS hA (fun H9 hh => jk_seg1 (L := [(jo_X xx (n 0) (t 0) (h 0) (z 0) (d 0) (b 0)), (jm_W g n N), (jm_W g t (lp_ahead N k))]) (L' := [(jo_X xx (n 0) (t 0) (h 0) (z 0) (d 0) (b 0)), (jm_W g n N), (jm_W g t S5)]) (T := (jm_W g t S5)) hP hD 2 [(false, 0), (false, 1), (true, 0)] (by decide) rfl H9 (by rw [eS5]; exact hh)) (fun H locs hP hS => ?_)
        refine W.eq (g2 := F0 m 29 ls []) rfl ?_
        have hD : va_D A (List.flatten [(jo_X xx (n 0) (t 0) (h 0) (z 0) (d 0) (b 0)), (jm_W g n N), (jm_W g t S5)]) := hDu _ _
        refine lv_iload_n hx hb dX4_widestGap_29 rfl (lv_at hl 1 rfl) ?_
        refine lv_aload_n hx hb dX4_widestGap_30 rfl (lv_at hl 0 rfl) ?_
        refine va_get (D := D) (ci := 4) (v := .ref (t 0)) (C := RX4) (T := TX4) (N := 6) hx hb hts hi_4 hown hK hP 0 rfl rfl 1 (by decide) hf_16 (fun _ h9 => h9) rfl dX4_widestGap_31 ?_
        refine jk_callV (As := []) (rest := [.int (lc_wid N k)]) (ws1 := (List.flatten [(jo_X xx (n 0) (t 0) (h 0) (z 0) (d 0) (b 0)), (jm_W g n N), (jm_W g t S5)])) ⟨hx, hb, hml, hown, hts⟩ (c_X2_difference l D g t S5) (cwV 0 hts gX4_widestGap_X2_difference rfl rfl rfl (by decide +kernel) ⟨Nat.le_of_ble_eq_true rfl, Nat.le_of_ble_eq_true rfl⟩) (va_recv hK hP (ci := 2) (q0 := 8) rfl rfl) (show va_P D vwCl (jm_W g t S5) H from jk_one.mp (jk_segSub (L := [(jo_X xx (n 0) (t 0) (h 0) (z 0) (d 0) (b 0)), (jm_W g n N), (jm_W g t S5)]) hP [2])) (show va_D A (jm_W g t S5) from jk_oneD.mp (jk_segSubD (L := [(jo_X xx (n 0) (t 0) (h 0) (z 0) (d 0) (b 0)), (jm_W g n N), (jm_W g t S5)]) hD [2] (by decide))) hK hN rfl hl rfl (Nat.le_of_ble_eq_true rfl) dX4_widestGap_34 ⟨Nat.le_of_ble_eq_true rfl, Nat.le_of_ble_eq_true rfl⟩ hS hA (jk_seg1 (L := [(jo_X xx (n 0) (t 0) (h 0) (z 0) (d 0) (b 0)), (jm_W g n N), (jm_W g t S5)]) (L' := [(jo_X xx (n 0) (t 0) (h 0) (z 0) (d 0) (b 0)), (jm_W g n N), (jm_W g t S5)]) (T := (jm_W g t S5)) hP hD 2 [(false, 0), (false, 1), (true, 0)] (by decide) rfl) (fun H locs hP hS => ?_)
        refine W.eq (g2 := F0 m 37 ls [.int (rX2_difference S5), .int (lc_wid N k)]) rfl ?_
        refine lv_topi (fun x6 ex6 => ?_)
        refine va_mmax hx hb (by rw [hml]; exact hl.1.symm) hown hm_204 hs_max hi_Math hc_max (Nat.le_of_ble_eq_true rfl) (Nat.le_of_ble_eq_true rfl) (Nat.le_of_ble_eq_true rfl) (Nat.le_of_ble_eq_true rfl) dX4_widestGap_37 ?_
        refine lv_topi (fun x7 ex7 => ?_)
        refine lv_istore_n (lv' := [(1, .int x7), (0, .ref (xx 0)), (2, .int (nI k))]) hx hb dX4_widestGap_40 rfl hl (by decide) rfl (fun ls hl => ?_)
        refine lv_iinc (v := nI (k + 1)) (lv' := [(2, .int (nI (k + 1))), (1, .int x7), (0, .ref (xx 0))]) hx hb dX4_widestGap_41 hl (k := 2) rfl (nI_1 _) (by decide) rfl (fun ls hl => ?_)
        refine lv_goto (tgt := 15) hx hb dX4_widestGap_44 (by decide) ?_
        have qex7 := ex7.symm; subst qex7
        have qex6 := ex6.symm; subst qex6
        have qeS5 := eS5.symm; subst qeS5
        exact ih (k + 1)  (by omega) (by omega)  H locs hP hS ls (lv_sub hl [2, 1, 0] rfl)
  exact hlp (NN + 1) 0  (Nat.zero_le _) (by omega)  H locs hP hS ls (lv_sub hl [2, 1, 0] rfl)

set_option maxHeartbeats 1000000 in
set_option maxRecDepth 100000 in
theorem c_X4_mostDamp (l : Launch) (D : va_G) (g : jk_G) (tl tm : Nat) (xx : Nat → Nat) (n : Nat → Nat) (t : Nat → Nat) (h : Nat → Nat) (z : Nat → Nat) (d : Nat → Nat) (b : Nat → Nat) (N : jm_T) (T : jm_T)  : jk_C l D g (jk_Z tl tm) yX4_mostDamp wsX4_mostDamp 5 119 0 0 [.ref (xx 0)] (List.flatten [(jo_X xx (n 0) (t 0) (h 0) (z 0) (d 0) (b 0)), (jm_W g n N), (jm_W g t T)]) (some (.int ((lc_md N 61 0 T).1))) (fun o : Unit => (List.flatten [(jo_X xx (n 0) (t 0) (h 0) (z 0) (d 0) (b 0)), (jm_W g n N), (jm_W g t ((lc_md N 61 0 T).2))])) := by
  refine jk_ofC (cc := cX4_mostDamp) (maxL := 2) (ret := (some .int)) (by decide +kernel) rfl (Nat.le_of_ble_eq_true rfl) ?_
  intro pp e s m args below meth c hx hb hr hml hts hown hlocks hin hK hN A H locs hZ hsH hP hD hA hS ls hl
  have hown : s.vm.findClass RX4 = some m.cls := hown
  have hl : lv_has ls 2 [(0, .ref (xx 0))] := hl
  have hDu : ∀ (z1 : jm_T) (z2 : jm_T), va_D A (List.flatten [(jo_X xx (n 0) (t 0) (h 0) (z 0) (d 0) (b 0)), (jm_W g n z1), (jm_W g t z2)]) := fun z1 z2 => jk_D.same hD rfl
  have hf_47 := hts (.fieldLink RX4 47 "InfluenceJars" "MOST_SETTING" "[I") (by decide +kernel)
  have hf_43 := hts (.fieldLink RX4 43 "InfluenceJars" "LEAST_SETTING" "[I") (by decide +kernel)
  have hk_91 := hts (.constant RX4 91 (-1000006)) (by decide +kernel)
  have hf_16 := hts (.fieldLink RX4 16 "InfluenceJars" "trial" "LInfluenceJars$Machine;") (by decide +kernel)
  have hi_4 : ∀ w ∈ u_ws RX4 TX4 6, w ∈ wsX4_mostDamp := by decide +kernel
  have hf_10 := hts (.fieldLink RX4 10 "InfluenceJars" "now" "LInfluenceJars$Machine;") (by decide +kernel)
  have hf_59 := hts (.fieldLink RX4 59 "InfluenceJars$Machine" "settings" "[I") (by decide +kernel)
  have hi_2 : ∀ w ∈ u_ws RX2 TX2 13, w ∈ wsX4_mostDamp := by decide +kernel
  refine va_gets hx hb hZ.2.1 hS hown hf_47 (fun _ h9 => h9) dX4_mostDamp_0 ?_
  refine lv_iconst (v := 1) hx hb dX4_mostDamp_3 (by decide) ?_
  refine va_ti (v := .int (jz_hi 1)) hx hb hZ.2.2.2 hS (jk_inC (by decide +kernel)) rfl dX4_mostDamp_4 ?_
  refine lv_istore_n (lv' := [(1, .int (jz_hi 1)), (0, .ref (xx 0))]) hx hb dX4_mostDamp_5 rfl hl (by decide) rfl (fun ls hl => ?_)
  have hlp : ∀ (nn k : Nat) (X : jm_T), k ≤ 61 → 61 < k + nn → (lc_md N (61 - k) k X = (lc_md N 61 0 T)) → ∀ (H : Heap) (locs : List Loc), va_P D vwCl (List.flatten [(jo_X xx (n 0) (t 0) (h 0) (z 0) (d 0) (b 0)), (jm_W g n N), (jm_W g t X)]) H → va_S A s.heap H locs → ∀ ls : Array Slot, lv_has ls 2 [(0, .ref (xx 0)), (1, .int (jz_hi 1 - nI k))] → W pp l e ({ frames := 5, cells := 0, slots := 0, locals := 119 }) s m args below meth c H locs 0 0 (MQ below (jk_QC (some (.int ((lc_md N 61 0 T).1))) D (fun o : Unit => (List.flatten [(jo_X xx (n 0) (t 0) (h 0) (z 0) (d 0) (b 0)), (jm_W g n N), (jm_W g t ((lc_md N 61 0 T).2))])) A) args s 0 0 A) (F0 m 6 ls []) := by
    intro nn
    induction nn with
    | zero => intro k X hk1 hk2; exact absurd hk2 (by omega)
    | succ nn ih =>
      intro k X hk hkn hE H locs hP hS ls hl
      have hD : va_D A (List.flatten [(jo_X xx (n 0) (t 0) (h 0) (z 0) (d 0) (b 0)), (jm_W g n N), (jm_W g t X)]) := hDu _ _
      refine lv_iload_n hx hb dX4_mostDamp_6 rfl (lv_at hl 1 rfl) ?_
      refine va_gets hx hb hZ.1 hS hown hf_43 (fun _ h9 => h9) dX4_mostDamp_7 ?_
      refine lv_iconst (v := 1) hx hb dX4_mostDamp_10 (by decide) ?_
      refine va_ti (v := .int (jz_lo 1)) hx hb hZ.2.2.1 hS (jk_inC (by decide +kernel)) rfl dX4_mostDamp_11 ?_
      refine lv_icmp_lt (tgt := 59) hx hb dX4_mostDamp_12 (by decide) (fun c_12 => ?_) (fun c_12 => ?_)
      · have hE2 := lc_md_61 (lc_md_ex hk c_12) hE
        refine lv_ldc hx hb hown hk_91 dX4_mostDamp_59 ?_
        have es2 : X = (lc_md N 61 0 T).2 := (lc_p2 hE2)
        exact jk_iretC () hx hb hr hlocks hP hD hS (Nat.le_of_ble_eq_true rfl) (Nat.le_of_ble_eq_true rfl) (lc_p1 hE2) (jk_cg1 (fun z2 => (List.flatten [(jo_X xx (n 0) (t 0) (h 0) (z 0) (d 0) (b 0)), (jm_W g n N), (jm_W g t z2)])) es2) dX4_mostDamp_61
      · have hlt := lc_md_in hk c_12
        refine lv_aload_n hx hb dX4_mostDamp_15 rfl (lv_at hl 0 rfl) ?_
        refine va_get (D := D) (ci := 4) (v := .ref (t 0)) (C := RX4) (T := TX4) (N := 6) hx hb hts hi_4 hown hK hP 0 rfl rfl 1 (by decide) hf_16 (fun _ h9 => h9) rfl dX4_mostDamp_16 ?_
        refine lv_aload_n hx hb dX4_mostDamp_19 rfl (lv_at hl 0 rfl) ?_
        refine va_get (D := D) (ci := 4) (v := .ref (n 0)) (C := RX4) (T := TX4) (N := 6) hx hb hts hi_4 hown hK hP 0 rfl rfl 0 (by decide) hf_10 (fun _ h9 => h9) rfl dX4_mostDamp_20 ?_
        obtain ⟨S1, eS1⟩ : ∃ z : jm_T, z = N := ⟨_, rfl⟩
        refine jk_callV (As := [.ref (n 0)]) (rest := []) (ws1 := (List.flatten [(jo_X xx (n 0) (t 0) (h 0) (z 0) (d 0) (b 0)), (jm_W g n N), (jm_W g t S1)])) ⟨hx, hb, hml, hown, hts⟩ (c_X2_become l D g t X n N) (cwV 1 hts gX4_mostDamp_X2_become rfl rfl rfl (by decide +kernel) ⟨Nat.le_of_ble_eq_true rfl, Nat.le_of_ble_eq_true rfl⟩) (va_recv hK hP (ci := 2) (q0 := 8) rfl rfl) (show va_P D vwCl (List.flatten [(jm_W g t X), (jm_W g n N)]) H from  (jk_segSub (L := [(jo_X xx (n 0) (t 0) (h 0) (z 0) (d 0) (b 0)), (jm_W g n N), (jm_W g t X)]) hP [2, 1])) (show va_D A (List.flatten [(jm_W g t X), (jm_W g n N)]) from  (jk_segSubD (L := [(jo_X xx (n 0) (t 0) (h 0) (z 0) (d 0) (b 0)), (jm_W g n N), (jm_W g t X)]) hD [2, 1] (by decide))) hK hN rfl hl rfl (Nat.le_of_ble_eq_true rfl) dX4_mostDamp_23 ⟨Nat.le_of_ble_eq_true rfl, Nat.le_of_ble_eq_true rfl⟩ hS hA (jk_seg (L := [(jo_X xx (n 0) (t 0) (h 0) (z 0) (d 0) (b 0)), (jm_W g n N), (jm_W g t X)]) (L' := [(jo_X xx (n 0) (t 0) (h 0) (z 0) (d 0) (b 0)), (jm_W g n N), (jm_W g t S1)]) (T := [(jm_W g t S1), (jm_W g n N)]) hP hD [2, 1] [(false, 0), (true, 1), (true, 0)] (by rw [eS1]; try rfl) (by decide) rfl) (fun H locs hP hS => ?_)
        refine W.eq (g2 := F0 m 26 ls []) rfl ?_
        have hD : va_D A (List.flatten [(jo_X xx (n 0) (t 0) (h 0) (z 0) (d 0) (b 0)), (jm_W g n N), (jm_W g t S1)]) := hDu _ _
        refine lv_aload_n hx hb dX4_mostDamp_26 rfl (lv_at hl 0 rfl) ?_
        refine va_get (D := D) (ci := 4) (v := .ref (t 0)) (C := RX4) (T := TX4) (N := 6) hx hb hts hi_4 hown hK hP 0 rfl rfl 1 (by decide) hf_16 (fun _ h9 => h9) rfl dX4_mostDamp_27 ?_
        refine va_get (D := D) (ci := 2) (v := .ref (t 1)) (C := RX2) (T := TX2) (N := 13) hx hb hts hi_2 hown hK hP 8 rfl rfl 0 (by decide) hf_59 (fun _ h9 => h9) rfl dX4_mostDamp_30 ?_
        refine lv_iconst (v := 1) hx hb dX4_mostDamp_33 (by decide) ?_
        refine lv_iload_n hx hb dX4_mostDamp_34 rfl (lv_at hl 1 rfl) ?_
        refine lv_topi (fun x2 ex2 => ?_)
        refine va_iast (f := (jm_se S1)) hx hb hK hP hD hS 9 0 rfl rfl (jk_inC (by decide +kernel)) dX4_mostDamp_35 (fun H locs hP hD hS => ?_)
        have hP : va_P D vwCl (List.flatten [(jo_X xx (n 0) (t 0) (h 0) (z 0) (d 0) (b 0)), (jm_W g n N), (jm_W g t (jm_use S1 (upd (jm_se S1) 1 x2)))]) H := hP
        have hD : va_D A (List.flatten [(jo_X xx (n 0) (t 0) (h 0) (z 0) (d 0) (b 0)), (jm_W g n N), (jm_W g t (jm_use S1 (upd (jm_se S1) 1 x2)))]) := hD
        refine lv_aload_n hx hb dX4_mostDamp_36 rfl (lv_at hl 0 rfl) ?_
        refine va_get (D := D) (ci := 4) (v := .ref (t 0)) (C := RX4) (T := TX4) (N := 6) hx hb hts hi_4 hown hK hP 0 rfl rfl 1 (by decide) hf_16 (fun _ h9 => h9) rfl dX4_mostDamp_37 ?_
        refine lv_sipush (v := 200) hx hb dX4_mostDamp_40 (by decide) ?_
        obtain ⟨S3, eS3⟩ : ∃ z : jm_T, z = (lp_spark (200 : Int32).toNatClampNeg (jm_use S1 (upd (jm_se S1) 1 x2)) 1).2 := ⟨_, rfl⟩
        refine jk_callV (As := [.int 200]) (rest := []) (ws1 := (List.flatten [(jo_X xx (n 0) (t 0) (h 0) (z 0) (d 0) (b 0)), (jm_W g n N), (jm_W g t S3)])) ⟨hx, hb, hml, hown, hts⟩ (c_X2_turnToSpark l D g t (jm_use S1 (upd (jm_se S1) 1 x2)) (200 : Int32) (by decide)) (cwV 1 hts gX4_mostDamp_X2_turnToSpark rfl rfl rfl (by decide +kernel) ⟨Nat.le_of_ble_eq_true rfl, Nat.le_of_ble_eq_true rfl⟩) (va_recv hK hP (ci := 2) (q0 := 8) rfl rfl) (show va_P D vwCl (jm_W g t (jm_use S1 (upd (jm_se S1) 1 x2))) H from jk_one.mp (jk_segSub (L := [(jo_X xx (n 0) (t 0) (h 0) (z 0) (d 0) (b 0)), (jm_W g n N), (jm_W g t (jm_use S1 (upd (jm_se S1) 1 x2)))]) hP [2])) (show va_D A (jm_W g t (jm_use S1 (upd (jm_se S1) 1 x2))) from jk_oneD.mp (jk_segSubD (L := [(jo_X xx (n 0) (t 0) (h 0) (z 0) (d 0) (b 0)), (jm_W g n N), (jm_W g t (jm_use S1 (upd (jm_se S1) 1 x2)))]) hD [2] (by decide))) hK hN rfl hl rfl (Nat.le_of_ble_eq_true rfl) dX4_mostDamp_43 ⟨Nat.le_of_ble_eq_true rfl, Nat.le_of_ble_eq_true rfl⟩ hS hA (fun H9 hh => jk_seg1 (L := [(jo_X xx (n 0) (t 0) (h 0) (z 0) (d 0) (b 0)), (jm_W g n N), (jm_W g t (jm_use S1 (upd (jm_se S1) 1 x2)))]) (L' := [(jo_X xx (n 0) (t 0) (h 0) (z 0) (d 0) (b 0)), (jm_W g n N), (jm_W g t S3)]) (T := (jm_W g t S3)) hP hD 2 [(false, 0), (false, 1), (true, 0)] (by decide) rfl H9 (by rw [eS3]; exact hh)) (fun H locs hP hS => ?_)
        refine W.eq (g2 := F0 m 46 ls [.int ((lp_spark (200 : Int32).toNatClampNeg (jm_use S1 (upd (jm_se S1) 1 x2)) 1).1)]) rfl ?_
        have hD : va_D A (List.flatten [(jo_X xx (n 0) (t 0) (h 0) (z 0) (d 0) (b 0)), (jm_W g n N), (jm_W g t S3)]) := hDu _ _
        refine lv_topi (fun x4 ex4 => ?_)
        refine lv_ldc hx hb hown hk_91 dX4_mostDamp_46 ?_
        refine lv_icmp_eq (tgt := 53) hx hb dX4_mostDamp_48 (by decide) (fun c_48 => ?_) (fun c_48 => ?_)
        · refine lv_iinc (v := jz_hi 1 - nI (k + 1)) (lv' := [(1, .int (jz_hi 1 - nI (k + 1))), (0, .ref (xx 0))]) hx hb dX4_mostDamp_53 hl (k := 1) rfl (lc_dec _ _) (by decide) rfl (fun ls hl => ?_)
          refine lv_goto (tgt := 6) hx hb dX4_mostDamp_56 (by decide) ?_
          have qex4 := ex4.symm; subst qex4
          have qeS3 := eS3.symm; subst qeS3
          have qex2 := ex2.symm; subst qex2
          have qeS1 := eS1.symm; subst qeS1
          exact ih (k + 1) ((lp_spark (200 : Int32).toNatClampNeg (jm_use N (upd (jm_se N) 1 (jz_hi 1 - nI k))) 1).2) (by omega) (by omega) (by skip; exact lc_md_s hlt c_48 hE) H locs hP hS ls (lv_sub hl [1, 0] rfl)
        · have hE2 := lc_md_a hlt (by have qex4 := ex4.symm; subst qex4; have qeS3 := eS3.symm; subst qeS3; have qex2 := ex2.symm; subst qex2; have qeS1 := eS1.symm; subst qeS1; exact c_48) hE
          refine lv_iload_n hx hb dX4_mostDamp_51 rfl (lv_at hl 1 rfl) ?_
          have qex4 := ex4.symm; subst qex4
          have qeS3 := eS3.symm; subst qeS3
          have qex2 := ex2.symm; subst qex2
          have qeS1 := eS1.symm; subst qeS1
          have es2 : ((lp_spark (200 : Int32).toNatClampNeg (jm_use N (upd (jm_se N) 1 (jz_hi 1 - nI k))) 1).2) = (lc_md N 61 0 T).2 := (lc_p2 hE2)
          exact jk_iretC () hx hb hr hlocks hP hD hS (Nat.le_of_ble_eq_true rfl) (Nat.le_of_ble_eq_true rfl) (lc_p1 hE2) (jk_cg1 (fun z2 => (List.flatten [(jo_X xx (n 0) (t 0) (h 0) (z 0) (d 0) (b 0)), (jm_W g n N), (jm_W g t z2)])) es2) dX4_mostDamp_52
  exact hlp (61 + 1) 0 T (Nat.zero_le _) (by omega) rfl H locs hP hS ls (lv_sub hl [1, 0] (by rw [nI_0, Int32.sub_zero]; rfl))
