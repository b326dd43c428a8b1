def rX4_untilSpark (N : jm_T) (T : jm_T) : Int32 := let S1 : jm_T := N; let S2 : jm_T := (lp_spark (400 : Int32).toNatClampNeg S1 1).2; let x3 : Int32 := (lp_spark (400 : Int32).toNatClampNeg S1 1).1; x3
def sX4_untilSpark_2 (N : jm_T) (T : jm_T) : jm_T := let S1 : jm_T := N; let S2 : jm_T := (lp_spark (400 : Int32).toNatClampNeg S1 1).2; let x3 : Int32 := (lp_spark (400 : Int32).toNatClampNeg S1 1).1; S2
set_option maxHeartbeats 1000000 in
set_option maxRecDepth 100000 in
theorem c_X4_untilSpark (l : Launch) (D : va_G) (g : jk_G) (xx : Nat → Nat) (n : Nat → Nat) (t : Nat → Nat) (h : Nat → Nat) (z : Nat → Nat) (d : Nat → Nat) (b : Nat → Nat) (N : jm_T) (T : jm_T)  : jk_M l D g yX4_untilSpark wsX4_untilSpark 5 119 [.ref (xx 0)] (List.flatten [(jo_X xx (n 0) (t 0) (h 0) (z 0) (d 0) (b 0)), (jm_W g n N), (jm_W g t T)]) (some (.int (rX4_untilSpark N T))) (List.flatten [(jo_X xx (n 0) (t 0) (h 0) (z 0) (d 0) (b 0)), (jm_W g n N), (jm_W g t (sX4_untilSpark_2 N T))]) := by
  refine jk_of (cc := cX4_untilSpark) (maxL := 1) (ret := (some .int)) (by decide +kernel) rfl (Nat.le_of_ble_eq_true rfl) ?_
  intro p e s m args below meth c hx hb hr hml hts hown hlocks hK hN A H locs hP hD hA hS ls hl
  have hown : s.vm.findClass RX4 = some m.cls := hown
  have hl : lv_has ls 1 [(0, .ref (xx 0))] := hl
  have hDu : ∀ (z1 : jm_T) (z2 : jm_T), va_D A (List.flatten [(jo_X xx (n 0) (t 0) (h 0) (z 0) (d 0) (b 0)), (jm_W g n z1), (jm_W g t z2)]) := fun z1 z2 => jk_D.same hD rfl
  have hf_16 := hts (.fieldLink RX4 16 "InfluenceJars" "trial" "LInfluenceJars$Machine;") (by decide +kernel)
  have hi_4 : ∀ w ∈ u_ws RX4 TX4 6, w ∈ wsX4_untilSpark := by decide +kernel
  have hf_10 := hts (.fieldLink RX4 10 "InfluenceJars" "now" "LInfluenceJars$Machine;") (by decide +kernel)
  refine lv_aload_n hx hb dX4_untilSpark_0 rfl (lv_at hl 0 rfl) ?_
  refine va_get (D := D) (ci := 4) (v := .ref (t 0)) (C := RX4) (T := TX4) (N := 6) hx hb hts hi_4 hown hK hP 0 rfl rfl 1 (by decide) hf_16 (fun _ h9 => h9) rfl dX4_untilSpark_1 ?_
  refine lv_aload_n hx hb dX4_untilSpark_4 rfl (lv_at hl 0 rfl) ?_
  refine va_get (D := D) (ci := 4) (v := .ref (n 0)) (C := RX4) (T := TX4) (N := 6) hx hb hts hi_4 hown hK hP 0 rfl rfl 0 (by decide) hf_10 (fun _ h9 => h9) rfl dX4_untilSpark_5 ?_
  obtain ⟨S1, eS1⟩ : ∃ z : jm_T, z = N := ⟨_, rfl⟩
  refine jk_callV (As := [.ref (n 0)]) (rest := []) (ws1 := (List.flatten [(jo_X xx (n 0) (t 0) (h 0) (z 0) (d 0) (b 0)), (jm_W g n N), (jm_W g t S1)])) ⟨hx, hb, hml, hown, hts⟩ (c_X2_become l D g t T n N) (cwV 1 hts gX4_untilSpark_X2_become rfl rfl rfl (by decide +kernel) ⟨Nat.le_of_ble_eq_true rfl, Nat.le_of_ble_eq_true rfl⟩) (va_recv hK hP (ci := 2) (q0 := 8) rfl rfl) (show va_P D vwCl (List.flatten [(jm_W g t T), (jm_W g n N)]) H from  (jk_segSub (L := [(jo_X xx (n 0) (t 0) (h 0) (z 0) (d 0) (b 0)), (jm_W g n N), (jm_W g t T)]) hP [2, 1])) (show va_D A (List.flatten [(jm_W g t T), (jm_W g n N)]) from  (jk_segSubD (L := [(jo_X xx (n 0) (t 0) (h 0) (z 0) (d 0) (b 0)), (jm_W g n N), (jm_W g t T)]) hD [2, 1] (by decide))) hK hN rfl hl rfl (Nat.le_of_ble_eq_true rfl) dX4_untilSpark_8 ⟨Nat.zero_le _, Nat.zero_le _⟩ hS hA (jk_seg (L := [(jo_X xx (n 0) (t 0) (h 0) (z 0) (d 0) (b 0)), (jm_W g n N), (jm_W g t T)]) (L' := [(jo_X xx (n 0) (t 0) (h 0) (z 0) (d 0) (b 0)), (jm_W g n N), (jm_W g t S1)]) (T := [(jm_W g t S1), (jm_W g n N)]) hP hD [2, 1] [(false, 0), (true, 1), (true, 0)] (by rw [eS1]; try rfl) (by decide) rfl) (fun H locs hP hS => ?_)
  refine W.eq (g2 := F0 m 11 ls []) rfl ?_
  have hD : va_D A (List.flatten [(jo_X xx (n 0) (t 0) (h 0) (z 0) (d 0) (b 0)), (jm_W g n N), (jm_W g t S1)]) := hDu _ _
  refine lv_aload_n hx hb dX4_untilSpark_11 rfl (lv_at hl 0 rfl) ?_
  refine va_get (D := D) (ci := 4) (v := .ref (t 0)) (C := RX4) (T := TX4) (N := 6) hx hb hts hi_4 hown hK hP 0 rfl rfl 1 (by decide) hf_16 (fun _ h9 => h9) rfl dX4_untilSpark_12 ?_
  refine lv_sipush (v := 400) hx hb dX4_untilSpark_15 (by decide) ?_
  obtain ⟨S2, eS2⟩ : ∃ z : jm_T, z = (lp_spark (400 : Int32).toNatClampNeg S1 1).2 := ⟨_, rfl⟩
  refine jk_callV (As := [.int 400]) (rest := []) (ws1 := (List.flatten [(jo_X xx (n 0) (t 0) (h 0) (z 0) (d 0) (b 0)), (jm_W g n N), (jm_W g t S2)])) ⟨hx, hb, hml, hown, hts⟩ (c_X2_turnToSpark l D g t S1 (400 : Int32) (by decide)) (cwV 1 hts gX4_untilSpark_X2_turnToSpark rfl rfl rfl (by decide +kernel) ⟨Nat.le_of_ble_eq_true rfl, Nat.le_of_ble_eq_true rfl⟩) (va_recv hK hP (ci := 2) (q0 := 8) rfl rfl) (show va_P D vwCl (jm_W g t S1) H from jk_one.mp (jk_segSub (L := [(jo_X xx (n 0) (t 0) (h 0) (z 0) (d 0) (b 0)), (jm_W g n N), (jm_W g t S1)]) hP [2])) (show va_D A (jm_W g t S1) from jk_oneD.mp (jk_segSubD (L := [(jo_X xx (n 0) (t 0) (h 0) (z 0) (d 0) (b 0)), (jm_W g n N), (jm_W g t S1)]) hD [2] (by decide))) hK hN rfl hl rfl (Nat.le_of_ble_eq_true rfl) dX4_untilSpark_18 ⟨Nat.zero_le _, Nat.zero_le _⟩ hS hA (fun H9 hh => jk_seg1 (L := [(jo_X xx (n 0) (t 0) (h 0) (z 0) (d 0) (b 0)), (jm_W g n N), (jm_W g t S1)]) (L' := [(jo_X xx (n 0) (t 0) (h 0) (z 0) (d 0) (b 0)), (jm_W g n N), (jm_W g t S2)]) (T := (jm_W g t S2)) hP hD 2 [(false, 0), (false, 1), (true, 0)] (by decide) rfl H9 (by rw [eS2]; exact hh)) (fun H locs hP hS => ?_)
  refine W.eq (g2 := F0 m 21 ls [.int ((lp_spark (400 : Int32).toNatClampNeg S1 1).1)]) rfl ?_
  have hD : va_D A (List.flatten [(jo_X xx (n 0) (t 0) (h 0) (z 0) (d 0) (b 0)), (jm_W g n N), (jm_W g t S2)]) := hDu _ _
  refine lv_topi (fun x3 ex3 => ?_)
  have qex3 := ex3.symm; subst qex3
  have qeS2 := eS2.symm; subst qeS2
  have qeS1 := eS1.symm; subst qeS1
  have es2 : ((lp_spark (400 : Int32).toNatClampNeg N 1).2) = sX4_untilSpark_2 N T := (by rfl)
  exact jk_iret hx hb hr hlocks hP hS (by rfl) (jk_cg1 (fun z2 => (List.flatten [(jo_X xx (n 0) (t 0) (h 0) (z 0) (d 0) (b 0)), (jm_W g n N), (jm_W g t z2)])) es2) dX4_untilSpark_21

def rX4_ifTurned (N : jm_T) (T : jm_T) (vt : Int32) (vw : Int32) : Int32 := if vt < 1 then ((-1000002)) else (if 400 < vt then ((-1000002)) else (if vw < 0 then ((-1000002)) else (if vw ≤ 5 then (let S1 : jm_T := N; let S2 : jm_T := lp_turn S1 vt.toNatClampNeg; let x3 : Int32 := lp_dif S1 vt.toNatClampNeg; if vw = 0 then ((jm_sp S2) - (jm_sp N)) else (if vw = 1 then ((jm_rv S2) - (jm_rv N)) else (if vw = 2 then ((jm_ja S2) 0) else (if vw = 3 then ((jm_ja S2) 1) else (if vw = 4 then (x3) else (let x4 : Int32 := rX2_chargeOfAll S2; x4)))))) else ((-1000002)))))
def sX4_ifTurned_2 (N : jm_T) (T : jm_T) (vt : Int32) (vw : Int32) : jm_T := if vt < 1 then (T) else (if 400 < vt then (T) else (if vw < 0 then (T) else (if vw ≤ 5 then (let S1 : jm_T := N; let S2 : jm_T := lp_turn S1 vt.toNatClampNeg; let x3 : Int32 := lp_dif S1 vt.toNatClampNeg; if vw = 0 then (S2) else (if vw = 1 then (S2) else (if vw = 2 then (S2) else (if vw = 3 then (S2) else (if vw = 4 then (S2) else (let x4 : Int32 := rX2_chargeOfAll S2; S2)))))) else (T))))
set_option maxHeartbeats 1000000 in
set_option maxRecDepth 100000 in
theorem c_X4_ifTurned (l : Launch) (D : va_G) (g : jk_G) (xx : Nat → Nat) (n : Nat → Nat) (t : Nat → Nat) (h : Nat → Nat) (z : Nat → Nat) (d : Nat → Nat) (b : Nat → Nat) (N : jm_T) (T : jm_T) (vt : Int32) (vw : Int32)  : jk_M l D g yX4_ifTurned wsX4_ifTurned 6 140 [.ref (xx 0), .int vt, .int vw] (List.flatten [(jo_X xx (n 0) (t 0) (h 0) (z 0) (d 0) (b 0)), (jm_W g n N), (jm_W g t T)]) (some (.int (rX4_ifTurned N T vt vw))) (List.flatten [(jo_X xx (n 0) (t 0) (h 0) (z 0) (d 0) (b 0)), (jm_W g n N), (jm_W g t (sX4_ifTurned_2 N T vt vw))]) := by
  refine jk_of (cc := cX4_ifTurned) (maxL := 4) (ret := (some .int)) (by decide +kernel) rfl (Nat.le_of_ble_eq_true rfl) ?_
  intro p e s m args below meth c hx hb hr hml hts hown hlocks hK hN A H locs hP hD hA hS ls hl
  have hown : s.vm.findClass RX4 = some m.cls := hown
  have hl : lv_has ls 4 [(0, .ref (xx 0)), (1, .int vt), (2, .int vw)] := hl
  have hDu : ∀ (z1 : jm_T) (z2 : jm_T), va_D A (List.flatten [(jo_X xx (n 0) (t 0) (h 0) (z 0) (d 0) (b 0)), (jm_W g n z1), (jm_W g t z2)]) := fun z1 z2 => jk_D.same hD rfl
  have hk_42 := hts (.constant RX4 42 (-1000002)) (by decide +kernel)
  have hf_16 := hts (.fieldLink RX4 16 "InfluenceJars" "trial" "LInfluenceJars$Machine;") (by decide +kernel)
  have hi_4 : ∀ w ∈ u_ws RX4 TX4 6, w ∈ wsX4_ifTurned := by decide +kernel
  have hf_10 := hts (.fieldLink RX4 10 "InfluenceJars" "now" "LInfluenceJars$Machine;") (by decide +kernel)
  have hf_93 := hts (.fieldLink RX4 93 "InfluenceJars$Machine" "sparks" "I") (by decide +kernel)
  have hi_2 : ∀ w ∈ u_ws RX2 TX2 13, w ∈ wsX4_ifTurned := by decide +kernel
  have hf_165 := hts (.fieldLink RX4 165 "InfluenceJars$Machine" "reversals" "I") (by decide +kernel)
  have hf_150 := hts (.fieldLink RX4 150 "InfluenceJars$Machine" "jars" "[I") (by decide +kernel)
  refine lv_iload_n hx hb dX4_ifTurned_0 rfl (lv_at hl 1 rfl) ?_
  refine lv_iconst (v := 1) hx hb dX4_ifTurned_1 (by decide) ?_
  refine lv_icmp_lt (tgt := 21) hx hb dX4_ifTurned_2 (by decide) (fun c_2 => ?_) (fun c_2 => ?_)
  · refine lv_ldc hx hb hown hk_42 dX4_ifTurned_21 ?_
    have es2 : T = sX4_ifTurned_2 N T vt vw := (by unfold sX4_ifTurned_2; rw [if_pos c_2])
    exact jk_iret hx hb hr hlocks hP hS (by unfold rX4_ifTurned; rw [if_pos c_2]) (jk_cg1 (fun z2 => (List.flatten [(jo_X xx (n 0) (t 0) (h 0) (z 0) (d 0) (b 0)), (jm_W g n N), (jm_W g t z2)])) es2) dX4_ifTurned_23
  · refine lv_iload_n hx hb dX4_ifTurned_5 rfl (lv_at hl 1 rfl) ?_
    refine lv_sipush (v := 400) hx hb dX4_ifTurned_6 (by decide) ?_
    refine lv_icmp_gt (tgt := 21) hx hb dX4_ifTurned_9 (by decide) (fun c_9 => ?_) (fun c_9 => ?_)
    · refine lv_ldc hx hb hown hk_42 dX4_ifTurned_21 ?_
      have es2 : T = sX4_ifTurned_2 N T vt vw := (by unfold sX4_ifTurned_2; rw [if_neg c_2, if_pos c_9])
      exact jk_iret hx hb hr hlocks hP hS (by unfold rX4_ifTurned; rw [if_neg c_2, if_pos c_9]) (jk_cg1 (fun z2 => (List.flatten [(jo_X xx (n 0) (t 0) (h 0) (z 0) (d 0) (b 0)), (jm_W g n N), (jm_W g t z2)])) es2) dX4_ifTurned_23
    · refine lv_iload_n hx hb dX4_ifTurned_12 rfl (lv_at hl 2 rfl) ?_
      refine lv_if_lt (tgt := 21) hx hb dX4_ifTurned_13 (by decide) (fun c_13 => ?_) (fun c_13 => ?_)
      · refine lv_ldc hx hb hown hk_42 dX4_ifTurned_21 ?_
        have es2 : T = sX4_ifTurned_2 N T vt vw := (by unfold sX4_ifTurned_2; rw [if_neg c_2, if_neg c_9, if_pos c_13])
        exact jk_iret hx hb hr hlocks hP hS (by unfold rX4_ifTurned; rw [if_neg c_2, if_neg c_9, if_pos c_13]) (jk_cg1 (fun z2 => (List.flatten [(jo_X xx (n 0) (t 0) (h 0) (z 0) (d 0) (b 0)), (jm_W g n N), (jm_W g t z2)])) es2) dX4_ifTurned_23
      · refine lv_iload_n hx hb dX4_ifTurned_16 rfl (lv_at hl 2 rfl) ?_
        refine lv_iconst (v := 5) hx hb dX4_ifTurned_17 (by decide) ?_
        refine lv_icmp_le (tgt := 24) hx hb dX4_ifTurned_18 (by decide) (fun c_18 => ?_) (fun c_18 => ?_)
        · refine lv_aload_n hx hb dX4_ifTurned_24 rfl (lv_at hl 0 rfl) ?_
          refine va_get (D := D) (ci := 4) (v := .ref (t 0)) (C := RX4) (T := TX4) (N := 6) hx hb hts hi_4 hown hK hP 0 rfl rfl 1 (by decide) hf_16 (fun _ h9 => h9) rfl dX4_ifTurned_25 ?_
          refine lv_aload_n hx hb dX4_ifTurned_28 rfl (lv_at hl 0 rfl) ?_
          refine va_get (D := D) (ci := 4) (v := .ref (n 0)) (C := RX4) (T := TX4) (N := 6) hx hb hts hi_4 hown hK hP 0 rfl rfl 0 (by decide) hf_10 (fun _ h9 => h9) rfl dX4_ifTurned_29 ?_
          obtain ⟨S1, eS1⟩ : ∃ z : jm_T, z = N := ⟨_, rfl⟩
          refine jk_callV (As := [.ref (n 0)]) (rest := []) (ws1 := (List.flatten [(jo_X xx (n 0) (t 0) (h 0) (z 0) (d 0) (b 0)), (jm_W g n N), (jm_W g t S1)])) ⟨hx, hb, hml, hown, hts⟩ (c_X2_become l D g t T n N) (cwV 1 hts gX4_ifTurned_X2_become rfl rfl rfl (by decide +kernel) ⟨Nat.le_of_ble_eq_true rfl, Nat.le_of_ble_eq_true rfl⟩) (va_recv hK hP (ci := 2) (q0 := 8) rfl rfl) (show va_P D vwCl (List.flatten [(jm_W g t T), (jm_W g n N)]) H from  (jk_segSub (L := [(jo_X xx (n 0) (t 0) (h 0) (z 0) (d 0) (b 0)), (jm_W g n N), (jm_W g t T)]) hP [2, 1])) (show va_D A (List.flatten [(jm_W g t T), (jm_W g n N)]) from  (jk_segSubD (L := [(jo_X xx (n 0) (t 0) (h 0) (z 0) (d 0) (b 0)), (jm_W g n N), (jm_W g t T)]) hD [2, 1] (by decide))) hK hN rfl hl rfl (Nat.le_of_ble_eq_true rfl) dX4_ifTurned_32 ⟨Nat.zero_le _, Nat.zero_le _⟩ hS hA (jk_seg (L := [(jo_X xx (n 0) (t 0) (h 0) (z 0) (d 0) (b 0)), (jm_W g n N), (jm_W g t T)]) (L' := [(jo_X xx (n 0) (t 0) (h 0) (z 0) (d 0) (b 0)), (jm_W g n N), (jm_W g t S1)]) (T := [(jm_W g t S1), (jm_W g n N)]) hP hD [2, 1] [(false, 0), (true, 1), (true, 0)] (by rw [eS1]; try rfl) (by decide) rfl) (fun H locs hP hS => ?_)
          refine W.eq (g2 := F0 m 35 ls []) rfl ?_
          have hD : va_D A (List.flatten [(jo_X xx (n 0) (t 0) (h 0) (z 0) (d 0) (b 0)), (jm_W g n N), (jm_W g t S1)]) := hDu _ _
          refine lv_aload_n hx hb dX4_ifTurned_35 rfl (lv_at hl 0 rfl) ?_
          refine va_get (D := D) (ci := 4) (v := .ref (t 0)) (C := RX4) (T := TX4) (N := 6) hx hb hts hi_4 hown hK hP 0 rfl rfl 1 (by decide) hf_16 (fun _ h9 => h9) rfl dX4_ifTurned_36 ?_
          refine lv_iload_n hx hb dX4_ifTurned_39 rfl (lv_at hl 1 rfl) ?_
          obtain ⟨S2, eS2⟩ : ∃ z : jm_T, z = lp_turn S1 vt.toNatClampNeg := ⟨_, rfl⟩
          refine jk_callV (As := [.int vt]) (rest := []) (ws1 := (List.flatten [(jo_X xx (n 0) (t 0) (h 0) (z 0) (d 0) (b 0)), (jm_W g n N), (jm_W g t S2)])) ⟨hx, hb, hml, hown, hts⟩ (c_X2_turnToGreatestDifference l D g t S1 vt) (cwV 1 hts gX4_ifTurned_X2_turnToGreatestDifference rfl rfl rfl (by decide +kernel) ⟨Nat.le_of_ble_eq_true rfl, Nat.le_of_ble_eq_true rfl⟩) (va_recv hK hP (ci := 2) (q0 := 8) rfl rfl) (show va_P D vwCl (jm_W g t S1) H from jk_one.mp (jk_segSub (L := [(jo_X xx (n 0) (t 0) (h 0) (z 0) (d 0) (b 0)), (jm_W g n N), (jm_W g t S1)]) hP [2])) (show va_D A (jm_W g t S1) from jk_oneD.mp (jk_segSubD (L := [(jo_X xx (n 0) (t 0) (h 0) (z 0) (d 0) (b 0)), (jm_W g n N), (jm_W g t S1)]) hD [2] (by decide))) hK hN rfl hl rfl (Nat.le_of_ble_eq_true rfl) dX4_ifTurned_40 ⟨Nat.zero_le _, Nat.zero_le _⟩ hS hA (fun H9 hh => jk_seg1 (L := [(jo_X xx (n 0) (t 0) (h 0) (z 0) (d 0) (b 0)), (jm_W g n N), (jm_W g t S1)]) (L' := [(jo_X xx (n 0) (t 0) (h 0) (z 0) (d 0) (b 0)), (jm_W g n N), (jm_W g t S2)]) (T := (jm_W g t S2)) hP hD 2 [(false, 0), (false, 1), (true, 0)] (by decide) rfl H9 (by rw [eS2]; exact hh)) (fun H locs hP hS => ?_)
          refine W.eq (g2 := F0 m 43 ls [.int (lp_dif S1 vt.toNatClampNeg)]) rfl ?_
          have hD : va_D A (List.flatten [(jo_X xx (n 0) (t 0) (h 0) (z 0) (d 0) (b 0)), (jm_W g n N), (jm_W g t S2)]) := hDu _ _
          refine lv_topi (fun x3 ex3 => ?_)
          refine lv_istore_n (lv' := [(3, .int x3), (0, .ref (xx 0)), (1, .int vt), (2, .int vw)]) hx hb dX4_ifTurned_43 rfl hl (by decide) rfl (fun ls hl => ?_)
          refine lv_iload_n hx hb dX4_ifTurned_44 rfl (lv_at hl 3 rfl) ?_
          by_cases c_45_0 : vw = 0
          · refine lv_tableIn (off := 35) (tgt := 80) hx hb dX4_ifTurned_45 (by rw [c_45_0]; decide) (by rw [c_45_0]; decide) (by rw [c_45_0]; rfl) (by decide) ?_
            refine lv_aload_n hx hb dX4_ifTurned_80 rfl (lv_at hl 1 rfl) ?_
            refine va_get (D := D) (ci := 4) (v := .ref (t 0)) (C := RX4) (T := TX4) (N := 6) hx hb hts hi_4 hown hK hP 0 rfl rfl 1 (by decide) hf_16 (fun _ h9 => h9) rfl dX4_ifTurned_81 ?_
            refine va_get (D := D) (ci := 2) (v := .int (jm_sp S2)) (C := RX2) (T := TX2) (N := 13) hx hb hts hi_2 hown hK hP 8 rfl rfl 7 (by decide) hf_93 (fun _ h9 => h9) rfl dX4_ifTurned_84 ?_
            refine lv_aload_n hx hb dX4_ifTurned_87 rfl (lv_at hl 1 rfl) ?_
            refine va_get (D := D) (ci := 4) (v := .ref (n 0)) (C := RX4) (T := TX4) (N := 6) hx hb hts hi_4 hown hK hP 0 rfl rfl 0 (by decide) hf_10 (fun _ h9 => h9) rfl dX4_ifTurned_88 ?_
            refine va_get (D := D) (ci := 2) (v := .int (jm_sp N)) (C := RX2) (T := TX2) (N := 13) hx hb hts hi_2 hown hK hP 1 rfl rfl 7 (by decide) hf_93 (fun _ h9 => h9) rfl dX4_ifTurned_91 ?_
            refine lv_isub hx hb dX4_ifTurned_94 ?_
            have qex3 := ex3.symm; subst qex3
            have qeS2 := eS2.symm; subst qeS2
            have qeS1 := eS1.symm; subst qeS1
            have es2 : (lp_turn N vt.toNatClampNeg) = sX4_ifTurned_2 N T vt vw := (by unfold sX4_ifTurned_2; rw [if_neg c_2, if_neg c_9, if_neg c_13, if_pos c_18, if_pos c_45_0])
            exact jk_iret hx hb hr hlocks hP hS (by unfold rX4_ifTurned; rw [if_neg c_2, if_neg c_9, if_neg c_13, if_pos c_18, if_pos c_45_0]) (jk_cg1 (fun z2 => (List.flatten [(jo_X xx (n 0) (t 0) (h 0) (z 0) (d 0) (b 0)), (jm_W g n N), (jm_W g t z2)])) es2) dX4_ifTurned_95
          · by_cases c_45_1 : vw = 1
            · refine lv_tableIn (off := 51) (tgt := 96) hx hb dX4_ifTurned_45 (by rw [c_45_1]; decide) (by rw [c_45_1]; decide) (by rw [c_45_1]; rfl) (by decide) ?_
              refine lv_aload_n hx hb dX4_ifTurned_96 rfl (lv_at hl 1 rfl) ?_
              refine va_get (D := D) (ci := 4) (v := .ref (t 0)) (C := RX4) (T := TX4) (N := 6) hx hb hts hi_4 hown hK hP 0 rfl rfl 1 (by decide) hf_16 (fun _ h9 => h9) rfl dX4_ifTurned_97 ?_
              refine va_get (D := D) (ci := 2) (v := .int (jm_rv S2)) (C := RX2) (T := TX2) (N := 13) hx hb hts hi_2 hown hK hP 8 rfl rfl 8 (by decide) hf_165 (fun _ h9 => h9) rfl dX4_ifTurned_100 ?_
              refine lv_aload_n hx hb dX4_ifTurned_103 rfl (lv_at hl 1 rfl) ?_
              refine va_get (D := D) (ci := 4) (v := .ref (n 0)) (C := RX4) (T := TX4) (N := 6) hx hb hts hi_4 hown hK hP 0 rfl rfl 0 (by decide) hf_10 (fun _ h9 => h9) rfl dX4_ifTurned_104 ?_
              refine va_get (D := D) (ci := 2) (v := .int (jm_rv N)) (C := RX2) (T := TX2) (N := 13) hx hb hts hi_2 hown hK hP 1 rfl rfl 8 (by decide) hf_165 (fun _ h9 => h9) rfl dX4_ifTurned_107 ?_
              refine lv_isub hx hb dX4_ifTurned_110 ?_
              have qex3 := ex3.symm; subst qex3
              have qeS2 := eS2.symm; subst qeS2
              have qeS1 := eS1.symm; subst qeS1
              have es2 : (lp_turn N vt.toNatClampNeg) = sX4_ifTurned_2 N T vt vw := (by unfold sX4_ifTurned_2; rw [if_neg c_2, if_neg c_9, if_neg c_13, if_pos c_18, if_neg c_45_0, if_pos c_45_1])
              exact jk_iret hx hb hr hlocks hP hS (by unfold rX4_ifTurned; rw [if_neg c_2, if_neg c_9, if_neg c_13, if_pos c_18, if_neg c_45_0, if_pos c_45_1]) (jk_cg1 (fun z2 => (List.flatten [(jo_X xx (n 0) (t 0) (h 0) (z 0) (d 0) (b 0)), (jm_W g n N), (jm_W g t z2)])) es2) dX4_ifTurned_111
            · by_cases c_45_2 : vw = 2
              · refine lv_tableIn (off := 67) (tgt := 112) hx hb dX4_ifTurned_45 (by rw [c_45_2]; decide) (by rw [c_45_2]; decide) (by rw [c_45_2]; rfl) (by decide) ?_
                refine lv_aload_n hx hb dX4_ifTurned_112 rfl (lv_at hl 1 rfl) ?_
                refine va_get (D := D) (ci := 4) (v := .ref (t 0)) (C := RX4) (T := TX4) (N := 6) hx hb hts hi_4 hown hK hP 0 rfl rfl 1 (by decide) hf_16 (fun _ h9 => h9) rfl dX4_ifTurned_113 ?_
                refine va_get (D := D) (ci := 2) (v := .ref (t 3)) (C := RX2) (T := TX2) (N := 13) hx hb hts hi_2 hown hK hP 8 rfl rfl 2 (by decide) hf_150 (fun _ h9 => h9) rfl dX4_ifTurned_116 ?_
                refine lv_iconst (v := 0) hx hb dX4_ifTurned_119 (by decide) ?_
                refine va_iald (f := (jm_ja S2)) hx hb hK hP 11 0 rfl rfl (jk_inC (by decide +kernel)) dX4_ifTurned_120 ?_
                refine W.eq (g2 := F0 m 121 ls [.int ((jm_ja S2) 0)]) rfl ?_
                have qex3 := ex3.symm; subst qex3
                have qeS2 := eS2.symm; subst qeS2
                have qeS1 := eS1.symm; subst qeS1
                have es2 : (lp_turn N vt.toNatClampNeg) = sX4_ifTurned_2 N T vt vw := (by unfold sX4_ifTurned_2; rw [if_neg c_2, if_neg c_9, if_neg c_13, if_pos c_18, if_neg c_45_0, if_neg c_45_1, if_pos c_45_2])
                exact jk_iret hx hb hr hlocks hP hS (by unfold rX4_ifTurned; rw [if_neg c_2, if_neg c_9, if_neg c_13, if_pos c_18, if_neg c_45_0, if_neg c_45_1, if_pos c_45_2]) (jk_cg1 (fun z2 => (List.flatten [(jo_X xx (n 0) (t 0) (h 0) (z 0) (d 0) (b 0)), (jm_W g n N), (jm_W g t z2)])) es2) dX4_ifTurned_121
              · by_cases c_45_3 : vw = 3
                · refine lv_tableIn (off := 77) (tgt := 122) hx hb dX4_ifTurned_45 (by rw [c_45_3]; decide) (by rw [c_45_3]; decide) (by rw [c_45_3]; rfl) (by decide) ?_
                  refine lv_aload_n hx hb dX4_ifTurned_122 rfl (lv_at hl 1 rfl) ?_
                  refine va_get (D := D) (ci := 4) (v := .ref (t 0)) (C := RX4) (T := TX4) (N := 6) hx hb hts hi_4 hown hK hP 0 rfl rfl 1 (by decide) hf_16 (fun _ h9 => h9) rfl dX4_ifTurned_123 ?_
                  refine va_get (D := D) (ci := 2) (v := .ref (t 3)) (C := RX2) (T := TX2) (N := 13) hx hb hts hi_2 hown hK hP 8 rfl rfl 2 (by decide) hf_150 (fun _ h9 => h9) rfl dX4_ifTurned_126 ?_
                  refine lv_iconst (v := 1) hx hb dX4_ifTurned_129 (by decide) ?_
                  refine va_iald (f := (jm_ja S2)) hx hb hK hP 11 0 rfl rfl (jk_inC (by decide +kernel)) dX4_ifTurned_130 ?_
                  refine W.eq (g2 := F0 m 131 ls [.int ((jm_ja S2) 1)]) rfl ?_
                  have qex3 := ex3.symm; subst qex3
                  have qeS2 := eS2.symm; subst qeS2
                  have qeS1 := eS1.symm; subst qeS1
                  have es2 : (lp_turn N vt.toNatClampNeg) = sX4_ifTurned_2 N T vt vw := (by unfold sX4_ifTurned_2; rw [if_neg c_2, if_neg c_9, if_neg c_13, if_pos c_18, if_neg c_45_0, if_neg c_45_1, if_neg c_45_2, if_pos c_45_3])
                  exact jk_iret hx hb hr hlocks hP hS (by unfold rX4_ifTurned; rw [if_neg c_2, if_neg c_9, if_neg c_13, if_pos c_18, if_neg c_45_0, if_neg c_45_1, if_neg c_45_2, if_pos c_45_3]) (jk_cg1 (fun z2 => (List.flatten [(jo_X xx (n 0) (t 0) (h 0) (z 0) (d 0) (b 0)), (jm_W g n N), (jm_W g t z2)])) es2) dX4_ifTurned_131
                · by_cases c_45_4 : vw = 4
                  · refine lv_tableIn (off := 87) (tgt := 132) hx hb dX4_ifTurned_45 (by rw [c_45_4]; decide) (by rw [c_45_4]; decide) (by rw [c_45_4]; rfl) (by decide) ?_
                    refine lv_iload_n hx hb dX4_ifTurned_132 rfl (lv_at hl 0 rfl) ?_
                    have qex3 := ex3.symm; subst qex3
                    have qeS2 := eS2.symm; subst qeS2
                    have qeS1 := eS1.symm; subst qeS1
                    have es2 : (lp_turn N vt.toNatClampNeg) = sX4_ifTurned_2 N T vt vw := (by unfold sX4_ifTurned_2; rw [if_neg c_2, if_neg c_9, if_neg c_13, if_pos c_18, if_neg c_45_0, if_neg c_45_1, if_neg c_45_2, if_neg c_45_3, if_pos c_45_4])
                    exact jk_iret hx hb hr hlocks hP hS (by unfold rX4_ifTurned; rw [if_neg c_2, if_neg c_9, if_neg c_13, if_pos c_18, if_neg c_45_0, if_neg c_45_1, if_neg c_45_2, if_neg c_45_3, if_pos c_45_4]) (jk_cg1 (fun z2 => (List.flatten [(jo_X xx (n 0) (t 0) (h 0) (z 0) (d 0) (b 0)), (jm_W g n N), (jm_W g t z2)])) es2) dX4_ifTurned_133
                  · refine lv_tableOut (tgt := 134) hx hb dX4_ifTurned_45 (by have q0 := lv_neT (a := 0) c_45_0 (by decide); have q1 := lv_neT (a := 1) c_45_1 (by decide); have q2 := lv_neT (a := 2) c_45_2 (by decide); have q3 := lv_neT (a := 3) c_45_3 (by decide); have q4 := lv_neT (a := 4) c_45_4 (by decide); omega) (by decide) ?_
                    refine lv_aload_n hx hb dX4_ifTurned_134 rfl (lv_at hl 1 rfl) ?_
                    refine va_get (D := D) (ci := 4) (v := .ref (t 0)) (C := RX4) (T := TX4) (N := 6) hx hb hts hi_4 hown hK hP 0 rfl rfl 1 (by decide) hf_16 (fun _ h9 => h9) rfl dX4_ifTurned_135 ?_
                    refine jk_callV (As := []) (rest := []) (ws1 := (List.flatten [(jo_X xx (n 0) (t 0) (h 0) (z 0) (d 0) (b 0)), (jm_W g n N), (jm_W g t S2)])) ⟨hx, hb, hml, hown, hts⟩ (c_X2_chargeOfAll l D g t S2) (cwV 0 hts gX4_ifTurned_X2_chargeOfAll rfl rfl rfl (by decide +kernel) ⟨Nat.le_of_ble_eq_true rfl, Nat.le_of_ble_eq_true rfl⟩) (va_recv hK hP (ci := 2) (q0 := 8) rfl rfl) (show va_P D vwCl (jm_W g t S2) H from jk_one.mp (jk_segSub (L := [(jo_X xx (n 0) (t 0) (h 0) (z 0) (d 0) (b 0)), (jm_W g n N), (jm_W g t S2)]) hP [2])) (show va_D A (jm_W g t S2) from jk_oneD.mp (jk_segSubD (L := [(jo_X xx (n 0) (t 0) (h 0) (z 0) (d 0) (b 0)), (jm_W g n N), (jm_W g t S2)]) hD [2] (by decide))) hK hN rfl hl rfl (Nat.le_of_ble_eq_true rfl) dX4_ifTurned_138 ⟨Nat.zero_le _, Nat.zero_le _⟩ hS hA (jk_seg1 (L := [(jo_X xx (n 0) (t 0) (h 0) (z 0) (d 0) (b 0)), (jm_W g n N), (jm_W g t S2)]) (L' := [(jo_X xx (n 0) (t 0) (h 0) (z 0) (d 0) (b 0)), (jm_W g n N), (jm_W g t S2)]) (T := (jm_W g t S2)) hP hD 2 [(false, 0), (false, 1), (true, 0)] (by decide) rfl) (fun H locs hP hS => ?_)
                    refine W.eq (g2 := F0 m 141 ls [.int (rX2_chargeOfAll S2)]) rfl ?_
                    refine lv_topi (fun x4 ex4 => ?_)
                    have qex4 := ex4.symm; subst qex4
                    have qex3 := ex3.symm; subst qex3
                    have qeS2 := eS2.symm; subst qeS2
                    have qeS1 := eS1.symm; subst qeS1
                    have es2 : (lp_turn N vt.toNatClampNeg) = sX4_ifTurned_2 N T vt vw := (by unfold sX4_ifTurned_2; rw [if_neg c_2, if_neg c_9, if_neg c_13, if_pos c_18, if_neg c_45_0, if_neg c_45_1, if_neg c_45_2, if_neg c_45_3, if_neg c_45_4])
                    exact jk_iret hx hb hr hlocks hP hS (by unfold rX4_ifTurned; rw [if_neg c_2, if_neg c_9, if_neg c_13, if_pos c_18, if_neg c_45_0, if_neg c_45_1, if_neg c_45_2, if_neg c_45_3, if_neg c_45_4]) (jk_cg1 (fun z2 => (List.flatten [(jo_X xx (n 0) (t 0) (h 0) (z 0) (d 0) (b 0)), (jm_W g n N), (jm_W g t z2)])) es2) dX4_ifTurned_141
        · refine lv_ldc hx hb hown hk_42 dX4_ifTurned_21 ?_
          have es2 : T = sX4_ifTurned_2 N T vt vw := (by unfold sX4_ifTurned_2; rw [if_neg c_2, if_neg c_9, if_neg c_13, if_neg c_18])
          exact jk_iret hx hb hr hlocks hP hS (by unfold rX4_ifTurned; rw [if_neg c_2, if_neg c_9, if_neg c_13, if_neg c_18]) (jk_cg1 (fun z2 => (List.flatten [(jo_X xx (n 0) (t 0) (h 0) (z 0) (d 0) (b 0)), (jm_W g n N), (jm_W g t z2)])) es2) dX4_ifTurned_23
