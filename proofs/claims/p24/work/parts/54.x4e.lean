def rX4_wipe (P : jp_T) : Int32 := let S1 : jp_T := sX3_clear P; (jp_ln P)
def sX4_wipe_1 (P : jp_T) : jp_T := let S1 : jp_T := sX3_clear P; S1
set_option maxHeartbeats 1000000 in
set_option maxRecDepth 100000 in
theorem c_X4_wipe (l : Launch) (D : va_G) (g : jk_G) (xx : Nat → Nat) (n : Nat → Nat) (t : Nat → Nat) (h : Nat → Nat) (z : Nat → Nat) (d : Nat → Nat) (b : Nat → Nat) (P : jp_T)  : jk_M l D g yX4_wipe wsX4_wipe 1 20 [.ref (xx 0)] (List.flatten [(jo_X xx (n 0) (t 0) (h 0) (z 0) (d 0) (b 0)), (jp_W g b P)]) (some (.int (rX4_wipe P))) (List.flatten [(jo_X xx (n 0) (t 0) (h 0) (z 0) (d 0) (b 0)), (jp_W g b (sX4_wipe_1 P))]) := by
  refine jk_of (cc := cX4_wipe) (maxL := 2) (ret := (some .int)) (by decide +kernel) rfl (Nat.le_of_ble_eq_true rfl) ?_
  intro p e s m args below meth c hx hb hr hml hts hown hlocks hK hN A H locs hP hD hA hS ls hl
  have hown : s.vm.findClass RX4 = some m.cls := hown
  have hl : lv_has ls 2 [(0, .ref (xx 0))] := hl
  have hDu : ∀ (z1 : jp_T), va_D A (List.flatten [(jo_X xx (n 0) (t 0) (h 0) (z 0) (d 0) (b 0)), (jp_W g b z1)]) := fun z1 => jk_D.same hD rfl
  have hf_41 := hts (.fieldLink RX4 41 "InfluenceJars" "pad" "LInfluenceJars$Pad;") (by decide +kernel)
  have hi_4 : ∀ w ∈ u_ws RX4 TX4 6, w ∈ wsX4_wipe := by decide +kernel
  have hf_183 := hts (.fieldLink RX4 183 "InfluenceJars$Pad" "length" "I") (by decide +kernel)
  have hi_3 : ∀ w ∈ u_ws RX3 TX3 2, w ∈ wsX4_wipe := by decide +kernel
  refine lv_aload_n hx hb dX4_wipe_0 rfl (lv_at hl 0 rfl) ?_
  refine va_get (D := D) (ci := 4) (v := .ref (b 0)) (C := RX4) (T := TX4) (N := 6) hx hb hts hi_4 hown hK hP 0 rfl rfl 5 (by decide) hf_41 (fun _ h9 => h9) rfl dX4_wipe_1 ?_
  refine va_get (D := D) (ci := 3) (v := .int (jp_ln P)) (C := RX3) (T := TX3) (N := 2) hx hb hts hi_3 hown hK hP 1 rfl rfl 1 (by decide) hf_183 (fun _ h9 => h9) rfl dX4_wipe_4 ?_
  refine lv_istore_n (lv' := [(1, .int (jp_ln P)), (0, .ref (xx 0))]) hx hb dX4_wipe_7 rfl hl (by decide) rfl (fun ls hl => ?_)
  refine lv_aload_n hx hb dX4_wipe_8 rfl (lv_at hl 1 rfl) ?_
  refine va_get (D := D) (ci := 4) (v := .ref (b 0)) (C := RX4) (T := TX4) (N := 6) hx hb hts hi_4 hown hK hP 0 rfl rfl 5 (by decide) hf_41 (fun _ h9 => h9) rfl dX4_wipe_9 ?_
  obtain ⟨S1, eS1⟩ : ∃ z : jp_T, z = sX3_clear P := ⟨_, rfl⟩
  refine jk_callV (As := []) (rest := []) (ws1 := (List.flatten [(jo_X xx (n 0) (t 0) (h 0) (z 0) (d 0) (b 0)), (jp_W g b S1)])) ⟨hx, hb, hml, hown, hts⟩ (c_X3_clear l D g b P) (cwV 0 hts gX4_wipe_X3_clear rfl rfl rfl (by decide +kernel) ⟨Nat.le_of_ble_eq_true rfl, Nat.le_of_ble_eq_true rfl⟩) (va_recv hK hP (ci := 3) (q0 := 1) rfl rfl) (show va_P D vwCl (jp_W g b P) H from jk_one.mp (jk_segSub (L := [(jo_X xx (n 0) (t 0) (h 0) (z 0) (d 0) (b 0)), (jp_W g b P)]) hP [1])) (show va_D A (jp_W g b P) from jk_oneD.mp (jk_segSubD (L := [(jo_X xx (n 0) (t 0) (h 0) (z 0) (d 0) (b 0)), (jp_W g b P)]) hD [1] (by decide))) hK hN rfl hl rfl (Nat.le_of_ble_eq_true rfl) dX4_wipe_12 ⟨Nat.zero_le _, Nat.zero_le _⟩ hS hA (fun H9 hh => jk_seg1 (L := [(jo_X xx (n 0) (t 0) (h 0) (z 0) (d 0) (b 0)), (jp_W g b P)]) (L' := [(jo_X xx (n 0) (t 0) (h 0) (z 0) (d 0) (b 0)), (jp_W g b S1)]) (T := (jp_W g b S1)) hP hD 1 [(false, 0), (true, 0)] (by decide) rfl H9 (by rw [eS1]; exact hh)) (fun H locs hP hS => ?_)
  refine W.eq (g2 := F0 m 15 ls []) rfl ?_
  have hD : va_D A (List.flatten [(jo_X xx (n 0) (t 0) (h 0) (z 0) (d 0) (b 0)), (jp_W g b S1)]) := hDu _
  refine lv_iload_n hx hb dX4_wipe_15 rfl (lv_at hl 0 rfl) ?_
  have qeS1 := eS1.symm; subst qeS1
  have es1 : (sX3_clear P) = sX4_wipe_1 P := (by rfl)
  exact jk_iret hx hb hr hlocks hP hS (by rfl) (jk_cg1 (fun z1 => (List.flatten [(jo_X xx (n 0) (t 0) (h 0) (z 0) (d 0) (b 0)), (jp_W g b z1)])) es1) dX4_wipe_16

set_option maxHeartbeats 1000000 in
set_option maxRecDepth 100000 in
theorem c_X4_put (l : Launch) (D : va_G) (g : jk_G) (xx : Nat → Nat) (n : Nat → Nat) (t : Nat → Nat) (h : Nat → Nat) (z : Nat → Nat) (d : Nat → Nat) (b : Nat → Nat) (P : jp_T) (vv : Int64) (tt : Nat) (cn : Nat) (ht : jp_ln P = nI tt) (hcc : lc_ci 8 vv 0 = nI cn) (ht6 : tt ≤ 60) (hc8 : cn ≤ 8) : jk_M l D g yX4_put wsX4_put 1 26 [.ref (xx 0), .long vv] (List.flatten [(jo_X xx (n 0) (t 0) (h 0) (z 0) (d 0) (b 0)), (jp_W g b P)]) (some (.int (if lc_ci 8 vv 0 = 0 then (-1000002) else if jp_ln P + lc_ci 8 vv 0 ≤ 60 then nI (tt + cn) else (-1000004)))) (List.flatten [(jo_X xx (n 0) (t 0) (h 0) (z 0) (d 0) (b 0)), (jp_W g b (if lc_ci 8 vv 0 = 0 then P else if jp_ln P + lc_ci 8 vv 0 ≤ 60 then (jp_uln (jp_usg P (lc_app (jp_sg P) tt vv (lc_ci 8 vv 0) cn)) (nI (tt + cn))) else P))]) := by
  refine jk_of (cc := cX4_put) (maxL := 4) (ret := (some .int)) (by decide +kernel) rfl (Nat.le_of_ble_eq_true rfl) ?_
  intro p e s m args below meth c hx hb hr hml hts hown hlocks hK hN A H locs hP hD hA hS ls hl
  have hown : s.vm.findClass RX4 = some m.cls := hown
  have hl : lv_has ls 4 [(0, .ref (xx 0)), (1, .long vv)] := hl
  have hDu : ∀ (z1 : jp_T), va_D A (List.flatten [(jo_X xx (n 0) (t 0) (h 0) (z 0) (d 0) (b 0)), (jp_W g b z1)]) := fun z1 => jk_D.same hD rfl
  have hf_41 := hts (.fieldLink RX4 41 "InfluenceJars" "pad" "LInfluenceJars$Pad;") (by decide +kernel)
  have hi_4 : ∀ w ∈ u_ws RX4 TX4 6, w ∈ wsX4_put := by decide +kernel
  have hf_183 := hts (.fieldLink RX4 183 "InfluenceJars$Pad" "length" "I") (by decide +kernel)
  have hi_3 : ∀ w ∈ u_ws RX3 TX3 2, w ∈ wsX4_put := by decide +kernel
  have hk_77 := hts (.constant RX4 77 (-1000004)) (by decide +kernel)
  have hk_42 := hts (.constant RX4 42 (-1000002)) (by decide +kernel)
  refine lv_lload_n hx hb dX4_put_0 rfl (lv_at hl 1 rfl) ?_
  refine jk_callS (As := [.long vv]) (rest := []) (ws1 := (List.flatten [(jo_X xx (n 0) (t 0) (h 0) (z 0) (d 0) (b 0)), (jp_W g b P)])) ⟨hx, hb, hml, hown, hts⟩ (c_X4_charactersIn l D g vv) (va_cwS 1 hts gX4_put_X4_charactersIn rfl rfl rfl (by decide +kernel) ⟨Nat.le_of_ble_eq_true rfl, Nat.le_of_ble_eq_true rfl⟩) jk_nilP (jk_nilD (A := A)) hK hN rfl hl rfl (Nat.le_of_ble_eq_true rfl) dX4_put_1 ⟨Nat.zero_le _, Nat.zero_le _⟩ hS hA (fun _ _ hk => jk_keep hP hk) (fun H locs hP hS => ?_)
  refine W.eq (g2 := F0 m 4 ls [.int (lc_ci 8 vv 0)]) rfl ?_
  refine lv_topi (fun x1 ex1 => ?_)
  refine lv_istore_n (lv' := [(3, .int x1), (0, .ref (xx 0)), (1, .long vv)]) hx hb dX4_put_4 rfl hl (by decide) rfl (fun ls hl => ?_)
  refine lv_iload_n hx hb dX4_put_5 rfl (lv_at hl 0 rfl) ?_
  refine lv_if_ne (tgt := 12) hx hb dX4_put_6 (by decide) (fun c_6 => ?_) (fun c_6 => ?_)
  · refine lv_aload_n hx hb dX4_put_12 rfl (lv_at hl 1 rfl) ?_
    refine va_get (D := D) (ci := 4) (v := .ref (b 0)) (C := RX4) (T := TX4) (N := 6) hx hb hts hi_4 hown hK hP 0 rfl rfl 5 (by decide) hf_41 (fun _ h9 => h9) rfl dX4_put_13 ?_
    refine va_get (D := D) (ci := 3) (v := .int (jp_ln P)) (C := RX3) (T := TX3) (N := 2) hx hb hts hi_3 hown hK hP 1 rfl rfl 1 (by decide) hf_183 (fun _ h9 => h9) rfl dX4_put_16 ?_
    refine lv_iload_n hx hb dX4_put_19 rfl (lv_at hl 0 rfl) ?_
    refine lv_iadd hx hb dX4_put_20 ?_
    refine lv_bipush (v := 60) hx hb dX4_put_21 (by decide) ?_
    refine lv_icmp_le (tgt := 29) hx hb dX4_put_23 (by decide) (fun c_23 => ?_) (fun c_23 => ?_)
    · refine lv_aload_n hx hb dX4_put_29 rfl (lv_at hl 1 rfl) ?_
      refine va_get (D := D) (ci := 4) (v := .ref (b 0)) (C := RX4) (T := TX4) (N := 6) hx hb hts hi_4 hown hK hP 0 rfl rfl 5 (by decide) hf_41 (fun _ h9 => h9) rfl dX4_put_30 ?_
      refine lv_lload_n hx hb dX4_put_33 rfl (lv_at hl 2 rfl) ?_
      refine lv_iload_n hx hb dX4_put_34 rfl (lv_at hl 0 rfl) ?_
      obtain ⟨S2, eS2⟩ : ∃ z : jp_T, z = (jp_uln (jp_usg P (lc_app (jp_sg P) tt vv x1 cn)) (nI (tt + cn))) := ⟨_, rfl⟩
      refine jk_callV (As := [.long vv, .int x1]) (rest := []) (ws1 := (List.flatten [(jo_X xx (n 0) (t 0) (h 0) (z 0) (d 0) (b 0)), (jp_W g b S2)])) ⟨hx, hb, hml, hown, hts⟩ (c_X3_append l D g b P vv x1 tt cn (by have qex1 := ex1.symm; subst qex1; exact ht) (by have qex1 := ex1.symm; subst qex1; exact lc_put60 ht hcc ht6 hc8 c_23) (by have qex1 := ex1.symm; subst qex1; exact hcc)) (cwV 2 hts gX4_put_X3_append rfl rfl rfl (by decide +kernel) ⟨Nat.le_of_ble_eq_true rfl, Nat.le_of_ble_eq_true rfl⟩) (va_recv hK hP (ci := 3) (q0 := 1) rfl rfl) (show va_P D vwCl (jp_W g b P) H from jk_one.mp (jk_segSub (L := [(jo_X xx (n 0) (t 0) (h 0) (z 0) (d 0) (b 0)), (jp_W g b P)]) hP [1])) (show va_D A (jp_W g b P) from jk_oneD.mp (jk_segSubD (L := [(jo_X xx (n 0) (t 0) (h 0) (z 0) (d 0) (b 0)), (jp_W g b P)]) hD [1] (by decide))) hK hN rfl hl rfl (Nat.le_of_ble_eq_true rfl) dX4_put_35 ⟨Nat.zero_le _, Nat.zero_le _⟩ hS hA (fun H9 hh => jk_seg1 (L := [(jo_X xx (n 0) (t 0) (h 0) (z 0) (d 0) (b 0)), (jp_W g b P)]) (L' := [(jo_X xx (n 0) (t 0) (h 0) (z 0) (d 0) (b 0)), (jp_W g b S2)]) (T := (jp_W g b S2)) hP hD 1 [(false, 0), (true, 0)] (by decide) rfl H9 (by rw [eS2]; exact hh)) (fun H locs hP hS => ?_)
      refine W.eq (g2 := F0 m 38 ls []) rfl ?_
      have hD : va_D A (List.flatten [(jo_X xx (n 0) (t 0) (h 0) (z 0) (d 0) (b 0)), (jp_W g b S2)]) := hDu _
      refine lv_aload_n hx hb dX4_put_38 rfl (lv_at hl 1 rfl) ?_
      refine va_get (D := D) (ci := 4) (v := .ref (b 0)) (C := RX4) (T := TX4) (N := 6) hx hb hts hi_4 hown hK hP 0 rfl rfl 5 (by decide) hf_41 (fun _ h9 => h9) rfl dX4_put_39 ?_
      refine va_get (D := D) (ci := 3) (v := .int (jp_ln S2)) (C := RX3) (T := TX3) (N := 2) hx hb hts hi_3 hown hK hP 1 rfl rfl 1 (by decide) hf_183 (fun _ h9 => h9) rfl dX4_put_42 ?_
      have qeS2 := eS2.symm; subst qeS2
      have qex1 := ex1.symm; subst qex1
      have es1 : (jp_uln (jp_usg P (lc_app (jp_sg P) tt vv (lc_ci 8 vv 0) cn)) (nI (tt + cn))) = (if lc_ci 8 vv 0 = 0 then P else if jp_ln P + lc_ci 8 vv 0 ≤ 60 then (jp_uln (jp_usg P (lc_app (jp_sg P) tt vv (lc_ci 8 vv 0) cn)) (nI (tt + cn))) else P) := (by rw [if_neg c_6, if_pos c_23])
      exact jk_iret hx hb hr hlocks hP hS (by rw [if_neg c_6, if_pos c_23]; rfl) (jk_cg1 (fun z1 => (List.flatten [(jo_X xx (n 0) (t 0) (h 0) (z 0) (d 0) (b 0)), (jp_W g b z1)])) es1) dX4_put_45
    · refine lv_ldc hx hb hown hk_77 dX4_put_26 ?_
      have qex1 := ex1.symm; subst qex1
      have es1 : P = (if lc_ci 8 vv 0 = 0 then P else if jp_ln P + lc_ci 8 vv 0 ≤ 60 then (jp_uln (jp_usg P (lc_app (jp_sg P) tt vv (lc_ci 8 vv 0) cn)) (nI (tt + cn))) else P) := (by rw [if_neg c_6, if_neg c_23])
      exact jk_iret hx hb hr hlocks hP hS (by rw [if_neg c_6, if_neg c_23]) (jk_cg1 (fun z1 => (List.flatten [(jo_X xx (n 0) (t 0) (h 0) (z 0) (d 0) (b 0)), (jp_W g b z1)])) es1) dX4_put_28
  · refine lv_ldc hx hb hown hk_42 dX4_put_9 ?_
    have qex1 := ex1.symm; subst qex1
    have es1 : P = (if lc_ci 8 vv 0 = 0 then P else if jp_ln P + lc_ci 8 vv 0 ≤ 60 then (jp_uln (jp_usg P (lc_app (jp_sg P) tt vv (lc_ci 8 vv 0) cn)) (nI (tt + cn))) else P) := (by rw [if_pos c_6])
    exact jk_iret hx hb hr hlocks hP hS (by rw [if_pos c_6]) (jk_cg1 (fun z1 => (List.flatten [(jo_X xx (n 0) (t 0) (h 0) (z 0) (d 0) (b 0)), (jp_W g b z1)])) es1) dX4_put_11

def rX4_fault (Q : jd_T) (P : jp_T) : Int32 := let S1 : jd_T := (lc_ff P 61 (jd_uat Q 0)).2; let x2 : Int32 := (lc_ff P 61 (jd_uat Q 0)).1; x2
def sX4_fault_1 (Q : jd_T) (P : jp_T) : jd_T := let S1 : jd_T := (lc_ff P 61 (jd_uat Q 0)).2; let x2 : Int32 := (lc_ff P 61 (jd_uat Q 0)).1; S1
