def rX4_sector (N : jm_T) (vd : Int32) (vq : Int32) : Int32 := let x1 : Int32 := rX4_isNoDisc vd; if x1 = 0 then (let x2 : Int32 := rX4_isNoPlace vq; if x2 = 0 then (let x3 : Int32 := rX2_indexOf vd vq (jm_tu N); (jm_ch N) x3.toNatClampNeg) else ((-1000001))) else ((-1000001))
set_option maxHeartbeats 1000000 in
set_option maxRecDepth 100000 in
theorem c_X4_sector (l : Launch) (D : va_G) (g : jk_G) (xx : Nat → Nat) (n : Nat → Nat) (t : Nat → Nat) (h : Nat → Nat) (z : Nat → Nat) (d : Nat → Nat) (b : Nat → Nat) (N : jm_T) (vd : Int32) (vq : Int32)  : jk_M l D g yX4_sector wsX4_sector 2 44 [.ref (xx 0), .int vd, .int vq] (List.flatten [(jo_X xx (n 0) (t 0) (h 0) (z 0) (d 0) (b 0)), (jm_W g n N)]) (some (.int (rX4_sector N vd vq))) (List.flatten [(jo_X xx (n 0) (t 0) (h 0) (z 0) (d 0) (b 0)), (jm_W g n N)]) := by
  refine jk_of (cc := cX4_sector) (maxL := 3) (ret := (some .int)) (by decide +kernel) rfl (Nat.le_of_ble_eq_true rfl) ?_
  intro p e s m args below meth c hx hb hr hml hts hown hlocks hK hN A H locs hP hD hA hS ls hl
  have hown : s.vm.findClass RX4 = some m.cls := hown
  have hl : lv_has ls 3 [(0, .ref (xx 0)), (1, .int vd), (2, .int vq)] := hl
  have hDu : ∀ (z1 : jm_T), va_D A (List.flatten [(jo_X xx (n 0) (t 0) (h 0) (z 0) (d 0) (b 0)), (jm_W g n z1)]) := fun z1 => jk_D.same hD rfl
  have hk_69 := hts (.constant RX4 69 (-1000001)) (by decide +kernel)
  have hf_10 := hts (.fieldLink RX4 10 "InfluenceJars" "now" "LInfluenceJars$Machine;") (by decide +kernel)
  have hi_4 : ∀ w ∈ u_ws RX4 TX4 6, w ∈ wsX4_sector := by decide +kernel
  have hf_128 := hts (.fieldLink RX4 128 "InfluenceJars$Machine" "charges" "[I") (by decide +kernel)
  have hi_2 : ∀ w ∈ u_ws RX2 TX2 13, w ∈ wsX4_sector := by decide +kernel
  have hf_131 := hts (.fieldLink RX4 131 "InfluenceJars$Machine" "turns" "I") (by decide +kernel)
  refine lv_iload_n hx hb dX4_sector_0 rfl (lv_at hl 1 rfl) ?_
  refine jk_callS (As := [.int vd]) (rest := []) (ws1 := (List.flatten [(jo_X xx (n 0) (t 0) (h 0) (z 0) (d 0) (b 0)), (jm_W g n N)])) ⟨hx, hb, hml, hown, hts⟩ (c_X4_isNoDisc l D g vd) (va_cwS 1 hts gX4_sector_X4_isNoDisc rfl rfl rfl (by decide +kernel) ⟨Nat.le_of_ble_eq_true rfl, Nat.le_of_ble_eq_true rfl⟩) jk_nilP (jk_nilD (A := A)) hK hN rfl hl rfl (Nat.le_of_ble_eq_true rfl) dX4_sector_1 ⟨Nat.zero_le _, Nat.zero_le _⟩ hS hA (fun _ _ hk => jk_keep hP hk) (fun H locs hP hS => ?_)
  refine W.eq (g2 := F0 m 4 ls [.int (rX4_isNoDisc vd)]) rfl ?_
  refine lv_topi (fun x1 ex1 => ?_)
  refine lv_if_ne (tgt := 14) hx hb dX4_sector_4 (by decide) (fun c_4 => ?_) (fun c_4 => ?_)
  · refine lv_ldc hx hb hown hk_69 dX4_sector_14 ?_
    have qex1 := ex1.symm; subst qex1
    exact jk_iret hx hb hr hlocks hP hS (by unfold rX4_sector; rw [if_neg c_4]) rfl dX4_sector_16
  · refine lv_iload_n hx hb dX4_sector_7 rfl (lv_at hl 2 rfl) ?_
    refine jk_callS (As := [.int vq]) (rest := []) (ws1 := (List.flatten [(jo_X xx (n 0) (t 0) (h 0) (z 0) (d 0) (b 0)), (jm_W g n N)])) ⟨hx, hb, hml, hown, hts⟩ (c_X4_isNoPlace l D g vq) (va_cwS 1 hts gX4_sector_X4_isNoPlace rfl rfl rfl (by decide +kernel) ⟨Nat.le_of_ble_eq_true rfl, Nat.le_of_ble_eq_true rfl⟩) jk_nilP (jk_nilD (A := A)) hK hN rfl hl rfl (Nat.le_of_ble_eq_true rfl) dX4_sector_8 ⟨Nat.zero_le _, Nat.zero_le _⟩ hS hA (fun _ _ hk => jk_keep hP hk) (fun H locs hP hS => ?_)
    refine W.eq (g2 := F0 m 11 ls [.int (rX4_isNoPlace vq)]) rfl ?_
    refine lv_topi (fun x2 ex2 => ?_)
    refine lv_if_eq (tgt := 17) hx hb dX4_sector_11 (by decide) (fun c_11 => ?_) (fun c_11 => ?_)
    · refine lv_aload_n hx hb dX4_sector_17 rfl (lv_at hl 0 rfl) ?_
      refine va_get (D := D) (ci := 4) (v := .ref (n 0)) (C := RX4) (T := TX4) (N := 6) hx hb hts hi_4 hown hK hP 0 rfl rfl 0 (by decide) hf_10 (fun _ h9 => h9) rfl dX4_sector_18 ?_
      refine va_get (D := D) (ci := 2) (v := .ref (n 2)) (C := RX2) (T := TX2) (N := 13) hx hb hts hi_2 hown hK hP 1 rfl rfl 1 (by decide) hf_128 (fun _ h9 => h9) rfl dX4_sector_21 ?_
      refine lv_iload_n hx hb dX4_sector_24 rfl (lv_at hl 1 rfl) ?_
      refine lv_iload_n hx hb dX4_sector_25 rfl (lv_at hl 2 rfl) ?_
      refine lv_aload_n hx hb dX4_sector_26 rfl (lv_at hl 0 rfl) ?_
      refine va_get (D := D) (ci := 4) (v := .ref (n 0)) (C := RX4) (T := TX4) (N := 6) hx hb hts hi_4 hown hK hP 0 rfl rfl 0 (by decide) hf_10 (fun _ h9 => h9) rfl dX4_sector_27 ?_
      refine va_get (D := D) (ci := 2) (v := .int (jm_tu N)) (C := RX2) (T := TX2) (N := 13) hx hb hts hi_2 hown hK hP 1 rfl rfl 6 (by decide) hf_131 (fun _ h9 => h9) rfl dX4_sector_30 ?_
      refine jk_callS (As := [.int vd, .int vq, .int (jm_tu N)]) (rest := [.ref (n 2)]) (ws1 := (List.flatten [(jo_X xx (n 0) (t 0) (h 0) (z 0) (d 0) (b 0)), (jm_W g n N)])) ⟨hx, hb, hml, hown, hts⟩ (c_X2_indexOf l D g vd vq (jm_tu N)) (va_cwS 3 hts gX4_sector_X2_indexOf rfl rfl rfl (by decide +kernel) ⟨Nat.le_of_ble_eq_true rfl, Nat.le_of_ble_eq_true rfl⟩) jk_nilP (jk_nilD (A := A)) hK hN rfl hl rfl (Nat.le_of_ble_eq_true rfl) dX4_sector_33 ⟨Nat.zero_le _, Nat.zero_le _⟩ hS hA (fun _ _ hk => jk_keep hP hk) (fun H locs hP hS => ?_)
      refine W.eq (g2 := F0 m 36 ls [.int (rX2_indexOf vd vq (jm_tu N)), .ref (n 2)]) rfl ?_
      refine lv_topi (fun x3 ex3 => ?_)
      refine va_iald (f := (jm_ch N)) hx hb hK hP 3 0 rfl rfl (by have qex3 := ex3.symm; subst qex3; have qex2 := ex2.symm; subst qex2; have qex1 := ex1.symm; subst qex1; exact jk_ix_in _ _ _) dX4_sector_36 ?_
      have qex3 := ex3.symm; subst qex3
      have qex2 := ex2.symm; subst qex2
      have qex1 := ex1.symm; subst qex1
      exact jk_iret hx hb hr hlocks hP hS (by unfold rX4_sector; rw [if_pos c_4, if_pos c_11]) rfl dX4_sector_37
    · refine lv_ldc hx hb hown hk_69 dX4_sector_14 ?_
      have qex2 := ex2.symm; subst qex2
      have qex1 := ex1.symm; subst qex1
      exact jk_iret hx hb hr hlocks hP hS (by unfold rX4_sector; rw [if_pos c_4, if_neg c_11]) rfl dX4_sector_16

def rX4_disc (N : jm_T) (vd : Int32) (vw : Int32) : Int32 := let x1 : Int32 := rX4_isNoDisc vd; if x1 = 0 then (if vw = 0 then (let x2 : Int32 := lp_sum (jm_ch N) (rX2_firstIndexOf vd) 12; x2) else (if vw = 1 then (let x3 : Int32 := lp_sgn (jm_ch N) (rX2_firstIndexOf vd) (1 : Int32) 12; x3) else (if vw = 2 then (let x4 : Int32 := lp_sgn (jm_ch N) (rX2_firstIndexOf vd) ((-1) : Int32) 12; x4) else (if vw = 3 then (let x5 : Int32 := lp_max (jm_ch N) (rX2_firstIndexOf vd) 12; x5) else (if vw = 4 then (let x6 : Int32 := lp_min (jm_ch N) (rX2_firstIndexOf vd) 12; x6) else ((-1000002))))))) else ((-1000001))
set_option maxHeartbeats 1000000 in
set_option maxRecDepth 100000 in
theorem c_X4_disc (l : Launch) (D : va_G) (g : jk_G) (xx : Nat → Nat) (n : Nat → Nat) (t : Nat → Nat) (h : Nat → Nat) (z : Nat → Nat) (d : Nat → Nat) (b : Nat → Nat) (N : jm_T) (vd : Int32) (vw : Int32)  : jk_M l D g yX4_disc wsX4_disc 2 45 [.ref (xx 0), .int vd, .int vw] (List.flatten [(jo_X xx (n 0) (t 0) (h 0) (z 0) (d 0) (b 0)), (jm_W g n N)]) (some (.int (rX4_disc N vd vw))) (List.flatten [(jo_X xx (n 0) (t 0) (h 0) (z 0) (d 0) (b 0)), (jm_W g n N)]) := by
  refine jk_of (cc := cX4_disc) (maxL := 3) (ret := (some .int)) (by decide +kernel) rfl (Nat.le_of_ble_eq_true rfl) ?_
  intro p e s m args below meth c hx hb hr hml hts hown hlocks hK hN A H locs hP hD hA hS ls hl
  have hown : s.vm.findClass RX4 = some m.cls := hown
  have hl : lv_has ls 3 [(0, .ref (xx 0)), (1, .int vd), (2, .int vw)] := hl
  have hDu : ∀ (z1 : jm_T), va_D A (List.flatten [(jo_X xx (n 0) (t 0) (h 0) (z 0) (d 0) (b 0)), (jm_W g n z1)]) := fun z1 => jk_D.same hD rfl
  have hf_10 := hts (.fieldLink RX4 10 "InfluenceJars" "now" "LInfluenceJars$Machine;") (by decide +kernel)
  have hi_4 : ∀ w ∈ u_ws RX4 TX4 6, w ∈ wsX4_disc := by decide +kernel
  have hk_42 := hts (.constant RX4 42 (-1000002)) (by decide +kernel)
  have hk_69 := hts (.constant RX4 69 (-1000001)) (by decide +kernel)
  refine lv_iload_n hx hb dX4_disc_0 rfl (lv_at hl 1 rfl) ?_
  refine jk_callS (As := [.int vd]) (rest := []) (ws1 := (List.flatten [(jo_X xx (n 0) (t 0) (h 0) (z 0) (d 0) (b 0)), (jm_W g n N)])) ⟨hx, hb, hml, hown, hts⟩ (c_X4_isNoDisc l D g vd) (va_cwS 1 hts gX4_disc_X4_isNoDisc rfl rfl rfl (by decide +kernel) ⟨Nat.le_of_ble_eq_true rfl, Nat.le_of_ble_eq_true rfl⟩) jk_nilP (jk_nilD (A := A)) hK hN rfl hl rfl (Nat.le_of_ble_eq_true rfl) dX4_disc_1 ⟨Nat.zero_le _, Nat.zero_le _⟩ hS hA (fun _ _ hk => jk_keep hP hk) (fun H locs hP hS => ?_)
  refine W.eq (g2 := F0 m 4 ls [.int (rX4_isNoDisc vd)]) rfl ?_
  refine lv_topi (fun x1 ex1 => ?_)
  refine lv_if_eq (tgt := 10) hx hb dX4_disc_4 (by decide) (fun c_4 => ?_) (fun c_4 => ?_)
  · refine lv_iload_n hx hb dX4_disc_10 rfl (lv_at hl 2 rfl) ?_
    by_cases c_11_0 : vw = 0
    · refine lv_tableIn (off := 33) (tgt := 44) hx hb dX4_disc_11 (by rw [c_11_0]; decide) (by rw [c_11_0]; decide) (by rw [c_11_0]; rfl) (by decide) ?_
      refine lv_aload_n hx hb dX4_disc_44 rfl (lv_at hl 0 rfl) ?_
      refine va_get (D := D) (ci := 4) (v := .ref (n 0)) (C := RX4) (T := TX4) (N := 6) hx hb hts hi_4 hown hK hP 0 rfl rfl 0 (by decide) hf_10 (fun _ h9 => h9) rfl dX4_disc_45 ?_
      refine lv_iload_n hx hb dX4_disc_48 rfl (lv_at hl 1 rfl) ?_
      refine jk_callV (As := [.int vd]) (rest := []) (ws1 := (List.flatten [(jo_X xx (n 0) (t 0) (h 0) (z 0) (d 0) (b 0)), (jm_W g n N)])) ⟨hx, hb, hml, hown, hts⟩ (c_X2_sumOfDisc l D g n N vd) (cwV 1 hts gX4_disc_X2_sumOfDisc rfl rfl rfl (by decide +kernel) ⟨Nat.le_of_ble_eq_true rfl, Nat.le_of_ble_eq_true rfl⟩) (va_recv hK hP (ci := 2) (q0 := 1) rfl rfl) (show va_P D vwCl (jm_W g n N) H from jk_one.mp (jk_segSub (L := [(jo_X xx (n 0) (t 0) (h 0) (z 0) (d 0) (b 0)), (jm_W g n N)]) hP [1])) (show va_D A (jm_W g n N) from jk_oneD.mp (jk_segSubD (L := [(jo_X xx (n 0) (t 0) (h 0) (z 0) (d 0) (b 0)), (jm_W g n N)]) hD [1] (by decide))) hK hN rfl hl rfl (Nat.le_of_ble_eq_true rfl) dX4_disc_49 ⟨Nat.zero_le _, Nat.zero_le _⟩ hS hA (jk_seg1 (L := [(jo_X xx (n 0) (t 0) (h 0) (z 0) (d 0) (b 0)), (jm_W g n N)]) (L' := [(jo_X xx (n 0) (t 0) (h 0) (z 0) (d 0) (b 0)), (jm_W g n N)]) (T := (jm_W g n N)) hP hD 1 [(false, 0), (true, 0)] (by decide) rfl) (fun H locs hP hS => ?_)
      refine W.eq (g2 := F0 m 52 ls [.int (lp_sum (jm_ch N) (rX2_firstIndexOf vd) 12)]) rfl ?_
      refine lv_topi (fun x2 ex2 => ?_)
      have qex2 := ex2.symm; subst qex2
      have qex1 := ex1.symm; subst qex1
      exact jk_iret hx hb hr hlocks hP hS (by unfold rX4_disc; rw [if_pos c_4, if_pos c_11_0]) rfl dX4_disc_52
    · by_cases c_11_1 : vw = 1
      · refine lv_tableIn (off := 42) (tgt := 53) hx hb dX4_disc_11 (by rw [c_11_1]; decide) (by rw [c_11_1]; decide) (by rw [c_11_1]; rfl) (by decide) ?_
        refine lv_aload_n hx hb dX4_disc_53 rfl (lv_at hl 0 rfl) ?_
        refine va_get (D := D) (ci := 4) (v := .ref (n 0)) (C := RX4) (T := TX4) (N := 6) hx hb hts hi_4 hown hK hP 0 rfl rfl 0 (by decide) hf_10 (fun _ h9 => h9) rfl dX4_disc_54 ?_
        refine lv_iload_n hx hb dX4_disc_57 rfl (lv_at hl 1 rfl) ?_
        refine lv_iconst (v := 1) hx hb dX4_disc_58 (by decide) ?_
        refine jk_callV (As := [.int vd, .int 1]) (rest := []) (ws1 := (List.flatten [(jo_X xx (n 0) (t 0) (h 0) (z 0) (d 0) (b 0)), (jm_W g n N)])) ⟨hx, hb, hml, hown, hts⟩ (c_X2_sectorsWithSign l D g n N vd (1 : Int32)) (cwV 2 hts gX4_disc_X2_sectorsWithSign rfl rfl rfl (by decide +kernel) ⟨Nat.le_of_ble_eq_true rfl, Nat.le_of_ble_eq_true rfl⟩) (va_recv hK hP (ci := 2) (q0 := 1) rfl rfl) (show va_P D vwCl (jm_W g n N) H from jk_one.mp (jk_segSub (L := [(jo_X xx (n 0) (t 0) (h 0) (z 0) (d 0) (b 0)), (jm_W g n N)]) hP [1])) (show va_D A (jm_W g n N) from jk_oneD.mp (jk_segSubD (L := [(jo_X xx (n 0) (t 0) (h 0) (z 0) (d 0) (b 0)), (jm_W g n N)]) hD [1] (by decide))) hK hN rfl hl rfl (Nat.le_of_ble_eq_true rfl) dX4_disc_59 ⟨Nat.zero_le _, Nat.zero_le _⟩ hS hA (jk_seg1 (L := [(jo_X xx (n 0) (t 0) (h 0) (z 0) (d 0) (b 0)), (jm_W g n N)]) (L' := [(jo_X xx (n 0) (t 0) (h 0) (z 0) (d 0) (b 0)), (jm_W g n N)]) (T := (jm_W g n N)) hP hD 1 [(false, 0), (true, 0)] (by decide) rfl) (fun H locs hP hS => ?_)
        refine W.eq (g2 := F0 m 62 ls [.int (lp_sgn (jm_ch N) (rX2_firstIndexOf vd) (1 : Int32) 12)]) rfl ?_
        refine lv_topi (fun x3 ex3 => ?_)
        have qex3 := ex3.symm; subst qex3
        have qex1 := ex1.symm; subst qex1
        exact jk_iret hx hb hr hlocks hP hS (by unfold rX4_disc; rw [if_pos c_4, if_neg c_11_0, if_pos c_11_1]) rfl dX4_disc_62
      · by_cases c_11_2 : vw = 2
        · refine lv_tableIn (off := 52) (tgt := 63) hx hb dX4_disc_11 (by rw [c_11_2]; decide) (by rw [c_11_2]; decide) (by rw [c_11_2]; rfl) (by decide) ?_
          refine lv_aload_n hx hb dX4_disc_63 rfl (lv_at hl 0 rfl) ?_
          refine va_get (D := D) (ci := 4) (v := .ref (n 0)) (C := RX4) (T := TX4) (N := 6) hx hb hts hi_4 hown hK hP 0 rfl rfl 0 (by decide) hf_10 (fun _ h9 => h9) rfl dX4_disc_64 ?_
          refine lv_iload_n hx hb dX4_disc_67 rfl (lv_at hl 1 rfl) ?_
          refine lv_iconst (v := (-1)) hx hb dX4_disc_68 (by decide) ?_
          refine jk_callV (As := [.int vd, .int (-1)]) (rest := []) (ws1 := (List.flatten [(jo_X xx (n 0) (t 0) (h 0) (z 0) (d 0) (b 0)), (jm_W g n N)])) ⟨hx, hb, hml, hown, hts⟩ (c_X2_sectorsWithSign l D g n N vd ((-1) : Int32)) (cwV 2 hts gX4_disc_X2_sectorsWithSign rfl rfl rfl (by decide +kernel) ⟨Nat.le_of_ble_eq_true rfl, Nat.le_of_ble_eq_true rfl⟩) (va_recv hK hP (ci := 2) (q0 := 1) rfl rfl) (show va_P D vwCl (jm_W g n N) H from jk_one.mp (jk_segSub (L := [(jo_X xx (n 0) (t 0) (h 0) (z 0) (d 0) (b 0)), (jm_W g n N)]) hP [1])) (show va_D A (jm_W g n N) from jk_oneD.mp (jk_segSubD (L := [(jo_X xx (n 0) (t 0) (h 0) (z 0) (d 0) (b 0)), (jm_W g n N)]) hD [1] (by decide))) hK hN rfl hl rfl (Nat.le_of_ble_eq_true rfl) dX4_disc_69 ⟨Nat.zero_le _, Nat.zero_le _⟩ hS hA (jk_seg1 (L := [(jo_X xx (n 0) (t 0) (h 0) (z 0) (d 0) (b 0)), (jm_W g n N)]) (L' := [(jo_X xx (n 0) (t 0) (h 0) (z 0) (d 0) (b 0)), (jm_W g n N)]) (T := (jm_W g n N)) hP hD 1 [(false, 0), (true, 0)] (by decide) rfl) (fun H locs hP hS => ?_)
          refine W.eq (g2 := F0 m 72 ls [.int (lp_sgn (jm_ch N) (rX2_firstIndexOf vd) ((-1) : Int32) 12)]) rfl ?_
          refine lv_topi (fun x4 ex4 => ?_)
          have qex4 := ex4.symm; subst qex4
          have qex1 := ex1.symm; subst qex1
          exact jk_iret hx hb hr hlocks hP hS (by unfold rX4_disc; rw [if_pos c_4, if_neg c_11_0, if_neg c_11_1, if_pos c_11_2]) rfl dX4_disc_72
        · by_cases c_11_3 : vw = 3
          · refine lv_tableIn (off := 62) (tgt := 73) hx hb dX4_disc_11 (by rw [c_11_3]; decide) (by rw [c_11_3]; decide) (by rw [c_11_3]; rfl) (by decide) ?_
            refine lv_aload_n hx hb dX4_disc_73 rfl (lv_at hl 0 rfl) ?_
            refine va_get (D := D) (ci := 4) (v := .ref (n 0)) (C := RX4) (T := TX4) (N := 6) hx hb hts hi_4 hown hK hP 0 rfl rfl 0 (by decide) hf_10 (fun _ h9 => h9) rfl dX4_disc_74 ?_
            refine lv_iload_n hx hb dX4_disc_77 rfl (lv_at hl 1 rfl) ?_
            refine jk_callV (As := [.int vd]) (rest := []) (ws1 := (List.flatten [(jo_X xx (n 0) (t 0) (h 0) (z 0) (d 0) (b 0)), (jm_W g n N)])) ⟨hx, hb, hml, hown, hts⟩ (c_X2_greatestOfDisc l D g n N vd) (cwV 1 hts gX4_disc_X2_greatestOfDisc rfl rfl rfl (by decide +kernel) ⟨Nat.le_of_ble_eq_true rfl, Nat.le_of_ble_eq_true rfl⟩) (va_recv hK hP (ci := 2) (q0 := 1) rfl rfl) (show va_P D vwCl (jm_W g n N) H from jk_one.mp (jk_segSub (L := [(jo_X xx (n 0) (t 0) (h 0) (z 0) (d 0) (b 0)), (jm_W g n N)]) hP [1])) (show va_D A (jm_W g n N) from jk_oneD.mp (jk_segSubD (L := [(jo_X xx (n 0) (t 0) (h 0) (z 0) (d 0) (b 0)), (jm_W g n N)]) hD [1] (by decide))) hK hN rfl hl rfl (Nat.le_of_ble_eq_true rfl) dX4_disc_78 ⟨Nat.zero_le _, Nat.zero_le _⟩ hS hA (jk_seg1 (L := [(jo_X xx (n 0) (t 0) (h 0) (z 0) (d 0) (b 0)), (jm_W g n N)]) (L' := [(jo_X xx (n 0) (t 0) (h 0) (z 0) (d 0) (b 0)), (jm_W g n N)]) (T := (jm_W g n N)) hP hD 1 [(false, 0), (true, 0)] (by decide) rfl) (fun H locs hP hS => ?_)
            refine W.eq (g2 := F0 m 81 ls [.int (lp_max (jm_ch N) (rX2_firstIndexOf vd) 12)]) rfl ?_
            refine lv_topi (fun x5 ex5 => ?_)
            have qex5 := ex5.symm; subst qex5
            have qex1 := ex1.symm; subst qex1
            exact jk_iret hx hb hr hlocks hP hS (by unfold rX4_disc; rw [if_pos c_4, if_neg c_11_0, if_neg c_11_1, if_neg c_11_2, if_pos c_11_3]) rfl dX4_disc_81
          · by_cases c_11_4 : vw = 4
            · refine lv_tableIn (off := 71) (tgt := 82) hx hb dX4_disc_11 (by rw [c_11_4]; decide) (by rw [c_11_4]; decide) (by rw [c_11_4]; rfl) (by decide) ?_
              refine lv_aload_n hx hb dX4_disc_82 rfl (lv_at hl 0 rfl) ?_
              refine va_get (D := D) (ci := 4) (v := .ref (n 0)) (C := RX4) (T := TX4) (N := 6) hx hb hts hi_4 hown hK hP 0 rfl rfl 0 (by decide) hf_10 (fun _ h9 => h9) rfl dX4_disc_83 ?_
              refine lv_iload_n hx hb dX4_disc_86 rfl (lv_at hl 1 rfl) ?_
              refine jk_callV (As := [.int vd]) (rest := []) (ws1 := (List.flatten [(jo_X xx (n 0) (t 0) (h 0) (z 0) (d 0) (b 0)), (jm_W g n N)])) ⟨hx, hb, hml, hown, hts⟩ (c_X2_leastOfDisc l D g n N vd) (cwV 1 hts gX4_disc_X2_leastOfDisc rfl rfl rfl (by decide +kernel) ⟨Nat.le_of_ble_eq_true rfl, Nat.le_of_ble_eq_true rfl⟩) (va_recv hK hP (ci := 2) (q0 := 1) rfl rfl) (show va_P D vwCl (jm_W g n N) H from jk_one.mp (jk_segSub (L := [(jo_X xx (n 0) (t 0) (h 0) (z 0) (d 0) (b 0)), (jm_W g n N)]) hP [1])) (show va_D A (jm_W g n N) from jk_oneD.mp (jk_segSubD (L := [(jo_X xx (n 0) (t 0) (h 0) (z 0) (d 0) (b 0)), (jm_W g n N)]) hD [1] (by decide))) hK hN rfl hl rfl (Nat.le_of_ble_eq_true rfl) dX4_disc_87 ⟨Nat.zero_le _, Nat.zero_le _⟩ hS hA (jk_seg1 (L := [(jo_X xx (n 0) (t 0) (h 0) (z 0) (d 0) (b 0)), (jm_W g n N)]) (L' := [(jo_X xx (n 0) (t 0) (h 0) (z 0) (d 0) (b 0)), (jm_W g n N)]) (T := (jm_W g n N)) hP hD 1 [(false, 0), (true, 0)] (by decide) rfl) (fun H locs hP hS => ?_)
              refine W.eq (g2 := F0 m 90 ls [.int (lp_min (jm_ch N) (rX2_firstIndexOf vd) 12)]) rfl ?_
              refine lv_topi (fun x6 ex6 => ?_)
              have qex6 := ex6.symm; subst qex6
              have qex1 := ex1.symm; subst qex1
              exact jk_iret hx hb hr hlocks hP hS (by unfold rX4_disc; rw [if_pos c_4, if_neg c_11_0, if_neg c_11_1, if_neg c_11_2, if_neg c_11_3, if_pos c_11_4]) rfl dX4_disc_90
            · refine lv_tableOut (tgt := 91) hx hb dX4_disc_11 (by have q0 := lv_neT (a := 0) c_11_0 (by decide); have q1 := lv_neT (a := 1) c_11_1 (by decide); have q2 := lv_neT (a := 2) c_11_2 (by decide); have q3 := lv_neT (a := 3) c_11_3 (by decide); have q4 := lv_neT (a := 4) c_11_4 (by decide); omega) (by decide) ?_
              refine lv_ldc hx hb hown hk_42 dX4_disc_91 ?_
              have qex1 := ex1.symm; subst qex1
              exact jk_iret hx hb hr hlocks hP hS (by unfold rX4_disc; rw [if_pos c_4, if_neg c_11_0, if_neg c_11_1, if_neg c_11_2, if_neg c_11_3, if_neg c_11_4]) rfl dX4_disc_93
  · refine lv_ldc hx hb hown hk_69 dX4_disc_7 ?_
    have qex1 := ex1.symm; subst qex1
    exact jk_iret hx hb hr hlocks hP hS (by unfold rX4_disc; rw [if_neg c_4]) rfl dX4_disc_9

def rX4_jar (N : jm_T) (vj : Int32) (vw : Int32) : Int32 := if vj < 0 then ((-1000001)) else (if vj < 2 then (if vw = 0 then ((jm_ja N) vj.toNatClampNeg) else (if vw = 1 then ((jm_tk N) vj.toNatClampNeg) else (if vw = 2 then ((jm_lj N) vj.toNatClampNeg) else ((-1000002))))) else ((-1000001)))
set_option maxHeartbeats 1000000 in
set_option maxRecDepth 100000 in
theorem c_X4_jar (l : Launch) (D : va_G) (g : jk_G) (xx : Nat → Nat) (n : Nat → Nat) (t : Nat → Nat) (h : Nat → Nat) (z : Nat → Nat) (d : Nat → Nat) (b : Nat → Nat) (N : jm_T) (vj : Int32) (vw : Int32)  : jk_M l D g yX4_jar wsX4_jar 0 0 [.ref (xx 0), .int vj, .int vw] (List.flatten [(jo_X xx (n 0) (t 0) (h 0) (z 0) (d 0) (b 0)), (jm_W g n N)]) (some (.int (rX4_jar N vj vw))) (List.flatten [(jo_X xx (n 0) (t 0) (h 0) (z 0) (d 0) (b 0)), (jm_W g n N)]) := by
  refine jk_of (cc := cX4_jar) (maxL := 3) (ret := (some .int)) (by decide +kernel) rfl (Nat.le_of_ble_eq_true rfl) ?_
  intro p e s m args below meth c hx hb hr hml hts hown hlocks hK hN A H locs hP hD hA hS ls hl
  have hown : s.vm.findClass RX4 = some m.cls := hown
  have hl : lv_has ls 3 [(0, .ref (xx 0)), (1, .int vj), (2, .int vw)] := hl
  have hDu : ∀ (z1 : jm_T), va_D A (List.flatten [(jo_X xx (n 0) (t 0) (h 0) (z 0) (d 0) (b 0)), (jm_W g n z1)]) := fun z1 => jk_D.same hD rfl
  have hk_69 := hts (.constant RX4 69 (-1000001)) (by decide +kernel)
  have hf_10 := hts (.fieldLink RX4 10 "InfluenceJars" "now" "LInfluenceJars$Machine;") (by decide +kernel)
  have hi_4 : ∀ w ∈ u_ws RX4 TX4 6, w ∈ wsX4_jar := by decide +kernel
  have hf_150 := hts (.fieldLink RX4 150 "InfluenceJars$Machine" "jars" "[I") (by decide +kernel)
  have hi_2 : ∀ w ∈ u_ws RX2 TX2 13, w ∈ wsX4_jar := by decide +kernel
  have hf_153 := hts (.fieldLink RX4 153 "InfluenceJars$Machine" "taken" "[I") (by decide +kernel)
  have hf_156 := hts (.fieldLink RX4 156 "InfluenceJars$Machine" "leakedOfJar" "[I") (by decide +kernel)
  have hk_42 := hts (.constant RX4 42 (-1000002)) (by decide +kernel)
  refine lv_iload_n hx hb dX4_jar_0 rfl (lv_at hl 1 rfl) ?_
  refine lv_if_lt (tgt := 9) hx hb dX4_jar_1 (by decide) (fun c_1 => ?_) (fun c_1 => ?_)
  · refine lv_ldc hx hb hown hk_69 dX4_jar_9 ?_
    exact jk_iret hx hb hr hlocks hP hS (by unfold rX4_jar; rw [if_pos c_1]) rfl dX4_jar_11
  · refine lv_iload_n hx hb dX4_jar_4 rfl (lv_at hl 1 rfl) ?_
    refine lv_iconst (v := 2) hx hb dX4_jar_5 (by decide) ?_
    refine lv_icmp_lt (tgt := 12) hx hb dX4_jar_6 (by decide) (fun c_6 => ?_) (fun c_6 => ?_)
    · refine lv_iload_n hx hb dX4_jar_12 rfl (lv_at hl 2 rfl) ?_
      by_cases c_13_0 : vw = 0
      · refine lv_tableIn (off := 27) (tgt := 40) hx hb dX4_jar_13 (by rw [c_13_0]; decide) (by rw [c_13_0]; decide) (by rw [c_13_0]; rfl) (by decide) ?_
        refine lv_aload_n hx hb dX4_jar_40 rfl (lv_at hl 0 rfl) ?_
        refine va_get (D := D) (ci := 4) (v := .ref (n 0)) (C := RX4) (T := TX4) (N := 6) hx hb hts hi_4 hown hK hP 0 rfl rfl 0 (by decide) hf_10 (fun _ h9 => h9) rfl dX4_jar_41 ?_
        refine va_get (D := D) (ci := 2) (v := .ref (n 3)) (C := RX2) (T := TX2) (N := 13) hx hb hts hi_2 hown hK hP 1 rfl rfl 2 (by decide) hf_150 (fun _ h9 => h9) rfl dX4_jar_44 ?_
        refine lv_iload_n hx hb dX4_jar_47 rfl (lv_at hl 1 rfl) ?_
        refine va_iald (f := (jm_ja N)) hx hb hK hP 4 0 rfl rfl (j2_in c_1 c_6 (by decide)) dX4_jar_48 ?_
        exact jk_iret hx hb hr hlocks hP hS (by unfold rX4_jar; rw [if_neg c_1, if_pos c_6, if_pos c_13_0]) rfl dX4_jar_49
      · by_cases c_13_1 : vw = 1
        · refine lv_tableIn (off := 37) (tgt := 50) hx hb dX4_jar_13 (by rw [c_13_1]; decide) (by rw [c_13_1]; decide) (by rw [c_13_1]; rfl) (by decide) ?_
          refine lv_aload_n hx hb dX4_jar_50 rfl (lv_at hl 0 rfl) ?_
          refine va_get (D := D) (ci := 4) (v := .ref (n 0)) (C := RX4) (T := TX4) (N := 6) hx hb hts hi_4 hown hK hP 0 rfl rfl 0 (by decide) hf_10 (fun _ h9 => h9) rfl dX4_jar_51 ?_
          refine va_get (D := D) (ci := 2) (v := .ref (n 4)) (C := RX2) (T := TX2) (N := 13) hx hb hts hi_2 hown hK hP 1 rfl rfl 3 (by decide) hf_153 (fun _ h9 => h9) rfl dX4_jar_54 ?_
          refine lv_iload_n hx hb dX4_jar_57 rfl (lv_at hl 1 rfl) ?_
          refine va_iald (f := (jm_tk N)) hx hb hK hP 5 0 rfl rfl (j2_in c_1 c_6 (by decide)) dX4_jar_58 ?_
          exact jk_iret hx hb hr hlocks hP hS (by unfold rX4_jar; rw [if_neg c_1, if_pos c_6, if_neg c_13_0, if_pos c_13_1]) rfl dX4_jar_59
        · by_cases c_13_2 : vw = 2
          · refine lv_tableIn (off := 47) (tgt := 60) hx hb dX4_jar_13 (by rw [c_13_2]; decide) (by rw [c_13_2]; decide) (by rw [c_13_2]; rfl) (by decide) ?_
            refine lv_aload_n hx hb dX4_jar_60 rfl (lv_at hl 0 rfl) ?_
            refine va_get (D := D) (ci := 4) (v := .ref (n 0)) (C := RX4) (T := TX4) (N := 6) hx hb hts hi_4 hown hK hP 0 rfl rfl 0 (by decide) hf_10 (fun _ h9 => h9) rfl dX4_jar_61 ?_
            refine va_get (D := D) (ci := 2) (v := .ref (n 5)) (C := RX2) (T := TX2) (N := 13) hx hb hts hi_2 hown hK hP 1 rfl rfl 4 (by decide) hf_156 (fun _ h9 => h9) rfl dX4_jar_64 ?_
            refine lv_iload_n hx hb dX4_jar_67 rfl (lv_at hl 1 rfl) ?_
            refine va_iald (f := (jm_lj N)) hx hb hK hP 6 0 rfl rfl (j2_in c_1 c_6 (by decide)) dX4_jar_68 ?_
            exact jk_iret hx hb hr hlocks hP hS (by unfold rX4_jar; rw [if_neg c_1, if_pos c_6, if_neg c_13_0, if_neg c_13_1, if_pos c_13_2]) rfl dX4_jar_69
          · refine lv_tableOut (tgt := 70) hx hb dX4_jar_13 (by have q0 := lv_neT (a := 0) c_13_0 (by decide); have q1 := lv_neT (a := 1) c_13_1 (by decide); have q2 := lv_neT (a := 2) c_13_2 (by decide); omega) (by decide) ?_
            refine lv_ldc hx hb hown hk_42 dX4_jar_70 ?_
            exact jk_iret hx hb hr hlocks hP hS (by unfold rX4_jar; rw [if_neg c_1, if_pos c_6, if_neg c_13_0, if_neg c_13_1, if_neg c_13_2]) rfl dX4_jar_72
    · refine lv_ldc hx hb hown hk_69 dX4_jar_9 ?_
      exact jk_iret hx hb hr hlocks hP hS (by unfold rX4_jar; rw [if_neg c_1, if_neg c_6]) rfl dX4_jar_11

def rX4_spark (N : jm_T) (va : Int32) (vw : Int32) : Int32 := if va < 0 then ((-1000002)) else (if vw < 0 then ((-1000002)) else (if vw < 3 then (if 8 ≤ va then ((-1000006)) else (if va < (jm_sp N) then (let x1 : Int32 := rX2_logIndexOf (((jm_sp N) - 1) - va); let x2 : Int32 := (jm_lo N) (x1 + vw).toNatClampNeg; x2) else ((-1000006)))) else ((-1000002))))
set_option maxHeartbeats 1000000 in
set_option maxRecDepth 100000 in
theorem c_X4_spark (l : Launch) (D : va_G) (g : jk_G) (xx : Nat → Nat) (n : Nat → Nat) (t : Nat → Nat) (h : Nat → Nat) (z : Nat → Nat) (d : Nat → Nat) (b : Nat → Nat) (N : jm_T) (va : Int32) (vw : Int32)  : jk_M l D g yX4_spark wsX4_spark 2 42 [.ref (xx 0), .int va, .int vw] (List.flatten [(jo_X xx (n 0) (t 0) (h 0) (z 0) (d 0) (b 0)), (jm_W g n N)]) (some (.int (rX4_spark N va vw))) (List.flatten [(jo_X xx (n 0) (t 0) (h 0) (z 0) (d 0) (b 0)), (jm_W g n N)]) := by
  refine jk_of (cc := cX4_spark) (maxL := 3) (ret := (some .int)) (by decide +kernel) rfl (Nat.le_of_ble_eq_true rfl) ?_
  intro p e s m args below meth c hx hb hr hml hts hown hlocks hK hN A H locs hP hD hA hS ls hl
  have hown : s.vm.findClass RX4 = some m.cls := hown
  have hl : lv_has ls 3 [(0, .ref (xx 0)), (1, .int va), (2, .int vw)] := hl
  have hDu : ∀ (z1 : jm_T), va_D A (List.flatten [(jo_X xx (n 0) (t 0) (h 0) (z 0) (d 0) (b 0)), (jm_W g n z1)]) := fun z1 => jk_D.same hD rfl
  have hk_42 := hts (.constant RX4 42 (-1000002)) (by decide +kernel)
  have hk_91 := hts (.constant RX4 91 (-1000006)) (by decide +kernel)
  have hf_10 := hts (.fieldLink RX4 10 "InfluenceJars" "now" "LInfluenceJars$Machine;") (by decide +kernel)
  have hi_4 : ∀ w ∈ u_ws RX4 TX4 6, w ∈ wsX4_spark := by decide +kernel
  have hf_93 := hts (.fieldLink RX4 93 "InfluenceJars$Machine" "sparks" "I") (by decide +kernel)
  have hi_2 : ∀ w ∈ u_ws RX2 TX2 13, w ∈ wsX4_spark := by decide +kernel
  have hf_159 := hts (.fieldLink RX4 159 "InfluenceJars$Machine" "sparkLog" "[I") (by decide +kernel)
  refine lv_iload_n hx hb dX4_spark_0 rfl (lv_at hl 1 rfl) ?_
  refine lv_if_lt (tgt := 13) hx hb dX4_spark_1 (by decide) (fun c_1 => ?_) (fun c_1 => ?_)
  · refine lv_ldc hx hb hown hk_42 dX4_spark_13 ?_
    exact jk_iret hx hb hr hlocks hP hS (by unfold rX4_spark; rw [if_pos c_1]) rfl dX4_spark_15
  · refine lv_iload_n hx hb dX4_spark_4 rfl (lv_at hl 2 rfl) ?_
    refine lv_if_lt (tgt := 13) hx hb dX4_spark_5 (by decide) (fun c_5 => ?_) (fun c_5 => ?_)
    · refine lv_ldc hx hb hown hk_42 dX4_spark_13 ?_
      exact jk_iret hx hb hr hlocks hP hS (by unfold rX4_spark; rw [if_neg c_1, if_pos c_5]) rfl dX4_spark_15
    · refine lv_iload_n hx hb dX4_spark_8 rfl (lv_at hl 2 rfl) ?_
      refine lv_iconst (v := 3) hx hb dX4_spark_9 (by decide) ?_
      refine lv_icmp_lt (tgt := 16) hx hb dX4_spark_10 (by decide) (fun c_10 => ?_) (fun c_10 => ?_)
      · refine lv_iload_n hx hb dX4_spark_16 rfl (lv_at hl 1 rfl) ?_
        refine lv_bipush (v := 8) hx hb dX4_spark_17 (by decide) ?_
        refine lv_icmp_ge (tgt := 33) hx hb dX4_spark_19 (by decide) (fun c_19 => ?_) (fun c_19 => ?_)
        · refine lv_ldc hx hb hown hk_91 dX4_spark_33 ?_
          exact jk_iret hx hb hr hlocks hP hS (by unfold rX4_spark; rw [if_neg c_1, if_neg c_5, if_pos c_10, if_pos c_19]) rfl dX4_spark_35
        · refine lv_iload_n hx hb dX4_spark_22 rfl (lv_at hl 1 rfl) ?_
          refine lv_aload_n hx hb dX4_spark_23 rfl (lv_at hl 0 rfl) ?_
          refine va_get (D := D) (ci := 4) (v := .ref (n 0)) (C := RX4) (T := TX4) (N := 6) hx hb hts hi_4 hown hK hP 0 rfl rfl 0 (by decide) hf_10 (fun _ h9 => h9) rfl dX4_spark_24 ?_
          refine va_get (D := D) (ci := 2) (v := .int (jm_sp N)) (C := RX2) (T := TX2) (N := 13) hx hb hts hi_2 hown hK hP 1 rfl rfl 7 (by decide) hf_93 (fun _ h9 => h9) rfl dX4_spark_27 ?_
          refine lv_icmp_lt (tgt := 36) hx hb dX4_spark_30 (by decide) (fun c_30 => ?_) (fun c_30 => ?_)
          · refine lv_aload_n hx hb dX4_spark_36 rfl (lv_at hl 0 rfl) ?_
            refine va_get (D := D) (ci := 4) (v := .ref (n 0)) (C := RX4) (T := TX4) (N := 6) hx hb hts hi_4 hown hK hP 0 rfl rfl 0 (by decide) hf_10 (fun _ h9 => h9) rfl dX4_spark_37 ?_
            refine va_get (D := D) (ci := 2) (v := .ref (n 6)) (C := RX2) (T := TX2) (N := 13) hx hb hts hi_2 hown hK hP 1 rfl rfl 5 (by decide) hf_159 (fun _ h9 => h9) rfl dX4_spark_40 ?_
            refine lv_aload_n hx hb dX4_spark_43 rfl (lv_at hl 0 rfl) ?_
            refine va_get (D := D) (ci := 4) (v := .ref (n 0)) (C := RX4) (T := TX4) (N := 6) hx hb hts hi_4 hown hK hP 0 rfl rfl 0 (by decide) hf_10 (fun _ h9 => h9) rfl dX4_spark_44 ?_
            refine va_get (D := D) (ci := 2) (v := .int (jm_sp N)) (C := RX2) (T := TX2) (N := 13) hx hb hts hi_2 hown hK hP 1 rfl rfl 7 (by decide) hf_93 (fun _ h9 => h9) rfl dX4_spark_47 ?_
            refine lv_iconst (v := 1) hx hb dX4_spark_50 (by decide) ?_
            refine lv_isub hx hb dX4_spark_51 ?_
            refine lv_iload_n hx hb dX4_spark_52 rfl (lv_at hl 1 rfl) ?_
            refine lv_isub hx hb dX4_spark_53 ?_
            refine jk_callS (As := [.int (((jm_sp N) - 1) - va)]) (rest := [.ref (n 6)]) (ws1 := (List.flatten [(jo_X xx (n 0) (t 0) (h 0) (z 0) (d 0) (b 0)), (jm_W g n N)])) ⟨hx, hb, hml, hown, hts⟩ (c_X2_logIndexOf l D g (((jm_sp N) - 1) - va)) (va_cwS 1 hts gX4_spark_X2_logIndexOf rfl rfl rfl (by decide +kernel) ⟨Nat.le_of_ble_eq_true rfl, Nat.le_of_ble_eq_true rfl⟩) jk_nilP (jk_nilD (A := A)) hK hN rfl hl rfl (Nat.le_of_ble_eq_true rfl) dX4_spark_54 ⟨Nat.zero_le _, Nat.zero_le _⟩ hS hA (fun _ _ hk => jk_keep hP hk) (fun H locs hP hS => ?_)
            refine W.eq (g2 := F0 m 57 ls [.int (rX2_logIndexOf (((jm_sp N) - 1) - va)), .ref (n 6)]) rfl ?_
            refine lv_topi (fun x1 ex1 => ?_)
            refine lv_iload_n hx hb dX4_spark_57 rfl (lv_at hl 2 rfl) ?_
            refine lv_iadd hx hb dX4_spark_58 ?_
            refine va_iald (f := (jm_lo N)) hx hb hK hP 7 0 rfl rfl (by have qex1 := ex1.symm; subst qex1; exact j2_lg c_5 c_10) dX4_spark_59 ?_
            refine lv_topi (fun x2 ex2 => ?_)
            have qex2 := ex2.symm; subst qex2
            have qex1 := ex1.symm; subst qex1
            exact jk_iret hx hb hr hlocks hP hS (by unfold rX4_spark; rw [if_neg c_1, if_neg c_5, if_pos c_10, if_neg c_19, if_pos c_30]) rfl dX4_spark_60
          · refine lv_ldc hx hb hown hk_91 dX4_spark_33 ?_
            exact jk_iret hx hb hr hlocks hP hS (by unfold rX4_spark; rw [if_neg c_1, if_neg c_5, if_pos c_10, if_neg c_19, if_neg c_30]) rfl dX4_spark_35
      · refine lv_ldc hx hb hown hk_42 dX4_spark_13 ?_
        exact jk_iret hx hb hr hlocks hP hS (by unfold rX4_spark; rw [if_neg c_1, if_neg c_5, if_neg c_10]) rfl dX4_spark_15

def rX4_count (N : jm_T) (Hs : jh_T) (P : jp_T) (vw : Int32) : Int32 := if vw < 0 then (if vw = 5 then ((jm_tu N)) else (if vw = 6 then ((jm_sp N)) else (if vw = 7 then ((jm_rv N)) else (if vw = 8 then (let x1 : Int32 := rX2_sign N; x1) else (if vw = 9 then (let x2 : Int32 := rX2_chargeOfAll N; x2) else (if vw = 10 then ((jm_lk N)) else (if vw = 11 then ((jm_po N)) else (if vw = 12 then ((jm_to N)) else (if vw = 13 then ((jp_ln P)) else (if vw = 14 then ((jh_sz Hs)) else ((-1000002)))))))))))) else (if 5 ≤ vw then (if vw = 5 then ((jm_tu N)) else (if vw = 6 then ((jm_sp N)) else (if vw = 7 then ((jm_rv N)) else (if vw = 8 then (let x3 : Int32 := rX2_sign N; x3) else (if vw = 9 then (let x4 : Int32 := rX2_chargeOfAll N; x4) else (if vw = 10 then ((jm_lk N)) else (if vw = 11 then ((jm_po N)) else (if vw = 12 then ((jm_to N)) else (if vw = 13 then ((jp_ln P)) else (if vw = 14 then ((jh_sz Hs)) else ((-1000002)))))))))))) else ((jm_se N) vw.toNatClampNeg))
set_option maxHeartbeats 1000000 in
set_option maxRecDepth 100000 in
theorem c_X4_count (l : Launch) (D : va_G) (g : jk_G) (xx : Nat → Nat) (n : Nat → Nat) (t : Nat → Nat) (h : Nat → Nat) (z : Nat → Nat) (d : Nat → Nat) (b : Nat → Nat) (N : jm_T) (p : (Nat → Nat → Nat)) (F : jf_T) (Hs : jh_T) (P : jp_T) (vw : Int32)  : jk_M l D g yX4_count wsX4_count 3 64 [.ref (xx 0), .int vw] (List.flatten [(jo_X xx (n 0) (t 0) (h 0) (z 0) (d 0) (b 0)), (jm_W g n N), (jh_X g h p F Hs), (jp_W g b P)]) (some (.int (rX4_count N Hs P vw))) (List.flatten [(jo_X xx (n 0) (t 0) (h 0) (z 0) (d 0) (b 0)), (jm_W g n N), (jh_X g h p F Hs), (jp_W g b P)]) := by
  refine jk_of (cc := cX4_count) (maxL := 2) (ret := (some .int)) (by decide +kernel) rfl (Nat.le_of_ble_eq_true rfl) ?_
  intro pp e s m args below meth c hx hb hr hml hts hown hlocks hK hN A H locs hP hD hA hS ls hl
  have hown : s.vm.findClass RX4 = some m.cls := hown
  have hl : lv_has ls 2 [(0, .ref (xx 0)), (1, .int vw)] := hl
  have hDu : ∀ (z1 : jm_T) (z2 : jh_T) (z3 : jp_T), va_D A (List.flatten [(jo_X xx (n 0) (t 0) (h 0) (z 0) (d 0) (b 0)), (jm_W g n z1), (jh_X g h p F z2), (jp_W g b z3)]) := fun z1 z2 z3 => jk_D.same hD rfl
  have hf_10 := hts (.fieldLink RX4 10 "InfluenceJars" "now" "LInfluenceJars$Machine;") (by decide +kernel)
  have hi_4 : ∀ w ∈ u_ws RX4 TX4 6, w ∈ wsX4_count := by decide +kernel
  have hf_131 := hts (.fieldLink RX4 131 "InfluenceJars$Machine" "turns" "I") (by decide +kernel)
  have hi_2 : ∀ w ∈ u_ws RX2 TX2 13, w ∈ wsX4_count := by decide +kernel
  have hf_93 := hts (.fieldLink RX4 93 "InfluenceJars$Machine" "sparks" "I") (by decide +kernel)
  have hf_165 := hts (.fieldLink RX4 165 "InfluenceJars$Machine" "reversals" "I") (by decide +kernel)
  have hf_174 := hts (.fieldLink RX4 174 "InfluenceJars$Machine" "leaked" "I") (by decide +kernel)
  have hf_177 := hts (.fieldLink RX4 177 "InfluenceJars$Machine" "putOn" "I") (by decide +kernel)
  have hf_180 := hts (.fieldLink RX4 180 "InfluenceJars$Machine" "takenOff" "I") (by decide +kernel)
  have hf_41 := hts (.fieldLink RX4 41 "InfluenceJars" "pad" "LInfluenceJars$Pad;") (by decide +kernel)
  have hf_183 := hts (.fieldLink RX4 183 "InfluenceJars$Pad" "length" "I") (by decide +kernel)
  have hi_3 : ∀ w ∈ u_ws RX3 TX3 2, w ∈ wsX4_count := by decide +kernel
  have hf_22 := hts (.fieldLink RX4 22 "InfluenceJars" "history" "LInfluenceJars$History;") (by decide +kernel)
  have hf_186 := hts (.fieldLink RX4 186 "InfluenceJars$History" "size" "I") (by decide +kernel)
  have hi_1 : ∀ w ∈ u_ws RX1 TX1 3, w ∈ wsX4_count := by decide +kernel
  have hk_42 := hts (.constant RX4 42 (-1000002)) (by decide +kernel)
  have hf_59 := hts (.fieldLink RX4 59 "InfluenceJars$Machine" "settings" "[I") (by decide +kernel)
  refine lv_iload_n hx hb dX4_count_0 rfl (lv_at hl 1 rfl) ?_
  refine lv_if_lt (tgt := 19) hx hb dX4_count_1 (by decide) (fun c_1 => ?_) (fun c_1 => ?_)
  · refine lv_iload_n hx hb dX4_count_19 rfl (lv_at hl 1 rfl) ?_
    by_cases c_20_0 : vw = 5
    · refine lv_tableIn (off := 56) (tgt := 76) hx hb dX4_count_20 (by rw [c_20_0]; decide) (by rw [c_20_0]; decide) (by rw [c_20_0]; rfl) (by decide) ?_
      refine lv_aload_n hx hb dX4_count_76 rfl (lv_at hl 0 rfl) ?_
      refine va_get (D := D) (ci := 4) (v := .ref (n 0)) (C := RX4) (T := TX4) (N := 6) hx hb hts hi_4 hown hK hP 0 rfl rfl 0 (by decide) hf_10 (fun _ h9 => h9) rfl dX4_count_77 ?_
      refine va_get (D := D) (ci := 2) (v := .int (jm_tu N)) (C := RX2) (T := TX2) (N := 13) hx hb hts hi_2 hown hK hP 1 rfl rfl 6 (by decide) hf_131 (fun _ h9 => h9) rfl dX4_count_80 ?_
      exact jk_iret hx hb hr hlocks hP hS (by unfold rX4_count; rw [if_pos c_1, if_pos c_20_0]) rfl dX4_count_83
    · by_cases c_20_1 : vw = 6
      · refine lv_tableIn (off := 64) (tgt := 84) hx hb dX4_count_20 (by rw [c_20_1]; decide) (by rw [c_20_1]; decide) (by rw [c_20_1]; rfl) (by decide) ?_
        refine lv_aload_n hx hb dX4_count_84 rfl (lv_at hl 0 rfl) ?_
        refine va_get (D := D) (ci := 4) (v := .ref (n 0)) (C := RX4) (T := TX4) (N := 6) hx hb hts hi_4 hown hK hP 0 rfl rfl 0 (by decide) hf_10 (fun _ h9 => h9) rfl dX4_count_85 ?_
        refine va_get (D := D) (ci := 2) (v := .int (jm_sp N)) (C := RX2) (T := TX2) (N := 13) hx hb hts hi_2 hown hK hP 1 rfl rfl 7 (by decide) hf_93 (fun _ h9 => h9) rfl dX4_count_88 ?_
        exact jk_iret hx hb hr hlocks hP hS (by unfold rX4_count; rw [if_pos c_1, if_neg c_20_0, if_pos c_20_1]) rfl dX4_count_91
      · by_cases c_20_2 : vw = 7
        · refine lv_tableIn (off := 72) (tgt := 92) hx hb dX4_count_20 (by rw [c_20_2]; decide) (by rw [c_20_2]; decide) (by rw [c_20_2]; rfl) (by decide) ?_
          refine lv_aload_n hx hb dX4_count_92 rfl (lv_at hl 0 rfl) ?_
          refine va_get (D := D) (ci := 4) (v := .ref (n 0)) (C := RX4) (T := TX4) (N := 6) hx hb hts hi_4 hown hK hP 0 rfl rfl 0 (by decide) hf_10 (fun _ h9 => h9) rfl dX4_count_93 ?_
          refine va_get (D := D) (ci := 2) (v := .int (jm_rv N)) (C := RX2) (T := TX2) (N := 13) hx hb hts hi_2 hown hK hP 1 rfl rfl 8 (by decide) hf_165 (fun _ h9 => h9) rfl dX4_count_96 ?_
          exact jk_iret hx hb hr hlocks hP hS (by unfold rX4_count; rw [if_pos c_1, if_neg c_20_0, if_neg c_20_1, if_pos c_20_2]) rfl dX4_count_99
        · by_cases c_20_3 : vw = 8
          · refine lv_tableIn (off := 80) (tgt := 100) hx hb dX4_count_20 (by rw [c_20_3]; decide) (by rw [c_20_3]; decide) (by rw [c_20_3]; rfl) (by decide) ?_
            refine lv_aload_n hx hb dX4_count_100 rfl (lv_at hl 0 rfl) ?_
            refine va_get (D := D) (ci := 4) (v := .ref (n 0)) (C := RX4) (T := TX4) (N := 6) hx hb hts hi_4 hown hK hP 0 rfl rfl 0 (by decide) hf_10 (fun _ h9 => h9) rfl dX4_count_101 ?_
            refine jk_callV (As := []) (rest := []) (ws1 := (List.flatten [(jo_X xx (n 0) (t 0) (h 0) (z 0) (d 0) (b 0)), (jm_W g n N), (jh_X g h p F Hs), (jp_W g b P)])) ⟨hx, hb, hml, hown, hts⟩ (c_X2_sign l D g n N) (cwV 0 hts gX4_count_X2_sign rfl rfl rfl (by decide +kernel) ⟨Nat.le_of_ble_eq_true rfl, Nat.le_of_ble_eq_true rfl⟩) (va_recv hK hP (ci := 2) (q0 := 1) rfl rfl) (show va_P D vwCl (jm_W g n N) H from jk_one.mp (jk_segSub (L := [(jo_X xx (n 0) (t 0) (h 0) (z 0) (d 0) (b 0)), (jm_W g n N), (jh_X g h p F Hs), (jp_W g b P)]) hP [1])) (show va_D A (jm_W g n N) from jk_oneD.mp (jk_segSubD (L := [(jo_X xx (n 0) (t 0) (h 0) (z 0) (d 0) (b 0)), (jm_W g n N), (jh_X g h p F Hs), (jp_W g b P)]) hD [1] (by decide))) hK hN rfl hl rfl (Nat.le_of_ble_eq_true rfl) dX4_count_104 ⟨Nat.zero_le _, Nat.zero_le _⟩ hS hA (jk_seg1 (L := [(jo_X xx (n 0) (t 0) (h 0) (z 0) (d 0) (b 0)), (jm_W g n N), (jh_X g h p F Hs), (jp_W g b P)]) (L' := [(jo_X xx (n 0) (t 0) (h 0) (z 0) (d 0) (b 0)), (jm_W g n N), (jh_X g h p F Hs), (jp_W g b P)]) (T := (jm_W g n N)) hP hD 1 [(false, 0), (true, 0), (false, 2), (false, 3)] (by decide) rfl) (fun H locs hP hS => ?_)
            refine W.eq (g2 := F0 m 107 ls [.int (rX2_sign N)]) rfl ?_
            refine lv_topi (fun x1 ex1 => ?_)
            have qex1 := ex1.symm; subst qex1
            exact jk_iret hx hb hr hlocks hP hS (by unfold rX4_count; rw [if_pos c_1, if_neg c_20_0, if_neg c_20_1, if_neg c_20_2, if_pos c_20_3]) rfl dX4_count_107
          · by_cases c_20_4 : vw = 9
            · refine lv_tableIn (off := 88) (tgt := 108) hx hb dX4_count_20 (by rw [c_20_4]; decide) (by rw [c_20_4]; decide) (by rw [c_20_4]; rfl) (by decide) ?_
              refine lv_aload_n hx hb dX4_count_108 rfl (lv_at hl 0 rfl) ?_
              refine va_get (D := D) (ci := 4) (v := .ref (n 0)) (C := RX4) (T := TX4) (N := 6) hx hb hts hi_4 hown hK hP 0 rfl rfl 0 (by decide) hf_10 (fun _ h9 => h9) rfl dX4_count_109 ?_
              refine jk_callV (As := []) (rest := []) (ws1 := (List.flatten [(jo_X xx (n 0) (t 0) (h 0) (z 0) (d 0) (b 0)), (jm_W g n N), (jh_X g h p F Hs), (jp_W g b P)])) ⟨hx, hb, hml, hown, hts⟩ (c_X2_chargeOfAll l D g n N) (cwV 0 hts gX4_count_X2_chargeOfAll rfl rfl rfl (by decide +kernel) ⟨Nat.le_of_ble_eq_true rfl, Nat.le_of_ble_eq_true rfl⟩) (va_recv hK hP (ci := 2) (q0 := 1) rfl rfl) (show va_P D vwCl (jm_W g n N) H from jk_one.mp (jk_segSub (L := [(jo_X xx (n 0) (t 0) (h 0) (z 0) (d 0) (b 0)), (jm_W g n N), (jh_X g h p F Hs), (jp_W g b P)]) hP [1])) (show va_D A (jm_W g n N) from jk_oneD.mp (jk_segSubD (L := [(jo_X xx (n 0) (t 0) (h 0) (z 0) (d 0) (b 0)), (jm_W g n N), (jh_X g h p F Hs), (jp_W g b P)]) hD [1] (by decide))) hK hN rfl hl rfl (Nat.le_of_ble_eq_true rfl) dX4_count_112 ⟨Nat.zero_le _, Nat.zero_le _⟩ hS hA (jk_seg1 (L := [(jo_X xx (n 0) (t 0) (h 0) (z 0) (d 0) (b 0)), (jm_W g n N), (jh_X g h p F Hs), (jp_W g b P)]) (L' := [(jo_X xx (n 0) (t 0) (h 0) (z 0) (d 0) (b 0)), (jm_W g n N), (jh_X g h p F Hs), (jp_W g b P)]) (T := (jm_W g n N)) hP hD 1 [(false, 0), (true, 0), (false, 2), (false, 3)] (by decide) rfl) (fun H locs hP hS => ?_)
              refine W.eq (g2 := F0 m 115 ls [.int (rX2_chargeOfAll N)]) rfl ?_
              refine lv_topi (fun x2 ex2 => ?_)
              have qex2 := ex2.symm; subst qex2
              exact jk_iret hx hb hr hlocks hP hS (by unfold rX4_count; rw [if_pos c_1, if_neg c_20_0, if_neg c_20_1, if_neg c_20_2, if_neg c_20_3, if_pos c_20_4]) rfl dX4_count_115
            · by_cases c_20_5 : vw = 10
              · refine lv_tableIn (off := 96) (tgt := 116) hx hb dX4_count_20 (by rw [c_20_5]; decide) (by rw [c_20_5]; decide) (by rw [c_20_5]; rfl) (by decide) ?_
                refine lv_aload_n hx hb dX4_count_116 rfl (lv_at hl 0 rfl) ?_
                refine va_get (D := D) (ci := 4) (v := .ref (n 0)) (C := RX4) (T := TX4) (N := 6) hx hb hts hi_4 hown hK hP 0 rfl rfl 0 (by decide) hf_10 (fun _ h9 => h9) rfl dX4_count_117 ?_
                refine va_get (D := D) (ci := 2) (v := .int (jm_lk N)) (C := RX2) (T := TX2) (N := 13) hx hb hts hi_2 hown hK hP 1 rfl rfl 10 (by decide) hf_174 (fun _ h9 => h9) rfl dX4_count_120 ?_
                exact jk_iret hx hb hr hlocks hP hS (by unfold rX4_count; rw [if_pos c_1, if_neg c_20_0, if_neg c_20_1, if_neg c_20_2, if_neg c_20_3, if_neg c_20_4, if_pos c_20_5]) rfl dX4_count_123
              · by_cases c_20_6 : vw = 11
                · refine lv_tableIn (off := 104) (tgt := 124) hx hb dX4_count_20 (by rw [c_20_6]; decide) (by rw [c_20_6]; decide) (by rw [c_20_6]; rfl) (by decide) ?_
                  refine lv_aload_n hx hb dX4_count_124 rfl (lv_at hl 0 rfl) ?_
                  refine va_get (D := D) (ci := 4) (v := .ref (n 0)) (C := RX4) (T := TX4) (N := 6) hx hb hts hi_4 hown hK hP 0 rfl rfl 0 (by decide) hf_10 (fun _ h9 => h9) rfl dX4_count_125 ?_
                  refine va_get (D := D) (ci := 2) (v := .int (jm_po N)) (C := RX2) (T := TX2) (N := 13) hx hb hts hi_2 hown hK hP 1 rfl rfl 11 (by decide) hf_177 (fun _ h9 => h9) rfl dX4_count_128 ?_
                  exact jk_iret hx hb hr hlocks hP hS (by unfold rX4_count; rw [if_pos c_1, if_neg c_20_0, if_neg c_20_1, if_neg c_20_2, if_neg c_20_3, if_neg c_20_4, if_neg c_20_5, if_pos c_20_6]) rfl dX4_count_131
                · by_cases c_20_7 : vw = 12
                  · refine lv_tableIn (off := 112) (tgt := 132) hx hb dX4_count_20 (by rw [c_20_7]; decide) (by rw [c_20_7]; decide) (by rw [c_20_7]; rfl) (by decide) ?_
                    refine lv_aload_n hx hb dX4_count_132 rfl (lv_at hl 0 rfl) ?_
                    refine va_get (D := D) (ci := 4) (v := .ref (n 0)) (C := RX4) (T := TX4) (N := 6) hx hb hts hi_4 hown hK hP 0 rfl rfl 0 (by decide) hf_10 (fun _ h9 => h9) rfl dX4_count_133 ?_
                    refine va_get (D := D) (ci := 2) (v := .int (jm_to N)) (C := RX2) (T := TX2) (N := 13) hx hb hts hi_2 hown hK hP 1 rfl rfl 12 (by decide) hf_180 (fun _ h9 => h9) rfl dX4_count_136 ?_
                    exact jk_iret hx hb hr hlocks hP hS (by unfold rX4_count; rw [if_pos c_1, if_neg c_20_0, if_neg c_20_1, if_neg c_20_2, if_neg c_20_3, if_neg c_20_4, if_neg c_20_5, if_neg c_20_6, if_pos c_20_7]) rfl dX4_count_139
                  · by_cases c_20_8 : vw = 13
                    · refine lv_tableIn (off := 120) (tgt := 140) hx hb dX4_count_20 (by rw [c_20_8]; decide) (by rw [c_20_8]; decide) (by rw [c_20_8]; rfl) (by decide) ?_
                      refine lv_aload_n hx hb dX4_count_140 rfl (lv_at hl 0 rfl) ?_
                      refine va_get (D := D) (ci := 4) (v := .ref (b 0)) (C := RX4) (T := TX4) (N := 6) hx hb hts hi_4 hown hK hP 0 rfl rfl 5 (by decide) hf_41 (fun _ h9 => h9) rfl dX4_count_141 ?_
                      refine va_get (D := D) (ci := 3) (v := .int (jp_ln P)) (C := RX3) (T := TX3) (N := 2) hx hb hts hi_3 hown hK hP 10 rfl rfl 1 (by decide) hf_183 (fun _ h9 => h9) rfl dX4_count_144 ?_
                      exact jk_iret hx hb hr hlocks hP hS (by unfold rX4_count; rw [if_pos c_1, if_neg c_20_0, if_neg c_20_1, if_neg c_20_2, if_neg c_20_3, if_neg c_20_4, if_neg c_20_5, if_neg c_20_6, if_neg c_20_7, if_pos c_20_8]) rfl dX4_count_147
                    · by_cases c_20_9 : vw = 14
                      · refine lv_tableIn (off := 128) (tgt := 148) hx hb dX4_count_20 (by rw [c_20_9]; decide) (by rw [c_20_9]; decide) (by rw [c_20_9]; rfl) (by decide) ?_
                        refine lv_aload_n hx hb dX4_count_148 rfl (lv_at hl 0 rfl) ?_
                        refine va_get (D := D) (ci := 4) (v := .ref (h 0)) (C := RX4) (T := TX4) (N := 6) hx hb hts hi_4 hown hK hP 0 rfl rfl 2 (by decide) hf_22 (fun _ h9 => h9) rfl dX4_count_149 ?_
                        refine va_get (D := D) (ci := 1) (v := .int (jh_sz Hs)) (C := RX1) (T := TX1) (N := 3) hx hb hts hi_1 hown hK hP 8 rfl rfl 2 (by decide) hf_186 (fun _ h9 => h9) rfl dX4_count_152 ?_
                        exact jk_iret hx hb hr hlocks hP hS (by unfold rX4_count; rw [if_pos c_1, if_neg c_20_0, if_neg c_20_1, if_neg c_20_2, if_neg c_20_3, if_neg c_20_4, if_neg c_20_5, if_neg c_20_6, if_neg c_20_7, if_neg c_20_8, if_pos c_20_9]) rfl dX4_count_155
                      · refine lv_tableOut (tgt := 156) hx hb dX4_count_20 (by have q0 := lv_neT (a := 5) c_20_0 (by decide); have q1 := lv_neT (a := 6) c_20_1 (by decide); have q2 := lv_neT (a := 7) c_20_2 (by decide); have q3 := lv_neT (a := 8) c_20_3 (by decide); have q4 := lv_neT (a := 9) c_20_4 (by decide); have q5 := lv_neT (a := 10) c_20_5 (by decide); have q6 := lv_neT (a := 11) c_20_6 (by decide); have q7 := lv_neT (a := 12) c_20_7 (by decide); have q8 := lv_neT (a := 13) c_20_8 (by decide); have q9 := lv_neT (a := 14) c_20_9 (by decide); omega) (by decide) ?_
                        refine lv_ldc hx hb hown hk_42 dX4_count_156 ?_
                        exact jk_iret hx hb hr hlocks hP hS (by unfold rX4_count; rw [if_pos c_1, if_neg c_20_0, if_neg c_20_1, if_neg c_20_2, if_neg c_20_3, if_neg c_20_4, if_neg c_20_5, if_neg c_20_6, if_neg c_20_7, if_neg c_20_8, if_neg c_20_9]) rfl dX4_count_158
  · refine lv_iload_n hx hb dX4_count_4 rfl (lv_at hl 1 rfl) ?_
    refine lv_iconst (v := 5) hx hb dX4_count_5 (by decide) ?_
    refine lv_icmp_ge (tgt := 19) hx hb dX4_count_6 (by decide) (fun c_6 => ?_) (fun c_6 => ?_)
    · refine lv_iload_n hx hb dX4_count_19 rfl (lv_at hl 1 rfl) ?_
      by_cases c_20_0 : vw = 5
      · refine lv_tableIn (off := 56) (tgt := 76) hx hb dX4_count_20 (by rw [c_20_0]; decide) (by rw [c_20_0]; decide) (by rw [c_20_0]; rfl) (by decide) ?_
        refine lv_aload_n hx hb dX4_count_76 rfl (lv_at hl 0 rfl) ?_
        refine va_get (D := D) (ci := 4) (v := .ref (n 0)) (C := RX4) (T := TX4) (N := 6) hx hb hts hi_4 hown hK hP 0 rfl rfl 0 (by decide) hf_10 (fun _ h9 => h9) rfl dX4_count_77 ?_
        refine va_get (D := D) (ci := 2) (v := .int (jm_tu N)) (C := RX2) (T := TX2) (N := 13) hx hb hts hi_2 hown hK hP 1 rfl rfl 6 (by decide) hf_131 (fun _ h9 => h9) rfl dX4_count_80 ?_
        exact jk_iret hx hb hr hlocks hP hS (by unfold rX4_count; rw [if_neg c_1, if_pos c_6, if_pos c_20_0]) rfl dX4_count_83
      · by_cases c_20_1 : vw = 6
        · refine lv_tableIn (off := 64) (tgt := 84) hx hb dX4_count_20 (by rw [c_20_1]; decide) (by rw [c_20_1]; decide) (by rw [c_20_1]; rfl) (by decide) ?_
          refine lv_aload_n hx hb dX4_count_84 rfl (lv_at hl 0 rfl) ?_
          refine va_get (D := D) (ci := 4) (v := .ref (n 0)) (C := RX4) (T := TX4) (N := 6) hx hb hts hi_4 hown hK hP 0 rfl rfl 0 (by decide) hf_10 (fun _ h9 => h9) rfl dX4_count_85 ?_
          refine va_get (D := D) (ci := 2) (v := .int (jm_sp N)) (C := RX2) (T := TX2) (N := 13) hx hb hts hi_2 hown hK hP 1 rfl rfl 7 (by decide) hf_93 (fun _ h9 => h9) rfl dX4_count_88 ?_
          exact jk_iret hx hb hr hlocks hP hS (by unfold rX4_count; rw [if_neg c_1, if_pos c_6, if_neg c_20_0, if_pos c_20_1]) rfl dX4_count_91
        · by_cases c_20_2 : vw = 7
          · refine lv_tableIn (off := 72) (tgt := 92) hx hb dX4_count_20 (by rw [c_20_2]; decide) (by rw [c_20_2]; decide) (by rw [c_20_2]; rfl) (by decide) ?_
            refine lv_aload_n hx hb dX4_count_92 rfl (lv_at hl 0 rfl) ?_
            refine va_get (D := D) (ci := 4) (v := .ref (n 0)) (C := RX4) (T := TX4) (N := 6) hx hb hts hi_4 hown hK hP 0 rfl rfl 0 (by decide) hf_10 (fun _ h9 => h9) rfl dX4_count_93 ?_
            refine va_get (D := D) (ci := 2) (v := .int (jm_rv N)) (C := RX2) (T := TX2) (N := 13) hx hb hts hi_2 hown hK hP 1 rfl rfl 8 (by decide) hf_165 (fun _ h9 => h9) rfl dX4_count_96 ?_
            exact jk_iret hx hb hr hlocks hP hS (by unfold rX4_count; rw [if_neg c_1, if_pos c_6, if_neg c_20_0, if_neg c_20_1, if_pos c_20_2]) rfl dX4_count_99
          · by_cases c_20_3 : vw = 8
            · refine lv_tableIn (off := 80) (tgt := 100) hx hb dX4_count_20 (by rw [c_20_3]; decide) (by rw [c_20_3]; decide) (by rw [c_20_3]; rfl) (by decide) ?_
              refine lv_aload_n hx hb dX4_count_100 rfl (lv_at hl 0 rfl) ?_
              refine va_get (D := D) (ci := 4) (v := .ref (n 0)) (C := RX4) (T := TX4) (N := 6) hx hb hts hi_4 hown hK hP 0 rfl rfl 0 (by decide) hf_10 (fun _ h9 => h9) rfl dX4_count_101 ?_
              refine jk_callV (As := []) (rest := []) (ws1 := (List.flatten [(jo_X xx (n 0) (t 0) (h 0) (z 0) (d 0) (b 0)), (jm_W g n N), (jh_X g h p F Hs), (jp_W g b P)])) ⟨hx, hb, hml, hown, hts⟩ (c_X2_sign l D g n N) (cwV 0 hts gX4_count_X2_sign rfl rfl rfl (by decide +kernel) ⟨Nat.le_of_ble_eq_true rfl, Nat.le_of_ble_eq_true rfl⟩) (va_recv hK hP (ci := 2) (q0 := 1) rfl rfl) (show va_P D vwCl (jm_W g n N) H from jk_one.mp (jk_segSub (L := [(jo_X xx (n 0) (t 0) (h 0) (z 0) (d 0) (b 0)), (jm_W g n N), (jh_X g h p F Hs), (jp_W g b P)]) hP [1])) (show va_D A (jm_W g n N) from jk_oneD.mp (jk_segSubD (L := [(jo_X xx (n 0) (t 0) (h 0) (z 0) (d 0) (b 0)), (jm_W g n N), (jh_X g h p F Hs), (jp_W g b P)]) hD [1] (by decide))) hK hN rfl hl rfl (Nat.le_of_ble_eq_true rfl) dX4_count_104 ⟨Nat.zero_le _, Nat.zero_le _⟩ hS hA (jk_seg1 (L := [(jo_X xx (n 0) (t 0) (h 0) (z 0) (d 0) (b 0)), (jm_W g n N), (jh_X g h p F Hs), (jp_W g b P)]) (L' := [(jo_X xx (n 0) (t 0) (h 0) (z 0) (d 0) (b 0)), (jm_W g n N), (jh_X g h p F Hs), (jp_W g b P)]) (T := (jm_W g n N)) hP hD 1 [(false, 0), (true, 0), (false, 2), (false, 3)] (by decide) rfl) (fun H locs hP hS => ?_)
              refine W.eq (g2 := F0 m 107 ls [.int (rX2_sign N)]) rfl ?_
              refine lv_topi (fun x3 ex3 => ?_)
              have qex3 := ex3.symm; subst qex3
              exact jk_iret hx hb hr hlocks hP hS (by unfold rX4_count; rw [if_neg c_1, if_pos c_6, if_neg c_20_0, if_neg c_20_1, if_neg c_20_2, if_pos c_20_3]) rfl dX4_count_107
            · by_cases c_20_4 : vw = 9
              · refine lv_tableIn (off := 88) (tgt := 108) hx hb dX4_count_20 (by rw [c_20_4]; decide) (by rw [c_20_4]; decide) (by rw [c_20_4]; rfl) (by decide) ?_
                refine lv_aload_n hx hb dX4_count_108 rfl (lv_at hl 0 rfl) ?_
                refine va_get (D := D) (ci := 4) (v := .ref (n 0)) (C := RX4) (T := TX4) (N := 6) hx hb hts hi_4 hown hK hP 0 rfl rfl 0 (by decide) hf_10 (fun _ h9 => h9) rfl dX4_count_109 ?_
                refine jk_callV (As := []) (rest := []) (ws1 := (List.flatten [(jo_X xx (n 0) (t 0) (h 0) (z 0) (d 0) (b 0)), (jm_W g n N), (jh_X g h p F Hs), (jp_W g b P)])) ⟨hx, hb, hml, hown, hts⟩ (c_X2_chargeOfAll l D g n N) (cwV 0 hts gX4_count_X2_chargeOfAll rfl rfl rfl (by decide +kernel) ⟨Nat.le_of_ble_eq_true rfl, Nat.le_of_ble_eq_true rfl⟩) (va_recv hK hP (ci := 2) (q0 := 1) rfl rfl) (show va_P D vwCl (jm_W g n N) H from jk_one.mp (jk_segSub (L := [(jo_X xx (n 0) (t 0) (h 0) (z 0) (d 0) (b 0)), (jm_W g n N), (jh_X g h p F Hs), (jp_W g b P)]) hP [1])) (show va_D A (jm_W g n N) from jk_oneD.mp (jk_segSubD (L := [(jo_X xx (n 0) (t 0) (h 0) (z 0) (d 0) (b 0)), (jm_W g n N), (jh_X g h p F Hs), (jp_W g b P)]) hD [1] (by decide))) hK hN rfl hl rfl (Nat.le_of_ble_eq_true rfl) dX4_count_112 ⟨Nat.zero_le _, Nat.zero_le _⟩ hS hA (jk_seg1 (L := [(jo_X xx (n 0) (t 0) (h 0) (z 0) (d 0) (b 0)), (jm_W g n N), (jh_X g h p F Hs), (jp_W g b P)]) (L' := [(jo_X xx (n 0) (t 0) (h 0) (z 0) (d 0) (b 0)), (jm_W g n N), (jh_X g h p F Hs), (jp_W g b P)]) (T := (jm_W g n N)) hP hD 1 [(false, 0), (true, 0), (false, 2), (false, 3)] (by decide) rfl) (fun H locs hP hS => ?_)
                refine W.eq (g2 := F0 m 115 ls [.int (rX2_chargeOfAll N)]) rfl ?_
                refine lv_topi (fun x4 ex4 => ?_)
                have qex4 := ex4.symm; subst qex4
                exact jk_iret hx hb hr hlocks hP hS (by unfold rX4_count; rw [if_neg c_1, if_pos c_6, if_neg c_20_0, if_neg c_20_1, if_neg c_20_2, if_neg c_20_3, if_pos c_20_4]) rfl dX4_count_115
              · by_cases c_20_5 : vw = 10
                · refine lv_tableIn (off := 96) (tgt := 116) hx hb dX4_count_20 (by rw [c_20_5]; decide) (by rw [c_20_5]; decide) (by rw [c_20_5]; rfl) (by decide) ?_
                  refine lv_aload_n hx hb dX4_count_116 rfl (lv_at hl 0 rfl) ?_
                  refine va_get (D := D) (ci := 4) (v := .ref (n 0)) (C := RX4) (T := TX4) (N := 6) hx hb hts hi_4 hown hK hP 0 rfl rfl 0 (by decide) hf_10 (fun _ h9 => h9) rfl dX4_count_117 ?_
                  refine va_get (D := D) (ci := 2) (v := .int (jm_lk N)) (C := RX2) (T := TX2) (N := 13) hx hb hts hi_2 hown hK hP 1 rfl rfl 10 (by decide) hf_174 (fun _ h9 => h9) rfl dX4_count_120 ?_
                  exact jk_iret hx hb hr hlocks hP hS (by unfold rX4_count; rw [if_neg c_1, if_pos c_6, if_neg c_20_0, if_neg c_20_1, if_neg c_20_2, if_neg c_20_3, if_neg c_20_4, if_pos c_20_5]) rfl dX4_count_123
                · by_cases c_20_6 : vw = 11
                  · refine lv_tableIn (off := 104) (tgt := 124) hx hb dX4_count_20 (by rw [c_20_6]; decide) (by rw [c_20_6]; decide) (by rw [c_20_6]; rfl) (by decide) ?_
                    refine lv_aload_n hx hb dX4_count_124 rfl (lv_at hl 0 rfl) ?_
                    refine va_get (D := D) (ci := 4) (v := .ref (n 0)) (C := RX4) (T := TX4) (N := 6) hx hb hts hi_4 hown hK hP 0 rfl rfl 0 (by decide) hf_10 (fun _ h9 => h9) rfl dX4_count_125 ?_
                    refine va_get (D := D) (ci := 2) (v := .int (jm_po N)) (C := RX2) (T := TX2) (N := 13) hx hb hts hi_2 hown hK hP 1 rfl rfl 11 (by decide) hf_177 (fun _ h9 => h9) rfl dX4_count_128 ?_
                    exact jk_iret hx hb hr hlocks hP hS (by unfold rX4_count; rw [if_neg c_1, if_pos c_6, if_neg c_20_0, if_neg c_20_1, if_neg c_20_2, if_neg c_20_3, if_neg c_20_4, if_neg c_20_5, if_pos c_20_6]) rfl dX4_count_131
                  · by_cases c_20_7 : vw = 12
                    · refine lv_tableIn (off := 112) (tgt := 132) hx hb dX4_count_20 (by rw [c_20_7]; decide) (by rw [c_20_7]; decide) (by rw [c_20_7]; rfl) (by decide) ?_
                      refine lv_aload_n hx hb dX4_count_132 rfl (lv_at hl 0 rfl) ?_
                      refine va_get (D := D) (ci := 4) (v := .ref (n 0)) (C := RX4) (T := TX4) (N := 6) hx hb hts hi_4 hown hK hP 0 rfl rfl 0 (by decide) hf_10 (fun _ h9 => h9) rfl dX4_count_133 ?_
                      refine va_get (D := D) (ci := 2) (v := .int (jm_to N)) (C := RX2) (T := TX2) (N := 13) hx hb hts hi_2 hown hK hP 1 rfl rfl 12 (by decide) hf_180 (fun _ h9 => h9) rfl dX4_count_136 ?_
                      exact jk_iret hx hb hr hlocks hP hS (by unfold rX4_count; rw [if_neg c_1, if_pos c_6, if_neg c_20_0, if_neg c_20_1, if_neg c_20_2, if_neg c_20_3, if_neg c_20_4, if_neg c_20_5, if_neg c_20_6, if_pos c_20_7]) rfl dX4_count_139
                    · by_cases c_20_8 : vw = 13
                      · refine lv_tableIn (off := 120) (tgt := 140) hx hb dX4_count_20 (by rw [c_20_8]; decide) (by rw [c_20_8]; decide) (by rw [c_20_8]; rfl) (by decide) ?_
                        refine lv_aload_n hx hb dX4_count_140 rfl (lv_at hl 0 rfl) ?_
                        refine va_get (D := D) (ci := 4) (v := .ref (b 0)) (C := RX4) (T := TX4) (N := 6) hx hb hts hi_4 hown hK hP 0 rfl rfl 5 (by decide) hf_41 (fun _ h9 => h9) rfl dX4_count_141 ?_
                        refine va_get (D := D) (ci := 3) (v := .int (jp_ln P)) (C := RX3) (T := TX3) (N := 2) hx hb hts hi_3 hown hK hP 10 rfl rfl 1 (by decide) hf_183 (fun _ h9 => h9) rfl dX4_count_144 ?_
                        exact jk_iret hx hb hr hlocks hP hS (by unfold rX4_count; rw [if_neg c_1, if_pos c_6, if_neg c_20_0, if_neg c_20_1, if_neg c_20_2, if_neg c_20_3, if_neg c_20_4, if_neg c_20_5, if_neg c_20_6, if_neg c_20_7, if_pos c_20_8]) rfl dX4_count_147
                      · by_cases c_20_9 : vw = 14
                        · refine lv_tableIn (off := 128) (tgt := 148) hx hb dX4_count_20 (by rw [c_20_9]; decide) (by rw [c_20_9]; decide) (by rw [c_20_9]; rfl) (by decide) ?_
                          refine lv_aload_n hx hb dX4_count_148 rfl (lv_at hl 0 rfl) ?_
                          refine va_get (D := D) (ci := 4) (v := .ref (h 0)) (C := RX4) (T := TX4) (N := 6) hx hb hts hi_4 hown hK hP 0 rfl rfl 2 (by decide) hf_22 (fun _ h9 => h9) rfl dX4_count_149 ?_
                          refine va_get (D := D) (ci := 1) (v := .int (jh_sz Hs)) (C := RX1) (T := TX1) (N := 3) hx hb hts hi_1 hown hK hP 8 rfl rfl 2 (by decide) hf_186 (fun _ h9 => h9) rfl dX4_count_152 ?_
                          exact jk_iret hx hb hr hlocks hP hS (by unfold rX4_count; rw [if_neg c_1, if_pos c_6, if_neg c_20_0, if_neg c_20_1, if_neg c_20_2, if_neg c_20_3, if_neg c_20_4, if_neg c_20_5, if_neg c_20_6, if_neg c_20_7, if_neg c_20_8, if_pos c_20_9]) rfl dX4_count_155
                        · refine lv_tableOut (tgt := 156) hx hb dX4_count_20 (by have q0 := lv_neT (a := 5) c_20_0 (by decide); have q1 := lv_neT (a := 6) c_20_1 (by decide); have q2 := lv_neT (a := 7) c_20_2 (by decide); have q3 := lv_neT (a := 8) c_20_3 (by decide); have q4 := lv_neT (a := 9) c_20_4 (by decide); have q5 := lv_neT (a := 10) c_20_5 (by decide); have q6 := lv_neT (a := 11) c_20_6 (by decide); have q7 := lv_neT (a := 12) c_20_7 (by decide); have q8 := lv_neT (a := 13) c_20_8 (by decide); have q9 := lv_neT (a := 14) c_20_9 (by decide); omega) (by decide) ?_
                          refine lv_ldc hx hb hown hk_42 dX4_count_156 ?_
                          exact jk_iret hx hb hr hlocks hP hS (by unfold rX4_count; rw [if_neg c_1, if_pos c_6, if_neg c_20_0, if_neg c_20_1, if_neg c_20_2, if_neg c_20_3, if_neg c_20_4, if_neg c_20_5, if_neg c_20_6, if_neg c_20_7, if_neg c_20_8, if_neg c_20_9]) rfl dX4_count_158
    · refine lv_aload_n hx hb dX4_count_9 rfl (lv_at hl 0 rfl) ?_
      refine va_get (D := D) (ci := 4) (v := .ref (n 0)) (C := RX4) (T := TX4) (N := 6) hx hb hts hi_4 hown hK hP 0 rfl rfl 0 (by decide) hf_10 (fun _ h9 => h9) rfl dX4_count_10 ?_
      refine va_get (D := D) (ci := 2) (v := .ref (n 1)) (C := RX2) (T := TX2) (N := 13) hx hb hts hi_2 hown hK hP 1 rfl rfl 0 (by decide) hf_59 (fun _ h9 => h9) rfl dX4_count_13 ?_
      refine lv_iload_n hx hb dX4_count_16 rfl (lv_at hl 1 rfl) ?_
      refine va_iald (f := (jm_se N)) hx hb hK hP 2 0 rfl rfl (j2_in c_1 (j2_lt c_6) (by decide)) dX4_count_17 ?_
      exact jk_iret hx hb hr hlocks hP hS (by unfold rX4_count; rw [if_neg c_1, if_neg c_6]) rfl dX4_count_18
