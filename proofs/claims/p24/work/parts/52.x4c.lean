def rX4_touch (N : jm_T) (Hs : jh_T) (F : jf_T) (vd : Int32) (vq : Int32) (vx : Int32) : Int32 := let x1 : Int32 := rX4_isNoDisc vd; if x1 = 0 then (let x2 : Int32 := rX4_isNoPlace vq; if x2 = 0 then (if vx < (-99) then ((-1000002)) else (if vx ≤ 99 then (let S3 : jh_T := jh_rec Hs; let S4 : jf_T := jf_u F (jh_ix Hs).toNatClampNeg N; let S6 : jm_T := sX2_putCharge N vd vq vx; let x7 : Int32 := rX2_putCharge N vd vq vx; x7) else ((-1000002)))) else ((-1000001))) else ((-1000001))
def sX4_touch_1 (N : jm_T) (Hs : jh_T) (F : jf_T) (vd : Int32) (vq : Int32) (vx : Int32) : jm_T := let x1 : Int32 := rX4_isNoDisc vd; if x1 = 0 then (let x2 : Int32 := rX4_isNoPlace vq; if x2 = 0 then (if vx < (-99) then (N) else (if vx ≤ 99 then (let S3 : jh_T := jh_rec Hs; let S4 : jf_T := jf_u F (jh_ix Hs).toNatClampNeg N; let S6 : jm_T := sX2_putCharge N vd vq vx; let x7 : Int32 := rX2_putCharge N vd vq vx; S6) else (N))) else (N)) else (N)
def sX4_touch_2 (N : jm_T) (Hs : jh_T) (F : jf_T) (vd : Int32) (vq : Int32) (vx : Int32) : jh_T := let x1 : Int32 := rX4_isNoDisc vd; if x1 = 0 then (let x2 : Int32 := rX4_isNoPlace vq; if x2 = 0 then (if vx < (-99) then (Hs) else (if vx ≤ 99 then (let S3 : jh_T := jh_rec Hs; let S4 : jf_T := jf_u F (jh_ix Hs).toNatClampNeg N; let S6 : jm_T := sX2_putCharge N vd vq vx; let x7 : Int32 := rX2_putCharge N vd vq vx; S3) else (Hs))) else (Hs)) else (Hs)
def sX4_touch_3 (N : jm_T) (Hs : jh_T) (F : jf_T) (vd : Int32) (vq : Int32) (vx : Int32) : jf_T := let x1 : Int32 := rX4_isNoDisc vd; if x1 = 0 then (let x2 : Int32 := rX4_isNoPlace vq; if x2 = 0 then (if vx < (-99) then (F) else (if vx ≤ 99 then (let S3 : jh_T := jh_rec Hs; let S4 : jf_T := jf_u F (jh_ix Hs).toNatClampNeg N; let S6 : jm_T := sX2_putCharge N vd vq vx; let x7 : Int32 := rX2_putCharge N vd vq vx; S4) else (F))) else (F)) else (F)
set_option maxHeartbeats 1000000 in
set_option maxRecDepth 100000 in
theorem c_X4_touch (l : Launch) (D : va_G) (g : jk_G) (xx : Nat → Nat) (n : Nat → Nat) (t : Nat → Nat) (h : Nat → Nat) (z : Nat → Nat) (d : Nat → Nat) (b : Nat → Nat) (N : jm_T) (p : (Nat → Nat → Nat)) (F : jf_T) (Hs : jh_T) (vd : Int32) (vq : Int32) (vx : Int32)  : jk_C l D g jk_noZ yX4_touch wsX4_touch 4 125 7 72 [.ref (xx 0), .int vd, .int vq, .int vx] (List.flatten [(jo_X xx (n 0) (t 0) (h 0) (z 0) (d 0) (b 0)), (jm_W g n N), (jh_X g h p F Hs), (jf_X g 6 p F)]) (some (.int (rX4_touch N Hs F vd vq vx))) (fun o : Nat → Nat → Nat => (List.flatten [(jo_X xx (n 0) (t 0) (h 0) (z 0) (d 0) (b 0)), (jm_W g n (sX4_touch_1 N Hs F vd vq vx)), (jh_X g h o (sX4_touch_3 N Hs F vd vq vx) (sX4_touch_2 N Hs F vd vq vx)), (jf_X g 6 o (sX4_touch_3 N Hs F vd vq vx))])) := by
  refine jk_ofC (cc := cX4_touch) (maxL := 4) (ret := (some .int)) (by decide +kernel) rfl (Nat.le_of_ble_eq_true rfl) ?_
  intro pp e s m args below meth c hx hb hr hml hts hown hlocks hin hK hN A H locs hZ hsH hP hD hA hS ls hl
  have hown : s.vm.findClass RX4 = some m.cls := hown
  have hl : lv_has ls 4 [(0, .ref (xx 0)), (1, .int vd), (2, .int vq), (3, .int vx)] := hl
  have hDu : ∀ (z1 : jm_T) (z2 : jh_T), va_D A (List.flatten [(jo_X xx (n 0) (t 0) (h 0) (z 0) (d 0) (b 0)), (jm_W g n z1), (jh_X g h p F z2), (jf_X g 6 p F)]) := fun z1 z2 => jk_D.same hD rfl
  have hk_69 := hts (.constant RX4 69 (-1000001)) (by decide +kernel)
  have hk_42 := hts (.constant RX4 42 (-1000002)) (by decide +kernel)
  have hf_22 := hts (.fieldLink RX4 22 "InfluenceJars" "history" "LInfluenceJars$History;") (by decide +kernel)
  have hi_4 : ∀ w ∈ u_ws RX4 TX4 6, w ∈ wsX4_touch := by decide +kernel
  have hf_10 := hts (.fieldLink RX4 10 "InfluenceJars" "now" "LInfluenceJars$Machine;") (by decide +kernel)
  refine lv_iload_n hx hb dX4_touch_0 rfl (lv_at hl 1 rfl) ?_
  refine jk_callS (As := [.int vd]) (rest := []) (ws1 := (List.flatten [(jo_X xx (n 0) (t 0) (h 0) (z 0) (d 0) (b 0)), (jm_W g n N), (jh_X g h p F Hs), (jf_X g 6 p F)])) ⟨hx, hb, hml, hown, hts⟩ (c_X4_isNoDisc l D g vd) (va_cwS 1 hts gX4_touch_X4_isNoDisc rfl rfl rfl (by decide +kernel) ⟨Nat.le_of_ble_eq_true rfl, Nat.le_of_ble_eq_true rfl⟩) jk_nilP (jk_nilD (A := A)) hK hN rfl hl rfl (Nat.le_of_ble_eq_true rfl) dX4_touch_1 ⟨Nat.le_of_ble_eq_true rfl, Nat.le_of_ble_eq_true rfl⟩ hS hA (fun _ _ hk => jk_keep hP hk) (fun H locs hP hS => ?_)
  refine W.eq (g2 := F0 m 4 ls [.int (rX4_isNoDisc vd)]) rfl ?_
  refine lv_topi (fun x1 ex1 => ?_)
  refine lv_if_ne (tgt := 14) hx hb dX4_touch_4 (by decide) (fun c_4 => ?_) (fun c_4 => ?_)
  · refine lv_ldc hx hb hown hk_69 dX4_touch_14 ?_
    have qex1 := ex1.symm; subst qex1
    have es1 : N = sX4_touch_1 N Hs F vd vq vx := (by unfold sX4_touch_1; rw [if_neg c_4])
    have es2 : Hs = sX4_touch_2 N Hs F vd vq vx := (by unfold sX4_touch_2; rw [if_neg c_4])
    have es3 : F = sX4_touch_3 N Hs F vd vq vx := (by unfold sX4_touch_3; rw [if_neg c_4])
    exact jk_iretC p hx hb hr hlocks hP hD hS (Nat.le_of_ble_eq_true rfl) (Nat.le_of_ble_eq_true rfl) (by unfold rX4_touch; rw [if_neg c_4]) (jk_cg3 (fun z1 z2 z3 => (List.flatten [(jo_X xx (n 0) (t 0) (h 0) (z 0) (d 0) (b 0)), (jm_W g n z1), (jh_X g h p z3 z2), (jf_X g 6 p z3)])) es1 es2 es3) dX4_touch_16
  · refine lv_iload_n hx hb dX4_touch_7 rfl (lv_at hl 2 rfl) ?_
    refine jk_callS (As := [.int vq]) (rest := []) (ws1 := (List.flatten [(jo_X xx (n 0) (t 0) (h 0) (z 0) (d 0) (b 0)), (jm_W g n N), (jh_X g h p F Hs), (jf_X g 6 p F)])) ⟨hx, hb, hml, hown, hts⟩ (c_X4_isNoPlace l D g vq) (va_cwS 1 hts gX4_touch_X4_isNoPlace rfl rfl rfl (by decide +kernel) ⟨Nat.le_of_ble_eq_true rfl, Nat.le_of_ble_eq_true rfl⟩) jk_nilP (jk_nilD (A := A)) hK hN rfl hl rfl (Nat.le_of_ble_eq_true rfl) dX4_touch_8 ⟨Nat.le_of_ble_eq_true rfl, Nat.le_of_ble_eq_true rfl⟩ hS hA (fun _ _ hk => jk_keep hP hk) (fun H locs hP hS => ?_)
    refine W.eq (g2 := F0 m 11 ls [.int (rX4_isNoPlace vq)]) rfl ?_
    refine lv_topi (fun x2 ex2 => ?_)
    refine lv_if_eq (tgt := 17) hx hb dX4_touch_11 (by decide) (fun c_11 => ?_) (fun c_11 => ?_)
    · refine lv_iload_n hx hb dX4_touch_17 rfl (lv_at hl 3 rfl) ?_
      refine lv_bipush (v := (-99)) hx hb dX4_touch_18 (by decide) ?_
      refine lv_icmp_lt (tgt := 29) hx hb dX4_touch_20 (by decide) (fun c_20 => ?_) (fun c_20 => ?_)
      · refine lv_ldc hx hb hown hk_42 dX4_touch_29 ?_
        have qex2 := ex2.symm; subst qex2
        have qex1 := ex1.symm; subst qex1
        have es1 : N = sX4_touch_1 N Hs F vd vq vx := (by unfold sX4_touch_1; rw [if_pos c_4, if_pos c_11, if_pos c_20])
        have es2 : Hs = sX4_touch_2 N Hs F vd vq vx := (by unfold sX4_touch_2; rw [if_pos c_4, if_pos c_11, if_pos c_20])
        have es3 : F = sX4_touch_3 N Hs F vd vq vx := (by unfold sX4_touch_3; rw [if_pos c_4, if_pos c_11, if_pos c_20])
        exact jk_iretC p hx hb hr hlocks hP hD hS (Nat.le_of_ble_eq_true rfl) (Nat.le_of_ble_eq_true rfl) (by unfold rX4_touch; rw [if_pos c_4, if_pos c_11, if_pos c_20]) (jk_cg3 (fun z1 z2 z3 => (List.flatten [(jo_X xx (n 0) (t 0) (h 0) (z 0) (d 0) (b 0)), (jm_W g n z1), (jh_X g h p z3 z2), (jf_X g 6 p z3)])) es1 es2 es3) dX4_touch_31
      · refine lv_iload_n hx hb dX4_touch_23 rfl (lv_at hl 3 rfl) ?_
        refine lv_bipush (v := 99) hx hb dX4_touch_24 (by decide) ?_
        refine lv_icmp_le (tgt := 32) hx hb dX4_touch_26 (by decide) (fun c_26 => ?_) (fun c_26 => ?_)
        · refine lv_aload_n hx hb dX4_touch_32 rfl (lv_at hl 0 rfl) ?_
          refine va_get (D := D) (ci := 4) (v := .ref (h 0)) (C := RX4) (T := TX4) (N := 6) hx hb hts hi_4 hown hK hP 0 rfl rfl 2 (by decide) hf_22 (fun _ h9 => h9) rfl dX4_touch_33 ?_
          refine lv_aload_n hx hb dX4_touch_36 rfl (lv_at hl 0 rfl) ?_
          refine va_get (D := D) (ci := 4) (v := .ref (n 0)) (C := RX4) (T := TX4) (N := 6) hx hb hts hi_4 hown hK hP 0 rfl rfl 0 (by decide) hf_10 (fun _ h9 => h9) rfl dX4_touch_37 ?_
          obtain ⟨S3, eS3⟩ : ∃ z : jh_T, z = jh_rec Hs := ⟨_, rfl⟩
          obtain ⟨S4, eS4⟩ : ∃ z : jf_T, z = jf_u F (jh_ix Hs).toNatClampNeg N := ⟨_, rfl⟩
          have hDc := (show va_D A (List.flatten [(jh_X g h p F Hs), (jm_W g n N), (jf_X g 6 p F)]) from  (jk_segSubD (L := [(jo_X xx (n 0) (t 0) (h 0) (z 0) (d 0) (b 0)), (jm_W g n N), (jh_X g h p F Hs), (jf_X g 6 p F)]) hD [2, 1, 3] (by decide)))
          refine jk_callVC (As := [.ref (n 0)]) (rest := []) (ws1 := fun p5 => (List.flatten [(jo_X xx (n 0) (t 0) (h 0) (z 0) (d 0) (b 0)), (jm_W g n N), (jh_X g h p5 S4 S3), (jf_X g 6 p5 S4)])) ⟨hx, hb, hml, hown, hts⟩ (c_X1_record l D g h p F Hs n N) (fun _ _ _ _ _ h => h) (fun _ _ _ => trivial) (cwV 1 hts gX4_touch_X1_record rfl rfl rfl (by decide +kernel) ⟨Nat.le_of_ble_eq_true rfl, Nat.le_of_ble_eq_true rfl⟩) (va_recv hK hP (ci := 1) (q0 := 8) rfl rfl) (show va_P D vwCl (List.flatten [(jh_X g h p F Hs), (jm_W g n N), (jf_X g 6 p F)]) H from  (jk_segSub (L := [(jo_X xx (n 0) (t 0) (h 0) (z 0) (d 0) (b 0)), (jm_W g n N), (jh_X g h p F Hs), (jf_X g 6 p F)]) hP [2, 1, 3])) hDc hK hN rfl hl rfl (Nat.le_of_ble_eq_true rfl) dX4_touch_40 ⟨Nat.le_of_ble_eq_true rfl, Nat.le_of_ble_eq_true rfl⟩ hS hA (fun p5 => jk_seg (L := [(jo_X xx (n 0) (t 0) (h 0) (z 0) (d 0) (b 0)), (jm_W g n N), (jh_X g h p F Hs), (jf_X g 6 p F)]) (L' := [(jo_X xx (n 0) (t 0) (h 0) (z 0) (d 0) (b 0)), (jm_W g n N), (jh_X g h p5 S4 S3), (jf_X g 6 p5 S4)]) (T := [(jh_X g h p5 S4 S3), (jm_W g n N), (jf_X g 6 p5 S4)]) hP hD [2, 1, 3] [(false, 0), (true, 1), (true, 0), (true, 2)] (by rw [eS3, eS4]; try rfl) (by decide) rfl) (fun p5 => jk_segD (L := [(jo_X xx (n 0) (t 0) (h 0) (z 0) (d 0) (b 0)), (jm_W g n N), (jh_X g h p F Hs), (jf_X g 6 p F)]) (L' := [(jo_X xx (n 0) (t 0) (h 0) (z 0) (d 0) (b 0)), (jm_W g n N), (jh_X g h p5 S4 S3), (jf_X g 6 p5 S4)]) (T := [(jh_X g h p5 S4 S3), (jm_W g n N), (jf_X g 6 p5 S4)]) hP hD [2, 1, 3] [(false, 0), (true, 1), (true, 0), (true, 2)] (by rw [eS3, eS4]; try rfl) (by decide) (by decide) rfl (fun _ h => h) (jk_freeA hDc hS hA)) (fun p5 H locs hP hD hS => ?_)
          refine W.eq (g2 := F0 m 43 ls []) rfl ?_
          have hD : va_D A (List.flatten [(jo_X xx (n 0) (t 0) (h 0) (z 0) (d 0) (b 0)), (jm_W g n N), (jh_X g h p5 S4 S3), (jf_X g 6 p5 S4)]) := hD
          have hP : va_P D vwCl (List.flatten [(jo_X xx (n 0) (t 0) (h 0) (z 0) (d 0) (b 0)), (jm_W g n N), (jh_X g h p5 S4 S3), (jf_X g 6 p5 S4)]) H := hP
          have hDu : ∀ (z1 : jm_T) (z2 : jh_T), va_D A (List.flatten [(jo_X xx (n 0) (t 0) (h 0) (z 0) (d 0) (b 0)), (jm_W g n z1), (jh_X g h p5 S4 z2), (jf_X g 6 p5 S4)]) := fun z1 z2 => jk_D.same hD rfl
          refine lv_aload_n hx hb dX4_touch_43 rfl (lv_at hl 0 rfl) ?_
          refine va_get (D := D) (ci := 4) (v := .ref (n 0)) (C := RX4) (T := TX4) (N := 6) hx hb hts hi_4 hown hK hP 0 rfl rfl 0 (by decide) hf_10 (fun _ h9 => h9) rfl dX4_touch_44 ?_
          refine lv_iload_n hx hb dX4_touch_47 rfl (lv_at hl 1 rfl) ?_
          refine lv_iload_n hx hb dX4_touch_48 rfl (lv_at hl 2 rfl) ?_
          refine lv_iload_n hx hb dX4_touch_49 rfl (lv_at hl 3 rfl) ?_
          obtain ⟨S6, eS6⟩ : ∃ z : jm_T, z = sX2_putCharge N vd vq vx := ⟨_, rfl⟩
          refine jk_callV (As := [.int vd, .int vq, .int vx]) (rest := []) (ws1 := (List.flatten [(jo_X xx (n 0) (t 0) (h 0) (z 0) (d 0) (b 0)), (jm_W g n S6), (jh_X g h p5 S4 S3), (jf_X g 6 p5 S4)])) ⟨hx, hb, hml, hown, hts⟩ (c_X2_putCharge l D g n N vd vq vx) (cwV 3 hts gX4_touch_X2_putCharge rfl rfl rfl (by decide +kernel) ⟨Nat.le_of_ble_eq_true rfl, Nat.le_of_ble_eq_true rfl⟩) (va_recv hK hP (ci := 2) (q0 := 1) rfl rfl) (show va_P D vwCl (jm_W g n N) H from jk_one.mp (jk_segSub (L := [(jo_X xx (n 0) (t 0) (h 0) (z 0) (d 0) (b 0)), (jm_W g n N), (jh_X g h p5 S4 S3), (jf_X g 6 p5 S4)]) hP [1])) (show va_D A (jm_W g n N) from jk_oneD.mp (jk_segSubD (L := [(jo_X xx (n 0) (t 0) (h 0) (z 0) (d 0) (b 0)), (jm_W g n N), (jh_X g h p5 S4 S3), (jf_X g 6 p5 S4)]) hD [1] (by decide))) hK hN rfl hl rfl (Nat.le_of_ble_eq_true rfl) dX4_touch_50 ⟨Nat.le_of_ble_eq_true rfl, Nat.le_of_ble_eq_true rfl⟩ hS hA (fun H9 hh => jk_seg1 (L := [(jo_X xx (n 0) (t 0) (h 0) (z 0) (d 0) (b 0)), (jm_W g n N), (jh_X g h p5 S4 S3), (jf_X g 6 p5 S4)]) (L' := [(jo_X xx (n 0) (t 0) (h 0) (z 0) (d 0) (b 0)), (jm_W g n S6), (jh_X g h p5 S4 S3), (jf_X g 6 p5 S4)]) (T := (jm_W g n S6)) hP hD 1 [(false, 0), (true, 0), (false, 2), (false, 3)] (by decide) rfl H9 (by rw [eS6]; exact hh)) (fun H locs hP hS => ?_)
          refine W.eq (g2 := F0 m 53 ls [.int (rX2_putCharge N vd vq vx)]) rfl ?_
          have hD : va_D A (List.flatten [(jo_X xx (n 0) (t 0) (h 0) (z 0) (d 0) (b 0)), (jm_W g n S6), (jh_X g h p5 S4 S3), (jf_X g 6 p5 S4)]) := hDu _ _
          refine lv_topi (fun x7 ex7 => ?_)
          have qex7 := ex7.symm; subst qex7
          have qeS6 := eS6.symm; subst qeS6
          have qeS4 := eS4.symm; subst qeS4
          have qeS3 := eS3.symm; subst qeS3
          have qex2 := ex2.symm; subst qex2
          have qex1 := ex1.symm; subst qex1
          have es1 : (sX2_putCharge N vd vq vx) = sX4_touch_1 N Hs F vd vq vx := (by unfold sX4_touch_1; rw [if_pos c_4, if_pos c_11, if_neg c_20, if_pos c_26])
          have es2 : (jh_rec Hs) = sX4_touch_2 N Hs F vd vq vx := (by unfold sX4_touch_2; rw [if_pos c_4, if_pos c_11, if_neg c_20, if_pos c_26])
          have es3 : (jf_u F (jh_ix Hs).toNatClampNeg N) = sX4_touch_3 N Hs F vd vq vx := (by unfold sX4_touch_3; rw [if_pos c_4, if_pos c_11, if_neg c_20, if_pos c_26])
          exact jk_iretC p5 hx hb hr hlocks hP hD hS (Nat.le_of_ble_eq_true rfl) (Nat.le_of_ble_eq_true rfl) (by unfold rX4_touch; rw [if_pos c_4, if_pos c_11, if_neg c_20, if_pos c_26]) (jk_cg3 (fun z1 z2 z3 => (List.flatten [(jo_X xx (n 0) (t 0) (h 0) (z 0) (d 0) (b 0)), (jm_W g n z1), (jh_X g h p5 z3 z2), (jf_X g 6 p5 z3)])) es1 es2 es3) dX4_touch_53
        · refine lv_ldc hx hb hown hk_42 dX4_touch_29 ?_
          have qex2 := ex2.symm; subst qex2
          have qex1 := ex1.symm; subst qex1
          have es1 : N = sX4_touch_1 N Hs F vd vq vx := (by unfold sX4_touch_1; rw [if_pos c_4, if_pos c_11, if_neg c_20, if_neg c_26])
          have es2 : Hs = sX4_touch_2 N Hs F vd vq vx := (by unfold sX4_touch_2; rw [if_pos c_4, if_pos c_11, if_neg c_20, if_neg c_26])
          have es3 : F = sX4_touch_3 N Hs F vd vq vx := (by unfold sX4_touch_3; rw [if_pos c_4, if_pos c_11, if_neg c_20, if_neg c_26])
          exact jk_iretC p hx hb hr hlocks hP hD hS (Nat.le_of_ble_eq_true rfl) (Nat.le_of_ble_eq_true rfl) (by unfold rX4_touch; rw [if_pos c_4, if_pos c_11, if_neg c_20, if_neg c_26]) (jk_cg3 (fun z1 z2 z3 => (List.flatten [(jo_X xx (n 0) (t 0) (h 0) (z 0) (d 0) (b 0)), (jm_W g n z1), (jh_X g h p z3 z2), (jf_X g 6 p z3)])) es1 es2 es3) dX4_touch_31
    · refine lv_ldc hx hb hown hk_69 dX4_touch_14 ?_
      have qex2 := ex2.symm; subst qex2
      have qex1 := ex1.symm; subst qex1
      have es1 : N = sX4_touch_1 N Hs F vd vq vx := (by unfold sX4_touch_1; rw [if_pos c_4, if_neg c_11])
      have es2 : Hs = sX4_touch_2 N Hs F vd vq vx := (by unfold sX4_touch_2; rw [if_pos c_4, if_neg c_11])
      have es3 : F = sX4_touch_3 N Hs F vd vq vx := (by unfold sX4_touch_3; rw [if_pos c_4, if_neg c_11])
      exact jk_iretC p hx hb hr hlocks hP hD hS (Nat.le_of_ble_eq_true rfl) (Nat.le_of_ble_eq_true rfl) (by unfold rX4_touch; rw [if_pos c_4, if_neg c_11]) (jk_cg3 (fun z1 z2 z3 => (List.flatten [(jo_X xx (n 0) (t 0) (h 0) (z 0) (d 0) (b 0)), (jm_W g n z1), (jh_X g h p z3 z2), (jf_X g 6 p z3)])) es1 es2 es3) dX4_touch_16

def rX4_turn (N : jm_T) (Hs : jh_T) (F : jf_T) (vt : Int32) : Int32 := if vt < 1 then ((-1000002)) else (if vt ≤ 99 then (let x1 : Int32 := rX2_hasTurnsLeft N vt; if x1 = 0 then ((-1000004)) else (let S2 : jh_T := jh_rec Hs; let S3 : jf_T := jf_u F (jh_ix Hs).toNatClampNeg N; let S5 : jm_T := lp_turn N vt.toNatClampNeg; let x6 : Int32 := jm_sp (lp_turn N vt.toNatClampNeg) - jm_sp N; x6)) else ((-1000002)))
def sX4_turn_1 (N : jm_T) (Hs : jh_T) (F : jf_T) (vt : Int32) : jm_T := if vt < 1 then (N) else (if vt ≤ 99 then (let x1 : Int32 := rX2_hasTurnsLeft N vt; if x1 = 0 then (N) else (let S2 : jh_T := jh_rec Hs; let S3 : jf_T := jf_u F (jh_ix Hs).toNatClampNeg N; let S5 : jm_T := lp_turn N vt.toNatClampNeg; let x6 : Int32 := jm_sp (lp_turn N vt.toNatClampNeg) - jm_sp N; S5)) else (N))
def sX4_turn_2 (N : jm_T) (Hs : jh_T) (F : jf_T) (vt : Int32) : jh_T := if vt < 1 then (Hs) else (if vt ≤ 99 then (let x1 : Int32 := rX2_hasTurnsLeft N vt; if x1 = 0 then (Hs) else (let S2 : jh_T := jh_rec Hs; let S3 : jf_T := jf_u F (jh_ix Hs).toNatClampNeg N; let S5 : jm_T := lp_turn N vt.toNatClampNeg; let x6 : Int32 := jm_sp (lp_turn N vt.toNatClampNeg) - jm_sp N; S2)) else (Hs))
def sX4_turn_3 (N : jm_T) (Hs : jh_T) (F : jf_T) (vt : Int32) : jf_T := if vt < 1 then (F) else (if vt ≤ 99 then (let x1 : Int32 := rX2_hasTurnsLeft N vt; if x1 = 0 then (F) else (let S2 : jh_T := jh_rec Hs; let S3 : jf_T := jf_u F (jh_ix Hs).toNatClampNeg N; let S5 : jm_T := lp_turn N vt.toNatClampNeg; let x6 : Int32 := jm_sp (lp_turn N vt.toNatClampNeg) - jm_sp N; S3)) else (F))
set_option maxHeartbeats 1000000 in
set_option maxRecDepth 100000 in
theorem c_X4_turn (l : Launch) (D : va_G) (g : jk_G) (xx : Nat → Nat) (n : Nat → Nat) (t : Nat → Nat) (h : Nat → Nat) (z : Nat → Nat) (d : Nat → Nat) (b : Nat → Nat) (N : jm_T) (p : (Nat → Nat → Nat)) (F : jf_T) (Hs : jh_T) (vt : Int32)  : jk_C l D g jk_noZ yX4_turn wsX4_turn 6 140 7 72 [.ref (xx 0), .int vt] (List.flatten [(jo_X xx (n 0) (t 0) (h 0) (z 0) (d 0) (b 0)), (jm_W g n N), (jh_X g h p F Hs), (jf_X g 6 p F)]) (some (.int (rX4_turn N Hs F vt))) (fun o : Nat → Nat → Nat => (List.flatten [(jo_X xx (n 0) (t 0) (h 0) (z 0) (d 0) (b 0)), (jm_W g n (sX4_turn_1 N Hs F vt)), (jh_X g h o (sX4_turn_3 N Hs F vt) (sX4_turn_2 N Hs F vt)), (jf_X g 6 o (sX4_turn_3 N Hs F vt))])) := by
  refine jk_ofC (cc := cX4_turn) (maxL := 2) (ret := (some .int)) (by decide +kernel) rfl (Nat.le_of_ble_eq_true rfl) ?_
  intro pp e s m args below meth c hx hb hr hml hts hown hlocks hin hK hN A H locs hZ hsH hP hD hA hS ls hl
  have hown : s.vm.findClass RX4 = some m.cls := hown
  have hl : lv_has ls 2 [(0, .ref (xx 0)), (1, .int vt)] := hl
  have hDu : ∀ (z1 : jm_T) (z2 : jh_T), va_D A (List.flatten [(jo_X xx (n 0) (t 0) (h 0) (z 0) (d 0) (b 0)), (jm_W g n z1), (jh_X g h p F z2), (jf_X g 6 p F)]) := fun z1 z2 => jk_D.same hD rfl
  have hk_42 := hts (.constant RX4 42 (-1000002)) (by decide +kernel)
  have hf_10 := hts (.fieldLink RX4 10 "InfluenceJars" "now" "LInfluenceJars$Machine;") (by decide +kernel)
  have hi_4 : ∀ w ∈ u_ws RX4 TX4 6, w ∈ wsX4_turn := by decide +kernel
  have hf_22 := hts (.fieldLink RX4 22 "InfluenceJars" "history" "LInfluenceJars$History;") (by decide +kernel)
  have hk_77 := hts (.constant RX4 77 (-1000004)) (by decide +kernel)
  refine lv_iload_n hx hb dX4_turn_0 rfl (lv_at hl 1 rfl) ?_
  refine lv_iconst (v := 1) hx hb dX4_turn_1 (by decide) ?_
  refine lv_icmp_lt (tgt := 11) hx hb dX4_turn_2 (by decide) (fun c_2 => ?_) (fun c_2 => ?_)
  · refine lv_ldc hx hb hown hk_42 dX4_turn_11 ?_
    have es1 : N = sX4_turn_1 N Hs F vt := (by unfold sX4_turn_1; rw [if_pos c_2])
    have es2 : Hs = sX4_turn_2 N Hs F vt := (by unfold sX4_turn_2; rw [if_pos c_2])
    have es3 : F = sX4_turn_3 N Hs F vt := (by unfold sX4_turn_3; rw [if_pos c_2])
    exact jk_iretC p hx hb hr hlocks hP hD hS (Nat.le_of_ble_eq_true rfl) (Nat.le_of_ble_eq_true rfl) (by unfold rX4_turn; rw [if_pos c_2]) (jk_cg3 (fun z1 z2 z3 => (List.flatten [(jo_X xx (n 0) (t 0) (h 0) (z 0) (d 0) (b 0)), (jm_W g n z1), (jh_X g h p z3 z2), (jf_X g 6 p z3)])) es1 es2 es3) dX4_turn_13
  · refine lv_iload_n hx hb dX4_turn_5 rfl (lv_at hl 1 rfl) ?_
    refine lv_bipush (v := 99) hx hb dX4_turn_6 (by decide) ?_
    refine lv_icmp_le (tgt := 14) hx hb dX4_turn_8 (by decide) (fun c_8 => ?_) (fun c_8 => ?_)
    · refine lv_aload_n hx hb dX4_turn_14 rfl (lv_at hl 0 rfl) ?_
      refine va_get (D := D) (ci := 4) (v := .ref (n 0)) (C := RX4) (T := TX4) (N := 6) hx hb hts hi_4 hown hK hP 0 rfl rfl 0 (by decide) hf_10 (fun _ h9 => h9) rfl dX4_turn_15 ?_
      refine lv_iload_n hx hb dX4_turn_18 rfl (lv_at hl 1 rfl) ?_
      refine jk_callV (As := [.int vt]) (rest := []) (ws1 := (List.flatten [(jo_X xx (n 0) (t 0) (h 0) (z 0) (d 0) (b 0)), (jm_W g n N), (jh_X g h p F Hs), (jf_X g 6 p F)])) ⟨hx, hb, hml, hown, hts⟩ (c_X2_hasTurnsLeft l D g n N vt) (cwV 1 hts gX4_turn_X2_hasTurnsLeft rfl rfl rfl (by decide +kernel) ⟨Nat.le_of_ble_eq_true rfl, Nat.le_of_ble_eq_true rfl⟩) (va_recv hK hP (ci := 2) (q0 := 1) rfl rfl) (show va_P D vwCl (jm_W g n N) H from jk_one.mp (jk_segSub (L := [(jo_X xx (n 0) (t 0) (h 0) (z 0) (d 0) (b 0)), (jm_W g n N), (jh_X g h p F Hs), (jf_X g 6 p F)]) hP [1])) (show va_D A (jm_W g n N) from jk_oneD.mp (jk_segSubD (L := [(jo_X xx (n 0) (t 0) (h 0) (z 0) (d 0) (b 0)), (jm_W g n N), (jh_X g h p F Hs), (jf_X g 6 p F)]) hD [1] (by decide))) hK hN rfl hl rfl (Nat.le_of_ble_eq_true rfl) dX4_turn_19 ⟨Nat.le_of_ble_eq_true rfl, Nat.le_of_ble_eq_true rfl⟩ hS hA (jk_seg1 (L := [(jo_X xx (n 0) (t 0) (h 0) (z 0) (d 0) (b 0)), (jm_W g n N), (jh_X g h p F Hs), (jf_X g 6 p F)]) (L' := [(jo_X xx (n 0) (t 0) (h 0) (z 0) (d 0) (b 0)), (jm_W g n N), (jh_X g h p F Hs), (jf_X g 6 p F)]) (T := (jm_W g n N)) hP hD 1 [(false, 0), (true, 0), (false, 2), (false, 3)] (by decide) rfl) (fun H locs hP hS => ?_)
      refine W.eq (g2 := F0 m 22 ls [.int (rX2_hasTurnsLeft N vt)]) rfl ?_
      refine lv_topi (fun x1 ex1 => ?_)
      refine lv_if_ne (tgt := 28) hx hb dX4_turn_22 (by decide) (fun c_22 => ?_) (fun c_22 => ?_)
      · refine lv_aload_n hx hb dX4_turn_28 rfl (lv_at hl 0 rfl) ?_
        refine va_get (D := D) (ci := 4) (v := .ref (h 0)) (C := RX4) (T := TX4) (N := 6) hx hb hts hi_4 hown hK hP 0 rfl rfl 2 (by decide) hf_22 (fun _ h9 => h9) rfl dX4_turn_29 ?_
        refine lv_aload_n hx hb dX4_turn_32 rfl (lv_at hl 0 rfl) ?_
        refine va_get (D := D) (ci := 4) (v := .ref (n 0)) (C := RX4) (T := TX4) (N := 6) hx hb hts hi_4 hown hK hP 0 rfl rfl 0 (by decide) hf_10 (fun _ h9 => h9) rfl dX4_turn_33 ?_
        obtain ⟨S2, eS2⟩ : ∃ z : jh_T, z = jh_rec Hs := ⟨_, rfl⟩
        obtain ⟨S3, eS3⟩ : ∃ z : jf_T, z = jf_u F (jh_ix Hs).toNatClampNeg N := ⟨_, rfl⟩
        have hDc := (show va_D A (List.flatten [(jh_X g h p F Hs), (jm_W g n N), (jf_X g 6 p F)]) from  (jk_segSubD (L := [(jo_X xx (n 0) (t 0) (h 0) (z 0) (d 0) (b 0)), (jm_W g n N), (jh_X g h p F Hs), (jf_X g 6 p F)]) hD [2, 1, 3] (by decide)))
        refine jk_callVC (As := [.ref (n 0)]) (rest := []) (ws1 := fun p4 => (List.flatten [(jo_X xx (n 0) (t 0) (h 0) (z 0) (d 0) (b 0)), (jm_W g n N), (jh_X g h p4 S3 S2), (jf_X g 6 p4 S3)])) ⟨hx, hb, hml, hown, hts⟩ (c_X1_record l D g h p F Hs n N) (fun _ _ _ _ _ h => h) (fun _ _ _ => trivial) (cwV 1 hts gX4_turn_X1_record rfl rfl rfl (by decide +kernel) ⟨Nat.le_of_ble_eq_true rfl, Nat.le_of_ble_eq_true rfl⟩) (va_recv hK hP (ci := 1) (q0 := 8) rfl rfl) (show va_P D vwCl (List.flatten [(jh_X g h p F Hs), (jm_W g n N), (jf_X g 6 p F)]) H from  (jk_segSub (L := [(jo_X xx (n 0) (t 0) (h 0) (z 0) (d 0) (b 0)), (jm_W g n N), (jh_X g h p F Hs), (jf_X g 6 p F)]) hP [2, 1, 3])) hDc hK hN rfl hl rfl (Nat.le_of_ble_eq_true rfl) dX4_turn_36 ⟨Nat.le_of_ble_eq_true rfl, Nat.le_of_ble_eq_true rfl⟩ hS hA (fun p4 => jk_seg (L := [(jo_X xx (n 0) (t 0) (h 0) (z 0) (d 0) (b 0)), (jm_W g n N), (jh_X g h p F Hs), (jf_X g 6 p F)]) (L' := [(jo_X xx (n 0) (t 0) (h 0) (z 0) (d 0) (b 0)), (jm_W g n N), (jh_X g h p4 S3 S2), (jf_X g 6 p4 S3)]) (T := [(jh_X g h p4 S3 S2), (jm_W g n N), (jf_X g 6 p4 S3)]) hP hD [2, 1, 3] [(false, 0), (true, 1), (true, 0), (true, 2)] (by rw [eS2, eS3]; try rfl) (by decide) rfl) (fun p4 => jk_segD (L := [(jo_X xx (n 0) (t 0) (h 0) (z 0) (d 0) (b 0)), (jm_W g n N), (jh_X g h p F Hs), (jf_X g 6 p F)]) (L' := [(jo_X xx (n 0) (t 0) (h 0) (z 0) (d 0) (b 0)), (jm_W g n N), (jh_X g h p4 S3 S2), (jf_X g 6 p4 S3)]) (T := [(jh_X g h p4 S3 S2), (jm_W g n N), (jf_X g 6 p4 S3)]) hP hD [2, 1, 3] [(false, 0), (true, 1), (true, 0), (true, 2)] (by rw [eS2, eS3]; try rfl) (by decide) (by decide) rfl (fun _ h => h) (jk_freeA hDc hS hA)) (fun p4 H locs hP hD hS => ?_)
        refine W.eq (g2 := F0 m 39 ls []) rfl ?_
        have hD : va_D A (List.flatten [(jo_X xx (n 0) (t 0) (h 0) (z 0) (d 0) (b 0)), (jm_W g n N), (jh_X g h p4 S3 S2), (jf_X g 6 p4 S3)]) := hD
        have hP : va_P D vwCl (List.flatten [(jo_X xx (n 0) (t 0) (h 0) (z 0) (d 0) (b 0)), (jm_W g n N), (jh_X g h p4 S3 S2), (jf_X g 6 p4 S3)]) H := hP
        have hDu : ∀ (z1 : jm_T) (z2 : jh_T), va_D A (List.flatten [(jo_X xx (n 0) (t 0) (h 0) (z 0) (d 0) (b 0)), (jm_W g n z1), (jh_X g h p4 S3 z2), (jf_X g 6 p4 S3)]) := fun z1 z2 => jk_D.same hD rfl
        refine lv_aload_n hx hb dX4_turn_39 rfl (lv_at hl 0 rfl) ?_
        refine va_get (D := D) (ci := 4) (v := .ref (n 0)) (C := RX4) (T := TX4) (N := 6) hx hb hts hi_4 hown hK hP 0 rfl rfl 0 (by decide) hf_10 (fun _ h9 => h9) rfl dX4_turn_40 ?_
        refine lv_iload_n hx hb dX4_turn_43 rfl (lv_at hl 1 rfl) ?_
        obtain ⟨S5, eS5⟩ : ∃ z : jm_T, z = lp_turn N vt.toNatClampNeg := ⟨_, rfl⟩
        refine jk_callV (As := [.int vt]) (rest := []) (ws1 := (List.flatten [(jo_X xx (n 0) (t 0) (h 0) (z 0) (d 0) (b 0)), (jm_W g n S5), (jh_X g h p4 S3 S2), (jf_X g 6 p4 S3)])) ⟨hx, hb, hml, hown, hts⟩ (c_X2_turnHandle l D g n N vt) (cwV 1 hts gX4_turn_X2_turnHandle rfl rfl rfl (by decide +kernel) ⟨Nat.le_of_ble_eq_true rfl, Nat.le_of_ble_eq_true rfl⟩) (va_recv hK hP (ci := 2) (q0 := 1) rfl rfl) (show va_P D vwCl (jm_W g n N) H from jk_one.mp (jk_segSub (L := [(jo_X xx (n 0) (t 0) (h 0) (z 0) (d 0) (b 0)), (jm_W g n N), (jh_X g h p4 S3 S2), (jf_X g 6 p4 S3)]) hP [1])) (show va_D A (jm_W g n N) from jk_oneD.mp (jk_segSubD (L := [(jo_X xx (n 0) (t 0) (h 0) (z 0) (d 0) (b 0)), (jm_W g n N), (jh_X g h p4 S3 S2), (jf_X g 6 p4 S3)]) hD [1] (by decide))) hK hN rfl hl rfl (Nat.le_of_ble_eq_true rfl) dX4_turn_44 ⟨Nat.le_of_ble_eq_true rfl, Nat.le_of_ble_eq_true rfl⟩ hS hA (fun H9 hh => jk_seg1 (L := [(jo_X xx (n 0) (t 0) (h 0) (z 0) (d 0) (b 0)), (jm_W g n N), (jh_X g h p4 S3 S2), (jf_X g 6 p4 S3)]) (L' := [(jo_X xx (n 0) (t 0) (h 0) (z 0) (d 0) (b 0)), (jm_W g n S5), (jh_X g h p4 S3 S2), (jf_X g 6 p4 S3)]) (T := (jm_W g n S5)) hP hD 1 [(false, 0), (true, 0), (false, 2), (false, 3)] (by decide) rfl H9 (by rw [eS5]; exact hh)) (fun H locs hP hS => ?_)
        refine W.eq (g2 := F0 m 47 ls [.int (jm_sp (lp_turn N vt.toNatClampNeg) - jm_sp N)]) rfl ?_
        have hD : va_D A (List.flatten [(jo_X xx (n 0) (t 0) (h 0) (z 0) (d 0) (b 0)), (jm_W g n S5), (jh_X g h p4 S3 S2), (jf_X g 6 p4 S3)]) := hDu _ _
        refine lv_topi (fun x6 ex6 => ?_)
        have qex6 := ex6.symm; subst qex6
        have qeS5 := eS5.symm; subst qeS5
        have qeS3 := eS3.symm; subst qeS3
        have qeS2 := eS2.symm; subst qeS2
        have qex1 := ex1.symm; subst qex1
        have es1 : (lp_turn N vt.toNatClampNeg) = sX4_turn_1 N Hs F vt := (by unfold sX4_turn_1; rw [if_neg c_2, if_pos c_8, if_neg c_22])
        have es2 : (jh_rec Hs) = sX4_turn_2 N Hs F vt := (by unfold sX4_turn_2; rw [if_neg c_2, if_pos c_8, if_neg c_22])
        have es3 : (jf_u F (jh_ix Hs).toNatClampNeg N) = sX4_turn_3 N Hs F vt := (by unfold sX4_turn_3; rw [if_neg c_2, if_pos c_8, if_neg c_22])
        exact jk_iretC p4 hx hb hr hlocks hP hD hS (Nat.le_of_ble_eq_true rfl) (Nat.le_of_ble_eq_true rfl) (by unfold rX4_turn; rw [if_neg c_2, if_pos c_8, if_neg c_22]) (jk_cg3 (fun z1 z2 z3 => (List.flatten [(jo_X xx (n 0) (t 0) (h 0) (z 0) (d 0) (b 0)), (jm_W g n z1), (jh_X g h p4 z3 z2), (jf_X g 6 p4 z3)])) es1 es2 es3) dX4_turn_47
      · refine lv_ldc hx hb hown hk_77 dX4_turn_25 ?_
        have qex1 := ex1.symm; subst qex1
        have es1 : N = sX4_turn_1 N Hs F vt := (by unfold sX4_turn_1; rw [if_neg c_2, if_pos c_8, if_pos c_22])
        have es2 : Hs = sX4_turn_2 N Hs F vt := (by unfold sX4_turn_2; rw [if_neg c_2, if_pos c_8, if_pos c_22])
        have es3 : F = sX4_turn_3 N Hs F vt := (by unfold sX4_turn_3; rw [if_neg c_2, if_pos c_8, if_pos c_22])
        exact jk_iretC p hx hb hr hlocks hP hD hS (Nat.le_of_ble_eq_true rfl) (Nat.le_of_ble_eq_true rfl) (by unfold rX4_turn; rw [if_neg c_2, if_pos c_8, if_pos c_22]) (jk_cg3 (fun z1 z2 z3 => (List.flatten [(jo_X xx (n 0) (t 0) (h 0) (z 0) (d 0) (b 0)), (jm_W g n z1), (jh_X g h p z3 z2), (jf_X g 6 p z3)])) es1 es2 es3) dX4_turn_27
    · refine lv_ldc hx hb hown hk_42 dX4_turn_11 ?_
      have es1 : N = sX4_turn_1 N Hs F vt := (by unfold sX4_turn_1; rw [if_neg c_2, if_neg c_8])
      have es2 : Hs = sX4_turn_2 N Hs F vt := (by unfold sX4_turn_2; rw [if_neg c_2, if_neg c_8])
      have es3 : F = sX4_turn_3 N Hs F vt := (by unfold sX4_turn_3; rw [if_neg c_2, if_neg c_8])
      exact jk_iretC p hx hb hr hlocks hP hD hS (Nat.le_of_ble_eq_true rfl) (Nat.le_of_ble_eq_true rfl) (by unfold rX4_turn; rw [if_neg c_2, if_neg c_8]) (jk_cg3 (fun z1 z2 z3 => (List.flatten [(jo_X xx (n 0) (t 0) (h 0) (z 0) (d 0) (b 0)), (jm_W g n z1), (jh_X g h p z3 z2), (jf_X g 6 p z3)])) es1 es2 es3) dX4_turn_13

def rX4_discharge (N : jm_T) (Hs : jh_T) (F : jf_T) : Int32 := let S1 : jh_T := jh_rec Hs; let S2 : jf_T := jf_u F (jh_ix Hs).toNatClampNeg N; let S4 : jm_T := sX2_emptyJars N; let x5 : Int32 := rX2_emptyJars N; x5
def sX4_discharge_1 (N : jm_T) (Hs : jh_T) (F : jf_T) : jm_T := let S1 : jh_T := jh_rec Hs; let S2 : jf_T := jf_u F (jh_ix Hs).toNatClampNeg N; let S4 : jm_T := sX2_emptyJars N; let x5 : Int32 := rX2_emptyJars N; S4
def sX4_discharge_2 (N : jm_T) (Hs : jh_T) (F : jf_T) : jh_T := let S1 : jh_T := jh_rec Hs; let S2 : jf_T := jf_u F (jh_ix Hs).toNatClampNeg N; let S4 : jm_T := sX2_emptyJars N; let x5 : Int32 := rX2_emptyJars N; S1
def sX4_discharge_3 (N : jm_T) (Hs : jh_T) (F : jf_T) : jf_T := let S1 : jh_T := jh_rec Hs; let S2 : jf_T := jf_u F (jh_ix Hs).toNatClampNeg N; let S4 : jm_T := sX2_emptyJars N; let x5 : Int32 := rX2_emptyJars N; S2
set_option maxHeartbeats 1000000 in
set_option maxRecDepth 100000 in
theorem c_X4_discharge (l : Launch) (D : va_G) (g : jk_G) (xx : Nat → Nat) (n : Nat → Nat) (t : Nat → Nat) (h : Nat → Nat) (z : Nat → Nat) (d : Nat → Nat) (b : Nat → Nat) (N : jm_T) (p : (Nat → Nat → Nat)) (F : jf_T) (Hs : jh_T)  : jk_C l D g jk_noZ yX4_discharge wsX4_discharge 4 125 7 72 [.ref (xx 0)] (List.flatten [(jo_X xx (n 0) (t 0) (h 0) (z 0) (d 0) (b 0)), (jm_W g n N), (jh_X g h p F Hs), (jf_X g 6 p F)]) (some (.int (rX4_discharge N Hs F))) (fun o : Nat → Nat → Nat => (List.flatten [(jo_X xx (n 0) (t 0) (h 0) (z 0) (d 0) (b 0)), (jm_W g n (sX4_discharge_1 N Hs F)), (jh_X g h o (sX4_discharge_3 N Hs F) (sX4_discharge_2 N Hs F)), (jf_X g 6 o (sX4_discharge_3 N Hs F))])) := by
  refine jk_ofC (cc := cX4_discharge) (maxL := 1) (ret := (some .int)) (by decide +kernel) rfl (Nat.le_of_ble_eq_true rfl) ?_
  intro pp e s m args below meth c hx hb hr hml hts hown hlocks hin hK hN A H locs hZ hsH hP hD hA hS ls hl
  have hown : s.vm.findClass RX4 = some m.cls := hown
  have hl : lv_has ls 1 [(0, .ref (xx 0))] := hl
  have hDu : ∀ (z1 : jm_T) (z2 : jh_T), va_D A (List.flatten [(jo_X xx (n 0) (t 0) (h 0) (z 0) (d 0) (b 0)), (jm_W g n z1), (jh_X g h p F z2), (jf_X g 6 p F)]) := fun z1 z2 => jk_D.same hD rfl
  have hf_22 := hts (.fieldLink RX4 22 "InfluenceJars" "history" "LInfluenceJars$History;") (by decide +kernel)
  have hi_4 : ∀ w ∈ u_ws RX4 TX4 6, w ∈ wsX4_discharge := by decide +kernel
  have hf_10 := hts (.fieldLink RX4 10 "InfluenceJars" "now" "LInfluenceJars$Machine;") (by decide +kernel)
  refine lv_aload_n hx hb dX4_discharge_0 rfl (lv_at hl 0 rfl) ?_
  refine va_get (D := D) (ci := 4) (v := .ref (h 0)) (C := RX4) (T := TX4) (N := 6) hx hb hts hi_4 hown hK hP 0 rfl rfl 2 (by decide) hf_22 (fun _ h9 => h9) rfl dX4_discharge_1 ?_
  refine lv_aload_n hx hb dX4_discharge_4 rfl (lv_at hl 0 rfl) ?_
  refine va_get (D := D) (ci := 4) (v := .ref (n 0)) (C := RX4) (T := TX4) (N := 6) hx hb hts hi_4 hown hK hP 0 rfl rfl 0 (by decide) hf_10 (fun _ h9 => h9) rfl dX4_discharge_5 ?_
  obtain ⟨S1, eS1⟩ : ∃ z : jh_T, z = jh_rec Hs := ⟨_, rfl⟩
  obtain ⟨S2, eS2⟩ : ∃ z : jf_T, z = jf_u F (jh_ix Hs).toNatClampNeg N := ⟨_, rfl⟩
  have hDc := (show va_D A (List.flatten [(jh_X g h p F Hs), (jm_W g n N), (jf_X g 6 p F)]) from  (jk_segSubD (L := [(jo_X xx (n 0) (t 0) (h 0) (z 0) (d 0) (b 0)), (jm_W g n N), (jh_X g h p F Hs), (jf_X g 6 p F)]) hD [2, 1, 3] (by decide)))
  refine jk_callVC (As := [.ref (n 0)]) (rest := []) (ws1 := fun p3 => (List.flatten [(jo_X xx (n 0) (t 0) (h 0) (z 0) (d 0) (b 0)), (jm_W g n N), (jh_X g h p3 S2 S1), (jf_X g 6 p3 S2)])) ⟨hx, hb, hml, hown, hts⟩ (c_X1_record l D g h p F Hs n N) (fun _ _ _ _ _ h => h) (fun _ _ _ => trivial) (cwV 1 hts gX4_discharge_X1_record rfl rfl rfl (by decide +kernel) ⟨Nat.le_of_ble_eq_true rfl, Nat.le_of_ble_eq_true rfl⟩) (va_recv hK hP (ci := 1) (q0 := 8) rfl rfl) (show va_P D vwCl (List.flatten [(jh_X g h p F Hs), (jm_W g n N), (jf_X g 6 p F)]) H from  (jk_segSub (L := [(jo_X xx (n 0) (t 0) (h 0) (z 0) (d 0) (b 0)), (jm_W g n N), (jh_X g h p F Hs), (jf_X g 6 p F)]) hP [2, 1, 3])) hDc hK hN rfl hl rfl (Nat.le_of_ble_eq_true rfl) dX4_discharge_8 ⟨Nat.le_of_ble_eq_true rfl, Nat.le_of_ble_eq_true rfl⟩ hS hA (fun p3 => jk_seg (L := [(jo_X xx (n 0) (t 0) (h 0) (z 0) (d 0) (b 0)), (jm_W g n N), (jh_X g h p F Hs), (jf_X g 6 p F)]) (L' := [(jo_X xx (n 0) (t 0) (h 0) (z 0) (d 0) (b 0)), (jm_W g n N), (jh_X g h p3 S2 S1), (jf_X g 6 p3 S2)]) (T := [(jh_X g h p3 S2 S1), (jm_W g n N), (jf_X g 6 p3 S2)]) hP hD [2, 1, 3] [(false, 0), (true, 1), (true, 0), (true, 2)] (by rw [eS1, eS2]; try rfl) (by decide) rfl) (fun p3 => jk_segD (L := [(jo_X xx (n 0) (t 0) (h 0) (z 0) (d 0) (b 0)), (jm_W g n N), (jh_X g h p F Hs), (jf_X g 6 p F)]) (L' := [(jo_X xx (n 0) (t 0) (h 0) (z 0) (d 0) (b 0)), (jm_W g n N), (jh_X g h p3 S2 S1), (jf_X g 6 p3 S2)]) (T := [(jh_X g h p3 S2 S1), (jm_W g n N), (jf_X g 6 p3 S2)]) hP hD [2, 1, 3] [(false, 0), (true, 1), (true, 0), (true, 2)] (by rw [eS1, eS2]; try rfl) (by decide) (by decide) rfl (fun _ h => h) (jk_freeA hDc hS hA)) (fun p3 H locs hP hD hS => ?_)
  refine W.eq (g2 := F0 m 11 ls []) rfl ?_
  have hD : va_D A (List.flatten [(jo_X xx (n 0) (t 0) (h 0) (z 0) (d 0) (b 0)), (jm_W g n N), (jh_X g h p3 S2 S1), (jf_X g 6 p3 S2)]) := hD
  have hP : va_P D vwCl (List.flatten [(jo_X xx (n 0) (t 0) (h 0) (z 0) (d 0) (b 0)), (jm_W g n N), (jh_X g h p3 S2 S1), (jf_X g 6 p3 S2)]) H := hP
  have hDu : ∀ (z1 : jm_T) (z2 : jh_T), va_D A (List.flatten [(jo_X xx (n 0) (t 0) (h 0) (z 0) (d 0) (b 0)), (jm_W g n z1), (jh_X g h p3 S2 z2), (jf_X g 6 p3 S2)]) := fun z1 z2 => jk_D.same hD rfl
  refine lv_aload_n hx hb dX4_discharge_11 rfl (lv_at hl 0 rfl) ?_
  refine va_get (D := D) (ci := 4) (v := .ref (n 0)) (C := RX4) (T := TX4) (N := 6) hx hb hts hi_4 hown hK hP 0 rfl rfl 0 (by decide) hf_10 (fun _ h9 => h9) rfl dX4_discharge_12 ?_
  obtain ⟨S4, eS4⟩ : ∃ z : jm_T, z = sX2_emptyJars N := ⟨_, rfl⟩
  refine jk_callV (As := []) (rest := []) (ws1 := (List.flatten [(jo_X xx (n 0) (t 0) (h 0) (z 0) (d 0) (b 0)), (jm_W g n S4), (jh_X g h p3 S2 S1), (jf_X g 6 p3 S2)])) ⟨hx, hb, hml, hown, hts⟩ (c_X2_emptyJars l D g n N) (cwV 0 hts gX4_discharge_X2_emptyJars rfl rfl rfl (by decide +kernel) ⟨Nat.le_of_ble_eq_true rfl, Nat.le_of_ble_eq_true rfl⟩) (va_recv hK hP (ci := 2) (q0 := 1) rfl rfl) (show va_P D vwCl (jm_W g n N) H from jk_one.mp (jk_segSub (L := [(jo_X xx (n 0) (t 0) (h 0) (z 0) (d 0) (b 0)), (jm_W g n N), (jh_X g h p3 S2 S1), (jf_X g 6 p3 S2)]) hP [1])) (show va_D A (jm_W g n N) from jk_oneD.mp (jk_segSubD (L := [(jo_X xx (n 0) (t 0) (h 0) (z 0) (d 0) (b 0)), (jm_W g n N), (jh_X g h p3 S2 S1), (jf_X g 6 p3 S2)]) hD [1] (by decide))) hK hN rfl hl rfl (Nat.le_of_ble_eq_true rfl) dX4_discharge_15 ⟨Nat.le_of_ble_eq_true rfl, Nat.le_of_ble_eq_true rfl⟩ hS hA (fun H9 hh => jk_seg1 (L := [(jo_X xx (n 0) (t 0) (h 0) (z 0) (d 0) (b 0)), (jm_W g n N), (jh_X g h p3 S2 S1), (jf_X g 6 p3 S2)]) (L' := [(jo_X xx (n 0) (t 0) (h 0) (z 0) (d 0) (b 0)), (jm_W g n S4), (jh_X g h p3 S2 S1), (jf_X g 6 p3 S2)]) (T := (jm_W g n S4)) hP hD 1 [(false, 0), (true, 0), (false, 2), (false, 3)] (by decide) rfl H9 (by rw [eS4]; exact hh)) (fun H locs hP hS => ?_)
  refine W.eq (g2 := F0 m 18 ls [.int (rX2_emptyJars N)]) rfl ?_
  have hD : va_D A (List.flatten [(jo_X xx (n 0) (t 0) (h 0) (z 0) (d 0) (b 0)), (jm_W g n S4), (jh_X g h p3 S2 S1), (jf_X g 6 p3 S2)]) := hDu _ _
  refine lv_topi (fun x5 ex5 => ?_)
  have qex5 := ex5.symm; subst qex5
  have qeS4 := eS4.symm; subst qeS4
  have qeS2 := eS2.symm; subst qeS2
  have qeS1 := eS1.symm; subst qeS1
  have es1 : (sX2_emptyJars N) = sX4_discharge_1 N Hs F := (by rfl)
  have es2 : (jh_rec Hs) = sX4_discharge_2 N Hs F := (by rfl)
  have es3 : (jf_u F (jh_ix Hs).toNatClampNeg N) = sX4_discharge_3 N Hs F := (by rfl)
  exact jk_iretC p3 hx hb hr hlocks hP hD hS (Nat.le_of_ble_eq_true rfl) (Nat.le_of_ble_eq_true rfl) (by rfl) (jk_cg3 (fun z1 z2 z3 => (List.flatten [(jo_X xx (n 0) (t 0) (h 0) (z 0) (d 0) (b 0)), (jm_W g n z1), (jh_X g h p3 z3 z2), (jf_X g 6 p3 z3)])) es1 es2 es3) dX4_discharge_18

def rX4_wipeDisc (N : jm_T) (Hs : jh_T) (F : jf_T) (vd : Int32) : Int32 := let x1 : Int32 := rX4_isNoDisc vd; if x1 = 0 then (let S2 : jh_T := jh_rec Hs; let S3 : jf_T := jf_u F (jh_ix Hs).toNatClampNeg N; let S5 : jm_T := (jm_uto (jm_uch N (lp_zero (jm_ch N) (rX2_firstIndexOf vd) 12)) ((jm_to N) + (lp_sum (jm_ch N) (rX2_firstIndexOf vd) 12))); let x6 : Int32 := (lp_sgn (jm_ch N) (rX2_firstIndexOf vd) 1 12 + lp_sgn (jm_ch N) (rX2_firstIndexOf vd) (-1) 12); x6) else ((-1000001))
def sX4_wipeDisc_1 (N : jm_T) (Hs : jh_T) (F : jf_T) (vd : Int32) : jm_T := let x1 : Int32 := rX4_isNoDisc vd; if x1 = 0 then (let S2 : jh_T := jh_rec Hs; let S3 : jf_T := jf_u F (jh_ix Hs).toNatClampNeg N; let S5 : jm_T := (jm_uto (jm_uch N (lp_zero (jm_ch N) (rX2_firstIndexOf vd) 12)) ((jm_to N) + (lp_sum (jm_ch N) (rX2_firstIndexOf vd) 12))); let x6 : Int32 := (lp_sgn (jm_ch N) (rX2_firstIndexOf vd) 1 12 + lp_sgn (jm_ch N) (rX2_firstIndexOf vd) (-1) 12); S5) else (N)
def sX4_wipeDisc_2 (N : jm_T) (Hs : jh_T) (F : jf_T) (vd : Int32) : jh_T := let x1 : Int32 := rX4_isNoDisc vd; if x1 = 0 then (let S2 : jh_T := jh_rec Hs; let S3 : jf_T := jf_u F (jh_ix Hs).toNatClampNeg N; let S5 : jm_T := (jm_uto (jm_uch N (lp_zero (jm_ch N) (rX2_firstIndexOf vd) 12)) ((jm_to N) + (lp_sum (jm_ch N) (rX2_firstIndexOf vd) 12))); let x6 : Int32 := (lp_sgn (jm_ch N) (rX2_firstIndexOf vd) 1 12 + lp_sgn (jm_ch N) (rX2_firstIndexOf vd) (-1) 12); S2) else (Hs)
def sX4_wipeDisc_3 (N : jm_T) (Hs : jh_T) (F : jf_T) (vd : Int32) : jf_T := let x1 : Int32 := rX4_isNoDisc vd; if x1 = 0 then (let S2 : jh_T := jh_rec Hs; let S3 : jf_T := jf_u F (jh_ix Hs).toNatClampNeg N; let S5 : jm_T := (jm_uto (jm_uch N (lp_zero (jm_ch N) (rX2_firstIndexOf vd) 12)) ((jm_to N) + (lp_sum (jm_ch N) (rX2_firstIndexOf vd) 12))); let x6 : Int32 := (lp_sgn (jm_ch N) (rX2_firstIndexOf vd) 1 12 + lp_sgn (jm_ch N) (rX2_firstIndexOf vd) (-1) 12); S3) else (F)
set_option maxHeartbeats 1000000 in
set_option maxRecDepth 100000 in
theorem c_X4_wipeDisc (l : Launch) (D : va_G) (g : jk_G) (xx : Nat → Nat) (n : Nat → Nat) (t : Nat → Nat) (h : Nat → Nat) (z : Nat → Nat) (d : Nat → Nat) (b : Nat → Nat) (N : jm_T) (p : (Nat → Nat → Nat)) (F : jf_T) (Hs : jh_T) (vd : Int32)  : jk_C l D g jk_noZ yX4_wipeDisc wsX4_wipeDisc 4 125 7 72 [.ref (xx 0), .int vd] (List.flatten [(jo_X xx (n 0) (t 0) (h 0) (z 0) (d 0) (b 0)), (jm_W g n N), (jh_X g h p F Hs), (jf_X g 6 p F)]) (some (.int (rX4_wipeDisc N Hs F vd))) (fun o : Nat → Nat → Nat => (List.flatten [(jo_X xx (n 0) (t 0) (h 0) (z 0) (d 0) (b 0)), (jm_W g n (sX4_wipeDisc_1 N Hs F vd)), (jh_X g h o (sX4_wipeDisc_3 N Hs F vd) (sX4_wipeDisc_2 N Hs F vd)), (jf_X g 6 o (sX4_wipeDisc_3 N Hs F vd))])) := by
  refine jk_ofC (cc := cX4_wipeDisc) (maxL := 2) (ret := (some .int)) (by decide +kernel) rfl (Nat.le_of_ble_eq_true rfl) ?_
  intro pp e s m args below meth c hx hb hr hml hts hown hlocks hin hK hN A H locs hZ hsH hP hD hA hS ls hl
  have hown : s.vm.findClass RX4 = some m.cls := hown
  have hl : lv_has ls 2 [(0, .ref (xx 0)), (1, .int vd)] := hl
  have hDu : ∀ (z1 : jm_T) (z2 : jh_T), va_D A (List.flatten [(jo_X xx (n 0) (t 0) (h 0) (z 0) (d 0) (b 0)), (jm_W g n z1), (jh_X g h p F z2), (jf_X g 6 p F)]) := fun z1 z2 => jk_D.same hD rfl
  have hf_22 := hts (.fieldLink RX4 22 "InfluenceJars" "history" "LInfluenceJars$History;") (by decide +kernel)
  have hi_4 : ∀ w ∈ u_ws RX4 TX4 6, w ∈ wsX4_wipeDisc := by decide +kernel
  have hf_10 := hts (.fieldLink RX4 10 "InfluenceJars" "now" "LInfluenceJars$Machine;") (by decide +kernel)
  have hk_69 := hts (.constant RX4 69 (-1000001)) (by decide +kernel)
  refine lv_iload_n hx hb dX4_wipeDisc_0 rfl (lv_at hl 1 rfl) ?_
  refine jk_callS (As := [.int vd]) (rest := []) (ws1 := (List.flatten [(jo_X xx (n 0) (t 0) (h 0) (z 0) (d 0) (b 0)), (jm_W g n N), (jh_X g h p F Hs), (jf_X g 6 p F)])) ⟨hx, hb, hml, hown, hts⟩ (c_X4_isNoDisc l D g vd) (va_cwS 1 hts gX4_wipeDisc_X4_isNoDisc rfl rfl rfl (by decide +kernel) ⟨Nat.le_of_ble_eq_true rfl, Nat.le_of_ble_eq_true rfl⟩) jk_nilP (jk_nilD (A := A)) hK hN rfl hl rfl (Nat.le_of_ble_eq_true rfl) dX4_wipeDisc_1 ⟨Nat.le_of_ble_eq_true rfl, Nat.le_of_ble_eq_true rfl⟩ hS hA (fun _ _ hk => jk_keep hP hk) (fun H locs hP hS => ?_)
  refine W.eq (g2 := F0 m 4 ls [.int (rX4_isNoDisc vd)]) rfl ?_
  refine lv_topi (fun x1 ex1 => ?_)
  refine lv_if_eq (tgt := 10) hx hb dX4_wipeDisc_4 (by decide) (fun c_4 => ?_) (fun c_4 => ?_)
  · refine lv_aload_n hx hb dX4_wipeDisc_10 rfl (lv_at hl 0 rfl) ?_
    refine va_get (D := D) (ci := 4) (v := .ref (h 0)) (C := RX4) (T := TX4) (N := 6) hx hb hts hi_4 hown hK hP 0 rfl rfl 2 (by decide) hf_22 (fun _ h9 => h9) rfl dX4_wipeDisc_11 ?_
    refine lv_aload_n hx hb dX4_wipeDisc_14 rfl (lv_at hl 0 rfl) ?_
    refine va_get (D := D) (ci := 4) (v := .ref (n 0)) (C := RX4) (T := TX4) (N := 6) hx hb hts hi_4 hown hK hP 0 rfl rfl 0 (by decide) hf_10 (fun _ h9 => h9) rfl dX4_wipeDisc_15 ?_
    obtain ⟨S2, eS2⟩ : ∃ z : jh_T, z = jh_rec Hs := ⟨_, rfl⟩
    obtain ⟨S3, eS3⟩ : ∃ z : jf_T, z = jf_u F (jh_ix Hs).toNatClampNeg N := ⟨_, rfl⟩
    have hDc := (show va_D A (List.flatten [(jh_X g h p F Hs), (jm_W g n N), (jf_X g 6 p F)]) from  (jk_segSubD (L := [(jo_X xx (n 0) (t 0) (h 0) (z 0) (d 0) (b 0)), (jm_W g n N), (jh_X g h p F Hs), (jf_X g 6 p F)]) hD [2, 1, 3] (by decide)))
    refine jk_callVC (As := [.ref (n 0)]) (rest := []) (ws1 := fun p4 => (List.flatten [(jo_X xx (n 0) (t 0) (h 0) (z 0) (d 0) (b 0)), (jm_W g n N), (jh_X g h p4 S3 S2), (jf_X g 6 p4 S3)])) ⟨hx, hb, hml, hown, hts⟩ (c_X1_record l D g h p F Hs n N) (fun _ _ _ _ _ h => h) (fun _ _ _ => trivial) (cwV 1 hts gX4_wipeDisc_X1_record rfl rfl rfl (by decide +kernel) ⟨Nat.le_of_ble_eq_true rfl, Nat.le_of_ble_eq_true rfl⟩) (va_recv hK hP (ci := 1) (q0 := 8) rfl rfl) (show va_P D vwCl (List.flatten [(jh_X g h p F Hs), (jm_W g n N), (jf_X g 6 p F)]) H from  (jk_segSub (L := [(jo_X xx (n 0) (t 0) (h 0) (z 0) (d 0) (b 0)), (jm_W g n N), (jh_X g h p F Hs), (jf_X g 6 p F)]) hP [2, 1, 3])) hDc hK hN rfl hl rfl (Nat.le_of_ble_eq_true rfl) dX4_wipeDisc_18 ⟨Nat.le_of_ble_eq_true rfl, Nat.le_of_ble_eq_true rfl⟩ hS hA (fun p4 => jk_seg (L := [(jo_X xx (n 0) (t 0) (h 0) (z 0) (d 0) (b 0)), (jm_W g n N), (jh_X g h p F Hs), (jf_X g 6 p F)]) (L' := [(jo_X xx (n 0) (t 0) (h 0) (z 0) (d 0) (b 0)), (jm_W g n N), (jh_X g h p4 S3 S2), (jf_X g 6 p4 S3)]) (T := [(jh_X g h p4 S3 S2), (jm_W g n N), (jf_X g 6 p4 S3)]) hP hD [2, 1, 3] [(false, 0), (true, 1), (true, 0), (true, 2)] (by rw [eS2, eS3]; try rfl) (by decide) rfl) (fun p4 => jk_segD (L := [(jo_X xx (n 0) (t 0) (h 0) (z 0) (d 0) (b 0)), (jm_W g n N), (jh_X g h p F Hs), (jf_X g 6 p F)]) (L' := [(jo_X xx (n 0) (t 0) (h 0) (z 0) (d 0) (b 0)), (jm_W g n N), (jh_X g h p4 S3 S2), (jf_X g 6 p4 S3)]) (T := [(jh_X g h p4 S3 S2), (jm_W g n N), (jf_X g 6 p4 S3)]) hP hD [2, 1, 3] [(false, 0), (true, 1), (true, 0), (true, 2)] (by rw [eS2, eS3]; try rfl) (by decide) (by decide) rfl (fun _ h => h) (jk_freeA hDc hS hA)) (fun p4 H locs hP hD hS => ?_)
    refine W.eq (g2 := F0 m 21 ls []) rfl ?_
    have hD : va_D A (List.flatten [(jo_X xx (n 0) (t 0) (h 0) (z 0) (d 0) (b 0)), (jm_W g n N), (jh_X g h p4 S3 S2), (jf_X g 6 p4 S3)]) := hD
    have hP : va_P D vwCl (List.flatten [(jo_X xx (n 0) (t 0) (h 0) (z 0) (d 0) (b 0)), (jm_W g n N), (jh_X g h p4 S3 S2), (jf_X g 6 p4 S3)]) H := hP
    have hDu : ∀ (z1 : jm_T) (z2 : jh_T), va_D A (List.flatten [(jo_X xx (n 0) (t 0) (h 0) (z 0) (d 0) (b 0)), (jm_W g n z1), (jh_X g h p4 S3 z2), (jf_X g 6 p4 S3)]) := fun z1 z2 => jk_D.same hD rfl
    refine lv_aload_n hx hb dX4_wipeDisc_21 rfl (lv_at hl 0 rfl) ?_
    refine va_get (D := D) (ci := 4) (v := .ref (n 0)) (C := RX4) (T := TX4) (N := 6) hx hb hts hi_4 hown hK hP 0 rfl rfl 0 (by decide) hf_10 (fun _ h9 => h9) rfl dX4_wipeDisc_22 ?_
    refine lv_iload_n hx hb dX4_wipeDisc_25 rfl (lv_at hl 1 rfl) ?_
    obtain ⟨S5, eS5⟩ : ∃ z : jm_T, z = (jm_uto (jm_uch N (lp_zero (jm_ch N) (rX2_firstIndexOf vd) 12)) ((jm_to N) + (lp_sum (jm_ch N) (rX2_firstIndexOf vd) 12))) := ⟨_, rfl⟩
    refine jk_callV (As := [.int vd]) (rest := []) (ws1 := (List.flatten [(jo_X xx (n 0) (t 0) (h 0) (z 0) (d 0) (b 0)), (jm_W g n S5), (jh_X g h p4 S3 S2), (jf_X g 6 p4 S3)])) ⟨hx, hb, hml, hown, hts⟩ (c_X2_emptySectors l D g n N vd) (cwV 1 hts gX4_wipeDisc_X2_emptySectors rfl rfl rfl (by decide +kernel) ⟨Nat.le_of_ble_eq_true rfl, Nat.le_of_ble_eq_true rfl⟩) (va_recv hK hP (ci := 2) (q0 := 1) rfl rfl) (show va_P D vwCl (jm_W g n N) H from jk_one.mp (jk_segSub (L := [(jo_X xx (n 0) (t 0) (h 0) (z 0) (d 0) (b 0)), (jm_W g n N), (jh_X g h p4 S3 S2), (jf_X g 6 p4 S3)]) hP [1])) (show va_D A (jm_W g n N) from jk_oneD.mp (jk_segSubD (L := [(jo_X xx (n 0) (t 0) (h 0) (z 0) (d 0) (b 0)), (jm_W g n N), (jh_X g h p4 S3 S2), (jf_X g 6 p4 S3)]) hD [1] (by decide))) hK hN rfl hl rfl (Nat.le_of_ble_eq_true rfl) dX4_wipeDisc_26 ⟨Nat.le_of_ble_eq_true rfl, Nat.le_of_ble_eq_true rfl⟩ hS hA (fun H9 hh => jk_seg1 (L := [(jo_X xx (n 0) (t 0) (h 0) (z 0) (d 0) (b 0)), (jm_W g n N), (jh_X g h p4 S3 S2), (jf_X g 6 p4 S3)]) (L' := [(jo_X xx (n 0) (t 0) (h 0) (z 0) (d 0) (b 0)), (jm_W g n S5), (jh_X g h p4 S3 S2), (jf_X g 6 p4 S3)]) (T := (jm_W g n S5)) hP hD 1 [(false, 0), (true, 0), (false, 2), (false, 3)] (by decide) rfl H9 (by rw [eS5]; exact hh)) (fun H locs hP hS => ?_)
    refine W.eq (g2 := F0 m 29 ls [.int (lp_sgn (jm_ch N) (rX2_firstIndexOf vd) 1 12 + lp_sgn (jm_ch N) (rX2_firstIndexOf vd) (-1) 12)]) rfl ?_
    have hD : va_D A (List.flatten [(jo_X xx (n 0) (t 0) (h 0) (z 0) (d 0) (b 0)), (jm_W g n S5), (jh_X g h p4 S3 S2), (jf_X g 6 p4 S3)]) := hDu _ _
    refine lv_topi (fun x6 ex6 => ?_)
    have qex6 := ex6.symm; subst qex6
    have qeS5 := eS5.symm; subst qeS5
    have qeS3 := eS3.symm; subst qeS3
    have qeS2 := eS2.symm; subst qeS2
    have qex1 := ex1.symm; subst qex1
    have es1 : (jm_uto (jm_uch N (lp_zero (jm_ch N) (rX2_firstIndexOf vd) 12)) ((jm_to N) + (lp_sum (jm_ch N) (rX2_firstIndexOf vd) 12))) = sX4_wipeDisc_1 N Hs F vd := (by unfold sX4_wipeDisc_1; rw [if_pos c_4])
    have es2 : (jh_rec Hs) = sX4_wipeDisc_2 N Hs F vd := (by unfold sX4_wipeDisc_2; rw [if_pos c_4])
    have es3 : (jf_u F (jh_ix Hs).toNatClampNeg N) = sX4_wipeDisc_3 N Hs F vd := (by unfold sX4_wipeDisc_3; rw [if_pos c_4])
    exact jk_iretC p4 hx hb hr hlocks hP hD hS (Nat.le_of_ble_eq_true rfl) (Nat.le_of_ble_eq_true rfl) (by unfold rX4_wipeDisc; rw [if_pos c_4]) (jk_cg3 (fun z1 z2 z3 => (List.flatten [(jo_X xx (n 0) (t 0) (h 0) (z 0) (d 0) (b 0)), (jm_W g n z1), (jh_X g h p4 z3 z2), (jf_X g 6 p4 z3)])) es1 es2 es3) dX4_wipeDisc_29
  · refine lv_ldc hx hb hown hk_69 dX4_wipeDisc_7 ?_
    have qex1 := ex1.symm; subst qex1
    have es1 : N = sX4_wipeDisc_1 N Hs F vd := (by unfold sX4_wipeDisc_1; rw [if_neg c_4])
    have es2 : Hs = sX4_wipeDisc_2 N Hs F vd := (by unfold sX4_wipeDisc_2; rw [if_neg c_4])
    have es3 : F = sX4_wipeDisc_3 N Hs F vd := (by unfold sX4_wipeDisc_3; rw [if_neg c_4])
    exact jk_iretC p hx hb hr hlocks hP hD hS (Nat.le_of_ble_eq_true rfl) (Nat.le_of_ble_eq_true rfl) (by unfold rX4_wipeDisc; rw [if_neg c_4]) (jk_cg3 (fun z1 z2 z3 => (List.flatten [(jo_X xx (n 0) (t 0) (h 0) (z 0) (d 0) (b 0)), (jm_W g n z1), (jh_X g h p z3 z2), (jf_X g 6 p z3)])) es1 es2 es3) dX4_wipeDisc_9
