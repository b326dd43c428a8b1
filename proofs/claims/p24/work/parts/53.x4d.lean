def rX4_set (N : jm_T) (Hs : jh_T) (F : jf_T) (vi : Int32) (vv : Int32) : Int32 := if vi < 0 then ((-1000002)) else (if vi < 5 then (if vv < (jz_lo vi.toNatClampNeg) then ((-1000002)) else (if vv ≤ (jz_hi vi.toNatClampNeg) then (if vi = 4 then (let x5 : Int32 := rX2_fullestJar N; if x5 ≤ vv then (let S6 : jh_T := jh_rec Hs; let S7 : jf_T := jf_u F (jh_ix Hs).toNatClampNeg N; let f9 : (Nat → Int32) := upd (jm_se N) vi.toNatClampNeg vv; (jm_se N) vi.toNatClampNeg) else ((-1000005))) else (let S1 : jh_T := jh_rec Hs; let S2 : jf_T := jf_u F (jh_ix Hs).toNatClampNeg N; let f4 : (Nat → Int32) := upd (jm_se N) vi.toNatClampNeg vv; (jm_se N) vi.toNatClampNeg)) else ((-1000002)))) else ((-1000002)))
def sX4_set_1 (N : jm_T) (Hs : jh_T) (F : jf_T) (vi : Int32) (vv : Int32) : jm_T := if vi < 0 then (N) else (if vi < 5 then (if vv < (jz_lo vi.toNatClampNeg) then (N) else (if vv ≤ (jz_hi vi.toNatClampNeg) then (if vi = 4 then (let x5 : Int32 := rX2_fullestJar N; if x5 ≤ vv then (let S6 : jh_T := jh_rec Hs; let S7 : jf_T := jf_u F (jh_ix Hs).toNatClampNeg N; let f9 : (Nat → Int32) := upd (jm_se N) vi.toNatClampNeg vv; (jm_use N f9)) else (N)) else (let S1 : jh_T := jh_rec Hs; let S2 : jf_T := jf_u F (jh_ix Hs).toNatClampNeg N; let f4 : (Nat → Int32) := upd (jm_se N) vi.toNatClampNeg vv; (jm_use N f4))) else (N))) else (N))
def sX4_set_2 (N : jm_T) (Hs : jh_T) (F : jf_T) (vi : Int32) (vv : Int32) : jh_T := if vi < 0 then (Hs) else (if vi < 5 then (if vv < (jz_lo vi.toNatClampNeg) then (Hs) else (if vv ≤ (jz_hi vi.toNatClampNeg) then (if vi = 4 then (let x5 : Int32 := rX2_fullestJar N; if x5 ≤ vv then (let S6 : jh_T := jh_rec Hs; let S7 : jf_T := jf_u F (jh_ix Hs).toNatClampNeg N; let f9 : (Nat → Int32) := upd (jm_se N) vi.toNatClampNeg vv; S6) else (Hs)) else (let S1 : jh_T := jh_rec Hs; let S2 : jf_T := jf_u F (jh_ix Hs).toNatClampNeg N; let f4 : (Nat → Int32) := upd (jm_se N) vi.toNatClampNeg vv; S1)) else (Hs))) else (Hs))
def sX4_set_3 (N : jm_T) (Hs : jh_T) (F : jf_T) (vi : Int32) (vv : Int32) : jf_T := if vi < 0 then (F) else (if vi < 5 then (if vv < (jz_lo vi.toNatClampNeg) then (F) else (if vv ≤ (jz_hi vi.toNatClampNeg) then (if vi = 4 then (let x5 : Int32 := rX2_fullestJar N; if x5 ≤ vv then (let S6 : jh_T := jh_rec Hs; let S7 : jf_T := jf_u F (jh_ix Hs).toNatClampNeg N; let f9 : (Nat → Int32) := upd (jm_se N) vi.toNatClampNeg vv; S7) else (F)) else (let S1 : jh_T := jh_rec Hs; let S2 : jf_T := jf_u F (jh_ix Hs).toNatClampNeg N; let f4 : (Nat → Int32) := upd (jm_se N) vi.toNatClampNeg vv; S2)) else (F))) else (F))
set_option maxHeartbeats 1000000 in
set_option maxRecDepth 100000 in
theorem c_X4_set (l : Launch) (D : va_G) (g : jk_G) (tl tm : Nat) (xx : Nat → Nat) (n : Nat → Nat) (t : Nat → Nat) (h : Nat → Nat) (z : Nat → Nat) (d : Nat → Nat) (b : Nat → Nat) (N : jm_T) (p : (Nat → Nat → Nat)) (F : jf_T) (Hs : jh_T) (vi : Int32) (vv : Int32)  : jk_C l D g (jk_Z tl tm) yX4_set wsX4_set 4 125 7 72 [.ref (xx 0), .int vi, .int vv] (List.flatten [(jo_X xx (n 0) (t 0) (h 0) (z 0) (d 0) (b 0)), (jm_W g n N), (jh_X g h p F Hs), (jf_X g 6 p F)]) (some (.int (rX4_set N Hs F vi vv))) (fun o : Nat → Nat → Nat => (List.flatten [(jo_X xx (n 0) (t 0) (h 0) (z 0) (d 0) (b 0)), (jm_W g n (sX4_set_1 N Hs F vi vv)), (jh_X g h o (sX4_set_3 N Hs F vi vv) (sX4_set_2 N Hs F vi vv)), (jf_X g 6 o (sX4_set_3 N Hs F vi vv))])) := by
  refine jk_ofC (cc := cX4_set) (maxL := 4) (ret := (some .int)) (by decide +kernel) rfl (Nat.le_of_ble_eq_true rfl) ?_
  intro pp e s m args below meth c hx hb hr hml hts hown hlocks hin hK hN A H locs hZ hsH hP hD hA hS ls hl
  have hown : s.vm.findClass RX4 = some m.cls := hown
  have hl : lv_has ls 4 [(0, .ref (xx 0)), (1, .int vi), (2, .int vv)] := hl
  have hDu : ∀ (z1 : jm_T) (z2 : jh_T), va_D A (List.flatten [(jo_X xx (n 0) (t 0) (h 0) (z 0) (d 0) (b 0)), (jm_W g n z1), (jh_X g h p F z2), (jf_X g 6 p F)]) := fun z1 z2 => jk_D.same hD rfl
  have hk_42 := hts (.constant RX4 42 (-1000002)) (by decide +kernel)
  have hf_43 := hts (.fieldLink RX4 43 "InfluenceJars" "LEAST_SETTING" "[I") (by decide +kernel)
  have hf_47 := hts (.fieldLink RX4 47 "InfluenceJars" "MOST_SETTING" "[I") (by decide +kernel)
  have hf_22 := hts (.fieldLink RX4 22 "InfluenceJars" "history" "LInfluenceJars$History;") (by decide +kernel)
  have hi_4 : ∀ w ∈ u_ws RX4 TX4 6, w ∈ wsX4_set := by decide +kernel
  have hf_10 := hts (.fieldLink RX4 10 "InfluenceJars" "now" "LInfluenceJars$Machine;") (by decide +kernel)
  have hf_59 := hts (.fieldLink RX4 59 "InfluenceJars$Machine" "settings" "[I") (by decide +kernel)
  have hi_2 : ∀ w ∈ u_ws RX2 TX2 13, w ∈ wsX4_set := by decide +kernel
  have hk_54 := hts (.constant RX4 54 (-1000005)) (by decide +kernel)
  refine lv_iload_n hx hb dX4_set_0 rfl (lv_at hl 1 rfl) ?_
  refine lv_if_lt (tgt := 9) hx hb dX4_set_1 (by decide) (fun c_1 => ?_) (fun c_1 => ?_)
  · refine lv_ldc hx hb hown hk_42 dX4_set_9 ?_
    have es1 : N = sX4_set_1 N Hs F vi vv := (by unfold sX4_set_1; rw [if_pos c_1])
    have es2 : Hs = sX4_set_2 N Hs F vi vv := (by unfold sX4_set_2; rw [if_pos c_1])
    have es3 : F = sX4_set_3 N Hs F vi vv := (by unfold sX4_set_3; rw [if_pos c_1])
    exact jk_iretC p hx hb hr hlocks hP hD hS (Nat.le_of_ble_eq_true rfl) (Nat.le_of_ble_eq_true rfl) (by unfold rX4_set; rw [if_pos c_1]) (jk_cg3 (fun z1 z2 z3 => (List.flatten [(jo_X xx (n 0) (t 0) (h 0) (z 0) (d 0) (b 0)), (jm_W g n z1), (jh_X g h p z3 z2), (jf_X g 6 p z3)])) es1 es2 es3) dX4_set_11
  · refine lv_iload_n hx hb dX4_set_4 rfl (lv_at hl 1 rfl) ?_
    refine lv_iconst (v := 5) hx hb dX4_set_5 (by decide) ?_
    refine lv_icmp_lt (tgt := 12) hx hb dX4_set_6 (by decide) (fun c_6 => ?_) (fun c_6 => ?_)
    · refine lv_iload_n hx hb dX4_set_12 rfl (lv_at hl 2 rfl) ?_
      refine va_gets hx hb hZ.1 hS hown hf_43 (fun _ h9 => h9) dX4_set_13 ?_
      refine lv_iload_n hx hb dX4_set_16 rfl (lv_at hl 1 rfl) ?_
      refine va_ti (v := .int (jz_lo vi.toNatClampNeg)) hx hb hZ.2.2.1 hS (j2_in c_1 c_6 (by decide)) rfl dX4_set_17 ?_
      refine lv_icmp_lt (tgt := 30) hx hb dX4_set_18 (by decide) (fun c_18 => ?_) (fun c_18 => ?_)
      · refine lv_ldc hx hb hown hk_42 dX4_set_30 ?_
        have es1 : N = sX4_set_1 N Hs F vi vv := (by unfold sX4_set_1; rw [if_neg c_1, if_pos c_6, if_pos c_18])
        have es2 : Hs = sX4_set_2 N Hs F vi vv := (by unfold sX4_set_2; rw [if_neg c_1, if_pos c_6, if_pos c_18])
        have es3 : F = sX4_set_3 N Hs F vi vv := (by unfold sX4_set_3; rw [if_neg c_1, if_pos c_6, if_pos c_18])
        exact jk_iretC p hx hb hr hlocks hP hD hS (Nat.le_of_ble_eq_true rfl) (Nat.le_of_ble_eq_true rfl) (by unfold rX4_set; rw [if_neg c_1, if_pos c_6, if_pos c_18]) (jk_cg3 (fun z1 z2 z3 => (List.flatten [(jo_X xx (n 0) (t 0) (h 0) (z 0) (d 0) (b 0)), (jm_W g n z1), (jh_X g h p z3 z2), (jf_X g 6 p z3)])) es1 es2 es3) dX4_set_32
      · refine lv_iload_n hx hb dX4_set_21 rfl (lv_at hl 2 rfl) ?_
        refine va_gets hx hb hZ.2.1 hS hown hf_47 (fun _ h9 => h9) dX4_set_22 ?_
        refine lv_iload_n hx hb dX4_set_25 rfl (lv_at hl 1 rfl) ?_
        refine va_ti (v := .int (jz_hi vi.toNatClampNeg)) hx hb hZ.2.2.2 hS (j2_in c_1 c_6 (by decide)) rfl dX4_set_26 ?_
        refine lv_icmp_le (tgt := 33) hx hb dX4_set_27 (by decide) (fun c_27 => ?_) (fun c_27 => ?_)
        · refine lv_iload_n hx hb dX4_set_33 rfl (lv_at hl 1 rfl) ?_
          refine lv_iconst (v := 4) hx hb dX4_set_34 (by decide) ?_
          refine lv_icmp_ne (tgt := 52) hx hb dX4_set_35 (by decide) (fun c_35 => ?_) (fun c_35 => ?_)
          · refine lv_aload_n hx hb dX4_set_52 rfl (lv_at hl 0 rfl) ?_
            refine va_get (D := D) (ci := 4) (v := .ref (h 0)) (C := RX4) (T := TX4) (N := 6) hx hb hts hi_4 hown hK hP 0 rfl rfl 2 (by decide) hf_22 (fun _ h9 => h9) rfl dX4_set_53 ?_
            refine lv_aload_n hx hb dX4_set_56 rfl (lv_at hl 0 rfl) ?_
            refine va_get (D := D) (ci := 4) (v := .ref (n 0)) (C := RX4) (T := TX4) (N := 6) hx hb hts hi_4 hown hK hP 0 rfl rfl 0 (by decide) hf_10 (fun _ h9 => h9) rfl dX4_set_57 ?_
            obtain ⟨S1, eS1⟩ : ∃ z : jh_T, z = jh_rec Hs := ⟨_, rfl⟩
            obtain ⟨S2, eS2⟩ : ∃ z : jf_T, z = jf_u F (jh_ix Hs).toNatClampNeg N := ⟨_, rfl⟩
            have hDc := (show va_D A (List.flatten [(jh_X g h p F Hs), (jm_W g n N), (jf_X g 6 p F)]) from  (jk_segSubD (L := [(jo_X xx (n 0) (t 0) (h 0) (z 0) (d 0) (b 0)), (jm_W g n N), (jh_X g h p F Hs), (jf_X g 6 p F)]) hD [2, 1, 3] (by decide)))
            refine jk_callVC (As := [.ref (n 0)]) (rest := []) (ws1 := fun p3 => (List.flatten [(jo_X xx (n 0) (t 0) (h 0) (z 0) (d 0) (b 0)), (jm_W g n N), (jh_X g h p3 S2 S1), (jf_X g 6 p3 S2)])) ⟨hx, hb, hml, hown, hts⟩ (c_X1_record l D g h p F Hs n N) (fun _ _ _ _ _ h => h) (fun _ _ _ => trivial) (cwV 1 hts gX4_set_X1_record rfl rfl rfl (by decide +kernel) ⟨Nat.le_of_ble_eq_true rfl, Nat.le_of_ble_eq_true rfl⟩) (va_recv hK hP (ci := 1) (q0 := 8) rfl rfl) (show va_P D vwCl (List.flatten [(jh_X g h p F Hs), (jm_W g n N), (jf_X g 6 p F)]) H from  (jk_segSub (L := [(jo_X xx (n 0) (t 0) (h 0) (z 0) (d 0) (b 0)), (jm_W g n N), (jh_X g h p F Hs), (jf_X g 6 p F)]) hP [2, 1, 3])) hDc hK hN rfl hl rfl (Nat.le_of_ble_eq_true rfl) dX4_set_60 ⟨Nat.le_of_ble_eq_true rfl, Nat.le_of_ble_eq_true rfl⟩ hS hA (fun p3 => jk_seg (L := [(jo_X xx (n 0) (t 0) (h 0) (z 0) (d 0) (b 0)), (jm_W g n N), (jh_X g h p F Hs), (jf_X g 6 p F)]) (L' := [(jo_X xx (n 0) (t 0) (h 0) (z 0) (d 0) (b 0)), (jm_W g n N), (jh_X g h p3 S2 S1), (jf_X g 6 p3 S2)]) (T := [(jh_X g h p3 S2 S1), (jm_W g n N), (jf_X g 6 p3 S2)]) hP hD [2, 1, 3] [(false, 0), (true, 1), (true, 0), (true, 2)] (by rw [eS1, eS2]; try rfl) (by decide) rfl) (fun p3 => jk_segD (L := [(jo_X xx (n 0) (t 0) (h 0) (z 0) (d 0) (b 0)), (jm_W g n N), (jh_X g h p F Hs), (jf_X g 6 p F)]) (L' := [(jo_X xx (n 0) (t 0) (h 0) (z 0) (d 0) (b 0)), (jm_W g n N), (jh_X g h p3 S2 S1), (jf_X g 6 p3 S2)]) (T := [(jh_X g h p3 S2 S1), (jm_W g n N), (jf_X g 6 p3 S2)]) hP hD [2, 1, 3] [(false, 0), (true, 1), (true, 0), (true, 2)] (by rw [eS1, eS2]; try rfl) (by decide) (by decide) rfl (fun _ h => h) (jk_freeA hDc hS hA)) (fun p3 H locs hP hD hS => ?_)
            refine W.eq (g2 := F0 m 63 ls []) rfl ?_
            have hD : va_D A (List.flatten [(jo_X xx (n 0) (t 0) (h 0) (z 0) (d 0) (b 0)), (jm_W g n N), (jh_X g h p3 S2 S1), (jf_X g 6 p3 S2)]) := hD
            have hP : va_P D vwCl (List.flatten [(jo_X xx (n 0) (t 0) (h 0) (z 0) (d 0) (b 0)), (jm_W g n N), (jh_X g h p3 S2 S1), (jf_X g 6 p3 S2)]) H := hP
            have hDu : ∀ (z1 : jm_T) (z2 : jh_T), va_D A (List.flatten [(jo_X xx (n 0) (t 0) (h 0) (z 0) (d 0) (b 0)), (jm_W g n z1), (jh_X g h p3 S2 z2), (jf_X g 6 p3 S2)]) := fun z1 z2 => jk_D.same hD rfl
            refine lv_aload_n hx hb dX4_set_63 rfl (lv_at hl 0 rfl) ?_
            refine va_get (D := D) (ci := 4) (v := .ref (n 0)) (C := RX4) (T := TX4) (N := 6) hx hb hts hi_4 hown hK hP 0 rfl rfl 0 (by decide) hf_10 (fun _ h9 => h9) rfl dX4_set_64 ?_
            refine va_get (D := D) (ci := 2) (v := .ref (n 1)) (C := RX2) (T := TX2) (N := 13) hx hb hts hi_2 hown hK hP 1 rfl rfl 0 (by decide) hf_59 (fun _ h9 => h9) rfl dX4_set_67 ?_
            refine lv_iload_n hx hb dX4_set_70 rfl (lv_at hl 1 rfl) ?_
            refine va_iald (f := (jm_se N)) hx hb hK hP 2 0 rfl rfl (j2_in c_1 c_6 (by decide)) dX4_set_71 ?_
            refine lv_istore_n (lv' := [(3, .int ((jm_se N) vi.toNatClampNeg)), (0, .ref (xx 0)), (1, .int vi), (2, .int vv)]) hx hb dX4_set_72 rfl hl (by decide) rfl (fun ls hl => ?_)
            refine lv_aload_n hx hb dX4_set_73 rfl (lv_at hl 1 rfl) ?_
            refine va_get (D := D) (ci := 4) (v := .ref (n 0)) (C := RX4) (T := TX4) (N := 6) hx hb hts hi_4 hown hK hP 0 rfl rfl 0 (by decide) hf_10 (fun _ h9 => h9) rfl dX4_set_74 ?_
            refine va_get (D := D) (ci := 2) (v := .ref (n 1)) (C := RX2) (T := TX2) (N := 13) hx hb hts hi_2 hown hK hP 1 rfl rfl 0 (by decide) hf_59 (fun _ h9 => h9) rfl dX4_set_77 ?_
            refine lv_iload_n hx hb dX4_set_80 rfl (lv_at hl 2 rfl) ?_
            refine lv_iload_n hx hb dX4_set_81 rfl (lv_at hl 3 rfl) ?_
            refine va_iast (f := (jm_se N)) hx hb hK hP hD hS 2 0 rfl rfl (j2_in c_1 c_6 (by decide)) dX4_set_82 (fun H locs hP hD hS => ?_)
            obtain ⟨f4, ef4⟩ : ∃ z : Nat → Int32, z = (upd (jm_se N) vi.toNatClampNeg vv) := ⟨_, rfl⟩
            rw [← ef4] at hP hD
            have hP : va_P D vwCl (List.flatten [(jo_X xx (n 0) (t 0) (h 0) (z 0) (d 0) (b 0)), (jm_W g n (jm_use N f4)), (jh_X g h p3 S2 S1), (jf_X g 6 p3 S2)]) H := hP
            have hD : va_D A (List.flatten [(jo_X xx (n 0) (t 0) (h 0) (z 0) (d 0) (b 0)), (jm_W g n (jm_use N f4)), (jh_X g h p3 S2 S1), (jf_X g 6 p3 S2)]) := hD
            refine lv_iload_n hx hb dX4_set_83 rfl (lv_at hl 0 rfl) ?_
            have qef4 := ef4.symm; subst qef4
            have qeS2 := eS2.symm; subst qeS2
            have qeS1 := eS1.symm; subst qeS1
            have es1 : (jm_use N (upd (jm_se N) vi.toNatClampNeg vv)) = sX4_set_1 N Hs F vi vv := (by unfold sX4_set_1; rw [if_neg c_1, if_pos c_6, if_neg c_18, if_pos c_27, if_neg c_35])
            have es2 : (jh_rec Hs) = sX4_set_2 N Hs F vi vv := (by unfold sX4_set_2; rw [if_neg c_1, if_pos c_6, if_neg c_18, if_pos c_27, if_neg c_35])
            have es3 : (jf_u F (jh_ix Hs).toNatClampNeg N) = sX4_set_3 N Hs F vi vv := (by unfold sX4_set_3; rw [if_neg c_1, if_pos c_6, if_neg c_18, if_pos c_27, if_neg c_35])
            exact jk_iretC p3 hx hb hr hlocks hP hD hS (Nat.le_of_ble_eq_true rfl) (Nat.le_of_ble_eq_true rfl) (by unfold rX4_set; rw [if_neg c_1, if_pos c_6, if_neg c_18, if_pos c_27, if_neg c_35]) (jk_cg3 (fun z1 z2 z3 => (List.flatten [(jo_X xx (n 0) (t 0) (h 0) (z 0) (d 0) (b 0)), (jm_W g n z1), (jh_X g h p3 z3 z2), (jf_X g 6 p3 z3)])) es1 es2 es3) dX4_set_84
          · refine lv_aload_n hx hb dX4_set_38 rfl (lv_at hl 0 rfl) ?_
            refine va_get (D := D) (ci := 4) (v := .ref (n 0)) (C := RX4) (T := TX4) (N := 6) hx hb hts hi_4 hown hK hP 0 rfl rfl 0 (by decide) hf_10 (fun _ h9 => h9) rfl dX4_set_39 ?_
            refine jk_callV (As := []) (rest := []) (ws1 := (List.flatten [(jo_X xx (n 0) (t 0) (h 0) (z 0) (d 0) (b 0)), (jm_W g n N), (jh_X g h p F Hs), (jf_X g 6 p F)])) ⟨hx, hb, hml, hown, hts⟩ (c_X2_fullestJar l D g n N) (cwV 0 hts gX4_set_X2_fullestJar rfl rfl rfl (by decide +kernel) ⟨Nat.le_of_ble_eq_true rfl, Nat.le_of_ble_eq_true rfl⟩) (va_recv hK hP (ci := 2) (q0 := 1) rfl rfl) (show va_P D vwCl (jm_W g n N) H from jk_one.mp (jk_segSub (L := [(jo_X xx (n 0) (t 0) (h 0) (z 0) (d 0) (b 0)), (jm_W g n N), (jh_X g h p F Hs), (jf_X g 6 p F)]) hP [1])) (show va_D A (jm_W g n N) from jk_oneD.mp (jk_segSubD (L := [(jo_X xx (n 0) (t 0) (h 0) (z 0) (d 0) (b 0)), (jm_W g n N), (jh_X g h p F Hs), (jf_X g 6 p F)]) hD [1] (by decide))) hK hN rfl hl rfl (Nat.le_of_ble_eq_true rfl) dX4_set_42 ⟨Nat.le_of_ble_eq_true rfl, Nat.le_of_ble_eq_true rfl⟩ hS hA (jk_seg1 (L := [(jo_X xx (n 0) (t 0) (h 0) (z 0) (d 0) (b 0)), (jm_W g n N), (jh_X g h p F Hs), (jf_X g 6 p F)]) (L' := [(jo_X xx (n 0) (t 0) (h 0) (z 0) (d 0) (b 0)), (jm_W g n N), (jh_X g h p F Hs), (jf_X g 6 p F)]) (T := (jm_W g n N)) hP hD 1 [(false, 0), (true, 0), (false, 2), (false, 3)] (by decide) rfl) (fun H locs hP hS => ?_)
            refine W.eq (g2 := F0 m 45 ls [.int (rX2_fullestJar N)]) rfl ?_
            refine lv_topi (fun x5 ex5 => ?_)
            refine lv_iload_n hx hb dX4_set_45 rfl (lv_at hl 2 rfl) ?_
            refine lv_icmp_le (tgt := 52) hx hb dX4_set_46 (by decide) (fun c_46 => ?_) (fun c_46 => ?_)
            · refine lv_aload_n hx hb dX4_set_52 rfl (lv_at hl 0 rfl) ?_
              refine va_get (D := D) (ci := 4) (v := .ref (h 0)) (C := RX4) (T := TX4) (N := 6) hx hb hts hi_4 hown hK hP 0 rfl rfl 2 (by decide) hf_22 (fun _ h9 => h9) rfl dX4_set_53 ?_
              refine lv_aload_n hx hb dX4_set_56 rfl (lv_at hl 0 rfl) ?_
              refine va_get (D := D) (ci := 4) (v := .ref (n 0)) (C := RX4) (T := TX4) (N := 6) hx hb hts hi_4 hown hK hP 0 rfl rfl 0 (by decide) hf_10 (fun _ h9 => h9) rfl dX4_set_57 ?_
              obtain ⟨S6, eS6⟩ : ∃ z : jh_T, z = jh_rec Hs := ⟨_, rfl⟩
              obtain ⟨S7, eS7⟩ : ∃ z : jf_T, z = jf_u F (jh_ix Hs).toNatClampNeg N := ⟨_, rfl⟩
              have hDc := (show va_D A (List.flatten [(jh_X g h p F Hs), (jm_W g n N), (jf_X g 6 p F)]) from  (jk_segSubD (L := [(jo_X xx (n 0) (t 0) (h 0) (z 0) (d 0) (b 0)), (jm_W g n N), (jh_X g h p F Hs), (jf_X g 6 p F)]) hD [2, 1, 3] (by decide)))
              refine jk_callVC (As := [.ref (n 0)]) (rest := []) (ws1 := fun p8 => (List.flatten [(jo_X xx (n 0) (t 0) (h 0) (z 0) (d 0) (b 0)), (jm_W g n N), (jh_X g h p8 S7 S6), (jf_X g 6 p8 S7)])) ⟨hx, hb, hml, hown, hts⟩ (c_X1_record l D g h p F Hs n N) (fun _ _ _ _ _ h => h) (fun _ _ _ => trivial) (cwV 1 hts gX4_set_X1_record rfl rfl rfl (by decide +kernel) ⟨Nat.le_of_ble_eq_true rfl, Nat.le_of_ble_eq_true rfl⟩) (va_recv hK hP (ci := 1) (q0 := 8) rfl rfl) (show va_P D vwCl (List.flatten [(jh_X g h p F Hs), (jm_W g n N), (jf_X g 6 p F)]) H from  (jk_segSub (L := [(jo_X xx (n 0) (t 0) (h 0) (z 0) (d 0) (b 0)), (jm_W g n N), (jh_X g h p F Hs), (jf_X g 6 p F)]) hP [2, 1, 3])) hDc hK hN rfl hl rfl (Nat.le_of_ble_eq_true rfl) dX4_set_60 ⟨Nat.le_of_ble_eq_true rfl, Nat.le_of_ble_eq_true rfl⟩ hS hA (fun p8 => jk_seg (L := [(jo_X xx (n 0) (t 0) (h 0) (z 0) (d 0) (b 0)), (jm_W g n N), (jh_X g h p F Hs), (jf_X g 6 p F)]) (L' := [(jo_X xx (n 0) (t 0) (h 0) (z 0) (d 0) (b 0)), (jm_W g n N), (jh_X g h p8 S7 S6), (jf_X g 6 p8 S7)]) (T := [(jh_X g h p8 S7 S6), (jm_W g n N), (jf_X g 6 p8 S7)]) hP hD [2, 1, 3] [(false, 0), (true, 1), (true, 0), (true, 2)] (by rw [eS6, eS7]; try rfl) (by decide) rfl) (fun p8 => jk_segD (L := [(jo_X xx (n 0) (t 0) (h 0) (z 0) (d 0) (b 0)), (jm_W g n N), (jh_X g h p F Hs), (jf_X g 6 p F)]) (L' := [(jo_X xx (n 0) (t 0) (h 0) (z 0) (d 0) (b 0)), (jm_W g n N), (jh_X g h p8 S7 S6), (jf_X g 6 p8 S7)]) (T := [(jh_X g h p8 S7 S6), (jm_W g n N), (jf_X g 6 p8 S7)]) hP hD [2, 1, 3] [(false, 0), (true, 1), (true, 0), (true, 2)] (by rw [eS6, eS7]; try rfl) (by decide) (by decide) rfl (fun _ h => h) (jk_freeA hDc hS hA)) (fun p8 H locs hP hD hS => ?_)
              refine W.eq (g2 := F0 m 63 ls []) rfl ?_
              have hD : va_D A (List.flatten [(jo_X xx (n 0) (t 0) (h 0) (z 0) (d 0) (b 0)), (jm_W g n N), (jh_X g h p8 S7 S6), (jf_X g 6 p8 S7)]) := hD
              have hP : va_P D vwCl (List.flatten [(jo_X xx (n 0) (t 0) (h 0) (z 0) (d 0) (b 0)), (jm_W g n N), (jh_X g h p8 S7 S6), (jf_X g 6 p8 S7)]) H := hP
              have hDu : ∀ (z1 : jm_T) (z2 : jh_T), va_D A (List.flatten [(jo_X xx (n 0) (t 0) (h 0) (z 0) (d 0) (b 0)), (jm_W g n z1), (jh_X g h p8 S7 z2), (jf_X g 6 p8 S7)]) := fun z1 z2 => jk_D.same hD rfl
              refine lv_aload_n hx hb dX4_set_63 rfl (lv_at hl 0 rfl) ?_
              refine va_get (D := D) (ci := 4) (v := .ref (n 0)) (C := RX4) (T := TX4) (N := 6) hx hb hts hi_4 hown hK hP 0 rfl rfl 0 (by decide) hf_10 (fun _ h9 => h9) rfl dX4_set_64 ?_
              refine va_get (D := D) (ci := 2) (v := .ref (n 1)) (C := RX2) (T := TX2) (N := 13) hx hb hts hi_2 hown hK hP 1 rfl rfl 0 (by decide) hf_59 (fun _ h9 => h9) rfl dX4_set_67 ?_
              refine lv_iload_n hx hb dX4_set_70 rfl (lv_at hl 1 rfl) ?_
              refine va_iald (f := (jm_se N)) hx hb hK hP 2 0 rfl rfl (j2_in c_1 c_6 (by decide)) dX4_set_71 ?_
              refine lv_istore_n (lv' := [(3, .int ((jm_se N) vi.toNatClampNeg)), (0, .ref (xx 0)), (1, .int vi), (2, .int vv)]) hx hb dX4_set_72 rfl hl (by decide) rfl (fun ls hl => ?_)
              refine lv_aload_n hx hb dX4_set_73 rfl (lv_at hl 1 rfl) ?_
              refine va_get (D := D) (ci := 4) (v := .ref (n 0)) (C := RX4) (T := TX4) (N := 6) hx hb hts hi_4 hown hK hP 0 rfl rfl 0 (by decide) hf_10 (fun _ h9 => h9) rfl dX4_set_74 ?_
              refine va_get (D := D) (ci := 2) (v := .ref (n 1)) (C := RX2) (T := TX2) (N := 13) hx hb hts hi_2 hown hK hP 1 rfl rfl 0 (by decide) hf_59 (fun _ h9 => h9) rfl dX4_set_77 ?_
              refine lv_iload_n hx hb dX4_set_80 rfl (lv_at hl 2 rfl) ?_
              refine lv_iload_n hx hb dX4_set_81 rfl (lv_at hl 3 rfl) ?_
              refine va_iast (f := (jm_se N)) hx hb hK hP hD hS 2 0 rfl rfl (j2_in c_1 c_6 (by decide)) dX4_set_82 (fun H locs hP hD hS => ?_)
              obtain ⟨f9, ef9⟩ : ∃ z : Nat → Int32, z = (upd (jm_se N) vi.toNatClampNeg vv) := ⟨_, rfl⟩
              rw [← ef9] at hP hD
              have hP : va_P D vwCl (List.flatten [(jo_X xx (n 0) (t 0) (h 0) (z 0) (d 0) (b 0)), (jm_W g n (jm_use N f9)), (jh_X g h p8 S7 S6), (jf_X g 6 p8 S7)]) H := hP
              have hD : va_D A (List.flatten [(jo_X xx (n 0) (t 0) (h 0) (z 0) (d 0) (b 0)), (jm_W g n (jm_use N f9)), (jh_X g h p8 S7 S6), (jf_X g 6 p8 S7)]) := hD
              refine lv_iload_n hx hb dX4_set_83 rfl (lv_at hl 0 rfl) ?_
              have qef9 := ef9.symm; subst qef9
              have qeS7 := eS7.symm; subst qeS7
              have qeS6 := eS6.symm; subst qeS6
              have qex5 := ex5.symm; subst qex5
              have es1 : (jm_use N (upd (jm_se N) vi.toNatClampNeg vv)) = sX4_set_1 N Hs F vi vv := (by unfold sX4_set_1; rw [if_neg c_1, if_pos c_6, if_neg c_18, if_pos c_27, if_pos c_35, if_pos c_46])
              have es2 : (jh_rec Hs) = sX4_set_2 N Hs F vi vv := (by unfold sX4_set_2; rw [if_neg c_1, if_pos c_6, if_neg c_18, if_pos c_27, if_pos c_35, if_pos c_46])
              have es3 : (jf_u F (jh_ix Hs).toNatClampNeg N) = sX4_set_3 N Hs F vi vv := (by unfold sX4_set_3; rw [if_neg c_1, if_pos c_6, if_neg c_18, if_pos c_27, if_pos c_35, if_pos c_46])
              exact jk_iretC p8 hx hb hr hlocks hP hD hS (Nat.le_of_ble_eq_true rfl) (Nat.le_of_ble_eq_true rfl) (by unfold rX4_set; rw [if_neg c_1, if_pos c_6, if_neg c_18, if_pos c_27, if_pos c_35, if_pos c_46]) (jk_cg3 (fun z1 z2 z3 => (List.flatten [(jo_X xx (n 0) (t 0) (h 0) (z 0) (d 0) (b 0)), (jm_W g n z1), (jh_X g h p8 z3 z2), (jf_X g 6 p8 z3)])) es1 es2 es3) dX4_set_84
            · refine lv_ldc hx hb hown hk_54 dX4_set_49 ?_
              have qex5 := ex5.symm; subst qex5
              have es1 : N = sX4_set_1 N Hs F vi vv := (by unfold sX4_set_1; rw [if_neg c_1, if_pos c_6, if_neg c_18, if_pos c_27, if_pos c_35, if_neg c_46])
              have es2 : Hs = sX4_set_2 N Hs F vi vv := (by unfold sX4_set_2; rw [if_neg c_1, if_pos c_6, if_neg c_18, if_pos c_27, if_pos c_35, if_neg c_46])
              have es3 : F = sX4_set_3 N Hs F vi vv := (by unfold sX4_set_3; rw [if_neg c_1, if_pos c_6, if_neg c_18, if_pos c_27, if_pos c_35, if_neg c_46])
              exact jk_iretC p hx hb hr hlocks hP hD hS (Nat.le_of_ble_eq_true rfl) (Nat.le_of_ble_eq_true rfl) (by unfold rX4_set; rw [if_neg c_1, if_pos c_6, if_neg c_18, if_pos c_27, if_pos c_35, if_neg c_46]) (jk_cg3 (fun z1 z2 z3 => (List.flatten [(jo_X xx (n 0) (t 0) (h 0) (z 0) (d 0) (b 0)), (jm_W g n z1), (jh_X g h p z3 z2), (jf_X g 6 p z3)])) es1 es2 es3) dX4_set_51
        · refine lv_ldc hx hb hown hk_42 dX4_set_30 ?_
          have es1 : N = sX4_set_1 N Hs F vi vv := (by unfold sX4_set_1; rw [if_neg c_1, if_pos c_6, if_neg c_18, if_neg c_27])
          have es2 : Hs = sX4_set_2 N Hs F vi vv := (by unfold sX4_set_2; rw [if_neg c_1, if_pos c_6, if_neg c_18, if_neg c_27])
          have es3 : F = sX4_set_3 N Hs F vi vv := (by unfold sX4_set_3; rw [if_neg c_1, if_pos c_6, if_neg c_18, if_neg c_27])
          exact jk_iretC p hx hb hr hlocks hP hD hS (Nat.le_of_ble_eq_true rfl) (Nat.le_of_ble_eq_true rfl) (by unfold rX4_set; rw [if_neg c_1, if_pos c_6, if_neg c_18, if_neg c_27]) (jk_cg3 (fun z1 z2 z3 => (List.flatten [(jo_X xx (n 0) (t 0) (h 0) (z 0) (d 0) (b 0)), (jm_W g n z1), (jh_X g h p z3 z2), (jf_X g 6 p z3)])) es1 es2 es3) dX4_set_32
    · refine lv_ldc hx hb hown hk_42 dX4_set_9 ?_
      have es1 : N = sX4_set_1 N Hs F vi vv := (by unfold sX4_set_1; rw [if_neg c_1, if_neg c_6])
      have es2 : Hs = sX4_set_2 N Hs F vi vv := (by unfold sX4_set_2; rw [if_neg c_1, if_neg c_6])
      have es3 : F = sX4_set_3 N Hs F vi vv := (by unfold sX4_set_3; rw [if_neg c_1, if_neg c_6])
      exact jk_iretC p hx hb hr hlocks hP hD hS (Nat.le_of_ble_eq_true rfl) (Nat.le_of_ble_eq_true rfl) (by unfold rX4_set; rw [if_neg c_1, if_neg c_6]) (jk_cg3 (fun z1 z2 z3 => (List.flatten [(jo_X xx (n 0) (t 0) (h 0) (z 0) (d 0) (b 0)), (jm_W g n z1), (jh_X g h p z3 z2), (jf_X g 6 p z3)])) es1 es2 es3) dX4_set_11
