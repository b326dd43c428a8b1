def rX4_undo_0 (N : jm_T) (Hs : jh_T) : Int32 := (-1000005)
set_option maxHeartbeats 1000000 in
set_option maxRecDepth 100000 in
theorem c_X4_undo_0 (l : Launch) (D : va_G) (g : jk_G) (xx : Nat → Nat) (n : Nat → Nat) (t : Nat → Nat) (h : Nat → Nat) (z : Nat → Nat) (d : Nat → Nat) (b : Nat → Nat) (N : jm_T) (p : (Nat → Nat → Nat)) (F : jf_T) (Hs : jh_T) (hz : jh_sz Hs = 0) : jk_M l D g yX4_undo wsX4_undo 1 22 [.ref (xx 0)] (List.flatten [(jo_X xx (n 0) (t 0) (h 0) (z 0) (d 0) (b 0)), (jm_W g n N), (jh_X g h p F Hs)]) (some (.int (rX4_undo_0 N Hs))) (List.flatten [(jo_X xx (n 0) (t 0) (h 0) (z 0) (d 0) (b 0)), (jm_W g n N), (jh_X g h p F Hs)]) := by
  refine jk_of (cc := cX4_undo) (maxL := 1) (ret := (some .int)) (by decide +kernel) rfl (Nat.le_of_ble_eq_true rfl) ?_
  intro pp e s m args below meth c hx hb hr hml hts hown hlocks hK hN A H locs hP hD hA hS ls hl
  have hown : s.vm.findClass RX4 = some m.cls := hown
  have hl : lv_has ls 1 [(0, .ref (xx 0))] := hl
  have hDu : ∀ (z1 : jm_T) (z2 : jh_T), va_D A (List.flatten [(jo_X xx (n 0) (t 0) (h 0) (z 0) (d 0) (b 0)), (jm_W g n z1), (jh_X g h p F z2)]) := fun z1 z2 => jk_D.same hD rfl
  have hf_22 := hts (.fieldLink RX4 22 "InfluenceJars" "history" "LInfluenceJars$History;") (by decide +kernel)
  have hi_4 : ∀ w ∈ u_ws RX4 TX4 6, w ∈ wsX4_undo := by decide +kernel
  have hf_10 := hts (.fieldLink RX4 10 "InfluenceJars" "now" "LInfluenceJars$Machine;") (by decide +kernel)
  have hk_54 := hts (.constant RX4 54 (-1000005)) (by decide +kernel)
  refine lv_aload_n hx hb dX4_undo_0 rfl (lv_at hl 0 rfl) ?_
  refine va_get (D := D) (ci := 4) (v := .ref (h 0)) (C := RX4) (T := TX4) (N := 6) hx hb hts hi_4 hown hK hP 0 rfl rfl 2 (by decide) hf_22 (fun _ h9 => h9) rfl dX4_undo_1 ?_
  refine lv_aload_n hx hb dX4_undo_4 rfl (lv_at hl 0 rfl) ?_
  refine va_get (D := D) (ci := 4) (v := .ref (n 0)) (C := RX4) (T := TX4) (N := 6) hx hb hts hi_4 hown hK hP 0 rfl rfl 0 (by decide) hf_10 (fun _ h9 => h9) rfl dX4_undo_5 ?_
  refine jk_callV (As := [.ref (n 0)]) (rest := []) (ws1 := (List.flatten [(jo_X xx (n 0) (t 0) (h 0) (z 0) (d 0) (b 0)), (jm_W g n N), (jh_X g h p F Hs)])) ⟨hx, hb, hml, hown, hts⟩ (c_X1_takeBack_0 l D g h p F Hs n N hz) (cwV 1 hts gX4_undo_X1_takeBack rfl rfl rfl (by decide +kernel) ⟨Nat.le_of_ble_eq_true rfl, Nat.le_of_ble_eq_true rfl⟩) (va_recv hK hP (ci := 1) (q0 := 8) rfl rfl) (show va_P D vwCl (List.flatten [(jh_X g h p F Hs), (jm_W g n N)]) H from  (jk_segSub (L := [(jo_X xx (n 0) (t 0) (h 0) (z 0) (d 0) (b 0)), (jm_W g n N), (jh_X g h p F Hs)]) hP [2, 1])) (show va_D A (List.flatten [(jh_X g h p F Hs), (jm_W g n N)]) from  (jk_segSubD (L := [(jo_X xx (n 0) (t 0) (h 0) (z 0) (d 0) (b 0)), (jm_W g n N), (jh_X g h p F Hs)]) hD [2, 1] (by decide))) hK hN rfl hl rfl (Nat.le_of_ble_eq_true rfl) dX4_undo_8 ⟨Nat.zero_le _, Nat.zero_le _⟩ hS hA (jk_seg (L := [(jo_X xx (n 0) (t 0) (h 0) (z 0) (d 0) (b 0)), (jm_W g n N), (jh_X g h p F Hs)]) (L' := [(jo_X xx (n 0) (t 0) (h 0) (z 0) (d 0) (b 0)), (jm_W g n N), (jh_X g h p F Hs)]) (T := [(jh_X g h p F Hs), (jm_W g n N)]) hP hD [2, 1] [(false, 0), (true, 1), (true, 0)] rfl (by decide) rfl) (fun H locs hP hS => ?_)
  refine W.eq (g2 := F0 m 11 ls [.int 0]) rfl ?_
  refine lv_if_ne (tgt := 17) hx hb dX4_undo_11 (by decide) (fun c_11 => ?_) (fun c_11 => ?_)
  · exact absurd c_11 (by decide)
  · refine lv_ldc hx hb hown hk_54 dX4_undo_14 ?_
    exact jk_iret hx hb hr hlocks hP hS (by rfl) rfl dX4_undo_16

def rX4_undo_s (N : jm_T) (Hs : jh_T) (Mj : jm_T) : Int32 := let S1 : jh_T := (jh_usz Hs (jh_sz Hs - 1)); let S2 : jm_T := Mj; (jh_sz S1)
def sX4_undo_s_1 (N : jm_T) (Hs : jh_T) (Mj : jm_T) : jm_T := let S1 : jh_T := (jh_usz Hs (jh_sz Hs - 1)); let S2 : jm_T := Mj; S2
def sX4_undo_s_2 (N : jm_T) (Hs : jh_T) (Mj : jm_T) : jh_T := let S1 : jh_T := (jh_usz Hs (jh_sz Hs - 1)); let S2 : jm_T := Mj; S1
set_option maxHeartbeats 1000000 in
set_option maxRecDepth 100000 in
theorem c_X4_undo_s (l : Launch) (D : va_G) (g : jk_G) (xx : Nat → Nat) (n : Nat → Nat) (t : Nat → Nat) (h : Nat → Nat) (z : Nat → Nat) (d : Nat → Nat) (b : Nat → Nat) (N : jm_T) (p : (Nat → Nat → Nat)) (F : jf_T) (Hs : jh_T) (Mj : jm_T) (hz : ¬ jh_sz Hs = 0) (hF : F (jh_ib Hs).toNatClampNeg = some Mj) : jk_M l D g yX4_undo wsX4_undo 4 124 [.ref (xx 0)] (List.flatten [(jo_X xx (n 0) (t 0) (h 0) (z 0) (d 0) (b 0)), (jm_W g n N), (jh_X g h p F Hs), (jm_W g (p (jh_ib Hs).toNatClampNeg) Mj)]) (some (.int (rX4_undo_s N Hs Mj))) (List.flatten [(jo_X xx (n 0) (t 0) (h 0) (z 0) (d 0) (b 0)), (jm_W g n (sX4_undo_s_1 N Hs Mj)), (jh_X g h p F (sX4_undo_s_2 N Hs Mj)), (jm_W g (p (jh_ib Hs).toNatClampNeg) Mj)]) := by
  refine jk_of (cc := cX4_undo) (maxL := 1) (ret := (some .int)) (by decide +kernel) rfl (Nat.le_of_ble_eq_true rfl) ?_
  intro pp e s m args below meth c hx hb hr hml hts hown hlocks hK hN A H locs hP hD hA hS ls hl
  have hown : s.vm.findClass RX4 = some m.cls := hown
  have hl : lv_has ls 1 [(0, .ref (xx 0))] := hl
  have hDu : ∀ (z1 : jm_T) (z2 : jh_T) (z3 : jm_T), va_D A (List.flatten [(jo_X xx (n 0) (t 0) (h 0) (z 0) (d 0) (b 0)), (jm_W g n z1), (jh_X g h p F z2), (jm_W g (p (jh_ib Hs).toNatClampNeg) z3)]) := fun z1 z2 z3 => jk_D.same hD rfl
  have hf_22 := hts (.fieldLink RX4 22 "InfluenceJars" "history" "LInfluenceJars$History;") (by decide +kernel)
  have hi_4 : ∀ w ∈ u_ws RX4 TX4 6, w ∈ wsX4_undo := by decide +kernel
  have hf_10 := hts (.fieldLink RX4 10 "InfluenceJars" "now" "LInfluenceJars$Machine;") (by decide +kernel)
  have hf_186 := hts (.fieldLink RX4 186 "InfluenceJars$History" "size" "I") (by decide +kernel)
  have hi_1 : ∀ w ∈ u_ws RX1 TX1 3, w ∈ wsX4_undo := by decide +kernel
  refine lv_aload_n hx hb dX4_undo_0 rfl (lv_at hl 0 rfl) ?_
  refine va_get (D := D) (ci := 4) (v := .ref (h 0)) (C := RX4) (T := TX4) (N := 6) hx hb hts hi_4 hown hK hP 0 rfl rfl 2 (by decide) hf_22 (fun _ h9 => h9) rfl dX4_undo_1 ?_
  refine lv_aload_n hx hb dX4_undo_4 rfl (lv_at hl 0 rfl) ?_
  refine va_get (D := D) (ci := 4) (v := .ref (n 0)) (C := RX4) (T := TX4) (N := 6) hx hb hts hi_4 hown hK hP 0 rfl rfl 0 (by decide) hf_10 (fun _ h9 => h9) rfl dX4_undo_5 ?_
  obtain ⟨S1, eS1⟩ : ∃ z : jh_T, z = (jh_usz Hs (jh_sz Hs - 1)) := ⟨_, rfl⟩
  obtain ⟨S2, eS2⟩ : ∃ z : jm_T, z = Mj := ⟨_, rfl⟩
  refine jk_callV (As := [.ref (n 0)]) (rest := []) (ws1 := (List.flatten [(jo_X xx (n 0) (t 0) (h 0) (z 0) (d 0) (b 0)), (jm_W g n S2), (jh_X g h p F S1), (jm_W g (p (jh_ib Hs).toNatClampNeg) Mj)])) ⟨hx, hb, hml, hown, hts⟩ (c_X1_takeBack_s l D g h p F Hs n N Mj hz hF) (cwV 1 hts gX4_undo_X1_takeBack rfl rfl rfl (by decide +kernel) ⟨Nat.le_of_ble_eq_true rfl, Nat.le_of_ble_eq_true rfl⟩) (va_recv hK hP (ci := 1) (q0 := 8) rfl rfl) (show va_P D vwCl (List.flatten [(jh_X g h p F Hs), (jm_W g n N), (jm_W g (p (jh_ib Hs).toNatClampNeg) Mj)]) H from  (jk_segSub (L := [(jo_X xx (n 0) (t 0) (h 0) (z 0) (d 0) (b 0)), (jm_W g n N), (jh_X g h p F Hs), (jm_W g (p (jh_ib Hs).toNatClampNeg) Mj)]) hP [2, 1, 3])) (show va_D A (List.flatten [(jh_X g h p F Hs), (jm_W g n N), (jm_W g (p (jh_ib Hs).toNatClampNeg) Mj)]) from  (jk_segSubD (L := [(jo_X xx (n 0) (t 0) (h 0) (z 0) (d 0) (b 0)), (jm_W g n N), (jh_X g h p F Hs), (jm_W g (p (jh_ib Hs).toNatClampNeg) Mj)]) hD [2, 1, 3] (by decide))) hK hN rfl hl rfl (Nat.le_of_ble_eq_true rfl) dX4_undo_8 ⟨Nat.zero_le _, Nat.zero_le _⟩ hS hA (jk_seg (L := [(jo_X xx (n 0) (t 0) (h 0) (z 0) (d 0) (b 0)), (jm_W g n N), (jh_X g h p F Hs), (jm_W g (p (jh_ib Hs).toNatClampNeg) Mj)]) (L' := [(jo_X xx (n 0) (t 0) (h 0) (z 0) (d 0) (b 0)), (jm_W g n S2), (jh_X g h p F S1), (jm_W g (p (jh_ib Hs).toNatClampNeg) Mj)]) (T := [(jh_X g h p F S1), (jm_W g n S2), (jm_W g (p (jh_ib Hs).toNatClampNeg) Mj)]) hP hD [2, 1, 3] [(false, 0), (true, 1), (true, 0), (true, 2)] (by rw [eS1, eS2]; try rfl) (by decide) rfl) (fun H locs hP hS => ?_)
  refine W.eq (g2 := F0 m 11 ls [.int 1]) rfl ?_
  have hD : va_D A (List.flatten [(jo_X xx (n 0) (t 0) (h 0) (z 0) (d 0) (b 0)), (jm_W g n S2), (jh_X g h p F S1), (jm_W g (p (jh_ib Hs).toNatClampNeg) Mj)]) := hDu _ _ _
  refine lv_if_ne (tgt := 17) hx hb dX4_undo_11 (by decide) (fun c_11 => ?_) (fun c_11 => ?_)
  · refine lv_aload_n hx hb dX4_undo_17 rfl (lv_at hl 0 rfl) ?_
    refine va_get (D := D) (ci := 4) (v := .ref (h 0)) (C := RX4) (T := TX4) (N := 6) hx hb hts hi_4 hown hK hP 0 rfl rfl 2 (by decide) hf_22 (fun _ h9 => h9) rfl dX4_undo_18 ?_
    refine va_get (D := D) (ci := 1) (v := .int (jh_sz S1)) (C := RX1) (T := TX1) (N := 3) hx hb hts hi_1 hown hK hP 8 rfl rfl 2 (by decide) hf_186 (fun _ h9 => h9) rfl dX4_undo_21 ?_
    have qeS2 := eS2.symm; subst qeS2
    have qeS1 := eS1.symm; subst qeS1
    have es1 : Mj = sX4_undo_s_1 N Hs Mj := (by rfl)
    have es2 : (jh_usz Hs (jh_sz Hs - 1)) = sX4_undo_s_2 N Hs Mj := (by rfl)
    exact jk_iret hx hb hr hlocks hP hS (by rfl) (jk_cg2 (fun z1 z2 => (List.flatten [(jo_X xx (n 0) (t 0) (h 0) (z 0) (d 0) (b 0)), (jm_W g n z1), (jh_X g h p F z2), (jm_W g (p (jh_ib Hs).toNatClampNeg) Mj)])) es1 es2) dX4_undo_24
  · exact absurd c_11 (by decide)

set_option maxHeartbeats 1000000 in
set_option maxRecDepth 100000 in
theorem c_X4_save_e (l : Launch) (D : va_G) (g : jk_G) (xx : Nat → Nat) (n : Nat → Nat) (t : Nat → Nat) (h : Nat → Nat) (z : Nat → Nat) (d : Nat → Nat) (b : Nat → Nat) (vs : Int32) (he : vs < 0 ∨ ¬ vs < 2) : jk_M l D g yX4_save wsX4_save 0 0 [.ref (xx 0), .int vs] (jo_X xx (n 0) (t 0) (h 0) (z 0) (d 0) (b 0)) (some (.int (-1000002))) (jo_X xx (n 0) (t 0) (h 0) (z 0) (d 0) (b 0)) := by
  refine jk_of (cc := cX4_save) (maxL := 3) (ret := (some .int)) (by decide +kernel) rfl (Nat.le_of_ble_eq_true rfl) ?_
  intro p e s m args below meth c hx hb hr hml hts hown hlocks hK hN A H locs hP hD hA hS ls hl
  have hown : s.vm.findClass RX4 = some m.cls := hown
  have hl : lv_has ls 3 [(0, .ref (xx 0)), (1, .int vs)] := hl
  have hDu : va_D A (jo_X xx (n 0) (t 0) (h 0) (z 0) (d 0) (b 0)) := hD
  have hk_42 := hts (.constant RX4 42 (-1000002)) (by decide +kernel)
  refine lv_iload_n hx hb dX4_save_0 rfl (lv_at hl 1 rfl) ?_
  refine lv_if_lt (tgt := 9) hx hb dX4_save_1 (by decide) (fun c_1 => ?_) (fun c_1 => ?_)
  · refine lv_ldc hx hb hown hk_42 dX4_save_9 ?_
    exact jk_iret hx hb hr hlocks hP hS rfl rfl dX4_save_11
  · refine lv_iload_n hx hb dX4_save_4 rfl (lv_at hl 1 rfl) ?_
    refine lv_iconst (v := 2) hx hb dX4_save_5 (by decide) ?_
    refine lv_icmp_lt (tgt := 12) hx hb dX4_save_6 (by decide) (fun c_6 => ?_) (fun c_6 => ?_)
    · exact absurd he (by rintro (q | q); exact c_1 q; exact q c_6)
    · refine lv_ldc hx hb hown hk_42 dX4_save_9 ?_
      exact jk_iret hx hb hr hlocks hP hS rfl rfl dX4_save_11

set_option maxHeartbeats 1000000 in
set_option maxRecDepth 100000 in
theorem c_X4_restore_e (l : Launch) (D : va_G) (g : jk_G) (xx : Nat → Nat) (n : Nat → Nat) (t : Nat → Nat) (h : Nat → Nat) (z : Nat → Nat) (d : Nat → Nat) (b : Nat → Nat) (vs : Int32) (he : vs < 0 ∨ ¬ vs < 2) : jk_M l D g yX4_restore wsX4_restore 0 0 [.ref (xx 0), .int vs] (jo_X xx (n 0) (t 0) (h 0) (z 0) (d 0) (b 0)) (some (.int (-1000002))) (jo_X xx (n 0) (t 0) (h 0) (z 0) (d 0) (b 0)) := by
  refine jk_of (cc := cX4_restore) (maxL := 3) (ret := (some .int)) (by decide +kernel) rfl (Nat.le_of_ble_eq_true rfl) ?_
  intro p e s m args below meth c hx hb hr hml hts hown hlocks hK hN A H locs hP hD hA hS ls hl
  have hown : s.vm.findClass RX4 = some m.cls := hown
  have hl : lv_has ls 3 [(0, .ref (xx 0)), (1, .int vs)] := hl
  have hDu : va_D A (jo_X xx (n 0) (t 0) (h 0) (z 0) (d 0) (b 0)) := hD
  have hk_42 := hts (.constant RX4 42 (-1000002)) (by decide +kernel)
  refine lv_iload_n hx hb dX4_restore_0 rfl (lv_at hl 1 rfl) ?_
  refine lv_if_lt (tgt := 9) hx hb dX4_restore_1 (by decide) (fun c_1 => ?_) (fun c_1 => ?_)
  · refine lv_ldc hx hb hown hk_42 dX4_restore_9 ?_
    exact jk_iret hx hb hr hlocks hP hS rfl rfl dX4_restore_11
  · refine lv_iload_n hx hb dX4_restore_4 rfl (lv_at hl 1 rfl) ?_
    refine lv_iconst (v := 2) hx hb dX4_restore_5 (by decide) ?_
    refine lv_icmp_lt (tgt := 12) hx hb dX4_restore_6 (by decide) (fun c_6 => ?_) (fun c_6 => ?_)
    · exact absurd he (by rintro (q | q); exact c_1 q; exact q c_6)
    · refine lv_ldc hx hb hown hk_42 dX4_restore_9 ?_
      exact jk_iret hx hb hr hlocks hP hS rfl rfl dX4_restore_11

set_option maxHeartbeats 1000000 in
set_option maxRecDepth 100000 in
theorem c_X4_save_n (l : Launch) (D : va_G) (g : jk_G) (xx : Nat → Nat) (n : Nat → Nat) (t : Nat → Nat) (h : Nat → Nat) (z : Nat → Nat) (d : Nat → Nat) (b : Nat → Nat) (N : jm_T) (u : (Nat → Nat → Nat)) (G : jf_T) (vs : Int32) (hv0 : ¬ vs < 0) (hv2 : vs < 2) (hG : G vs.toNatClampNeg = none) : jk_C l D g jk_noZ yX4_save wsX4_save 3 102 7 72 [.ref (xx 0), .int vs] (List.flatten [(jo_X xx (n 0) (t 0) (h 0) (z 0) (d 0) (b 0)), (jm_W g n N), (js_X g z u G)]) (some (.int (jm_tu N))) (fun o : Nat → Nat => List.flatten [(jo_X xx (n 0) (t 0) (h 0) (z 0) (d 0) (b 0)), (jm_W g n N), (js_X g z (ja_u u vs.toNatClampNeg o) (jf_u G vs.toNatClampNeg N)), (jm_W g o N)]) := by
  refine jk_ofC (cc := cX4_save) (maxL := 3) (ret := (some .int)) (by decide +kernel) rfl (Nat.le_of_ble_eq_true rfl) ?_
  intro pp e s m args below meth c hx hb hr hml hts hown hlocks hin hK hN A H locs hZ hsH hP hD hA hS ls hl
  have hown : s.vm.findClass RX4 = some m.cls := hown
  have hl : lv_has ls 3 [(0, .ref (xx 0)), (1, .int vs)] := hl
  have hDu : ∀ (z1 : jm_T), va_D A (List.flatten [(jo_X xx (n 0) (t 0) (h 0) (z 0) (d 0) (b 0)), (jm_W g n z1), (js_X g z u G)]) := fun z1 => jk_D.same hD rfl
  have hf_26 := hts (.fieldLink RX4 26 "InfluenceJars" "slots" "[LInfluenceJars$Machine;") (by decide +kernel)
  have hi_4 : ∀ w ∈ u_ws RX4 TX4 6, w ∈ wsX4_save := by decide +kernel
  have hi_2 : ∀ w ∈ u_ws RX2 TX2 13, w ∈ wsX4_save := by decide +kernel
  have hw__classLink_RX4_7_RX2 := hts (.classLink RX4 7 RX2) (by decide +kernel)
  have hw__instantiable_RX2_13 := hts (.instantiable RX2 13) (by decide +kernel)
  have hw__initialized_RX2 := hts (.initialized RX2) (by decide +kernel)
  have hw__instanceMethod_yX2_init := hts (.instanceMethod yX2_init) (by decide +kernel)
  have hf_10 := hts (.fieldLink RX4 10 "InfluenceJars" "now" "LInfluenceJars$Machine;") (by decide +kernel)
  have hf_131 := hts (.fieldLink RX4 131 "InfluenceJars$Machine" "turns" "I") (by decide +kernel)
  refine lv_iload_n hx hb dX4_save_0 rfl (lv_at hl 1 rfl) ?_
  refine lv_if_lt (tgt := 9) hx hb dX4_save_1 (by decide) (fun c_1 => ?_) (fun c_1 => ?_)
  · exact absurd c_1 hv0
  · refine lv_iload_n hx hb dX4_save_4 rfl (lv_at hl 1 rfl) ?_
    refine lv_iconst (v := 2) hx hb dX4_save_5 (by decide) ?_
    refine lv_icmp_lt (tgt := 12) hx hb dX4_save_6 (by decide) (fun c_6 => ?_) (fun c_6 => ?_)
    · refine lv_aload_n hx hb dX4_save_12 rfl (lv_at hl 0 rfl) ?_
      refine va_get (D := D) (ci := 4) (v := .ref (z 0)) (C := RX4) (T := TX4) (N := 6) hx hb hts hi_4 hown hK hP 0 rfl rfl 3 (by decide) hf_26 (fun _ h9 => h9) rfl dX4_save_13 ?_
      refine lv_iload_n hx hb dX4_save_16 rfl (lv_at hl 1 rfl) ?_
      refine va_aldq (f := (jq u G)) hx hb hK hP 8 2 rfl rfl (j2_in hv0 hv2 (by decide)) dX4_save_17 ?_
      refine W.eq (g2 := F0 m 18 ls [.null]) (by rw [show va_rf ((jq u G) vs.toNatClampNeg) = .null from (by rw [jq_none hG]; rfl)]) ?_
      refine lv_astore_nN (lv' := [(2, .null), (0, .ref (xx 0)), (1, .int vs)]) hx hb dX4_save_18 rfl hl (by decide) rfl (fun ls hl => ?_)
      refine lv_aload_nN hx hb dX4_save_19 rfl (lv_at hl 0 rfl) ?_
      refine lv_ifnonnullN hx hb dX4_save_20 ?_
      refine va_new (ci := 2) (fs := [.null, .null, .null, .null, .null, .null, .int 0, .int 0, .int 0, .int 0, .int 0, .int 0, .int 0]) (C := RX2) (T := TX2) (N := 13) hx hb hts hi_2 tyX2 tyX2_ok hown hw__classLink_RX4_7_RX2 hw__instantiable_RX2_13 hw__initialized_RX2 hK hP hD hS hA rfl (fun j hj => by rcases (show j = 0 ∨ j = 1 ∨ j = 2 ∨ j = 3 ∨ j = 4 ∨ j = 5 ∨ j = 6 ∨ j = 7 ∨ j = 8 ∨ j = 9 ∨ j = 10 ∨ j = 11 ∨ j = 12 by omega) with rfl | rfl | rfl | rfl | rfl | rfl | rfl | rfl | rfl | rfl | rfl | rfl | rfl <;> rfl) (Nat.le_of_ble_eq_true rfl) (Nat.le_of_ble_eq_true rfl) dX4_save_23 (fun q1 H hP hD hS => ?_)
      have hP : va_P D vwCl (List.flatten [(jo_X xx (n 0) (t 0) (h 0) (z 0) (d 0) (b 0)), (jm_W g n N), (js_X g z u G), [(q1, .inr (2, [.null, .null, .null, .null, .null, .null, .int 0, .int 0, .int 0, .int 0, .int 0, .int 0, .int 0]))]]) H := hP
      have hD : va_D A (List.flatten [(jo_X xx (n 0) (t 0) (h 0) (z 0) (d 0) (b 0)), (jm_W g n N), (js_X g z u G), [(q1, .inr (2, [.null, .null, .null, .null, .null, .null, .int 0, .int 0, .int 0, .int 0, .int 0, .int 0, .int 0]))]]) := hD
      have hDu : ∀ (z1 : jm_T), va_D A (List.flatten [(jo_X xx (n 0) (t 0) (h 0) (z 0) (d 0) (b 0)), (jm_W g n z1), (js_X g z u G), [(q1, .inr (2, [.null, .null, .null, .null, .null, .null, .int 0, .int 0, .int 0, .int 0, .int 0, .int 0, .int 0]))]]) := fun z1 => jk_D.same hD rfl
      refine lv_dup hx hb dX4_save_26 rfl ?_
      have hDc : va_D A [(q1, .inr (2, [.null, .null, .null, .null, .null, .null, .int 0, .int 0, .int 0, .int 0, .int 0, .int 0, .int 0]))] := jk_oneD.mp (jk_segSubD (L := [(jo_X xx (n 0) (t 0) (h 0) (z 0) (d 0) (b 0)), (jm_W g n N), (js_X g z u G), [(q1, .inr (2, [.null, .null, .null, .null, .null, .null, .int 0, .int 0, .int 0, .int 0, .int 0, .int 0, .int 0]))]]) hD [3] (by decide))
      refine jk_callINC (host := RX4) (As := []) (rest := [.ref q1]) (ws1 := fun o2 => List.flatten [(jo_X xx (n 0) (t 0) (h 0) (z 0) (d 0) (b 0)), (jm_W g n N), (js_X g z u G), (jm_W g (jn_ad q1 o2) jm_0)]) ⟨hx, hb, hml, hown, hts⟩ (c_X2_init l D g q1) (fun _ _ _ _ _ h => h) (fun _ _ _ => trivial) ⟨va_cnB 0 hts gX4_save_X2_init_n9 rfl rfl rfl hN.1 hw__initialized_RX2 (by decide +kernel) ⟨Nat.le_of_ble_eq_true rfl, Nat.le_of_ble_eq_true rfl⟩, rfl, hw__instanceMethod_yX2_init⟩ (jk_one.mp (jk_segSub (L := [(jo_X xx (n 0) (t 0) (h 0) (z 0) (d 0) (b 0)), (jm_W g n N), (js_X g z u G), [(q1, .inr (2, [.null, .null, .null, .null, .null, .null, .int 0, .int 0, .int 0, .int 0, .int 0, .int 0, .int 0]))]]) hP [3])) hDc hK hN rfl hl rfl (Nat.le_of_ble_eq_true rfl) dX4_save_27 ⟨Nat.le_of_ble_eq_true rfl, Nat.le_of_ble_eq_true rfl⟩ hS hA (fun o2 => jk_seg1 (L := [(jo_X xx (n 0) (t 0) (h 0) (z 0) (d 0) (b 0)), (jm_W g n N), (js_X g z u G), [(q1, .inr (2, [.null, .null, .null, .null, .null, .null, .int 0, .int 0, .int 0, .int 0, .int 0, .int 0, .int 0]))]]) (L' := [(jo_X xx (n 0) (t 0) (h 0) (z 0) (d 0) (b 0)), (jm_W g n N), (js_X g z u G), (jm_W g (jn_ad q1 o2) jm_0)]) (T := (jm_W g (jn_ad q1 o2) jm_0)) hP hD 3 [(false, 0), (false, 1), (false, 2), (true, 0)] (by decide) rfl) (fun o2 => jk_segD (L := [(jo_X xx (n 0) (t 0) (h 0) (z 0) (d 0) (b 0)), (jm_W g n N), (js_X g z u G), [(q1, .inr (2, [.null, .null, .null, .null, .null, .null, .int 0, .int 0, .int 0, .int 0, .int 0, .int 0, .int 0]))]]) (L' := [(jo_X xx (n 0) (t 0) (h 0) (z 0) (d 0) (b 0)), (jm_W g n N), (js_X g z u G), (jm_W g (jn_ad q1 o2) jm_0)]) (T := [(jm_W g (jn_ad q1 o2) jm_0)]) hP hD [3] [(false, 0), (false, 1), (false, 2), (true, 0)] (by rw [List.flatten_cons, List.flatten_nil, List.append_nil]) (by decide) (by decide) rfl (fun _ h => h) (jk_freeA hDc hS hA)) (fun o2 H locs hP hD hS => ?_)
      refine W.eq (g2 := F0 m 30 ls [.ref q1]) rfl ?_
      have hP : va_P D vwCl (List.flatten [(jo_X xx (n 0) (t 0) (h 0) (z 0) (d 0) (b 0)), (jm_W g n N), (js_X g z u G), (jm_W g (jn_ad q1 o2) jm_0)]) H := hP
      have hD : va_D A (List.flatten [(jo_X xx (n 0) (t 0) (h 0) (z 0) (d 0) (b 0)), (jm_W g n N), (js_X g z u G), (jm_W g (jn_ad q1 o2) jm_0)]) := hD
      have hDu : ∀ (z1 : jm_T) (z3 : jm_T), va_D A (List.flatten [(jo_X xx (n 0) (t 0) (h 0) (z 0) (d 0) (b 0)), (jm_W g n z1), (js_X g z u G), (jm_W g (jn_ad q1 o2) z3)]) := fun z1 z3 => jk_D.same hD rfl
      refine lv_astore_n (lv' := [(2, .ref q1), (0, .ref (xx 0)), (1, .int vs)]) hx hb dX4_save_30 rfl hl (by decide) rfl (fun ls hl => ?_)
      refine lv_aload_n hx hb dX4_save_31 rfl (lv_at hl 1 rfl) ?_
      refine va_get (D := D) (ci := 4) (v := .ref (z 0)) (C := RX4) (T := TX4) (N := 6) hx hb hts hi_4 hown hK hP 0 rfl rfl 3 (by decide) hf_26 (fun _ h9 => h9) rfl dX4_save_32 ?_
      refine lv_iload_n hx hb dX4_save_35 rfl (lv_at hl 2 rfl) ?_
      refine lv_aload_n hx hb dX4_save_36 rfl (lv_at hl 0 rfl) ?_
      refine va_astq (f := (jq u G)) hx hb hK hP hD hS 8 2 9 2 rfl rfl rfl rfl (j2_in hv0 hv2 (by decide)) dX4_save_37 (fun H locs hP hD hS => ?_)
      have hq9 : va_up (jq u G) vs.toNatClampNeg (some ((jn_ad q1 o2) 0)) = jq (ja_u u vs.toNatClampNeg (jn_ad q1 o2)) (jf_u G vs.toNatClampNeg N) := jq_up _ _ _ (jn_ad q1 o2) _
      rw [hq9] at hP hD
      have hP : va_P D vwCl (List.flatten [(jo_X xx (n 0) (t 0) (h 0) (z 0) (d 0) (b 0)), (jm_W g n N), (js_X g z (ja_u u vs.toNatClampNeg (jn_ad q1 o2)) (jf_u G vs.toNatClampNeg N)), (jm_W g (jn_ad q1 o2) jm_0)]) H := hP
      have hD : va_D A (List.flatten [(jo_X xx (n 0) (t 0) (h 0) (z 0) (d 0) (b 0)), (jm_W g n N), (js_X g z (ja_u u vs.toNatClampNeg (jn_ad q1 o2)) (jf_u G vs.toNatClampNeg N)), (jm_W g (jn_ad q1 o2) jm_0)]) := hD
      have hDu : ∀ (z1 : jm_T) (z3 : jm_T), va_D A (List.flatten [(jo_X xx (n 0) (t 0) (h 0) (z 0) (d 0) (b 0)), (jm_W g n z1), (js_X g z (ja_u u vs.toNatClampNeg (jn_ad q1 o2)) (jf_u G vs.toNatClampNeg N)), (jm_W g (jn_ad q1 o2) z3)]) := fun z1 z3 => jk_D.same hD rfl
      refine lv_aload_n hx hb dX4_save_38 rfl (lv_at hl 0 rfl) ?_
      refine lv_aload_n hx hb dX4_save_39 rfl (lv_at hl 1 rfl) ?_
      refine va_get (D := D) (ci := 4) (v := .ref (n 0)) (C := RX4) (T := TX4) (N := 6) hx hb hts hi_4 hown hK hP 0 rfl rfl 0 (by decide) hf_10 (fun _ h9 => h9) rfl dX4_save_40 ?_
      obtain ⟨S3, eS3⟩ : ∃ z : jm_T, z = N := ⟨_, rfl⟩
      refine jk_callV (As := [.ref (n 0)]) (rest := []) (ws1 := (List.flatten [(jo_X xx (n 0) (t 0) (h 0) (z 0) (d 0) (b 0)), (jm_W g n N), (js_X g z (ja_u u vs.toNatClampNeg (jn_ad q1 o2)) (jf_u G vs.toNatClampNeg N)), (jm_W g (jn_ad q1 o2) S3)])) ⟨hx, hb, hml, hown, hts⟩ (c_X2_become l D g (jn_ad q1 o2) jm_0 n N) (cwV 1 hts gX4_save_X2_become rfl rfl rfl (by decide +kernel) ⟨Nat.le_of_ble_eq_true rfl, Nat.le_of_ble_eq_true rfl⟩) (va_recv hK hP (ci := 2) (q0 := 9) rfl rfl) (show va_P D vwCl (List.flatten [(jm_W g (jn_ad q1 o2) jm_0), (jm_W g n N)]) H from  (jk_segSub (L := [(jo_X xx (n 0) (t 0) (h 0) (z 0) (d 0) (b 0)), (jm_W g n N), (js_X g z (ja_u u vs.toNatClampNeg (jn_ad q1 o2)) (jf_u G vs.toNatClampNeg N)), (jm_W g (jn_ad q1 o2) jm_0)]) hP [3, 1])) (show va_D A (List.flatten [(jm_W g (jn_ad q1 o2) jm_0), (jm_W g n N)]) from  (jk_segSubD (L := [(jo_X xx (n 0) (t 0) (h 0) (z 0) (d 0) (b 0)), (jm_W g n N), (js_X g z (ja_u u vs.toNatClampNeg (jn_ad q1 o2)) (jf_u G vs.toNatClampNeg N)), (jm_W g (jn_ad q1 o2) jm_0)]) hD [3, 1] (by decide))) hK hN rfl hl rfl (Nat.le_of_ble_eq_true rfl) dX4_save_43 ⟨Nat.le_of_ble_eq_true rfl, Nat.le_of_ble_eq_true rfl⟩ hS hA (jk_seg (L := [(jo_X xx (n 0) (t 0) (h 0) (z 0) (d 0) (b 0)), (jm_W g n N), (js_X g z (ja_u u vs.toNatClampNeg (jn_ad q1 o2)) (jf_u G vs.toNatClampNeg N)), (jm_W g (jn_ad q1 o2) jm_0)]) (L' := [(jo_X xx (n 0) (t 0) (h 0) (z 0) (d 0) (b 0)), (jm_W g n N), (js_X g z (ja_u u vs.toNatClampNeg (jn_ad q1 o2)) (jf_u G vs.toNatClampNeg N)), (jm_W g (jn_ad q1 o2) S3)]) (T := [(jm_W g (jn_ad q1 o2) S3), (jm_W g n N)]) hP hD [3, 1] [(false, 0), (true, 1), (false, 2), (true, 0)] (by rw [eS3]; try rfl) (by decide) rfl) (fun H locs hP hS => ?_)
      refine W.eq (g2 := F0 m 46 ls []) rfl ?_
      have hD : va_D A (List.flatten [(jo_X xx (n 0) (t 0) (h 0) (z 0) (d 0) (b 0)), (jm_W g n N), (js_X g z (ja_u u vs.toNatClampNeg (jn_ad q1 o2)) (jf_u G vs.toNatClampNeg N)), (jm_W g (jn_ad q1 o2) S3)]) := hDu _ _
      refine lv_aload_n hx hb dX4_save_46 rfl (lv_at hl 1 rfl) ?_
      refine va_get (D := D) (ci := 4) (v := .ref (n 0)) (C := RX4) (T := TX4) (N := 6) hx hb hts hi_4 hown hK hP 0 rfl rfl 0 (by decide) hf_10 (fun _ h9 => h9) rfl dX4_save_47 ?_
      refine va_get (D := D) (ci := 2) (v := .int (jm_tu N)) (C := RX2) (T := TX2) (N := 13) hx hb hts hi_2 hown hK hP 1 rfl rfl 6 (by decide) hf_131 (fun _ h9 => h9) rfl dX4_save_50 ?_
      have qeS3 := eS3.symm; subst qeS3
      exact jk_iretC (jn_ad q1 o2) hx hb hr hlocks hP hD hS (Nat.le_of_ble_eq_true rfl) (Nat.le_of_ble_eq_true rfl) rfl rfl dX4_save_53
    · exact absurd hv2 c_6

set_option maxHeartbeats 1000000 in
set_option maxRecDepth 100000 in
theorem c_X4_save_s (l : Launch) (D : va_G) (g : jk_G) (xx : Nat → Nat) (n : Nat → Nat) (t : Nat → Nat) (h : Nat → Nat) (z : Nat → Nat) (d : Nat → Nat) (b : Nat → Nat) (N : jm_T) (u : (Nat → Nat → Nat)) (G : jf_T) (Mj : jm_T) (vs : Int32) (hv0 : ¬ vs < 0) (hv2 : vs < 2) (hG : G vs.toNatClampNeg = some Mj) : jk_M l D g yX4_save wsX4_save 3 102 [.ref (xx 0), .int vs] (List.flatten [(jo_X xx (n 0) (t 0) (h 0) (z 0) (d 0) (b 0)), (jm_W g n N), (js_X g z u G), (jm_W g (u vs.toNatClampNeg) Mj)]) (some (.int (jm_tu N))) (List.flatten [(jo_X xx (n 0) (t 0) (h 0) (z 0) (d 0) (b 0)), (jm_W g n N), (js_X g z u G), (jm_W g (u vs.toNatClampNeg) N)]) := by
  refine jk_of (cc := cX4_save) (maxL := 3) (ret := (some .int)) (by decide +kernel) rfl (Nat.le_of_ble_eq_true rfl) ?_
  intro pp e s m args below meth c hx hb hr hml hts hown hlocks hK hN A H locs hP hD hA hS ls hl
  have hown : s.vm.findClass RX4 = some m.cls := hown
  have hl : lv_has ls 3 [(0, .ref (xx 0)), (1, .int vs)] := hl
  have hDu : ∀ (z1 : jm_T) (z3 : jm_T), va_D A (List.flatten [(jo_X xx (n 0) (t 0) (h 0) (z 0) (d 0) (b 0)), (jm_W g n z1), (js_X g z u G), (jm_W g (u vs.toNatClampNeg) z3)]) := fun z1 z3 => jk_D.same hD rfl
  have hf_26 := hts (.fieldLink RX4 26 "InfluenceJars" "slots" "[LInfluenceJars$Machine;") (by decide +kernel)
  have hi_4 : ∀ w ∈ u_ws RX4 TX4 6, w ∈ wsX4_save := by decide +kernel
  have hf_10 := hts (.fieldLink RX4 10 "InfluenceJars" "now" "LInfluenceJars$Machine;") (by decide +kernel)
  have hf_131 := hts (.fieldLink RX4 131 "InfluenceJars$Machine" "turns" "I") (by decide +kernel)
  have hi_2 : ∀ w ∈ u_ws RX2 TX2 13, w ∈ wsX4_save := by decide +kernel
  refine lv_iload_n hx hb dX4_save_0 rfl (lv_at hl 1 rfl) ?_
  refine lv_if_lt (tgt := 9) hx hb dX4_save_1 (by decide) (fun c_1 => ?_) (fun c_1 => ?_)
  · exact absurd c_1 hv0
  · refine lv_iload_n hx hb dX4_save_4 rfl (lv_at hl 1 rfl) ?_
    refine lv_iconst (v := 2) hx hb dX4_save_5 (by decide) ?_
    refine lv_icmp_lt (tgt := 12) hx hb dX4_save_6 (by decide) (fun c_6 => ?_) (fun c_6 => ?_)
    · refine lv_aload_n hx hb dX4_save_12 rfl (lv_at hl 0 rfl) ?_
      refine va_get (D := D) (ci := 4) (v := .ref (z 0)) (C := RX4) (T := TX4) (N := 6) hx hb hts hi_4 hown hK hP 0 rfl rfl 3 (by decide) hf_26 (fun _ h9 => h9) rfl dX4_save_13 ?_
      refine lv_iload_n hx hb dX4_save_16 rfl (lv_at hl 1 rfl) ?_
      refine va_aldq (f := (jq u G)) hx hb hK hP 8 2 rfl rfl (j2_in hv0 hv2 (by decide)) dX4_save_17 ?_
      refine W.eq (g2 := F0 m 18 ls [.ref ((u vs.toNatClampNeg) 0)]) (by rw [show va_rf ((jq u G) vs.toNatClampNeg) = .ref ((u vs.toNatClampNeg) 0) from (by rw [jq_some hG]; rfl)]) ?_
      refine lv_astore_n (lv' := [(2, .ref ((u vs.toNatClampNeg) 0)), (0, .ref (xx 0)), (1, .int vs)]) hx hb dX4_save_18 rfl hl (by decide) rfl (fun ls hl => ?_)
      refine lv_aload_n hx hb dX4_save_19 rfl (lv_at hl 0 rfl) ?_
      refine lv_ifnonnull (tgt := 38) hx hb dX4_save_20 (by decide) ?_
      refine lv_aload_n hx hb dX4_save_38 rfl (lv_at hl 0 rfl) ?_
      refine lv_aload_n hx hb dX4_save_39 rfl (lv_at hl 1 rfl) ?_
      refine va_get (D := D) (ci := 4) (v := .ref (n 0)) (C := RX4) (T := TX4) (N := 6) hx hb hts hi_4 hown hK hP 0 rfl rfl 0 (by decide) hf_10 (fun _ h9 => h9) rfl dX4_save_40 ?_
      obtain ⟨S1, eS1⟩ : ∃ z : jm_T, z = N := ⟨_, rfl⟩
      refine jk_callV (As := [.ref (n 0)]) (rest := []) (ws1 := (List.flatten [(jo_X xx (n 0) (t 0) (h 0) (z 0) (d 0) (b 0)), (jm_W g n N), (js_X g z u G), (jm_W g (u vs.toNatClampNeg) S1)])) ⟨hx, hb, hml, hown, hts⟩ (c_X2_become l D g (u vs.toNatClampNeg) Mj n N) (cwV 1 hts gX4_save_X2_become rfl rfl rfl (by decide +kernel) ⟨Nat.le_of_ble_eq_true rfl, Nat.le_of_ble_eq_true rfl⟩) (va_recv hK hP (ci := 2) (q0 := 9) rfl rfl) (show va_P D vwCl (List.flatten [(jm_W g (u vs.toNatClampNeg) Mj), (jm_W g n N)]) H from  (jk_segSub (L := [(jo_X xx (n 0) (t 0) (h 0) (z 0) (d 0) (b 0)), (jm_W g n N), (js_X g z u G), (jm_W g (u vs.toNatClampNeg) Mj)]) hP [3, 1])) (show va_D A (List.flatten [(jm_W g (u vs.toNatClampNeg) Mj), (jm_W g n N)]) from  (jk_segSubD (L := [(jo_X xx (n 0) (t 0) (h 0) (z 0) (d 0) (b 0)), (jm_W g n N), (js_X g z u G), (jm_W g (u vs.toNatClampNeg) Mj)]) hD [3, 1] (by decide))) hK hN rfl hl rfl (Nat.le_of_ble_eq_true rfl) dX4_save_43 ⟨Nat.zero_le _, Nat.zero_le _⟩ hS hA (jk_seg (L := [(jo_X xx (n 0) (t 0) (h 0) (z 0) (d 0) (b 0)), (jm_W g n N), (js_X g z u G), (jm_W g (u vs.toNatClampNeg) Mj)]) (L' := [(jo_X xx (n 0) (t 0) (h 0) (z 0) (d 0) (b 0)), (jm_W g n N), (js_X g z u G), (jm_W g (u vs.toNatClampNeg) S1)]) (T := [(jm_W g (u vs.toNatClampNeg) S1), (jm_W g n N)]) hP hD [3, 1] [(false, 0), (true, 1), (false, 2), (true, 0)] (by rw [eS1]; try rfl) (by decide) rfl) (fun H locs hP hS => ?_)
      refine W.eq (g2 := F0 m 46 ls []) rfl ?_
      have hD : va_D A (List.flatten [(jo_X xx (n 0) (t 0) (h 0) (z 0) (d 0) (b 0)), (jm_W g n N), (js_X g z u G), (jm_W g (u vs.toNatClampNeg) S1)]) := hDu _ _
      refine lv_aload_n hx hb dX4_save_46 rfl (lv_at hl 1 rfl) ?_
      refine va_get (D := D) (ci := 4) (v := .ref (n 0)) (C := RX4) (T := TX4) (N := 6) hx hb hts hi_4 hown hK hP 0 rfl rfl 0 (by decide) hf_10 (fun _ h9 => h9) rfl dX4_save_47 ?_
      refine va_get (D := D) (ci := 2) (v := .int (jm_tu N)) (C := RX2) (T := TX2) (N := 13) hx hb hts hi_2 hown hK hP 1 rfl rfl 6 (by decide) hf_131 (fun _ h9 => h9) rfl dX4_save_50 ?_
      have qeS1 := eS1.symm; subst qeS1
      have es3 : N = N := rfl
      exact jk_iret hx hb hr hlocks hP hS rfl (jk_cg1 (fun z3 => (List.flatten [(jo_X xx (n 0) (t 0) (h 0) (z 0) (d 0) (b 0)), (jm_W g n N), (js_X g z u G), (jm_W g (u vs.toNatClampNeg) z3)])) es3) dX4_save_53
    · exact absurd hv2 c_6

set_option maxHeartbeats 1000000 in
set_option maxRecDepth 100000 in
theorem c_X4_restore_n (l : Launch) (D : va_G) (g : jk_G) (xx : Nat → Nat) (n : Nat → Nat) (t : Nat → Nat) (h : Nat → Nat) (z : Nat → Nat) (d : Nat → Nat) (b : Nat → Nat) (u : (Nat → Nat → Nat)) (G : jf_T) (vs : Int32) (hv0 : ¬ vs < 0) (hv2 : vs < 2) (hG : G vs.toNatClampNeg = none) : jk_M l D g yX4_restore wsX4_restore 0 0 [.ref (xx 0), .int vs] (List.flatten [(jo_X xx (n 0) (t 0) (h 0) (z 0) (d 0) (b 0)), (js_X g z u G)]) (some (.int (-1000005))) (List.flatten [(jo_X xx (n 0) (t 0) (h 0) (z 0) (d 0) (b 0)), (js_X g z u G)]) := by
  refine jk_of (cc := cX4_restore) (maxL := 3) (ret := (some .int)) (by decide +kernel) rfl (Nat.le_of_ble_eq_true rfl) ?_
  intro pp e s m args below meth c hx hb hr hml hts hown hlocks hK hN A H locs hP hD hA hS ls hl
  have hown : s.vm.findClass RX4 = some m.cls := hown
  have hl : lv_has ls 3 [(0, .ref (xx 0)), (1, .int vs)] := hl
  have hDu : va_D A (List.flatten [(jo_X xx (n 0) (t 0) (h 0) (z 0) (d 0) (b 0)), (js_X g z u G)]) := hD
  have hf_26 := hts (.fieldLink RX4 26 "InfluenceJars" "slots" "[LInfluenceJars$Machine;") (by decide +kernel)
  have hi_4 : ∀ w ∈ u_ws RX4 TX4 6, w ∈ wsX4_restore := by decide +kernel
  have hk_54 := hts (.constant RX4 54 (-1000005)) (by decide +kernel)
  refine lv_iload_n hx hb dX4_restore_0 rfl (lv_at hl 1 rfl) ?_
  refine lv_if_lt (tgt := 9) hx hb dX4_restore_1 (by decide) (fun c_1 => ?_) (fun c_1 => ?_)
  · exact absurd c_1 hv0
  · refine lv_iload_n hx hb dX4_restore_4 rfl (lv_at hl 1 rfl) ?_
    refine lv_iconst (v := 2) hx hb dX4_restore_5 (by decide) ?_
    refine lv_icmp_lt (tgt := 12) hx hb dX4_restore_6 (by decide) (fun c_6 => ?_) (fun c_6 => ?_)
    · refine lv_aload_n hx hb dX4_restore_12 rfl (lv_at hl 0 rfl) ?_
      refine va_get (D := D) (ci := 4) (v := .ref (z 0)) (C := RX4) (T := TX4) (N := 6) hx hb hts hi_4 hown hK hP 0 rfl rfl 3 (by decide) hf_26 (fun _ h9 => h9) rfl dX4_restore_13 ?_
      refine lv_iload_n hx hb dX4_restore_16 rfl (lv_at hl 1 rfl) ?_
      refine va_aldq (f := (jq u G)) hx hb hK hP 1 2 rfl rfl (j2_in hv0 hv2 (by decide)) dX4_restore_17 ?_
      refine W.eq (g2 := F0 m 18 ls [.null]) (by rw [show va_rf ((jq u G) vs.toNatClampNeg) = .null from (by rw [jq_none hG]; rfl)]) ?_
      refine lv_astore_nN (lv' := [(2, .null), (0, .ref (xx 0)), (1, .int vs)]) hx hb dX4_restore_18 rfl hl (by decide) rfl (fun ls hl => ?_)
      refine lv_aload_nN hx hb dX4_restore_19 rfl (lv_at hl 0 rfl) ?_
      refine lv_ifnonnullN hx hb dX4_restore_20 ?_
      refine lv_ldc hx hb hown hk_54 dX4_restore_23 ?_
      exact jk_iret hx hb hr hlocks hP hS rfl rfl dX4_restore_25
    · exact absurd hv2 c_6

set_option maxHeartbeats 1000000 in
set_option maxRecDepth 100000 in
theorem c_X4_restore_s (l : Launch) (D : va_G) (g : jk_G) (xx : Nat → Nat) (n : Nat → Nat) (t : Nat → Nat) (h : Nat → Nat) (z : Nat → Nat) (d : Nat → Nat) (b : Nat → Nat) (N : jm_T) (p : (Nat → Nat → Nat)) (F : jf_T) (Hs : jh_T) (u : (Nat → Nat → Nat)) (G : jf_T) (Mj : jm_T) (vs : Int32) (hv0 : ¬ vs < 0) (hv2 : vs < 2) (hG : G vs.toNatClampNeg = some Mj) : jk_C l D g jk_noZ yX4_restore wsX4_restore 4 125 7 72 [.ref (xx 0), .int vs] (List.flatten [(jo_X xx (n 0) (t 0) (h 0) (z 0) (d 0) (b 0)), (jm_W g n N), (jh_X g h p F Hs), (js_X g z u G), (jm_W g (u vs.toNatClampNeg) Mj), (jf_X g 6 p F)]) (some (.int (jm_tu Mj))) (fun o : Nat → Nat → Nat => (List.flatten [(jo_X xx (n 0) (t 0) (h 0) (z 0) (d 0) (b 0)), (jm_W g n Mj), (jh_X g h o (jf_u F (jh_ix Hs).toNatClampNeg N) (jh_rec Hs)), (js_X g z u G), (jm_W g (u vs.toNatClampNeg) Mj), (jf_X g 6 o (jf_u F (jh_ix Hs).toNatClampNeg N))])) := by
  refine jk_ofC (cc := cX4_restore) (maxL := 3) (ret := (some .int)) (by decide +kernel) rfl (Nat.le_of_ble_eq_true rfl) ?_
  intro pp e s m args below meth c hx hb hr hml hts hown hlocks hin hK hN A H locs hZ hsH hP hD hA hS ls hl
  have hown : s.vm.findClass RX4 = some m.cls := hown
  have hl : lv_has ls 3 [(0, .ref (xx 0)), (1, .int vs)] := hl
  have hDu : ∀ (z1 : jm_T) (z2 : jh_T) (z4 : jm_T), va_D A (List.flatten [(jo_X xx (n 0) (t 0) (h 0) (z 0) (d 0) (b 0)), (jm_W g n z1), (jh_X g h p F z2), (js_X g z u G), (jm_W g (u vs.toNatClampNeg) z4), (jf_X g 6 p F)]) := fun z1 z2 z4 => jk_D.same hD rfl
  have hf_26 := hts (.fieldLink RX4 26 "InfluenceJars" "slots" "[LInfluenceJars$Machine;") (by decide +kernel)
  have hi_4 : ∀ w ∈ u_ws RX4 TX4 6, w ∈ wsX4_restore := by decide +kernel
  have hf_22 := hts (.fieldLink RX4 22 "InfluenceJars" "history" "LInfluenceJars$History;") (by decide +kernel)
  have hf_10 := hts (.fieldLink RX4 10 "InfluenceJars" "now" "LInfluenceJars$Machine;") (by decide +kernel)
  have hf_131 := hts (.fieldLink RX4 131 "InfluenceJars$Machine" "turns" "I") (by decide +kernel)
  have hi_2 : ∀ w ∈ u_ws RX2 TX2 13, w ∈ wsX4_restore := by decide +kernel
  refine lv_iload_n hx hb dX4_restore_0 rfl (lv_at hl 1 rfl) ?_
  refine lv_if_lt (tgt := 9) hx hb dX4_restore_1 (by decide) (fun c_1 => ?_) (fun c_1 => ?_)
  · exact absurd c_1 hv0
  · refine lv_iload_n hx hb dX4_restore_4 rfl (lv_at hl 1 rfl) ?_
    refine lv_iconst (v := 2) hx hb dX4_restore_5 (by decide) ?_
    refine lv_icmp_lt (tgt := 12) hx hb dX4_restore_6 (by decide) (fun c_6 => ?_) (fun c_6 => ?_)
    · refine lv_aload_n hx hb dX4_restore_12 rfl (lv_at hl 0 rfl) ?_
      refine va_get (D := D) (ci := 4) (v := .ref (z 0)) (C := RX4) (T := TX4) (N := 6) hx hb hts hi_4 hown hK hP 0 rfl rfl 3 (by decide) hf_26 (fun _ h9 => h9) rfl dX4_restore_13 ?_
      refine lv_iload_n hx hb dX4_restore_16 rfl (lv_at hl 1 rfl) ?_
      refine va_aldq (f := (jq u G)) hx hb hK hP 10 2 rfl rfl (j2_in hv0 hv2 (by decide)) dX4_restore_17 ?_
      refine W.eq (g2 := F0 m 18 ls [.ref ((u vs.toNatClampNeg) 0)]) (by rw [show va_rf ((jq u G) vs.toNatClampNeg) = .ref ((u vs.toNatClampNeg) 0) from (by rw [jq_some hG]; rfl)]) ?_
      refine lv_astore_n (lv' := [(2, .ref ((u vs.toNatClampNeg) 0)), (0, .ref (xx 0)), (1, .int vs)]) hx hb dX4_restore_18 rfl hl (by decide) rfl (fun ls hl => ?_)
      refine lv_aload_n hx hb dX4_restore_19 rfl (lv_at hl 0 rfl) ?_
      refine lv_ifnonnull (tgt := 26) hx hb dX4_restore_20 (by decide) ?_
      refine lv_aload_n hx hb dX4_restore_26 rfl (lv_at hl 1 rfl) ?_
      refine va_get (D := D) (ci := 4) (v := .ref (h 0)) (C := RX4) (T := TX4) (N := 6) hx hb hts hi_4 hown hK hP 0 rfl rfl 2 (by decide) hf_22 (fun _ h9 => h9) rfl dX4_restore_27 ?_
      refine lv_aload_n hx hb dX4_restore_30 rfl (lv_at hl 1 rfl) ?_
      refine va_get (D := D) (ci := 4) (v := .ref (n 0)) (C := RX4) (T := TX4) (N := 6) hx hb hts hi_4 hown hK hP 0 rfl rfl 0 (by decide) hf_10 (fun _ h9 => h9) rfl dX4_restore_31 ?_
      obtain ⟨S1, eS1⟩ : ∃ z : jh_T, z = jh_rec Hs := ⟨_, rfl⟩
      obtain ⟨S2, eS2⟩ : ∃ z : jf_T, z = jf_u F (jh_ix Hs).toNatClampNeg N := ⟨_, rfl⟩
      have hDc := (show va_D A (List.flatten [(jh_X g h p F Hs), (jm_W g n N), (jf_X g 6 p F)]) from  (jk_segSubD (L := [(jo_X xx (n 0) (t 0) (h 0) (z 0) (d 0) (b 0)), (jm_W g n N), (jh_X g h p F Hs), (js_X g z u G), (jm_W g (u vs.toNatClampNeg) Mj), (jf_X g 6 p F)]) hD [2, 1, 5] (by decide)))
      refine jk_callVC (As := [.ref (n 0)]) (rest := []) (ws1 := fun p3 => (List.flatten [(jo_X xx (n 0) (t 0) (h 0) (z 0) (d 0) (b 0)), (jm_W g n N), (jh_X g h p3 S2 S1), (js_X g z u G), (jm_W g (u vs.toNatClampNeg) Mj), (jf_X g 6 p3 S2)])) ⟨hx, hb, hml, hown, hts⟩ (c_X1_record l D g h p F Hs n N) (fun _ _ _ _ _ h => h) (fun _ _ _ => trivial) (cwV 1 hts gX4_restore_X1_record rfl rfl rfl (by decide +kernel) ⟨Nat.le_of_ble_eq_true rfl, Nat.le_of_ble_eq_true rfl⟩) (va_recv hK hP (ci := 1) (q0 := 8) rfl rfl) (show va_P D vwCl (List.flatten [(jh_X g h p F Hs), (jm_W g n N), (jf_X g 6 p F)]) H from  (jk_segSub (L := [(jo_X xx (n 0) (t 0) (h 0) (z 0) (d 0) (b 0)), (jm_W g n N), (jh_X g h p F Hs), (js_X g z u G), (jm_W g (u vs.toNatClampNeg) Mj), (jf_X g 6 p F)]) hP [2, 1, 5])) hDc hK hN rfl hl rfl (Nat.le_of_ble_eq_true rfl) dX4_restore_34 ⟨Nat.le_of_ble_eq_true rfl, Nat.le_of_ble_eq_true rfl⟩ hS hA (fun p3 => jk_seg (L := [(jo_X xx (n 0) (t 0) (h 0) (z 0) (d 0) (b 0)), (jm_W g n N), (jh_X g h p F Hs), (js_X g z u G), (jm_W g (u vs.toNatClampNeg) Mj), (jf_X g 6 p F)]) (L' := [(jo_X xx (n 0) (t 0) (h 0) (z 0) (d 0) (b 0)), (jm_W g n N), (jh_X g h p3 S2 S1), (js_X g z u G), (jm_W g (u vs.toNatClampNeg) Mj), (jf_X g 6 p3 S2)]) (T := [(jh_X g h p3 S2 S1), (jm_W g n N), (jf_X g 6 p3 S2)]) hP hD [2, 1, 5] [(false, 0), (true, 1), (true, 0), (false, 3), (false, 4), (true, 2)] (by rw [eS1, eS2]; try rfl) (by decide) rfl) (fun p3 => jk_segD (L := [(jo_X xx (n 0) (t 0) (h 0) (z 0) (d 0) (b 0)), (jm_W g n N), (jh_X g h p F Hs), (js_X g z u G), (jm_W g (u vs.toNatClampNeg) Mj), (jf_X g 6 p F)]) (L' := [(jo_X xx (n 0) (t 0) (h 0) (z 0) (d 0) (b 0)), (jm_W g n N), (jh_X g h p3 S2 S1), (js_X g z u G), (jm_W g (u vs.toNatClampNeg) Mj), (jf_X g 6 p3 S2)]) (T := [(jh_X g h p3 S2 S1), (jm_W g n N), (jf_X g 6 p3 S2)]) hP hD [2, 1, 5] [(false, 0), (true, 1), (true, 0), (false, 3), (false, 4), (true, 2)] (by rw [eS1, eS2]; try rfl) (by decide) (by decide) rfl (fun _ h => h) (jk_freeA hDc hS hA)) (fun p3 H locs hP hD hS => ?_)
      refine W.eq (g2 := F0 m 37 ls []) rfl ?_
      have hD : va_D A (List.flatten [(jo_X xx (n 0) (t 0) (h 0) (z 0) (d 0) (b 0)), (jm_W g n N), (jh_X g h p3 S2 S1), (js_X g z u G), (jm_W g (u vs.toNatClampNeg) Mj), (jf_X g 6 p3 S2)]) := hD
      have hP : va_P D vwCl (List.flatten [(jo_X xx (n 0) (t 0) (h 0) (z 0) (d 0) (b 0)), (jm_W g n N), (jh_X g h p3 S2 S1), (js_X g z u G), (jm_W g (u vs.toNatClampNeg) Mj), (jf_X g 6 p3 S2)]) H := hP
      have hDu : ∀ (z1 : jm_T) (z2 : jh_T) (z4 : jm_T), va_D A (List.flatten [(jo_X xx (n 0) (t 0) (h 0) (z 0) (d 0) (b 0)), (jm_W g n z1), (jh_X g h p3 S2 z2), (js_X g z u G), (jm_W g (u vs.toNatClampNeg) z4), (jf_X g 6 p3 S2)]) := fun z1 z2 z4 => jk_D.same hD rfl
      refine lv_aload_n hx hb dX4_restore_37 rfl (lv_at hl 1 rfl) ?_
      refine va_get (D := D) (ci := 4) (v := .ref (n 0)) (C := RX4) (T := TX4) (N := 6) hx hb hts hi_4 hown hK hP 0 rfl rfl 0 (by decide) hf_10 (fun _ h9 => h9) rfl dX4_restore_38 ?_
      refine lv_aload_n hx hb dX4_restore_41 rfl (lv_at hl 0 rfl) ?_
      obtain ⟨S4, eS4⟩ : ∃ z : jm_T, z = Mj := ⟨_, rfl⟩
      refine jk_callV (As := [.ref ((u vs.toNatClampNeg) 0)]) (rest := []) (ws1 := (List.flatten [(jo_X xx (n 0) (t 0) (h 0) (z 0) (d 0) (b 0)), (jm_W g n S4), (jh_X g h p3 S2 S1), (js_X g z u G), (jm_W g (u vs.toNatClampNeg) Mj), (jf_X g 6 p3 S2)])) ⟨hx, hb, hml, hown, hts⟩ (c_X2_become l D g n N (u vs.toNatClampNeg) Mj) (cwV 1 hts gX4_restore_X2_become rfl rfl rfl (by decide +kernel) ⟨Nat.le_of_ble_eq_true rfl, Nat.le_of_ble_eq_true rfl⟩) (va_recv hK hP (ci := 2) (q0 := 1) rfl rfl) (show va_P D vwCl (List.flatten [(jm_W g n N), (jm_W g (u vs.toNatClampNeg) Mj)]) H from  (jk_segSub (L := [(jo_X xx (n 0) (t 0) (h 0) (z 0) (d 0) (b 0)), (jm_W g n N), (jh_X g h p3 S2 S1), (js_X g z u G), (jm_W g (u vs.toNatClampNeg) Mj), (jf_X g 6 p3 S2)]) hP [1, 4])) (show va_D A (List.flatten [(jm_W g n N), (jm_W g (u vs.toNatClampNeg) Mj)]) from  (jk_segSubD (L := [(jo_X xx (n 0) (t 0) (h 0) (z 0) (d 0) (b 0)), (jm_W g n N), (jh_X g h p3 S2 S1), (js_X g z u G), (jm_W g (u vs.toNatClampNeg) Mj), (jf_X g 6 p3 S2)]) hD [1, 4] (by decide))) hK hN rfl hl rfl (Nat.le_of_ble_eq_true rfl) dX4_restore_42 ⟨Nat.le_of_ble_eq_true rfl, Nat.le_of_ble_eq_true rfl⟩ hS hA (jk_seg (L := [(jo_X xx (n 0) (t 0) (h 0) (z 0) (d 0) (b 0)), (jm_W g n N), (jh_X g h p3 S2 S1), (js_X g z u G), (jm_W g (u vs.toNatClampNeg) Mj), (jf_X g 6 p3 S2)]) (L' := [(jo_X xx (n 0) (t 0) (h 0) (z 0) (d 0) (b 0)), (jm_W g n S4), (jh_X g h p3 S2 S1), (js_X g z u G), (jm_W g (u vs.toNatClampNeg) Mj), (jf_X g 6 p3 S2)]) (T := [(jm_W g n S4), (jm_W g (u vs.toNatClampNeg) Mj)]) hP hD [1, 4] [(false, 0), (true, 0), (false, 2), (false, 3), (true, 1), (false, 5)] (by rw [eS4]; try rfl) (by decide) rfl) (fun H locs hP hS => ?_)
      refine W.eq (g2 := F0 m 45 ls []) rfl ?_
      have hD : va_D A (List.flatten [(jo_X xx (n 0) (t 0) (h 0) (z 0) (d 0) (b 0)), (jm_W g n S4), (jh_X g h p3 S2 S1), (js_X g z u G), (jm_W g (u vs.toNatClampNeg) Mj), (jf_X g 6 p3 S2)]) := hDu _ _ _
      refine lv_aload_n hx hb dX4_restore_45 rfl (lv_at hl 1 rfl) ?_
      refine va_get (D := D) (ci := 4) (v := .ref (n 0)) (C := RX4) (T := TX4) (N := 6) hx hb hts hi_4 hown hK hP 0 rfl rfl 0 (by decide) hf_10 (fun _ h9 => h9) rfl dX4_restore_46 ?_
      refine va_get (D := D) (ci := 2) (v := .int (jm_tu S4)) (C := RX2) (T := TX2) (N := 13) hx hb hts hi_2 hown hK hP 1 rfl rfl 6 (by decide) hf_131 (fun _ h9 => h9) rfl dX4_restore_49 ?_
      have qeS4 := eS4.symm; subst qeS4
      have qeS2 := eS2.symm; subst qeS2
      have qeS1 := eS1.symm; subst qeS1
      have es1 : Mj = Mj := rfl
      have es2 : (jh_rec Hs) = (jh_rec Hs) := rfl
      have es5 : (jf_u F (jh_ix Hs).toNatClampNeg N) = (jf_u F (jh_ix Hs).toNatClampNeg N) := rfl
      exact jk_iretC p3 hx hb hr hlocks hP hD hS (Nat.le_of_ble_eq_true rfl) (Nat.le_of_ble_eq_true rfl) rfl (jk_cg3 (fun z1 z2 z5 => (List.flatten [(jo_X xx (n 0) (t 0) (h 0) (z 0) (d 0) (b 0)), (jm_W g n z1), (jh_X g h p3 z5 z2), (js_X g z u G), (jm_W g (u vs.toNatClampNeg) Mj), (jf_X g 6 p3 z5)])) es1 es2 es5) dX4_restore_52
    · exact absurd hv2 c_6
