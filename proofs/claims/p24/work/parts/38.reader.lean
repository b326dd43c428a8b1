def sX0_start (Q : jd_T) : jd_T := (jd_uat Q 0)
set_option maxHeartbeats 1000000 in
set_option maxRecDepth 100000 in
theorem c_X0_start (l : Launch) (D : va_G) (g : jk_G) (d : Nat → Nat) (b : Nat → Nat) (Q : jd_T)  : jk_M l D g yX0_start wsX0_start 0 0 [.ref (d 0)] (jd_X g d (b 0) Q) none (jd_X g d (b 0) (sX0_start Q)) := by
  refine jk_of (cc := cX0_start) (maxL := 1) (ret := none) (by decide +kernel) rfl (Nat.le_of_ble_eq_true rfl) ?_
  intro p e s m args below meth c hx hb hr hml hts hown hlocks hK hN A H locs hP hD hA hS ls hl
  have hown : s.vm.findClass RX0 = some m.cls := hown
  have hl : lv_has ls 1 [(0, .ref (d 0))] := hl
  have hDu : ∀ (z0 : jd_T), va_D A (jd_X g d (b 0) z0) := fun z0 => jk_D.same hD rfl
  have hf_18 := hts (.fieldLink RX0 18 "InfluenceJars$DeedReader" "at" "I") (by decide +kernel)
  have hi_0 : ∀ w ∈ u_ws RX0 TX0 6, w ∈ wsX0_start := by decide +kernel
  refine lv_aload_n hx hb dX0_start_0 rfl (lv_at hl 0 rfl) ?_
  refine lv_iconst (v := 0) hx hb dX0_start_1 (by decide) ?_
  refine va_put (D := D) (ci := 0) (v := .int 0) (ty := .int) (C := RX0) (T := TX0) (N := 6) hx hb hts hi_0 tyX0 tyX0_ok nmX0 hown hK hP hD hS 0 rfl rfl 1 (by decide) hf_18 (fun _ h9 => h9) rfl (by decide +kernel) rfl rfl (Nat.le_of_ble_eq_true rfl) dX0_start_2 (fun H locs hP hD hS => ?_)
  have hP : va_P D vwCl (jd_X g d (b 0) (jd_uat Q 0)) H := hP
  have hD : va_D A (jd_X g d (b 0) (jd_uat Q 0)) := hD
  exact jk_vret hx hb hr hlocks hP hS (congrArg (fun z => (jd_X g d (b 0) z)) ((rfl).symm)) dX0_start_5

def rX0_readSign (Q : jd_T) (P : jp_T) (vc : Int32) : Int32 := let x1 : Int32 := rX3_signAt P (jd_at Q); if x1 = vc then (let x2 : Int32 := (jd_at Q) + 1; 1) else (0)
def sX0_readSign_0 (Q : jd_T) (P : jp_T) (vc : Int32) : jd_T := let x1 : Int32 := rX3_signAt P (jd_at Q); if x1 = vc then (let x2 : Int32 := (jd_at Q) + 1; (jd_uat Q x2)) else (Q)
set_option maxHeartbeats 1000000 in
set_option maxRecDepth 100000 in
theorem c_X0_readSign (l : Launch) (D : va_G) (g : jk_G) (d : Nat → Nat) (b : Nat → Nat) (Q : jd_T) (P : jp_T) (vc : Int32) (hch : jp_chs P) : jk_M l D g yX0_readSign wsX0_readSign 1 21 [.ref (d 0), .int vc] (List.flatten [(jd_X g d (b 0) Q), (jp_W g b P)]) (some (.int (rX0_readSign Q P vc))) (List.flatten [(jd_X g d (b 0) (sX0_readSign_0 Q P vc)), (jp_W g b P)]) := by
  refine jk_of (cc := cX0_readSign) (maxL := 2) (ret := (some .boolean)) (by decide +kernel) rfl (Nat.le_of_ble_eq_true rfl) ?_
  intro p e s m args below meth c hx hb hr hml hts hown hlocks hK hN A H locs hP hD hA hS ls hl
  have hown : s.vm.findClass RX0 = some m.cls := hown
  have hl : lv_has ls 2 [(0, .ref (d 0)), (1, .int vc)] := hl
  have hDu : ∀ (z0 : jd_T) (z1 : jp_T), va_D A (List.flatten [(jd_X g d (b 0) z0), (jp_W g b z1)]) := fun z0 z1 => jk_D.same hD rfl
  have hf_12 := hts (.fieldLink RX0 12 "InfluenceJars$DeedReader" "pad" "LInfluenceJars$Pad;") (by decide +kernel)
  have hi_0 : ∀ w ∈ u_ws RX0 TX0 6, w ∈ wsX0_readSign := by decide +kernel
  have hf_18 := hts (.fieldLink RX0 18 "InfluenceJars$DeedReader" "at" "I") (by decide +kernel)
  refine lv_aload_n hx hb dX0_readSign_0 rfl (lv_at hl 0 rfl) ?_
  refine va_get (D := D) (ci := 0) (v := .ref (b 0)) (C := RX0) (T := TX0) (N := 6) hx hb hts hi_0 hown hK hP 0 rfl rfl 0 (by decide) hf_12 (fun _ h9 => h9) rfl dX0_readSign_1 ?_
  refine lv_aload_n hx hb dX0_readSign_4 rfl (lv_at hl 0 rfl) ?_
  refine va_get (D := D) (ci := 0) (v := .int (jd_at Q)) (C := RX0) (T := TX0) (N := 6) hx hb hts hi_0 hown hK hP 0 rfl rfl 1 (by decide) hf_18 (fun _ h9 => h9) rfl dX0_readSign_5 ?_
  refine jk_callV (As := [.int (jd_at Q)]) (rest := []) (ws1 := (List.flatten [(jd_X g d (b 0) Q), (jp_W g b P)])) ⟨hx, hb, hml, hown, hts⟩ (c_X3_signAt l D g b P (jd_at Q) hch) (cwV 1 hts gX0_readSign_X3_signAt rfl rfl rfl (by decide +kernel) ⟨Nat.le_of_ble_eq_true rfl, Nat.le_of_ble_eq_true rfl⟩) (va_recv hK hP (ci := 3) (q0 := 1) rfl rfl) (show va_P D vwCl (jp_W g b P) H from jk_one.mp (jk_segSub (L := [(jd_X g d (b 0) Q), (jp_W g b P)]) hP [1])) (show va_D A (jp_W g b P) from jk_oneD.mp (jk_segSubD (L := [(jd_X g d (b 0) Q), (jp_W g b P)]) hD [1] (by decide))) hK hN rfl hl rfl (Nat.le_of_ble_eq_true rfl) dX0_readSign_8 ⟨Nat.zero_le _, Nat.zero_le _⟩ hS hA (jk_seg1 (L := [(jd_X g d (b 0) Q), (jp_W g b P)]) (L' := [(jd_X g d (b 0) Q), (jp_W g b P)]) (T := (jp_W g b P)) hP hD 1 [(false, 0), (true, 0)] (by decide) rfl) (fun H locs hP hS => ?_)
  refine W.eq (g2 := F0 m 11 ls [.int (rX3_signAt P (jd_at Q))]) rfl ?_
  refine lv_topi (fun x1 ex1 => ?_)
  refine lv_iload_n hx hb dX0_readSign_11 rfl (lv_at hl 1 rfl) ?_
  refine lv_icmp_eq (tgt := 17) hx hb dX0_readSign_12 (by decide) (fun c_12 => ?_) (fun c_12 => ?_)
  · refine lv_aload_n hx hb dX0_readSign_17 rfl (lv_at hl 0 rfl) ?_
    refine lv_dup hx hb dX0_readSign_18 rfl ?_
    refine va_get (D := D) (ci := 0) (v := .int (jd_at Q)) (C := RX0) (T := TX0) (N := 6) hx hb hts hi_0 hown hK hP 0 rfl rfl 1 (by decide) hf_18 (fun _ h9 => h9) rfl dX0_readSign_19 ?_
    refine lv_iconst (v := 1) hx hb dX0_readSign_22 (by decide) ?_
    refine lv_iadd hx hb dX0_readSign_23 ?_
    refine lv_topi (fun x2 ex2 => ?_)
    refine va_put (D := D) (ci := 0) (v := .int x2) (ty := .int) (C := RX0) (T := TX0) (N := 6) hx hb hts hi_0 tyX0 tyX0_ok nmX0 hown hK hP hD hS 0 rfl rfl 1 (by decide) hf_18 (fun _ h9 => h9) rfl (by decide +kernel) rfl rfl (Nat.le_of_ble_eq_true rfl) dX0_readSign_24 (fun H locs hP hD hS => ?_)
    have hP : va_P D vwCl (List.flatten [(jd_X g d (b 0) (jd_uat Q x2)), (jp_W g b P)]) H := hP
    have hD : va_D A (List.flatten [(jd_X g d (b 0) (jd_uat Q x2)), (jp_W g b P)]) := hD
    refine lv_iconst (v := 1) hx hb dX0_readSign_27 (by decide) ?_
    have qex2 := ex2.symm; subst qex2
    have qex1 := ex1.symm; subst qex1
    have es0 : (jd_uat Q ((jd_at Q) + 1)) = sX0_readSign_0 Q P vc := (by unfold sX0_readSign_0; rw [if_pos c_12])
    exact jk_zret hx hb hr rfl hlocks hP hS (by unfold rX0_readSign; rw [if_pos c_12]) (jk_cg1 (fun z0 => (List.flatten [(jd_X g d (b 0) z0), (jp_W g b P)])) es0) dX0_readSign_28
  · refine lv_iconst (v := 0) hx hb dX0_readSign_15 (by decide) ?_
    have qex1 := ex1.symm; subst qex1
    have es0 : Q = sX0_readSign_0 Q P vc := (by unfold sX0_readSign_0; rw [if_neg c_12])
    exact jk_zret hx hb hr rfl hlocks hP hS (by unfold rX0_readSign; rw [if_neg c_12]) (jk_cg1 (fun z0 => (List.flatten [(jd_X g d (b 0) z0), (jp_W g b P)])) es0) dX0_readSign_16

def rX0_digitAt (Q : jd_T) (P : jp_T) (vi : Int32) : Int32 := let x1 : Int32 := rX3_signAt P vi; if x1 < 48 then ((-1)) else (if 57 < x1 then ((-1)) else (x1 - 48))
set_option maxHeartbeats 1000000 in
set_option maxRecDepth 100000 in
theorem c_X0_digitAt (l : Launch) (D : va_G) (g : jk_G) (d : Nat → Nat) (b : Nat → Nat) (Q : jd_T) (P : jp_T) (vi : Int32) (hch : jp_chs P) : jk_M l D g yX0_digitAt wsX0_digitAt 1 21 [.ref (d 0), .int vi] (List.flatten [(jd_X g d (b 0) Q), (jp_W g b P)]) (some (.int (rX0_digitAt Q P vi))) (List.flatten [(jd_X g d (b 0) Q), (jp_W g b P)]) := by
  refine jk_of (cc := cX0_digitAt) (maxL := 3) (ret := (some .int)) (by decide +kernel) rfl (Nat.le_of_ble_eq_true rfl) ?_
  intro p e s m args below meth c hx hb hr hml hts hown hlocks hK hN A H locs hP hD hA hS ls hl
  have hown : s.vm.findClass RX0 = some m.cls := hown
  have hl : lv_has ls 3 [(0, .ref (d 0)), (1, .int vi)] := hl
  have hDu : ∀ (z0 : jd_T) (z1 : jp_T), va_D A (List.flatten [(jd_X g d (b 0) z0), (jp_W g b z1)]) := fun z0 z1 => jk_D.same hD rfl
  have hf_12 := hts (.fieldLink RX0 12 "InfluenceJars$DeedReader" "pad" "LInfluenceJars$Pad;") (by decide +kernel)
  have hi_0 : ∀ w ∈ u_ws RX0 TX0 6, w ∈ wsX0_digitAt := by decide +kernel
  refine lv_aload_n hx hb dX0_digitAt_0 rfl (lv_at hl 0 rfl) ?_
  refine va_get (D := D) (ci := 0) (v := .ref (b 0)) (C := RX0) (T := TX0) (N := 6) hx hb hts hi_0 hown hK hP 0 rfl rfl 0 (by decide) hf_12 (fun _ h9 => h9) rfl dX0_digitAt_1 ?_
  refine lv_iload_n hx hb dX0_digitAt_4 rfl (lv_at hl 1 rfl) ?_
  refine jk_callV (As := [.int vi]) (rest := []) (ws1 := (List.flatten [(jd_X g d (b 0) Q), (jp_W g b P)])) ⟨hx, hb, hml, hown, hts⟩ (c_X3_signAt l D g b P vi hch) (cwV 1 hts gX0_digitAt_X3_signAt rfl rfl rfl (by decide +kernel) ⟨Nat.le_of_ble_eq_true rfl, Nat.le_of_ble_eq_true rfl⟩) (va_recv hK hP (ci := 3) (q0 := 1) rfl rfl) (show va_P D vwCl (jp_W g b P) H from jk_one.mp (jk_segSub (L := [(jd_X g d (b 0) Q), (jp_W g b P)]) hP [1])) (show va_D A (jp_W g b P) from jk_oneD.mp (jk_segSubD (L := [(jd_X g d (b 0) Q), (jp_W g b P)]) hD [1] (by decide))) hK hN rfl hl rfl (Nat.le_of_ble_eq_true rfl) dX0_digitAt_5 ⟨Nat.zero_le _, Nat.zero_le _⟩ hS hA (jk_seg1 (L := [(jd_X g d (b 0) Q), (jp_W g b P)]) (L' := [(jd_X g d (b 0) Q), (jp_W g b P)]) (T := (jp_W g b P)) hP hD 1 [(false, 0), (true, 0)] (by decide) rfl) (fun H locs hP hS => ?_)
  refine W.eq (g2 := F0 m 8 ls [.int (rX3_signAt P vi)]) rfl ?_
  refine lv_topi (fun x1 ex1 => ?_)
  refine lv_istore_n (lv' := [(2, .int x1), (0, .ref (d 0)), (1, .int vi)]) hx hb dX0_digitAt_8 rfl hl (by decide) rfl (fun ls hl => ?_)
  refine lv_iload_n hx hb dX0_digitAt_9 rfl (lv_at hl 0 rfl) ?_
  refine lv_bipush (v := 48) hx hb dX0_digitAt_10 (by decide) ?_
  refine lv_icmp_lt (tgt := 28) hx hb dX0_digitAt_12 (by decide) (fun c_12 => ?_) (fun c_12 => ?_)
  · refine lv_iconst (v := (-1)) hx hb dX0_digitAt_28 (by decide) ?_
    have qex1 := ex1.symm; subst qex1
    exact jk_iret hx hb hr hlocks hP hS (by unfold rX0_digitAt; rw [if_pos c_12]) rfl dX0_digitAt_29
  · refine lv_iload_n hx hb dX0_digitAt_15 rfl (lv_at hl 0 rfl) ?_
    refine lv_bipush (v := 57) hx hb dX0_digitAt_16 (by decide) ?_
    refine lv_icmp_gt (tgt := 28) hx hb dX0_digitAt_18 (by decide) (fun c_18 => ?_) (fun c_18 => ?_)
    · refine lv_iconst (v := (-1)) hx hb dX0_digitAt_28 (by decide) ?_
      have qex1 := ex1.symm; subst qex1
      exact jk_iret hx hb hr hlocks hP hS (by unfold rX0_digitAt; rw [if_neg c_12, if_pos c_18]) rfl dX0_digitAt_29
    · refine lv_iload_n hx hb dX0_digitAt_21 rfl (lv_at hl 0 rfl) ?_
      refine lv_bipush (v := 48) hx hb dX0_digitAt_22 (by decide) ?_
      refine lv_isub hx hb dX0_digitAt_24 ?_
      refine lv_goto (tgt := 29) hx hb dX0_digitAt_25 (by decide) ?_
      have qex1 := ex1.symm; subst qex1
      exact jk_iret hx hb hr hlocks hP hS (by unfold rX0_digitAt; rw [if_neg c_12, if_neg c_18]) rfl dX0_digitAt_29
