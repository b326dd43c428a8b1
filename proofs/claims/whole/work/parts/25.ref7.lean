def rX5_takesOne (M : jx_T) (vc : Int32) : Int32 := let x1 : Int32 := rX5_isHere M vc vc; let x3 : Int32 := (if x1 = 0 then 0 else 1); let x4 : Int32 := (jx_sp M) + x3; x1
def sX5_takesOne (M : jx_T) (vc : Int32) : jx_T := let x1 : Int32 := rX5_isHere M vc vc; let x3 : Int32 := (if x1 = 0 then 0 else 1); let x4 : Int32 := (jx_sp M) + x3; (jx_usp M x4)
set_option maxHeartbeats 1000000 in
set_option maxRecDepth 100000 in
theorem c_X5_takesOne (l : Launch) (D : va_G) (g : jk_G) (a : Nat → Nat) (M : jx_T) (vc : Int32) (ht : jx_tp M) : jk_M l D g yX5_takesOne wsX5_takesOne 2 47 [.ref (a 0), .int vc] (jx_W g a M) (some (.int (rX5_takesOne M vc))) (jx_W g a (sX5_takesOne M vc)) := by
  refine jk_of (cc := cX5_takesOne) (maxL := 3) (ret := (some .boolean)) (by decide +kernel) rfl (Nat.le_of_ble_eq_true rfl) ?_
  intro p e s m args below meth c hx hb hr hml hts hown hlocks hK hN A H locs hP hD hA hS ls hl
  have hown : s.vm.findClass RX5 = some m.cls := hown
  have hl : lv_has ls 3 [(0, .ref (a 0)), (1, .int vc)] := hl
  have hf_156 := hts (.fieldLink RX5 156 "InfluenceJarsModel" "spot" "I") (by decide +kernel)
  have hi_5 : ∀ w ∈ u_ws RX5 TX5 13, w ∈ wsX5_takesOne := by decide +kernel
  refine lv_aload_n hx hb dX5_takesOne_0 rfl (lv_at hl 0 rfl) ?_
  refine lv_iload_n hx hb dX5_takesOne_1 rfl (lv_at hl 1 rfl) ?_
  refine lv_iload_n hx hb dX5_takesOne_2 rfl (lv_at hl 1 rfl) ?_
  refine jk_callV (As := [.int vc, .int vc]) (rest := []) (ws1 := (jx_W g a M)) ⟨hx, hb, hml, hown, hts⟩ (c_X5_isHere l D g a M vc vc (by subst_vars; exact ht)) (cwV 2 hts gX5_takesOne_X5_isHere rfl rfl rfl (by decide +kernel) ⟨Nat.le_of_ble_eq_true rfl, Nat.le_of_ble_eq_true rfl⟩) (va_recv hK hP (ci := 5) (q0 := 0) rfl rfl) hP hD hK hN rfl hl rfl (Nat.le_of_ble_eq_true rfl) dX5_takesOne_3 ⟨Nat.zero_le _, Nat.zero_le _⟩ hS hA (fun _ h _ => h) (fun H locs hP hS => ?_)
  refine W.eq (g2 := F0 m 6 ls [.int (rX5_isHere M vc vc)]) rfl ?_
  refine lv_topi (fun x1 ex1 => ?_)
  refine lv_istore_n (lv' := [(2, .int x1), (0, .ref (a 0)), (1, .int vc)]) hx hb dX5_takesOne_6 rfl hl (by decide) rfl (fun ls hl => ?_)
  refine lv_aload_n hx hb dX5_takesOne_7 rfl (lv_at hl 1 rfl) ?_
  refine lv_dup hx hb dX5_takesOne_8 rfl ?_
  refine va_get (D := D) (ci := 5) (v := .int (jx_sp M)) (C := RX5) (T := TX5) (N := 13) hx hb hts hi_5 hown hK hP 0 rfl rfl 8 (by decide) hf_156 (fun _ h9 => h9) rfl dX5_takesOne_9 ?_
  refine lv_iload_n hx hb dX5_takesOne_12 rfl (lv_at hl 0 rfl) ?_
  have J2 : ∀ (x3 : Int32) (H : Heap) (locs : List Loc), x3 = (if x1 = 0 then 0 else 1) → va_P D vwCl (jx_W g a M) H → va_S A s.heap H locs → W p l e ({ frames := 2, cells := 0, slots := 0, locals := 47 }) s m args below meth c H locs 0 0 (MQ below (jk_Q (some (.int (rX5_takesOne M vc))) D (jx_W g a (sX5_takesOne M vc)) A) args s 0 0 A) (F0 m 21 ls [.int x3, .int (jx_sp M), .ref (a 0)]) := by
    intro x3 H locs ex3 hP hS
    refine lv_iadd hx hb dX5_takesOne_21 ?_
    refine lv_topi (fun x4 ex4 => ?_)
    refine va_put (D := D) (ci := 5) (v := .int x4) (ty := .int) (C := RX5) (T := TX5) (N := 13) hx hb hts hi_5 tyX5 tyX5_ok nmX5 hown hK hP hD hS 0 rfl rfl 8 (by decide) hf_156 (fun _ h9 => h9) rfl (by decide +kernel) rfl rfl (Nat.le_of_ble_eq_true rfl) dX5_takesOne_22 (fun H locs hP hD hS => ?_)
    have hP : va_P D vwCl (jx_W g a (jx_usp M x4)) H := hP
    have hD : va_D A (jx_W g a (jx_usp M x4)) := hD
    refine lv_iload_n hx hb dX5_takesOne_25 rfl (lv_at hl 0 rfl) ?_
    subst ex4
    subst ex3
    subst ex1
    exact jk_zret hx hb hr (jx_here_nar _ _ _) hlocks hP hS (by rfl) (congrArg (fun z => (jx_W g a z)) ((by rfl))) dX5_takesOne_26
  refine lv_if_eq (tgt := 20) hx hb dX5_takesOne_13 (by decide) (fun c_13 => ?_) (fun c_13 => ?_)
  · refine lv_iconst (v := 0) hx hb dX5_takesOne_20 (by decide) ?_
    exact J2 _ H locs ((if_pos c_13).trans (rfl)).symm hP hS
  · refine lv_iconst (v := 1) hx hb dX5_takesOne_16 (by decide) ?_
    refine lv_goto (tgt := 21) hx hb dX5_takesOne_17 (by decide) ?_
    exact J2 _ H locs ((if_neg c_13).trans (rfl)).symm hP hS

def rX5_readsNumber (M : jx_T) (vu : Int32) (vv : Int32) : Int32 := let x1 : Int32 := rX5_isHere M (48 + vu) (57 : Int32); if x1 = 0 then (0) else (let x2 : Int32 := (jx_tx M) (jx_sp M).toNatClampNeg; let x3 : Int32 := x2 - 48; let x4 : Int32 := (jx_sp M) + 1; if x3 ≤ 0 then (1) else (let x5 : Int32 := rX5_isHere (jx_unu (jx_usp M x4) x3) (48 : Int32) (57 : Int32); if x5 = 0 then (1) else (let x6 : Int32 := (10 * x3) + ((jx_tx M) x4.toNatClampNeg); if vv < (x6 - 48) then (1) else (let x7 : Int32 := (10 * x3) + ((jx_tx M) x4.toNatClampNeg); let x8 : Int32 := x7 - 48; let x9 : Int32 := x4 + 1; 1))))
def sX5_readsNumber (M : jx_T) (vu : Int32) (vv : Int32) : jx_T := let x1 : Int32 := rX5_isHere M (48 + vu) (57 : Int32); if x1 = 0 then (M) else (let x2 : Int32 := (jx_tx M) (jx_sp M).toNatClampNeg; let x3 : Int32 := x2 - 48; let x4 : Int32 := (jx_sp M) + 1; if x3 ≤ 0 then ((jx_unu (jx_usp M x4) x3)) else (let x5 : Int32 := rX5_isHere (jx_unu (jx_usp M x4) x3) (48 : Int32) (57 : Int32); if x5 = 0 then ((jx_unu (jx_usp M x4) x3)) else (let x6 : Int32 := (10 * x3) + ((jx_tx M) x4.toNatClampNeg); if vv < (x6 - 48) then ((jx_unu (jx_usp M x4) x3)) else (let x7 : Int32 := (10 * x3) + ((jx_tx M) x4.toNatClampNeg); let x8 : Int32 := x7 - 48; let x9 : Int32 := x4 + 1; (jx_unu (jx_usp M x9) x8)))))
set_option maxHeartbeats 1000000 in
set_option maxRecDepth 100000 in
theorem c_X5_readsNumber (l : Launch) (D : va_G) (g : jk_G) (a : Nat → Nat) (M : jx_T) (vu : Int32) (vv : Int32) (ht : jx_tp M) : jk_M l D g yX5_readsNumber wsX5_readsNumber 2 47 [.ref (a 0), .int vu, .int vv] (jx_W g a M) (some (.int (rX5_readsNumber M vu vv))) (jx_W g a (sX5_readsNumber M vu vv)) := by
  refine jk_of (cc := cX5_readsNumber) (maxL := 3) (ret := (some .boolean)) (by decide +kernel) rfl (Nat.le_of_ble_eq_true rfl) ?_
  intro p e s m args below meth c hx hb hr hml hts hown hlocks hK hN A H locs hP hD hA hS ls hl
  have hown : s.vm.findClass RX5 = some m.cls := hown
  have hl : lv_has ls 3 [(0, .ref (a 0)), (1, .int vu), (2, .int vv)] := hl
  have hf_25 := hts (.fieldLink RX5 25 "InfluenceJarsModel" "text" "[I") (by decide +kernel)
  have hi_5 : ∀ w ∈ u_ws RX5 TX5 13, w ∈ wsX5_readsNumber := by decide +kernel
  have hf_156 := hts (.fieldLink RX5 156 "InfluenceJarsModel" "spot" "I") (by decide +kernel)
  have hf_162 := hts (.fieldLink RX5 162 "InfluenceJarsModel" "number" "I") (by decide +kernel)
  refine lv_aload_n hx hb dX5_readsNumber_0 rfl (lv_at hl 0 rfl) ?_
  refine lv_bipush (v := 48) hx hb dX5_readsNumber_1 (by decide) ?_
  refine lv_iload_n hx hb dX5_readsNumber_3 rfl (lv_at hl 1 rfl) ?_
  refine lv_iadd hx hb dX5_readsNumber_4 ?_
  refine lv_bipush (v := 57) hx hb dX5_readsNumber_5 (by decide) ?_
  refine jk_callV (As := [.int (48 + vu), .int 57]) (rest := []) (ws1 := (jx_W g a M)) ⟨hx, hb, hml, hown, hts⟩ (c_X5_isHere l D g a M (48 + vu) (57 : Int32) (by subst_vars; exact ht)) (cwV 2 hts gX5_readsNumber_X5_isHere rfl rfl rfl (by decide +kernel) ⟨Nat.le_of_ble_eq_true rfl, Nat.le_of_ble_eq_true rfl⟩) (va_recv hK hP (ci := 5) (q0 := 0) rfl rfl) hP hD hK hN rfl hl rfl (Nat.le_of_ble_eq_true rfl) dX5_readsNumber_7 ⟨Nat.zero_le _, Nat.zero_le _⟩ hS hA (fun _ h _ => h) (fun H locs hP hS => ?_)
  refine W.eq (g2 := F0 m 10 ls [.int (rX5_isHere M (48 + vu) (57 : Int32))]) rfl ?_
  refine lv_topi (fun x1 ex1 => ?_)
  refine lv_if_ne (tgt := 15) hx hb dX5_readsNumber_10 (by decide) (fun c_10 => ?_) (fun c_10 => ?_)
  · refine lv_aload_n hx hb dX5_readsNumber_15 rfl (lv_at hl 0 rfl) ?_
    refine lv_aload_n hx hb dX5_readsNumber_16 rfl (lv_at hl 0 rfl) ?_
    refine va_get (D := D) (ci := 5) (v := .ref (a 6)) (C := RX5) (T := TX5) (N := 13) hx hb hts hi_5 hown hK hP 0 rfl rfl 6 (by decide) hf_25 (fun _ h9 => h9) rfl dX5_readsNumber_17 ?_
    refine lv_aload_n hx hb dX5_readsNumber_20 rfl (lv_at hl 0 rfl) ?_
    refine va_get (D := D) (ci := 5) (v := .int (jx_sp M)) (C := RX5) (T := TX5) (N := 13) hx hb hts hi_5 hown hK hP 0 rfl rfl 8 (by decide) hf_156 (fun _ h9 => h9) rfl dX5_readsNumber_21 ?_
    refine va_iald (f := (jx_tx M)) hx hb hK hP 6 0 rfl rfl (by subst_vars; exact jx_here_in ht c_10) dX5_readsNumber_24 ?_
    refine lv_topi (fun x2 ex2 => ?_)
    refine lv_bipush (v := 48) hx hb dX5_readsNumber_25 (by decide) ?_
    refine lv_isub hx hb dX5_readsNumber_27 ?_
    refine lv_topi (fun x3 ex3 => ?_)
    refine va_put (D := D) (ci := 5) (v := .int x3) (ty := .int) (C := RX5) (T := TX5) (N := 13) hx hb hts hi_5 tyX5 tyX5_ok nmX5 hown hK hP hD hS 0 rfl rfl 9 (by decide) hf_162 (fun _ h9 => h9) rfl (by decide +kernel) rfl rfl (Nat.le_of_ble_eq_true rfl) dX5_readsNumber_28 (fun H locs hP hD hS => ?_)
    have hP : va_P D vwCl (jx_W g a (jx_unu M x3)) H := hP
    have hD : va_D A (jx_W g a (jx_unu M x3)) := hD
    refine lv_aload_n hx hb dX5_readsNumber_31 rfl (lv_at hl 0 rfl) ?_
    refine lv_dup hx hb dX5_readsNumber_32 rfl ?_
    refine va_get (D := D) (ci := 5) (v := .int (jx_sp M)) (C := RX5) (T := TX5) (N := 13) hx hb hts hi_5 hown hK hP 0 rfl rfl 8 (by decide) hf_156 (fun _ h9 => h9) rfl dX5_readsNumber_33 ?_
    refine lv_iconst (v := 1) hx hb dX5_readsNumber_36 (by decide) ?_
    refine lv_iadd hx hb dX5_readsNumber_37 ?_
    refine lv_topi (fun x4 ex4 => ?_)
    refine va_put (D := D) (ci := 5) (v := .int x4) (ty := .int) (C := RX5) (T := TX5) (N := 13) hx hb hts hi_5 tyX5 tyX5_ok nmX5 hown hK hP hD hS 0 rfl rfl 8 (by decide) hf_156 (fun _ h9 => h9) rfl (by decide +kernel) rfl rfl (Nat.le_of_ble_eq_true rfl) dX5_readsNumber_38 (fun H locs hP hD hS => ?_)
    have hP : va_P D vwCl (jx_W g a (jx_unu (jx_usp M x4) x3)) H := hP
    have hD : va_D A (jx_W g a (jx_unu (jx_usp M x4) x3)) := hD
    refine lv_aload_n hx hb dX5_readsNumber_41 rfl (lv_at hl 0 rfl) ?_
    refine va_get (D := D) (ci := 5) (v := .int x3) (C := RX5) (T := TX5) (N := 13) hx hb hts hi_5 hown hK hP 0 rfl rfl 9 (by decide) hf_162 (fun _ h9 => h9) rfl dX5_readsNumber_42 ?_
    refine lv_if_le (tgt := 117) hx hb dX5_readsNumber_45 (by decide) (fun c_45 => ?_) (fun c_45 => ?_)
    · refine lv_iconst (v := 1) hx hb dX5_readsNumber_117 (by decide) ?_
      subst ex4
      subst ex3
      subst ex2
      subst ex1
      exact jk_zret hx hb hr rfl hlocks hP hS (by unfold rX5_readsNumber; rw [if_neg c_10, if_pos c_45]) (congrArg (fun z => (jx_W g a z)) ((by unfold sX5_readsNumber; rw [if_neg c_10, if_pos c_45]))) dX5_readsNumber_118
    · refine lv_aload_n hx hb dX5_readsNumber_48 rfl (lv_at hl 0 rfl) ?_
      refine lv_bipush (v := 48) hx hb dX5_readsNumber_49 (by decide) ?_
      refine lv_bipush (v := 57) hx hb dX5_readsNumber_51 (by decide) ?_
      refine jk_callV (As := [.int 48, .int 57]) (rest := []) (ws1 := (jx_W g a (jx_unu (jx_usp M x4) x3))) ⟨hx, hb, hml, hown, hts⟩ (c_X5_isHere l D g a (jx_unu (jx_usp M x4) x3) (48 : Int32) (57 : Int32) (by subst_vars; exact jx_tp_next ht c_10)) (cwV 2 hts gX5_readsNumber_X5_isHere rfl rfl rfl (by decide +kernel) ⟨Nat.le_of_ble_eq_true rfl, Nat.le_of_ble_eq_true rfl⟩) (va_recv hK hP (ci := 5) (q0 := 0) rfl rfl) hP hD hK hN rfl hl rfl (Nat.le_of_ble_eq_true rfl) dX5_readsNumber_53 ⟨Nat.zero_le _, Nat.zero_le _⟩ hS hA (fun _ h _ => h) (fun H locs hP hS => ?_)
      refine W.eq (g2 := F0 m 56 ls [.int (rX5_isHere (jx_unu (jx_usp M x4) x3) (48 : Int32) (57 : Int32))]) rfl ?_
      refine lv_topi (fun x5 ex5 => ?_)
      refine lv_if_eq (tgt := 117) hx hb dX5_readsNumber_56 (by decide) (fun c_56 => ?_) (fun c_56 => ?_)
      · refine lv_iconst (v := 1) hx hb dX5_readsNumber_117 (by decide) ?_
        subst ex5
        subst ex4
        subst ex3
        subst ex2
        subst ex1
        exact jk_zret hx hb hr rfl hlocks hP hS (by unfold rX5_readsNumber; rw [if_neg c_10, if_neg c_45, if_pos c_56]) (congrArg (fun z => (jx_W g a z)) ((by unfold sX5_readsNumber; rw [if_neg c_10, if_neg c_45, if_pos c_56]))) dX5_readsNumber_118
      · refine lv_bipush (v := 10) hx hb dX5_readsNumber_59 (by decide) ?_
        refine lv_aload_n hx hb dX5_readsNumber_61 rfl (lv_at hl 0 rfl) ?_
        refine va_get (D := D) (ci := 5) (v := .int x3) (C := RX5) (T := TX5) (N := 13) hx hb hts hi_5 hown hK hP 0 rfl rfl 9 (by decide) hf_162 (fun _ h9 => h9) rfl dX5_readsNumber_62 ?_
        refine lv_imul hx hb dX5_readsNumber_65 ?_
        refine lv_aload_n hx hb dX5_readsNumber_66 rfl (lv_at hl 0 rfl) ?_
        refine va_get (D := D) (ci := 5) (v := .ref (a 6)) (C := RX5) (T := TX5) (N := 13) hx hb hts hi_5 hown hK hP 0 rfl rfl 6 (by decide) hf_25 (fun _ h9 => h9) rfl dX5_readsNumber_67 ?_
        refine lv_aload_n hx hb dX5_readsNumber_70 rfl (lv_at hl 0 rfl) ?_
        refine va_get (D := D) (ci := 5) (v := .int x4) (C := RX5) (T := TX5) (N := 13) hx hb hts hi_5 hown hK hP 0 rfl rfl 8 (by decide) hf_156 (fun _ h9 => h9) rfl dX5_readsNumber_71 ?_
        refine va_iald (f := (jx_tx M)) hx hb hK hP 6 0 rfl rfl (by subst_vars; exact jx_here_in2 ht c_10 c_56) dX5_readsNumber_74 ?_
        refine lv_iadd hx hb dX5_readsNumber_75 ?_
        refine lv_topi (fun x6 ex6 => ?_)
        refine lv_bipush (v := 48) hx hb dX5_readsNumber_76 (by decide) ?_
        refine lv_isub hx hb dX5_readsNumber_78 ?_
        refine lv_iload_n hx hb dX5_readsNumber_79 rfl (lv_at hl 2 rfl) ?_
        refine lv_icmp_gt (tgt := 117) hx hb dX5_readsNumber_80 (by decide) (fun c_80 => ?_) (fun c_80 => ?_)
        · refine lv_iconst (v := 1) hx hb dX5_readsNumber_117 (by decide) ?_
          subst ex6
          subst ex5
          subst ex4
          subst ex3
          subst ex2
          subst ex1
          exact jk_zret hx hb hr rfl hlocks hP hS (by unfold rX5_readsNumber; rw [if_neg c_10, if_neg c_45, if_neg c_56, if_pos c_80]) (congrArg (fun z => (jx_W g a z)) ((by unfold sX5_readsNumber; rw [if_neg c_10, if_neg c_45, if_neg c_56, if_pos c_80]))) dX5_readsNumber_118
        · refine lv_aload_n hx hb dX5_readsNumber_83 rfl (lv_at hl 0 rfl) ?_
          refine lv_bipush (v := 10) hx hb dX5_readsNumber_84 (by decide) ?_
          refine lv_aload_n hx hb dX5_readsNumber_86 rfl (lv_at hl 0 rfl) ?_
          refine va_get (D := D) (ci := 5) (v := .int x3) (C := RX5) (T := TX5) (N := 13) hx hb hts hi_5 hown hK hP 0 rfl rfl 9 (by decide) hf_162 (fun _ h9 => h9) rfl dX5_readsNumber_87 ?_
          refine lv_imul hx hb dX5_readsNumber_90 ?_
          refine lv_aload_n hx hb dX5_readsNumber_91 rfl (lv_at hl 0 rfl) ?_
          refine va_get (D := D) (ci := 5) (v := .ref (a 6)) (C := RX5) (T := TX5) (N := 13) hx hb hts hi_5 hown hK hP 0 rfl rfl 6 (by decide) hf_25 (fun _ h9 => h9) rfl dX5_readsNumber_92 ?_
          refine lv_aload_n hx hb dX5_readsNumber_95 rfl (lv_at hl 0 rfl) ?_
          refine va_get (D := D) (ci := 5) (v := .int x4) (C := RX5) (T := TX5) (N := 13) hx hb hts hi_5 hown hK hP 0 rfl rfl 8 (by decide) hf_156 (fun _ h9 => h9) rfl dX5_readsNumber_96 ?_
          refine va_iald (f := (jx_tx M)) hx hb hK hP 6 0 rfl rfl (by subst_vars; exact jx_here_in2 ht c_10 c_56) dX5_readsNumber_99 ?_
          refine lv_iadd hx hb dX5_readsNumber_100 ?_
          refine lv_topi (fun x7 ex7 => ?_)
          refine lv_bipush (v := 48) hx hb dX5_readsNumber_101 (by decide) ?_
          refine lv_isub hx hb dX5_readsNumber_103 ?_
          refine lv_topi (fun x8 ex8 => ?_)
          refine va_put (D := D) (ci := 5) (v := .int x8) (ty := .int) (C := RX5) (T := TX5) (N := 13) hx hb hts hi_5 tyX5 tyX5_ok nmX5 hown hK hP hD hS 0 rfl rfl 9 (by decide) hf_162 (fun _ h9 => h9) rfl (by decide +kernel) rfl rfl (Nat.le_of_ble_eq_true rfl) dX5_readsNumber_104 (fun H locs hP hD hS => ?_)
          have hP : va_P D vwCl (jx_W g a (jx_unu (jx_usp M x4) x8)) H := hP
          have hD : va_D A (jx_W g a (jx_unu (jx_usp M x4) x8)) := hD
          refine lv_aload_n hx hb dX5_readsNumber_107 rfl (lv_at hl 0 rfl) ?_
          refine lv_dup hx hb dX5_readsNumber_108 rfl ?_
          refine va_get (D := D) (ci := 5) (v := .int x4) (C := RX5) (T := TX5) (N := 13) hx hb hts hi_5 hown hK hP 0 rfl rfl 8 (by decide) hf_156 (fun _ h9 => h9) rfl dX5_readsNumber_109 ?_
          refine lv_iconst (v := 1) hx hb dX5_readsNumber_112 (by decide) ?_
          refine lv_iadd hx hb dX5_readsNumber_113 ?_
          refine lv_topi (fun x9 ex9 => ?_)
          refine va_put (D := D) (ci := 5) (v := .int x9) (ty := .int) (C := RX5) (T := TX5) (N := 13) hx hb hts hi_5 tyX5 tyX5_ok nmX5 hown hK hP hD hS 0 rfl rfl 8 (by decide) hf_156 (fun _ h9 => h9) rfl (by decide +kernel) rfl rfl (Nat.le_of_ble_eq_true rfl) dX5_readsNumber_114 (fun H locs hP hD hS => ?_)
          have hP : va_P D vwCl (jx_W g a (jx_unu (jx_usp M x9) x8)) H := hP
          have hD : va_D A (jx_W g a (jx_unu (jx_usp M x9) x8)) := hD
          refine lv_iconst (v := 1) hx hb dX5_readsNumber_117 (by decide) ?_
          subst ex9
          subst ex8
          subst ex7
          subst ex6
          subst ex5
          subst ex4
          subst ex3
          subst ex2
          subst ex1
          exact jk_zret hx hb hr rfl hlocks hP hS (by unfold rX5_readsNumber; rw [if_neg c_10, if_neg c_45, if_neg c_56, if_neg c_80]) (congrArg (fun z => (jx_W g a z)) ((by unfold sX5_readsNumber; rw [if_neg c_10, if_neg c_45, if_neg c_56, if_neg c_80]))) dX5_readsNumber_118
  · refine lv_iconst (v := 0) hx hb dX5_readsNumber_13 (by decide) ?_
    subst ex1
    exact jk_zret hx hb hr rfl hlocks hP hS (by unfold rX5_readsNumber; rw [if_pos c_10]) (congrArg (fun z => (jx_W g a z)) ((by unfold sX5_readsNumber; rw [if_pos c_10]))) dX5_readsNumber_14
