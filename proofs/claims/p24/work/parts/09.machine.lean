def rX2_putCharge (M : jm_T) (vd : Int32) (vp : Int32) (x0 : Int32) : Int32 := let x1 : Int32 := rX2_indexOf vd vp (jm_tu M); let f2 : (Nat → Int32) := upd (jm_ch M) x1.toNatClampNeg x0; let x3 : Int32 := x0 - ((jm_ch M) x1.toNatClampNeg); (jm_ch M) x1.toNatClampNeg
def sX2_putCharge (M : jm_T) (vd : Int32) (vp : Int32) (x0 : Int32) : jm_T := let x1 : Int32 := rX2_indexOf vd vp (jm_tu M); let f2 : (Nat → Int32) := upd (jm_ch M) x1.toNatClampNeg x0; let x3 : Int32 := x0 - ((jm_ch M) x1.toNatClampNeg); (jm_upo (jm_uch M f2) ((jm_po M) + x3))
set_option maxHeartbeats 4000000 in
set_option maxRecDepth 100000 in
theorem c_X2_putCharge (l : Launch) (D : va_G) (g : jk_G) (a : Nat → Nat) (M : jm_T) (vd : Int32) (vp : Int32) (x0 : Int32)  : jk_M l D g yX2_putCharge wsX2_putCharge 2 44 [.ref (a 0), .int vd, .int vp, .int x0] (jm_W g a M) (some (.int (rX2_putCharge M vd vp x0))) (jm_W g a (sX2_putCharge M vd vp x0)) := by
  refine jk_of (cc := cX2_putCharge) (maxL := 6) (ret := (some .int)) (by decide +kernel) rfl (Nat.le_of_ble_eq_true rfl) ?_
  intro p e s m args below meth c hx hb hr hml hts hown hlocks hK hN A H locs hP hD hA hS ls hl
  have hown : s.vm.findClass RX2 = some m.cls := hown
  have hl : lv_has ls 6 [(0, .ref (a 0)), (1, .int vd), (2, .int vp), (3, .int x0)] := hl
  have hf_34 := hts (.fieldLink RX2 34 "InfluenceJars$Machine" "turns" "I") (by decide +kernel)
  have hi_2 : ∀ w ∈ u_ws RX2 TX2 13, w ∈ wsX2_putCharge := by decide +kernel
  have hf_15 := hts (.fieldLink RX2 15 "InfluenceJars$Machine" "charges" "[I") (by decide +kernel)
  have hf_50 := hts (.fieldLink RX2 50 "InfluenceJars$Machine" "putOn" "I") (by decide +kernel)
  refine lv_iload_n hx hb dX2_putCharge_0 rfl (lv_at hl 1 rfl) ?_
  refine lv_iload_n hx hb dX2_putCharge_1 rfl (lv_at hl 2 rfl) ?_
  refine lv_aload_n hx hb dX2_putCharge_2 rfl (lv_at hl 0 rfl) ?_
  refine va_get (D := D) (ci := 2) (v := .int (jm_tu M)) (C := RX2) (T := TX2) (N := 13) hx hb hts hi_2 hown hK hP 0 rfl rfl 6 (by decide) hf_34 (fun _ h9 => h9) rfl dX2_putCharge_3 ?_
  refine jk_callS (As := [.int vd, .int vp, .int (jm_tu M)]) (rest := []) (ws1 := (jm_W g a M)) ⟨hx, hb, hml, hown, hts⟩ (c_X2_indexOf l D g vd vp (jm_tu M)) (va_cwS 3 hts gX2_putCharge_X2_indexOf rfl rfl rfl (by decide +kernel) ⟨Nat.le_of_ble_eq_true rfl, Nat.le_of_ble_eq_true rfl⟩) jk_nilP (jk_nilD (A := A)) hK hN rfl hl rfl (Nat.le_of_ble_eq_true rfl) dX2_putCharge_6 ⟨Nat.zero_le _, Nat.zero_le _⟩ hS hA (fun _ _ hk => jk_keep hP hk) (fun H locs hP hS => ?_)
  refine W.eq (g2 := F0 m 9 ls [.int (rX2_indexOf vd vp (jm_tu M))]) rfl ?_
  refine lv_topi (fun x1 ex1 => ?_)
  refine lv_istore (lv' := [(4, .int x1), (0, .ref (a 0)), (1, .int vd), (2, .int vp), (3, .int x0)]) hx hb dX2_putCharge_9 hl (by decide) rfl (fun ls hl => ?_)
  refine lv_aload_n hx hb dX2_putCharge_11 rfl (lv_at hl 1 rfl) ?_
  refine va_get (D := D) (ci := 2) (v := .ref (a 2)) (C := RX2) (T := TX2) (N := 13) hx hb hts hi_2 hown hK hP 0 rfl rfl 1 (by decide) hf_15 (fun _ h9 => h9) rfl dX2_putCharge_12 ?_
  refine lv_iload hx hb dX2_putCharge_15 (lv_at hl 0 rfl) ?_
  refine va_iald (f := (jm_ch M)) hx hb hK hP 2 0 rfl rfl (by subst_vars; exact jk_ix_in _ _ _) dX2_putCharge_17 ?_
  refine lv_istore (lv' := [(5, .int ((jm_ch M) x1.toNatClampNeg)), (4, .int x1), (0, .ref (a 0)), (1, .int vd), (2, .int vp), (3, .int x0)]) hx hb dX2_putCharge_18 hl (by decide) rfl (fun ls hl => ?_)
  refine lv_aload_n hx hb dX2_putCharge_20 rfl (lv_at hl 2 rfl) ?_
  refine va_get (D := D) (ci := 2) (v := .ref (a 2)) (C := RX2) (T := TX2) (N := 13) hx hb hts hi_2 hown hK hP 0 rfl rfl 1 (by decide) hf_15 (fun _ h9 => h9) rfl dX2_putCharge_21 ?_
  refine lv_iload hx hb dX2_putCharge_24 (lv_at hl 1 rfl) ?_
  refine lv_iload_n hx hb dX2_putCharge_26 rfl (lv_at hl 5 rfl) ?_
  refine va_iast (f := (jm_ch M)) hx hb hK hP hD hS 2 0 rfl rfl (by subst_vars; exact jk_ix_in _ _ _) dX2_putCharge_27 (fun H locs hP hD hS => ?_)
  obtain ⟨f2, ef2⟩ : ∃ z : Nat → Int32, z = (upd (jm_ch M) x1.toNatClampNeg x0) := ⟨_, rfl⟩
  rw [← ef2] at hP hD
  have hP : va_P D vwCl (jm_W g a (jm_uch M f2)) H := hP
  have hD : va_D A (jm_W g a (jm_uch M f2)) := hD
  refine lv_aload_n hx hb dX2_putCharge_28 rfl (lv_at hl 2 rfl) ?_
  refine lv_dup hx hb dX2_putCharge_29 rfl ?_
  refine va_get (D := D) (ci := 2) (v := .int (jm_po M)) (C := RX2) (T := TX2) (N := 13) hx hb hts hi_2 hown hK hP 0 rfl rfl 11 (by decide) hf_50 (fun _ h9 => h9) rfl dX2_putCharge_30 ?_
  refine lv_iload_n hx hb dX2_putCharge_33 rfl (lv_at hl 5 rfl) ?_
  refine lv_iload hx hb dX2_putCharge_34 (lv_at hl 0 rfl) ?_
  refine lv_isub hx hb dX2_putCharge_36 ?_
  refine lv_topi (fun x3 ex3 => ?_)
  refine lv_iadd hx hb dX2_putCharge_37 ?_
  refine va_put (D := D) (ci := 2) (v := .int ((jm_po M) + x3)) (ty := .int) (C := RX2) (T := TX2) (N := 13) hx hb hts hi_2 tyX2 tyX2_ok nmX2 hown hK hP hD hS 0 rfl rfl 11 (by decide) hf_50 (fun _ h9 => h9) rfl (by decide +kernel) rfl rfl (Nat.le_of_ble_eq_true rfl) dX2_putCharge_38 (fun H locs hP hD hS => ?_)
  have hP : va_P D vwCl (jm_W g a (jm_upo (jm_uch M f2) ((jm_po M) + x3))) H := hP
  have hD : va_D A (jm_W g a (jm_upo (jm_uch M f2) ((jm_po M) + x3))) := hD
  refine lv_iload hx hb dX2_putCharge_41 (lv_at hl 0 rfl) ?_
  subst ex3
  subst ef2
  subst ex1
  exact jk_iret hx hb hr hlocks hP hS (rfl).symm (congrArg (fun z => (jm_W g a z)) ((rfl).symm)) dX2_putCharge_43

def rX2_emptyJars (M : jm_T) : Int32 := let x1 : Int32 := rX2_difference M; let x2 : Int32 := ((jm_ja M) 0) + ((jm_ja M) 1); x1
def sX2_emptyJars (M : jm_T) : jm_T := let x1 : Int32 := rX2_difference M; let x2 : Int32 := ((jm_ja M) 0) + ((jm_ja M) 1); (jm_uto (jm_uja M (upd (upd (jm_ja M) 0 0) 1 0)) ((jm_to M) + x2))
set_option maxHeartbeats 4000000 in
set_option maxRecDepth 100000 in
theorem c_X2_emptyJars (l : Launch) (D : va_G) (g : jk_G) (a : Nat → Nat) (M : jm_T)  : jk_M l D g yX2_emptyJars wsX2_emptyJars 2 33 [.ref (a 0)] (jm_W g a M) (some (.int (rX2_emptyJars M))) (jm_W g a (sX2_emptyJars M)) := by
  refine jk_of (cc := cX2_emptyJars) (maxL := 2) (ret := (some .int)) (by decide +kernel) rfl (Nat.le_of_ble_eq_true rfl) ?_
  intro p e s m args below meth c hx hb hr hml hts hown hlocks hK hN A H locs hP hD hA hS ls hl
  have hown : s.vm.findClass RX2 = some m.cls := hown
  have hl : lv_has ls 2 [(0, .ref (a 0))] := hl
  have hf_53 := hts (.fieldLink RX2 53 "InfluenceJars$Machine" "takenOff" "I") (by decide +kernel)
  have hi_2 : ∀ w ∈ u_ws RX2 TX2 13, w ∈ wsX2_emptyJars := by decide +kernel
  have hf_18 := hts (.fieldLink RX2 18 "InfluenceJars$Machine" "jars" "[I") (by decide +kernel)
  refine lv_aload_n hx hb dX2_emptyJars_0 rfl (lv_at hl 0 rfl) ?_
  refine jk_callV (As := []) (rest := []) (ws1 := (jm_W g a M)) ⟨hx, hb, hml, hown, hts⟩ (c_X2_difference l D g a M) (cwV 0 hts gX2_emptyJars_X2_difference rfl rfl rfl (by decide +kernel) ⟨Nat.le_of_ble_eq_true rfl, Nat.le_of_ble_eq_true rfl⟩) (va_recv hK hP (ci := 2) (q0 := 0) rfl rfl) hP hD hK hN rfl hl rfl (Nat.le_of_ble_eq_true rfl) dX2_emptyJars_1 ⟨Nat.zero_le _, Nat.zero_le _⟩ hS hA (fun _ h _ => h) (fun H locs hP hS => ?_)
  refine W.eq (g2 := F0 m 4 ls [.int (rX2_difference M)]) rfl ?_
  refine lv_topi (fun x1 ex1 => ?_)
  refine lv_istore_n (lv' := [(1, .int x1), (0, .ref (a 0))]) hx hb dX2_emptyJars_4 rfl hl (by decide) rfl (fun ls hl => ?_)
  refine lv_aload_n hx hb dX2_emptyJars_5 rfl (lv_at hl 1 rfl) ?_
  refine lv_dup hx hb dX2_emptyJars_6 rfl ?_
  refine va_get (D := D) (ci := 2) (v := .int (jm_to M)) (C := RX2) (T := TX2) (N := 13) hx hb hts hi_2 hown hK hP 0 rfl rfl 12 (by decide) hf_53 (fun _ h9 => h9) rfl dX2_emptyJars_7 ?_
  refine lv_aload_n hx hb dX2_emptyJars_10 rfl (lv_at hl 1 rfl) ?_
  refine va_get (D := D) (ci := 2) (v := .ref (a 3)) (C := RX2) (T := TX2) (N := 13) hx hb hts hi_2 hown hK hP 0 rfl rfl 2 (by decide) hf_18 (fun _ h9 => h9) rfl dX2_emptyJars_11 ?_
  refine lv_iconst (v := 0) hx hb dX2_emptyJars_14 (by decide) ?_
  refine va_iald (f := (jm_ja M)) hx hb hK hP 3 0 rfl rfl (jk_inC (by decide +kernel)) dX2_emptyJars_15 ?_
  refine W.eq (g2 := F0 m 16 ls [.int ((jm_ja M) 0), .int (jm_to M), .ref (a 0)]) rfl ?_
  refine lv_aload_n hx hb dX2_emptyJars_16 rfl (lv_at hl 1 rfl) ?_
  refine va_get (D := D) (ci := 2) (v := .ref (a 3)) (C := RX2) (T := TX2) (N := 13) hx hb hts hi_2 hown hK hP 0 rfl rfl 2 (by decide) hf_18 (fun _ h9 => h9) rfl dX2_emptyJars_17 ?_
  refine lv_iconst (v := 1) hx hb dX2_emptyJars_20 (by decide) ?_
  refine va_iald (f := (jm_ja M)) hx hb hK hP 3 0 rfl rfl (jk_inC (by decide +kernel)) dX2_emptyJars_21 ?_
  refine W.eq (g2 := F0 m 22 ls [.int ((jm_ja M) 1), .int ((jm_ja M) 0), .int (jm_to M), .ref (a 0)]) rfl ?_
  refine lv_iadd hx hb dX2_emptyJars_22 ?_
  refine lv_topi (fun x2 ex2 => ?_)
  refine lv_iadd hx hb dX2_emptyJars_23 ?_
  refine va_put (D := D) (ci := 2) (v := .int ((jm_to M) + x2)) (ty := .int) (C := RX2) (T := TX2) (N := 13) hx hb hts hi_2 tyX2 tyX2_ok nmX2 hown hK hP hD hS 0 rfl rfl 12 (by decide) hf_53 (fun _ h9 => h9) rfl (by decide +kernel) rfl rfl (Nat.le_of_ble_eq_true rfl) dX2_emptyJars_24 (fun H locs hP hD hS => ?_)
  have hP : va_P D vwCl (jm_W g a (jm_uto M ((jm_to M) + x2))) H := hP
  have hD : va_D A (jm_W g a (jm_uto M ((jm_to M) + x2))) := hD
  refine lv_aload_n hx hb dX2_emptyJars_27 rfl (lv_at hl 1 rfl) ?_
  refine va_get (D := D) (ci := 2) (v := .ref (a 3)) (C := RX2) (T := TX2) (N := 13) hx hb hts hi_2 hown hK hP 0 rfl rfl 2 (by decide) hf_18 (fun _ h9 => h9) rfl dX2_emptyJars_28 ?_
  refine lv_iconst (v := 0) hx hb dX2_emptyJars_31 (by decide) ?_
  refine lv_iconst (v := 0) hx hb dX2_emptyJars_32 (by decide) ?_
  refine va_iast (f := (jm_ja M)) hx hb hK hP hD hS 3 0 rfl rfl (jk_inC (by decide +kernel)) dX2_emptyJars_33 (fun H locs hP hD hS => ?_)
  have hP : va_P D vwCl (jm_W g a (jm_uto (jm_uja M (upd (jm_ja M) 0 0)) ((jm_to M) + x2))) H := hP
  have hD : va_D A (jm_W g a (jm_uto (jm_uja M (upd (jm_ja M) 0 0)) ((jm_to M) + x2))) := hD
  refine lv_aload_n hx hb dX2_emptyJars_34 rfl (lv_at hl 1 rfl) ?_
  refine va_get (D := D) (ci := 2) (v := .ref (a 3)) (C := RX2) (T := TX2) (N := 13) hx hb hts hi_2 hown hK hP 0 rfl rfl 2 (by decide) hf_18 (fun _ h9 => h9) rfl dX2_emptyJars_35 ?_
  refine lv_iconst (v := 1) hx hb dX2_emptyJars_38 (by decide) ?_
  refine lv_iconst (v := 0) hx hb dX2_emptyJars_39 (by decide) ?_
  refine va_iast (f := (upd (jm_ja M) 0 0)) hx hb hK hP hD hS 3 0 rfl rfl (jk_inC (by decide +kernel)) dX2_emptyJars_40 (fun H locs hP hD hS => ?_)
  have hP : va_P D vwCl (jm_W g a (jm_uto (jm_uja M (upd (upd (jm_ja M) 0 0) 1 0)) ((jm_to M) + x2))) H := hP
  have hD : va_D A (jm_W g a (jm_uto (jm_uja M (upd (upd (jm_ja M) 0 0) 1 0)) ((jm_to M) + x2))) := hD
  refine lv_iload_n hx hb dX2_emptyJars_41 rfl (lv_at hl 0 rfl) ?_
  subst ex2
  subst ex1
  exact jk_iret hx hb hr hlocks hP hS (rfl).symm (congrArg (fun z => (jm_W g a z)) ((rfl).symm)) dX2_emptyJars_42

def sX2_join_0 (M : jm_T) : jm_T := let x1 : Int32 := rX2_indexOf (0 : Int32) (2 : Int32) (jm_tu M); let x2 : Int32 := rX2_indexOf (0 : Int32) (8 : Int32) (jm_tu M); let x3 : Int32 := rX2_indexOf (1 : Int32) (2 : Int32) (jm_tu M); let x4 : Int32 := rX2_indexOf (1 : Int32) (8 : Int32) (jm_tu M); let x5 : Int32 := ((jm_ch M) x1.toNatClampNeg) + ((jm_ch M) x2.toNatClampNeg); let x6 : Int32 := ((jm_ch M) x4.toNatClampNeg) - ((jm_ch M) x3.toNatClampNeg); let x7 : Int32 := (x5 / 2) + ((x6 * ((jm_se M) 0)) / 32); let x8 : Int32 := (-99) - ((jm_ch M) x1.toNatClampNeg); let x9 : Int32 := ((jm_ch M) x2.toNatClampNeg) - 99; let x10 : Int32 := if x8 < x9 then x9 else x8; let x11 : Int32 := 99 - ((jm_ch M) x1.toNatClampNeg); let x12 : Int32 := ((jm_ch M) x2.toNatClampNeg) + 99; let x13 : Int32 := if x12 < x11 then x12 else x11; let x14 : Int32 := x7 - ((jm_ch M) x1.toNatClampNeg); let x15 : Int32 := rX4_limited x14 x10 x13; let x16 : Int32 := ((jm_ch M) x1.toNatClampNeg) + x15; let f17 : (Nat → Int32) := upd (jm_ch M) x1.toNatClampNeg x16; let x18 : Int32 := ((jm_ch M) x2.toNatClampNeg) - x15; let f19 : (Nat → Int32) := upd f17 x2.toNatClampNeg x18; (jm_uch M f19)
set_option maxHeartbeats 4000000 in
set_option maxRecDepth 100000 in
theorem c_X2_join_0 (l : Launch) (D : va_G) (g : jk_G) (a : Nat → Nat) (M : jm_T)  : jk_M l D g yX2_join wsX2_join 2 44 [.ref (a 0), .int 0, .int 2, .int 8] (jm_W g a M) none (jm_W g a (sX2_join_0 M)) := by
  refine jk_of (cc := cX2_join) (maxL := 14) (ret := none) (by decide +kernel) rfl (Nat.le_of_ble_eq_true rfl) ?_
  intro p e s m args below meth c hx hb hr hml hts hown hlocks hK hN A H locs hP hD hA hS ls hl
  have hown : s.vm.findClass RX2 = some m.cls := hown
  have hl : lv_has ls 14 [(0, .ref (a 0)), (1, .int 0), (2, .int 2), (3, .int 8)] := hl
  have hf_34 := hts (.fieldLink RX2 34 "InfluenceJars$Machine" "turns" "I") (by decide +kernel)
  have hi_2 : ∀ w ∈ u_ws RX2 TX2 13, w ∈ wsX2_join := by decide +kernel
  have hf_15 := hts (.fieldLink RX2 15 "InfluenceJars$Machine" "charges" "[I") (by decide +kernel)
  have hf_9 := hts (.fieldLink RX2 9 "InfluenceJars$Machine" "settings" "[I") (by decide +kernel)
  have hm_71 := hts (.methodLink RX2 71 Lib.Math.max.name) (by decide +kernel)
  have hs_max := hts (.static Lib.Math.max.name) (by decide +kernel)
  have hi_Math := hts (.initialized "java/lang/Math") (by decide +kernel)
  have hc_max := hts (.code Lib.Math.max.name Lib.Math.max.code 2 (some .int)) (by exact List.mem_of_getElem? (i := 7) rfl)
  have hm_74 := hts (.methodLink RX2 74 Lib.Math.min.name) (by decide +kernel)
  have hs_min := hts (.static Lib.Math.min.name) (by decide +kernel)
  have hc_min := hts (.code Lib.Math.min.name Lib.Math.min.code 2 (some .int)) (by exact List.mem_of_getElem? (i := 10) rfl)
  have hst_X4_limited := hts (.static yX4_limited) (by decide +kernel)
  have hini_RX4 := hts (.initialized RX4) (by decide +kernel)
  refine lv_iload_n hx hb dX2_join_0 rfl (lv_at hl 1 rfl) ?_
  refine lv_iload_n hx hb dX2_join_1 rfl (lv_at hl 2 rfl) ?_
  refine lv_aload_n hx hb dX2_join_2 rfl (lv_at hl 0 rfl) ?_
  refine va_get (D := D) (ci := 2) (v := .int (jm_tu M)) (C := RX2) (T := TX2) (N := 13) hx hb hts hi_2 hown hK hP 0 rfl rfl 6 (by decide) hf_34 (fun _ h9 => h9) rfl dX2_join_3 ?_
  refine jk_callS (As := [.int 0, .int 2, .int (jm_tu M)]) (rest := []) (ws1 := (jm_W g a M)) ⟨hx, hb, hml, hown, hts⟩ (c_X2_indexOf l D g (0 : Int32) (2 : Int32) (jm_tu M)) (va_cwS 3 hts gX2_join_X2_indexOf rfl rfl rfl (by decide +kernel) ⟨Nat.le_of_ble_eq_true rfl, Nat.le_of_ble_eq_true rfl⟩) jk_nilP (jk_nilD (A := A)) hK hN rfl hl rfl (Nat.le_of_ble_eq_true rfl) dX2_join_6 ⟨Nat.zero_le _, Nat.zero_le _⟩ hS hA (fun _ _ hk => jk_keep hP hk) (fun H locs hP hS => ?_)
  refine W.eq (g2 := F0 m 9 ls [.int (rX2_indexOf (0 : Int32) (2 : Int32) (jm_tu M))]) rfl ?_
  refine lv_topi (fun x1 ex1 => ?_)
  refine lv_istore (lv' := [(4, .int x1), (0, .ref (a 0)), (1, .int 0), (2, .int 2), (3, .int 8)]) hx hb dX2_join_9 hl (by decide) rfl (fun ls hl => ?_)
  refine lv_iload_n hx hb dX2_join_11 rfl (lv_at hl 2 rfl) ?_
  refine lv_iload_n hx hb dX2_join_12 rfl (lv_at hl 4 rfl) ?_
  refine lv_aload_n hx hb dX2_join_13 rfl (lv_at hl 1 rfl) ?_
  refine va_get (D := D) (ci := 2) (v := .int (jm_tu M)) (C := RX2) (T := TX2) (N := 13) hx hb hts hi_2 hown hK hP 0 rfl rfl 6 (by decide) hf_34 (fun _ h9 => h9) rfl dX2_join_14 ?_
  refine jk_callS (As := [.int 0, .int 8, .int (jm_tu M)]) (rest := []) (ws1 := (jm_W g a M)) ⟨hx, hb, hml, hown, hts⟩ (c_X2_indexOf l D g (0 : Int32) (8 : Int32) (jm_tu M)) (va_cwS 3 hts gX2_join_X2_indexOf rfl rfl rfl (by decide +kernel) ⟨Nat.le_of_ble_eq_true rfl, Nat.le_of_ble_eq_true rfl⟩) jk_nilP (jk_nilD (A := A)) hK hN rfl hl rfl (Nat.le_of_ble_eq_true rfl) dX2_join_17 ⟨Nat.zero_le _, Nat.zero_le _⟩ hS hA (fun _ _ hk => jk_keep hP hk) (fun H locs hP hS => ?_)
  refine W.eq (g2 := F0 m 20 ls [.int (rX2_indexOf (0 : Int32) (8 : Int32) (jm_tu M))]) rfl ?_
  refine lv_topi (fun x2 ex2 => ?_)
  refine lv_istore (lv' := [(5, .int x2), (4, .int x1), (0, .ref (a 0)), (1, .int 0), (2, .int 2), (3, .int 8)]) hx hb dX2_join_20 hl (by decide) rfl (fun ls hl => ?_)
  refine lv_aload_n hx hb dX2_join_22 rfl (lv_at hl 2 rfl) ?_
  refine va_get (D := D) (ci := 2) (v := .ref (a 2)) (C := RX2) (T := TX2) (N := 13) hx hb hts hi_2 hown hK hP 0 rfl rfl 1 (by decide) hf_15 (fun _ h9 => h9) rfl dX2_join_23 ?_
  refine lv_iload hx hb dX2_join_26 (lv_at hl 1 rfl) ?_
  refine va_iald (f := (jm_ch M)) hx hb hK hP 2 0 rfl rfl (by subst_vars; exact jk_ix_in _ _ _) dX2_join_28 ?_
  refine lv_istore (lv' := [(6, .int ((jm_ch M) x1.toNatClampNeg)), (5, .int x2), (4, .int x1), (0, .ref (a 0)), (1, .int 0), (2, .int 2), (3, .int 8)]) hx hb dX2_join_29 hl (by decide) rfl (fun ls hl => ?_)
  refine lv_aload_n hx hb dX2_join_31 rfl (lv_at hl 3 rfl) ?_
  refine va_get (D := D) (ci := 2) (v := .ref (a 2)) (C := RX2) (T := TX2) (N := 13) hx hb hts hi_2 hown hK hP 0 rfl rfl 1 (by decide) hf_15 (fun _ h9 => h9) rfl dX2_join_32 ?_
  refine lv_iload hx hb dX2_join_35 (lv_at hl 1 rfl) ?_
  refine va_iald (f := (jm_ch M)) hx hb hK hP 2 0 rfl rfl (by subst_vars; exact jk_ix_in _ _ _) dX2_join_37 ?_
  refine lv_istore (lv' := [(7, .int ((jm_ch M) x2.toNatClampNeg)), (6, .int ((jm_ch M) x1.toNatClampNeg)), (5, .int x2), (4, .int x1), (0, .ref (a 0)), (1, .int 0), (2, .int 2), (3, .int 8)]) hx hb dX2_join_38 hl (by decide) rfl (fun ls hl => ?_)
  refine lv_aload_n hx hb dX2_join_40 rfl (lv_at hl 4 rfl) ?_
  refine va_get (D := D) (ci := 2) (v := .ref (a 2)) (C := RX2) (T := TX2) (N := 13) hx hb hts hi_2 hown hK hP 0 rfl rfl 1 (by decide) hf_15 (fun _ h9 => h9) rfl dX2_join_41 ?_
  refine lv_iconst (v := 1) hx hb dX2_join_44 (by decide) ?_
  refine lv_iload_n hx hb dX2_join_45 rfl (lv_at hl 5 rfl) ?_
  refine lv_isub hx hb dX2_join_46 ?_
  refine W.eq (g2 := F0 m 47 ls [.int 1, .ref (a 2)]) rfl ?_
  refine lv_iload_n hx hb dX2_join_47 rfl (lv_at hl 6 rfl) ?_
  refine lv_aload_n hx hb dX2_join_48 rfl (lv_at hl 4 rfl) ?_
  refine va_get (D := D) (ci := 2) (v := .int (jm_tu M)) (C := RX2) (T := TX2) (N := 13) hx hb hts hi_2 hown hK hP 0 rfl rfl 6 (by decide) hf_34 (fun _ h9 => h9) rfl dX2_join_49 ?_
  refine jk_callS (As := [.int 1, .int 2, .int (jm_tu M)]) (rest := [.ref (a 2)]) (ws1 := (jm_W g a M)) ⟨hx, hb, hml, hown, hts⟩ (c_X2_indexOf l D g (1 : Int32) (2 : Int32) (jm_tu M)) (va_cwS 3 hts gX2_join_X2_indexOf rfl rfl rfl (by decide +kernel) ⟨Nat.le_of_ble_eq_true rfl, Nat.le_of_ble_eq_true rfl⟩) jk_nilP (jk_nilD (A := A)) hK hN rfl hl rfl (Nat.le_of_ble_eq_true rfl) dX2_join_52 ⟨Nat.zero_le _, Nat.zero_le _⟩ hS hA (fun _ _ hk => jk_keep hP hk) (fun H locs hP hS => ?_)
  refine W.eq (g2 := F0 m 55 ls [.int (rX2_indexOf (1 : Int32) (2 : Int32) (jm_tu M)), .ref (a 2)]) rfl ?_
  refine lv_topi (fun x3 ex3 => ?_)
  refine va_iald (f := (jm_ch M)) hx hb hK hP 2 0 rfl rfl (by subst_vars; exact jk_ix_in _ _ _) dX2_join_55 ?_
  refine lv_istore (lv' := [(8, .int ((jm_ch M) x3.toNatClampNeg)), (7, .int ((jm_ch M) x2.toNatClampNeg)), (6, .int ((jm_ch M) x1.toNatClampNeg)), (5, .int x2), (4, .int x1), (0, .ref (a 0)), (1, .int 0), (2, .int 2), (3, .int 8)]) hx hb dX2_join_56 hl (by decide) rfl (fun ls hl => ?_)
  refine lv_aload_n hx hb dX2_join_58 rfl (lv_at hl 5 rfl) ?_
  refine va_get (D := D) (ci := 2) (v := .ref (a 2)) (C := RX2) (T := TX2) (N := 13) hx hb hts hi_2 hown hK hP 0 rfl rfl 1 (by decide) hf_15 (fun _ h9 => h9) rfl dX2_join_59 ?_
  refine lv_iconst (v := 1) hx hb dX2_join_62 (by decide) ?_
  refine lv_iload_n hx hb dX2_join_63 rfl (lv_at hl 6 rfl) ?_
  refine lv_isub hx hb dX2_join_64 ?_
  refine W.eq (g2 := F0 m 65 ls [.int 1, .ref (a 2)]) rfl ?_
  refine lv_iload_n hx hb dX2_join_65 rfl (lv_at hl 8 rfl) ?_
  refine lv_aload_n hx hb dX2_join_66 rfl (lv_at hl 5 rfl) ?_
  refine va_get (D := D) (ci := 2) (v := .int (jm_tu M)) (C := RX2) (T := TX2) (N := 13) hx hb hts hi_2 hown hK hP 0 rfl rfl 6 (by decide) hf_34 (fun _ h9 => h9) rfl dX2_join_67 ?_
  refine jk_callS (As := [.int 1, .int 8, .int (jm_tu M)]) (rest := [.ref (a 2)]) (ws1 := (jm_W g a M)) ⟨hx, hb, hml, hown, hts⟩ (c_X2_indexOf l D g (1 : Int32) (8 : Int32) (jm_tu M)) (va_cwS 3 hts gX2_join_X2_indexOf rfl rfl rfl (by decide +kernel) ⟨Nat.le_of_ble_eq_true rfl, Nat.le_of_ble_eq_true rfl⟩) jk_nilP (jk_nilD (A := A)) hK hN rfl hl rfl (Nat.le_of_ble_eq_true rfl) dX2_join_70 ⟨Nat.zero_le _, Nat.zero_le _⟩ hS hA (fun _ _ hk => jk_keep hP hk) (fun H locs hP hS => ?_)
  refine W.eq (g2 := F0 m 73 ls [.int (rX2_indexOf (1 : Int32) (8 : Int32) (jm_tu M)), .ref (a 2)]) rfl ?_
  refine lv_topi (fun x4 ex4 => ?_)
  refine va_iald (f := (jm_ch M)) hx hb hK hP 2 0 rfl rfl (by subst_vars; exact jk_ix_in _ _ _) dX2_join_73 ?_
  refine lv_istore (lv' := [(9, .int ((jm_ch M) x4.toNatClampNeg)), (8, .int ((jm_ch M) x3.toNatClampNeg)), (7, .int ((jm_ch M) x2.toNatClampNeg)), (6, .int ((jm_ch M) x1.toNatClampNeg)), (5, .int x2), (4, .int x1), (0, .ref (a 0)), (1, .int 0), (2, .int 2), (3, .int 8)]) hx hb dX2_join_74 hl (by decide) rfl (fun ls hl => ?_)
  refine lv_iload hx hb dX2_join_76 (lv_at hl 3 rfl) ?_
  refine lv_iload hx hb dX2_join_78 (lv_at hl 2 rfl) ?_
  refine lv_iadd hx hb dX2_join_80 ?_
  refine lv_topi (fun x5 ex5 => ?_)
  refine lv_iconst (v := 2) hx hb dX2_join_81 (by decide) ?_
  refine lv_idiv hx hb dX2_join_82 (by decide) ?_
  refine lv_iload hx hb dX2_join_83 (lv_at hl 0 rfl) ?_
  refine lv_iload hx hb dX2_join_85 (lv_at hl 1 rfl) ?_
  refine lv_isub hx hb dX2_join_87 ?_
  refine lv_topi (fun x6 ex6 => ?_)
  refine lv_aload_n hx hb dX2_join_88 rfl (lv_at hl 6 rfl) ?_
  refine va_get (D := D) (ci := 2) (v := .ref (a 1)) (C := RX2) (T := TX2) (N := 13) hx hb hts hi_2 hown hK hP 0 rfl rfl 0 (by decide) hf_9 (fun _ h9 => h9) rfl dX2_join_89 ?_
  refine lv_iconst (v := 0) hx hb dX2_join_92 (by decide) ?_
  refine va_iald (f := (jm_se M)) hx hb hK hP 1 0 rfl rfl (jk_inC (by decide +kernel)) dX2_join_93 ?_
  refine W.eq (g2 := F0 m 94 ls [.int ((jm_se M) 0), .int x6, .int (x5 / 2)]) rfl ?_
  refine lv_imul hx hb dX2_join_94 ?_
  refine lv_bipush (v := 32) hx hb dX2_join_95 (by decide) ?_
  refine lv_idiv hx hb dX2_join_97 (by decide) ?_
  refine lv_iadd hx hb dX2_join_98 ?_
  refine lv_topi (fun x7 ex7 => ?_)
  refine lv_istore (lv' := [(10, .int x7), (9, .int ((jm_ch M) x4.toNatClampNeg)), (8, .int ((jm_ch M) x3.toNatClampNeg)), (7, .int ((jm_ch M) x2.toNatClampNeg)), (6, .int ((jm_ch M) x1.toNatClampNeg)), (5, .int x2), (4, .int x1), (0, .ref (a 0)), (1, .int 0), (2, .int 2), (3, .int 8)]) hx hb dX2_join_99 hl (by decide) rfl (fun ls hl => ?_)
  refine lv_bipush (v := (-99)) hx hb dX2_join_101 (by decide) ?_
  refine lv_iload hx hb dX2_join_103 (lv_at hl 4 rfl) ?_
  refine lv_isub hx hb dX2_join_105 ?_
  refine lv_topi (fun x8 ex8 => ?_)
  refine lv_iload hx hb dX2_join_106 (lv_at hl 3 rfl) ?_
  refine lv_bipush (v := 99) hx hb dX2_join_108 (by decide) ?_
  refine lv_isub hx hb dX2_join_110 ?_
  refine lv_topi (fun x9 ex9 => ?_)
  refine va_mmax hx hb (by rw [hml]; exact hl.1.symm) hown hm_71 hs_max hi_Math hc_max (Nat.le_of_ble_eq_true rfl) (Nat.le_of_ble_eq_true rfl) (Nat.zero_le _) (Nat.zero_le _) dX2_join_111 ?_
  refine lv_topi (fun x10 ex10 => ?_)
  refine lv_istore (lv' := [(11, .int x10), (10, .int x7), (9, .int ((jm_ch M) x4.toNatClampNeg)), (8, .int ((jm_ch M) x3.toNatClampNeg)), (7, .int ((jm_ch M) x2.toNatClampNeg)), (6, .int ((jm_ch M) x1.toNatClampNeg)), (5, .int x2), (4, .int x1), (0, .ref (a 0)), (1, .int 0), (2, .int 2), (3, .int 8)]) hx hb dX2_join_114 hl (by decide) rfl (fun ls hl => ?_)
  refine lv_bipush (v := 99) hx hb dX2_join_116 (by decide) ?_
  refine lv_iload hx hb dX2_join_118 (lv_at hl 5 rfl) ?_
  refine lv_isub hx hb dX2_join_120 ?_
  refine lv_topi (fun x11 ex11 => ?_)
  refine lv_iload hx hb dX2_join_121 (lv_at hl 4 rfl) ?_
  refine lv_bipush (v := 99) hx hb dX2_join_123 (by decide) ?_
  refine lv_iadd hx hb dX2_join_125 ?_
  refine lv_topi (fun x12 ex12 => ?_)
  refine va_mmin hx hb (by rw [hml]; exact hl.1.symm) hown hm_74 hs_min hi_Math hc_min (Nat.le_of_ble_eq_true rfl) (Nat.le_of_ble_eq_true rfl) (Nat.zero_le _) (Nat.zero_le _) dX2_join_126 ?_
  refine lv_topi (fun x13 ex13 => ?_)
  refine lv_istore (lv' := [(12, .int x13), (11, .int x10), (10, .int x7), (9, .int ((jm_ch M) x4.toNatClampNeg)), (8, .int ((jm_ch M) x3.toNatClampNeg)), (7, .int ((jm_ch M) x2.toNatClampNeg)), (6, .int ((jm_ch M) x1.toNatClampNeg)), (5, .int x2), (4, .int x1), (0, .ref (a 0)), (1, .int 0), (2, .int 2), (3, .int 8)]) hx hb dX2_join_129 hl (by decide) rfl (fun ls hl => ?_)
  refine lv_iload hx hb dX2_join_131 (lv_at hl 2 rfl) ?_
  refine lv_iload hx hb dX2_join_133 (lv_at hl 6 rfl) ?_
  refine lv_isub hx hb dX2_join_135 ?_
  refine lv_topi (fun x14 ex14 => ?_)
  refine lv_iload hx hb dX2_join_136 (lv_at hl 1 rfl) ?_
  refine lv_iload hx hb dX2_join_138 (lv_at hl 0 rfl) ?_
  refine jk_callSN (host := RX4) (As := [.int x14, .int x10, .int x13]) (rest := []) (ws1 := (jm_W g a M)) ⟨hx, hb, hml, hown, hts⟩ (c_X4_limited l D g x14 x10 x13) ⟨va_cnB 3 hts gX2_join_X4_limited_n127 rfl rfl rfl hN.2.2.2.2.2.2 hini_RX4 (by decide +kernel) ⟨Nat.le_of_ble_eq_true rfl, Nat.le_of_ble_eq_true rfl⟩, hst_X4_limited, trivial⟩ jk_nilP (jk_nilD (A := A)) hK hN rfl hl rfl (Nat.le_of_ble_eq_true rfl) dX2_join_140 ⟨Nat.zero_le _, Nat.zero_le _⟩ hS hA (fun _ _ hk => jk_keep hP hk) (fun H locs hP hS => ?_)
  refine W.eq (g2 := F0 m 143 ls [.int (rX4_limited x14 x10 x13)]) rfl ?_
  refine lv_topi (fun x15 ex15 => ?_)
  refine lv_istore (lv' := [(13, .int x15), (12, .int x13), (11, .int x10), (10, .int x7), (9, .int ((jm_ch M) x4.toNatClampNeg)), (8, .int ((jm_ch M) x3.toNatClampNeg)), (7, .int ((jm_ch M) x2.toNatClampNeg)), (6, .int ((jm_ch M) x1.toNatClampNeg)), (5, .int x2), (4, .int x1), (0, .ref (a 0)), (1, .int 0), (2, .int 2), (3, .int 8)]) hx hb dX2_join_143 hl (by decide) rfl (fun ls hl => ?_)
  refine lv_aload_n hx hb dX2_join_145 rfl (lv_at hl 10 rfl) ?_
  refine va_get (D := D) (ci := 2) (v := .ref (a 2)) (C := RX2) (T := TX2) (N := 13) hx hb hts hi_2 hown hK hP 0 rfl rfl 1 (by decide) hf_15 (fun _ h9 => h9) rfl dX2_join_146 ?_
  refine lv_iload hx hb dX2_join_149 (lv_at hl 9 rfl) ?_
  refine lv_iload hx hb dX2_join_151 (lv_at hl 7 rfl) ?_
  refine lv_iload hx hb dX2_join_153 (lv_at hl 0 rfl) ?_
  refine lv_iadd hx hb dX2_join_155 ?_
  refine lv_topi (fun x16 ex16 => ?_)
  refine va_iast (f := (jm_ch M)) hx hb hK hP hD hS 2 0 rfl rfl (by subst_vars; exact jk_ix_in _ _ _) dX2_join_156 (fun H locs hP hD hS => ?_)
  obtain ⟨f17, ef17⟩ : ∃ z : Nat → Int32, z = (upd (jm_ch M) x1.toNatClampNeg x16) := ⟨_, rfl⟩
  rw [← ef17] at hP hD
  have hP : va_P D vwCl (jm_W g a (jm_uch M f17)) H := hP
  have hD : va_D A (jm_W g a (jm_uch M f17)) := hD
  refine lv_aload_n hx hb dX2_join_157 rfl (lv_at hl 10 rfl) ?_
  refine va_get (D := D) (ci := 2) (v := .ref (a 2)) (C := RX2) (T := TX2) (N := 13) hx hb hts hi_2 hown hK hP 0 rfl rfl 1 (by decide) hf_15 (fun _ h9 => h9) rfl dX2_join_158 ?_
  refine lv_iload hx hb dX2_join_161 (lv_at hl 8 rfl) ?_
  refine lv_iload hx hb dX2_join_163 (lv_at hl 6 rfl) ?_
  refine lv_iload hx hb dX2_join_165 (lv_at hl 0 rfl) ?_
  refine lv_isub hx hb dX2_join_167 ?_
  refine lv_topi (fun x18 ex18 => ?_)
  refine va_iast (f := f17) hx hb hK hP hD hS 2 0 rfl rfl (by subst_vars; exact jk_ix_in _ _ _) dX2_join_168 (fun H locs hP hD hS => ?_)
  obtain ⟨f19, ef19⟩ : ∃ z : Nat → Int32, z = (upd f17 x2.toNatClampNeg x18) := ⟨_, rfl⟩
  rw [← ef19] at hP hD
  have hP : va_P D vwCl (jm_W g a (jm_uch M f19)) H := hP
  have hD : va_D A (jm_W g a (jm_uch M f19)) := hD
  subst ef19
  subst ex18
  subst ef17
  subst ex16
  subst ex15
  subst ex14
  subst ex13
  subst ex12
  subst ex11
  subst ex10
  subst ex9
  subst ex8
  subst ex7
  subst ex6
  subst ex5
  subst ex4
  subst ex3
  subst ex2
  subst ex1
  exact jk_vret hx hb hr hlocks hP hS (congrArg (fun z => (jm_W g a z)) ((rfl).symm)) dX2_join_169

def sX2_join_1 (M : jm_T) : jm_T := let x1 : Int32 := rX2_indexOf (1 : Int32) (4 : Int32) (jm_tu M); let x2 : Int32 := rX2_indexOf (1 : Int32) (10 : Int32) (jm_tu M); let x3 : Int32 := rX2_indexOf (0 : Int32) (4 : Int32) (jm_tu M); let x4 : Int32 := rX2_indexOf (0 : Int32) (10 : Int32) (jm_tu M); let x5 : Int32 := ((jm_ch M) x1.toNatClampNeg) + ((jm_ch M) x2.toNatClampNeg); let x6 : Int32 := ((jm_ch M) x4.toNatClampNeg) - ((jm_ch M) x3.toNatClampNeg); let x7 : Int32 := (x5 / 2) + ((x6 * ((jm_se M) 0)) / 32); let x8 : Int32 := (-99) - ((jm_ch M) x1.toNatClampNeg); let x9 : Int32 := ((jm_ch M) x2.toNatClampNeg) - 99; let x10 : Int32 := if x8 < x9 then x9 else x8; let x11 : Int32 := 99 - ((jm_ch M) x1.toNatClampNeg); let x12 : Int32 := ((jm_ch M) x2.toNatClampNeg) + 99; let x13 : Int32 := if x12 < x11 then x12 else x11; let x14 : Int32 := x7 - ((jm_ch M) x1.toNatClampNeg); let x15 : Int32 := rX4_limited x14 x10 x13; let x16 : Int32 := ((jm_ch M) x1.toNatClampNeg) + x15; let f17 : (Nat → Int32) := upd (jm_ch M) x1.toNatClampNeg x16; let x18 : Int32 := ((jm_ch M) x2.toNatClampNeg) - x15; let f19 : (Nat → Int32) := upd f17 x2.toNatClampNeg x18; (jm_uch M f19)
set_option maxHeartbeats 4000000 in
set_option maxRecDepth 100000 in
theorem c_X2_join_1 (l : Launch) (D : va_G) (g : jk_G) (a : Nat → Nat) (M : jm_T)  : jk_M l D g yX2_join wsX2_join 2 44 [.ref (a 0), .int 1, .int 4, .int 10] (jm_W g a M) none (jm_W g a (sX2_join_1 M)) := by
  refine jk_of (cc := cX2_join) (maxL := 14) (ret := none) (by decide +kernel) rfl (Nat.le_of_ble_eq_true rfl) ?_
  intro p e s m args below meth c hx hb hr hml hts hown hlocks hK hN A H locs hP hD hA hS ls hl
  have hown : s.vm.findClass RX2 = some m.cls := hown
  have hl : lv_has ls 14 [(0, .ref (a 0)), (1, .int 1), (2, .int 4), (3, .int 10)] := hl
  have hf_34 := hts (.fieldLink RX2 34 "InfluenceJars$Machine" "turns" "I") (by decide +kernel)
  have hi_2 : ∀ w ∈ u_ws RX2 TX2 13, w ∈ wsX2_join := by decide +kernel
  have hf_15 := hts (.fieldLink RX2 15 "InfluenceJars$Machine" "charges" "[I") (by decide +kernel)
  have hf_9 := hts (.fieldLink RX2 9 "InfluenceJars$Machine" "settings" "[I") (by decide +kernel)
  have hm_71 := hts (.methodLink RX2 71 Lib.Math.max.name) (by decide +kernel)
  have hs_max := hts (.static Lib.Math.max.name) (by decide +kernel)
  have hi_Math := hts (.initialized "java/lang/Math") (by decide +kernel)
  have hc_max := hts (.code Lib.Math.max.name Lib.Math.max.code 2 (some .int)) (by exact List.mem_of_getElem? (i := 7) rfl)
  have hm_74 := hts (.methodLink RX2 74 Lib.Math.min.name) (by decide +kernel)
  have hs_min := hts (.static Lib.Math.min.name) (by decide +kernel)
  have hc_min := hts (.code Lib.Math.min.name Lib.Math.min.code 2 (some .int)) (by exact List.mem_of_getElem? (i := 10) rfl)
  have hst_X4_limited := hts (.static yX4_limited) (by decide +kernel)
  have hini_RX4 := hts (.initialized RX4) (by decide +kernel)
  refine lv_iload_n hx hb dX2_join_0 rfl (lv_at hl 1 rfl) ?_
  refine lv_iload_n hx hb dX2_join_1 rfl (lv_at hl 2 rfl) ?_
  refine lv_aload_n hx hb dX2_join_2 rfl (lv_at hl 0 rfl) ?_
  refine va_get (D := D) (ci := 2) (v := .int (jm_tu M)) (C := RX2) (T := TX2) (N := 13) hx hb hts hi_2 hown hK hP 0 rfl rfl 6 (by decide) hf_34 (fun _ h9 => h9) rfl dX2_join_3 ?_
  refine jk_callS (As := [.int 1, .int 4, .int (jm_tu M)]) (rest := []) (ws1 := (jm_W g a M)) ⟨hx, hb, hml, hown, hts⟩ (c_X2_indexOf l D g (1 : Int32) (4 : Int32) (jm_tu M)) (va_cwS 3 hts gX2_join_X2_indexOf rfl rfl rfl (by decide +kernel) ⟨Nat.le_of_ble_eq_true rfl, Nat.le_of_ble_eq_true rfl⟩) jk_nilP (jk_nilD (A := A)) hK hN rfl hl rfl (Nat.le_of_ble_eq_true rfl) dX2_join_6 ⟨Nat.zero_le _, Nat.zero_le _⟩ hS hA (fun _ _ hk => jk_keep hP hk) (fun H locs hP hS => ?_)
  refine W.eq (g2 := F0 m 9 ls [.int (rX2_indexOf (1 : Int32) (4 : Int32) (jm_tu M))]) rfl ?_
  refine lv_topi (fun x1 ex1 => ?_)
  refine lv_istore (lv' := [(4, .int x1), (0, .ref (a 0)), (1, .int 1), (2, .int 4), (3, .int 10)]) hx hb dX2_join_9 hl (by decide) rfl (fun ls hl => ?_)
  refine lv_iload_n hx hb dX2_join_11 rfl (lv_at hl 2 rfl) ?_
  refine lv_iload_n hx hb dX2_join_12 rfl (lv_at hl 4 rfl) ?_
  refine lv_aload_n hx hb dX2_join_13 rfl (lv_at hl 1 rfl) ?_
  refine va_get (D := D) (ci := 2) (v := .int (jm_tu M)) (C := RX2) (T := TX2) (N := 13) hx hb hts hi_2 hown hK hP 0 rfl rfl 6 (by decide) hf_34 (fun _ h9 => h9) rfl dX2_join_14 ?_
  refine jk_callS (As := [.int 1, .int 10, .int (jm_tu M)]) (rest := []) (ws1 := (jm_W g a M)) ⟨hx, hb, hml, hown, hts⟩ (c_X2_indexOf l D g (1 : Int32) (10 : Int32) (jm_tu M)) (va_cwS 3 hts gX2_join_X2_indexOf rfl rfl rfl (by decide +kernel) ⟨Nat.le_of_ble_eq_true rfl, Nat.le_of_ble_eq_true rfl⟩) jk_nilP (jk_nilD (A := A)) hK hN rfl hl rfl (Nat.le_of_ble_eq_true rfl) dX2_join_17 ⟨Nat.zero_le _, Nat.zero_le _⟩ hS hA (fun _ _ hk => jk_keep hP hk) (fun H locs hP hS => ?_)
  refine W.eq (g2 := F0 m 20 ls [.int (rX2_indexOf (1 : Int32) (10 : Int32) (jm_tu M))]) rfl ?_
  refine lv_topi (fun x2 ex2 => ?_)
  refine lv_istore (lv' := [(5, .int x2), (4, .int x1), (0, .ref (a 0)), (1, .int 1), (2, .int 4), (3, .int 10)]) hx hb dX2_join_20 hl (by decide) rfl (fun ls hl => ?_)
  refine lv_aload_n hx hb dX2_join_22 rfl (lv_at hl 2 rfl) ?_
  refine va_get (D := D) (ci := 2) (v := .ref (a 2)) (C := RX2) (T := TX2) (N := 13) hx hb hts hi_2 hown hK hP 0 rfl rfl 1 (by decide) hf_15 (fun _ h9 => h9) rfl dX2_join_23 ?_
  refine lv_iload hx hb dX2_join_26 (lv_at hl 1 rfl) ?_
  refine va_iald (f := (jm_ch M)) hx hb hK hP 2 0 rfl rfl (by subst_vars; exact jk_ix_in _ _ _) dX2_join_28 ?_
  refine lv_istore (lv' := [(6, .int ((jm_ch M) x1.toNatClampNeg)), (5, .int x2), (4, .int x1), (0, .ref (a 0)), (1, .int 1), (2, .int 4), (3, .int 10)]) hx hb dX2_join_29 hl (by decide) rfl (fun ls hl => ?_)
  refine lv_aload_n hx hb dX2_join_31 rfl (lv_at hl 3 rfl) ?_
  refine va_get (D := D) (ci := 2) (v := .ref (a 2)) (C := RX2) (T := TX2) (N := 13) hx hb hts hi_2 hown hK hP 0 rfl rfl 1 (by decide) hf_15 (fun _ h9 => h9) rfl dX2_join_32 ?_
  refine lv_iload hx hb dX2_join_35 (lv_at hl 1 rfl) ?_
  refine va_iald (f := (jm_ch M)) hx hb hK hP 2 0 rfl rfl (by subst_vars; exact jk_ix_in _ _ _) dX2_join_37 ?_
  refine lv_istore (lv' := [(7, .int ((jm_ch M) x2.toNatClampNeg)), (6, .int ((jm_ch M) x1.toNatClampNeg)), (5, .int x2), (4, .int x1), (0, .ref (a 0)), (1, .int 1), (2, .int 4), (3, .int 10)]) hx hb dX2_join_38 hl (by decide) rfl (fun ls hl => ?_)
  refine lv_aload_n hx hb dX2_join_40 rfl (lv_at hl 4 rfl) ?_
  refine va_get (D := D) (ci := 2) (v := .ref (a 2)) (C := RX2) (T := TX2) (N := 13) hx hb hts hi_2 hown hK hP 0 rfl rfl 1 (by decide) hf_15 (fun _ h9 => h9) rfl dX2_join_41 ?_
  refine lv_iconst (v := 1) hx hb dX2_join_44 (by decide) ?_
  refine lv_iload_n hx hb dX2_join_45 rfl (lv_at hl 5 rfl) ?_
  refine lv_isub hx hb dX2_join_46 ?_
  refine W.eq (g2 := F0 m 47 ls [.int 0, .ref (a 2)]) rfl ?_
  refine lv_iload_n hx hb dX2_join_47 rfl (lv_at hl 6 rfl) ?_
  refine lv_aload_n hx hb dX2_join_48 rfl (lv_at hl 4 rfl) ?_
  refine va_get (D := D) (ci := 2) (v := .int (jm_tu M)) (C := RX2) (T := TX2) (N := 13) hx hb hts hi_2 hown hK hP 0 rfl rfl 6 (by decide) hf_34 (fun _ h9 => h9) rfl dX2_join_49 ?_
  refine jk_callS (As := [.int 0, .int 4, .int (jm_tu M)]) (rest := [.ref (a 2)]) (ws1 := (jm_W g a M)) ⟨hx, hb, hml, hown, hts⟩ (c_X2_indexOf l D g (0 : Int32) (4 : Int32) (jm_tu M)) (va_cwS 3 hts gX2_join_X2_indexOf rfl rfl rfl (by decide +kernel) ⟨Nat.le_of_ble_eq_true rfl, Nat.le_of_ble_eq_true rfl⟩) jk_nilP (jk_nilD (A := A)) hK hN rfl hl rfl (Nat.le_of_ble_eq_true rfl) dX2_join_52 ⟨Nat.zero_le _, Nat.zero_le _⟩ hS hA (fun _ _ hk => jk_keep hP hk) (fun H locs hP hS => ?_)
  refine W.eq (g2 := F0 m 55 ls [.int (rX2_indexOf (0 : Int32) (4 : Int32) (jm_tu M)), .ref (a 2)]) rfl ?_
  refine lv_topi (fun x3 ex3 => ?_)
  refine va_iald (f := (jm_ch M)) hx hb hK hP 2 0 rfl rfl (by subst_vars; exact jk_ix_in _ _ _) dX2_join_55 ?_
  refine lv_istore (lv' := [(8, .int ((jm_ch M) x3.toNatClampNeg)), (7, .int ((jm_ch M) x2.toNatClampNeg)), (6, .int ((jm_ch M) x1.toNatClampNeg)), (5, .int x2), (4, .int x1), (0, .ref (a 0)), (1, .int 1), (2, .int 4), (3, .int 10)]) hx hb dX2_join_56 hl (by decide) rfl (fun ls hl => ?_)
  refine lv_aload_n hx hb dX2_join_58 rfl (lv_at hl 5 rfl) ?_
  refine va_get (D := D) (ci := 2) (v := .ref (a 2)) (C := RX2) (T := TX2) (N := 13) hx hb hts hi_2 hown hK hP 0 rfl rfl 1 (by decide) hf_15 (fun _ h9 => h9) rfl dX2_join_59 ?_
  refine lv_iconst (v := 1) hx hb dX2_join_62 (by decide) ?_
  refine lv_iload_n hx hb dX2_join_63 rfl (lv_at hl 6 rfl) ?_
  refine lv_isub hx hb dX2_join_64 ?_
  refine W.eq (g2 := F0 m 65 ls [.int 0, .ref (a 2)]) rfl ?_
  refine lv_iload_n hx hb dX2_join_65 rfl (lv_at hl 8 rfl) ?_
  refine lv_aload_n hx hb dX2_join_66 rfl (lv_at hl 5 rfl) ?_
  refine va_get (D := D) (ci := 2) (v := .int (jm_tu M)) (C := RX2) (T := TX2) (N := 13) hx hb hts hi_2 hown hK hP 0 rfl rfl 6 (by decide) hf_34 (fun _ h9 => h9) rfl dX2_join_67 ?_
  refine jk_callS (As := [.int 0, .int 10, .int (jm_tu M)]) (rest := [.ref (a 2)]) (ws1 := (jm_W g a M)) ⟨hx, hb, hml, hown, hts⟩ (c_X2_indexOf l D g (0 : Int32) (10 : Int32) (jm_tu M)) (va_cwS 3 hts gX2_join_X2_indexOf rfl rfl rfl (by decide +kernel) ⟨Nat.le_of_ble_eq_true rfl, Nat.le_of_ble_eq_true rfl⟩) jk_nilP (jk_nilD (A := A)) hK hN rfl hl rfl (Nat.le_of_ble_eq_true rfl) dX2_join_70 ⟨Nat.zero_le _, Nat.zero_le _⟩ hS hA (fun _ _ hk => jk_keep hP hk) (fun H locs hP hS => ?_)
  refine W.eq (g2 := F0 m 73 ls [.int (rX2_indexOf (0 : Int32) (10 : Int32) (jm_tu M)), .ref (a 2)]) rfl ?_
  refine lv_topi (fun x4 ex4 => ?_)
  refine va_iald (f := (jm_ch M)) hx hb hK hP 2 0 rfl rfl (by subst_vars; exact jk_ix_in _ _ _) dX2_join_73 ?_
  refine lv_istore (lv' := [(9, .int ((jm_ch M) x4.toNatClampNeg)), (8, .int ((jm_ch M) x3.toNatClampNeg)), (7, .int ((jm_ch M) x2.toNatClampNeg)), (6, .int ((jm_ch M) x1.toNatClampNeg)), (5, .int x2), (4, .int x1), (0, .ref (a 0)), (1, .int 1), (2, .int 4), (3, .int 10)]) hx hb dX2_join_74 hl (by decide) rfl (fun ls hl => ?_)
  refine lv_iload hx hb dX2_join_76 (lv_at hl 3 rfl) ?_
  refine lv_iload hx hb dX2_join_78 (lv_at hl 2 rfl) ?_
  refine lv_iadd hx hb dX2_join_80 ?_
  refine lv_topi (fun x5 ex5 => ?_)
  refine lv_iconst (v := 2) hx hb dX2_join_81 (by decide) ?_
  refine lv_idiv hx hb dX2_join_82 (by decide) ?_
  refine lv_iload hx hb dX2_join_83 (lv_at hl 0 rfl) ?_
  refine lv_iload hx hb dX2_join_85 (lv_at hl 1 rfl) ?_
  refine lv_isub hx hb dX2_join_87 ?_
  refine lv_topi (fun x6 ex6 => ?_)
  refine lv_aload_n hx hb dX2_join_88 rfl (lv_at hl 6 rfl) ?_
  refine va_get (D := D) (ci := 2) (v := .ref (a 1)) (C := RX2) (T := TX2) (N := 13) hx hb hts hi_2 hown hK hP 0 rfl rfl 0 (by decide) hf_9 (fun _ h9 => h9) rfl dX2_join_89 ?_
  refine lv_iconst (v := 0) hx hb dX2_join_92 (by decide) ?_
  refine va_iald (f := (jm_se M)) hx hb hK hP 1 0 rfl rfl (jk_inC (by decide +kernel)) dX2_join_93 ?_
  refine W.eq (g2 := F0 m 94 ls [.int ((jm_se M) 0), .int x6, .int (x5 / 2)]) rfl ?_
  refine lv_imul hx hb dX2_join_94 ?_
  refine lv_bipush (v := 32) hx hb dX2_join_95 (by decide) ?_
  refine lv_idiv hx hb dX2_join_97 (by decide) ?_
  refine lv_iadd hx hb dX2_join_98 ?_
  refine lv_topi (fun x7 ex7 => ?_)
  refine lv_istore (lv' := [(10, .int x7), (9, .int ((jm_ch M) x4.toNatClampNeg)), (8, .int ((jm_ch M) x3.toNatClampNeg)), (7, .int ((jm_ch M) x2.toNatClampNeg)), (6, .int ((jm_ch M) x1.toNatClampNeg)), (5, .int x2), (4, .int x1), (0, .ref (a 0)), (1, .int 1), (2, .int 4), (3, .int 10)]) hx hb dX2_join_99 hl (by decide) rfl (fun ls hl => ?_)
  refine lv_bipush (v := (-99)) hx hb dX2_join_101 (by decide) ?_
  refine lv_iload hx hb dX2_join_103 (lv_at hl 4 rfl) ?_
  refine lv_isub hx hb dX2_join_105 ?_
  refine lv_topi (fun x8 ex8 => ?_)
  refine lv_iload hx hb dX2_join_106 (lv_at hl 3 rfl) ?_
  refine lv_bipush (v := 99) hx hb dX2_join_108 (by decide) ?_
  refine lv_isub hx hb dX2_join_110 ?_
  refine lv_topi (fun x9 ex9 => ?_)
  refine va_mmax hx hb (by rw [hml]; exact hl.1.symm) hown hm_71 hs_max hi_Math hc_max (Nat.le_of_ble_eq_true rfl) (Nat.le_of_ble_eq_true rfl) (Nat.zero_le _) (Nat.zero_le _) dX2_join_111 ?_
  refine lv_topi (fun x10 ex10 => ?_)
  refine lv_istore (lv' := [(11, .int x10), (10, .int x7), (9, .int ((jm_ch M) x4.toNatClampNeg)), (8, .int ((jm_ch M) x3.toNatClampNeg)), (7, .int ((jm_ch M) x2.toNatClampNeg)), (6, .int ((jm_ch M) x1.toNatClampNeg)), (5, .int x2), (4, .int x1), (0, .ref (a 0)), (1, .int 1), (2, .int 4), (3, .int 10)]) hx hb dX2_join_114 hl (by decide) rfl (fun ls hl => ?_)
  refine lv_bipush (v := 99) hx hb dX2_join_116 (by decide) ?_
  refine lv_iload hx hb dX2_join_118 (lv_at hl 5 rfl) ?_
  refine lv_isub hx hb dX2_join_120 ?_
  refine lv_topi (fun x11 ex11 => ?_)
  refine lv_iload hx hb dX2_join_121 (lv_at hl 4 rfl) ?_
  refine lv_bipush (v := 99) hx hb dX2_join_123 (by decide) ?_
  refine lv_iadd hx hb dX2_join_125 ?_
  refine lv_topi (fun x12 ex12 => ?_)
  refine va_mmin hx hb (by rw [hml]; exact hl.1.symm) hown hm_74 hs_min hi_Math hc_min (Nat.le_of_ble_eq_true rfl) (Nat.le_of_ble_eq_true rfl) (Nat.zero_le _) (Nat.zero_le _) dX2_join_126 ?_
  refine lv_topi (fun x13 ex13 => ?_)
  refine lv_istore (lv' := [(12, .int x13), (11, .int x10), (10, .int x7), (9, .int ((jm_ch M) x4.toNatClampNeg)), (8, .int ((jm_ch M) x3.toNatClampNeg)), (7, .int ((jm_ch M) x2.toNatClampNeg)), (6, .int ((jm_ch M) x1.toNatClampNeg)), (5, .int x2), (4, .int x1), (0, .ref (a 0)), (1, .int 1), (2, .int 4), (3, .int 10)]) hx hb dX2_join_129 hl (by decide) rfl (fun ls hl => ?_)
  refine lv_iload hx hb dX2_join_131 (lv_at hl 2 rfl) ?_
  refine lv_iload hx hb dX2_join_133 (lv_at hl 6 rfl) ?_
  refine lv_isub hx hb dX2_join_135 ?_
  refine lv_topi (fun x14 ex14 => ?_)
  refine lv_iload hx hb dX2_join_136 (lv_at hl 1 rfl) ?_
  refine lv_iload hx hb dX2_join_138 (lv_at hl 0 rfl) ?_
  refine jk_callSN (host := RX4) (As := [.int x14, .int x10, .int x13]) (rest := []) (ws1 := (jm_W g a M)) ⟨hx, hb, hml, hown, hts⟩ (c_X4_limited l D g x14 x10 x13) ⟨va_cnB 3 hts gX2_join_X4_limited_n127 rfl rfl rfl hN.2.2.2.2.2.2 hini_RX4 (by decide +kernel) ⟨Nat.le_of_ble_eq_true rfl, Nat.le_of_ble_eq_true rfl⟩, hst_X4_limited, trivial⟩ jk_nilP (jk_nilD (A := A)) hK hN rfl hl rfl (Nat.le_of_ble_eq_true rfl) dX2_join_140 ⟨Nat.zero_le _, Nat.zero_le _⟩ hS hA (fun _ _ hk => jk_keep hP hk) (fun H locs hP hS => ?_)
  refine W.eq (g2 := F0 m 143 ls [.int (rX4_limited x14 x10 x13)]) rfl ?_
  refine lv_topi (fun x15 ex15 => ?_)
  refine lv_istore (lv' := [(13, .int x15), (12, .int x13), (11, .int x10), (10, .int x7), (9, .int ((jm_ch M) x4.toNatClampNeg)), (8, .int ((jm_ch M) x3.toNatClampNeg)), (7, .int ((jm_ch M) x2.toNatClampNeg)), (6, .int ((jm_ch M) x1.toNatClampNeg)), (5, .int x2), (4, .int x1), (0, .ref (a 0)), (1, .int 1), (2, .int 4), (3, .int 10)]) hx hb dX2_join_143 hl (by decide) rfl (fun ls hl => ?_)
  refine lv_aload_n hx hb dX2_join_145 rfl (lv_at hl 10 rfl) ?_
  refine va_get (D := D) (ci := 2) (v := .ref (a 2)) (C := RX2) (T := TX2) (N := 13) hx hb hts hi_2 hown hK hP 0 rfl rfl 1 (by decide) hf_15 (fun _ h9 => h9) rfl dX2_join_146 ?_
  refine lv_iload hx hb dX2_join_149 (lv_at hl 9 rfl) ?_
  refine lv_iload hx hb dX2_join_151 (lv_at hl 7 rfl) ?_
  refine lv_iload hx hb dX2_join_153 (lv_at hl 0 rfl) ?_
  refine lv_iadd hx hb dX2_join_155 ?_
  refine lv_topi (fun x16 ex16 => ?_)
  refine va_iast (f := (jm_ch M)) hx hb hK hP hD hS 2 0 rfl rfl (by subst_vars; exact jk_ix_in _ _ _) dX2_join_156 (fun H locs hP hD hS => ?_)
  obtain ⟨f17, ef17⟩ : ∃ z : Nat → Int32, z = (upd (jm_ch M) x1.toNatClampNeg x16) := ⟨_, rfl⟩
  rw [← ef17] at hP hD
  have hP : va_P D vwCl (jm_W g a (jm_uch M f17)) H := hP
  have hD : va_D A (jm_W g a (jm_uch M f17)) := hD
  refine lv_aload_n hx hb dX2_join_157 rfl (lv_at hl 10 rfl) ?_
  refine va_get (D := D) (ci := 2) (v := .ref (a 2)) (C := RX2) (T := TX2) (N := 13) hx hb hts hi_2 hown hK hP 0 rfl rfl 1 (by decide) hf_15 (fun _ h9 => h9) rfl dX2_join_158 ?_
  refine lv_iload hx hb dX2_join_161 (lv_at hl 8 rfl) ?_
  refine lv_iload hx hb dX2_join_163 (lv_at hl 6 rfl) ?_
  refine lv_iload hx hb dX2_join_165 (lv_at hl 0 rfl) ?_
  refine lv_isub hx hb dX2_join_167 ?_
  refine lv_topi (fun x18 ex18 => ?_)
  refine va_iast (f := f17) hx hb hK hP hD hS 2 0 rfl rfl (by subst_vars; exact jk_ix_in _ _ _) dX2_join_168 (fun H locs hP hD hS => ?_)
  obtain ⟨f19, ef19⟩ : ∃ z : Nat → Int32, z = (upd f17 x2.toNatClampNeg x18) := ⟨_, rfl⟩
  rw [← ef19] at hP hD
  have hP : va_P D vwCl (jm_W g a (jm_uch M f19)) H := hP
  have hD : va_D A (jm_W g a (jm_uch M f19)) := hD
  subst ef19
  subst ex18
  subst ef17
  subst ex16
  subst ex15
  subst ex14
  subst ex13
  subst ex12
  subst ex11
  subst ex10
  subst ex9
  subst ex8
  subst ex7
  subst ex6
  subst ex5
  subst ex4
  subst ex3
  subst ex2
  subst ex1
  exact jk_vret hx hb hr hlocks hP hS (congrArg (fun z => (jm_W g a z)) ((rfl).symm)) dX2_join_169

def sX2_gather_0 (M : jm_T) : jm_T := let x2 : Int32 := rX2_indexOf (0 : Int32) (0 : Int32) (jm_tu M); let x3 : Int32 := (-((jm_se M) 4)) - ((jm_ja M) 0); let x4 : Int32 := ((jm_se M) 4) - ((jm_ja M) 0); let x5 : Int32 := rX4_limited ((jm_ch M) x2.toNatClampNeg) x3 x4; let x6 : Int32 := ((jm_ch M) x2.toNatClampNeg) - x5; let f7 : (Nat → Int32) := upd (jm_ch M) x2.toNatClampNeg x6; let x9 : Int32 := rX2_indexOf (1 : Int32) (0 : Int32) (jm_tu M); let x10 : Int32 := (-((jm_se M) 4)) - (((jm_ja M) 0) + x5); let x11 : Int32 := ((jm_se M) 4) - (((jm_ja M) 0) + x5); let x12 : Int32 := rX4_limited (f7 x9.toNatClampNeg) x10 x11; let f13 : (Nat → Int32) := upd f7 x9.toNatClampNeg ((f7 x9.toNatClampNeg) - x12); (jm_utk (jm_uja (jm_uch M f13) (upd (upd (jm_ja M) 0 (((jm_ja M) 0) + x5)) 0 ((((jm_ja M) 0) + x5) + x12))) (upd (upd (jm_tk M) 0 (((jm_tk M) 0) + x5)) 0 ((((jm_tk M) 0) + x5) + x12)))
set_option maxHeartbeats 4000000 in
set_option maxRecDepth 100000 in
theorem c_X2_gather_0 (l : Launch) (D : va_G) (g : jk_G) (a : Nat → Nat) (M : jm_T)  : jk_M l D g yX2_gather wsX2_gather 2 44 [.ref (a 0), .int 0, .int 0] (jm_W g a M) none (jm_W g a (sX2_gather_0 M)) := by
  refine jk_of (cc := cX2_gather) (maxL := 7) (ret := none) (by decide +kernel) rfl (Nat.le_of_ble_eq_true rfl) ?_
  intro p e s m args below meth c hx hb hr hml hts hown hlocks hK hN A H locs hP hD hA hS ls hl
  have hown : s.vm.findClass RX2 = some m.cls := hown
  have hl : lv_has ls 7 [(0, .ref (a 0)), (1, .int 0), (2, .int 0)] := hl
  have hf_34 := hts (.fieldLink RX2 34 "InfluenceJars$Machine" "turns" "I") (by decide +kernel)
  have hi_2 : ∀ w ∈ u_ws RX2 TX2 13, w ∈ wsX2_gather := by decide +kernel
  have hf_9 := hts (.fieldLink RX2 9 "InfluenceJars$Machine" "settings" "[I") (by decide +kernel)
  have hf_15 := hts (.fieldLink RX2 15 "InfluenceJars$Machine" "charges" "[I") (by decide +kernel)
  have hf_18 := hts (.fieldLink RX2 18 "InfluenceJars$Machine" "jars" "[I") (by decide +kernel)
  have hst_X4_limited := hts (.static yX4_limited) (by decide +kernel)
  have hini_RX4 := hts (.initialized RX4) (by decide +kernel)
  have hf_21 := hts (.fieldLink RX2 21 "InfluenceJars$Machine" "taken" "[I") (by decide +kernel)
  refine lv_iconst (v := 0) hx hb dX2_gather_0 (by decide) ?_
  refine lv_istore_n (lv' := [(3, .int 0), (0, .ref (a 0)), (1, .int 0), (2, .int 0)]) hx hb dX2_gather_1 rfl hl (by decide) rfl (fun ls hl => ?_)
  refine lv_iload_n hx hb dX2_gather_2 rfl (lv_at hl 0 rfl) ?_
  refine lv_iconst (v := 2) hx hb dX2_gather_3 (by decide) ?_
  refine lv_icmp_ge (tgt := 97) hx hb dX2_gather_4 (by decide) (fun c1 => ?_) (fun c1 => ?_)
  · exact absurd c1 (by decide)
  · refine lv_iload_n hx hb dX2_gather_7 rfl (lv_at hl 0 rfl) ?_
    refine lv_iload_n hx hb dX2_gather_8 rfl (lv_at hl 3 rfl) ?_
    refine lv_aload_n hx hb dX2_gather_9 rfl (lv_at hl 1 rfl) ?_
    refine va_get (D := D) (ci := 2) (v := .int (jm_tu M)) (C := RX2) (T := TX2) (N := 13) hx hb hts hi_2 hown hK hP 0 rfl rfl 6 (by decide) hf_34 (fun _ h9 => h9) rfl dX2_gather_10 ?_
    refine jk_callS (As := [.int 0, .int 0, .int (jm_tu M)]) (rest := []) (ws1 := (jm_W g a M)) ⟨hx, hb, hml, hown, hts⟩ (c_X2_indexOf l D g (0 : Int32) (0 : Int32) (jm_tu M)) (va_cwS 3 hts gX2_gather_X2_indexOf rfl rfl rfl (by decide +kernel) ⟨Nat.le_of_ble_eq_true rfl, Nat.le_of_ble_eq_true rfl⟩) jk_nilP (jk_nilD (A := A)) hK hN rfl hl rfl (Nat.le_of_ble_eq_true rfl) dX2_gather_13 ⟨Nat.zero_le _, Nat.zero_le _⟩ hS hA (fun _ _ hk => jk_keep hP hk) (fun H locs hP hS => ?_)
    refine W.eq (g2 := F0 m 16 ls [.int (rX2_indexOf (0 : Int32) (0 : Int32) (jm_tu M))]) rfl ?_
    refine lv_topi (fun x2 ex2 => ?_)
    refine lv_istore (lv' := [(4, .int x2), (3, .int 0), (0, .ref (a 0)), (1, .int 0), (2, .int 0)]) hx hb dX2_gather_16 hl (by decide) rfl (fun ls hl => ?_)
    refine lv_aload_n hx hb dX2_gather_18 rfl (lv_at hl 2 rfl) ?_
    refine va_get (D := D) (ci := 2) (v := .ref (a 1)) (C := RX2) (T := TX2) (N := 13) hx hb hts hi_2 hown hK hP 0 rfl rfl 0 (by decide) hf_9 (fun _ h9 => h9) rfl dX2_gather_19 ?_
    refine lv_iconst (v := 4) hx hb dX2_gather_22 (by decide) ?_
    refine va_iald (f := (jm_se M)) hx hb hK hP 1 0 rfl rfl (jk_inC (by decide +kernel)) dX2_gather_23 ?_
    refine W.eq (g2 := F0 m 24 ls [.int ((jm_se M) 4)]) rfl ?_
    refine lv_istore (lv' := [(5, .int ((jm_se M) 4)), (4, .int x2), (3, .int 0), (0, .ref (a 0)), (1, .int 0), (2, .int 0)]) hx hb dX2_gather_24 hl (by decide) rfl (fun ls hl => ?_)
    refine lv_aload_n hx hb dX2_gather_26 rfl (lv_at hl 3 rfl) ?_
    refine va_get (D := D) (ci := 2) (v := .ref (a 2)) (C := RX2) (T := TX2) (N := 13) hx hb hts hi_2 hown hK hP 0 rfl rfl 1 (by decide) hf_15 (fun _ h9 => h9) rfl dX2_gather_27 ?_
    refine lv_iload hx hb dX2_gather_30 (lv_at hl 1 rfl) ?_
    refine va_iald (f := (jm_ch M)) hx hb hK hP 2 0 rfl rfl (by subst_vars; exact jk_ix_in _ _ _) dX2_gather_32 ?_
    refine lv_iload hx hb dX2_gather_33 (lv_at hl 0 rfl) ?_
    refine lv_ineg hx hb dX2_gather_35 ?_
    refine lv_aload_n hx hb dX2_gather_36 rfl (lv_at hl 3 rfl) ?_
    refine va_get (D := D) (ci := 2) (v := .ref (a 3)) (C := RX2) (T := TX2) (N := 13) hx hb hts hi_2 hown hK hP 0 rfl rfl 2 (by decide) hf_18 (fun _ h9 => h9) rfl dX2_gather_37 ?_
    refine lv_iload_n hx hb dX2_gather_40 rfl (lv_at hl 4 rfl) ?_
    refine va_iald (f := (jm_ja M)) hx hb hK hP 3 0 rfl rfl (jk_inC (by decide +kernel)) dX2_gather_41 ?_
    refine W.eq (g2 := F0 m 42 ls [.int ((jm_ja M) 0), .int (-((jm_se M) 4)), .int ((jm_ch M) x2.toNatClampNeg)]) rfl ?_
    refine lv_isub hx hb dX2_gather_42 ?_
    refine lv_topi (fun x3 ex3 => ?_)
    refine lv_iload hx hb dX2_gather_43 (lv_at hl 0 rfl) ?_
    refine lv_aload_n hx hb dX2_gather_45 rfl (lv_at hl 3 rfl) ?_
    refine va_get (D := D) (ci := 2) (v := .ref (a 3)) (C := RX2) (T := TX2) (N := 13) hx hb hts hi_2 hown hK hP 0 rfl rfl 2 (by decide) hf_18 (fun _ h9 => h9) rfl dX2_gather_46 ?_
    refine lv_iload_n hx hb dX2_gather_49 rfl (lv_at hl 4 rfl) ?_
    refine va_iald (f := (jm_ja M)) hx hb hK hP 3 0 rfl rfl (jk_inC (by decide +kernel)) dX2_gather_50 ?_
    refine W.eq (g2 := F0 m 51 ls [.int ((jm_ja M) 0), .int ((jm_se M) 4), .int x3, .int ((jm_ch M) x2.toNatClampNeg)]) rfl ?_
    refine lv_isub hx hb dX2_gather_51 ?_
    refine lv_topi (fun x4 ex4 => ?_)
    refine jk_callSN (host := RX4) (As := [.int ((jm_ch M) x2.toNatClampNeg), .int x3, .int x4]) (rest := []) (ws1 := (jm_W g a M)) ⟨hx, hb, hml, hown, hts⟩ (c_X4_limited l D g ((jm_ch M) x2.toNatClampNeg) x3 x4) ⟨va_cnB 3 hts gX2_gather_X4_limited_n127 rfl rfl rfl hN.2.2.2.2.2.2 hini_RX4 (by decide +kernel) ⟨Nat.le_of_ble_eq_true rfl, Nat.le_of_ble_eq_true rfl⟩, hst_X4_limited, trivial⟩ jk_nilP (jk_nilD (A := A)) hK hN rfl hl rfl (Nat.le_of_ble_eq_true rfl) dX2_gather_52 ⟨Nat.zero_le _, Nat.zero_le _⟩ hS hA (fun _ _ hk => jk_keep hP hk) (fun H locs hP hS => ?_)
    refine W.eq (g2 := F0 m 55 ls [.int (rX4_limited ((jm_ch M) x2.toNatClampNeg) x3 x4)]) rfl ?_
    refine lv_topi (fun x5 ex5 => ?_)
    refine lv_istore (lv' := [(6, .int x5), (5, .int ((jm_se M) 4)), (4, .int x2), (3, .int 0), (0, .ref (a 0)), (1, .int 0), (2, .int 0)]) hx hb dX2_gather_55 hl (by decide) rfl (fun ls hl => ?_)
    refine lv_aload_n hx hb dX2_gather_57 rfl (lv_at hl 4 rfl) ?_
    refine va_get (D := D) (ci := 2) (v := .ref (a 2)) (C := RX2) (T := TX2) (N := 13) hx hb hts hi_2 hown hK hP 0 rfl rfl 1 (by decide) hf_15 (fun _ h9 => h9) rfl dX2_gather_58 ?_
    refine lv_iload hx hb dX2_gather_61 (lv_at hl 2 rfl) ?_
    refine lv_dup2_11 hx hb dX2_gather_63 rfl rfl ?_
    refine va_iald (f := (jm_ch M)) hx hb hK hP 2 0 rfl rfl (by subst_vars; exact jk_ix_in _ _ _) dX2_gather_64 ?_
    refine lv_iload hx hb dX2_gather_65 (lv_at hl 0 rfl) ?_
    refine lv_isub hx hb dX2_gather_67 ?_
    refine lv_topi (fun x6 ex6 => ?_)
    refine va_iast (f := (jm_ch M)) hx hb hK hP hD hS 2 0 rfl rfl (by subst_vars; exact jk_ix_in _ _ _) dX2_gather_68 (fun H locs hP hD hS => ?_)
    obtain ⟨f7, ef7⟩ : ∃ z : Nat → Int32, z = (upd (jm_ch M) x2.toNatClampNeg x6) := ⟨_, rfl⟩
    rw [← ef7] at hP hD
    have hP : va_P D vwCl (jm_W g a (jm_uch M f7)) H := hP
    have hD : va_D A (jm_W g a (jm_uch M f7)) := hD
    refine lv_aload_n hx hb dX2_gather_69 rfl (lv_at hl 4 rfl) ?_
    refine va_get (D := D) (ci := 2) (v := .ref (a 3)) (C := RX2) (T := TX2) (N := 13) hx hb hts hi_2 hown hK hP 0 rfl rfl 2 (by decide) hf_18 (fun _ h9 => h9) rfl dX2_gather_70 ?_
    refine lv_iload_n hx hb dX2_gather_73 rfl (lv_at hl 5 rfl) ?_
    refine lv_dup2_11 hx hb dX2_gather_74 rfl rfl ?_
    refine va_iald (f := (jm_ja M)) hx hb hK hP 3 0 rfl rfl (jk_inC (by decide +kernel)) dX2_gather_75 ?_
    refine W.eq (g2 := F0 m 76 ls [.int ((jm_ja M) 0), .int 0, .ref (a 3)]) rfl ?_
    refine lv_iload hx hb dX2_gather_76 (lv_at hl 0 rfl) ?_
    refine lv_iadd hx hb dX2_gather_78 ?_
    refine va_iast (f := (jm_ja M)) hx hb hK hP hD hS 3 0 rfl rfl (jk_inC (by decide +kernel)) dX2_gather_79 (fun H locs hP hD hS => ?_)
    have hP : va_P D vwCl (jm_W g a (jm_uja (jm_uch M f7) (upd (jm_ja M) 0 (((jm_ja M) 0) + x5)))) H := hP
    have hD : va_D A (jm_W g a (jm_uja (jm_uch M f7) (upd (jm_ja M) 0 (((jm_ja M) 0) + x5)))) := hD
    refine lv_aload_n hx hb dX2_gather_80 rfl (lv_at hl 4 rfl) ?_
    refine va_get (D := D) (ci := 2) (v := .ref (a 4)) (C := RX2) (T := TX2) (N := 13) hx hb hts hi_2 hown hK hP 0 rfl rfl 3 (by decide) hf_21 (fun _ h9 => h9) rfl dX2_gather_81 ?_
    refine lv_iload_n hx hb dX2_gather_84 rfl (lv_at hl 5 rfl) ?_
    refine lv_dup2_11 hx hb dX2_gather_85 rfl rfl ?_
    refine va_iald (f := (jm_tk M)) hx hb hK hP 4 0 rfl rfl (jk_inC (by decide +kernel)) dX2_gather_86 ?_
    refine W.eq (g2 := F0 m 87 ls [.int ((jm_tk M) 0), .int 0, .ref (a 4)]) rfl ?_
    refine lv_iload hx hb dX2_gather_87 (lv_at hl 0 rfl) ?_
    refine lv_iadd hx hb dX2_gather_89 ?_
    refine va_iast (f := (jm_tk M)) hx hb hK hP hD hS 4 0 rfl rfl (jk_inC (by decide +kernel)) dX2_gather_90 (fun H locs hP hD hS => ?_)
    have hP : va_P D vwCl (jm_W g a (jm_utk (jm_uja (jm_uch M f7) (upd (jm_ja M) 0 (((jm_ja M) 0) + x5))) (upd (jm_tk M) 0 (((jm_tk M) 0) + x5)))) H := hP
    have hD : va_D A (jm_W g a (jm_utk (jm_uja (jm_uch M f7) (upd (jm_ja M) 0 (((jm_ja M) 0) + x5))) (upd (jm_tk M) 0 (((jm_tk M) 0) + x5)))) := hD
    refine lv_iinc (v := 1) (lv' := [(3, .int 1), (6, .int x5), (5, .int ((jm_se M) 4)), (4, .int x2), (0, .ref (a 0)), (1, .int 0), (2, .int 0)]) hx hb dX2_gather_91 hl (k := 3) rfl (by decide) (by decide) rfl (fun ls hl => ?_)
    refine lv_goto (tgt := 2) hx hb dX2_gather_94 (by decide) ?_
    refine lv_iload_n hx hb dX2_gather_2 rfl (lv_at hl 0 rfl) ?_
    refine lv_iconst (v := 2) hx hb dX2_gather_3 (by decide) ?_
    refine lv_icmp_ge (tgt := 97) hx hb dX2_gather_4 (by decide) (fun c8 => ?_) (fun c8 => ?_)
    · exact absurd c8 (by decide)
    · refine lv_iload_n hx hb dX2_gather_7 rfl (lv_at hl 0 rfl) ?_
      refine lv_iload_n hx hb dX2_gather_8 rfl (lv_at hl 6 rfl) ?_
      refine lv_aload_n hx hb dX2_gather_9 rfl (lv_at hl 4 rfl) ?_
      refine va_get (D := D) (ci := 2) (v := .int (jm_tu M)) (C := RX2) (T := TX2) (N := 13) hx hb hts hi_2 hown hK hP 0 rfl rfl 6 (by decide) hf_34 (fun _ h9 => h9) rfl dX2_gather_10 ?_
      refine jk_callS (As := [.int 1, .int 0, .int (jm_tu M)]) (rest := []) (ws1 := (jm_W g a (jm_utk (jm_uja (jm_uch M f7) (upd (jm_ja M) 0 (((jm_ja M) 0) + x5))) (upd (jm_tk M) 0 (((jm_tk M) 0) + x5))))) ⟨hx, hb, hml, hown, hts⟩ (c_X2_indexOf l D g (1 : Int32) (0 : Int32) (jm_tu M)) (va_cwS 3 hts gX2_gather_X2_indexOf rfl rfl rfl (by decide +kernel) ⟨Nat.le_of_ble_eq_true rfl, Nat.le_of_ble_eq_true rfl⟩) jk_nilP (jk_nilD (A := A)) hK hN rfl hl rfl (Nat.le_of_ble_eq_true rfl) dX2_gather_13 ⟨Nat.zero_le _, Nat.zero_le _⟩ hS hA (fun _ _ hk => jk_keep hP hk) (fun H locs hP hS => ?_)
      refine W.eq (g2 := F0 m 16 ls [.int (rX2_indexOf (1 : Int32) (0 : Int32) (jm_tu M))]) rfl ?_
      refine lv_topi (fun x9 ex9 => ?_)
      refine lv_istore (lv' := [(4, .int x9), (3, .int 1), (6, .int x5), (5, .int ((jm_se M) 4)), (0, .ref (a 0)), (1, .int 0), (2, .int 0)]) hx hb dX2_gather_16 hl (by decide) rfl (fun ls hl => ?_)
      refine lv_aload_n hx hb dX2_gather_18 rfl (lv_at hl 4 rfl) ?_
      refine va_get (D := D) (ci := 2) (v := .ref (a 1)) (C := RX2) (T := TX2) (N := 13) hx hb hts hi_2 hown hK hP 0 rfl rfl 0 (by decide) hf_9 (fun _ h9 => h9) rfl dX2_gather_19 ?_
      refine lv_iconst (v := 4) hx hb dX2_gather_22 (by decide) ?_
      refine va_iald (f := (jm_se M)) hx hb hK hP 1 0 rfl rfl (jk_inC (by decide +kernel)) dX2_gather_23 ?_
      refine W.eq (g2 := F0 m 24 ls [.int ((jm_se M) 4)]) rfl ?_
      refine lv_istore (lv' := [(5, .int ((jm_se M) 4)), (4, .int x9), (3, .int 1), (6, .int x5), (0, .ref (a 0)), (1, .int 0), (2, .int 0)]) hx hb dX2_gather_24 hl (by decide) rfl (fun ls hl => ?_)
      refine lv_aload_n hx hb dX2_gather_26 rfl (lv_at hl 4 rfl) ?_
      refine va_get (D := D) (ci := 2) (v := .ref (a 2)) (C := RX2) (T := TX2) (N := 13) hx hb hts hi_2 hown hK hP 0 rfl rfl 1 (by decide) hf_15 (fun _ h9 => h9) rfl dX2_gather_27 ?_
      refine lv_iload hx hb dX2_gather_30 (lv_at hl 1 rfl) ?_
      refine va_iald (f := f7) hx hb hK hP 2 0 rfl rfl (by subst_vars; exact jk_ix_in _ _ _) dX2_gather_32 ?_
      refine lv_iload hx hb dX2_gather_33 (lv_at hl 0 rfl) ?_
      refine lv_ineg hx hb dX2_gather_35 ?_
      refine lv_aload_n hx hb dX2_gather_36 rfl (lv_at hl 4 rfl) ?_
      refine va_get (D := D) (ci := 2) (v := .ref (a 3)) (C := RX2) (T := TX2) (N := 13) hx hb hts hi_2 hown hK hP 0 rfl rfl 2 (by decide) hf_18 (fun _ h9 => h9) rfl dX2_gather_37 ?_
      refine lv_iload_n hx hb dX2_gather_40 rfl (lv_at hl 5 rfl) ?_
      refine va_iald (f := (upd (jm_ja M) 0 (((jm_ja M) 0) + x5))) hx hb hK hP 3 0 rfl rfl (jk_inC (by decide +kernel)) dX2_gather_41 ?_
      refine W.eq (g2 := F0 m 42 ls [.int (((jm_ja M) 0) + x5), .int (-((jm_se M) 4)), .int (f7 x9.toNatClampNeg)]) rfl ?_
      refine lv_isub hx hb dX2_gather_42 ?_
      refine lv_topi (fun x10 ex10 => ?_)
      refine lv_iload hx hb dX2_gather_43 (lv_at hl 0 rfl) ?_
      refine lv_aload_n hx hb dX2_gather_45 rfl (lv_at hl 4 rfl) ?_
      refine va_get (D := D) (ci := 2) (v := .ref (a 3)) (C := RX2) (T := TX2) (N := 13) hx hb hts hi_2 hown hK hP 0 rfl rfl 2 (by decide) hf_18 (fun _ h9 => h9) rfl dX2_gather_46 ?_
      refine lv_iload_n hx hb dX2_gather_49 rfl (lv_at hl 5 rfl) ?_
      refine va_iald (f := (upd (jm_ja M) 0 (((jm_ja M) 0) + x5))) hx hb hK hP 3 0 rfl rfl (jk_inC (by decide +kernel)) dX2_gather_50 ?_
      refine W.eq (g2 := F0 m 51 ls [.int (((jm_ja M) 0) + x5), .int ((jm_se M) 4), .int x10, .int (f7 x9.toNatClampNeg)]) rfl ?_
      refine lv_isub hx hb dX2_gather_51 ?_
      refine lv_topi (fun x11 ex11 => ?_)
      refine jk_callSN (host := RX4) (As := [.int (f7 x9.toNatClampNeg), .int x10, .int x11]) (rest := []) (ws1 := (jm_W g a (jm_utk (jm_uja (jm_uch M f7) (upd (jm_ja M) 0 (((jm_ja M) 0) + x5))) (upd (jm_tk M) 0 (((jm_tk M) 0) + x5))))) ⟨hx, hb, hml, hown, hts⟩ (c_X4_limited l D g (f7 x9.toNatClampNeg) x10 x11) ⟨va_cnB 3 hts gX2_gather_X4_limited_n127 rfl rfl rfl hN.2.2.2.2.2.2 hini_RX4 (by decide +kernel) ⟨Nat.le_of_ble_eq_true rfl, Nat.le_of_ble_eq_true rfl⟩, hst_X4_limited, trivial⟩ jk_nilP (jk_nilD (A := A)) hK hN rfl hl rfl (Nat.le_of_ble_eq_true rfl) dX2_gather_52 ⟨Nat.zero_le _, Nat.zero_le _⟩ hS hA (fun _ _ hk => jk_keep hP hk) (fun H locs hP hS => ?_)
      refine W.eq (g2 := F0 m 55 ls [.int (rX4_limited (f7 x9.toNatClampNeg) x10 x11)]) rfl ?_
      refine lv_topi (fun x12 ex12 => ?_)
      refine lv_istore (lv' := [(6, .int x12), (5, .int ((jm_se M) 4)), (4, .int x9), (3, .int 1), (0, .ref (a 0)), (1, .int 0), (2, .int 0)]) hx hb dX2_gather_55 hl (by decide) rfl (fun ls hl => ?_)
      refine lv_aload_n hx hb dX2_gather_57 rfl (lv_at hl 4 rfl) ?_
      refine va_get (D := D) (ci := 2) (v := .ref (a 2)) (C := RX2) (T := TX2) (N := 13) hx hb hts hi_2 hown hK hP 0 rfl rfl 1 (by decide) hf_15 (fun _ h9 => h9) rfl dX2_gather_58 ?_
      refine lv_iload hx hb dX2_gather_61 (lv_at hl 2 rfl) ?_
      refine lv_dup2_11 hx hb dX2_gather_63 rfl rfl ?_
      refine va_iald (f := f7) hx hb hK hP 2 0 rfl rfl (by subst_vars; exact jk_ix_in _ _ _) dX2_gather_64 ?_
      refine lv_iload hx hb dX2_gather_65 (lv_at hl 0 rfl) ?_
      refine lv_isub hx hb dX2_gather_67 ?_
      refine va_iast (f := f7) hx hb hK hP hD hS 2 0 rfl rfl (by subst_vars; exact jk_ix_in _ _ _) dX2_gather_68 (fun H locs hP hD hS => ?_)
      obtain ⟨f13, ef13⟩ : ∃ z : Nat → Int32, z = (upd f7 x9.toNatClampNeg ((f7 x9.toNatClampNeg) - x12)) := ⟨_, rfl⟩
      rw [← ef13] at hP hD
      have hP : va_P D vwCl (jm_W g a (jm_utk (jm_uja (jm_uch M f13) (upd (jm_ja M) 0 (((jm_ja M) 0) + x5))) (upd (jm_tk M) 0 (((jm_tk M) 0) + x5)))) H := hP
      have hD : va_D A (jm_W g a (jm_utk (jm_uja (jm_uch M f13) (upd (jm_ja M) 0 (((jm_ja M) 0) + x5))) (upd (jm_tk M) 0 (((jm_tk M) 0) + x5)))) := hD
      refine lv_aload_n hx hb dX2_gather_69 rfl (lv_at hl 4 rfl) ?_
      refine va_get (D := D) (ci := 2) (v := .ref (a 3)) (C := RX2) (T := TX2) (N := 13) hx hb hts hi_2 hown hK hP 0 rfl rfl 2 (by decide) hf_18 (fun _ h9 => h9) rfl dX2_gather_70 ?_
      refine lv_iload_n hx hb dX2_gather_73 rfl (lv_at hl 5 rfl) ?_
      refine lv_dup2_11 hx hb dX2_gather_74 rfl rfl ?_
      refine va_iald (f := (upd (jm_ja M) 0 (((jm_ja M) 0) + x5))) hx hb hK hP 3 0 rfl rfl (jk_inC (by decide +kernel)) dX2_gather_75 ?_
      refine W.eq (g2 := F0 m 76 ls [.int (((jm_ja M) 0) + x5), .int 0, .ref (a 3)]) rfl ?_
      refine lv_iload hx hb dX2_gather_76 (lv_at hl 0 rfl) ?_
      refine lv_iadd hx hb dX2_gather_78 ?_
      refine va_iast (f := (upd (jm_ja M) 0 (((jm_ja M) 0) + x5))) hx hb hK hP hD hS 3 0 rfl rfl (jk_inC (by decide +kernel)) dX2_gather_79 (fun H locs hP hD hS => ?_)
      have hP : va_P D vwCl (jm_W g a (jm_utk (jm_uja (jm_uch M f13) (upd (upd (jm_ja M) 0 (((jm_ja M) 0) + x5)) 0 ((((jm_ja M) 0) + x5) + x12))) (upd (jm_tk M) 0 (((jm_tk M) 0) + x5)))) H := hP
      have hD : va_D A (jm_W g a (jm_utk (jm_uja (jm_uch M f13) (upd (upd (jm_ja M) 0 (((jm_ja M) 0) + x5)) 0 ((((jm_ja M) 0) + x5) + x12))) (upd (jm_tk M) 0 (((jm_tk M) 0) + x5)))) := hD
      refine lv_aload_n hx hb dX2_gather_80 rfl (lv_at hl 4 rfl) ?_
      refine va_get (D := D) (ci := 2) (v := .ref (a 4)) (C := RX2) (T := TX2) (N := 13) hx hb hts hi_2 hown hK hP 0 rfl rfl 3 (by decide) hf_21 (fun _ h9 => h9) rfl dX2_gather_81 ?_
      refine lv_iload_n hx hb dX2_gather_84 rfl (lv_at hl 5 rfl) ?_
      refine lv_dup2_11 hx hb dX2_gather_85 rfl rfl ?_
      refine va_iald (f := (upd (jm_tk M) 0 (((jm_tk M) 0) + x5))) hx hb hK hP 4 0 rfl rfl (jk_inC (by decide +kernel)) dX2_gather_86 ?_
      refine W.eq (g2 := F0 m 87 ls [.int (((jm_tk M) 0) + x5), .int 0, .ref (a 4)]) rfl ?_
      refine lv_iload hx hb dX2_gather_87 (lv_at hl 0 rfl) ?_
      refine lv_iadd hx hb dX2_gather_89 ?_
      refine va_iast (f := (upd (jm_tk M) 0 (((jm_tk M) 0) + x5))) hx hb hK hP hD hS 4 0 rfl rfl (jk_inC (by decide +kernel)) dX2_gather_90 (fun H locs hP hD hS => ?_)
      have hP : va_P D vwCl (jm_W g a (jm_utk (jm_uja (jm_uch M f13) (upd (upd (jm_ja M) 0 (((jm_ja M) 0) + x5)) 0 ((((jm_ja M) 0) + x5) + x12))) (upd (upd (jm_tk M) 0 (((jm_tk M) 0) + x5)) 0 ((((jm_tk M) 0) + x5) + x12)))) H := hP
      have hD : va_D A (jm_W g a (jm_utk (jm_uja (jm_uch M f13) (upd (upd (jm_ja M) 0 (((jm_ja M) 0) + x5)) 0 ((((jm_ja M) 0) + x5) + x12))) (upd (upd (jm_tk M) 0 (((jm_tk M) 0) + x5)) 0 ((((jm_tk M) 0) + x5) + x12)))) := hD
      refine lv_iinc (v := 2) (lv' := [(3, .int 2), (6, .int x12), (5, .int ((jm_se M) 4)), (4, .int x9), (0, .ref (a 0)), (1, .int 0), (2, .int 0)]) hx hb dX2_gather_91 hl (k := 3) rfl (by decide) (by decide) rfl (fun ls hl => ?_)
      refine lv_goto (tgt := 2) hx hb dX2_gather_94 (by decide) ?_
      refine lv_iload_n hx hb dX2_gather_2 rfl (lv_at hl 0 rfl) ?_
      refine lv_iconst (v := 2) hx hb dX2_gather_3 (by decide) ?_
      refine lv_icmp_ge (tgt := 97) hx hb dX2_gather_4 (by decide) (fun c14 => ?_) (fun c14 => ?_)
      · subst ef13
        subst ex12
        subst ex11
        subst ex10
        subst ex9
        subst ef7
        subst ex6
        subst ex5
        subst ex4
        subst ex3
        subst ex2
        exact jk_vret hx hb hr hlocks hP hS (congrArg (fun z => (jm_W g a z)) ((rfl).symm)) dX2_gather_97
      · exact absurd c14 (by decide)

def sX2_gather_1 (M : jm_T) : jm_T := let x2 : Int32 := rX2_indexOf (0 : Int32) (6 : Int32) (jm_tu M); let x3 : Int32 := (-((jm_se M) 4)) - ((jm_ja M) 1); let x4 : Int32 := ((jm_se M) 4) - ((jm_ja M) 1); let x5 : Int32 := rX4_limited ((jm_ch M) x2.toNatClampNeg) x3 x4; let x6 : Int32 := ((jm_ch M) x2.toNatClampNeg) - x5; let f7 : (Nat → Int32) := upd (jm_ch M) x2.toNatClampNeg x6; let x9 : Int32 := rX2_indexOf (1 : Int32) (6 : Int32) (jm_tu M); let x10 : Int32 := (-((jm_se M) 4)) - (((jm_ja M) 1) + x5); let x11 : Int32 := ((jm_se M) 4) - (((jm_ja M) 1) + x5); let x12 : Int32 := rX4_limited (f7 x9.toNatClampNeg) x10 x11; let f13 : (Nat → Int32) := upd f7 x9.toNatClampNeg ((f7 x9.toNatClampNeg) - x12); (jm_utk (jm_uja (jm_uch M f13) (upd (upd (jm_ja M) 1 (((jm_ja M) 1) + x5)) 1 ((((jm_ja M) 1) + x5) + x12))) (upd (upd (jm_tk M) 1 (((jm_tk M) 1) + x5)) 1 ((((jm_tk M) 1) + x5) + x12)))
set_option maxHeartbeats 4000000 in
set_option maxRecDepth 100000 in
theorem c_X2_gather_1 (l : Launch) (D : va_G) (g : jk_G) (a : Nat → Nat) (M : jm_T)  : jk_M l D g yX2_gather wsX2_gather 2 44 [.ref (a 0), .int 1, .int 6] (jm_W g a M) none (jm_W g a (sX2_gather_1 M)) := by
  refine jk_of (cc := cX2_gather) (maxL := 7) (ret := none) (by decide +kernel) rfl (Nat.le_of_ble_eq_true rfl) ?_
  intro p e s m args below meth c hx hb hr hml hts hown hlocks hK hN A H locs hP hD hA hS ls hl
  have hown : s.vm.findClass RX2 = some m.cls := hown
  have hl : lv_has ls 7 [(0, .ref (a 0)), (1, .int 1), (2, .int 6)] := hl
  have hf_34 := hts (.fieldLink RX2 34 "InfluenceJars$Machine" "turns" "I") (by decide +kernel)
  have hi_2 : ∀ w ∈ u_ws RX2 TX2 13, w ∈ wsX2_gather := by decide +kernel
  have hf_9 := hts (.fieldLink RX2 9 "InfluenceJars$Machine" "settings" "[I") (by decide +kernel)
  have hf_15 := hts (.fieldLink RX2 15 "InfluenceJars$Machine" "charges" "[I") (by decide +kernel)
  have hf_18 := hts (.fieldLink RX2 18 "InfluenceJars$Machine" "jars" "[I") (by decide +kernel)
  have hst_X4_limited := hts (.static yX4_limited) (by decide +kernel)
  have hini_RX4 := hts (.initialized RX4) (by decide +kernel)
  have hf_21 := hts (.fieldLink RX2 21 "InfluenceJars$Machine" "taken" "[I") (by decide +kernel)
  refine lv_iconst (v := 0) hx hb dX2_gather_0 (by decide) ?_
  refine lv_istore_n (lv' := [(3, .int 0), (0, .ref (a 0)), (1, .int 1), (2, .int 6)]) hx hb dX2_gather_1 rfl hl (by decide) rfl (fun ls hl => ?_)
  refine lv_iload_n hx hb dX2_gather_2 rfl (lv_at hl 0 rfl) ?_
  refine lv_iconst (v := 2) hx hb dX2_gather_3 (by decide) ?_
  refine lv_icmp_ge (tgt := 97) hx hb dX2_gather_4 (by decide) (fun c1 => ?_) (fun c1 => ?_)
  · exact absurd c1 (by decide)
  · refine lv_iload_n hx hb dX2_gather_7 rfl (lv_at hl 0 rfl) ?_
    refine lv_iload_n hx hb dX2_gather_8 rfl (lv_at hl 3 rfl) ?_
    refine lv_aload_n hx hb dX2_gather_9 rfl (lv_at hl 1 rfl) ?_
    refine va_get (D := D) (ci := 2) (v := .int (jm_tu M)) (C := RX2) (T := TX2) (N := 13) hx hb hts hi_2 hown hK hP 0 rfl rfl 6 (by decide) hf_34 (fun _ h9 => h9) rfl dX2_gather_10 ?_
    refine jk_callS (As := [.int 0, .int 6, .int (jm_tu M)]) (rest := []) (ws1 := (jm_W g a M)) ⟨hx, hb, hml, hown, hts⟩ (c_X2_indexOf l D g (0 : Int32) (6 : Int32) (jm_tu M)) (va_cwS 3 hts gX2_gather_X2_indexOf rfl rfl rfl (by decide +kernel) ⟨Nat.le_of_ble_eq_true rfl, Nat.le_of_ble_eq_true rfl⟩) jk_nilP (jk_nilD (A := A)) hK hN rfl hl rfl (Nat.le_of_ble_eq_true rfl) dX2_gather_13 ⟨Nat.zero_le _, Nat.zero_le _⟩ hS hA (fun _ _ hk => jk_keep hP hk) (fun H locs hP hS => ?_)
    refine W.eq (g2 := F0 m 16 ls [.int (rX2_indexOf (0 : Int32) (6 : Int32) (jm_tu M))]) rfl ?_
    refine lv_topi (fun x2 ex2 => ?_)
    refine lv_istore (lv' := [(4, .int x2), (3, .int 0), (0, .ref (a 0)), (1, .int 1), (2, .int 6)]) hx hb dX2_gather_16 hl (by decide) rfl (fun ls hl => ?_)
    refine lv_aload_n hx hb dX2_gather_18 rfl (lv_at hl 2 rfl) ?_
    refine va_get (D := D) (ci := 2) (v := .ref (a 1)) (C := RX2) (T := TX2) (N := 13) hx hb hts hi_2 hown hK hP 0 rfl rfl 0 (by decide) hf_9 (fun _ h9 => h9) rfl dX2_gather_19 ?_
    refine lv_iconst (v := 4) hx hb dX2_gather_22 (by decide) ?_
    refine va_iald (f := (jm_se M)) hx hb hK hP 1 0 rfl rfl (jk_inC (by decide +kernel)) dX2_gather_23 ?_
    refine W.eq (g2 := F0 m 24 ls [.int ((jm_se M) 4)]) rfl ?_
    refine lv_istore (lv' := [(5, .int ((jm_se M) 4)), (4, .int x2), (3, .int 0), (0, .ref (a 0)), (1, .int 1), (2, .int 6)]) hx hb dX2_gather_24 hl (by decide) rfl (fun ls hl => ?_)
    refine lv_aload_n hx hb dX2_gather_26 rfl (lv_at hl 3 rfl) ?_
    refine va_get (D := D) (ci := 2) (v := .ref (a 2)) (C := RX2) (T := TX2) (N := 13) hx hb hts hi_2 hown hK hP 0 rfl rfl 1 (by decide) hf_15 (fun _ h9 => h9) rfl dX2_gather_27 ?_
    refine lv_iload hx hb dX2_gather_30 (lv_at hl 1 rfl) ?_
    refine va_iald (f := (jm_ch M)) hx hb hK hP 2 0 rfl rfl (by subst_vars; exact jk_ix_in _ _ _) dX2_gather_32 ?_
    refine lv_iload hx hb dX2_gather_33 (lv_at hl 0 rfl) ?_
    refine lv_ineg hx hb dX2_gather_35 ?_
    refine lv_aload_n hx hb dX2_gather_36 rfl (lv_at hl 3 rfl) ?_
    refine va_get (D := D) (ci := 2) (v := .ref (a 3)) (C := RX2) (T := TX2) (N := 13) hx hb hts hi_2 hown hK hP 0 rfl rfl 2 (by decide) hf_18 (fun _ h9 => h9) rfl dX2_gather_37 ?_
    refine lv_iload_n hx hb dX2_gather_40 rfl (lv_at hl 4 rfl) ?_
    refine va_iald (f := (jm_ja M)) hx hb hK hP 3 0 rfl rfl (jk_inC (by decide +kernel)) dX2_gather_41 ?_
    refine W.eq (g2 := F0 m 42 ls [.int ((jm_ja M) 1), .int (-((jm_se M) 4)), .int ((jm_ch M) x2.toNatClampNeg)]) rfl ?_
    refine lv_isub hx hb dX2_gather_42 ?_
    refine lv_topi (fun x3 ex3 => ?_)
    refine lv_iload hx hb dX2_gather_43 (lv_at hl 0 rfl) ?_
    refine lv_aload_n hx hb dX2_gather_45 rfl (lv_at hl 3 rfl) ?_
    refine va_get (D := D) (ci := 2) (v := .ref (a 3)) (C := RX2) (T := TX2) (N := 13) hx hb hts hi_2 hown hK hP 0 rfl rfl 2 (by decide) hf_18 (fun _ h9 => h9) rfl dX2_gather_46 ?_
    refine lv_iload_n hx hb dX2_gather_49 rfl (lv_at hl 4 rfl) ?_
    refine va_iald (f := (jm_ja M)) hx hb hK hP 3 0 rfl rfl (jk_inC (by decide +kernel)) dX2_gather_50 ?_
    refine W.eq (g2 := F0 m 51 ls [.int ((jm_ja M) 1), .int ((jm_se M) 4), .int x3, .int ((jm_ch M) x2.toNatClampNeg)]) rfl ?_
    refine lv_isub hx hb dX2_gather_51 ?_
    refine lv_topi (fun x4 ex4 => ?_)
    refine jk_callSN (host := RX4) (As := [.int ((jm_ch M) x2.toNatClampNeg), .int x3, .int x4]) (rest := []) (ws1 := (jm_W g a M)) ⟨hx, hb, hml, hown, hts⟩ (c_X4_limited l D g ((jm_ch M) x2.toNatClampNeg) x3 x4) ⟨va_cnB 3 hts gX2_gather_X4_limited_n127 rfl rfl rfl hN.2.2.2.2.2.2 hini_RX4 (by decide +kernel) ⟨Nat.le_of_ble_eq_true rfl, Nat.le_of_ble_eq_true rfl⟩, hst_X4_limited, trivial⟩ jk_nilP (jk_nilD (A := A)) hK hN rfl hl rfl (Nat.le_of_ble_eq_true rfl) dX2_gather_52 ⟨Nat.zero_le _, Nat.zero_le _⟩ hS hA (fun _ _ hk => jk_keep hP hk) (fun H locs hP hS => ?_)
    refine W.eq (g2 := F0 m 55 ls [.int (rX4_limited ((jm_ch M) x2.toNatClampNeg) x3 x4)]) rfl ?_
    refine lv_topi (fun x5 ex5 => ?_)
    refine lv_istore (lv' := [(6, .int x5), (5, .int ((jm_se M) 4)), (4, .int x2), (3, .int 0), (0, .ref (a 0)), (1, .int 1), (2, .int 6)]) hx hb dX2_gather_55 hl (by decide) rfl (fun ls hl => ?_)
    refine lv_aload_n hx hb dX2_gather_57 rfl (lv_at hl 4 rfl) ?_
    refine va_get (D := D) (ci := 2) (v := .ref (a 2)) (C := RX2) (T := TX2) (N := 13) hx hb hts hi_2 hown hK hP 0 rfl rfl 1 (by decide) hf_15 (fun _ h9 => h9) rfl dX2_gather_58 ?_
    refine lv_iload hx hb dX2_gather_61 (lv_at hl 2 rfl) ?_
    refine lv_dup2_11 hx hb dX2_gather_63 rfl rfl ?_
    refine va_iald (f := (jm_ch M)) hx hb hK hP 2 0 rfl rfl (by subst_vars; exact jk_ix_in _ _ _) dX2_gather_64 ?_
    refine lv_iload hx hb dX2_gather_65 (lv_at hl 0 rfl) ?_
    refine lv_isub hx hb dX2_gather_67 ?_
    refine lv_topi (fun x6 ex6 => ?_)
    refine va_iast (f := (jm_ch M)) hx hb hK hP hD hS 2 0 rfl rfl (by subst_vars; exact jk_ix_in _ _ _) dX2_gather_68 (fun H locs hP hD hS => ?_)
    obtain ⟨f7, ef7⟩ : ∃ z : Nat → Int32, z = (upd (jm_ch M) x2.toNatClampNeg x6) := ⟨_, rfl⟩
    rw [← ef7] at hP hD
    have hP : va_P D vwCl (jm_W g a (jm_uch M f7)) H := hP
    have hD : va_D A (jm_W g a (jm_uch M f7)) := hD
    refine lv_aload_n hx hb dX2_gather_69 rfl (lv_at hl 4 rfl) ?_
    refine va_get (D := D) (ci := 2) (v := .ref (a 3)) (C := RX2) (T := TX2) (N := 13) hx hb hts hi_2 hown hK hP 0 rfl rfl 2 (by decide) hf_18 (fun _ h9 => h9) rfl dX2_gather_70 ?_
    refine lv_iload_n hx hb dX2_gather_73 rfl (lv_at hl 5 rfl) ?_
    refine lv_dup2_11 hx hb dX2_gather_74 rfl rfl ?_
    refine va_iald (f := (jm_ja M)) hx hb hK hP 3 0 rfl rfl (jk_inC (by decide +kernel)) dX2_gather_75 ?_
    refine W.eq (g2 := F0 m 76 ls [.int ((jm_ja M) 1), .int 1, .ref (a 3)]) rfl ?_
    refine lv_iload hx hb dX2_gather_76 (lv_at hl 0 rfl) ?_
    refine lv_iadd hx hb dX2_gather_78 ?_
    refine va_iast (f := (jm_ja M)) hx hb hK hP hD hS 3 0 rfl rfl (jk_inC (by decide +kernel)) dX2_gather_79 (fun H locs hP hD hS => ?_)
    have hP : va_P D vwCl (jm_W g a (jm_uja (jm_uch M f7) (upd (jm_ja M) 1 (((jm_ja M) 1) + x5)))) H := hP
    have hD : va_D A (jm_W g a (jm_uja (jm_uch M f7) (upd (jm_ja M) 1 (((jm_ja M) 1) + x5)))) := hD
    refine lv_aload_n hx hb dX2_gather_80 rfl (lv_at hl 4 rfl) ?_
    refine va_get (D := D) (ci := 2) (v := .ref (a 4)) (C := RX2) (T := TX2) (N := 13) hx hb hts hi_2 hown hK hP 0 rfl rfl 3 (by decide) hf_21 (fun _ h9 => h9) rfl dX2_gather_81 ?_
    refine lv_iload_n hx hb dX2_gather_84 rfl (lv_at hl 5 rfl) ?_
    refine lv_dup2_11 hx hb dX2_gather_85 rfl rfl ?_
    refine va_iald (f := (jm_tk M)) hx hb hK hP 4 0 rfl rfl (jk_inC (by decide +kernel)) dX2_gather_86 ?_
    refine W.eq (g2 := F0 m 87 ls [.int ((jm_tk M) 1), .int 1, .ref (a 4)]) rfl ?_
    refine lv_iload hx hb dX2_gather_87 (lv_at hl 0 rfl) ?_
    refine lv_iadd hx hb dX2_gather_89 ?_
    refine va_iast (f := (jm_tk M)) hx hb hK hP hD hS 4 0 rfl rfl (jk_inC (by decide +kernel)) dX2_gather_90 (fun H locs hP hD hS => ?_)
    have hP : va_P D vwCl (jm_W g a (jm_utk (jm_uja (jm_uch M f7) (upd (jm_ja M) 1 (((jm_ja M) 1) + x5))) (upd (jm_tk M) 1 (((jm_tk M) 1) + x5)))) H := hP
    have hD : va_D A (jm_W g a (jm_utk (jm_uja (jm_uch M f7) (upd (jm_ja M) 1 (((jm_ja M) 1) + x5))) (upd (jm_tk M) 1 (((jm_tk M) 1) + x5)))) := hD
    refine lv_iinc (v := 1) (lv' := [(3, .int 1), (6, .int x5), (5, .int ((jm_se M) 4)), (4, .int x2), (0, .ref (a 0)), (1, .int 1), (2, .int 6)]) hx hb dX2_gather_91 hl (k := 3) rfl (by decide) (by decide) rfl (fun ls hl => ?_)
    refine lv_goto (tgt := 2) hx hb dX2_gather_94 (by decide) ?_
    refine lv_iload_n hx hb dX2_gather_2 rfl (lv_at hl 0 rfl) ?_
    refine lv_iconst (v := 2) hx hb dX2_gather_3 (by decide) ?_
    refine lv_icmp_ge (tgt := 97) hx hb dX2_gather_4 (by decide) (fun c8 => ?_) (fun c8 => ?_)
    · exact absurd c8 (by decide)
    · refine lv_iload_n hx hb dX2_gather_7 rfl (lv_at hl 0 rfl) ?_
      refine lv_iload_n hx hb dX2_gather_8 rfl (lv_at hl 6 rfl) ?_
      refine lv_aload_n hx hb dX2_gather_9 rfl (lv_at hl 4 rfl) ?_
      refine va_get (D := D) (ci := 2) (v := .int (jm_tu M)) (C := RX2) (T := TX2) (N := 13) hx hb hts hi_2 hown hK hP 0 rfl rfl 6 (by decide) hf_34 (fun _ h9 => h9) rfl dX2_gather_10 ?_
      refine jk_callS (As := [.int 1, .int 6, .int (jm_tu M)]) (rest := []) (ws1 := (jm_W g a (jm_utk (jm_uja (jm_uch M f7) (upd (jm_ja M) 1 (((jm_ja M) 1) + x5))) (upd (jm_tk M) 1 (((jm_tk M) 1) + x5))))) ⟨hx, hb, hml, hown, hts⟩ (c_X2_indexOf l D g (1 : Int32) (6 : Int32) (jm_tu M)) (va_cwS 3 hts gX2_gather_X2_indexOf rfl rfl rfl (by decide +kernel) ⟨Nat.le_of_ble_eq_true rfl, Nat.le_of_ble_eq_true rfl⟩) jk_nilP (jk_nilD (A := A)) hK hN rfl hl rfl (Nat.le_of_ble_eq_true rfl) dX2_gather_13 ⟨Nat.zero_le _, Nat.zero_le _⟩ hS hA (fun _ _ hk => jk_keep hP hk) (fun H locs hP hS => ?_)
      refine W.eq (g2 := F0 m 16 ls [.int (rX2_indexOf (1 : Int32) (6 : Int32) (jm_tu M))]) rfl ?_
      refine lv_topi (fun x9 ex9 => ?_)
      refine lv_istore (lv' := [(4, .int x9), (3, .int 1), (6, .int x5), (5, .int ((jm_se M) 4)), (0, .ref (a 0)), (1, .int 1), (2, .int 6)]) hx hb dX2_gather_16 hl (by decide) rfl (fun ls hl => ?_)
      refine lv_aload_n hx hb dX2_gather_18 rfl (lv_at hl 4 rfl) ?_
      refine va_get (D := D) (ci := 2) (v := .ref (a 1)) (C := RX2) (T := TX2) (N := 13) hx hb hts hi_2 hown hK hP 0 rfl rfl 0 (by decide) hf_9 (fun _ h9 => h9) rfl dX2_gather_19 ?_
      refine lv_iconst (v := 4) hx hb dX2_gather_22 (by decide) ?_
      refine va_iald (f := (jm_se M)) hx hb hK hP 1 0 rfl rfl (jk_inC (by decide +kernel)) dX2_gather_23 ?_
      refine W.eq (g2 := F0 m 24 ls [.int ((jm_se M) 4)]) rfl ?_
      refine lv_istore (lv' := [(5, .int ((jm_se M) 4)), (4, .int x9), (3, .int 1), (6, .int x5), (0, .ref (a 0)), (1, .int 1), (2, .int 6)]) hx hb dX2_gather_24 hl (by decide) rfl (fun ls hl => ?_)
      refine lv_aload_n hx hb dX2_gather_26 rfl (lv_at hl 4 rfl) ?_
      refine va_get (D := D) (ci := 2) (v := .ref (a 2)) (C := RX2) (T := TX2) (N := 13) hx hb hts hi_2 hown hK hP 0 rfl rfl 1 (by decide) hf_15 (fun _ h9 => h9) rfl dX2_gather_27 ?_
      refine lv_iload hx hb dX2_gather_30 (lv_at hl 1 rfl) ?_
      refine va_iald (f := f7) hx hb hK hP 2 0 rfl rfl (by subst_vars; exact jk_ix_in _ _ _) dX2_gather_32 ?_
      refine lv_iload hx hb dX2_gather_33 (lv_at hl 0 rfl) ?_
      refine lv_ineg hx hb dX2_gather_35 ?_
      refine lv_aload_n hx hb dX2_gather_36 rfl (lv_at hl 4 rfl) ?_
      refine va_get (D := D) (ci := 2) (v := .ref (a 3)) (C := RX2) (T := TX2) (N := 13) hx hb hts hi_2 hown hK hP 0 rfl rfl 2 (by decide) hf_18 (fun _ h9 => h9) rfl dX2_gather_37 ?_
      refine lv_iload_n hx hb dX2_gather_40 rfl (lv_at hl 5 rfl) ?_
      refine va_iald (f := (upd (jm_ja M) 1 (((jm_ja M) 1) + x5))) hx hb hK hP 3 0 rfl rfl (jk_inC (by decide +kernel)) dX2_gather_41 ?_
      refine W.eq (g2 := F0 m 42 ls [.int (((jm_ja M) 1) + x5), .int (-((jm_se M) 4)), .int (f7 x9.toNatClampNeg)]) rfl ?_
      refine lv_isub hx hb dX2_gather_42 ?_
      refine lv_topi (fun x10 ex10 => ?_)
      refine lv_iload hx hb dX2_gather_43 (lv_at hl 0 rfl) ?_
      refine lv_aload_n hx hb dX2_gather_45 rfl (lv_at hl 4 rfl) ?_
      refine va_get (D := D) (ci := 2) (v := .ref (a 3)) (C := RX2) (T := TX2) (N := 13) hx hb hts hi_2 hown hK hP 0 rfl rfl 2 (by decide) hf_18 (fun _ h9 => h9) rfl dX2_gather_46 ?_
      refine lv_iload_n hx hb dX2_gather_49 rfl (lv_at hl 5 rfl) ?_
      refine va_iald (f := (upd (jm_ja M) 1 (((jm_ja M) 1) + x5))) hx hb hK hP 3 0 rfl rfl (jk_inC (by decide +kernel)) dX2_gather_50 ?_
      refine W.eq (g2 := F0 m 51 ls [.int (((jm_ja M) 1) + x5), .int ((jm_se M) 4), .int x10, .int (f7 x9.toNatClampNeg)]) rfl ?_
      refine lv_isub hx hb dX2_gather_51 ?_
      refine lv_topi (fun x11 ex11 => ?_)
      refine jk_callSN (host := RX4) (As := [.int (f7 x9.toNatClampNeg), .int x10, .int x11]) (rest := []) (ws1 := (jm_W g a (jm_utk (jm_uja (jm_uch M f7) (upd (jm_ja M) 1 (((jm_ja M) 1) + x5))) (upd (jm_tk M) 1 (((jm_tk M) 1) + x5))))) ⟨hx, hb, hml, hown, hts⟩ (c_X4_limited l D g (f7 x9.toNatClampNeg) x10 x11) ⟨va_cnB 3 hts gX2_gather_X4_limited_n127 rfl rfl rfl hN.2.2.2.2.2.2 hini_RX4 (by decide +kernel) ⟨Nat.le_of_ble_eq_true rfl, Nat.le_of_ble_eq_true rfl⟩, hst_X4_limited, trivial⟩ jk_nilP (jk_nilD (A := A)) hK hN rfl hl rfl (Nat.le_of_ble_eq_true rfl) dX2_gather_52 ⟨Nat.zero_le _, Nat.zero_le _⟩ hS hA (fun _ _ hk => jk_keep hP hk) (fun H locs hP hS => ?_)
      refine W.eq (g2 := F0 m 55 ls [.int (rX4_limited (f7 x9.toNatClampNeg) x10 x11)]) rfl ?_
      refine lv_topi (fun x12 ex12 => ?_)
      refine lv_istore (lv' := [(6, .int x12), (5, .int ((jm_se M) 4)), (4, .int x9), (3, .int 1), (0, .ref (a 0)), (1, .int 1), (2, .int 6)]) hx hb dX2_gather_55 hl (by decide) rfl (fun ls hl => ?_)
      refine lv_aload_n hx hb dX2_gather_57 rfl (lv_at hl 4 rfl) ?_
      refine va_get (D := D) (ci := 2) (v := .ref (a 2)) (C := RX2) (T := TX2) (N := 13) hx hb hts hi_2 hown hK hP 0 rfl rfl 1 (by decide) hf_15 (fun _ h9 => h9) rfl dX2_gather_58 ?_
      refine lv_iload hx hb dX2_gather_61 (lv_at hl 2 rfl) ?_
      refine lv_dup2_11 hx hb dX2_gather_63 rfl rfl ?_
      refine va_iald (f := f7) hx hb hK hP 2 0 rfl rfl (by subst_vars; exact jk_ix_in _ _ _) dX2_gather_64 ?_
      refine lv_iload hx hb dX2_gather_65 (lv_at hl 0 rfl) ?_
      refine lv_isub hx hb dX2_gather_67 ?_
      refine va_iast (f := f7) hx hb hK hP hD hS 2 0 rfl rfl (by subst_vars; exact jk_ix_in _ _ _) dX2_gather_68 (fun H locs hP hD hS => ?_)
      obtain ⟨f13, ef13⟩ : ∃ z : Nat → Int32, z = (upd f7 x9.toNatClampNeg ((f7 x9.toNatClampNeg) - x12)) := ⟨_, rfl⟩
      rw [← ef13] at hP hD
      have hP : va_P D vwCl (jm_W g a (jm_utk (jm_uja (jm_uch M f13) (upd (jm_ja M) 1 (((jm_ja M) 1) + x5))) (upd (jm_tk M) 1 (((jm_tk M) 1) + x5)))) H := hP
      have hD : va_D A (jm_W g a (jm_utk (jm_uja (jm_uch M f13) (upd (jm_ja M) 1 (((jm_ja M) 1) + x5))) (upd (jm_tk M) 1 (((jm_tk M) 1) + x5)))) := hD
      refine lv_aload_n hx hb dX2_gather_69 rfl (lv_at hl 4 rfl) ?_
      refine va_get (D := D) (ci := 2) (v := .ref (a 3)) (C := RX2) (T := TX2) (N := 13) hx hb hts hi_2 hown hK hP 0 rfl rfl 2 (by decide) hf_18 (fun _ h9 => h9) rfl dX2_gather_70 ?_
      refine lv_iload_n hx hb dX2_gather_73 rfl (lv_at hl 5 rfl) ?_
      refine lv_dup2_11 hx hb dX2_gather_74 rfl rfl ?_
      refine va_iald (f := (upd (jm_ja M) 1 (((jm_ja M) 1) + x5))) hx hb hK hP 3 0 rfl rfl (jk_inC (by decide +kernel)) dX2_gather_75 ?_
      refine W.eq (g2 := F0 m 76 ls [.int (((jm_ja M) 1) + x5), .int 1, .ref (a 3)]) rfl ?_
      refine lv_iload hx hb dX2_gather_76 (lv_at hl 0 rfl) ?_
      refine lv_iadd hx hb dX2_gather_78 ?_
      refine va_iast (f := (upd (jm_ja M) 1 (((jm_ja M) 1) + x5))) hx hb hK hP hD hS 3 0 rfl rfl (jk_inC (by decide +kernel)) dX2_gather_79 (fun H locs hP hD hS => ?_)
      have hP : va_P D vwCl (jm_W g a (jm_utk (jm_uja (jm_uch M f13) (upd (upd (jm_ja M) 1 (((jm_ja M) 1) + x5)) 1 ((((jm_ja M) 1) + x5) + x12))) (upd (jm_tk M) 1 (((jm_tk M) 1) + x5)))) H := hP
      have hD : va_D A (jm_W g a (jm_utk (jm_uja (jm_uch M f13) (upd (upd (jm_ja M) 1 (((jm_ja M) 1) + x5)) 1 ((((jm_ja M) 1) + x5) + x12))) (upd (jm_tk M) 1 (((jm_tk M) 1) + x5)))) := hD
      refine lv_aload_n hx hb dX2_gather_80 rfl (lv_at hl 4 rfl) ?_
      refine va_get (D := D) (ci := 2) (v := .ref (a 4)) (C := RX2) (T := TX2) (N := 13) hx hb hts hi_2 hown hK hP 0 rfl rfl 3 (by decide) hf_21 (fun _ h9 => h9) rfl dX2_gather_81 ?_
      refine lv_iload_n hx hb dX2_gather_84 rfl (lv_at hl 5 rfl) ?_
      refine lv_dup2_11 hx hb dX2_gather_85 rfl rfl ?_
      refine va_iald (f := (upd (jm_tk M) 1 (((jm_tk M) 1) + x5))) hx hb hK hP 4 0 rfl rfl (jk_inC (by decide +kernel)) dX2_gather_86 ?_
      refine W.eq (g2 := F0 m 87 ls [.int (((jm_tk M) 1) + x5), .int 1, .ref (a 4)]) rfl ?_
      refine lv_iload hx hb dX2_gather_87 (lv_at hl 0 rfl) ?_
      refine lv_iadd hx hb dX2_gather_89 ?_
      refine va_iast (f := (upd (jm_tk M) 1 (((jm_tk M) 1) + x5))) hx hb hK hP hD hS 4 0 rfl rfl (jk_inC (by decide +kernel)) dX2_gather_90 (fun H locs hP hD hS => ?_)
      have hP : va_P D vwCl (jm_W g a (jm_utk (jm_uja (jm_uch M f13) (upd (upd (jm_ja M) 1 (((jm_ja M) 1) + x5)) 1 ((((jm_ja M) 1) + x5) + x12))) (upd (upd (jm_tk M) 1 (((jm_tk M) 1) + x5)) 1 ((((jm_tk M) 1) + x5) + x12)))) H := hP
      have hD : va_D A (jm_W g a (jm_utk (jm_uja (jm_uch M f13) (upd (upd (jm_ja M) 1 (((jm_ja M) 1) + x5)) 1 ((((jm_ja M) 1) + x5) + x12))) (upd (upd (jm_tk M) 1 (((jm_tk M) 1) + x5)) 1 ((((jm_tk M) 1) + x5) + x12)))) := hD
      refine lv_iinc (v := 2) (lv' := [(3, .int 2), (6, .int x12), (5, .int ((jm_se M) 4)), (4, .int x9), (0, .ref (a 0)), (1, .int 1), (2, .int 6)]) hx hb dX2_gather_91 hl (k := 3) rfl (by decide) (by decide) rfl (fun ls hl => ?_)
      refine lv_goto (tgt := 2) hx hb dX2_gather_94 (by decide) ?_
      refine lv_iload_n hx hb dX2_gather_2 rfl (lv_at hl 0 rfl) ?_
      refine lv_iconst (v := 2) hx hb dX2_gather_3 (by decide) ?_
      refine lv_icmp_ge (tgt := 97) hx hb dX2_gather_4 (by decide) (fun c14 => ?_) (fun c14 => ?_)
      · subst ef13
        subst ex12
        subst ex11
        subst ex10
        subst ex9
        subst ef7
        subst ex6
        subst ex5
        subst ex4
        subst ex3
        subst ex2
        exact jk_vret hx hb hr hlocks hP hS (congrArg (fun z => (jm_W g a z)) ((rfl).symm)) dX2_gather_97
      · exact absurd c14 (by decide)

def sX2_leakFromJar_0 (M : jm_T) : jm_T := let x1 : Int32 := ((jm_ja M) 0) * ((jm_se M) 1); (jm_ulk (jm_ulj (jm_uja M (upd (jm_ja M) 0 (((jm_ja M) 0) - (x1 / 200)))) (upd (jm_lj M) 0 (((jm_lj M) 0) + (x1 / 200)))) ((jm_lk M) + (x1 / 200)))
set_option maxHeartbeats 4000000 in
set_option maxRecDepth 100000 in
theorem c_X2_leakFromJar_0 (l : Launch) (D : va_G) (g : jk_G) (a : Nat → Nat) (M : jm_T)  : jk_M l D g yX2_leakFromJar wsX2_leakFromJar 0 0 [.ref (a 0), .int 0] (jm_W g a M) none (jm_W g a (sX2_leakFromJar_0 M)) := by
  refine jk_of (cc := cX2_leakFromJar) (maxL := 3) (ret := none) (by decide +kernel) rfl (Nat.le_of_ble_eq_true rfl) ?_
  intro p e s m args below meth c hx hb hr hml hts hown hlocks hK hN A H locs hP hD hA hS ls hl
  have hown : s.vm.findClass RX2 = some m.cls := hown
  have hl : lv_has ls 3 [(0, .ref (a 0)), (1, .int 0)] := hl
  have hf_18 := hts (.fieldLink RX2 18 "InfluenceJars$Machine" "jars" "[I") (by decide +kernel)
  have hi_2 : ∀ w ∈ u_ws RX2 TX2 13, w ∈ wsX2_leakFromJar := by decide +kernel
  have hf_9 := hts (.fieldLink RX2 9 "InfluenceJars$Machine" "settings" "[I") (by decide +kernel)
  have hf_24 := hts (.fieldLink RX2 24 "InfluenceJars$Machine" "leakedOfJar" "[I") (by decide +kernel)
  have hf_47 := hts (.fieldLink RX2 47 "InfluenceJars$Machine" "leaked" "I") (by decide +kernel)
  refine lv_aload_n hx hb dX2_leakFromJar_0 rfl (lv_at hl 0 rfl) ?_
  refine va_get (D := D) (ci := 2) (v := .ref (a 3)) (C := RX2) (T := TX2) (N := 13) hx hb hts hi_2 hown hK hP 0 rfl rfl 2 (by decide) hf_18 (fun _ h9 => h9) rfl dX2_leakFromJar_1 ?_
  refine lv_iload_n hx hb dX2_leakFromJar_4 rfl (lv_at hl 1 rfl) ?_
  refine va_iald (f := (jm_ja M)) hx hb hK hP 3 0 rfl rfl (jk_inC (by decide +kernel)) dX2_leakFromJar_5 ?_
  refine W.eq (g2 := F0 m 6 ls [.int ((jm_ja M) 0)]) rfl ?_
  refine lv_aload_n hx hb dX2_leakFromJar_6 rfl (lv_at hl 0 rfl) ?_
  refine va_get (D := D) (ci := 2) (v := .ref (a 1)) (C := RX2) (T := TX2) (N := 13) hx hb hts hi_2 hown hK hP 0 rfl rfl 0 (by decide) hf_9 (fun _ h9 => h9) rfl dX2_leakFromJar_7 ?_
  refine lv_iconst (v := 1) hx hb dX2_leakFromJar_10 (by decide) ?_
  refine va_iald (f := (jm_se M)) hx hb hK hP 1 0 rfl rfl (jk_inC (by decide +kernel)) dX2_leakFromJar_11 ?_
  refine W.eq (g2 := F0 m 12 ls [.int ((jm_se M) 1), .int ((jm_ja M) 0)]) rfl ?_
  refine lv_imul hx hb dX2_leakFromJar_12 ?_
  refine lv_topi (fun x1 ex1 => ?_)
  refine lv_sipush (v := 200) hx hb dX2_leakFromJar_13 (by decide) ?_
  refine lv_idiv hx hb dX2_leakFromJar_16 (by decide) ?_
  refine lv_istore_n (lv' := [(2, .int (x1 / 200)), (0, .ref (a 0)), (1, .int 0)]) hx hb dX2_leakFromJar_17 rfl hl (by decide) rfl (fun ls hl => ?_)
  refine lv_aload_n hx hb dX2_leakFromJar_18 rfl (lv_at hl 1 rfl) ?_
  refine va_get (D := D) (ci := 2) (v := .ref (a 3)) (C := RX2) (T := TX2) (N := 13) hx hb hts hi_2 hown hK hP 0 rfl rfl 2 (by decide) hf_18 (fun _ h9 => h9) rfl dX2_leakFromJar_19 ?_
  refine lv_iload_n hx hb dX2_leakFromJar_22 rfl (lv_at hl 2 rfl) ?_
  refine lv_dup2_11 hx hb dX2_leakFromJar_23 rfl rfl ?_
  refine va_iald (f := (jm_ja M)) hx hb hK hP 3 0 rfl rfl (jk_inC (by decide +kernel)) dX2_leakFromJar_24 ?_
  refine W.eq (g2 := F0 m 25 ls [.int ((jm_ja M) 0), .int 0, .ref (a 3)]) rfl ?_
  refine lv_iload_n hx hb dX2_leakFromJar_25 rfl (lv_at hl 0 rfl) ?_
  refine lv_isub hx hb dX2_leakFromJar_26 ?_
  refine va_iast (f := (jm_ja M)) hx hb hK hP hD hS 3 0 rfl rfl (jk_inC (by decide +kernel)) dX2_leakFromJar_27 (fun H locs hP hD hS => ?_)
  have hP : va_P D vwCl (jm_W g a (jm_uja M (upd (jm_ja M) 0 (((jm_ja M) 0) - (x1 / 200))))) H := hP
  have hD : va_D A (jm_W g a (jm_uja M (upd (jm_ja M) 0 (((jm_ja M) 0) - (x1 / 200))))) := hD
  refine lv_aload_n hx hb dX2_leakFromJar_28 rfl (lv_at hl 1 rfl) ?_
  refine va_get (D := D) (ci := 2) (v := .ref (a 5)) (C := RX2) (T := TX2) (N := 13) hx hb hts hi_2 hown hK hP 0 rfl rfl 4 (by decide) hf_24 (fun _ h9 => h9) rfl dX2_leakFromJar_29 ?_
  refine lv_iload_n hx hb dX2_leakFromJar_32 rfl (lv_at hl 2 rfl) ?_
  refine lv_dup2_11 hx hb dX2_leakFromJar_33 rfl rfl ?_
  refine va_iald (f := (jm_lj M)) hx hb hK hP 5 0 rfl rfl (jk_inC (by decide +kernel)) dX2_leakFromJar_34 ?_
  refine W.eq (g2 := F0 m 35 ls [.int ((jm_lj M) 0), .int 0, .ref (a 5)]) rfl ?_
  refine lv_iload_n hx hb dX2_leakFromJar_35 rfl (lv_at hl 0 rfl) ?_
  refine lv_iadd hx hb dX2_leakFromJar_36 ?_
  refine va_iast (f := (jm_lj M)) hx hb hK hP hD hS 5 0 rfl rfl (jk_inC (by decide +kernel)) dX2_leakFromJar_37 (fun H locs hP hD hS => ?_)
  have hP : va_P D vwCl (jm_W g a (jm_ulj (jm_uja M (upd (jm_ja M) 0 (((jm_ja M) 0) - (x1 / 200)))) (upd (jm_lj M) 0 (((jm_lj M) 0) + (x1 / 200))))) H := hP
  have hD : va_D A (jm_W g a (jm_ulj (jm_uja M (upd (jm_ja M) 0 (((jm_ja M) 0) - (x1 / 200)))) (upd (jm_lj M) 0 (((jm_lj M) 0) + (x1 / 200))))) := hD
  refine lv_aload_n hx hb dX2_leakFromJar_38 rfl (lv_at hl 1 rfl) ?_
  refine lv_dup hx hb dX2_leakFromJar_39 rfl ?_
  refine va_get (D := D) (ci := 2) (v := .int (jm_lk M)) (C := RX2) (T := TX2) (N := 13) hx hb hts hi_2 hown hK hP 0 rfl rfl 10 (by decide) hf_47 (fun _ h9 => h9) rfl dX2_leakFromJar_40 ?_
  refine lv_iload_n hx hb dX2_leakFromJar_43 rfl (lv_at hl 0 rfl) ?_
  refine lv_iadd hx hb dX2_leakFromJar_44 ?_
  refine va_put (D := D) (ci := 2) (v := .int ((jm_lk M) + (x1 / 200))) (ty := .int) (C := RX2) (T := TX2) (N := 13) hx hb hts hi_2 tyX2 tyX2_ok nmX2 hown hK hP hD hS 0 rfl rfl 10 (by decide) hf_47 (fun _ h9 => h9) rfl (by decide +kernel) rfl rfl (Nat.le_of_ble_eq_true rfl) dX2_leakFromJar_45 (fun H locs hP hD hS => ?_)
  have hP : va_P D vwCl (jm_W g a (jm_ulk (jm_ulj (jm_uja M (upd (jm_ja M) 0 (((jm_ja M) 0) - (x1 / 200)))) (upd (jm_lj M) 0 (((jm_lj M) 0) + (x1 / 200)))) ((jm_lk M) + (x1 / 200)))) H := hP
  have hD : va_D A (jm_W g a (jm_ulk (jm_ulj (jm_uja M (upd (jm_ja M) 0 (((jm_ja M) 0) - (x1 / 200)))) (upd (jm_lj M) 0 (((jm_lj M) 0) + (x1 / 200)))) ((jm_lk M) + (x1 / 200)))) := hD
  subst ex1
  exact jk_vret hx hb hr hlocks hP hS (congrArg (fun z => (jm_W g a z)) ((rfl).symm)) dX2_leakFromJar_48

def sX2_leakFromJar_1 (M : jm_T) : jm_T := let x1 : Int32 := ((jm_ja M) 1) * ((jm_se M) 1); (jm_ulk (jm_ulj (jm_uja M (upd (jm_ja M) 1 (((jm_ja M) 1) - (x1 / 200)))) (upd (jm_lj M) 1 (((jm_lj M) 1) + (x1 / 200)))) ((jm_lk M) + (x1 / 200)))
set_option maxHeartbeats 4000000 in
set_option maxRecDepth 100000 in
theorem c_X2_leakFromJar_1 (l : Launch) (D : va_G) (g : jk_G) (a : Nat → Nat) (M : jm_T)  : jk_M l D g yX2_leakFromJar wsX2_leakFromJar 0 0 [.ref (a 0), .int 1] (jm_W g a M) none (jm_W g a (sX2_leakFromJar_1 M)) := by
  refine jk_of (cc := cX2_leakFromJar) (maxL := 3) (ret := none) (by decide +kernel) rfl (Nat.le_of_ble_eq_true rfl) ?_
  intro p e s m args below meth c hx hb hr hml hts hown hlocks hK hN A H locs hP hD hA hS ls hl
  have hown : s.vm.findClass RX2 = some m.cls := hown
  have hl : lv_has ls 3 [(0, .ref (a 0)), (1, .int 1)] := hl
  have hf_18 := hts (.fieldLink RX2 18 "InfluenceJars$Machine" "jars" "[I") (by decide +kernel)
  have hi_2 : ∀ w ∈ u_ws RX2 TX2 13, w ∈ wsX2_leakFromJar := by decide +kernel
  have hf_9 := hts (.fieldLink RX2 9 "InfluenceJars$Machine" "settings" "[I") (by decide +kernel)
  have hf_24 := hts (.fieldLink RX2 24 "InfluenceJars$Machine" "leakedOfJar" "[I") (by decide +kernel)
  have hf_47 := hts (.fieldLink RX2 47 "InfluenceJars$Machine" "leaked" "I") (by decide +kernel)
  refine lv_aload_n hx hb dX2_leakFromJar_0 rfl (lv_at hl 0 rfl) ?_
  refine va_get (D := D) (ci := 2) (v := .ref (a 3)) (C := RX2) (T := TX2) (N := 13) hx hb hts hi_2 hown hK hP 0 rfl rfl 2 (by decide) hf_18 (fun _ h9 => h9) rfl dX2_leakFromJar_1 ?_
  refine lv_iload_n hx hb dX2_leakFromJar_4 rfl (lv_at hl 1 rfl) ?_
  refine va_iald (f := (jm_ja M)) hx hb hK hP 3 0 rfl rfl (jk_inC (by decide +kernel)) dX2_leakFromJar_5 ?_
  refine W.eq (g2 := F0 m 6 ls [.int ((jm_ja M) 1)]) rfl ?_
  refine lv_aload_n hx hb dX2_leakFromJar_6 rfl (lv_at hl 0 rfl) ?_
  refine va_get (D := D) (ci := 2) (v := .ref (a 1)) (C := RX2) (T := TX2) (N := 13) hx hb hts hi_2 hown hK hP 0 rfl rfl 0 (by decide) hf_9 (fun _ h9 => h9) rfl dX2_leakFromJar_7 ?_
  refine lv_iconst (v := 1) hx hb dX2_leakFromJar_10 (by decide) ?_
  refine va_iald (f := (jm_se M)) hx hb hK hP 1 0 rfl rfl (jk_inC (by decide +kernel)) dX2_leakFromJar_11 ?_
  refine W.eq (g2 := F0 m 12 ls [.int ((jm_se M) 1), .int ((jm_ja M) 1)]) rfl ?_
  refine lv_imul hx hb dX2_leakFromJar_12 ?_
  refine lv_topi (fun x1 ex1 => ?_)
  refine lv_sipush (v := 200) hx hb dX2_leakFromJar_13 (by decide) ?_
  refine lv_idiv hx hb dX2_leakFromJar_16 (by decide) ?_
  refine lv_istore_n (lv' := [(2, .int (x1 / 200)), (0, .ref (a 0)), (1, .int 1)]) hx hb dX2_leakFromJar_17 rfl hl (by decide) rfl (fun ls hl => ?_)
  refine lv_aload_n hx hb dX2_leakFromJar_18 rfl (lv_at hl 1 rfl) ?_
  refine va_get (D := D) (ci := 2) (v := .ref (a 3)) (C := RX2) (T := TX2) (N := 13) hx hb hts hi_2 hown hK hP 0 rfl rfl 2 (by decide) hf_18 (fun _ h9 => h9) rfl dX2_leakFromJar_19 ?_
  refine lv_iload_n hx hb dX2_leakFromJar_22 rfl (lv_at hl 2 rfl) ?_
  refine lv_dup2_11 hx hb dX2_leakFromJar_23 rfl rfl ?_
  refine va_iald (f := (jm_ja M)) hx hb hK hP 3 0 rfl rfl (jk_inC (by decide +kernel)) dX2_leakFromJar_24 ?_
  refine W.eq (g2 := F0 m 25 ls [.int ((jm_ja M) 1), .int 1, .ref (a 3)]) rfl ?_
  refine lv_iload_n hx hb dX2_leakFromJar_25 rfl (lv_at hl 0 rfl) ?_
  refine lv_isub hx hb dX2_leakFromJar_26 ?_
  refine va_iast (f := (jm_ja M)) hx hb hK hP hD hS 3 0 rfl rfl (jk_inC (by decide +kernel)) dX2_leakFromJar_27 (fun H locs hP hD hS => ?_)
  have hP : va_P D vwCl (jm_W g a (jm_uja M (upd (jm_ja M) 1 (((jm_ja M) 1) - (x1 / 200))))) H := hP
  have hD : va_D A (jm_W g a (jm_uja M (upd (jm_ja M) 1 (((jm_ja M) 1) - (x1 / 200))))) := hD
  refine lv_aload_n hx hb dX2_leakFromJar_28 rfl (lv_at hl 1 rfl) ?_
  refine va_get (D := D) (ci := 2) (v := .ref (a 5)) (C := RX2) (T := TX2) (N := 13) hx hb hts hi_2 hown hK hP 0 rfl rfl 4 (by decide) hf_24 (fun _ h9 => h9) rfl dX2_leakFromJar_29 ?_
  refine lv_iload_n hx hb dX2_leakFromJar_32 rfl (lv_at hl 2 rfl) ?_
  refine lv_dup2_11 hx hb dX2_leakFromJar_33 rfl rfl ?_
  refine va_iald (f := (jm_lj M)) hx hb hK hP 5 0 rfl rfl (jk_inC (by decide +kernel)) dX2_leakFromJar_34 ?_
  refine W.eq (g2 := F0 m 35 ls [.int ((jm_lj M) 1), .int 1, .ref (a 5)]) rfl ?_
  refine lv_iload_n hx hb dX2_leakFromJar_35 rfl (lv_at hl 0 rfl) ?_
  refine lv_iadd hx hb dX2_leakFromJar_36 ?_
  refine va_iast (f := (jm_lj M)) hx hb hK hP hD hS 5 0 rfl rfl (jk_inC (by decide +kernel)) dX2_leakFromJar_37 (fun H locs hP hD hS => ?_)
  have hP : va_P D vwCl (jm_W g a (jm_ulj (jm_uja M (upd (jm_ja M) 1 (((jm_ja M) 1) - (x1 / 200)))) (upd (jm_lj M) 1 (((jm_lj M) 1) + (x1 / 200))))) H := hP
  have hD : va_D A (jm_W g a (jm_ulj (jm_uja M (upd (jm_ja M) 1 (((jm_ja M) 1) - (x1 / 200)))) (upd (jm_lj M) 1 (((jm_lj M) 1) + (x1 / 200))))) := hD
  refine lv_aload_n hx hb dX2_leakFromJar_38 rfl (lv_at hl 1 rfl) ?_
  refine lv_dup hx hb dX2_leakFromJar_39 rfl ?_
  refine va_get (D := D) (ci := 2) (v := .int (jm_lk M)) (C := RX2) (T := TX2) (N := 13) hx hb hts hi_2 hown hK hP 0 rfl rfl 10 (by decide) hf_47 (fun _ h9 => h9) rfl dX2_leakFromJar_40 ?_
  refine lv_iload_n hx hb dX2_leakFromJar_43 rfl (lv_at hl 0 rfl) ?_
  refine lv_iadd hx hb dX2_leakFromJar_44 ?_
  refine va_put (D := D) (ci := 2) (v := .int ((jm_lk M) + (x1 / 200))) (ty := .int) (C := RX2) (T := TX2) (N := 13) hx hb hts hi_2 tyX2 tyX2_ok nmX2 hown hK hP hD hS 0 rfl rfl 10 (by decide) hf_47 (fun _ h9 => h9) rfl (by decide +kernel) rfl rfl (Nat.le_of_ble_eq_true rfl) dX2_leakFromJar_45 (fun H locs hP hD hS => ?_)
  have hP : va_P D vwCl (jm_W g a (jm_ulk (jm_ulj (jm_uja M (upd (jm_ja M) 1 (((jm_ja M) 1) - (x1 / 200)))) (upd (jm_lj M) 1 (((jm_lj M) 1) + (x1 / 200)))) ((jm_lk M) + (x1 / 200)))) H := hP
  have hD : va_D A (jm_W g a (jm_ulk (jm_ulj (jm_uja M (upd (jm_ja M) 1 (((jm_ja M) 1) - (x1 / 200)))) (upd (jm_lj M) 1 (((jm_lj M) 1) + (x1 / 200)))) ((jm_lk M) + (x1 / 200)))) := hD
  subst ex1
  exact jk_vret hx hb hr hlocks hP hS (congrArg (fun z => (jm_W g a z)) ((rfl).symm)) dX2_leakFromJar_48

def rX2_isSparkDue (M : jm_T) : Int32 := let x1 : Int32 := rX2_difference M; if x1 < (10 * ((jm_se M) 2)) then (0) else (1)
set_option maxHeartbeats 4000000 in
set_option maxRecDepth 100000 in
theorem c_X2_isSparkDue (l : Launch) (D : va_G) (g : jk_G) (a : Nat → Nat) (M : jm_T)  : jk_M l D g yX2_isSparkDue wsX2_isSparkDue 2 33 [.ref (a 0)] (jm_W g a M) (some (.int (rX2_isSparkDue M))) (jm_W g a M) := by
  refine jk_of (cc := cX2_isSparkDue) (maxL := 1) (ret := (some .boolean)) (by decide +kernel) rfl (Nat.le_of_ble_eq_true rfl) ?_
  intro p e s m args below meth c hx hb hr hml hts hown hlocks hK hN A H locs hP hD hA hS ls hl
  have hown : s.vm.findClass RX2 = some m.cls := hown
  have hl : lv_has ls 1 [(0, .ref (a 0))] := hl
  have hf_9 := hts (.fieldLink RX2 9 "InfluenceJars$Machine" "settings" "[I") (by decide +kernel)
  have hi_2 : ∀ w ∈ u_ws RX2 TX2 13, w ∈ wsX2_isSparkDue := by decide +kernel
  refine lv_aload_n hx hb dX2_isSparkDue_0 rfl (lv_at hl 0 rfl) ?_
  refine jk_callV (As := []) (rest := []) (ws1 := (jm_W g a M)) ⟨hx, hb, hml, hown, hts⟩ (c_X2_difference l D g a M) (cwV 0 hts gX2_isSparkDue_X2_difference rfl rfl rfl (by decide +kernel) ⟨Nat.le_of_ble_eq_true rfl, Nat.le_of_ble_eq_true rfl⟩) (va_recv hK hP (ci := 2) (q0 := 0) rfl rfl) hP hD hK hN rfl hl rfl (Nat.le_of_ble_eq_true rfl) dX2_isSparkDue_1 ⟨Nat.zero_le _, Nat.zero_le _⟩ hS hA (fun _ h _ => h) (fun H locs hP hS => ?_)
  refine W.eq (g2 := F0 m 4 ls [.int (rX2_difference M)]) rfl ?_
  refine lv_topi (fun x1 ex1 => ?_)
  refine lv_bipush (v := 10) hx hb dX2_isSparkDue_4 (by decide) ?_
  refine lv_aload_n hx hb dX2_isSparkDue_6 rfl (lv_at hl 0 rfl) ?_
  refine va_get (D := D) (ci := 2) (v := .ref (a 1)) (C := RX2) (T := TX2) (N := 13) hx hb hts hi_2 hown hK hP 0 rfl rfl 0 (by decide) hf_9 (fun _ h9 => h9) rfl dX2_isSparkDue_7 ?_
  refine lv_iconst (v := 2) hx hb dX2_isSparkDue_10 (by decide) ?_
  refine va_iald (f := (jm_se M)) hx hb hK hP 1 0 rfl rfl (jk_inC (by decide +kernel)) dX2_isSparkDue_11 ?_
  refine W.eq (g2 := F0 m 12 ls [.int ((jm_se M) 2), .int 10, .int x1]) rfl ?_
  refine lv_imul hx hb dX2_isSparkDue_12 ?_
  refine lv_icmp_lt (tgt := 20) hx hb dX2_isSparkDue_13 (by decide) (fun c2 => ?_) (fun c2 => ?_)
  · refine lv_iconst (v := 0) hx hb dX2_isSparkDue_20 (by decide) ?_
    subst ex1
    exact jk_zret hx hb hr rfl hlocks hP hS ((if_pos c2).trans (rfl)).symm rfl dX2_isSparkDue_21
  · refine lv_iconst (v := 1) hx hb dX2_isSparkDue_16 (by decide) ?_
    refine lv_goto (tgt := 21) hx hb dX2_isSparkDue_17 (by decide) ?_
    subst ex1
    exact jk_zret hx hb hr rfl hlocks hP hS ((if_neg c2).trans (rfl)).symm rfl dX2_isSparkDue_21

def sX2_letJump (M : jm_T) : jm_T := let x1 : Int32 := rX2_logIndexOf (jm_sp M); let f2 : (Nat → Int32) := upd (jm_lo M) x1.toNatClampNeg (jm_tu M); let f3 : (Nat → Int32) := upd f2 (x1 + 1).toNatClampNeg ((jm_ja M) 0); let f4 : (Nat → Int32) := upd f3 (x1 + 2).toNatClampNeg ((jm_ja M) 1); let x5 : Int32 := ((jm_ja M) 0) + ((jm_ja M) 1); let x6 : Int32 := (((jm_ja M) 0) - (x5 / 2)) * ((jm_se M) 3); let x7 : Int32 := x5 - ((x5 / 2) - (x6 / 100)); (jm_usp (jm_ulo (jm_uja M (upd (upd (jm_ja M) 0 ((x5 / 2) - (x6 / 100))) 1 x7)) f4) ((jm_sp M) + 1))
set_option maxHeartbeats 4000000 in
set_option maxRecDepth 100000 in
theorem c_X2_letJump (l : Launch) (D : va_G) (g : jk_G) (a : Nat → Nat) (M : jm_T)  : jk_M l D g yX2_letJump wsX2_letJump 2 42 [.ref (a 0)] (jm_W g a M) none (jm_W g a (sX2_letJump M)) := by
  refine jk_of (cc := cX2_letJump) (maxL := 4) (ret := none) (by decide +kernel) rfl (Nat.le_of_ble_eq_true rfl) ?_
  intro p e s m args below meth c hx hb hr hml hts hown hlocks hK hN A H locs hP hD hA hS ls hl
  have hown : s.vm.findClass RX2 = some m.cls := hown
  have hl : lv_has ls 4 [(0, .ref (a 0))] := hl
  have hf_38 := hts (.fieldLink RX2 38 "InfluenceJars$Machine" "sparks" "I") (by decide +kernel)
  have hi_2 : ∀ w ∈ u_ws RX2 TX2 13, w ∈ wsX2_letJump := by decide +kernel
  have hf_27 := hts (.fieldLink RX2 27 "InfluenceJars$Machine" "sparkLog" "[I") (by decide +kernel)
  have hf_34 := hts (.fieldLink RX2 34 "InfluenceJars$Machine" "turns" "I") (by decide +kernel)
  have hf_18 := hts (.fieldLink RX2 18 "InfluenceJars$Machine" "jars" "[I") (by decide +kernel)
  have hf_9 := hts (.fieldLink RX2 9 "InfluenceJars$Machine" "settings" "[I") (by decide +kernel)
  refine lv_aload_n hx hb dX2_letJump_0 rfl (lv_at hl 0 rfl) ?_
  refine va_get (D := D) (ci := 2) (v := .int (jm_sp M)) (C := RX2) (T := TX2) (N := 13) hx hb hts hi_2 hown hK hP 0 rfl rfl 7 (by decide) hf_38 (fun _ h9 => h9) rfl dX2_letJump_1 ?_
  refine jk_callS (As := [.int (jm_sp M)]) (rest := []) (ws1 := (jm_W g a M)) ⟨hx, hb, hml, hown, hts⟩ (c_X2_logIndexOf l D g (jm_sp M)) (va_cwS 1 hts gX2_letJump_X2_logIndexOf rfl rfl rfl (by decide +kernel) ⟨Nat.le_of_ble_eq_true rfl, Nat.le_of_ble_eq_true rfl⟩) jk_nilP (jk_nilD (A := A)) hK hN rfl hl rfl (Nat.le_of_ble_eq_true rfl) dX2_letJump_4 ⟨Nat.zero_le _, Nat.zero_le _⟩ hS hA (fun _ _ hk => jk_keep hP hk) (fun H locs hP hS => ?_)
  refine W.eq (g2 := F0 m 7 ls [.int (rX2_logIndexOf (jm_sp M))]) rfl ?_
  refine lv_topi (fun x1 ex1 => ?_)
  refine lv_istore_n (lv' := [(1, .int x1), (0, .ref (a 0))]) hx hb dX2_letJump_7 rfl hl (by decide) rfl (fun ls hl => ?_)
  refine lv_aload_n hx hb dX2_letJump_8 rfl (lv_at hl 1 rfl) ?_
  refine va_get (D := D) (ci := 2) (v := .ref (a 6)) (C := RX2) (T := TX2) (N := 13) hx hb hts hi_2 hown hK hP 0 rfl rfl 5 (by decide) hf_27 (fun _ h9 => h9) rfl dX2_letJump_9 ?_
  refine lv_iload_n hx hb dX2_letJump_12 rfl (lv_at hl 0 rfl) ?_
  refine lv_aload_n hx hb dX2_letJump_13 rfl (lv_at hl 1 rfl) ?_
  refine va_get (D := D) (ci := 2) (v := .int (jm_tu M)) (C := RX2) (T := TX2) (N := 13) hx hb hts hi_2 hown hK hP 0 rfl rfl 6 (by decide) hf_34 (fun _ h9 => h9) rfl dX2_letJump_14 ?_
  refine va_iast (f := (jm_lo M)) hx hb hK hP hD hS 6 0 rfl rfl (by subst_vars; exact jk_lg_in _) dX2_letJump_17 (fun H locs hP hD hS => ?_)
  obtain ⟨f2, ef2⟩ : ∃ z : Nat → Int32, z = (upd (jm_lo M) x1.toNatClampNeg (jm_tu M)) := ⟨_, rfl⟩
  rw [← ef2] at hP hD
  have hP : va_P D vwCl (jm_W g a (jm_ulo M f2)) H := hP
  have hD : va_D A (jm_W g a (jm_ulo M f2)) := hD
  refine lv_aload_n hx hb dX2_letJump_18 rfl (lv_at hl 1 rfl) ?_
  refine va_get (D := D) (ci := 2) (v := .ref (a 6)) (C := RX2) (T := TX2) (N := 13) hx hb hts hi_2 hown hK hP 0 rfl rfl 5 (by decide) hf_27 (fun _ h9 => h9) rfl dX2_letJump_19 ?_
  refine lv_iload_n hx hb dX2_letJump_22 rfl (lv_at hl 0 rfl) ?_
  refine lv_iconst (v := 1) hx hb dX2_letJump_23 (by decide) ?_
  refine lv_iadd hx hb dX2_letJump_24 ?_
  refine lv_aload_n hx hb dX2_letJump_25 rfl (lv_at hl 1 rfl) ?_
  refine va_get (D := D) (ci := 2) (v := .ref (a 3)) (C := RX2) (T := TX2) (N := 13) hx hb hts hi_2 hown hK hP 0 rfl rfl 2 (by decide) hf_18 (fun _ h9 => h9) rfl dX2_letJump_26 ?_
  refine lv_iconst (v := 0) hx hb dX2_letJump_29 (by decide) ?_
  refine va_iald (f := (jm_ja M)) hx hb hK hP 3 0 rfl rfl (jk_inC (by decide +kernel)) dX2_letJump_30 ?_
  refine W.eq (g2 := F0 m 31 ls [.int ((jm_ja M) 0), .int (x1 + 1), .ref (a 6)]) rfl ?_
  refine va_iast (f := f2) hx hb hK hP hD hS 6 0 rfl rfl (by subst_vars; exact jk_lg_in1 _) dX2_letJump_31 (fun H locs hP hD hS => ?_)
  obtain ⟨f3, ef3⟩ : ∃ z : Nat → Int32, z = (upd f2 (x1 + 1).toNatClampNeg ((jm_ja M) 0)) := ⟨_, rfl⟩
  rw [← ef3] at hP hD
  have hP : va_P D vwCl (jm_W g a (jm_ulo M f3)) H := hP
  have hD : va_D A (jm_W g a (jm_ulo M f3)) := hD
  refine lv_aload_n hx hb dX2_letJump_32 rfl (lv_at hl 1 rfl) ?_
  refine va_get (D := D) (ci := 2) (v := .ref (a 6)) (C := RX2) (T := TX2) (N := 13) hx hb hts hi_2 hown hK hP 0 rfl rfl 5 (by decide) hf_27 (fun _ h9 => h9) rfl dX2_letJump_33 ?_
  refine lv_iload_n hx hb dX2_letJump_36 rfl (lv_at hl 0 rfl) ?_
  refine lv_iconst (v := 2) hx hb dX2_letJump_37 (by decide) ?_
  refine lv_iadd hx hb dX2_letJump_38 ?_
  refine lv_aload_n hx hb dX2_letJump_39 rfl (lv_at hl 1 rfl) ?_
  refine va_get (D := D) (ci := 2) (v := .ref (a 3)) (C := RX2) (T := TX2) (N := 13) hx hb hts hi_2 hown hK hP 0 rfl rfl 2 (by decide) hf_18 (fun _ h9 => h9) rfl dX2_letJump_40 ?_
  refine lv_iconst (v := 1) hx hb dX2_letJump_43 (by decide) ?_
  refine va_iald (f := (jm_ja M)) hx hb hK hP 3 0 rfl rfl (jk_inC (by decide +kernel)) dX2_letJump_44 ?_
  refine W.eq (g2 := F0 m 45 ls [.int ((jm_ja M) 1), .int (x1 + 2), .ref (a 6)]) rfl ?_
  refine va_iast (f := f3) hx hb hK hP hD hS 6 0 rfl rfl (by subst_vars; exact jk_lg_in2 _) dX2_letJump_45 (fun H locs hP hD hS => ?_)
  obtain ⟨f4, ef4⟩ : ∃ z : Nat → Int32, z = (upd f3 (x1 + 2).toNatClampNeg ((jm_ja M) 1)) := ⟨_, rfl⟩
  rw [← ef4] at hP hD
  have hP : va_P D vwCl (jm_W g a (jm_ulo M f4)) H := hP
  have hD : va_D A (jm_W g a (jm_ulo M f4)) := hD
  refine lv_aload_n hx hb dX2_letJump_46 rfl (lv_at hl 1 rfl) ?_
  refine lv_dup hx hb dX2_letJump_47 rfl ?_
  refine va_get (D := D) (ci := 2) (v := .int (jm_sp M)) (C := RX2) (T := TX2) (N := 13) hx hb hts hi_2 hown hK hP 0 rfl rfl 7 (by decide) hf_38 (fun _ h9 => h9) rfl dX2_letJump_48 ?_
  refine lv_iconst (v := 1) hx hb dX2_letJump_51 (by decide) ?_
  refine lv_iadd hx hb dX2_letJump_52 ?_
  refine va_put (D := D) (ci := 2) (v := .int ((jm_sp M) + 1)) (ty := .int) (C := RX2) (T := TX2) (N := 13) hx hb hts hi_2 tyX2 tyX2_ok nmX2 hown hK hP hD hS 0 rfl rfl 7 (by decide) hf_38 (fun _ h9 => h9) rfl (by decide +kernel) rfl rfl (Nat.le_of_ble_eq_true rfl) dX2_letJump_53 (fun H locs hP hD hS => ?_)
  have hP : va_P D vwCl (jm_W g a (jm_usp (jm_ulo M f4) ((jm_sp M) + 1))) H := hP
  have hD : va_D A (jm_W g a (jm_usp (jm_ulo M f4) ((jm_sp M) + 1))) := hD
  refine lv_aload_n hx hb dX2_letJump_56 rfl (lv_at hl 1 rfl) ?_
  refine va_get (D := D) (ci := 2) (v := .ref (a 3)) (C := RX2) (T := TX2) (N := 13) hx hb hts hi_2 hown hK hP 0 rfl rfl 2 (by decide) hf_18 (fun _ h9 => h9) rfl dX2_letJump_57 ?_
  refine lv_iconst (v := 0) hx hb dX2_letJump_60 (by decide) ?_
  refine va_iald (f := (jm_ja M)) hx hb hK hP 3 0 rfl rfl (jk_inC (by decide +kernel)) dX2_letJump_61 ?_
  refine W.eq (g2 := F0 m 62 ls [.int ((jm_ja M) 0)]) rfl ?_
  refine lv_aload_n hx hb dX2_letJump_62 rfl (lv_at hl 1 rfl) ?_
  refine va_get (D := D) (ci := 2) (v := .ref (a 3)) (C := RX2) (T := TX2) (N := 13) hx hb hts hi_2 hown hK hP 0 rfl rfl 2 (by decide) hf_18 (fun _ h9 => h9) rfl dX2_letJump_63 ?_
  refine lv_iconst (v := 1) hx hb dX2_letJump_66 (by decide) ?_
  refine va_iald (f := (jm_ja M)) hx hb hK hP 3 0 rfl rfl (jk_inC (by decide +kernel)) dX2_letJump_67 ?_
  refine W.eq (g2 := F0 m 68 ls [.int ((jm_ja M) 1), .int ((jm_ja M) 0)]) rfl ?_
  refine lv_iadd hx hb dX2_letJump_68 ?_
  refine lv_topi (fun x5 ex5 => ?_)
  refine lv_istore_n (lv' := [(2, .int x5), (1, .int x1), (0, .ref (a 0))]) hx hb dX2_letJump_69 rfl hl (by decide) rfl (fun ls hl => ?_)
  refine lv_iload_n hx hb dX2_letJump_70 rfl (lv_at hl 0 rfl) ?_
  refine lv_iconst (v := 2) hx hb dX2_letJump_71 (by decide) ?_
  refine lv_idiv hx hb dX2_letJump_72 (by decide) ?_
  refine lv_istore_n (lv' := [(3, .int (x5 / 2)), (2, .int x5), (1, .int x1), (0, .ref (a 0))]) hx hb dX2_letJump_73 rfl hl (by decide) rfl (fun ls hl => ?_)
  refine lv_aload_n hx hb dX2_letJump_74 rfl (lv_at hl 3 rfl) ?_
  refine va_get (D := D) (ci := 2) (v := .ref (a 3)) (C := RX2) (T := TX2) (N := 13) hx hb hts hi_2 hown hK hP 0 rfl rfl 2 (by decide) hf_18 (fun _ h9 => h9) rfl dX2_letJump_75 ?_
  refine lv_iconst (v := 0) hx hb dX2_letJump_78 (by decide) ?_
  refine lv_iload_n hx hb dX2_letJump_79 rfl (lv_at hl 0 rfl) ?_
  refine lv_aload_n hx hb dX2_letJump_80 rfl (lv_at hl 3 rfl) ?_
  refine va_get (D := D) (ci := 2) (v := .ref (a 3)) (C := RX2) (T := TX2) (N := 13) hx hb hts hi_2 hown hK hP 0 rfl rfl 2 (by decide) hf_18 (fun _ h9 => h9) rfl dX2_letJump_81 ?_
  refine lv_iconst (v := 0) hx hb dX2_letJump_84 (by decide) ?_
  refine va_iald (f := (jm_ja M)) hx hb hK hP 3 0 rfl rfl (jk_inC (by decide +kernel)) dX2_letJump_85 ?_
  refine W.eq (g2 := F0 m 86 ls [.int ((jm_ja M) 0), .int (x5 / 2), .int 0, .ref (a 3)]) rfl ?_
  refine lv_iload_n hx hb dX2_letJump_86 rfl (lv_at hl 0 rfl) ?_
  refine lv_isub hx hb dX2_letJump_87 ?_
  refine lv_aload_n hx hb dX2_letJump_88 rfl (lv_at hl 3 rfl) ?_
  refine va_get (D := D) (ci := 2) (v := .ref (a 1)) (C := RX2) (T := TX2) (N := 13) hx hb hts hi_2 hown hK hP 0 rfl rfl 0 (by decide) hf_9 (fun _ h9 => h9) rfl dX2_letJump_89 ?_
  refine lv_iconst (v := 3) hx hb dX2_letJump_92 (by decide) ?_
  refine va_iald (f := (jm_se M)) hx hb hK hP 1 0 rfl rfl (jk_inC (by decide +kernel)) dX2_letJump_93 ?_
  refine W.eq (g2 := F0 m 94 ls [.int ((jm_se M) 3), .int (((jm_ja M) 0) - (x5 / 2)), .int (x5 / 2), .int 0, .ref (a 3)]) rfl ?_
  refine lv_imul hx hb dX2_letJump_94 ?_
  refine lv_topi (fun x6 ex6 => ?_)
  refine lv_bipush (v := 100) hx hb dX2_letJump_95 (by decide) ?_
  refine lv_idiv hx hb dX2_letJump_97 (by decide) ?_
  refine lv_isub hx hb dX2_letJump_98 ?_
  refine va_iast (f := (jm_ja M)) hx hb hK hP hD hS 3 0 rfl rfl (jk_inC (by decide +kernel)) dX2_letJump_99 (fun H locs hP hD hS => ?_)
  have hP : va_P D vwCl (jm_W g a (jm_usp (jm_ulo (jm_uja M (upd (jm_ja M) 0 ((x5 / 2) - (x6 / 100)))) f4) ((jm_sp M) + 1))) H := hP
  have hD : va_D A (jm_W g a (jm_usp (jm_ulo (jm_uja M (upd (jm_ja M) 0 ((x5 / 2) - (x6 / 100)))) f4) ((jm_sp M) + 1))) := hD
  refine lv_aload_n hx hb dX2_letJump_100 rfl (lv_at hl 3 rfl) ?_
  refine va_get (D := D) (ci := 2) (v := .ref (a 3)) (C := RX2) (T := TX2) (N := 13) hx hb hts hi_2 hown hK hP 0 rfl rfl 2 (by decide) hf_18 (fun _ h9 => h9) rfl dX2_letJump_101 ?_
  refine lv_iconst (v := 1) hx hb dX2_letJump_104 (by decide) ?_
  refine lv_iload_n hx hb dX2_letJump_105 rfl (lv_at hl 1 rfl) ?_
  refine lv_aload_n hx hb dX2_letJump_106 rfl (lv_at hl 3 rfl) ?_
  refine va_get (D := D) (ci := 2) (v := .ref (a 3)) (C := RX2) (T := TX2) (N := 13) hx hb hts hi_2 hown hK hP 0 rfl rfl 2 (by decide) hf_18 (fun _ h9 => h9) rfl dX2_letJump_107 ?_
  refine lv_iconst (v := 0) hx hb dX2_letJump_110 (by decide) ?_
  refine va_iald (f := (upd (jm_ja M) 0 ((x5 / 2) - (x6 / 100)))) hx hb hK hP 3 0 rfl rfl (jk_inC (by decide +kernel)) dX2_letJump_111 ?_
  refine W.eq (g2 := F0 m 112 ls [.int ((x5 / 2) - (x6 / 100)), .int x5, .int 1, .ref (a 3)]) rfl ?_
  refine lv_isub hx hb dX2_letJump_112 ?_
  refine lv_topi (fun x7 ex7 => ?_)
  refine va_iast (f := (upd (jm_ja M) 0 ((x5 / 2) - (x6 / 100)))) hx hb hK hP hD hS 3 0 rfl rfl (jk_inC (by decide +kernel)) dX2_letJump_113 (fun H locs hP hD hS => ?_)
  have hP : va_P D vwCl (jm_W g a (jm_usp (jm_ulo (jm_uja M (upd (upd (jm_ja M) 0 ((x5 / 2) - (x6 / 100))) 1 x7)) f4) ((jm_sp M) + 1))) H := hP
  have hD : va_D A (jm_W g a (jm_usp (jm_ulo (jm_uja M (upd (upd (jm_ja M) 0 ((x5 / 2) - (x6 / 100))) 1 x7)) f4) ((jm_sp M) + 1))) := hD
  subst ex7
  subst ex6
  subst ex5
  subst ef4
  subst ef3
  subst ef2
  subst ex1
  exact jk_vret hx hb hr hlocks hP hS (congrArg (fun z => (jm_W g a z)) ((rfl).symm)) dX2_letJump_114

def sX2_noteSign (M : jm_T) : jm_T := let x1 : Int32 := rX2_sign M; if x1 = 0 then (M) else (if x1 = (-(jm_ls M)) then ((jm_uls (jm_urv M ((jm_rv M) + 1)) x1)) else ((jm_uls M x1)))
set_option maxHeartbeats 4000000 in
set_option maxRecDepth 100000 in
theorem c_X2_noteSign (l : Launch) (D : va_G) (g : jk_G) (a : Nat → Nat) (M : jm_T)  : jk_M l D g yX2_noteSign wsX2_noteSign 2 40 [.ref (a 0)] (jm_W g a M) none (jm_W g a (sX2_noteSign M)) := by
  refine jk_of (cc := cX2_noteSign) (maxL := 2) (ret := none) (by decide +kernel) rfl (Nat.le_of_ble_eq_true rfl) ?_
  intro p e s m args below meth c hx hb hr hml hts hown hlocks hK hN A H locs hP hD hA hS ls hl
  have hown : s.vm.findClass RX2 = some m.cls := hown
  have hl : lv_has ls 2 [(0, .ref (a 0))] := hl
  have hf_44 := hts (.fieldLink RX2 44 "InfluenceJars$Machine" "latestSign" "I") (by decide +kernel)
  have hi_2 : ∀ w ∈ u_ws RX2 TX2 13, w ∈ wsX2_noteSign := by decide +kernel
  have hf_41 := hts (.fieldLink RX2 41 "InfluenceJars$Machine" "reversals" "I") (by decide +kernel)
  refine lv_aload_n hx hb dX2_noteSign_0 rfl (lv_at hl 0 rfl) ?_
  refine jk_callV (As := []) (rest := []) (ws1 := (jm_W g a M)) ⟨hx, hb, hml, hown, hts⟩ (c_X2_sign l D g a M) (cwV 0 hts gX2_noteSign_X2_sign rfl rfl rfl (by decide +kernel) ⟨Nat.le_of_ble_eq_true rfl, Nat.le_of_ble_eq_true rfl⟩) (va_recv hK hP (ci := 2) (q0 := 0) rfl rfl) hP hD hK hN rfl hl rfl (Nat.le_of_ble_eq_true rfl) dX2_noteSign_1 ⟨Nat.zero_le _, Nat.zero_le _⟩ hS hA (fun _ h _ => h) (fun H locs hP hS => ?_)
  refine W.eq (g2 := F0 m 4 ls [.int (rX2_sign M)]) rfl ?_
  refine lv_topi (fun x1 ex1 => ?_)
  refine lv_istore_n (lv' := [(1, .int x1), (0, .ref (a 0))]) hx hb dX2_noteSign_4 rfl hl (by decide) rfl (fun ls hl => ?_)
  refine lv_iload_n hx hb dX2_noteSign_5 rfl (lv_at hl 0 rfl) ?_
  refine lv_if_ne (tgt := 10) hx hb dX2_noteSign_6 (by decide) (fun c2 => ?_) (fun c2 => ?_)
  · refine lv_iload_n hx hb dX2_noteSign_10 rfl (lv_at hl 0 rfl) ?_
    refine lv_aload_n hx hb dX2_noteSign_11 rfl (lv_at hl 1 rfl) ?_
    refine va_get (D := D) (ci := 2) (v := .int (jm_ls M)) (C := RX2) (T := TX2) (N := 13) hx hb hts hi_2 hown hK hP 0 rfl rfl 9 (by decide) hf_44 (fun _ h9 => h9) rfl dX2_noteSign_12 ?_
    refine lv_ineg hx hb dX2_noteSign_15 ?_
    refine lv_icmp_ne (tgt := 29) hx hb dX2_noteSign_16 (by decide) (fun c3 => ?_) (fun c3 => ?_)
    · refine lv_aload_n hx hb dX2_noteSign_29 rfl (lv_at hl 1 rfl) ?_
      refine lv_iload_n hx hb dX2_noteSign_30 rfl (lv_at hl 0 rfl) ?_
      refine va_put (D := D) (ci := 2) (v := .int x1) (ty := .int) (C := RX2) (T := TX2) (N := 13) hx hb hts hi_2 tyX2 tyX2_ok nmX2 hown hK hP hD hS 0 rfl rfl 9 (by decide) hf_44 (fun _ h9 => h9) rfl (by decide +kernel) rfl rfl (Nat.le_of_ble_eq_true rfl) dX2_noteSign_31 (fun H locs hP hD hS => ?_)
      have hP : va_P D vwCl (jm_W g a (jm_uls M x1)) H := hP
      have hD : va_D A (jm_W g a (jm_uls M x1)) := hD
      subst ex1
      exact jk_vret hx hb hr hlocks hP hS (congrArg (fun z => (jm_W g a z)) (((if_neg c2).trans ((if_neg c3).trans (rfl))).symm)) dX2_noteSign_34
    · refine lv_aload_n hx hb dX2_noteSign_19 rfl (lv_at hl 1 rfl) ?_
      refine lv_dup hx hb dX2_noteSign_20 rfl ?_
      refine va_get (D := D) (ci := 2) (v := .int (jm_rv M)) (C := RX2) (T := TX2) (N := 13) hx hb hts hi_2 hown hK hP 0 rfl rfl 8 (by decide) hf_41 (fun _ h9 => h9) rfl dX2_noteSign_21 ?_
      refine lv_iconst (v := 1) hx hb dX2_noteSign_24 (by decide) ?_
      refine lv_iadd hx hb dX2_noteSign_25 ?_
      refine va_put (D := D) (ci := 2) (v := .int ((jm_rv M) + 1)) (ty := .int) (C := RX2) (T := TX2) (N := 13) hx hb hts hi_2 tyX2 tyX2_ok nmX2 hown hK hP hD hS 0 rfl rfl 8 (by decide) hf_41 (fun _ h9 => h9) rfl (by decide +kernel) rfl rfl (Nat.le_of_ble_eq_true rfl) dX2_noteSign_26 (fun H locs hP hD hS => ?_)
      have hP : va_P D vwCl (jm_W g a (jm_urv M ((jm_rv M) + 1))) H := hP
      have hD : va_D A (jm_W g a (jm_urv M ((jm_rv M) + 1))) := hD
      refine lv_aload_n hx hb dX2_noteSign_29 rfl (lv_at hl 1 rfl) ?_
      refine lv_iload_n hx hb dX2_noteSign_30 rfl (lv_at hl 0 rfl) ?_
      refine va_put (D := D) (ci := 2) (v := .int x1) (ty := .int) (C := RX2) (T := TX2) (N := 13) hx hb hts hi_2 tyX2 tyX2_ok nmX2 hown hK hP hD hS 0 rfl rfl 9 (by decide) hf_44 (fun _ h9 => h9) rfl (by decide +kernel) rfl rfl (Nat.le_of_ble_eq_true rfl) dX2_noteSign_31 (fun H locs hP hD hS => ?_)
      have hP : va_P D vwCl (jm_W g a (jm_uls (jm_urv M ((jm_rv M) + 1)) x1)) H := hP
      have hD : va_D A (jm_W g a (jm_uls (jm_urv M ((jm_rv M) + 1)) x1)) := hD
      subst ex1
      exact jk_vret hx hb hr hlocks hP hS (congrArg (fun z => (jm_W g a z)) (((if_neg c2).trans ((if_pos c3).trans (rfl))).symm)) dX2_noteSign_34
  · subst ex1
    exact jk_vret hx hb hr hlocks hP hS (congrArg (fun z => (jm_W g a z)) (((if_pos c2).trans (rfl)).symm)) dX2_noteSign_9

set_option maxHeartbeats 4000000 in
set_option maxRecDepth 100000 in
theorem c_X2_sumOfDisc (l : Launch) (D : va_G) (g : jk_G) (a : Nat → Nat) (M : jm_T) (vd : Int32)  : jk_M l D g yX2_sumOfDisc wsX2_sumOfDisc 1 20 [.ref (a 0), .int vd] (jm_W g a M) (some (.int (lp_sum (jm_ch M) (rX2_firstIndexOf vd) 12))) (jm_W g a M) := by
  refine jk_of (cc := cX2_sumOfDisc) (maxL := 5) (ret := (some .int)) (by decide +kernel) rfl (Nat.le_of_ble_eq_true rfl) ?_
  intro p e s m args below meth c hx hb hr hml hts hown hlocks hK hN A H locs hP hD hA hS ls hl
  have hown : s.vm.findClass RX2 = some m.cls := hown
  have hl : lv_has ls 5 [(0, .ref (a 0)), (1, .int vd)] := hl
  have hf_15 := hts (.fieldLink RX2 15 "InfluenceJars$Machine" "charges" "[I") (by decide +kernel)
  have hi_2 : ∀ w ∈ u_ws RX2 TX2 13, w ∈ wsX2_sumOfDisc := by decide +kernel
  refine lv_iconst (v := 0) hx hb dX2_sumOfDisc_0 (by decide) ?_
  refine lv_istore_n (lv' := [(2, .int 0), (0, .ref (a 0)), (1, .int vd)]) hx hb dX2_sumOfDisc_1 rfl hl (by decide) rfl (fun ls hl => ?_)
  refine lv_iload_n hx hb dX2_sumOfDisc_2 rfl (lv_at hl 2 rfl) ?_
  refine jk_callS (As := [.int vd]) (rest := []) (ws1 := (jm_W g a M)) ⟨hx, hb, hml, hown, hts⟩ (c_X2_firstIndexOf l D g vd) (va_cwS 1 hts gX2_sumOfDisc_X2_firstIndexOf rfl rfl rfl (by decide +kernel) ⟨Nat.le_of_ble_eq_true rfl, Nat.le_of_ble_eq_true rfl⟩) jk_nilP (jk_nilD (A := A)) hK hN rfl hl rfl (Nat.le_of_ble_eq_true rfl) dX2_sumOfDisc_3 ⟨Nat.zero_le _, Nat.zero_le _⟩ hS hA (fun _ _ hk => jk_keep hP hk) (fun H locs hP hS => ?_)
  refine W.eq (g2 := F0 m 6 ls [.int (rX2_firstIndexOf vd)]) rfl ?_
  refine lv_topi (fun x1 ex1 => ?_)
  refine lv_istore_n (lv' := [(3, .int x1), (2, .int 0), (0, .ref (a 0)), (1, .int vd)]) hx hb dX2_sumOfDisc_6 rfl hl (by decide) rfl (fun ls hl => ?_)
  refine lv_iload_n hx hb dX2_sumOfDisc_7 rfl (lv_at hl 0 rfl) ?_
  refine lv_istore (lv' := [(4, .int x1), (3, .int x1), (2, .int 0), (0, .ref (a 0)), (1, .int vd)]) hx hb dX2_sumOfDisc_8 hl (by decide) rfl (fun ls hl => ?_)
  subst ex1
  have hlp : ∀ (n k : Nat), k ≤ 12 → 12 < k + n → ∀ (H : Heap) (locs : List Loc), va_P D vwCl (jm_W g a M) H → va_S A s.heap H locs → ∀ ls : Array Slot, lv_has ls 5 [(0, .ref (a 0)), (1, .int vd), (2, .int (lp_sum (jm_ch M) (rX2_firstIndexOf vd) k)), (3, .int (rX2_firstIndexOf vd)), (4, .int (rX2_firstIndexOf vd + nI k))] → W p l e ({ frames := 1, cells := 0, slots := 0, locals := 20 }) s m args below meth c H locs 0 0 (MQ below (jk_Q (some (.int (lp_sum (jm_ch M) (rX2_firstIndexOf vd) 12))) D (jm_W g a M) A) args s 0 0 A) (F0 m 10 ls []) := by
    intro n
    induction n with
    | zero => intro k  hk1 hk2; exact absurd hk2 (by omega)
    | succ n ih =>
      intro k  hk hkn  H locs hP hS ls hl
      have hD : va_D A (jm_W g a M) := jk_D.same hD rfl
      refine lv_iload hx hb dX2_sumOfDisc_10 (lv_at hl 4 rfl) ?_
      refine lv_iload_n hx hb dX2_sumOfDisc_12 rfl (lv_at hl 3 rfl) ?_
      refine lv_bipush (v := 12) hx hb dX2_sumOfDisc_13 (by decide) ?_
      refine lv_iadd hx hb dX2_sumOfDisc_15 ?_
      refine lv_icmp_ge (tgt := 35) hx hb dX2_sumOfDisc_16 (by decide) (fun c2 => ?_) (fun c2 => ?_)
      · have hk12 : k = 12 := jk_fi_exit hk c2
        subst hk12
        refine lv_iload_n hx hb dX2_sumOfDisc_35 rfl (lv_at hl 2 rfl) ?_
        exact jk_iret hx hb hr hlocks hP hS rfl rfl dX2_sumOfDisc_36
      · have hlt : k < 12 := jk_fi_in hk c2
        refine lv_iload_n hx hb dX2_sumOfDisc_19 rfl (lv_at hl 2 rfl) ?_
        refine lv_aload_n hx hb dX2_sumOfDisc_20 rfl (lv_at hl 0 rfl) ?_
        refine va_get (D := D) (ci := 2) (v := .ref (a 2)) (C := RX2) (T := TX2) (N := 13) hx hb hts hi_2 hown hK hP 0 rfl rfl 1 (by decide) hf_15 (fun _ h9 => h9) rfl dX2_sumOfDisc_21 ?_
        refine lv_iload hx hb dX2_sumOfDisc_24 (lv_at hl 4 rfl) ?_
        refine va_iald (f := (jm_ch M)) hx hb hK hP 2 0 rfl rfl (jk_fi_ix _ hlt) dX2_sumOfDisc_26 ?_
        refine lv_topi (fun x3 ex3 => ?_)
        refine lv_iadd hx hb dX2_sumOfDisc_27 ?_
        refine lv_topi (fun x4 ex4 => ?_)
        refine lv_istore_n (lv' := [(2, .int x4), (0, .ref (a 0)), (1, .int vd), (3, .int (rX2_firstIndexOf vd)), (4, .int (rX2_firstIndexOf vd + nI k))]) hx hb dX2_sumOfDisc_28 rfl hl (by decide) rfl (fun ls hl => ?_)
        refine lv_iinc (v := rX2_firstIndexOf vd + nI (k + 1)) (lv' := [(4, .int (rX2_firstIndexOf vd + nI (k + 1))), (2, .int x4), (0, .ref (a 0)), (1, .int vd), (3, .int (rX2_firstIndexOf vd))]) hx hb dX2_sumOfDisc_29 hl (k := 4) rfl (by rw [← nI_1, ← Int32.add_assoc]; rfl) (by decide) rfl (fun ls hl => ?_)
        refine lv_goto (tgt := 10) hx hb dX2_sumOfDisc_32 (by decide) ?_
        subst ex4
        subst ex3
        exact ih (k + 1)  (by omega) (by omega)  H locs hP hS ls (lv_sub hl [2, 3, 1, 4, 0] rfl)
  exact hlp (12 + 1) 0  (Nat.zero_le _) (by omega)  H locs hP hS ls (lv_sub hl [3, 4, 2, 1, 0] (by simp only [nI_0, Int32.add_zero]; rfl))

set_option maxHeartbeats 4000000 in
set_option maxRecDepth 100000 in
theorem c_X2_sectorsWithSign (l : Launch) (D : va_G) (g : jk_G) (a : Nat → Nat) (M : jm_T) (vd : Int32) (sg : Int32)  : jk_M l D g yX2_sectorsWithSign wsX2_sectorsWithSign 1 20 [.ref (a 0), .int vd, .int sg] (jm_W g a M) (some (.int (lp_sgn (jm_ch M) (rX2_firstIndexOf vd) sg 12))) (jm_W g a M) := by
  refine jk_of (cc := cX2_sectorsWithSign) (maxL := 6) (ret := (some .int)) (by decide +kernel) rfl (Nat.le_of_ble_eq_true rfl) ?_
  intro p e s m args below meth c hx hb hr hml hts hown hlocks hK hN A H locs hP hD hA hS ls hl
  have hown : s.vm.findClass RX2 = some m.cls := hown
  have hl : lv_has ls 6 [(0, .ref (a 0)), (1, .int vd), (2, .int sg)] := hl
  have hf_15 := hts (.fieldLink RX2 15 "InfluenceJars$Machine" "charges" "[I") (by decide +kernel)
  have hi_2 : ∀ w ∈ u_ws RX2 TX2 13, w ∈ wsX2_sectorsWithSign := by decide +kernel
  refine lv_iconst (v := 0) hx hb dX2_sectorsWithSign_0 (by decide) ?_
  refine lv_istore_n (lv' := [(3, .int 0), (0, .ref (a 0)), (1, .int vd), (2, .int sg)]) hx hb dX2_sectorsWithSign_1 rfl hl (by decide) rfl (fun ls hl => ?_)
  refine lv_iload_n hx hb dX2_sectorsWithSign_2 rfl (lv_at hl 2 rfl) ?_
  refine jk_callS (As := [.int vd]) (rest := []) (ws1 := (jm_W g a M)) ⟨hx, hb, hml, hown, hts⟩ (c_X2_firstIndexOf l D g vd) (va_cwS 1 hts gX2_sectorsWithSign_X2_firstIndexOf rfl rfl rfl (by decide +kernel) ⟨Nat.le_of_ble_eq_true rfl, Nat.le_of_ble_eq_true rfl⟩) jk_nilP (jk_nilD (A := A)) hK hN rfl hl rfl (Nat.le_of_ble_eq_true rfl) dX2_sectorsWithSign_3 ⟨Nat.zero_le _, Nat.zero_le _⟩ hS hA (fun _ _ hk => jk_keep hP hk) (fun H locs hP hS => ?_)
  refine W.eq (g2 := F0 m 6 ls [.int (rX2_firstIndexOf vd)]) rfl ?_
  refine lv_topi (fun x1 ex1 => ?_)
  refine lv_istore (lv' := [(4, .int x1), (3, .int 0), (0, .ref (a 0)), (1, .int vd), (2, .int sg)]) hx hb dX2_sectorsWithSign_6 hl (by decide) rfl (fun ls hl => ?_)
  refine lv_iload hx hb dX2_sectorsWithSign_8 (lv_at hl 0 rfl) ?_
  refine lv_istore (lv' := [(5, .int x1), (4, .int x1), (3, .int 0), (0, .ref (a 0)), (1, .int vd), (2, .int sg)]) hx hb dX2_sectorsWithSign_10 hl (by decide) rfl (fun ls hl => ?_)
  subst ex1
  have hlp : ∀ (n k : Nat), k ≤ 12 → 12 < k + n → ∀ (H : Heap) (locs : List Loc), va_P D vwCl (jm_W g a M) H → va_S A s.heap H locs → ∀ ls : Array Slot, lv_has ls 6 [(0, .ref (a 0)), (1, .int vd), (2, .int sg), (3, .int (lp_sgn (jm_ch M) (rX2_firstIndexOf vd) sg k)), (4, .int (rX2_firstIndexOf vd)), (5, .int (rX2_firstIndexOf vd + nI k))] → W p l e ({ frames := 1, cells := 0, slots := 0, locals := 20 }) s m args below meth c H locs 0 0 (MQ below (jk_Q (some (.int (lp_sgn (jm_ch M) (rX2_firstIndexOf vd) sg 12))) D (jm_W g a M) A) args s 0 0 A) (F0 m 12 ls []) := by
    intro n
    induction n with
    | zero => intro k  hk1 hk2; exact absurd hk2 (by omega)
    | succ n ih =>
      intro k  hk hkn  H locs hP hS ls hl
      have hD : va_D A (jm_W g a M) := jk_D.same hD rfl
      refine lv_iload hx hb dX2_sectorsWithSign_12 (lv_at hl 5 rfl) ?_
      refine lv_iload hx hb dX2_sectorsWithSign_14 (lv_at hl 4 rfl) ?_
      refine lv_bipush (v := 12) hx hb dX2_sectorsWithSign_16 (by decide) ?_
      refine lv_iadd hx hb dX2_sectorsWithSign_18 ?_
      refine lv_icmp_ge (tgt := 45) hx hb dX2_sectorsWithSign_19 (by decide) (fun c2 => ?_) (fun c2 => ?_)
      · have hk12 : k = 12 := jk_fi_exit hk c2
        subst hk12
        refine lv_iload_n hx hb dX2_sectorsWithSign_45 rfl (lv_at hl 3 rfl) ?_
        exact jk_iret hx hb hr hlocks hP hS rfl rfl dX2_sectorsWithSign_46
      · have hlt : k < 12 := jk_fi_in hk c2
        refine lv_aload_n hx hb dX2_sectorsWithSign_22 rfl (lv_at hl 0 rfl) ?_
        refine va_get (D := D) (ci := 2) (v := .ref (a 2)) (C := RX2) (T := TX2) (N := 13) hx hb hts hi_2 hown hK hP 0 rfl rfl 1 (by decide) hf_15 (fun _ h9 => h9) rfl dX2_sectorsWithSign_23 ?_
        refine lv_iload hx hb dX2_sectorsWithSign_26 (lv_at hl 5 rfl) ?_
        refine va_iald (f := (jm_ch M)) hx hb hK hP 2 0 rfl rfl (jk_fi_ix _ hlt) dX2_sectorsWithSign_28 ?_
        refine lv_topi (fun x3 ex3 => ?_)
        refine jk_callS (As := [.int x3]) (rest := []) (ws1 := (jm_W g a M)) ⟨hx, hb, hml, hown, hts⟩ (c_J6_signum_0f7a4 l D g x3) (va_cwS 1 hts gX2_sectorsWithSign_J6_signum_0f7a4 rfl rfl rfl (by decide +kernel) ⟨Nat.le_of_ble_eq_true rfl, Nat.le_of_ble_eq_true rfl⟩) jk_nilP (jk_nilD (A := A)) hK hN rfl hl rfl (Nat.le_of_ble_eq_true rfl) dX2_sectorsWithSign_29 ⟨Nat.zero_le _, Nat.zero_le _⟩ hS hA (fun _ _ hk => jk_keep hP hk) (fun H locs hP hS => ?_)
        refine W.eq (g2 := F0 m 32 ls [.int (rJ6_signum_0f7a4 x3)]) rfl ?_
        refine lv_topi (fun x4 ex4 => ?_)
        refine lv_iload_n hx hb dX2_sectorsWithSign_32 rfl (lv_at hl 2 rfl) ?_
        refine lv_icmp_ne (tgt := 39) hx hb dX2_sectorsWithSign_33 (by decide) (fun c5 => ?_) (fun c5 => ?_)
        · refine lv_iinc (v := rX2_firstIndexOf vd + nI (k + 1)) (lv' := [(5, .int (rX2_firstIndexOf vd + nI (k + 1))), (0, .ref (a 0)), (1, .int vd), (2, .int sg), (3, .int (lp_sgn (jm_ch M) (rX2_firstIndexOf vd) sg k)), (4, .int (rX2_firstIndexOf vd))]) hx hb dX2_sectorsWithSign_39 hl (k := 5) rfl (by rw [← nI_1, ← Int32.add_assoc]; rfl) (by decide) rfl (fun ls hl => ?_)
          refine lv_goto (tgt := 12) hx hb dX2_sectorsWithSign_42 (by decide) ?_
          subst ex4
          subst ex3
          exact ih (k + 1)  (by omega) (by omega)  H locs hP hS ls (lv_sub hl [1, 2, 3, 4, 5, 0] (by rw [show lp_sgn (jm_ch M) (rX2_firstIndexOf vd) sg (k + 1) = _ from if_neg c5]; rfl))
        · obtain ⟨x6, ex6⟩ : ∃ z : Int32, z = (lp_sgn (jm_ch M) (rX2_firstIndexOf vd) sg k) + 1 := ⟨_, rfl⟩
          refine lv_iinc (v := x6) (lv' := [(3, .int x6), (0, .ref (a 0)), (1, .int vd), (2, .int sg), (4, .int (rX2_firstIndexOf vd)), (5, .int (rX2_firstIndexOf vd + nI k))]) hx hb dX2_sectorsWithSign_36 hl (k := 3) rfl (by rw [ex6]; rfl) (by decide) rfl (fun ls hl => ?_)
          refine lv_iinc (v := rX2_firstIndexOf vd + nI (k + 1)) (lv' := [(5, .int (rX2_firstIndexOf vd + nI (k + 1))), (3, .int x6), (0, .ref (a 0)), (1, .int vd), (2, .int sg), (4, .int (rX2_firstIndexOf vd))]) hx hb dX2_sectorsWithSign_39 hl (k := 5) rfl (by rw [← nI_1, ← Int32.add_assoc]; rfl) (by decide) rfl (fun ls hl => ?_)
          refine lv_goto (tgt := 12) hx hb dX2_sectorsWithSign_42 (by decide) ?_
          subst ex6
          subst ex4
          subst ex3
          exact ih (k + 1)  (by omega) (by omega)  H locs hP hS ls (lv_sub hl [2, 3, 4, 1, 5, 0] (by rw [show lp_sgn (jm_ch M) (rX2_firstIndexOf vd) sg (k + 1) = _ from if_pos c5]; rfl))
  exact hlp (12 + 1) 0  (Nat.zero_le _) (by omega)  H locs hP hS ls (lv_sub hl [3, 4, 5, 2, 1, 0] (by simp only [nI_0, Int32.add_zero]; rfl))

set_option maxHeartbeats 4000000 in
set_option maxRecDepth 100000 in
theorem c_X2_greatestOfDisc (l : Launch) (D : va_G) (g : jk_G) (a : Nat → Nat) (M : jm_T) (vd : Int32)  : jk_M l D g yX2_greatestOfDisc wsX2_greatestOfDisc 1 20 [.ref (a 0), .int vd] (jm_W g a M) (some (.int (lp_max (jm_ch M) (rX2_firstIndexOf vd) 12))) (jm_W g a M) := by
  refine jk_of (cc := cX2_greatestOfDisc) (maxL := 5) (ret := (some .int)) (by decide +kernel) rfl (Nat.le_of_ble_eq_true rfl) ?_
  intro p e s m args below meth c hx hb hr hml hts hown hlocks hK hN A H locs hP hD hA hS ls hl
  have hown : s.vm.findClass RX2 = some m.cls := hown
  have hl : lv_has ls 5 [(0, .ref (a 0)), (1, .int vd)] := hl
  have hf_15 := hts (.fieldLink RX2 15 "InfluenceJars$Machine" "charges" "[I") (by decide +kernel)
  have hi_2 : ∀ w ∈ u_ws RX2 TX2 13, w ∈ wsX2_greatestOfDisc := by decide +kernel
  have hm_71 := hts (.methodLink RX2 71 Lib.Math.max.name) (by decide +kernel)
  have hs_max := hts (.static Lib.Math.max.name) (by decide +kernel)
  have hi_Math := hts (.initialized "java/lang/Math") (by decide +kernel)
  have hc_max := hts (.code Lib.Math.max.name Lib.Math.max.code 2 (some .int)) (by exact List.mem_of_getElem? (i := 5) rfl)
  refine lv_bipush (v := (-99)) hx hb dX2_greatestOfDisc_0 (by decide) ?_
  refine lv_istore_n (lv' := [(2, .int (-99)), (0, .ref (a 0)), (1, .int vd)]) hx hb dX2_greatestOfDisc_2 rfl hl (by decide) rfl (fun ls hl => ?_)
  refine lv_iload_n hx hb dX2_greatestOfDisc_3 rfl (lv_at hl 2 rfl) ?_
  refine jk_callS (As := [.int vd]) (rest := []) (ws1 := (jm_W g a M)) ⟨hx, hb, hml, hown, hts⟩ (c_X2_firstIndexOf l D g vd) (va_cwS 1 hts gX2_greatestOfDisc_X2_firstIndexOf rfl rfl rfl (by decide +kernel) ⟨Nat.le_of_ble_eq_true rfl, Nat.le_of_ble_eq_true rfl⟩) jk_nilP (jk_nilD (A := A)) hK hN rfl hl rfl (Nat.le_of_ble_eq_true rfl) dX2_greatestOfDisc_4 ⟨Nat.zero_le _, Nat.zero_le _⟩ hS hA (fun _ _ hk => jk_keep hP hk) (fun H locs hP hS => ?_)
  refine W.eq (g2 := F0 m 7 ls [.int (rX2_firstIndexOf vd)]) rfl ?_
  refine lv_topi (fun x1 ex1 => ?_)
  refine lv_istore_n (lv' := [(3, .int x1), (2, .int (-99)), (0, .ref (a 0)), (1, .int vd)]) hx hb dX2_greatestOfDisc_7 rfl hl (by decide) rfl (fun ls hl => ?_)
  refine lv_iload_n hx hb dX2_greatestOfDisc_8 rfl (lv_at hl 0 rfl) ?_
  refine lv_istore (lv' := [(4, .int x1), (3, .int x1), (2, .int (-99)), (0, .ref (a 0)), (1, .int vd)]) hx hb dX2_greatestOfDisc_9 hl (by decide) rfl (fun ls hl => ?_)
  subst ex1
  have hlp : ∀ (n k : Nat), k ≤ 12 → 12 < k + n → ∀ (H : Heap) (locs : List Loc), va_P D vwCl (jm_W g a M) H → va_S A s.heap H locs → ∀ ls : Array Slot, lv_has ls 5 [(0, .ref (a 0)), (1, .int vd), (2, .int (lp_max (jm_ch M) (rX2_firstIndexOf vd) k)), (3, .int (rX2_firstIndexOf vd)), (4, .int (rX2_firstIndexOf vd + nI k))] → W p l e ({ frames := 1, cells := 0, slots := 0, locals := 20 }) s m args below meth c H locs 0 0 (MQ below (jk_Q (some (.int (lp_max (jm_ch M) (rX2_firstIndexOf vd) 12))) D (jm_W g a M) A) args s 0 0 A) (F0 m 11 ls []) := by
    intro n
    induction n with
    | zero => intro k  hk1 hk2; exact absurd hk2 (by omega)
    | succ n ih =>
      intro k  hk hkn  H locs hP hS ls hl
      have hD : va_D A (jm_W g a M) := jk_D.same hD rfl
      refine lv_iload hx hb dX2_greatestOfDisc_11 (lv_at hl 4 rfl) ?_
      refine lv_iload_n hx hb dX2_greatestOfDisc_13 rfl (lv_at hl 3 rfl) ?_
      refine lv_bipush (v := 12) hx hb dX2_greatestOfDisc_14 (by decide) ?_
      refine lv_iadd hx hb dX2_greatestOfDisc_16 ?_
      refine lv_icmp_ge (tgt := 38) hx hb dX2_greatestOfDisc_17 (by decide) (fun c2 => ?_) (fun c2 => ?_)
      · have hk12 : k = 12 := jk_fi_exit hk c2
        subst hk12
        refine lv_iload_n hx hb dX2_greatestOfDisc_38 rfl (lv_at hl 2 rfl) ?_
        exact jk_iret hx hb hr hlocks hP hS rfl rfl dX2_greatestOfDisc_39
      · have hlt : k < 12 := jk_fi_in hk c2
        refine lv_iload_n hx hb dX2_greatestOfDisc_20 rfl (lv_at hl 2 rfl) ?_
        refine lv_aload_n hx hb dX2_greatestOfDisc_21 rfl (lv_at hl 0 rfl) ?_
        refine va_get (D := D) (ci := 2) (v := .ref (a 2)) (C := RX2) (T := TX2) (N := 13) hx hb hts hi_2 hown hK hP 0 rfl rfl 1 (by decide) hf_15 (fun _ h9 => h9) rfl dX2_greatestOfDisc_22 ?_
        refine lv_iload hx hb dX2_greatestOfDisc_25 (lv_at hl 4 rfl) ?_
        refine va_iald (f := (jm_ch M)) hx hb hK hP 2 0 rfl rfl (jk_fi_ix _ hlt) dX2_greatestOfDisc_27 ?_
        refine lv_topi (fun x3 ex3 => ?_)
        refine va_mmax hx hb (by rw [hml]; exact hl.1.symm) hown hm_71 hs_max hi_Math hc_max (Nat.le_of_ble_eq_true rfl) (Nat.le_of_ble_eq_true rfl) (Nat.zero_le _) (Nat.zero_le _) dX2_greatestOfDisc_28 ?_
        refine lv_topi (fun x4 ex4 => ?_)
        refine lv_istore_n (lv' := [(2, .int x4), (0, .ref (a 0)), (1, .int vd), (3, .int (rX2_firstIndexOf vd)), (4, .int (rX2_firstIndexOf vd + nI k))]) hx hb dX2_greatestOfDisc_31 rfl hl (by decide) rfl (fun ls hl => ?_)
        refine lv_iinc (v := rX2_firstIndexOf vd + nI (k + 1)) (lv' := [(4, .int (rX2_firstIndexOf vd + nI (k + 1))), (2, .int x4), (0, .ref (a 0)), (1, .int vd), (3, .int (rX2_firstIndexOf vd))]) hx hb dX2_greatestOfDisc_32 hl (k := 4) rfl (by rw [← nI_1, ← Int32.add_assoc]; rfl) (by decide) rfl (fun ls hl => ?_)
        refine lv_goto (tgt := 11) hx hb dX2_greatestOfDisc_35 (by decide) ?_
        subst ex4
        subst ex3
        exact ih (k + 1)  (by omega) (by omega)  H locs hP hS ls (lv_sub hl [2, 3, 1, 4, 0] rfl)
  exact hlp (12 + 1) 0  (Nat.zero_le _) (by omega)  H locs hP hS ls (lv_sub hl [3, 4, 2, 1, 0] (by simp only [nI_0, Int32.add_zero]; rfl))

set_option maxHeartbeats 4000000 in
set_option maxRecDepth 100000 in
theorem c_X2_leastOfDisc (l : Launch) (D : va_G) (g : jk_G) (a : Nat → Nat) (M : jm_T) (vd : Int32)  : jk_M l D g yX2_leastOfDisc wsX2_leastOfDisc 1 20 [.ref (a 0), .int vd] (jm_W g a M) (some (.int (lp_min (jm_ch M) (rX2_firstIndexOf vd) 12))) (jm_W g a M) := by
  refine jk_of (cc := cX2_leastOfDisc) (maxL := 5) (ret := (some .int)) (by decide +kernel) rfl (Nat.le_of_ble_eq_true rfl) ?_
  intro p e s m args below meth c hx hb hr hml hts hown hlocks hK hN A H locs hP hD hA hS ls hl
  have hown : s.vm.findClass RX2 = some m.cls := hown
  have hl : lv_has ls 5 [(0, .ref (a 0)), (1, .int vd)] := hl
  have hf_15 := hts (.fieldLink RX2 15 "InfluenceJars$Machine" "charges" "[I") (by decide +kernel)
  have hi_2 : ∀ w ∈ u_ws RX2 TX2 13, w ∈ wsX2_leastOfDisc := by decide +kernel
  have hm_74 := hts (.methodLink RX2 74 Lib.Math.min.name) (by decide +kernel)
  have hs_min := hts (.static Lib.Math.min.name) (by decide +kernel)
  have hi_Math := hts (.initialized "java/lang/Math") (by decide +kernel)
  have hc_min := hts (.code Lib.Math.min.name Lib.Math.min.code 2 (some .int)) (by exact List.mem_of_getElem? (i := 5) rfl)
  refine lv_bipush (v := 99) hx hb dX2_leastOfDisc_0 (by decide) ?_
  refine lv_istore_n (lv' := [(2, .int 99), (0, .ref (a 0)), (1, .int vd)]) hx hb dX2_leastOfDisc_2 rfl hl (by decide) rfl (fun ls hl => ?_)
  refine lv_iload_n hx hb dX2_leastOfDisc_3 rfl (lv_at hl 2 rfl) ?_
  refine jk_callS (As := [.int vd]) (rest := []) (ws1 := (jm_W g a M)) ⟨hx, hb, hml, hown, hts⟩ (c_X2_firstIndexOf l D g vd) (va_cwS 1 hts gX2_leastOfDisc_X2_firstIndexOf rfl rfl rfl (by decide +kernel) ⟨Nat.le_of_ble_eq_true rfl, Nat.le_of_ble_eq_true rfl⟩) jk_nilP (jk_nilD (A := A)) hK hN rfl hl rfl (Nat.le_of_ble_eq_true rfl) dX2_leastOfDisc_4 ⟨Nat.zero_le _, Nat.zero_le _⟩ hS hA (fun _ _ hk => jk_keep hP hk) (fun H locs hP hS => ?_)
  refine W.eq (g2 := F0 m 7 ls [.int (rX2_firstIndexOf vd)]) rfl ?_
  refine lv_topi (fun x1 ex1 => ?_)
  refine lv_istore_n (lv' := [(3, .int x1), (2, .int 99), (0, .ref (a 0)), (1, .int vd)]) hx hb dX2_leastOfDisc_7 rfl hl (by decide) rfl (fun ls hl => ?_)
  refine lv_iload_n hx hb dX2_leastOfDisc_8 rfl (lv_at hl 0 rfl) ?_
  refine lv_istore (lv' := [(4, .int x1), (3, .int x1), (2, .int 99), (0, .ref (a 0)), (1, .int vd)]) hx hb dX2_leastOfDisc_9 hl (by decide) rfl (fun ls hl => ?_)
  subst ex1
  have hlp : ∀ (n k : Nat), k ≤ 12 → 12 < k + n → ∀ (H : Heap) (locs : List Loc), va_P D vwCl (jm_W g a M) H → va_S A s.heap H locs → ∀ ls : Array Slot, lv_has ls 5 [(0, .ref (a 0)), (1, .int vd), (2, .int (lp_min (jm_ch M) (rX2_firstIndexOf vd) k)), (3, .int (rX2_firstIndexOf vd)), (4, .int (rX2_firstIndexOf vd + nI k))] → W p l e ({ frames := 1, cells := 0, slots := 0, locals := 20 }) s m args below meth c H locs 0 0 (MQ below (jk_Q (some (.int (lp_min (jm_ch M) (rX2_firstIndexOf vd) 12))) D (jm_W g a M) A) args s 0 0 A) (F0 m 11 ls []) := by
    intro n
    induction n with
    | zero => intro k  hk1 hk2; exact absurd hk2 (by omega)
    | succ n ih =>
      intro k  hk hkn  H locs hP hS ls hl
      have hD : va_D A (jm_W g a M) := jk_D.same hD rfl
      refine lv_iload hx hb dX2_leastOfDisc_11 (lv_at hl 4 rfl) ?_
      refine lv_iload_n hx hb dX2_leastOfDisc_13 rfl (lv_at hl 3 rfl) ?_
      refine lv_bipush (v := 12) hx hb dX2_leastOfDisc_14 (by decide) ?_
      refine lv_iadd hx hb dX2_leastOfDisc_16 ?_
      refine lv_icmp_ge (tgt := 38) hx hb dX2_leastOfDisc_17 (by decide) (fun c2 => ?_) (fun c2 => ?_)
      · have hk12 : k = 12 := jk_fi_exit hk c2
        subst hk12
        refine lv_iload_n hx hb dX2_leastOfDisc_38 rfl (lv_at hl 2 rfl) ?_
        exact jk_iret hx hb hr hlocks hP hS rfl rfl dX2_leastOfDisc_39
      · have hlt : k < 12 := jk_fi_in hk c2
        refine lv_iload_n hx hb dX2_leastOfDisc_20 rfl (lv_at hl 2 rfl) ?_
        refine lv_aload_n hx hb dX2_leastOfDisc_21 rfl (lv_at hl 0 rfl) ?_
        refine va_get (D := D) (ci := 2) (v := .ref (a 2)) (C := RX2) (T := TX2) (N := 13) hx hb hts hi_2 hown hK hP 0 rfl rfl 1 (by decide) hf_15 (fun _ h9 => h9) rfl dX2_leastOfDisc_22 ?_
        refine lv_iload hx hb dX2_leastOfDisc_25 (lv_at hl 4 rfl) ?_
        refine va_iald (f := (jm_ch M)) hx hb hK hP 2 0 rfl rfl (jk_fi_ix _ hlt) dX2_leastOfDisc_27 ?_
        refine lv_topi (fun x3 ex3 => ?_)
        refine va_mmin hx hb (by rw [hml]; exact hl.1.symm) hown hm_74 hs_min hi_Math hc_min (Nat.le_of_ble_eq_true rfl) (Nat.le_of_ble_eq_true rfl) (Nat.zero_le _) (Nat.zero_le _) dX2_leastOfDisc_28 ?_
        refine lv_topi (fun x4 ex4 => ?_)
        refine lv_istore_n (lv' := [(2, .int x4), (0, .ref (a 0)), (1, .int vd), (3, .int (rX2_firstIndexOf vd)), (4, .int (rX2_firstIndexOf vd + nI k))]) hx hb dX2_leastOfDisc_31 rfl hl (by decide) rfl (fun ls hl => ?_)
        refine lv_iinc (v := rX2_firstIndexOf vd + nI (k + 1)) (lv' := [(4, .int (rX2_firstIndexOf vd + nI (k + 1))), (2, .int x4), (0, .ref (a 0)), (1, .int vd), (3, .int (rX2_firstIndexOf vd))]) hx hb dX2_leastOfDisc_32 hl (k := 4) rfl (by rw [← nI_1, ← Int32.add_assoc]; rfl) (by decide) rfl (fun ls hl => ?_)
        refine lv_goto (tgt := 11) hx hb dX2_leastOfDisc_35 (by decide) ?_
        subst ex4
        subst ex3
        exact ih (k + 1)  (by omega) (by omega)  H locs hP hS ls (lv_sub hl [2, 3, 1, 4, 0] rfl)
  exact hlp (12 + 1) 0  (Nat.zero_le _) (by omega)  H locs hP hS ls (lv_sub hl [3, 4, 2, 1, 0] (by simp only [nI_0, Int32.add_zero]; rfl))

set_option maxHeartbeats 4000000 in
set_option maxRecDepth 100000 in
theorem c_X2_emptySectors (l : Launch) (D : va_G) (g : jk_G) (a : Nat → Nat) (M : jm_T) (vd : Int32)  : jk_M l D g yX2_emptySectors wsX2_emptySectors 2 45 [.ref (a 0), .int vd] (jm_W g a M) (some (.int (lp_sgn (jm_ch M) (rX2_firstIndexOf vd) 1 12 + lp_sgn (jm_ch M) (rX2_firstIndexOf vd) (-1) 12))) (jm_W g a (jm_uto (jm_uch M (lp_zero (jm_ch M) (rX2_firstIndexOf vd) 12)) ((jm_to M) + (lp_sum (jm_ch M) (rX2_firstIndexOf vd) 12)))) := by
  refine jk_of (cc := cX2_emptySectors) (maxL := 5) (ret := (some .int)) (by decide +kernel) rfl (Nat.le_of_ble_eq_true rfl) ?_
  intro p e s m args below meth c hx hb hr hml hts hown hlocks hK hN A H locs hP hD hA hS ls hl
  have hown : s.vm.findClass RX2 = some m.cls := hown
  have hl : lv_has ls 5 [(0, .ref (a 0)), (1, .int vd)] := hl
  have hf_53 := hts (.fieldLink RX2 53 "InfluenceJars$Machine" "takenOff" "I") (by decide +kernel)
  have hi_2 : ∀ w ∈ u_ws RX2 TX2 13, w ∈ wsX2_emptySectors := by decide +kernel
  have hf_15 := hts (.fieldLink RX2 15 "InfluenceJars$Machine" "charges" "[I") (by decide +kernel)
  refine lv_aload_n hx hb dX2_emptySectors_0 rfl (lv_at hl 0 rfl) ?_
  refine lv_iload_n hx hb dX2_emptySectors_1 rfl (lv_at hl 1 rfl) ?_
  refine lv_iconst (v := 1) hx hb dX2_emptySectors_2 (by decide) ?_
  refine jk_callV (As := [.int vd, .int 1]) (rest := []) (ws1 := (jm_W g a M)) ⟨hx, hb, hml, hown, hts⟩ (c_X2_sectorsWithSign l D g a M vd (1 : Int32)) (cwV 2 hts gX2_emptySectors_X2_sectorsWithSign rfl rfl rfl (by decide +kernel) ⟨Nat.le_of_ble_eq_true rfl, Nat.le_of_ble_eq_true rfl⟩) (va_recv hK hP (ci := 2) (q0 := 0) rfl rfl) hP hD hK hN rfl hl rfl (Nat.le_of_ble_eq_true rfl) dX2_emptySectors_3 ⟨Nat.zero_le _, Nat.zero_le _⟩ hS hA (fun _ h _ => h) (fun H locs hP hS => ?_)
  refine W.eq (g2 := F0 m 6 ls [.int (lp_sgn (jm_ch M) (rX2_firstIndexOf vd) (1 : Int32) 12)]) rfl ?_
  refine lv_topi (fun x1 ex1 => ?_)
  refine lv_aload_n hx hb dX2_emptySectors_6 rfl (lv_at hl 0 rfl) ?_
  refine lv_iload_n hx hb dX2_emptySectors_7 rfl (lv_at hl 1 rfl) ?_
  refine lv_iconst (v := (-1)) hx hb dX2_emptySectors_8 (by decide) ?_
  refine jk_callV (As := [.int vd, .int (-1)]) (rest := [.int x1]) (ws1 := (jm_W g a M)) ⟨hx, hb, hml, hown, hts⟩ (c_X2_sectorsWithSign l D g a M vd ((-1) : Int32)) (cwV 2 hts gX2_emptySectors_X2_sectorsWithSign rfl rfl rfl (by decide +kernel) ⟨Nat.le_of_ble_eq_true rfl, Nat.le_of_ble_eq_true rfl⟩) (va_recv hK hP (ci := 2) (q0 := 0) rfl rfl) hP hD hK hN rfl hl rfl (Nat.le_of_ble_eq_true rfl) dX2_emptySectors_9 ⟨Nat.zero_le _, Nat.zero_le _⟩ hS hA (fun _ h _ => h) (fun H locs hP hS => ?_)
  refine W.eq (g2 := F0 m 12 ls [.int (lp_sgn (jm_ch M) (rX2_firstIndexOf vd) ((-1) : Int32) 12), .int x1]) rfl ?_
  refine lv_topi (fun x2 ex2 => ?_)
  refine lv_iadd hx hb dX2_emptySectors_12 ?_
  refine lv_istore_n (lv' := [(2, .int (x1 + x2)), (0, .ref (a 0)), (1, .int vd)]) hx hb dX2_emptySectors_13 rfl hl (by decide) rfl (fun ls hl => ?_)
  refine lv_aload_n hx hb dX2_emptySectors_14 rfl (lv_at hl 1 rfl) ?_
  refine lv_dup hx hb dX2_emptySectors_15 rfl ?_
  refine va_get (D := D) (ci := 2) (v := .int (jm_to M)) (C := RX2) (T := TX2) (N := 13) hx hb hts hi_2 hown hK hP 0 rfl rfl 12 (by decide) hf_53 (fun _ h9 => h9) rfl dX2_emptySectors_16 ?_
  refine lv_aload_n hx hb dX2_emptySectors_19 rfl (lv_at hl 1 rfl) ?_
  refine lv_iload_n hx hb dX2_emptySectors_20 rfl (lv_at hl 2 rfl) ?_
  refine jk_callV (As := [.int vd]) (rest := [.int (jm_to M), .ref (a 0)]) (ws1 := (jm_W g a M)) ⟨hx, hb, hml, hown, hts⟩ (c_X2_sumOfDisc l D g a M vd) (cwV 1 hts gX2_emptySectors_X2_sumOfDisc rfl rfl rfl (by decide +kernel) ⟨Nat.le_of_ble_eq_true rfl, Nat.le_of_ble_eq_true rfl⟩) (va_recv hK hP (ci := 2) (q0 := 0) rfl rfl) hP hD hK hN rfl hl rfl (Nat.le_of_ble_eq_true rfl) dX2_emptySectors_21 ⟨Nat.zero_le _, Nat.zero_le _⟩ hS hA (fun _ h _ => h) (fun H locs hP hS => ?_)
  refine W.eq (g2 := F0 m 24 ls [.int (lp_sum (jm_ch M) (rX2_firstIndexOf vd) 12), .int (jm_to M), .ref (a 0)]) rfl ?_
  refine lv_topi (fun x3 ex3 => ?_)
  refine lv_iadd hx hb dX2_emptySectors_24 ?_
  refine va_put (D := D) (ci := 2) (v := .int ((jm_to M) + x3)) (ty := .int) (C := RX2) (T := TX2) (N := 13) hx hb hts hi_2 tyX2 tyX2_ok nmX2 hown hK hP hD hS 0 rfl rfl 12 (by decide) hf_53 (fun _ h9 => h9) rfl (by decide +kernel) rfl rfl (Nat.le_of_ble_eq_true rfl) dX2_emptySectors_25 (fun H locs hP hD hS => ?_)
  have hP : va_P D vwCl (jm_W g a (jm_uto M ((jm_to M) + x3))) H := hP
  have hD : va_D A (jm_W g a (jm_uto M ((jm_to M) + x3))) := hD
  refine lv_iload_n hx hb dX2_emptySectors_28 rfl (lv_at hl 2 rfl) ?_
  refine jk_callS (As := [.int vd]) (rest := []) (ws1 := (jm_W g a (jm_uto M ((jm_to M) + x3)))) ⟨hx, hb, hml, hown, hts⟩ (c_X2_firstIndexOf l D g vd) (va_cwS 1 hts gX2_emptySectors_X2_firstIndexOf rfl rfl rfl (by decide +kernel) ⟨Nat.le_of_ble_eq_true rfl, Nat.le_of_ble_eq_true rfl⟩) jk_nilP (jk_nilD (A := A)) hK hN rfl hl rfl (Nat.le_of_ble_eq_true rfl) dX2_emptySectors_29 ⟨Nat.zero_le _, Nat.zero_le _⟩ hS hA (fun _ _ hk => jk_keep hP hk) (fun H locs hP hS => ?_)
  refine W.eq (g2 := F0 m 32 ls [.int (rX2_firstIndexOf vd)]) rfl ?_
  refine lv_topi (fun x4 ex4 => ?_)
  refine lv_istore_n (lv' := [(3, .int x4), (2, .int (x1 + x2)), (0, .ref (a 0)), (1, .int vd)]) hx hb dX2_emptySectors_32 rfl hl (by decide) rfl (fun ls hl => ?_)
  refine lv_iload_n hx hb dX2_emptySectors_33 rfl (lv_at hl 0 rfl) ?_
  refine lv_istore (lv' := [(4, .int x4), (3, .int x4), (2, .int (x1 + x2)), (0, .ref (a 0)), (1, .int vd)]) hx hb dX2_emptySectors_34 hl (by decide) rfl (fun ls hl => ?_)
  subst ex4
  subst ex3
  subst ex2
  subst ex1
  have hlp : ∀ (n k : Nat), k ≤ 12 → 12 < k + n → ∀ (H : Heap) (locs : List Loc), va_P D vwCl (jm_W g a (jm_uto (jm_uch M (lp_zero (jm_ch M) (rX2_firstIndexOf vd) k)) ((jm_to M) + (lp_sum (jm_ch M) (rX2_firstIndexOf vd) 12)))) H → va_S A s.heap H locs → ∀ ls : Array Slot, lv_has ls 5 [(0, .ref (a 0)), (1, .int vd), (2, .int (lp_sgn (jm_ch M) (rX2_firstIndexOf vd) 1 12 + lp_sgn (jm_ch M) (rX2_firstIndexOf vd) (-1) 12)), (3, .int (rX2_firstIndexOf vd)), (4, .int (rX2_firstIndexOf vd + nI k))] → W p l e ({ frames := 2, cells := 0, slots := 0, locals := 45 }) s m args below meth c H locs 0 0 (MQ below (jk_Q (some (.int (lp_sgn (jm_ch M) (rX2_firstIndexOf vd) 1 12 + lp_sgn (jm_ch M) (rX2_firstIndexOf vd) (-1) 12))) D (jm_W g a (jm_uto (jm_uch M (lp_zero (jm_ch M) (rX2_firstIndexOf vd) 12)) ((jm_to M) + (lp_sum (jm_ch M) (rX2_firstIndexOf vd) 12)))) A) args s 0 0 A) (F0 m 36 ls []) := by
    intro n
    induction n with
    | zero => intro k  hk1 hk2; exact absurd hk2 (by omega)
    | succ n ih =>
      intro k  hk hkn  H locs hP hS ls hl
      have hD : va_D A (jm_W g a (jm_uto (jm_uch M (lp_zero (jm_ch M) (rX2_firstIndexOf vd) k)) ((jm_to M) + (lp_sum (jm_ch M) (rX2_firstIndexOf vd) 12)))) := jk_D.same hD rfl
      refine lv_iload hx hb dX2_emptySectors_36 (lv_at hl 4 rfl) ?_
      refine lv_iload_n hx hb dX2_emptySectors_38 rfl (lv_at hl 3 rfl) ?_
      refine lv_bipush (v := 12) hx hb dX2_emptySectors_39 (by decide) ?_
      refine lv_iadd hx hb dX2_emptySectors_41 ?_
      refine lv_icmp_ge (tgt := 59) hx hb dX2_emptySectors_42 (by decide) (fun c5 => ?_) (fun c5 => ?_)
      · have hk12 : k = 12 := jk_fi_exit hk c5
        subst hk12
        refine lv_iload_n hx hb dX2_emptySectors_59 rfl (lv_at hl 2 rfl) ?_
        exact jk_iret hx hb hr hlocks hP hS rfl (congrArg (fun z => (jm_W g a z)) (rfl)) dX2_emptySectors_60
      · have hlt : k < 12 := jk_fi_in hk c5
        refine lv_aload_n hx hb dX2_emptySectors_45 rfl (lv_at hl 0 rfl) ?_
        refine va_get (D := D) (ci := 2) (v := .ref (a 2)) (C := RX2) (T := TX2) (N := 13) hx hb hts hi_2 hown hK hP 0 rfl rfl 1 (by decide) hf_15 (fun _ h9 => h9) rfl dX2_emptySectors_46 ?_
        refine lv_iload hx hb dX2_emptySectors_49 (lv_at hl 4 rfl) ?_
        refine lv_iconst (v := 0) hx hb dX2_emptySectors_51 (by decide) ?_
        refine va_iast (f := (lp_zero (jm_ch M) (rX2_firstIndexOf vd) k)) hx hb hK hP hD hS 2 0 rfl rfl (jk_fi_ix _ hlt) dX2_emptySectors_52 (fun H locs hP hD hS => ?_)
        obtain ⟨f6, ef6⟩ : ∃ z : Nat → Int32, z = (upd (lp_zero (jm_ch M) (rX2_firstIndexOf vd) k) (rX2_firstIndexOf vd + nI k).toNatClampNeg 0) := ⟨_, rfl⟩
        rw [← ef6] at hP hD
        have hP : va_P D vwCl (jm_W g a (jm_uto (jm_uch M f6) ((jm_to M) + (lp_sum (jm_ch M) (rX2_firstIndexOf vd) 12)))) H := hP
        have hD : va_D A (jm_W g a (jm_uto (jm_uch M f6) ((jm_to M) + (lp_sum (jm_ch M) (rX2_firstIndexOf vd) 12)))) := hD
        refine lv_iinc (v := rX2_firstIndexOf vd + nI (k + 1)) (lv' := [(4, .int (rX2_firstIndexOf vd + nI (k + 1))), (0, .ref (a 0)), (1, .int vd), (2, .int (lp_sgn (jm_ch M) (rX2_firstIndexOf vd) 1 12 + lp_sgn (jm_ch M) (rX2_firstIndexOf vd) (-1) 12)), (3, .int (rX2_firstIndexOf vd))]) hx hb dX2_emptySectors_53 hl (k := 4) rfl (by rw [← nI_1, ← Int32.add_assoc]; rfl) (by decide) rfl (fun ls hl => ?_)
        refine lv_goto (tgt := 36) hx hb dX2_emptySectors_56 (by decide) ?_
        subst ef6
        exact ih (k + 1)  (by omega) (by omega)  H locs hP hS ls (lv_sub hl [1, 2, 3, 4, 0] rfl)
  exact hlp (12 + 1) 0  (Nat.zero_le _) (by omega)  H locs hP hS ls (lv_sub hl [3, 4, 2, 1, 0] (by simp only [nI_0, Int32.add_zero]; rfl))

def rX2_chargeOfAll (M : jm_T) : Int32 := let x1 : Int32 := lp_sum (jm_ch M) (rX2_firstIndexOf (0 : Int32)) 12; let x2 : Int32 := lp_sum (jm_ch M) (rX2_firstIndexOf (1 : Int32)) 12; let x3 : Int32 := ((x1 + x2) + ((jm_ja M) 0)) + ((jm_ja M) 1); x3
set_option maxHeartbeats 4000000 in
set_option maxRecDepth 100000 in
theorem c_X2_chargeOfAll (l : Launch) (D : va_G) (g : jk_G) (a : Nat → Nat) (M : jm_T)  : jk_M l D g yX2_chargeOfAll wsX2_chargeOfAll 2 44 [.ref (a 0)] (jm_W g a M) (some (.int (rX2_chargeOfAll M))) (jm_W g a M) := by
  refine jk_of (cc := cX2_chargeOfAll) (maxL := 1) (ret := (some .int)) (by decide +kernel) rfl (Nat.le_of_ble_eq_true rfl) ?_
  intro p e s m args below meth c hx hb hr hml hts hown hlocks hK hN A H locs hP hD hA hS ls hl
  have hown : s.vm.findClass RX2 = some m.cls := hown
  have hl : lv_has ls 1 [(0, .ref (a 0))] := hl
  have hf_18 := hts (.fieldLink RX2 18 "InfluenceJars$Machine" "jars" "[I") (by decide +kernel)
  have hi_2 : ∀ w ∈ u_ws RX2 TX2 13, w ∈ wsX2_chargeOfAll := by decide +kernel
  refine lv_aload_n hx hb dX2_chargeOfAll_0 rfl (lv_at hl 0 rfl) ?_
  refine lv_iconst (v := 0) hx hb dX2_chargeOfAll_1 (by decide) ?_
  refine jk_callV (As := [.int 0]) (rest := []) (ws1 := (jm_W g a M)) ⟨hx, hb, hml, hown, hts⟩ (c_X2_sumOfDisc l D g a M (0 : Int32)) (cwV 1 hts gX2_chargeOfAll_X2_sumOfDisc rfl rfl rfl (by decide +kernel) ⟨Nat.le_of_ble_eq_true rfl, Nat.le_of_ble_eq_true rfl⟩) (va_recv hK hP (ci := 2) (q0 := 0) rfl rfl) hP hD hK hN rfl hl rfl (Nat.le_of_ble_eq_true rfl) dX2_chargeOfAll_2 ⟨Nat.zero_le _, Nat.zero_le _⟩ hS hA (fun _ h _ => h) (fun H locs hP hS => ?_)
  refine W.eq (g2 := F0 m 5 ls [.int (lp_sum (jm_ch M) (rX2_firstIndexOf (0 : Int32)) 12)]) rfl ?_
  refine lv_topi (fun x1 ex1 => ?_)
  refine lv_aload_n hx hb dX2_chargeOfAll_5 rfl (lv_at hl 0 rfl) ?_
  refine lv_iconst (v := 1) hx hb dX2_chargeOfAll_6 (by decide) ?_
  refine jk_callV (As := [.int 1]) (rest := [.int x1]) (ws1 := (jm_W g a M)) ⟨hx, hb, hml, hown, hts⟩ (c_X2_sumOfDisc l D g a M (1 : Int32)) (cwV 1 hts gX2_chargeOfAll_X2_sumOfDisc rfl rfl rfl (by decide +kernel) ⟨Nat.le_of_ble_eq_true rfl, Nat.le_of_ble_eq_true rfl⟩) (va_recv hK hP (ci := 2) (q0 := 0) rfl rfl) hP hD hK hN rfl hl rfl (Nat.le_of_ble_eq_true rfl) dX2_chargeOfAll_7 ⟨Nat.zero_le _, Nat.zero_le _⟩ hS hA (fun _ h _ => h) (fun H locs hP hS => ?_)
  refine W.eq (g2 := F0 m 10 ls [.int (lp_sum (jm_ch M) (rX2_firstIndexOf (1 : Int32)) 12), .int x1]) rfl ?_
  refine lv_topi (fun x2 ex2 => ?_)
  refine lv_iadd hx hb dX2_chargeOfAll_10 ?_
  refine lv_aload_n hx hb dX2_chargeOfAll_11 rfl (lv_at hl 0 rfl) ?_
  refine va_get (D := D) (ci := 2) (v := .ref (a 3)) (C := RX2) (T := TX2) (N := 13) hx hb hts hi_2 hown hK hP 0 rfl rfl 2 (by decide) hf_18 (fun _ h9 => h9) rfl dX2_chargeOfAll_12 ?_
  refine lv_iconst (v := 0) hx hb dX2_chargeOfAll_15 (by decide) ?_
  refine va_iald (f := (jm_ja M)) hx hb hK hP 3 0 rfl rfl (jk_inC (by decide +kernel)) dX2_chargeOfAll_16 ?_
  refine W.eq (g2 := F0 m 17 ls [.int ((jm_ja M) 0), .int (x1 + x2)]) rfl ?_
  refine lv_iadd hx hb dX2_chargeOfAll_17 ?_
  refine lv_aload_n hx hb dX2_chargeOfAll_18 rfl (lv_at hl 0 rfl) ?_
  refine va_get (D := D) (ci := 2) (v := .ref (a 3)) (C := RX2) (T := TX2) (N := 13) hx hb hts hi_2 hown hK hP 0 rfl rfl 2 (by decide) hf_18 (fun _ h9 => h9) rfl dX2_chargeOfAll_19 ?_
  refine lv_iconst (v := 1) hx hb dX2_chargeOfAll_22 (by decide) ?_
  refine va_iald (f := (jm_ja M)) hx hb hK hP 3 0 rfl rfl (jk_inC (by decide +kernel)) dX2_chargeOfAll_23 ?_
  refine W.eq (g2 := F0 m 24 ls [.int ((jm_ja M) 1), .int ((x1 + x2) + ((jm_ja M) 0))]) rfl ?_
  refine lv_iadd hx hb dX2_chargeOfAll_24 ?_
  refine lv_topi (fun x3 ex3 => ?_)
  subst ex3
  subst ex2
  subst ex1
  exact jk_iret hx hb hr hlocks hP hS (rfl).symm rfl dX2_chargeOfAll_25

set_option maxHeartbeats 4000000 in
set_option maxRecDepth 100000 in
theorem c_X2_leakFromSectors (l : Launch) (D : va_G) (g : jk_G) (a : Nat → Nat) (M : jm_T)  : jk_M l D g yX2_leakFromSectors wsX2_leakFromSectors 0 0 [.ref (a 0)] (jm_W g a M) none (jm_W g a (lp_lk M 24)) := by
  refine jk_of (cc := cX2_leakFromSectors) (maxL := 3) (ret := none) (by decide +kernel) rfl (Nat.le_of_ble_eq_true rfl) ?_
  intro p e s m args below meth c hx hb hr hml hts hown hlocks hK hN A H locs hP hD hA hS ls hl
  have hown : s.vm.findClass RX2 = some m.cls := hown
  have hl : lv_has ls 3 [(0, .ref (a 0))] := hl
  have hf_15 := hts (.fieldLink RX2 15 "InfluenceJars$Machine" "charges" "[I") (by decide +kernel)
  have hi_2 : ∀ w ∈ u_ws RX2 TX2 13, w ∈ wsX2_leakFromSectors := by decide +kernel
  have hf_9 := hts (.fieldLink RX2 9 "InfluenceJars$Machine" "settings" "[I") (by decide +kernel)
  have hf_47 := hts (.fieldLink RX2 47 "InfluenceJars$Machine" "leaked" "I") (by decide +kernel)
  refine lv_iconst (v := 0) hx hb dX2_leakFromSectors_0 (by decide) ?_
  refine lv_istore_n (lv' := [(1, .int 0), (0, .ref (a 0))]) hx hb dX2_leakFromSectors_1 rfl hl (by decide) rfl (fun ls hl => ?_)
  have hlp : ∀ (n k : Nat), k ≤ 24 → 24 < k + n → ∀ (H : Heap) (locs : List Loc), va_P D vwCl (jm_W g a (lp_lk M k)) H → va_S A s.heap H locs → ∀ ls : Array Slot, lv_has ls 3 [(0, .ref (a 0)), (1, .int (nI k))] → W p l e ({ frames := 0, cells := 0, slots := 0, locals := 0 }) s m args below meth c H locs 0 0 (MQ below (jk_Q none D (jm_W g a (lp_lk M 24)) A) args s 0 0 A) (F0 m 2 ls []) := by
    intro n
    induction n with
    | zero => intro k  hk1 hk2; exact absurd hk2 (by omega)
    | succ n ih =>
      intro k  hk hkn  H locs hP hS ls hl
      have hD : va_D A (jm_W g a (lp_lk M k)) := jk_D.same hD rfl
      refine lv_iload_n hx hb dX2_leakFromSectors_2 rfl (lv_at hl 1 rfl) ?_
      refine lv_aload_n hx hb dX2_leakFromSectors_3 rfl (lv_at hl 0 rfl) ?_
      refine va_get (D := D) (ci := 2) (v := .ref (a 2)) (C := RX2) (T := TX2) (N := 13) hx hb hts hi_2 hown hK hP 0 rfl rfl 1 (by decide) hf_15 (fun _ h9 => h9) rfl dX2_leakFromSectors_4 ?_
      refine va_alen (v := 24) hx hb hK hP 2 0 rfl rfl rfl dX2_leakFromSectors_7 ?_
      refine lv_icmp_ge (tgt := 54) hx hb dX2_leakFromSectors_8 (by decide) (fun c1 => ?_) (fun c1 => ?_)
      · have hk9 : k = 24 := jk_ge (N := 24) (by decide) hk c1
        subst hk9
        exact jk_vret hx hb hr hlocks hP hS (congrArg (fun z => (jm_W g a z)) (rfl)) dX2_leakFromSectors_54
      · have hlt : k < 24 := jk_lt (N := 24) (by decide) hk c1
        refine lv_aload_n hx hb dX2_leakFromSectors_11 rfl (lv_at hl 0 rfl) ?_
        refine va_get (D := D) (ci := 2) (v := .ref (a 2)) (C := RX2) (T := TX2) (N := 13) hx hb hts hi_2 hown hK hP 0 rfl rfl 1 (by decide) hf_15 (fun _ h9 => h9) rfl dX2_leakFromSectors_12 ?_
        refine lv_iload_n hx hb dX2_leakFromSectors_15 rfl (lv_at hl 1 rfl) ?_
        refine va_iald (f := (jm_ch (lp_lk M k))) hx hb hK hP 2 0 rfl rfl (vp_in_nI (by omega) (by decide)) dX2_leakFromSectors_16 ?_
        refine lv_topi (fun x2 ex2 => ?_)
        refine lv_aload_n hx hb dX2_leakFromSectors_17 rfl (lv_at hl 0 rfl) ?_
        refine va_get (D := D) (ci := 2) (v := .ref (a 1)) (C := RX2) (T := TX2) (N := 13) hx hb hts hi_2 hown hK hP 0 rfl rfl 0 (by decide) hf_9 (fun _ h9 => h9) rfl dX2_leakFromSectors_18 ?_
        refine lv_iconst (v := 1) hx hb dX2_leakFromSectors_21 (by decide) ?_
        refine va_iald (f := (jm_se (lp_lk M k))) hx hb hK hP 1 0 rfl rfl (jk_inC (by decide +kernel)) dX2_leakFromSectors_22 ?_
        refine W.eq (g2 := F0 m 23 ls [.int ((jm_se (lp_lk M k)) 1), .int x2]) rfl ?_
        refine lv_imul hx hb dX2_leakFromSectors_23 ?_
        refine lv_topi (fun x3 ex3 => ?_)
        refine lv_bipush (v := 100) hx hb dX2_leakFromSectors_24 (by decide) ?_
        refine lv_idiv hx hb dX2_leakFromSectors_26 (by decide) ?_
        refine lv_istore_n (lv' := [(2, .int (x3 / 100)), (0, .ref (a 0)), (1, .int (nI k))]) hx hb dX2_leakFromSectors_27 rfl hl (by decide) rfl (fun ls hl => ?_)
        refine lv_aload_n hx hb dX2_leakFromSectors_28 rfl (lv_at hl 1 rfl) ?_
        refine va_get (D := D) (ci := 2) (v := .ref (a 2)) (C := RX2) (T := TX2) (N := 13) hx hb hts hi_2 hown hK hP 0 rfl rfl 1 (by decide) hf_15 (fun _ h9 => h9) rfl dX2_leakFromSectors_29 ?_
        refine lv_iload_n hx hb dX2_leakFromSectors_32 rfl (lv_at hl 2 rfl) ?_
        refine lv_dup2_11 hx hb dX2_leakFromSectors_33 rfl rfl ?_
        refine va_iald (f := (jm_ch (lp_lk M k))) hx hb hK hP 2 0 rfl rfl (vp_in_nI (by omega) (by decide)) dX2_leakFromSectors_34 ?_
        refine lv_topi (fun x4 ex4 => ?_)
        refine lv_iload_n hx hb dX2_leakFromSectors_35 rfl (lv_at hl 0 rfl) ?_
        refine lv_isub hx hb dX2_leakFromSectors_36 ?_
        refine va_iast (f := (jm_ch (lp_lk M k))) hx hb hK hP hD hS 2 0 rfl rfl (vp_in_nI (by omega) (by decide)) dX2_leakFromSectors_37 (fun H locs hP hD hS => ?_)
        obtain ⟨f5, ef5⟩ : ∃ z : Nat → Int32, z = (upd (jm_ch (lp_lk M k)) (nI k).toNatClampNeg (x4 - (x3 / 100))) := ⟨_, rfl⟩
        rw [← ef5] at hP hD
        have hP : va_P D vwCl (jm_W g a (jm_uch (lp_lk M k) f5)) H := hP
        have hD : va_D A (jm_W g a (jm_uch (lp_lk M k) f5)) := hD
        refine lv_aload_n hx hb dX2_leakFromSectors_38 rfl (lv_at hl 1 rfl) ?_
        refine lv_dup hx hb dX2_leakFromSectors_39 rfl ?_
        refine va_get (D := D) (ci := 2) (v := .int (jm_lk (lp_lk M k))) (C := RX2) (T := TX2) (N := 13) hx hb hts hi_2 hown hK hP 0 rfl rfl 10 (by decide) hf_47 (fun _ h9 => h9) rfl dX2_leakFromSectors_40 ?_
        refine lv_iload_n hx hb dX2_leakFromSectors_43 rfl (lv_at hl 0 rfl) ?_
        refine lv_iadd hx hb dX2_leakFromSectors_44 ?_
        refine lv_topi (fun x6 ex6 => ?_)
        refine va_put (D := D) (ci := 2) (v := .int x6) (ty := .int) (C := RX2) (T := TX2) (N := 13) hx hb hts hi_2 tyX2 tyX2_ok nmX2 hown hK hP hD hS 0 rfl rfl 10 (by decide) hf_47 (fun _ h9 => h9) rfl (by decide +kernel) rfl rfl (Nat.le_of_ble_eq_true rfl) dX2_leakFromSectors_45 (fun H locs hP hD hS => ?_)
        have hP : va_P D vwCl (jm_W g a (jm_ulk (jm_uch (lp_lk M k) f5) x6)) H := hP
        have hD : va_D A (jm_W g a (jm_ulk (jm_uch (lp_lk M k) f5) x6)) := hD
        refine lv_iinc (v := nI (k + 1)) (lv' := [(1, .int (nI (k + 1))), (2, .int (x3 / 100)), (0, .ref (a 0))]) hx hb dX2_leakFromSectors_48 hl (k := 2) rfl (nI_1 _) (by decide) rfl (fun ls hl => ?_)
        refine lv_goto (tgt := 2) hx hb dX2_leakFromSectors_51 (by decide) ?_
        subst ex6
        subst ef5
        subst ex4
        subst ex3
        subst ex2
        exact ih (k + 1)  (by omega) (by omega)  H locs hP hS ls (lv_sub hl [2, 0] rfl)
  exact hlp (24 + 1) 0  (Nat.zero_le _) (by omega)  H locs hP hS ls (lv_sub hl [1, 0] rfl)

def sX2_turnAheadOfSpark (M : jm_T) : jm_T := let S1 : jm_T := sX2_join_0 (jm_utu M ((jm_tu M) + 1)); let S2 : jm_T := sX2_join_1 S1; let S3 : jm_T := sX2_gather_0 S2; let S4 : jm_T := sX2_gather_1 S3; let S5 : jm_T := lp_lk S4 24; let S6 : jm_T := sX2_leakFromJar_0 S5; let S7 : jm_T := sX2_leakFromJar_1 S6; S7
set_option maxHeartbeats 4000000 in
set_option maxRecDepth 100000 in
theorem c_X2_turnAheadOfSpark (l : Launch) (D : va_G) (g : jk_G) (a : Nat → Nat) (M : jm_T)  : jk_M l D g yX2_turnAheadOfSpark wsX2_turnAheadOfSpark 3 77 [.ref (a 0)] (jm_W g a M) none (jm_W g a (sX2_turnAheadOfSpark M)) := by
  refine jk_of (cc := cX2_turnAheadOfSpark) (maxL := 1) (ret := none) (by decide +kernel) rfl (Nat.le_of_ble_eq_true rfl) ?_
  intro p e s m args below meth c hx hb hr hml hts hown hlocks hK hN A H locs hP hD hA hS ls hl
  have hown : s.vm.findClass RX2 = some m.cls := hown
  have hl : lv_has ls 1 [(0, .ref (a 0))] := hl
  have hf_34 := hts (.fieldLink RX2 34 "InfluenceJars$Machine" "turns" "I") (by decide +kernel)
  have hi_2 : ∀ w ∈ u_ws RX2 TX2 13, w ∈ wsX2_turnAheadOfSpark := by decide +kernel
  refine lv_aload_n hx hb dX2_turnAheadOfSpark_0 rfl (lv_at hl 0 rfl) ?_
  refine lv_dup hx hb dX2_turnAheadOfSpark_1 rfl ?_
  refine va_get (D := D) (ci := 2) (v := .int (jm_tu M)) (C := RX2) (T := TX2) (N := 13) hx hb hts hi_2 hown hK hP 0 rfl rfl 6 (by decide) hf_34 (fun _ h9 => h9) rfl dX2_turnAheadOfSpark_2 ?_
  refine lv_iconst (v := 1) hx hb dX2_turnAheadOfSpark_5 (by decide) ?_
  refine lv_iadd hx hb dX2_turnAheadOfSpark_6 ?_
  refine va_put (D := D) (ci := 2) (v := .int ((jm_tu M) + 1)) (ty := .int) (C := RX2) (T := TX2) (N := 13) hx hb hts hi_2 tyX2 tyX2_ok nmX2 hown hK hP hD hS 0 rfl rfl 6 (by decide) hf_34 (fun _ h9 => h9) rfl (by decide +kernel) rfl rfl (Nat.le_of_ble_eq_true rfl) dX2_turnAheadOfSpark_7 (fun H locs hP hD hS => ?_)
  have hP : va_P D vwCl (jm_W g a (jm_utu M ((jm_tu M) + 1))) H := hP
  have hD : va_D A (jm_W g a (jm_utu M ((jm_tu M) + 1))) := hD
  refine lv_aload_n hx hb dX2_turnAheadOfSpark_10 rfl (lv_at hl 0 rfl) ?_
  refine lv_iconst (v := 0) hx hb dX2_turnAheadOfSpark_11 (by decide) ?_
  refine lv_iconst (v := 2) hx hb dX2_turnAheadOfSpark_12 (by decide) ?_
  refine lv_bipush (v := 8) hx hb dX2_turnAheadOfSpark_13 (by decide) ?_
  obtain ⟨S1, eS1⟩ : ∃ z : jm_T, z = sX2_join_0 (jm_utu M ((jm_tu M) + 1)) := ⟨_, rfl⟩
  refine jk_callV (As := [.int 0, .int 2, .int 8]) (rest := []) (ws1 := (jm_W g a S1)) ⟨hx, hb, hml, hown, hts⟩ (c_X2_join_0 l D g a (jm_utu M ((jm_tu M) + 1))) (cwV 3 hts gX2_turnAheadOfSpark_X2_join rfl rfl rfl (by decide +kernel) ⟨Nat.le_of_ble_eq_true rfl, Nat.le_of_ble_eq_true rfl⟩) (va_recv hK hP (ci := 2) (q0 := 0) rfl rfl) hP hD hK hN rfl hl rfl (Nat.le_of_ble_eq_true rfl) dX2_turnAheadOfSpark_15 ⟨Nat.zero_le _, Nat.zero_le _⟩ hS hA (fun _ h _ => by rw [eS1]; exact h) (fun H locs hP hS => ?_)
  refine W.eq (g2 := F0 m 18 ls []) rfl ?_
  have hD : va_D A (jm_W g a S1) := jk_D.same hD rfl
  refine lv_aload_n hx hb dX2_turnAheadOfSpark_18 rfl (lv_at hl 0 rfl) ?_
  refine lv_iconst (v := 1) hx hb dX2_turnAheadOfSpark_19 (by decide) ?_
  refine lv_iconst (v := 4) hx hb dX2_turnAheadOfSpark_20 (by decide) ?_
  refine lv_bipush (v := 10) hx hb dX2_turnAheadOfSpark_21 (by decide) ?_
  obtain ⟨S2, eS2⟩ : ∃ z : jm_T, z = sX2_join_1 S1 := ⟨_, rfl⟩
  refine jk_callV (As := [.int 1, .int 4, .int 10]) (rest := []) (ws1 := (jm_W g a S2)) ⟨hx, hb, hml, hown, hts⟩ (c_X2_join_1 l D g a S1) (cwV 3 hts gX2_turnAheadOfSpark_X2_join rfl rfl rfl (by decide +kernel) ⟨Nat.le_of_ble_eq_true rfl, Nat.le_of_ble_eq_true rfl⟩) (va_recv hK hP (ci := 2) (q0 := 0) rfl rfl) hP hD hK hN rfl hl rfl (Nat.le_of_ble_eq_true rfl) dX2_turnAheadOfSpark_23 ⟨Nat.zero_le _, Nat.zero_le _⟩ hS hA (fun _ h _ => by rw [eS2]; exact h) (fun H locs hP hS => ?_)
  refine W.eq (g2 := F0 m 26 ls []) rfl ?_
  have hD : va_D A (jm_W g a S2) := jk_D.same hD rfl
  refine lv_aload_n hx hb dX2_turnAheadOfSpark_26 rfl (lv_at hl 0 rfl) ?_
  refine lv_iconst (v := 0) hx hb dX2_turnAheadOfSpark_27 (by decide) ?_
  refine lv_iconst (v := 0) hx hb dX2_turnAheadOfSpark_28 (by decide) ?_
  obtain ⟨S3, eS3⟩ : ∃ z : jm_T, z = sX2_gather_0 S2 := ⟨_, rfl⟩
  refine jk_callV (As := [.int 0, .int 0]) (rest := []) (ws1 := (jm_W g a S3)) ⟨hx, hb, hml, hown, hts⟩ (c_X2_gather_0 l D g a S2) (cwV 2 hts gX2_turnAheadOfSpark_X2_gather rfl rfl rfl (by decide +kernel) ⟨Nat.le_of_ble_eq_true rfl, Nat.le_of_ble_eq_true rfl⟩) (va_recv hK hP (ci := 2) (q0 := 0) rfl rfl) hP hD hK hN rfl hl rfl (Nat.le_of_ble_eq_true rfl) dX2_turnAheadOfSpark_29 ⟨Nat.zero_le _, Nat.zero_le _⟩ hS hA (fun _ h _ => by rw [eS3]; exact h) (fun H locs hP hS => ?_)
  refine W.eq (g2 := F0 m 32 ls []) rfl ?_
  have hD : va_D A (jm_W g a S3) := jk_D.same hD rfl
  refine lv_aload_n hx hb dX2_turnAheadOfSpark_32 rfl (lv_at hl 0 rfl) ?_
  refine lv_iconst (v := 1) hx hb dX2_turnAheadOfSpark_33 (by decide) ?_
  refine lv_bipush (v := 6) hx hb dX2_turnAheadOfSpark_34 (by decide) ?_
  obtain ⟨S4, eS4⟩ : ∃ z : jm_T, z = sX2_gather_1 S3 := ⟨_, rfl⟩
  refine jk_callV (As := [.int 1, .int 6]) (rest := []) (ws1 := (jm_W g a S4)) ⟨hx, hb, hml, hown, hts⟩ (c_X2_gather_1 l D g a S3) (cwV 2 hts gX2_turnAheadOfSpark_X2_gather rfl rfl rfl (by decide +kernel) ⟨Nat.le_of_ble_eq_true rfl, Nat.le_of_ble_eq_true rfl⟩) (va_recv hK hP (ci := 2) (q0 := 0) rfl rfl) hP hD hK hN rfl hl rfl (Nat.le_of_ble_eq_true rfl) dX2_turnAheadOfSpark_36 ⟨Nat.zero_le _, Nat.zero_le _⟩ hS hA (fun _ h _ => by rw [eS4]; exact h) (fun H locs hP hS => ?_)
  refine W.eq (g2 := F0 m 39 ls []) rfl ?_
  have hD : va_D A (jm_W g a S4) := jk_D.same hD rfl
  refine lv_aload_n hx hb dX2_turnAheadOfSpark_39 rfl (lv_at hl 0 rfl) ?_
  obtain ⟨S5, eS5⟩ : ∃ z : jm_T, z = lp_lk S4 24 := ⟨_, rfl⟩
  refine jk_callV (As := []) (rest := []) (ws1 := (jm_W g a S5)) ⟨hx, hb, hml, hown, hts⟩ (c_X2_leakFromSectors l D g a S4) (cwV 0 hts gX2_turnAheadOfSpark_X2_leakFromSectors rfl rfl rfl (by decide +kernel) ⟨Nat.le_of_ble_eq_true rfl, Nat.le_of_ble_eq_true rfl⟩) (va_recv hK hP (ci := 2) (q0 := 0) rfl rfl) hP hD hK hN rfl hl rfl (Nat.le_of_ble_eq_true rfl) dX2_turnAheadOfSpark_40 ⟨Nat.zero_le _, Nat.zero_le _⟩ hS hA (fun _ h _ => by rw [eS5]; exact h) (fun H locs hP hS => ?_)
  refine W.eq (g2 := F0 m 43 ls []) rfl ?_
  have hD : va_D A (jm_W g a S5) := jk_D.same hD rfl
  refine lv_aload_n hx hb dX2_turnAheadOfSpark_43 rfl (lv_at hl 0 rfl) ?_
  refine lv_iconst (v := 0) hx hb dX2_turnAheadOfSpark_44 (by decide) ?_
  obtain ⟨S6, eS6⟩ : ∃ z : jm_T, z = sX2_leakFromJar_0 S5 := ⟨_, rfl⟩
  refine jk_callV (As := [.int 0]) (rest := []) (ws1 := (jm_W g a S6)) ⟨hx, hb, hml, hown, hts⟩ (c_X2_leakFromJar_0 l D g a S5) (cwV 1 hts gX2_turnAheadOfSpark_X2_leakFromJar rfl rfl rfl (by decide +kernel) ⟨Nat.le_of_ble_eq_true rfl, Nat.le_of_ble_eq_true rfl⟩) (va_recv hK hP (ci := 2) (q0 := 0) rfl rfl) hP hD hK hN rfl hl rfl (Nat.le_of_ble_eq_true rfl) dX2_turnAheadOfSpark_45 ⟨Nat.zero_le _, Nat.zero_le _⟩ hS hA (fun _ h _ => by rw [eS6]; exact h) (fun H locs hP hS => ?_)
  refine W.eq (g2 := F0 m 48 ls []) rfl ?_
  have hD : va_D A (jm_W g a S6) := jk_D.same hD rfl
  refine lv_aload_n hx hb dX2_turnAheadOfSpark_48 rfl (lv_at hl 0 rfl) ?_
  refine lv_iconst (v := 1) hx hb dX2_turnAheadOfSpark_49 (by decide) ?_
  obtain ⟨S7, eS7⟩ : ∃ z : jm_T, z = sX2_leakFromJar_1 S6 := ⟨_, rfl⟩
  refine jk_callV (As := [.int 1]) (rest := []) (ws1 := (jm_W g a S7)) ⟨hx, hb, hml, hown, hts⟩ (c_X2_leakFromJar_1 l D g a S6) (cwV 1 hts gX2_turnAheadOfSpark_X2_leakFromJar rfl rfl rfl (by decide +kernel) ⟨Nat.le_of_ble_eq_true rfl, Nat.le_of_ble_eq_true rfl⟩) (va_recv hK hP (ci := 2) (q0 := 0) rfl rfl) hP hD hK hN rfl hl rfl (Nat.le_of_ble_eq_true rfl) dX2_turnAheadOfSpark_50 ⟨Nat.zero_le _, Nat.zero_le _⟩ hS hA (fun _ h _ => by rw [eS7]; exact h) (fun H locs hP hS => ?_)
  refine W.eq (g2 := F0 m 53 ls []) rfl ?_
  have hD : va_D A (jm_W g a S7) := jk_D.same hD rfl
  subst eS7
  subst eS6
  subst eS5
  subst eS4
  subst eS3
  subst eS2
  subst eS1
  exact jk_vret hx hb hr hlocks hP hS (congrArg (fun z => (jm_W g a z)) ((rfl).symm)) dX2_turnAheadOfSpark_53

def sX2_turnOnce (M : jm_T) : jm_T := let S1 : jm_T := sX2_turnAheadOfSpark M; let x2 : Int32 := rX2_isSparkDue S1; if x2 = 0 then (let S4 : jm_T := sX2_noteSign S1; S4) else (let S5 : jm_T := sX2_letJump S1; let S6 : jm_T := sX2_noteSign S5; S6)
set_option maxHeartbeats 4000000 in
set_option maxRecDepth 100000 in
theorem c_X2_turnOnce (l : Launch) (D : va_G) (g : jk_G) (a : Nat → Nat) (M : jm_T)  : jk_M l D g yX2_turnOnce wsX2_turnOnce 4 97 [.ref (a 0)] (jm_W g a M) none (jm_W g a (sX2_turnOnce M)) := by
  refine jk_of (cc := cX2_turnOnce) (maxL := 1) (ret := none) (by decide +kernel) rfl (Nat.le_of_ble_eq_true rfl) ?_
  intro p e s m args below meth c hx hb hr hml hts hown hlocks hK hN A H locs hP hD hA hS ls hl
  have hown : s.vm.findClass RX2 = some m.cls := hown
  have hl : lv_has ls 1 [(0, .ref (a 0))] := hl
  refine lv_aload_n hx hb dX2_turnOnce_0 rfl (lv_at hl 0 rfl) ?_
  obtain ⟨S1, eS1⟩ : ∃ z : jm_T, z = sX2_turnAheadOfSpark M := ⟨_, rfl⟩
  refine jk_callV (As := []) (rest := []) (ws1 := (jm_W g a S1)) ⟨hx, hb, hml, hown, hts⟩ (c_X2_turnAheadOfSpark l D g a M) (cwV 0 hts gX2_turnOnce_X2_turnAheadOfSpark rfl rfl rfl (by decide +kernel) ⟨Nat.le_of_ble_eq_true rfl, Nat.le_of_ble_eq_true rfl⟩) (va_recv hK hP (ci := 2) (q0 := 0) rfl rfl) hP hD hK hN rfl hl rfl (Nat.le_of_ble_eq_true rfl) dX2_turnOnce_1 ⟨Nat.zero_le _, Nat.zero_le _⟩ hS hA (fun _ h _ => by rw [eS1]; exact h) (fun H locs hP hS => ?_)
  refine W.eq (g2 := F0 m 4 ls []) rfl ?_
  have hD : va_D A (jm_W g a S1) := jk_D.same hD rfl
  refine lv_aload_n hx hb dX2_turnOnce_4 rfl (lv_at hl 0 rfl) ?_
  refine jk_callV (As := []) (rest := []) (ws1 := (jm_W g a S1)) ⟨hx, hb, hml, hown, hts⟩ (c_X2_isSparkDue l D g a S1) (cwV 0 hts gX2_turnOnce_X2_isSparkDue rfl rfl rfl (by decide +kernel) ⟨Nat.le_of_ble_eq_true rfl, Nat.le_of_ble_eq_true rfl⟩) (va_recv hK hP (ci := 2) (q0 := 0) rfl rfl) hP hD hK hN rfl hl rfl (Nat.le_of_ble_eq_true rfl) dX2_turnOnce_5 ⟨Nat.zero_le _, Nat.zero_le _⟩ hS hA (fun _ h _ => h) (fun H locs hP hS => ?_)
  refine W.eq (g2 := F0 m 8 ls [.int (rX2_isSparkDue S1)]) rfl ?_
  refine lv_topi (fun x2 ex2 => ?_)
  refine lv_if_eq (tgt := 15) hx hb dX2_turnOnce_8 (by decide) (fun c3 => ?_) (fun c3 => ?_)
  · refine lv_aload_n hx hb dX2_turnOnce_15 rfl (lv_at hl 0 rfl) ?_
    obtain ⟨S4, eS4⟩ : ∃ z : jm_T, z = sX2_noteSign S1 := ⟨_, rfl⟩
    refine jk_callV (As := []) (rest := []) (ws1 := (jm_W g a S4)) ⟨hx, hb, hml, hown, hts⟩ (c_X2_noteSign l D g a S1) (cwV 0 hts gX2_turnOnce_X2_noteSign rfl rfl rfl (by decide +kernel) ⟨Nat.le_of_ble_eq_true rfl, Nat.le_of_ble_eq_true rfl⟩) (va_recv hK hP (ci := 2) (q0 := 0) rfl rfl) hP hD hK hN rfl hl rfl (Nat.le_of_ble_eq_true rfl) dX2_turnOnce_16 ⟨Nat.zero_le _, Nat.zero_le _⟩ hS hA (fun _ h _ => by rw [eS4]; exact h) (fun H locs hP hS => ?_)
    refine W.eq (g2 := F0 m 19 ls []) rfl ?_
    have hD : va_D A (jm_W g a S4) := jk_D.same hD rfl
    subst eS4
    subst ex2
    subst eS1
    exact jk_vret hx hb hr hlocks hP hS (congrArg (fun z => (jm_W g a z)) (((if_pos c3).trans (rfl)).symm)) dX2_turnOnce_19
  · refine lv_aload_n hx hb dX2_turnOnce_11 rfl (lv_at hl 0 rfl) ?_
    obtain ⟨S5, eS5⟩ : ∃ z : jm_T, z = sX2_letJump S1 := ⟨_, rfl⟩
    refine jk_callV (As := []) (rest := []) (ws1 := (jm_W g a S5)) ⟨hx, hb, hml, hown, hts⟩ (c_X2_letJump l D g a S1) (cwV 0 hts gX2_turnOnce_X2_letJump rfl rfl rfl (by decide +kernel) ⟨Nat.le_of_ble_eq_true rfl, Nat.le_of_ble_eq_true rfl⟩) (va_recv hK hP (ci := 2) (q0 := 0) rfl rfl) hP hD hK hN rfl hl rfl (Nat.le_of_ble_eq_true rfl) dX2_turnOnce_12 ⟨Nat.zero_le _, Nat.zero_le _⟩ hS hA (fun _ h _ => by rw [eS5]; exact h) (fun H locs hP hS => ?_)
    refine W.eq (g2 := F0 m 15 ls []) rfl ?_
    have hD : va_D A (jm_W g a S5) := jk_D.same hD rfl
    refine lv_aload_n hx hb dX2_turnOnce_15 rfl (lv_at hl 0 rfl) ?_
    obtain ⟨S6, eS6⟩ : ∃ z : jm_T, z = sX2_noteSign S5 := ⟨_, rfl⟩
    refine jk_callV (As := []) (rest := []) (ws1 := (jm_W g a S6)) ⟨hx, hb, hml, hown, hts⟩ (c_X2_noteSign l D g a S5) (cwV 0 hts gX2_turnOnce_X2_noteSign rfl rfl rfl (by decide +kernel) ⟨Nat.le_of_ble_eq_true rfl, Nat.le_of_ble_eq_true rfl⟩) (va_recv hK hP (ci := 2) (q0 := 0) rfl rfl) hP hD hK hN rfl hl rfl (Nat.le_of_ble_eq_true rfl) dX2_turnOnce_16 ⟨Nat.zero_le _, Nat.zero_le _⟩ hS hA (fun _ h _ => by rw [eS6]; exact h) (fun H locs hP hS => ?_)
    refine W.eq (g2 := F0 m 19 ls []) rfl ?_
    have hD : va_D A (jm_W g a S6) := jk_D.same hD rfl
    subst eS6
    subst eS5
    subst ex2
    subst eS1
    exact jk_vret hx hb hr hlocks hP hS (congrArg (fun z => (jm_W g a z)) (((if_neg c3).trans (rfl)).symm)) dX2_turnOnce_19
