def rX5_readsTouch (M : jx_T) : Int32 := let S1 : jx_T := sX5_readsNumber M (0 : Int32) (11 : Int32); let x2 : Int32 := rX5_readsNumber M (0 : Int32) (11 : Int32); let x3 : Int32 := (jx_nu S1); if x2 = 0 then (0) else (let S4 : jx_T := sX5_takesOne (jx_upl S1 x3) (61 : Int32); let x5 : Int32 := rX5_takesOne (jx_upl S1 x3) (61 : Int32); if x5 = 0 then (0) else (let S6 : jx_T := sX5_takesOne S4 (45 : Int32); let x7 : Int32 := rX5_takesOne S4 (45 : Int32); let S8 : jx_T := sX5_readsNumber S6 (0 : Int32) (99 : Int32); let x9 : Int32 := rX5_readsNumber S6 (0 : Int32) (99 : Int32); let x11 : Int32 := (if x7 = 0 then (jx_nu S8) else (-(jx_nu S8))); x9))
def sX5_readsTouch (M : jx_T) : jx_T := let S1 : jx_T := sX5_readsNumber M (0 : Int32) (11 : Int32); let x2 : Int32 := rX5_readsNumber M (0 : Int32) (11 : Int32); let x3 : Int32 := (jx_nu S1); if x2 = 0 then ((jx_upl S1 x3)) else (let S4 : jx_T := sX5_takesOne (jx_upl S1 x3) (61 : Int32); let x5 : Int32 := rX5_takesOne (jx_upl S1 x3) (61 : Int32); if x5 = 0 then (S4) else (let S6 : jx_T := sX5_takesOne S4 (45 : Int32); let x7 : Int32 := rX5_takesOne S4 (45 : Int32); let S8 : jx_T := sX5_readsNumber S6 (0 : Int32) (99 : Int32); let x9 : Int32 := rX5_readsNumber S6 (0 : Int32) (99 : Int32); let x11 : Int32 := (if x7 = 0 then (jx_nu S8) else (-(jx_nu S8))); (jx_ucg S8 x11)))
set_option maxHeartbeats 1000000 in
set_option maxRecDepth 100000 in
theorem c_X5_readsTouch (l : Launch) (D : va_G) (g : jk_G) (a : Nat → Nat) (M : jx_T) (ht : jx_tp M) : jk_M l D g yX5_readsTouch wsX5_readsTouch 3 69 [.ref (a 0)] (jx_W g a M) (some (.int (rX5_readsTouch M))) (jx_W g a (sX5_readsTouch M)) := by
  refine jk_of (cc := cX5_readsTouch) (maxL := 4) (ret := (some .boolean)) (by decide +kernel) rfl (Nat.le_of_ble_eq_true rfl) ?_
  intro p e s m args below meth c hx hb hr hml hts hown hlocks hK hN A H locs hP hD hA hS ls hl
  have hown : s.vm.findClass RX5 = some m.cls := hown
  have hl : lv_has ls 4 [(0, .ref (a 0))] := hl
  have hf_162 := hts (.fieldLink RX5 162 "InfluenceJarsModel" "number" "I") (by decide +kernel)
  have hi_5 : ∀ w ∈ u_ws RX5 TX5 13, w ∈ wsX5_readsTouch := by decide +kernel
  have hf_168 := hts (.fieldLink RX5 168 "InfluenceJarsModel" "place" "I") (by decide +kernel)
  have hf_174 := hts (.fieldLink RX5 174 "InfluenceJarsModel" "charge" "I") (by decide +kernel)
  refine lv_aload_n hx hb dX5_readsTouch_0 rfl (lv_at hl 0 rfl) ?_
  refine lv_iconst (v := 0) hx hb dX5_readsTouch_1 (by decide) ?_
  refine lv_bipush (v := 11) hx hb dX5_readsTouch_2 (by decide) ?_
  obtain ⟨S1, eS1⟩ : ∃ z : jx_T, z = sX5_readsNumber M (0 : Int32) (11 : Int32) := ⟨_, rfl⟩
  refine jk_callV (As := [.int 0, .int 11]) (rest := []) (ws1 := (jx_W g a S1)) ⟨hx, hb, hml, hown, hts⟩ (c_X5_readsNumber l D g a M (0 : Int32) (11 : Int32) (by subst_vars; exact ht)) (cwV 2 hts gX5_readsTouch_X5_readsNumber rfl rfl rfl (by decide +kernel) ⟨Nat.le_of_ble_eq_true rfl, Nat.le_of_ble_eq_true rfl⟩) (va_recv hK hP (ci := 5) (q0 := 0) rfl rfl) hP hD hK hN rfl hl rfl (Nat.le_of_ble_eq_true rfl) dX5_readsTouch_4 ⟨Nat.zero_le _, Nat.zero_le _⟩ hS hA (fun _ h _ => by rw [eS1]; exact h) (fun H locs hP hS => ?_)
  refine W.eq (g2 := F0 m 7 ls [.int (rX5_readsNumber M (0 : Int32) (11 : Int32))]) rfl ?_
  have hD : va_D A (jx_W g a S1) := jk_D.same hD rfl
  refine lv_topi (fun x2 ex2 => ?_)
  refine lv_istore_n (lv' := [(1, .int x2), (0, .ref (a 0))]) hx hb dX5_readsTouch_7 rfl hl (by decide) rfl (fun ls hl => ?_)
  refine lv_aload_n hx hb dX5_readsTouch_8 rfl (lv_at hl 1 rfl) ?_
  refine lv_aload_n hx hb dX5_readsTouch_9 rfl (lv_at hl 1 rfl) ?_
  refine va_get (D := D) (ci := 5) (v := .int (jx_nu S1)) (C := RX5) (T := TX5) (N := 13) hx hb hts hi_5 hown hK hP 0 rfl rfl 9 (by decide) hf_162 (fun _ h9 => h9) rfl dX5_readsTouch_10 ?_
  refine lv_topi (fun x3 ex3 => ?_)
  refine va_put (D := D) (ci := 5) (v := .int x3) (ty := .int) (C := RX5) (T := TX5) (N := 13) hx hb hts hi_5 tyX5 tyX5_ok nmX5 hown hK hP hD hS 0 rfl rfl 11 (by decide) hf_168 (fun _ h9 => h9) rfl (by decide +kernel) rfl rfl (Nat.le_of_ble_eq_true rfl) dX5_readsTouch_13 (fun H locs hP hD hS => ?_)
  have hP : va_P D vwCl (jx_W g a (jx_upl S1 x3)) H := hP
  have hD : va_D A (jx_W g a (jx_upl S1 x3)) := hD
  refine lv_iload_n hx hb dX5_readsTouch_16 rfl (lv_at hl 0 rfl) ?_
  refine lv_if_eq (tgt := 29) hx hb dX5_readsTouch_17 (by decide) (fun c_17 => ?_) (fun c_17 => ?_)
  · refine lv_iconst (v := 0) hx hb dX5_readsTouch_29 (by decide) ?_
    subst ex3
    subst ex2
    subst eS1
    exact jk_zret hx hb hr rfl hlocks hP hS (by unfold rX5_readsTouch; rw [if_pos c_17]) (congrArg (fun z => (jx_W g a z)) ((by unfold sX5_readsTouch; rw [if_pos c_17]))) dX5_readsTouch_30
  · refine lv_aload_n hx hb dX5_readsTouch_20 rfl (lv_at hl 1 rfl) ?_
    refine lv_bipush (v := 61) hx hb dX5_readsTouch_21 (by decide) ?_
    obtain ⟨S4, eS4⟩ : ∃ z : jx_T, z = sX5_takesOne (jx_upl S1 x3) (61 : Int32) := ⟨_, rfl⟩
    refine jk_callV (As := [.int 61]) (rest := []) (ws1 := (jx_W g a S4)) ⟨hx, hb, hml, hown, hts⟩ (c_X5_takesOne l D g a (jx_upl S1 x3) (61 : Int32) (by subst_vars; exact jx_tp_upl (jx_tp_num ht))) (cwV 1 hts gX5_readsTouch_X5_takesOne rfl rfl rfl (by decide +kernel) ⟨Nat.le_of_ble_eq_true rfl, Nat.le_of_ble_eq_true rfl⟩) (va_recv hK hP (ci := 5) (q0 := 0) rfl rfl) hP hD hK hN rfl hl rfl (Nat.le_of_ble_eq_true rfl) dX5_readsTouch_23 ⟨Nat.zero_le _, Nat.zero_le _⟩ hS hA (fun _ h _ => by rw [eS4]; exact h) (fun H locs hP hS => ?_)
    refine W.eq (g2 := F0 m 26 ls [.int (rX5_takesOne (jx_upl S1 x3) (61 : Int32))]) rfl ?_
    have hD : va_D A (jx_W g a S4) := jk_D.same hD rfl
    refine lv_topi (fun x5 ex5 => ?_)
    refine lv_if_ne (tgt := 31) hx hb dX5_readsTouch_26 (by decide) (fun c_26 => ?_) (fun c_26 => ?_)
    · refine lv_aload_n hx hb dX5_readsTouch_31 rfl (lv_at hl 1 rfl) ?_
      refine lv_bipush (v := 45) hx hb dX5_readsTouch_32 (by decide) ?_
      obtain ⟨S6, eS6⟩ : ∃ z : jx_T, z = sX5_takesOne S4 (45 : Int32) := ⟨_, rfl⟩
      refine jk_callV (As := [.int 45]) (rest := []) (ws1 := (jx_W g a S6)) ⟨hx, hb, hml, hown, hts⟩ (c_X5_takesOne l D g a S4 (45 : Int32) (by subst_vars; exact jx_tp_one (jx_tp_upl (jx_tp_num ht)))) (cwV 1 hts gX5_readsTouch_X5_takesOne rfl rfl rfl (by decide +kernel) ⟨Nat.le_of_ble_eq_true rfl, Nat.le_of_ble_eq_true rfl⟩) (va_recv hK hP (ci := 5) (q0 := 0) rfl rfl) hP hD hK hN rfl hl rfl (Nat.le_of_ble_eq_true rfl) dX5_readsTouch_34 ⟨Nat.zero_le _, Nat.zero_le _⟩ hS hA (fun _ h _ => by rw [eS6]; exact h) (fun H locs hP hS => ?_)
      refine W.eq (g2 := F0 m 37 ls [.int (rX5_takesOne S4 (45 : Int32))]) rfl ?_
      have hD : va_D A (jx_W g a S6) := jk_D.same hD rfl
      refine lv_topi (fun x7 ex7 => ?_)
      refine lv_istore_n (lv' := [(2, .int x7), (1, .int x2), (0, .ref (a 0))]) hx hb dX5_readsTouch_37 rfl hl (by decide) rfl (fun ls hl => ?_)
      refine lv_aload_n hx hb dX5_readsTouch_38 rfl (lv_at hl 2 rfl) ?_
      refine lv_iconst (v := 0) hx hb dX5_readsTouch_39 (by decide) ?_
      refine lv_bipush (v := 99) hx hb dX5_readsTouch_40 (by decide) ?_
      obtain ⟨S8, eS8⟩ : ∃ z : jx_T, z = sX5_readsNumber S6 (0 : Int32) (99 : Int32) := ⟨_, rfl⟩
      refine jk_callV (As := [.int 0, .int 99]) (rest := []) (ws1 := (jx_W g a S8)) ⟨hx, hb, hml, hown, hts⟩ (c_X5_readsNumber l D g a S6 (0 : Int32) (99 : Int32) (by subst_vars; exact jx_tp_one (jx_tp_one (jx_tp_upl (jx_tp_num ht))))) (cwV 2 hts gX5_readsTouch_X5_readsNumber rfl rfl rfl (by decide +kernel) ⟨Nat.le_of_ble_eq_true rfl, Nat.le_of_ble_eq_true rfl⟩) (va_recv hK hP (ci := 5) (q0 := 0) rfl rfl) hP hD hK hN rfl hl rfl (Nat.le_of_ble_eq_true rfl) dX5_readsTouch_42 ⟨Nat.zero_le _, Nat.zero_le _⟩ hS hA (fun _ h _ => by rw [eS8]; exact h) (fun H locs hP hS => ?_)
      refine W.eq (g2 := F0 m 45 ls [.int (rX5_readsNumber S6 (0 : Int32) (99 : Int32))]) rfl ?_
      have hD : va_D A (jx_W g a S8) := jk_D.same hD rfl
      refine lv_topi (fun x9 ex9 => ?_)
      refine lv_istore_n (lv' := [(3, .int x9), (2, .int x7), (1, .int x2), (0, .ref (a 0))]) hx hb dX5_readsTouch_45 rfl hl (by decide) rfl (fun ls hl => ?_)
      refine lv_aload_n hx hb dX5_readsTouch_46 rfl (lv_at hl 3 rfl) ?_
      refine lv_iload_n hx hb dX5_readsTouch_47 rfl (lv_at hl 1 rfl) ?_
      have J10 : ∀ (x11 : Int32) (H : Heap) (locs : List Loc), x11 = (if x7 = 0 then (jx_nu S8) else (-(jx_nu S8))) → va_P D vwCl (jx_W g a S8) H → va_S A s.heap H locs → W p l e ({ frames := 3, cells := 0, slots := 0, locals := 69 }) s m args below meth c H locs 0 0 (MQ below (jk_Q (some (.int (rX5_readsTouch M))) D (jx_W g a (sX5_readsTouch M)) A) args s 0 0 A) (F0 m 63 ls [.int x11, .ref (a 0)]) := by
        intro x11 H locs ex11 hP hS
        refine va_put (D := D) (ci := 5) (v := .int x11) (ty := .int) (C := RX5) (T := TX5) (N := 13) hx hb hts hi_5 tyX5 tyX5_ok nmX5 hown hK hP hD hS 0 rfl rfl 12 (by decide) hf_174 (fun _ h9 => h9) rfl (by decide +kernel) rfl rfl (Nat.le_of_ble_eq_true rfl) dX5_readsTouch_63 (fun H locs hP hD hS => ?_)
        have hP : va_P D vwCl (jx_W g a (jx_ucg S8 x11)) H := hP
        have hD : va_D A (jx_W g a (jx_ucg S8 x11)) := hD
        refine lv_iload_n hx hb dX5_readsTouch_66 rfl (lv_at hl 0 rfl) ?_
        subst ex11
        subst ex9
        subst eS8
        subst ex7
        subst eS6
        subst ex5
        subst eS4
        subst ex3
        subst ex2
        subst eS1
        exact jk_zret hx hb hr (jx_num_nar _ _ _) hlocks hP hS (by unfold rX5_readsTouch; rw [if_neg c_17, if_neg c_26]) (congrArg (fun z => (jx_W g a z)) ((by unfold sX5_readsTouch; rw [if_neg c_17, if_neg c_26]))) dX5_readsTouch_67
      refine lv_if_eq (tgt := 59) hx hb dX5_readsTouch_48 (by decide) (fun c_48 => ?_) (fun c_48 => ?_)
      · refine lv_aload_n hx hb dX5_readsTouch_59 rfl (lv_at hl 3 rfl) ?_
        refine va_get (D := D) (ci := 5) (v := .int (jx_nu S8)) (C := RX5) (T := TX5) (N := 13) hx hb hts hi_5 hown hK hP 0 rfl rfl 9 (by decide) hf_162 (fun _ h9 => h9) rfl dX5_readsTouch_60 ?_
        exact J10 _ H locs ((if_pos c_48).trans (rfl)).symm hP hS
      · refine lv_aload_n hx hb dX5_readsTouch_51 rfl (lv_at hl 3 rfl) ?_
        refine va_get (D := D) (ci := 5) (v := .int (jx_nu S8)) (C := RX5) (T := TX5) (N := 13) hx hb hts hi_5 hown hK hP 0 rfl rfl 9 (by decide) hf_162 (fun _ h9 => h9) rfl dX5_readsTouch_52 ?_
        refine lv_ineg hx hb dX5_readsTouch_55 ?_
        refine lv_goto (tgt := 63) hx hb dX5_readsTouch_56 (by decide) ?_
        exact J10 _ H locs ((if_neg c_48).trans (rfl)).symm hP hS
    · refine lv_iconst (v := 0) hx hb dX5_readsTouch_29 (by decide) ?_
      subst ex5
      subst eS4
      subst ex3
      subst ex2
      subst eS1
      exact jk_zret hx hb hr rfl hlocks hP hS (by unfold rX5_readsTouch; rw [if_neg c_17, if_pos c_26]) (congrArg (fun z => (jx_W g a z)) ((by unfold sX5_readsTouch; rw [if_neg c_17, if_pos c_26]))) dX5_readsTouch_30
