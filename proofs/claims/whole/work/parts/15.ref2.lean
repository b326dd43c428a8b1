def sX5_turns (M : jx_T) : jx_T := let S1 : jx_T := sX5_charges M; let S2 : jx_T := sX5_sparks S1; let x3 : Int32 := rX5_sign S2; let x7 : Int32 := (if x3 = 0 then 0 else (if ((jx_al S2) 8) = (-x3) then 1 else 0)); let x10 : Int32 := (if x3 = 0 then ((jx_al S2) 8) else x3); (jx_ual S2 (upd (upd (jx_al S2) 7 (((jx_al S2) 7) + x7)) 8 x10))
set_option maxHeartbeats 1000000 in
set_option maxRecDepth 100000 in
theorem c_X5_turns (l : Launch) (D : va_G) (g : jk_G) (a : Nat → Nat) (M : jx_T) (hk0 : jx_ok (jx_al M)) : jk_M l D g yX5_turns wsX5_turns 3 69 [.ref (a 0)] (jx_W g a M) none (jx_W g a (sX5_turns M)) := by
  refine jk_of (cc := cX5_turns) (maxL := 2) (ret := none) (by decide +kernel) rfl (Nat.le_of_ble_eq_true rfl) ?_
  intro p e s m args below meth c hx hb hr hml hts hown hlocks hK hN A H locs hP hD hA hS ls hl
  have hown : s.vm.findClass RX5 = some m.cls := hown
  have hl : lv_has ls 2 [(0, .ref (a 0))] := hl
  have hf_7 := hts (.fieldLink RX5 7 "InfluenceJarsModel" "all" "[I") (by decide +kernel)
  have hi_5 : ∀ w ∈ u_ws RX5 TX5 13, w ∈ wsX5_turns := by decide +kernel
  refine lv_aload_n hx hb dX5_turns_0 rfl (lv_at hl 0 rfl) ?_
  obtain ⟨S1, eS1⟩ : ∃ z : jx_T, z = sX5_charges M := ⟨_, rfl⟩
  refine jk_callV (As := []) (rest := []) (ws1 := (jx_W g a S1)) ⟨hx, hb, hml, hown, hts⟩ (c_X5_charges l D g a M) (cwV 0 hts gX5_turns_X5_charges rfl rfl rfl (by decide +kernel) ⟨Nat.le_of_ble_eq_true rfl, Nat.le_of_ble_eq_true rfl⟩) (va_recv hK hP (ci := 5) (q0 := 0) rfl rfl) hP hD hK hN rfl hl rfl (Nat.le_of_ble_eq_true rfl) dX5_turns_1 ⟨Nat.zero_le _, Nat.zero_le _⟩ hS hA (fun _ h _ => by rw [eS1]; exact h) (fun H locs hP hS => ?_)
  refine W.eq (g2 := F0 m 4 ls []) rfl ?_
  have hD : va_D A (jx_W g a S1) := jk_D.same hD rfl
  refine lv_aload_n hx hb dX5_turns_4 rfl (lv_at hl 0 rfl) ?_
  obtain ⟨S2, eS2⟩ : ∃ z : jx_T, z = sX5_sparks S1 := ⟨_, rfl⟩
  refine jk_callV (As := []) (rest := []) (ws1 := (jx_W g a S2)) ⟨hx, hb, hml, hown, hts⟩ (c_X5_sparks l D g a S1 (by subst_vars; exact (jx_ok_charges hk0))) (cwV 0 hts gX5_turns_X5_sparks rfl rfl rfl (by decide +kernel) ⟨Nat.le_of_ble_eq_true rfl, Nat.le_of_ble_eq_true rfl⟩) (va_recv hK hP (ci := 5) (q0 := 0) rfl rfl) hP hD hK hN rfl hl rfl (Nat.le_of_ble_eq_true rfl) dX5_turns_5 ⟨Nat.zero_le _, Nat.zero_le _⟩ hS hA (fun _ h _ => by rw [eS2]; exact h) (fun H locs hP hS => ?_)
  refine W.eq (g2 := F0 m 8 ls []) rfl ?_
  have hD : va_D A (jx_W g a S2) := jk_D.same hD rfl
  refine lv_aload_n hx hb dX5_turns_8 rfl (lv_at hl 0 rfl) ?_
  refine jk_callV (As := []) (rest := []) (ws1 := (jx_W g a S2)) ⟨hx, hb, hml, hown, hts⟩ (c_X5_sign l D g a S2) (cwV 0 hts gX5_turns_X5_sign rfl rfl rfl (by decide +kernel) ⟨Nat.le_of_ble_eq_true rfl, Nat.le_of_ble_eq_true rfl⟩) (va_recv hK hP (ci := 5) (q0 := 0) rfl rfl) hP hD hK hN rfl hl rfl (Nat.le_of_ble_eq_true rfl) dX5_turns_9 ⟨Nat.zero_le _, Nat.zero_le _⟩ hS hA (fun _ h _ => h) (fun H locs hP hS => ?_)
  refine W.eq (g2 := F0 m 12 ls [.int (rX5_sign S2)]) rfl ?_
  refine lv_topi (fun x3 ex3 => ?_)
  refine lv_istore_n (lv' := [(1, .int x3), (0, .ref (a 0))]) hx hb dX5_turns_12 rfl hl (by decide) rfl (fun ls hl => ?_)
  refine lv_aload_n hx hb dX5_turns_13 rfl (lv_at hl 1 rfl) ?_
  refine va_get (D := D) (ci := 5) (v := .ref (a 1)) (C := RX5) (T := TX5) (N := 13) hx hb hts hi_5 hown hK hP 0 rfl rfl 0 (by decide) hf_7 (fun _ h9 => h9) rfl dX5_turns_14 ?_
  refine lv_bipush (v := 7) hx hb dX5_turns_17 (by decide) ?_
  refine lv_dup2_11 hx hb dX5_turns_19 rfl rfl ?_
  refine va_iald (f := (jx_al S2)) hx hb hK hP 1 0 rfl rfl (jk_inC (by decide +kernel)) dX5_turns_20 ?_
  refine W.eq (g2 := F0 m 21 ls [.int ((jx_al S2) 7), .int 7, .ref (a 1)]) rfl ?_
  refine lv_iload_n hx hb dX5_turns_21 rfl (lv_at hl 0 rfl) ?_
  have J4 : ∀ (x7 : Int32) (H : Heap) (locs : List Loc), x7 = (if x3 = 0 then 0 else (if ((jx_al S2) 8) = (-x3) then 1 else 0)) → va_P D vwCl (jx_W g a S2) H → va_S A s.heap H locs → W p l e ({ frames := 3, cells := 0, slots := 0, locals := 69 }) s m args below meth c H locs 0 0 (MQ below (jk_Q none D (jx_W g a (sX5_turns M)) A) args s 0 0 A) (F0 m 42 ls [.int x7, .int ((jx_al S2) 7), .int 7, .ref (a 1)]) := by
    intro x7 H locs ex7 hP hS
    refine lv_iadd hx hb dX5_turns_42 ?_
    refine va_iast (f := (jx_al S2)) hx hb hK hP hD hS 1 0 rfl rfl (jk_inC (by decide +kernel)) dX5_turns_43 (fun H locs hP hD hS => ?_)
    have hP : va_P D vwCl (jx_W g a (jx_ual S2 (upd (jx_al S2) 7 (((jx_al S2) 7) + x7)))) H := hP
    have hD : va_D A (jx_W g a (jx_ual S2 (upd (jx_al S2) 7 (((jx_al S2) 7) + x7)))) := hD
    refine lv_aload_n hx hb dX5_turns_44 rfl (lv_at hl 1 rfl) ?_
    refine va_get (D := D) (ci := 5) (v := .ref (a 1)) (C := RX5) (T := TX5) (N := 13) hx hb hts hi_5 hown hK hP 0 rfl rfl 0 (by decide) hf_7 (fun _ h9 => h9) rfl dX5_turns_45 ?_
    refine lv_bipush (v := 8) hx hb dX5_turns_48 (by decide) ?_
    refine lv_iload_n hx hb dX5_turns_50 rfl (lv_at hl 0 rfl) ?_
    have J8 : ∀ (x10 : Int32) (H : Heap) (locs : List Loc), x10 = (if x3 = 0 then ((jx_al S2) 8) else x3) → va_P D vwCl (jx_W g a (jx_ual S2 (upd (jx_al S2) 7 (((jx_al S2) 7) + x7)))) H → va_S A s.heap H locs → W p l e ({ frames := 3, cells := 0, slots := 0, locals := 69 }) s m args below meth c H locs 0 0 (MQ below (jk_Q none D (jx_W g a (sX5_turns M)) A) args s 0 0 A) (F0 m 65 ls [.int x10, .int 8, .ref (a 1)]) := by
      intro x10 H locs ex10 hP hS
      refine va_iast (f := (upd (jx_al S2) 7 (((jx_al S2) 7) + x7))) hx hb hK hP hD hS 1 0 rfl rfl (jk_inC (by decide +kernel)) dX5_turns_65 (fun H locs hP hD hS => ?_)
      have hP : va_P D vwCl (jx_W g a (jx_ual S2 (upd (upd (jx_al S2) 7 (((jx_al S2) 7) + x7)) 8 x10))) H := hP
      have hD : va_D A (jx_W g a (jx_ual S2 (upd (upd (jx_al S2) 7 (((jx_al S2) 7) + x7)) 8 x10))) := hD
      subst ex10
      subst ex7
      subst ex3
      subst eS2
      subst eS1
      exact jk_vret hx hb hr hlocks hP hS (congrArg (fun z => (jx_W g a z)) ((rfl).symm)) dX5_turns_66
    refine lv_if_ne (tgt := 64) hx hb dX5_turns_51 (by decide) (fun c9 => ?_) (fun c9 => ?_)
    · refine lv_iload_n hx hb dX5_turns_64 rfl (lv_at hl 0 rfl) ?_
      exact J8 _ H locs ((if_neg c9).trans (rfl)).symm hP hS
    · refine lv_aload_n hx hb dX5_turns_54 rfl (lv_at hl 1 rfl) ?_
      refine va_get (D := D) (ci := 5) (v := .ref (a 1)) (C := RX5) (T := TX5) (N := 13) hx hb hts hi_5 hown hK hP 0 rfl rfl 0 (by decide) hf_7 (fun _ h9 => h9) rfl dX5_turns_55 ?_
      refine lv_bipush (v := 8) hx hb dX5_turns_58 (by decide) ?_
      refine va_iald (f := (upd (jx_al S2) 7 (((jx_al S2) 7) + x7))) hx hb hK hP 1 0 rfl rfl (jk_inC (by decide +kernel)) dX5_turns_60 ?_
      refine W.eq (g2 := F0 m 61 ls [.int ((jx_al S2) 8), .int 8, .ref (a 1)]) rfl ?_
      refine lv_goto (tgt := 65) hx hb dX5_turns_61 (by decide) ?_
      exact J8 _ H locs ((if_pos c9).trans (rfl)).symm hP hS
  refine lv_if_eq (tgt := 41) hx hb dX5_turns_22 (by decide) (fun c5 => ?_) (fun c5 => ?_)
  · refine lv_iconst (v := 0) hx hb dX5_turns_41 (by decide) ?_
    exact J4 _ H locs ((if_pos c5).trans (rfl)).symm hP hS
  · refine lv_aload_n hx hb dX5_turns_25 rfl (lv_at hl 1 rfl) ?_
    refine va_get (D := D) (ci := 5) (v := .ref (a 1)) (C := RX5) (T := TX5) (N := 13) hx hb hts hi_5 hown hK hP 0 rfl rfl 0 (by decide) hf_7 (fun _ h9 => h9) rfl dX5_turns_26 ?_
    refine lv_bipush (v := 8) hx hb dX5_turns_29 (by decide) ?_
    refine va_iald (f := (jx_al S2)) hx hb hK hP 1 0 rfl rfl (jk_inC (by decide +kernel)) dX5_turns_31 ?_
    refine W.eq (g2 := F0 m 32 ls [.int ((jx_al S2) 8), .int ((jx_al S2) 7), .int 7, .ref (a 1)]) rfl ?_
    refine lv_iload_n hx hb dX5_turns_32 rfl (lv_at hl 0 rfl) ?_
    refine lv_ineg hx hb dX5_turns_33 ?_
    refine lv_icmp_ne (tgt := 41) hx hb dX5_turns_34 (by decide) (fun c6 => ?_) (fun c6 => ?_)
    · refine lv_iconst (v := 0) hx hb dX5_turns_41 (by decide) ?_
      exact J4 _ H locs ((if_neg c5).trans ((if_neg c6).trans (rfl))).symm hP hS
    · refine lv_iconst (v := 1) hx hb dX5_turns_37 (by decide) ?_
      refine lv_goto (tgt := 42) hx hb dX5_turns_38 (by decide) ?_
      exact J4 _ H locs ((if_neg c5).trans ((if_pos c6).trans (rfl))).symm hP hS
