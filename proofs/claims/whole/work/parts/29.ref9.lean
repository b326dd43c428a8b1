def rX5_readsDeed (M : jx_T) : Int32 := let x3 : Int32 := (if (jx_tl M) ≤ (jx_sp M) then 0 else ((jx_tx M) (jx_sp M).toNatClampNeg)); let S4 : jx_T := sX5_takesOne (jx_ule M x3) (120 : Int32); let x5 : Int32 := rX5_takesOne (jx_ule M x3) (120 : Int32); if x5 = 0 then (let S6 : jx_T := sX5_takesOne S4 (46 : Int32); let x7 : Int32 := rX5_takesOne S4 (46 : Int32); if x7 = 0 then (let S8 : jx_T := sX5_takesOne S6 (102 : Int32); let x9 : Int32 := rX5_takesOne S6 (102 : Int32); if x9 = 0 then (let S12 : jx_T := sX5_takesOne S8 (98 : Int32); let x13 : Int32 := rX5_takesOne S8 (98 : Int32); if x13 = 0 then (0) else (let S14 : jx_T := sX5_readsTouch S12; let x15 : Int32 := rX5_readsTouch S12; if x15 = 0 then (0) else (1))) else (let S10 : jx_T := sX5_readsTouch S8; let x11 : Int32 := rX5_readsTouch S8; if x11 = 0 then (0) else (1))) else (let S16 : jx_T := sX5_readsNumber S6 (1 : Int32) (99 : Int32); let x17 : Int32 := rX5_readsNumber S6 (1 : Int32) (99 : Int32); x17)) else (1)
def sX5_readsDeed (M : jx_T) : jx_T := let x3 : Int32 := (if (jx_tl M) ≤ (jx_sp M) then 0 else ((jx_tx M) (jx_sp M).toNatClampNeg)); let S4 : jx_T := sX5_takesOne (jx_ule M x3) (120 : Int32); let x5 : Int32 := rX5_takesOne (jx_ule M x3) (120 : Int32); if x5 = 0 then (let S6 : jx_T := sX5_takesOne S4 (46 : Int32); let x7 : Int32 := rX5_takesOne S4 (46 : Int32); if x7 = 0 then (let S8 : jx_T := sX5_takesOne S6 (102 : Int32); let x9 : Int32 := rX5_takesOne S6 (102 : Int32); if x9 = 0 then (let S12 : jx_T := sX5_takesOne S8 (98 : Int32); let x13 : Int32 := rX5_takesOne S8 (98 : Int32); if x13 = 0 then (S12) else (let S14 : jx_T := sX5_readsTouch S12; let x15 : Int32 := rX5_readsTouch S12; if x15 = 0 then (S14) else (S14))) else (let S10 : jx_T := sX5_readsTouch S8; let x11 : Int32 := rX5_readsTouch S8; if x11 = 0 then (S10) else (S10))) else (let S16 : jx_T := sX5_readsNumber S6 (1 : Int32) (99 : Int32); let x17 : Int32 := rX5_readsNumber S6 (1 : Int32) (99 : Int32); S16)) else (S4)
set_option maxHeartbeats 1000000 in
set_option maxRecDepth 100000 in
theorem c_X5_readsDeed (l : Launch) (D : va_G) (g : jk_G) (a : Nat → Nat) (M : jx_T) (ht : jx_tp M) : jk_M l D g yX5_readsDeed wsX5_readsDeed 4 92 [.ref (a 0)] (jx_W g a M) (some (.int (rX5_readsDeed M))) (jx_W g a (sX5_readsDeed M)) := by
  refine jk_of (cc := cX5_readsDeed) (maxL := 1) (ret := (some .boolean)) (by decide +kernel) rfl (Nat.le_of_ble_eq_true rfl) ?_
  intro p e s m args below meth c hx hb hr hml hts hown hlocks hK hN A H locs hP hD hA hS ls hl
  have hown : s.vm.findClass RX5 = some m.cls := hown
  have hl : lv_has ls 1 [(0, .ref (a 0))] := hl
  have hf_156 := hts (.fieldLink RX5 156 "InfluenceJarsModel" "spot" "I") (by decide +kernel)
  have hi_5 : ∀ w ∈ u_ws RX5 TX5 13, w ∈ wsX5_readsDeed := by decide +kernel
  have hf_128 := hts (.fieldLink RX5 128 "InfluenceJarsModel" "textLong" "I") (by decide +kernel)
  have hf_25 := hts (.fieldLink RX5 25 "InfluenceJarsModel" "text" "[I") (by decide +kernel)
  have hf_177 := hts (.fieldLink RX5 177 "InfluenceJarsModel" "letter" "I") (by decide +kernel)
  refine lv_aload_n hx hb dX5_readsDeed_0 rfl (lv_at hl 0 rfl) ?_
  refine lv_aload_n hx hb dX5_readsDeed_1 rfl (lv_at hl 0 rfl) ?_
  refine va_get (D := D) (ci := 5) (v := .int (jx_sp M)) (C := RX5) (T := TX5) (N := 13) hx hb hts hi_5 hown hK hP 0 rfl rfl 8 (by decide) hf_156 (fun _ h9 => h9) rfl dX5_readsDeed_2 ?_
  refine lv_aload_n hx hb dX5_readsDeed_5 rfl (lv_at hl 0 rfl) ?_
  refine va_get (D := D) (ci := 5) (v := .int (jx_tl M)) (C := RX5) (T := TX5) (N := 13) hx hb hts hi_5 hown hK hP 0 rfl rfl 7 (by decide) hf_128 (fun _ h9 => h9) rfl dX5_readsDeed_6 ?_
  have J1 : ∀ (x3 : Int32) (H : Heap) (locs : List Loc), x3 = (if (jx_tl M) ≤ (jx_sp M) then 0 else ((jx_tx M) (jx_sp M).toNatClampNeg)) → va_P D vwCl (jx_W g a M) H → va_S A s.heap H locs → W p l e ({ frames := 4, cells := 0, slots := 0, locals := 92 }) s m args below meth c H locs 0 0 (MQ below (jk_Q (some (.int (rX5_readsDeed M))) D (jx_W g a (sX5_readsDeed M)) A) args s 0 0 A) (F0 m 25 ls [.int x3, .ref (a 0)]) := by
    intro x3 H locs ex3 hP hS
    refine va_put (D := D) (ci := 5) (v := .int x3) (ty := .int) (C := RX5) (T := TX5) (N := 13) hx hb hts hi_5 tyX5 tyX5_ok nmX5 hown hK hP hD hS 0 rfl rfl 10 (by decide) hf_177 (fun _ h9 => h9) rfl (by decide +kernel) rfl rfl (Nat.le_of_ble_eq_true rfl) dX5_readsDeed_25 (fun H locs hP hD hS => ?_)
    have hP : va_P D vwCl (jx_W g a (jx_ule M x3)) H := hP
    have hD : va_D A (jx_W g a (jx_ule M x3)) := hD
    refine lv_aload_n hx hb dX5_readsDeed_28 rfl (lv_at hl 0 rfl) ?_
    refine lv_bipush (v := 120) hx hb dX5_readsDeed_29 (by decide) ?_
    obtain ⟨S4, eS4⟩ : ∃ z : jx_T, z = sX5_takesOne (jx_ule M x3) (120 : Int32) := ⟨_, rfl⟩
    refine jk_callV (As := [.int 120]) (rest := []) (ws1 := (jx_W g a S4)) ⟨hx, hb, hml, hown, hts⟩ (c_X5_takesOne l D g a (jx_ule M x3) (120 : Int32) (by skip; exact (jx_tp_ule ht))) (cwV 1 hts gX5_readsDeed_X5_takesOne rfl rfl rfl (by decide +kernel) ⟨Nat.le_of_ble_eq_true rfl, Nat.le_of_ble_eq_true rfl⟩) (va_recv hK hP (ci := 5) (q0 := 0) rfl rfl) hP hD hK hN rfl hl rfl (Nat.le_of_ble_eq_true rfl) dX5_readsDeed_31 ⟨Nat.zero_le _, Nat.zero_le _⟩ hS hA (fun _ h _ => by rw [eS4]; exact h) (fun H locs hP hS => ?_)
    refine W.eq (g2 := F0 m 34 ls [.int (rX5_takesOne (jx_ule M x3) (120 : Int32))]) rfl ?_
    have hD : va_D A (jx_W g a S4) := jk_D.same hD rfl
    refine lv_topi (fun x5 ex5 => ?_)
    refine lv_if_eq (tgt := 39) hx hb dX5_readsDeed_34 (by decide) (fun c_34 => ?_) (fun c_34 => ?_)
    · refine lv_aload_n hx hb dX5_readsDeed_39 rfl (lv_at hl 0 rfl) ?_
      refine lv_bipush (v := 46) hx hb dX5_readsDeed_40 (by decide) ?_
      obtain ⟨S6, eS6⟩ : ∃ z : jx_T, z = sX5_takesOne S4 (46 : Int32) := ⟨_, rfl⟩
      refine jk_callV (As := [.int 46]) (rest := []) (ws1 := (jx_W g a S6)) ⟨hx, hb, hml, hown, hts⟩ (c_X5_takesOne l D g a S4 (46 : Int32) (by rw [eS4]; exact (jx_tp_one (jx_tp_ule ht)))) (cwV 1 hts gX5_readsDeed_X5_takesOne rfl rfl rfl (by decide +kernel) ⟨Nat.le_of_ble_eq_true rfl, Nat.le_of_ble_eq_true rfl⟩) (va_recv hK hP (ci := 5) (q0 := 0) rfl rfl) hP hD hK hN rfl hl rfl (Nat.le_of_ble_eq_true rfl) dX5_readsDeed_42 ⟨Nat.zero_le _, Nat.zero_le _⟩ hS hA (fun _ h _ => by rw [eS6]; exact h) (fun H locs hP hS => ?_)
      refine W.eq (g2 := F0 m 45 ls [.int (rX5_takesOne S4 (46 : Int32))]) rfl ?_
      have hD : va_D A (jx_W g a S6) := jk_D.same hD rfl
      refine lv_topi (fun x7 ex7 => ?_)
      refine lv_if_eq (tgt := 56) hx hb dX5_readsDeed_45 (by decide) (fun c_45 => ?_) (fun c_45 => ?_)
      · refine lv_aload_n hx hb dX5_readsDeed_56 rfl (lv_at hl 0 rfl) ?_
        refine lv_bipush (v := 102) hx hb dX5_readsDeed_57 (by decide) ?_
        obtain ⟨S8, eS8⟩ : ∃ z : jx_T, z = sX5_takesOne S6 (102 : Int32) := ⟨_, rfl⟩
        refine jk_callV (As := [.int 102]) (rest := []) (ws1 := (jx_W g a S8)) ⟨hx, hb, hml, hown, hts⟩ (c_X5_takesOne l D g a S6 (102 : Int32) (by rw [eS6, eS4]; exact (jx_tp_one (jx_tp_one (jx_tp_ule ht))))) (cwV 1 hts gX5_readsDeed_X5_takesOne rfl rfl rfl (by decide +kernel) ⟨Nat.le_of_ble_eq_true rfl, Nat.le_of_ble_eq_true rfl⟩) (va_recv hK hP (ci := 5) (q0 := 0) rfl rfl) hP hD hK hN rfl hl rfl (Nat.le_of_ble_eq_true rfl) dX5_readsDeed_59 ⟨Nat.zero_le _, Nat.zero_le _⟩ hS hA (fun _ h _ => by rw [eS8]; exact h) (fun H locs hP hS => ?_)
        refine W.eq (g2 := F0 m 62 ls [.int (rX5_takesOne S6 (102 : Int32))]) rfl ?_
        have hD : va_D A (jx_W g a S8) := jk_D.same hD rfl
        refine lv_topi (fun x9 ex9 => ?_)
        refine lv_if_ne (tgt := 74) hx hb dX5_readsDeed_62 (by decide) (fun c_62 => ?_) (fun c_62 => ?_)
        · refine lv_aload_n hx hb dX5_readsDeed_74 rfl (lv_at hl 0 rfl) ?_
          obtain ⟨S10, eS10⟩ : ∃ z : jx_T, z = sX5_readsTouch S8 := ⟨_, rfl⟩
          refine jk_callV (As := []) (rest := []) (ws1 := (jx_W g a S10)) ⟨hx, hb, hml, hown, hts⟩ (c_X5_readsTouch l D g a S8 (by rw [eS8, eS6, eS4]; exact (jx_tp_one (jx_tp_one (jx_tp_one (jx_tp_ule ht)))))) (cwV 0 hts gX5_readsDeed_X5_readsTouch rfl rfl rfl (by decide +kernel) ⟨Nat.le_of_ble_eq_true rfl, Nat.le_of_ble_eq_true rfl⟩) (va_recv hK hP (ci := 5) (q0 := 0) rfl rfl) hP hD hK hN rfl hl rfl (Nat.le_of_ble_eq_true rfl) dX5_readsDeed_75 ⟨Nat.zero_le _, Nat.zero_le _⟩ hS hA (fun _ h _ => by rw [eS10]; exact h) (fun H locs hP hS => ?_)
          refine W.eq (g2 := F0 m 78 ls [.int (rX5_readsTouch S8)]) rfl ?_
          have hD : va_D A (jx_W g a S10) := jk_D.same hD rfl
          refine lv_topi (fun x11 ex11 => ?_)
          refine lv_if_eq (tgt := 85) hx hb dX5_readsDeed_78 (by decide) (fun c_78 => ?_) (fun c_78 => ?_)
          · refine lv_iconst (v := 0) hx hb dX5_readsDeed_85 (by decide) ?_
            subst ex11
            subst eS10
            subst ex9
            subst eS8
            subst ex7
            subst eS6
            subst ex5
            subst eS4
            subst ex3
            exact jk_zret hx hb hr rfl hlocks hP hS (by unfold rX5_readsDeed; rw [if_pos c_34, if_pos c_45, if_neg c_62, if_pos c_78]) (congrArg (fun z => (jx_W g a z)) ((by unfold sX5_readsDeed; rw [if_pos c_34, if_pos c_45, if_neg c_62, if_pos c_78]))) dX5_readsDeed_86
          · refine lv_iconst (v := 1) hx hb dX5_readsDeed_81 (by decide) ?_
            refine lv_goto (tgt := 86) hx hb dX5_readsDeed_82 (by decide) ?_
            subst ex11
            subst eS10
            subst ex9
            subst eS8
            subst ex7
            subst eS6
            subst ex5
            subst eS4
            subst ex3
            exact jk_zret hx hb hr rfl hlocks hP hS (by unfold rX5_readsDeed; rw [if_pos c_34, if_pos c_45, if_neg c_62, if_neg c_78]) (congrArg (fun z => (jx_W g a z)) ((by unfold sX5_readsDeed; rw [if_pos c_34, if_pos c_45, if_neg c_62, if_neg c_78]))) dX5_readsDeed_86
        · refine lv_aload_n hx hb dX5_readsDeed_65 rfl (lv_at hl 0 rfl) ?_
          refine lv_bipush (v := 98) hx hb dX5_readsDeed_66 (by decide) ?_
          obtain ⟨S12, eS12⟩ : ∃ z : jx_T, z = sX5_takesOne S8 (98 : Int32) := ⟨_, rfl⟩
          refine jk_callV (As := [.int 98]) (rest := []) (ws1 := (jx_W g a S12)) ⟨hx, hb, hml, hown, hts⟩ (c_X5_takesOne l D g a S8 (98 : Int32) (by rw [eS8, eS6, eS4]; exact (jx_tp_one (jx_tp_one (jx_tp_one (jx_tp_ule ht)))))) (cwV 1 hts gX5_readsDeed_X5_takesOne rfl rfl rfl (by decide +kernel) ⟨Nat.le_of_ble_eq_true rfl, Nat.le_of_ble_eq_true rfl⟩) (va_recv hK hP (ci := 5) (q0 := 0) rfl rfl) hP hD hK hN rfl hl rfl (Nat.le_of_ble_eq_true rfl) dX5_readsDeed_68 ⟨Nat.zero_le _, Nat.zero_le _⟩ hS hA (fun _ h _ => by rw [eS12]; exact h) (fun H locs hP hS => ?_)
          refine W.eq (g2 := F0 m 71 ls [.int (rX5_takesOne S8 (98 : Int32))]) rfl ?_
          have hD : va_D A (jx_W g a S12) := jk_D.same hD rfl
          refine lv_topi (fun x13 ex13 => ?_)
          refine lv_if_eq (tgt := 85) hx hb dX5_readsDeed_71 (by decide) (fun c_71 => ?_) (fun c_71 => ?_)
          · refine lv_iconst (v := 0) hx hb dX5_readsDeed_85 (by decide) ?_
            subst ex13
            subst eS12
            subst ex9
            subst eS8
            subst ex7
            subst eS6
            subst ex5
            subst eS4
            subst ex3
            exact jk_zret hx hb hr rfl hlocks hP hS (by unfold rX5_readsDeed; rw [if_pos c_34, if_pos c_45, if_pos c_62, if_pos c_71]) (congrArg (fun z => (jx_W g a z)) ((by unfold sX5_readsDeed; rw [if_pos c_34, if_pos c_45, if_pos c_62, if_pos c_71]))) dX5_readsDeed_86
          · refine lv_aload_n hx hb dX5_readsDeed_74 rfl (lv_at hl 0 rfl) ?_
            obtain ⟨S14, eS14⟩ : ∃ z : jx_T, z = sX5_readsTouch S12 := ⟨_, rfl⟩
            refine jk_callV (As := []) (rest := []) (ws1 := (jx_W g a S14)) ⟨hx, hb, hml, hown, hts⟩ (c_X5_readsTouch l D g a S12 (by rw [eS12, eS8, eS6, eS4]; exact (jx_tp_one (jx_tp_one (jx_tp_one (jx_tp_one (jx_tp_ule ht))))))) (cwV 0 hts gX5_readsDeed_X5_readsTouch rfl rfl rfl (by decide +kernel) ⟨Nat.le_of_ble_eq_true rfl, Nat.le_of_ble_eq_true rfl⟩) (va_recv hK hP (ci := 5) (q0 := 0) rfl rfl) hP hD hK hN rfl hl rfl (Nat.le_of_ble_eq_true rfl) dX5_readsDeed_75 ⟨Nat.zero_le _, Nat.zero_le _⟩ hS hA (fun _ h _ => by rw [eS14]; exact h) (fun H locs hP hS => ?_)
            refine W.eq (g2 := F0 m 78 ls [.int (rX5_readsTouch S12)]) rfl ?_
            have hD : va_D A (jx_W g a S14) := jk_D.same hD rfl
            refine lv_topi (fun x15 ex15 => ?_)
            refine lv_if_eq (tgt := 85) hx hb dX5_readsDeed_78 (by decide) (fun c_78 => ?_) (fun c_78 => ?_)
            · refine lv_iconst (v := 0) hx hb dX5_readsDeed_85 (by decide) ?_
              subst ex15
              subst eS14
              subst ex13
              subst eS12
              subst ex9
              subst eS8
              subst ex7
              subst eS6
              subst ex5
              subst eS4
              subst ex3
              exact jk_zret hx hb hr rfl hlocks hP hS (by unfold rX5_readsDeed; rw [if_pos c_34, if_pos c_45, if_pos c_62, if_neg c_71, if_pos c_78]) (congrArg (fun z => (jx_W g a z)) ((by unfold sX5_readsDeed; rw [if_pos c_34, if_pos c_45, if_pos c_62, if_neg c_71, if_pos c_78]))) dX5_readsDeed_86
            · refine lv_iconst (v := 1) hx hb dX5_readsDeed_81 (by decide) ?_
              refine lv_goto (tgt := 86) hx hb dX5_readsDeed_82 (by decide) ?_
              subst ex15
              subst eS14
              subst ex13
              subst eS12
              subst ex9
              subst eS8
              subst ex7
              subst eS6
              subst ex5
              subst eS4
              subst ex3
              exact jk_zret hx hb hr rfl hlocks hP hS (by unfold rX5_readsDeed; rw [if_pos c_34, if_pos c_45, if_pos c_62, if_neg c_71, if_neg c_78]) (congrArg (fun z => (jx_W g a z)) ((by unfold sX5_readsDeed; rw [if_pos c_34, if_pos c_45, if_pos c_62, if_neg c_71, if_neg c_78]))) dX5_readsDeed_86
      · refine lv_aload_n hx hb dX5_readsDeed_48 rfl (lv_at hl 0 rfl) ?_
        refine lv_iconst (v := 1) hx hb dX5_readsDeed_49 (by decide) ?_
        refine lv_bipush (v := 99) hx hb dX5_readsDeed_50 (by decide) ?_
        obtain ⟨S16, eS16⟩ : ∃ z : jx_T, z = sX5_readsNumber S6 (1 : Int32) (99 : Int32) := ⟨_, rfl⟩
        refine jk_callV (As := [.int 1, .int 99]) (rest := []) (ws1 := (jx_W g a S16)) ⟨hx, hb, hml, hown, hts⟩ (c_X5_readsNumber l D g a S6 (1 : Int32) (99 : Int32) (by rw [eS6, eS4]; exact (jx_tp_one (jx_tp_one (jx_tp_ule ht))))) (cwV 2 hts gX5_readsDeed_X5_readsNumber rfl rfl rfl (by decide +kernel) ⟨Nat.le_of_ble_eq_true rfl, Nat.le_of_ble_eq_true rfl⟩) (va_recv hK hP (ci := 5) (q0 := 0) rfl rfl) hP hD hK hN rfl hl rfl (Nat.le_of_ble_eq_true rfl) dX5_readsDeed_52 ⟨Nat.zero_le _, Nat.zero_le _⟩ hS hA (fun _ h _ => by rw [eS16]; exact h) (fun H locs hP hS => ?_)
        refine W.eq (g2 := F0 m 55 ls [.int (rX5_readsNumber S6 (1 : Int32) (99 : Int32))]) rfl ?_
        have hD : va_D A (jx_W g a S16) := jk_D.same hD rfl
        refine lv_topi (fun x17 ex17 => ?_)
        subst ex17
        subst eS16
        subst ex7
        subst eS6
        subst ex5
        subst eS4
        subst ex3
        exact jk_zret hx hb hr (jx_num_nar _ _ _) hlocks hP hS (by unfold rX5_readsDeed; rw [if_pos c_34, if_neg c_45]) (congrArg (fun z => (jx_W g a z)) ((by unfold sX5_readsDeed; rw [if_pos c_34, if_neg c_45]))) dX5_readsDeed_55
    · refine lv_iconst (v := 1) hx hb dX5_readsDeed_37 (by decide) ?_
      subst ex5
      subst eS4
      subst ex3
      exact jk_zret hx hb hr rfl hlocks hP hS (by unfold rX5_readsDeed; rw [if_neg c_34]) (congrArg (fun z => (jx_W g a z)) ((by unfold sX5_readsDeed; rw [if_neg c_34]))) dX5_readsDeed_38
  refine lv_icmp_ge (tgt := 24) hx hb dX5_readsDeed_9 (by decide) (fun c_9 => ?_) (fun c_9 => ?_)
  · refine lv_iconst (v := 0) hx hb dX5_readsDeed_24 (by decide) ?_
    exact J1 _ H locs ((if_pos c_9).trans (rfl)).symm hP hS
  · refine lv_aload_n hx hb dX5_readsDeed_12 rfl (lv_at hl 0 rfl) ?_
    refine va_get (D := D) (ci := 5) (v := .ref (a 6)) (C := RX5) (T := TX5) (N := 13) hx hb hts hi_5 hown hK hP 0 rfl rfl 6 (by decide) hf_25 (fun _ h9 => h9) rfl dX5_readsDeed_13 ?_
    refine lv_aload_n hx hb dX5_readsDeed_16 rfl (lv_at hl 0 rfl) ?_
    refine va_get (D := D) (ci := 5) (v := .int (jx_sp M)) (C := RX5) (T := TX5) (N := 13) hx hb hts hi_5 hown hK hP 0 rfl rfl 8 (by decide) hf_156 (fun _ h9 => h9) rfl dX5_readsDeed_17 ?_
    refine va_iald (f := (jx_tx M)) hx hb hK hP 6 0 rfl rfl (by subst_vars; exact jx_tp_lt ht c_9) dX5_readsDeed_20 ?_
    refine lv_topi (fun x2 ex2 => ?_)
    refine lv_goto (tgt := 25) hx hb dX5_readsDeed_21 (by decide) ?_
    subst ex2
    exact J1 _ H locs ((if_neg c_9).trans (rfl)).symm hP hS
