theorem lc_utl {X : jx_T} {a : Int32} {Z : Int32 × jx_T} (h : (a, X) = Z) : jx_utl X 0 = jx_utl Z.2 0 := by rw [← h]
set_option maxHeartbeats 8000000 in
set_option maxRecDepth 100000 in
theorem c_X5_run (l : Launch) (D : va_G) (g : jk_G) (a : Nat → Nat) (M : jx_T) (nh : Nat) (hn6 : nh ≤ 6) (hn : jx_hl M = nI nh) (hk0 : jx_ok (jx_al M)) (ht : ∃ t : Nat, t ≤ 60 ∧ jx_tl M = nI t) : jk_M l D g yX5_run wsX5_run 6 134 [.ref (a 0)] (jx_W g a M) (some (.int (if (lx_fl 61 (jx_usp M 0)).1 = -1000006 then (lx_rn 61 (jx_usp (lx_chg (lx_fl 61 (jx_usp M 0)).2 nh) 0) 0).1 else (-1000003)))) (jx_W g a (if (lx_fl 61 (jx_usp M 0)).1 = -1000006 then jx_utl (lx_rn 61 (jx_usp (lx_chg (lx_fl 61 (jx_usp M 0)).2 nh) 0) 0).2 0 else (lx_fl 61 (jx_usp M 0)).2)) := by
  refine jk_of (cc := cX5_run) (maxL := 4) (ret := (some .int)) (by decide +kernel) rfl (Nat.le_of_ble_eq_true rfl) ?_
  intro p e s m args below meth c hx hb hr hml hts hown hlocks hK hN A H locs hP hD hA hS ls hl
  have hown : s.vm.findClass RX5 = some m.cls := hown
  have hl : lv_has ls 4 [(0, .ref (a 0))] := hl
  have hDu : ∀ (z0 : jx_T), va_D A (jx_W g a z0) := fun z0 => jk_D.same hD rfl
  obtain ⟨t, ht60, htl⟩ := id ht
  have hk_124 := hts (.constant RX5 124 (-1000006)) (by decide +kernel)
  have hf_156 := hts (.fieldLink RX5 156 "InfluenceJarsModel" "spot" "I") (by decide +kernel)
  have hi_5 : ∀ w ∈ u_ws RX5 TX5 13, w ∈ wsX5_run := by decide +kernel
  have hf_128 := hts (.fieldLink RX5 128 "InfluenceJarsModel" "textLong" "I") (by decide +kernel)
  have hk_190 := hts (.constant RX5 190 (-1000003)) (by decide +kernel)
  refine lv_aload_n hx hb dX5_run_0 rfl (lv_at hl 0 rfl) ?_
  obtain ⟨S1, eS1⟩ : ∃ z : jx_T, z = (lx_fl 61 (jx_usp M 0)).2 := ⟨_, rfl⟩
  refine jk_callV (As := []) (rest := []) (ws1 := (jx_W g a S1)) ⟨hx, hb, hml, hown, hts⟩ (c_X5_fault l D g a M (by subst_vars; exact ht)) (cwV 0 hts gX5_run_X5_fault rfl rfl rfl (by decide +kernel) ⟨Nat.le_of_ble_eq_true rfl, Nat.le_of_ble_eq_true rfl⟩) (va_recv hK hP (ci := 5) (q0 := 0) rfl rfl) hP hD hK hN rfl hl rfl (Nat.le_of_ble_eq_true rfl) dX5_run_1 ⟨Nat.zero_le _, Nat.zero_le _⟩ hS hA (fun _ h _ => by rw [eS1]; exact h) (fun H locs hP hS => ?_)
  refine W.eq (g2 := F0 m 4 ls [.int ((lx_fl 61 (jx_usp M 0)).1)]) rfl ?_
  have hD : va_D A (jx_W g a S1) := hDu _
  refine lv_topi (fun x2 ex2 => ?_)
  refine lv_ldc hx hb hown hk_124 dX5_run_4 ?_
  refine lv_icmp_eq (tgt := 12) hx hb dX5_run_6 (by decide) (fun c_6 => ?_) (fun c_6 => ?_)
  · refine lv_aload_n hx hb dX5_run_12 rfl (lv_at hl 0 rfl) ?_
    obtain ⟨S3, eS3⟩ : ∃ z : jx_T, z = lx_chg S1 nh := ⟨_, rfl⟩
    refine jk_callV (As := []) (rest := []) (ws1 := (jx_W g a S3)) ⟨hx, hb, hml, hown, hts⟩ (c_X5_changes l D g a S1 nh (by subst_vars; exact hn6) (by have qex2 := ex2.symm; subst qex2; have qeS1 := eS1.symm; subst qeS1; rw [rp_fault_hl htl ht60]; exact hn)) (cwV 0 hts gX5_run_X5_changes rfl rfl rfl (by decide +kernel) ⟨Nat.le_of_ble_eq_true rfl, Nat.le_of_ble_eq_true rfl⟩) (va_recv hK hP (ci := 5) (q0 := 0) rfl rfl) hP hD hK hN rfl hl rfl (Nat.le_of_ble_eq_true rfl) dX5_run_13 ⟨Nat.zero_le _, Nat.zero_le _⟩ hS hA (fun _ h _ => by rw [eS3]; exact h) (fun H locs hP hS => ?_)
    refine W.eq (g2 := F0 m 16 ls []) rfl ?_
    have hD : va_D A (jx_W g a S3) := hDu _
    refine lv_aload_n hx hb dX5_run_16 rfl (lv_at hl 0 rfl) ?_
    refine lv_iconst (v := 0) hx hb dX5_run_17 (by decide) ?_
    refine va_put (D := D) (ci := 5) (v := .int 0) (ty := .int) (C := RX5) (T := TX5) (N := 13) hx hb hts hi_5 tyX5 tyX5_ok nmX5 hown hK hP hD hS 0 rfl rfl 8 (by decide) hf_156 (fun _ h9 => h9) rfl (by decide +kernel) rfl rfl (Nat.le_of_ble_eq_true rfl) dX5_run_18 (fun H locs hP hD hS => ?_)
    have hP : va_P D vwCl (jx_W g a (jx_usp S3 0)) H := hP
    have hD : va_D A (jx_W g a (jx_usp S3 0)) := hD
    refine lv_iconst (v := 0) hx hb dX5_run_21 (by decide) ?_
    refine lv_istore_n (lv' := [(1, .int 0), (0, .ref (a 0))]) hx hb dX5_run_22 rfl hl (by decide) rfl (fun ls hl => ?_)
    refine lv_iconst (v := 1) hx hb dX5_run_23 (by decide) ?_
    refine lv_istore_n (lv' := [(2, .int 1), (1, .int 0), (0, .ref (a 0))]) hx hb dX5_run_24 rfl hl (by decide) rfl (fun ls hl => ?_)
    have qeS3 := eS3.symm; subst qeS3
    have qex2 := ex2.symm; subst qex2
    have qeS1 := eS1.symm; subst qeS1
    have hlp : ∀ (n k : Nat) (b : Int32) (X : jx_T) (acc : Int32), k ≤ 61 → 61 < k + n → (lx_rE b (61 - k) X acc = lx_rn 61 (jx_usp (lx_chg (lx_fl 61 (jx_usp M 0)).2 nh) 0) 0) → (lx_rI t k b X) → ∀ (H : Heap) (locs : List Loc), va_P D vwCl (jx_W g a X) H → va_S A s.heap H locs → ∀ ls : Array Slot, lv_has ls 4 [(0, .ref (a 0)), (1, .int acc), (2, .int b)] → W p l e ({ frames := 6, cells := 0, slots := 0, locals := 134 }) s m args below meth c H locs 0 0 (MQ below (jk_Q (some (.int (if (lx_fl 61 (jx_usp M 0)).1 = -1000006 then (lx_rn 61 (jx_usp (lx_chg (lx_fl 61 (jx_usp M 0)).2 nh) 0) 0).1 else (-1000003)))) D (jx_W g a (if (lx_fl 61 (jx_usp M 0)).1 = -1000006 then jx_utl (lx_rn 61 (jx_usp (lx_chg (lx_fl 61 (jx_usp M 0)).2 nh) 0) 0).2 0 else (lx_fl 61 (jx_usp M 0)).2)) A) args s 0 0 A) (F0 m 25 ls []) := by
      intro n
      induction n with
      | zero => intro k b X acc hk1 hk2; exact absurd hk2 (by omega)
      | succ n ih =>
        intro k b X acc hk hkn hE hI H locs hP hS ls hl
        have hD : va_D A (jx_W g a X) := hDu _
        refine lv_iload_n hx hb dX5_run_25 rfl (lv_at hl 2 rfl) ?_
        refine lv_if_eq (tgt := 51) hx hb dX5_run_26 (by decide) (fun c_26 => ?_) (fun c_26 => ?_)
        · have hE2 : (acc, X) = lx_rn 61 (jx_usp (lx_chg (lx_fl 61 (jx_usp M 0)).2 nh) 0) 0 := lx_rn_fin c_26 hE
          refine lv_aload_n hx hb dX5_run_51 rfl (lv_at hl 0 rfl) ?_
          refine lv_iconst (v := 0) hx hb dX5_run_52 (by decide) ?_
          refine va_put (D := D) (ci := 5) (v := .int 0) (ty := .int) (C := RX5) (T := TX5) (N := 13) hx hb hts hi_5 tyX5 tyX5_ok nmX5 hown hK hP hD hS 0 rfl rfl 7 (by decide) hf_128 (fun _ h9 => h9) rfl (by decide +kernel) rfl rfl (Nat.le_of_ble_eq_true rfl) dX5_run_53 (fun H locs hP hD hS => ?_)
          have hP : va_P D vwCl (jx_W g a (jx_utl X 0)) H := hP
          have hD : va_D A (jx_W g a (jx_utl X 0)) := hD
          refine lv_iload_n hx hb dX5_run_56 rfl (lv_at hl 1 rfl) ?_
          exact jk_iret hx hb hr hlocks hP hS (if_t1 c_6 (lc_p1 hE2)) (congrArg (fun z => (jx_W g a z)) ((if_t1 c_6 (lc_utl hE2)))) dX5_run_57
        · have hlt := lx_rI_lt hI c_26
          have hD9 := lx_rI_deed hI c_26
          refine lv_aload_n hx hb dX5_run_29 rfl (lv_at hl 0 rfl) ?_
          obtain ⟨S4, eS4⟩ : ∃ z : jx_T, z = sX5_readsDeed X := ⟨_, rfl⟩
          refine jk_callV (As := []) (rest := []) (ws1 := (jx_W g a S4)) ⟨hx, hb, hml, hown, hts⟩ (c_X5_readsDeed l D g a X (hI.1.tp)) (cwV 0 hts gX5_run_X5_readsDeed rfl rfl rfl (by decide +kernel) ⟨Nat.le_of_ble_eq_true rfl, Nat.le_of_ble_eq_true rfl⟩) (va_recv hK hP (ci := 5) (q0 := 0) rfl rfl) hP hD hK hN rfl hl rfl (Nat.le_of_ble_eq_true rfl) dX5_run_30 ⟨Nat.zero_le _, Nat.zero_le _⟩ hS hA (fun _ h _ => by rw [eS4]; exact h) (fun H locs hP hS => ?_)
          refine W.eq (g2 := F0 m 33 ls [.int (rX5_readsDeed X)]) rfl ?_
          have hD : va_D A (jx_W g a S4) := hDu _
          refine lv_topi (fun x5 ex5 => ?_)
          refine lv_istore_n (lv' := [(3, .int x5), (0, .ref (a 0)), (1, .int acc), (2, .int b)]) hx hb dX5_run_33 rfl hl (by decide) rfl (fun ls hl => ?_)
          refine lv_iload_n hx hb dX5_run_34 rfl (lv_at hl 2 rfl) ?_
          refine lv_aload_n hx hb dX5_run_35 rfl (lv_at hl 1 rfl) ?_
          obtain ⟨S6, eS6⟩ : ∃ z : jx_T, z = sX5_does S4 := ⟨_, rfl⟩
          refine jk_callV (As := []) (rest := [.int acc]) (ws1 := (jx_W g a S6)) ⟨hx, hb, hml, hown, hts⟩ (c_X5_does l D g a S4 (by rw [eS4]; exact hD9.2.1) (by rw [eS4]; exact hD9.2.2.1)) (cwV 0 hts gX5_run_X5_does rfl rfl rfl (by decide +kernel) ⟨Nat.le_of_ble_eq_true rfl, Nat.le_of_ble_eq_true rfl⟩) (va_recv hK hP (ci := 5) (q0 := 0) rfl rfl) hP hD hK hN rfl hl rfl (Nat.le_of_ble_eq_true rfl) dX5_run_36 ⟨Nat.zero_le _, Nat.zero_le _⟩ hS hA (fun _ h _ => by rw [eS6]; exact h) (fun H locs hP hS => ?_)
          refine W.eq (g2 := F0 m 39 ls [.int (rX5_does S4), .int acc]) rfl ?_
          have hD : va_D A (jx_W g a S6) := hDu _
          refine lv_topi (fun x7 ex7 => ?_)
          refine lv_iadd hx hb dX5_run_39 ?_
          refine lv_istore_n (lv' := [(1, .int (acc + x7)), (3, .int x5), (0, .ref (a 0)), (2, .int b)]) hx hb dX5_run_40 rfl hl (by decide) rfl (fun ls hl => ?_)
          refine lv_aload_n hx hb dX5_run_41 rfl (lv_at hl 2 rfl) ?_
          refine lv_bipush (v := 59) hx hb dX5_run_42 (by decide) ?_
          obtain ⟨S8, eS8⟩ : ∃ z : jx_T, z = sX5_takesOne S6 (59 : Int32) := ⟨_, rfl⟩
          refine jk_callV (As := [.int 59]) (rest := []) (ws1 := (jx_W g a S8)) ⟨hx, hb, hml, hown, hts⟩ (c_X5_takesOne l D g a S6 (59 : Int32) (by rw [eS6, eS4]; exact hD9.2.2.2.1)) (cwV 1 hts gX5_run_X5_takesOne rfl rfl rfl (by decide +kernel) ⟨Nat.le_of_ble_eq_true rfl, Nat.le_of_ble_eq_true rfl⟩) (va_recv hK hP (ci := 5) (q0 := 0) rfl rfl) hP hD hK hN rfl hl rfl (Nat.le_of_ble_eq_true rfl) dX5_run_44 ⟨Nat.zero_le _, Nat.zero_le _⟩ hS hA (fun _ h _ => by rw [eS8]; exact h) (fun H locs hP hS => ?_)
          refine W.eq (g2 := F0 m 47 ls [.int (rX5_takesOne S6 (59 : Int32))]) rfl ?_
          have hD : va_D A (jx_W g a S8) := hDu _
          refine lv_topi (fun x9 ex9 => ?_)
          refine lv_istore_n (lv' := [(2, .int x9), (1, .int (acc + x7)), (3, .int x5), (0, .ref (a 0))]) hx hb dX5_run_47 rfl hl (by decide) rfl (fun ls hl => ?_)
          refine lv_goto (tgt := 25) hx hb dX5_run_48 (by decide) ?_
          have qex9 := ex9.symm; subst qex9
          have qeS8 := eS8.symm; subst qeS8
          have qex7 := ex7.symm; subst qex7
          have qeS6 := eS6.symm; subst qeS6
          have qex5 := ex5.symm; subst qex5
          have qeS4 := eS4.symm; subst qeS4
          exact ih (k + 1) (rX5_takesOne (sX5_does (sX5_readsDeed X)) (59 : Int32)) (sX5_takesOne (sX5_does (sX5_readsDeed X)) (59 : Int32)) (acc + (rX5_does (sX5_readsDeed X))) (by omega) (by omega) (lx_rn_next hlt c_26 hE) hD9.2.2.2.2 H locs hP hS ls (lv_sub hl [3, 1, 0] rfl)
    exact hlp (61 + 1) 0 1 (jx_usp (lx_chg (lx_fl 61 (jx_usp M 0)).2 nh) 0) 0 (Nat.zero_le _) (by omega) (lx_rE_0 _ _) (lx_rI_0 htl ht60 hk0 c_6) H locs hP hS ls (lv_sub hl [2, 1, 0] rfl)
  · refine lv_ldc hx hb hown hk_190 dX5_run_9 ?_
    have qex2 := ex2.symm; subst qex2
    have qeS1 := eS1.symm; subst qeS1
    exact jk_iret hx hb hr hlocks hP hS (if_f1 c_6 rfl) (congrArg (fun z => (jx_W g a z)) ((if_f1 c_6 rfl))) dX5_run_11
