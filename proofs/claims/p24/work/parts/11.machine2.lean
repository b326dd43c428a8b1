set_option maxHeartbeats 4000000 in
set_option maxRecDepth 100000 in
theorem c_X2_turnHandle (l : Launch) (D : va_G) (g : jk_G) (a : Nat → Nat) (M : jm_T) (vt : Int32)  : jk_M l D g yX2_turnHandle wsX2_turnHandle 5 117 [.ref (a 0), .int vt] (jm_W g a M) (some (.int (jm_sp (lp_turn M vt.toNatClampNeg) - jm_sp M))) (jm_W g a (lp_turn M vt.toNatClampNeg)) := by
  refine jk_of (cc := cX2_turnHandle) (maxL := 4) (ret := (some .int)) (by decide +kernel) rfl (Nat.le_of_ble_eq_true rfl) ?_
  intro p e s m args below meth c hx hb hr hml hts hown hlocks hK hN A H locs hP hD hA hS ls hl
  have hown : s.vm.findClass RX2 = some m.cls := hown
  have hl : lv_has ls 4 [(0, .ref (a 0)), (1, .int vt)] := hl
  have hf_38 := hts (.fieldLink RX2 38 "InfluenceJars$Machine" "sparks" "I") (by decide +kernel)
  have hi_2 : ∀ w ∈ u_ws RX2 TX2 13, w ∈ wsX2_turnHandle := by decide +kernel
  refine lv_aload_n hx hb dX2_turnHandle_0 rfl (lv_at hl 0 rfl) ?_
  refine va_get (D := D) (ci := 2) (v := .int (jm_sp M)) (C := RX2) (T := TX2) (N := 13) hx hb hts hi_2 hown hK hP 0 rfl rfl 7 (by decide) hf_38 (fun _ h9 => h9) rfl dX2_turnHandle_1 ?_
  refine lv_istore_n (lv' := [(2, .int (jm_sp M)), (0, .ref (a 0)), (1, .int vt)]) hx hb dX2_turnHandle_4 rfl hl (by decide) rfl (fun ls hl => ?_)
  refine lv_iconst (v := 0) hx hb dX2_turnHandle_5 (by decide) ?_
  refine lv_istore_n (lv' := [(3, .int 0), (2, .int (jm_sp M)), (0, .ref (a 0)), (1, .int vt)]) hx hb dX2_turnHandle_6 rfl hl (by decide) rfl (fun ls hl => ?_)
  have hlp : ∀ (n k : Nat), k ≤ vt.toNatClampNeg → vt.toNatClampNeg < k + n → ∀ (H : Heap) (locs : List Loc), va_P D vwCl (jm_W g a (lp_turn M k)) H → va_S A s.heap H locs → ∀ ls : Array Slot, lv_has ls 4 [(0, .ref (a 0)), (1, .int vt), (2, .int (jm_sp M)), (3, .int (nI k))] → W p l e ({ frames := 5, cells := 0, slots := 0, locals := 117 }) s m args below meth c H locs 0 0 (MQ below (jk_Q (some (.int (jm_sp (lp_turn M vt.toNatClampNeg) - jm_sp M))) D (jm_W g a (lp_turn M vt.toNatClampNeg)) A) args s 0 0 A) (F0 m 7 ls []) := by
    intro n
    induction n with
    | zero => intro k  hk1 hk2; exact absurd hk2 (by omega)
    | succ n ih =>
      intro k  hk hkn  H locs hP hS ls hl
      have hD : va_D A (jm_W g a (lp_turn M k)) := jk_D.same hD rfl
      refine lv_iload_n hx hb dX2_turnHandle_7 rfl (lv_at hl 3 rfl) ?_
      refine lv_iload_n hx hb dX2_turnHandle_8 rfl (lv_at hl 1 rfl) ?_
      refine lv_icmp_ge (tgt := 22) hx hb dX2_turnHandle_9 (by decide) (fun c1 => ?_) (fun c1 => ?_)
      · have hk9 := jk_bge hk c1
        subst hk9
        refine lv_aload_n hx hb dX2_turnHandle_22 rfl (lv_at hl 0 rfl) ?_
        refine va_get (D := D) (ci := 2) (v := .int (jm_sp (lp_turn M vt.toNatClampNeg))) (C := RX2) (T := TX2) (N := 13) hx hb hts hi_2 hown hK hP 0 rfl rfl 7 (by decide) hf_38 (fun _ h9 => h9) rfl dX2_turnHandle_23 ?_
        refine lv_iload_n hx hb dX2_turnHandle_26 rfl (lv_at hl 2 rfl) ?_
        refine lv_isub hx hb dX2_turnHandle_27 ?_
        refine lv_topi (fun x2 ex2 => ?_)
        subst ex2
        exact jk_iret hx hb hr hlocks hP hS rfl (congrArg (fun z => (jm_W g a z)) (rfl)) dX2_turnHandle_28
      · have hlt := jk_blt hk c1
        refine lv_aload_n hx hb dX2_turnHandle_12 rfl (lv_at hl 0 rfl) ?_
        obtain ⟨S3, eS3⟩ : ∃ z : jm_T, z = sX2_turnOnce (lp_turn M k) := ⟨_, rfl⟩
        refine jk_callV (As := []) (rest := []) (ws1 := (jm_W g a S3)) ⟨hx, hb, hml, hown, hts⟩ (c_X2_turnOnce l D g a (lp_turn M k)) (cwV 0 hts gX2_turnHandle_X2_turnOnce rfl rfl rfl (by decide +kernel) ⟨Nat.le_of_ble_eq_true rfl, Nat.le_of_ble_eq_true rfl⟩) (va_recv hK hP (ci := 2) (q0 := 0) rfl rfl) hP hD hK hN rfl hl rfl (Nat.le_of_ble_eq_true rfl) dX2_turnHandle_13 ⟨Nat.zero_le _, Nat.zero_le _⟩ hS hA (fun _ h _ => by rw [eS3]; exact h) (fun H locs hP hS => ?_)
        refine W.eq (g2 := F0 m 16 ls []) rfl ?_
        have hD : va_D A (jm_W g a S3) := jk_D.same hD rfl
        refine lv_iinc (v := nI (k + 1)) (lv' := [(3, .int (nI (k + 1))), (0, .ref (a 0)), (1, .int vt), (2, .int (jm_sp M))]) hx hb dX2_turnHandle_16 hl (k := 3) rfl (nI_1 _) (by decide) rfl (fun ls hl => ?_)
        refine lv_goto (tgt := 7) hx hb dX2_turnHandle_19 (by decide) ?_
        subst eS3
        exact ih (k + 1)  (by omega) (by omega)  H locs hP hS ls (lv_sub hl [1, 2, 3, 0] rfl)
  exact hlp (vt.toNatClampNeg + 1) 0  (Nat.zero_le _) (by omega)  H locs hP hS ls (lv_sub hl [2, 3, 1, 0] rfl)

set_option maxHeartbeats 4000000 in
set_option maxRecDepth 100000 in
theorem c_X2_turnToGreatestDifference (l : Launch) (D : va_G) (g : jk_G) (a : Nat → Nat) (M : jm_T) (vt : Int32)  : jk_M l D g yX2_turnToGreatestDifference wsX2_turnToGreatestDifference 5 117 [.ref (a 0), .int vt] (jm_W g a M) (some (.int (lp_dif M vt.toNatClampNeg))) (jm_W g a (lp_turn M vt.toNatClampNeg)) := by
  refine jk_of (cc := cX2_turnToGreatestDifference) (maxL := 4) (ret := (some .int)) (by decide +kernel) rfl (Nat.le_of_ble_eq_true rfl) ?_
  intro p e s m args below meth c hx hb hr hml hts hown hlocks hK hN A H locs hP hD hA hS ls hl
  have hown : s.vm.findClass RX2 = some m.cls := hown
  have hl : lv_has ls 4 [(0, .ref (a 0)), (1, .int vt)] := hl
  have hm_71 := hts (.methodLink RX2 71 Lib.Math.max.name) (by decide +kernel)
  have hs_max := hts (.static Lib.Math.max.name) (by decide +kernel)
  have hi_Math := hts (.initialized "java/lang/Math") (by decide +kernel)
  have hc_max := hts (.code Lib.Math.max.name Lib.Math.max.code 2 (some .int)) (by exact List.mem_of_getElem? (i := 4) rfl)
  refine lv_iconst (v := 0) hx hb dX2_turnToGreatestDifference_0 (by decide) ?_
  refine lv_istore_n (lv' := [(2, .int 0), (0, .ref (a 0)), (1, .int vt)]) hx hb dX2_turnToGreatestDifference_1 rfl hl (by decide) rfl (fun ls hl => ?_)
  refine lv_iconst (v := 0) hx hb dX2_turnToGreatestDifference_2 (by decide) ?_
  refine lv_istore_n (lv' := [(3, .int 0), (2, .int 0), (0, .ref (a 0)), (1, .int vt)]) hx hb dX2_turnToGreatestDifference_3 rfl hl (by decide) rfl (fun ls hl => ?_)
  have hlp : ∀ (n k : Nat), k ≤ vt.toNatClampNeg → vt.toNatClampNeg < k + n → ∀ (H : Heap) (locs : List Loc), va_P D vwCl (jm_W g a (lp_turn M k)) H → va_S A s.heap H locs → ∀ ls : Array Slot, lv_has ls 4 [(0, .ref (a 0)), (1, .int vt), (2, .int (lp_dif M k)), (3, .int (nI k))] → W p l e ({ frames := 5, cells := 0, slots := 0, locals := 117 }) s m args below meth c H locs 0 0 (MQ below (jk_Q (some (.int (lp_dif M vt.toNatClampNeg))) D (jm_W g a (lp_turn M vt.toNatClampNeg)) A) args s 0 0 A) (F0 m 4 ls []) := by
    intro n
    induction n with
    | zero => intro k  hk1 hk2; exact absurd hk2 (by omega)
    | succ n ih =>
      intro k  hk hkn  H locs hP hS ls hl
      have hD : va_D A (jm_W g a (lp_turn M k)) := jk_D.same hD rfl
      refine lv_iload_n hx hb dX2_turnToGreatestDifference_4 rfl (lv_at hl 3 rfl) ?_
      refine lv_iload_n hx hb dX2_turnToGreatestDifference_5 rfl (lv_at hl 1 rfl) ?_
      refine lv_icmp_ge (tgt := 28) hx hb dX2_turnToGreatestDifference_6 (by decide) (fun c1 => ?_) (fun c1 => ?_)
      · have hk9 := jk_bge hk c1
        subst hk9
        refine lv_iload_n hx hb dX2_turnToGreatestDifference_28 rfl (lv_at hl 2 rfl) ?_
        exact jk_iret hx hb hr hlocks hP hS rfl (congrArg (fun z => (jm_W g a z)) (rfl)) dX2_turnToGreatestDifference_29
      · have hlt := jk_blt hk c1
        refine lv_aload_n hx hb dX2_turnToGreatestDifference_9 rfl (lv_at hl 0 rfl) ?_
        obtain ⟨S2, eS2⟩ : ∃ z : jm_T, z = sX2_turnOnce (lp_turn M k) := ⟨_, rfl⟩
        refine jk_callV (As := []) (rest := []) (ws1 := (jm_W g a S2)) ⟨hx, hb, hml, hown, hts⟩ (c_X2_turnOnce l D g a (lp_turn M k)) (cwV 0 hts gX2_turnToGreatestDifference_X2_turnOnce rfl rfl rfl (by decide +kernel) ⟨Nat.le_of_ble_eq_true rfl, Nat.le_of_ble_eq_true rfl⟩) (va_recv hK hP (ci := 2) (q0 := 0) rfl rfl) hP hD hK hN rfl hl rfl (Nat.le_of_ble_eq_true rfl) dX2_turnToGreatestDifference_10 ⟨Nat.zero_le _, Nat.zero_le _⟩ hS hA (fun _ h _ => by rw [eS2]; exact h) (fun H locs hP hS => ?_)
        refine W.eq (g2 := F0 m 13 ls []) rfl ?_
        have hD : va_D A (jm_W g a S2) := jk_D.same hD rfl
        refine lv_iload_n hx hb dX2_turnToGreatestDifference_13 rfl (lv_at hl 2 rfl) ?_
        refine lv_aload_n hx hb dX2_turnToGreatestDifference_14 rfl (lv_at hl 0 rfl) ?_
        refine jk_callV (As := []) (rest := [.int (lp_dif M k)]) (ws1 := (jm_W g a S2)) ⟨hx, hb, hml, hown, hts⟩ (c_X2_difference l D g a S2) (cwV 0 hts gX2_turnToGreatestDifference_X2_difference rfl rfl rfl (by decide +kernel) ⟨Nat.le_of_ble_eq_true rfl, Nat.le_of_ble_eq_true rfl⟩) (va_recv hK hP (ci := 2) (q0 := 0) rfl rfl) hP hD hK hN rfl hl rfl (Nat.le_of_ble_eq_true rfl) dX2_turnToGreatestDifference_15 ⟨Nat.zero_le _, Nat.zero_le _⟩ hS hA (fun _ h _ => h) (fun H locs hP hS => ?_)
        refine W.eq (g2 := F0 m 18 ls [.int (rX2_difference S2), .int (lp_dif M k)]) rfl ?_
        refine lv_topi (fun x3 ex3 => ?_)
        refine va_mmax hx hb (by rw [hml]; exact hl.1.symm) hown hm_71 hs_max hi_Math hc_max (Nat.le_of_ble_eq_true rfl) (Nat.le_of_ble_eq_true rfl) (Nat.zero_le _) (Nat.zero_le _) dX2_turnToGreatestDifference_18 ?_
        refine lv_topi (fun x4 ex4 => ?_)
        refine lv_istore_n (lv' := [(2, .int x4), (0, .ref (a 0)), (1, .int vt), (3, .int (nI k))]) hx hb dX2_turnToGreatestDifference_21 rfl hl (by decide) rfl (fun ls hl => ?_)
        refine lv_iinc (v := nI (k + 1)) (lv' := [(3, .int (nI (k + 1))), (2, .int x4), (0, .ref (a 0)), (1, .int vt)]) hx hb dX2_turnToGreatestDifference_22 hl (k := 3) rfl (nI_1 _) (by decide) rfl (fun ls hl => ?_)
        refine lv_goto (tgt := 4) hx hb dX2_turnToGreatestDifference_25 (by decide) ?_
        subst ex4
        subst ex3
        subst eS2
        exact ih (k + 1)  (by omega) (by omega)  H locs hP hS ls (lv_sub hl [2, 3, 1, 0] rfl)
  exact hlp (vt.toNatClampNeg + 1) 0  (Nat.zero_le _) (by omega)  H locs hP hS ls (lv_sub hl [2, 3, 1, 0] rfl)

set_option maxHeartbeats 4000000 in
set_option maxRecDepth 100000 in
theorem c_X2_turnToSpark (l : Launch) (D : va_G) (g : jk_G) (a : Nat → Nat) (M : jm_T) (vt : Int32) (ht : vt.toNatClampNeg < 1000000) : jk_M l D g yX2_turnToSpark wsX2_turnToSpark 4 97 [.ref (a 0), .int vt] (jm_W g a M) (some (.int ((lp_spark vt.toNatClampNeg M 1).1))) (jm_W g a ((lp_spark vt.toNatClampNeg M 1).2)) := by
  refine jk_of (cc := cX2_turnToSpark) (maxL := 3) (ret := (some .int)) (by decide +kernel) rfl (Nat.le_of_ble_eq_true rfl) ?_
  intro p e s m args below meth c hx hb hr hml hts hown hlocks hK hN A H locs hP hD hA hS ls hl
  have hown : s.vm.findClass RX2 = some m.cls := hown
  have hl : lv_has ls 3 [(0, .ref (a 0)), (1, .int vt)] := hl
  have hk_105 := hts (.constant RX2 105 (-1000006)) (by decide +kernel)
  refine lv_iconst (v := 1) hx hb dX2_turnToSpark_0 (by decide) ?_
  refine lv_istore_n (lv' := [(2, .int 1), (0, .ref (a 0)), (1, .int vt)]) hx hb dX2_turnToSpark_1 rfl hl (by decide) rfl (fun ls hl => ?_)
  have hlp : ∀ (n k : Nat), k ≤ vt.toNatClampNeg → vt.toNatClampNeg < k + n → (lp_spark (vt.toNatClampNeg - k) (lp_ahead M k) (nI (k + 1)) = lp_spark vt.toNatClampNeg M 1) → ∀ (H : Heap) (locs : List Loc), va_P D vwCl (jm_W g a (lp_ahead M k)) H → va_S A s.heap H locs → ∀ ls : Array Slot, lv_has ls 3 [(0, .ref (a 0)), (1, .int vt), (2, .int (nI (k + 1)))] → W p l e ({ frames := 4, cells := 0, slots := 0, locals := 97 }) s m args below meth c H locs 0 0 (MQ below (jk_Q (some (.int ((lp_spark vt.toNatClampNeg M 1).1))) D (jm_W g a ((lp_spark vt.toNatClampNeg M 1).2)) A) args s 0 0 A) (F0 m 2 ls []) := by
    intro n
    induction n with
    | zero => intro k  hk1 hk2; exact absurd hk2 (by omega)
    | succ n ih =>
      intro k  hk hkn hE H locs hP hS ls hl
      have hD : va_D A (jm_W g a (lp_ahead M k)) := jk_D.same hD rfl
      refine lv_iload_n hx hb dX2_turnToSpark_2 rfl (lv_at hl 2 rfl) ?_
      refine lv_iload_n hx hb dX2_turnToSpark_3 rfl (lv_at hl 1 rfl) ?_
      refine lv_icmp_gt (tgt := 26) hx hb dX2_turnToSpark_4 (by decide) (fun c1 => ?_) (fun c1 => ?_)
      · have hk9 := jk_sge ht hk c1
        refine lv_ldc hx hb hown hk_105 dX2_turnToSpark_26 ?_
        rw [hk9, Nat.sub_self] at hE
        exact jk_iret hx hb hr hlocks hP hS (by rw [← hE]; rfl) (congrArg (fun z => (jm_W g a z)) ((by rw [← hE, hk9]; rfl))) dX2_turnToSpark_28
      · have hlt := jk_slt ht hk c1
        refine lv_aload_n hx hb dX2_turnToSpark_7 rfl (lv_at hl 0 rfl) ?_
        obtain ⟨S2, eS2⟩ : ∃ z : jm_T, z = sX2_turnAheadOfSpark (lp_ahead M k) := ⟨_, rfl⟩
        refine jk_callV (As := []) (rest := []) (ws1 := (jm_W g a S2)) ⟨hx, hb, hml, hown, hts⟩ (c_X2_turnAheadOfSpark l D g a (lp_ahead M k)) (cwV 0 hts gX2_turnToSpark_X2_turnAheadOfSpark rfl rfl rfl (by decide +kernel) ⟨Nat.le_of_ble_eq_true rfl, Nat.le_of_ble_eq_true rfl⟩) (va_recv hK hP (ci := 2) (q0 := 0) rfl rfl) hP hD hK hN rfl hl rfl (Nat.le_of_ble_eq_true rfl) dX2_turnToSpark_8 ⟨Nat.zero_le _, Nat.zero_le _⟩ hS hA (fun _ h _ => by rw [eS2]; exact h) (fun H locs hP hS => ?_)
        refine W.eq (g2 := F0 m 11 ls []) rfl ?_
        have hD : va_D A (jm_W g a S2) := jk_D.same hD rfl
        refine lv_aload_n hx hb dX2_turnToSpark_11 rfl (lv_at hl 0 rfl) ?_
        refine jk_callV (As := []) (rest := []) (ws1 := (jm_W g a S2)) ⟨hx, hb, hml, hown, hts⟩ (c_X2_isSparkDue l D g a S2) (cwV 0 hts gX2_turnToSpark_X2_isSparkDue rfl rfl rfl (by decide +kernel) ⟨Nat.le_of_ble_eq_true rfl, Nat.le_of_ble_eq_true rfl⟩) (va_recv hK hP (ci := 2) (q0 := 0) rfl rfl) hP hD hK hN rfl hl rfl (Nat.le_of_ble_eq_true rfl) dX2_turnToSpark_12 ⟨Nat.zero_le _, Nat.zero_le _⟩ hS hA (fun _ h _ => h) (fun H locs hP hS => ?_)
        refine W.eq (g2 := F0 m 15 ls [.int (rX2_isSparkDue S2)]) rfl ?_
        refine lv_topi (fun x3 ex3 => ?_)
        refine lv_if_eq (tgt := 20) hx hb dX2_turnToSpark_15 (by decide) (fun c4 => ?_) (fun c4 => ?_)
        · refine lv_iinc (v := nI ((k + 1) + 1)) (lv' := [(2, .int (nI ((k + 1) + 1))), (0, .ref (a 0)), (1, .int vt)]) hx hb dX2_turnToSpark_20 hl (k := 2) rfl (nI_1 _) (by decide) rfl (fun ls hl => ?_)
          refine lv_goto (tgt := 2) hx hb dX2_turnToSpark_23 (by decide) ?_
          subst ex3
          subst eS2
          exact ih (k + 1)  (by omega) (by omega) (lp_spark_step hlt c4 hE) H locs hP hS ls (lv_sub hl [1, 2, 0] rfl)
        · refine lv_iload_n hx hb dX2_turnToSpark_18 rfl (lv_at hl 2 rfl) ?_
          subst ex3
          subst eS2
          have hE2 := lp_spark_due hlt c4 hE
          exact jk_iret hx hb hr hlocks hP hS (by rw [← hE2]) (congrArg (fun z => (jm_W g a z)) ((by rw [← hE2]; rfl))) dX2_turnToSpark_19
  exact hlp (vt.toNatClampNeg + 1) 0  (Nat.zero_le _) (by omega) rfl H locs hP hS ls (lv_sub hl [1, 2, 0] rfl)
