set_option maxHeartbeats 1000000 in
set_option maxRecDepth 100000 in
theorem c_X5_nextSpark (l : Launch) (D : va_G) (g : jk_G) (a : Nat → Nat) (M : jx_T) (vt : Int32) (hk0 : jx_ok (jx_al M)) (ht0 : 0 ≤ vt) (ht9 : vt.toNatClampNeg < 1000000) : jk_M l D g yX5_nextSpark wsX5_nextSpark 4 90 [.ref (a 0), .int vt] (jx_W g a M) (some (.int (if (lx_next (((jx_al M)) 6) (vt.toNatClampNeg + 1) (sX5_keeps M) 0).1 ≤ vt then (lx_next (((jx_al M)) 6) (vt.toNatClampNeg + 1) (sX5_keeps M) 0).1 else (-1000006)))) (jx_W g a (sX5_comesBack (lx_next (((jx_al M)) 6) (vt.toNatClampNeg + 1) (sX5_keeps M) 0).2)) := by
  refine jk_of (cc := cX5_nextSpark) (maxL := 4) (ret := (some .int)) (by decide +kernel) rfl (Nat.le_of_ble_eq_true rfl) ?_
  intro p e s m args below meth c hx hb hr hml hts hown hlocks hK hN A H locs hP hD hA hS ls hl
  have hown : s.vm.findClass RX5 = some m.cls := hown
  have hl : lv_has ls 4 [(0, .ref (a 0)), (1, .int vt)] := hl
  have hf_7 := hts (.fieldLink RX5 7 "InfluenceJarsModel" "all" "[I") (by decide +kernel)
  have hi_5 : ∀ w ∈ u_ws RX5 TX5 13, w ∈ wsX5_nextSpark := by decide +kernel
  have hk_124 := hts (.constant RX5 124 (-1000006)) (by decide +kernel)
  refine lv_aload_n hx hb dX5_nextSpark_0 rfl (lv_at hl 0 rfl) ?_
  obtain ⟨S1, eS1⟩ : ∃ z : jx_T, z = sX5_keeps M := ⟨_, rfl⟩
  refine jk_callV (As := []) (rest := []) (ws1 := (jx_W g a S1)) ⟨hx, hb, hml, hown, hts⟩ (c_X5_keeps l D g a M) (cwV 0 hts gX5_nextSpark_X5_keeps rfl rfl rfl (by decide +kernel) ⟨Nat.le_of_ble_eq_true rfl, Nat.le_of_ble_eq_true rfl⟩) (va_recv hK hP (ci := 5) (q0 := 0) rfl rfl) hP hD hK hN rfl hl rfl (Nat.le_of_ble_eq_true rfl) dX5_nextSpark_1 ⟨Nat.zero_le _, Nat.zero_le _⟩ hS hA (fun _ h _ => by rw [eS1]; exact h) (fun H locs hP hS => ?_)
  refine W.eq (g2 := F0 m 4 ls []) rfl ?_
  have hD : va_D A (jx_W g a S1) := jk_D.same hD rfl
  refine lv_aload_n hx hb dX5_nextSpark_4 rfl (lv_at hl 0 rfl) ?_
  refine va_get (D := D) (ci := 5) (v := .ref (a 1)) (C := RX5) (T := TX5) (N := 13) hx hb hts hi_5 hown hK hP 0 rfl rfl 0 (by decide) hf_7 (fun _ h9 => h9) rfl dX5_nextSpark_5 ?_
  refine lv_bipush (v := 6) hx hb dX5_nextSpark_8 (by decide) ?_
  refine va_iald (f := (jx_al S1)) hx hb hK hP 1 0 rfl rfl (jk_inC (by decide +kernel)) dX5_nextSpark_10 ?_
  refine W.eq (g2 := F0 m 11 ls [.int ((jx_al S1) 6)]) rfl ?_
  refine lv_istore_n (lv' := [(2, .int ((jx_al S1) 6)), (0, .ref (a 0)), (1, .int vt)]) hx hb dX5_nextSpark_11 rfl hl (by decide) rfl (fun ls hl => ?_)
  refine lv_iconst (v := 0) hx hb dX5_nextSpark_12 (by decide) ?_
  refine lv_istore_n (lv' := [(3, .int 0), (2, .int ((jx_al S1) 6)), (0, .ref (a 0)), (1, .int vt)]) hx hb dX5_nextSpark_13 rfl hl (by decide) rfl (fun ls hl => ?_)
  subst eS1
  have hlp : ∀ (n k : Nat), k ≤ vt.toNatClampNeg + 1 → vt.toNatClampNeg + 1 < k + n → (lx_next ((jx_al M) 6) (vt.toNatClampNeg + 1 - k) (lx_turn (sX5_keeps M) k) (nI k) = lx_next ((jx_al M) 6) (vt.toNatClampNeg + 1) (sX5_keeps M) 0) → ∀ (H : Heap) (locs : List Loc), va_P D vwCl (jx_W g a (lx_turn (sX5_keeps M) k)) H → va_S A s.heap H locs → ∀ ls : Array Slot, lv_has ls 4 [(0, .ref (a 0)), (1, .int vt), (2, .int ((jx_al M) 6)), (3, .int (nI k))] → W p l e ({ frames := 4, cells := 0, slots := 0, locals := 90 }) s m args below meth c H locs 0 0 (MQ below (jk_Q (some (.int (if (lx_next (((jx_al M)) 6) (vt.toNatClampNeg + 1) (sX5_keeps M) 0).1 ≤ vt then (lx_next (((jx_al M)) 6) (vt.toNatClampNeg + 1) (sX5_keeps M) 0).1 else (-1000006)))) D (jx_W g a (sX5_comesBack (lx_next (((jx_al M)) 6) (vt.toNatClampNeg + 1) (sX5_keeps M) 0).2)) A) args s 0 0 A) (F0 m 14 ls []) := by
    intro n
    induction n with
    | zero => intro k  hk1 hk2; exact absurd hk2 (by omega)
    | succ n ih =>
      intro k  hk hkn hE H locs hP hS ls hl
      have hD : va_D A (jx_W g a (lx_turn (sX5_keeps M) k)) := jk_D.same hD rfl
      refine lv_iload_n hx hb dX5_nextSpark_14 rfl (lv_at hl 3 rfl) ?_
      refine lv_iload_n hx hb dX5_nextSpark_15 rfl (lv_at hl 1 rfl) ?_
      refine lv_icmp_gt (tgt := 40) hx hb dX5_nextSpark_16 (by decide) (fun c2 => ?_) (fun c2 => ?_)
      · have hk9 := jk_sgt ht0 ht9 hk c2
        have hE2 : (nI k, lx_turn (sX5_keeps M) k) = lx_next (jx_al M 6) (vt.toNatClampNeg + 1) (sX5_keeps M) 0 := by rw [← hE, hk9, Nat.sub_self]; rfl
        refine lv_aload_n hx hb dX5_nextSpark_40 rfl (lv_at hl 0 rfl) ?_
        obtain ⟨S3, eS3⟩ : ∃ z : jx_T, z = sX5_comesBack (lx_turn (sX5_keeps M) k) := ⟨_, rfl⟩
        refine jk_callV (As := []) (rest := []) (ws1 := (jx_W g a S3)) ⟨hx, hb, hml, hown, hts⟩ (c_X5_comesBack l D g a (lx_turn (sX5_keeps M) k)) (cwV 0 hts gX5_nextSpark_X5_comesBack rfl rfl rfl (by decide +kernel) ⟨Nat.le_of_ble_eq_true rfl, Nat.le_of_ble_eq_true rfl⟩) (va_recv hK hP (ci := 5) (q0 := 0) rfl rfl) hP hD hK hN rfl hl rfl (Nat.le_of_ble_eq_true rfl) dX5_nextSpark_41 ⟨Nat.zero_le _, Nat.zero_le _⟩ hS hA (fun _ h _ => by rw [eS3]; exact h) (fun H locs hP hS => ?_)
        refine W.eq (g2 := F0 m 44 ls []) rfl ?_
        have hD : va_D A (jx_W g a S3) := jk_D.same hD rfl
        refine lv_iload_n hx hb dX5_nextSpark_44 rfl (lv_at hl 3 rfl) ?_
        refine lv_iload_n hx hb dX5_nextSpark_45 rfl (lv_at hl 1 rfl) ?_
        have J4 : ∀ (x6 : Int32) (H : Heap) (locs : List Loc), x6 = (if (nI k) ≤ vt then (nI k) else (-1000006)) → va_P D vwCl (jx_W g a S3) H → va_S A s.heap H locs → W p l e ({ frames := 4, cells := 0, slots := 0, locals := 90 }) s m args below meth c H locs 0 0 (MQ below (jk_Q (some (.int (if (lx_next (((jx_al M)) 6) (vt.toNatClampNeg + 1) (sX5_keeps M) 0).1 ≤ vt then (lx_next (((jx_al M)) 6) (vt.toNatClampNeg + 1) (sX5_keeps M) 0).1 else (-1000006)))) D (jx_W g a (sX5_comesBack (lx_next (((jx_al M)) 6) (vt.toNatClampNeg + 1) (sX5_keeps M) 0).2)) A) args s 0 0 A) (F0 m 55 ls [.int x6]) := by
          intro x6 H locs ex6 hP hS
          subst ex6
          subst eS3
          exact jk_iret hx hb hr hlocks hP hS (by rw [← hE2]) (congrArg (fun z => (jx_W g a z)) ((by rw [← hE2]))) dX5_nextSpark_55
        refine lv_icmp_le (tgt := 54) hx hb dX5_nextSpark_46 (by decide) (fun c5 => ?_) (fun c5 => ?_)
        · refine lv_iload_n hx hb dX5_nextSpark_54 rfl (lv_at hl 3 rfl) ?_
          exact J4 _ H locs ((if_pos c5).trans (rfl)).symm hP hS
        · refine lv_ldc hx hb hown hk_124 dX5_nextSpark_49 ?_
          refine lv_goto (tgt := 55) hx hb dX5_nextSpark_51 (by decide) ?_
          exact J4 _ H locs ((if_neg c5).trans (rfl)).symm hP hS
      · have hlt := jk_sngt ht0 ht9 hk c2
        refine lv_aload_n hx hb dX5_nextSpark_19 rfl (lv_at hl 0 rfl) ?_
        refine va_get (D := D) (ci := 5) (v := .ref (a 1)) (C := RX5) (T := TX5) (N := 13) hx hb hts hi_5 hown hK hP 0 rfl rfl 0 (by decide) hf_7 (fun _ h9 => h9) rfl dX5_nextSpark_20 ?_
        refine lv_bipush (v := 6) hx hb dX5_nextSpark_23 (by decide) ?_
        refine va_iald (f := (jx_al (lx_turn (sX5_keeps M) k))) hx hb hK hP 1 0 rfl rfl (jk_inC (by decide +kernel)) dX5_nextSpark_25 ?_
        refine W.eq (g2 := F0 m 26 ls [.int ((jx_al (lx_turn (sX5_keeps M) k)) 6)]) rfl ?_
        refine lv_topi (fun x7 ex7 => ?_)
        refine lv_iload_n hx hb dX5_nextSpark_26 rfl (lv_at hl 2 rfl) ?_
        refine lv_icmp_ne (tgt := 40) hx hb dX5_nextSpark_27 (by decide) (fun c8 => ?_) (fun c8 => ?_)
        · have hE2 : (nI k, lx_turn (sX5_keeps M) k) = lx_next (jx_al M 6) (vt.toNatClampNeg + 1) (sX5_keeps M) 0 := by subst_vars; exact lx_next_end hlt c8 hE
          refine lv_aload_n hx hb dX5_nextSpark_40 rfl (lv_at hl 0 rfl) ?_
          obtain ⟨S9, eS9⟩ : ∃ z : jx_T, z = sX5_comesBack (lx_turn (sX5_keeps M) k) := ⟨_, rfl⟩
          refine jk_callV (As := []) (rest := []) (ws1 := (jx_W g a S9)) ⟨hx, hb, hml, hown, hts⟩ (c_X5_comesBack l D g a (lx_turn (sX5_keeps M) k)) (cwV 0 hts gX5_nextSpark_X5_comesBack rfl rfl rfl (by decide +kernel) ⟨Nat.le_of_ble_eq_true rfl, Nat.le_of_ble_eq_true rfl⟩) (va_recv hK hP (ci := 5) (q0 := 0) rfl rfl) hP hD hK hN rfl hl rfl (Nat.le_of_ble_eq_true rfl) dX5_nextSpark_41 ⟨Nat.zero_le _, Nat.zero_le _⟩ hS hA (fun _ h _ => by rw [eS9]; exact h) (fun H locs hP hS => ?_)
          refine W.eq (g2 := F0 m 44 ls []) rfl ?_
          have hD : va_D A (jx_W g a S9) := jk_D.same hD rfl
          refine lv_iload_n hx hb dX5_nextSpark_44 rfl (lv_at hl 3 rfl) ?_
          refine lv_iload_n hx hb dX5_nextSpark_45 rfl (lv_at hl 1 rfl) ?_
          have J10 : ∀ (x12 : Int32) (H : Heap) (locs : List Loc), x12 = (if (nI k) ≤ vt then (nI k) else (-1000006)) → va_P D vwCl (jx_W g a S9) H → va_S A s.heap H locs → W p l e ({ frames := 4, cells := 0, slots := 0, locals := 90 }) s m args below meth c H locs 0 0 (MQ below (jk_Q (some (.int (if (lx_next (((jx_al M)) 6) (vt.toNatClampNeg + 1) (sX5_keeps M) 0).1 ≤ vt then (lx_next (((jx_al M)) 6) (vt.toNatClampNeg + 1) (sX5_keeps M) 0).1 else (-1000006)))) D (jx_W g a (sX5_comesBack (lx_next (((jx_al M)) 6) (vt.toNatClampNeg + 1) (sX5_keeps M) 0).2)) A) args s 0 0 A) (F0 m 55 ls [.int x12]) := by
            intro x12 H locs ex12 hP hS
            subst ex12
            subst eS9
            subst ex7
            exact jk_iret hx hb hr hlocks hP hS (by rw [← hE2]) (congrArg (fun z => (jx_W g a z)) ((by rw [← hE2]))) dX5_nextSpark_55
          refine lv_icmp_le (tgt := 54) hx hb dX5_nextSpark_46 (by decide) (fun c11 => ?_) (fun c11 => ?_)
          · refine lv_iload_n hx hb dX5_nextSpark_54 rfl (lv_at hl 3 rfl) ?_
            exact J10 _ H locs ((if_pos c11).trans (rfl)).symm hP hS
          · refine lv_ldc hx hb hown hk_124 dX5_nextSpark_49 ?_
            refine lv_goto (tgt := 55) hx hb dX5_nextSpark_51 (by decide) ?_
            exact J10 _ H locs ((if_neg c11).trans (rfl)).symm hP hS
        · refine lv_aload_n hx hb dX5_nextSpark_30 rfl (lv_at hl 0 rfl) ?_
          obtain ⟨S13, eS13⟩ : ∃ z : jx_T, z = sX5_turns (lx_turn (sX5_keeps M) k) := ⟨_, rfl⟩
          refine jk_callV (As := []) (rest := []) (ws1 := (jx_W g a S13)) ⟨hx, hb, hml, hown, hts⟩ (c_X5_turns l D g a (lx_turn (sX5_keeps M) k) (by subst_vars; exact (jx_ok_turn (M := sX5_keeps M) hk0 k))) (cwV 0 hts gX5_nextSpark_X5_turns rfl rfl rfl (by decide +kernel) ⟨Nat.le_of_ble_eq_true rfl, Nat.le_of_ble_eq_true rfl⟩) (va_recv hK hP (ci := 5) (q0 := 0) rfl rfl) hP hD hK hN rfl hl rfl (Nat.le_of_ble_eq_true rfl) dX5_nextSpark_31 ⟨Nat.zero_le _, Nat.zero_le _⟩ hS hA (fun _ h _ => by rw [eS13]; exact h) (fun H locs hP hS => ?_)
          refine W.eq (g2 := F0 m 34 ls []) rfl ?_
          have hD : va_D A (jx_W g a S13) := jk_D.same hD rfl
          refine lv_iinc (v := nI (k + 1)) (lv' := [(3, .int (nI (k + 1))), (0, .ref (a 0)), (1, .int vt), (2, .int ((jx_al M) 6))]) hx hb dX5_nextSpark_34 hl (k := 3) rfl (nI_1 _) (by decide) rfl (fun ls hl => ?_)
          refine lv_goto (tgt := 14) hx hb dX5_nextSpark_37 (by decide) ?_
          subst eS13
          subst ex7
          exact ih (k + 1)  (by omega) (by omega) (lx_next_step hlt c8 hE) H locs hP hS ls (lv_sub hl [1, 2, 3, 0] rfl)
  exact hlp (vt.toNatClampNeg + 1 + 1) 0  (Nat.zero_le _) (by omega) rfl H locs hP hS ls (lv_sub hl [2, 3, 1, 0] rfl)

def rX5_untilSpark (M : jx_T) : Int32 := let S1 : jx_T := (sX5_comesBack (lx_next (((jx_al M)) 6) ((400 : Int32).toNatClampNeg + 1) (sX5_keeps M) 0).2); let x2 : Int32 := (if (lx_next (((jx_al M)) 6) ((400 : Int32).toNatClampNeg + 1) (sX5_keeps M) 0).1 ≤ (400 : Int32) then (lx_next (((jx_al M)) 6) ((400 : Int32).toNatClampNeg + 1) (sX5_keeps M) 0).1 else (-1000006)); x2
def sX5_untilSpark (M : jx_T) : jx_T := let S1 : jx_T := (sX5_comesBack (lx_next (((jx_al M)) 6) ((400 : Int32).toNatClampNeg + 1) (sX5_keeps M) 0).2); let x2 : Int32 := (if (lx_next (((jx_al M)) 6) ((400 : Int32).toNatClampNeg + 1) (sX5_keeps M) 0).1 ≤ (400 : Int32) then (lx_next (((jx_al M)) 6) ((400 : Int32).toNatClampNeg + 1) (sX5_keeps M) 0).1 else (-1000006)); S1
set_option maxHeartbeats 1000000 in
set_option maxRecDepth 100000 in
theorem c_X5_untilSpark (l : Launch) (D : va_G) (g : jk_G) (a : Nat → Nat) (M : jx_T) (hk0 : jx_ok (jx_al M)) : jk_M l D g yX5_untilSpark wsX5_untilSpark 5 113 [.ref (a 0)] (jx_W g a M) (some (.int (rX5_untilSpark M))) (jx_W g a (sX5_untilSpark M)) := by
  refine jk_of (cc := cX5_untilSpark) (maxL := 1) (ret := (some .int)) (by decide +kernel) rfl (Nat.le_of_ble_eq_true rfl) ?_
  intro p e s m args below meth c hx hb hr hml hts hown hlocks hK hN A H locs hP hD hA hS ls hl
  have hown : s.vm.findClass RX5 = some m.cls := hown
  have hl : lv_has ls 1 [(0, .ref (a 0))] := hl
  refine lv_aload_n hx hb dX5_untilSpark_0 rfl (lv_at hl 0 rfl) ?_
  refine lv_sipush (v := 400) hx hb dX5_untilSpark_1 (by decide) ?_
  obtain ⟨S1, eS1⟩ : ∃ z : jx_T, z = (sX5_comesBack (lx_next (((jx_al M)) 6) ((400 : Int32).toNatClampNeg + 1) (sX5_keeps M) 0).2) := ⟨_, rfl⟩
  refine jk_callV (As := [.int 400]) (rest := []) (ws1 := (jx_W g a S1)) ⟨hx, hb, hml, hown, hts⟩ (c_X5_nextSpark l D g a M (400 : Int32) hk0 (by decide) (by decide)) (cwV 1 hts gX5_untilSpark_X5_nextSpark rfl rfl rfl (by decide +kernel) ⟨Nat.le_of_ble_eq_true rfl, Nat.le_of_ble_eq_true rfl⟩) (va_recv hK hP (ci := 5) (q0 := 0) rfl rfl) hP hD hK hN rfl hl rfl (Nat.le_of_ble_eq_true rfl) dX5_untilSpark_4 ⟨Nat.zero_le _, Nat.zero_le _⟩ hS hA (fun _ h _ => by rw [eS1]; exact h) (fun H locs hP hS => ?_)
  refine W.eq (g2 := F0 m 7 ls [.int (if (lx_next (((jx_al M)) 6) ((400 : Int32).toNatClampNeg + 1) (sX5_keeps M) 0).1 ≤ (400 : Int32) then (lx_next (((jx_al M)) 6) ((400 : Int32).toNatClampNeg + 1) (sX5_keeps M) 0).1 else (-1000006))]) rfl ?_
  have hD : va_D A (jx_W g a S1) := jk_D.same hD rfl
  refine lv_topi (fun x2 ex2 => ?_)
  subst ex2
  subst eS1
  exact jk_iret hx hb hr hlocks hP hS (rfl).symm (congrArg (fun z => (jx_W g a z)) ((rfl).symm)) dX5_untilSpark_7

def rX5_widestGap (M : jx_T) : Int32 := let S3 : jx_T := (lx_char (sX5_keeps M) 200); let x4 : Int32 := lx_wid (sX5_keeps M) 200; let S5 : jx_T := sX5_comesBack S3; let x9 : Int32 := (if 10 ≤ x4 then (if x4 ≤ 2000 then (x4 / 10) else 200) else (-1000006)); x9
def sX5_widestGap (M : jx_T) : jx_T := let S3 : jx_T := (lx_char (sX5_keeps M) 200); let x4 : Int32 := lx_wid (sX5_keeps M) 200; let S5 : jx_T := sX5_comesBack S3; let x9 : Int32 := (if 10 ≤ x4 then (if x4 ≤ 2000 then (x4 / 10) else 200) else (-1000006)); S5
set_option maxHeartbeats 1000000 in
set_option maxRecDepth 100000 in
theorem c_X5_widestGap (l : Launch) (D : va_G) (g : jk_G) (a : Nat → Nat) (M : jx_T)  : jk_M l D g yX5_widestGap wsX5_widestGap 3 69 [.ref (a 0)] (jx_W g a M) (some (.int (rX5_widestGap M))) (jx_W g a (sX5_widestGap M)) := by
  refine jk_of (cc := cX5_widestGap) (maxL := 3) (ret := (some .int)) (by decide +kernel) rfl (Nat.le_of_ble_eq_true rfl) ?_
  intro p e s m args below meth c hx hb hr hml hts hown hlocks hK hN A H locs hP hD hA hS ls hl
  have hown : s.vm.findClass RX5 = some m.cls := hown
  have hl : lv_has ls 3 [(0, .ref (a 0))] := hl
  obtain ⟨NN, hNN⟩ : ∃ z : Nat, z = 200 := ⟨_, rfl⟩
  have hk_124 := hts (.constant RX5 124 (-1000006)) (by decide +kernel)
  refine lv_aload_n hx hb dX5_widestGap_0 rfl (lv_at hl 0 rfl) ?_
  obtain ⟨S1, eS1⟩ : ∃ z : jx_T, z = sX5_keeps M := ⟨_, rfl⟩
  refine jk_callV (As := []) (rest := []) (ws1 := (jx_W g a S1)) ⟨hx, hb, hml, hown, hts⟩ (c_X5_keeps l D g a M) (cwV 0 hts gX5_widestGap_X5_keeps rfl rfl rfl (by decide +kernel) ⟨Nat.le_of_ble_eq_true rfl, Nat.le_of_ble_eq_true rfl⟩) (va_recv hK hP (ci := 5) (q0 := 0) rfl rfl) hP hD hK hN rfl hl rfl (Nat.le_of_ble_eq_true rfl) dX5_widestGap_1 ⟨Nat.zero_le _, Nat.zero_le _⟩ hS hA (fun _ h _ => by rw [eS1]; exact h) (fun H locs hP hS => ?_)
  refine W.eq (g2 := F0 m 4 ls []) rfl ?_
  have hD : va_D A (jx_W g a S1) := jk_D.same hD rfl
  refine lv_iconst (v := 0) hx hb dX5_widestGap_4 (by decide) ?_
  refine lv_istore_n (lv' := [(1, .int 0), (0, .ref (a 0))]) hx hb dX5_widestGap_5 rfl hl (by decide) rfl (fun ls hl => ?_)
  refine lv_iconst (v := 0) hx hb dX5_widestGap_6 (by decide) ?_
  refine lv_istore_n (lv' := [(2, .int 0), (1, .int 0), (0, .ref (a 0))]) hx hb dX5_widestGap_7 rfl hl (by decide) rfl (fun ls hl => ?_)
  subst eS1
  have hlp : ∀ (n k : Nat), k ≤ NN → NN < k + n → ∀ (H : Heap) (locs : List Loc), va_P D vwCl (jx_W g a (lx_char (sX5_keeps M) k)) H → va_S A s.heap H locs → ∀ ls : Array Slot, lv_has ls 3 [(0, .ref (a 0)), (1, .int (lx_wid (sX5_keeps M) k)), (2, .int (nI k))] → W p l e ({ frames := 3, cells := 0, slots := 0, locals := 69 }) s m args below meth c H locs 0 0 (MQ below (jk_Q (some (.int (rX5_widestGap M))) D (jx_W g a (sX5_widestGap M)) A) args s 0 0 A) (F0 m 8 ls []) := by
    intro n
    induction n with
    | zero => intro k  hk1 hk2; exact absurd hk2 (by omega)
    | succ n ih =>
      intro k  hk hkn  H locs hP hS ls hl
      have hD : va_D A (jx_W g a (lx_char (sX5_keeps M) k)) := jk_D.same hD rfl
      refine lv_iload_n hx hb dX5_widestGap_8 rfl (lv_at hl 2 rfl) ?_
      refine lv_sipush (v := 200) hx hb dX5_widestGap_9 (by decide) ?_
      refine lv_icmp_ge (tgt := 42) hx hb dX5_widestGap_12 (by decide) (fun c2 => ?_) (fun c2 => ?_)
      · have hk9 : NN = k := (jk_geN hNN (by decide) hk c2).symm
        subst hk9
        obtain ⟨S3, eS3⟩ : ∃ z : jx_T, z = (lx_char (sX5_keeps M) NN) := ⟨_, rfl⟩
        rw [← eS3] at hP hD
        obtain ⟨x4, ex4⟩ : ∃ z : Int32, z = lx_wid (sX5_keeps M) NN := ⟨_, rfl⟩
        rw [← ex4] at hl
        refine lv_aload_n hx hb dX5_widestGap_42 rfl (lv_at hl 0 rfl) ?_
        obtain ⟨S5, eS5⟩ : ∃ z : jx_T, z = sX5_comesBack S3 := ⟨_, rfl⟩
        refine jk_callV (As := []) (rest := []) (ws1 := (jx_W g a S5)) ⟨hx, hb, hml, hown, hts⟩ (c_X5_comesBack l D g a S3) (cwV 0 hts gX5_widestGap_X5_comesBack rfl rfl rfl (by decide +kernel) ⟨Nat.le_of_ble_eq_true rfl, Nat.le_of_ble_eq_true rfl⟩) (va_recv hK hP (ci := 5) (q0 := 0) rfl rfl) hP hD hK hN rfl hl rfl (Nat.le_of_ble_eq_true rfl) dX5_widestGap_43 ⟨Nat.zero_le _, Nat.zero_le _⟩ hS hA (fun _ h _ => by rw [eS5]; exact h) (fun H locs hP hS => ?_)
        refine W.eq (g2 := F0 m 46 ls []) rfl ?_
        have hD : va_D A (jx_W g a S5) := jk_D.same hD rfl
        refine lv_iload_n hx hb dX5_widestGap_46 rfl (lv_at hl 1 rfl) ?_
        refine lv_bipush (v := 10) hx hb dX5_widestGap_47 (by decide) ?_
        have J6 : ∀ (x9 : Int32) (H : Heap) (locs : List Loc), x9 = (if 10 ≤ x4 then (if x4 ≤ 2000 then (x4 / 10) else 200) else (-1000006)) → va_P D vwCl (jx_W g a S5) H → va_S A s.heap H locs → W p l e ({ frames := 3, cells := 0, slots := 0, locals := 69 }) s m args below meth c H locs 0 0 (MQ below (jk_Q (some (.int (rX5_widestGap M))) D (jx_W g a (sX5_widestGap M)) A) args s 0 0 A) (F0 m 74 ls [.int x9]) := by
          intro x9 H locs ex9 hP hS
          subst ex9
          subst eS5
          subst ex4
          subst eS3
          subst hNN
          exact jk_iret hx hb hr hlocks hP hS (rfl).symm (congrArg (fun z => (jx_W g a z)) ((rfl).symm)) dX5_widestGap_74
        refine lv_icmp_ge (tgt := 57) hx hb dX5_widestGap_49 (by decide) (fun c7 => ?_) (fun c7 => ?_)
        · refine lv_iload_n hx hb dX5_widestGap_57 rfl (lv_at hl 1 rfl) ?_
          refine lv_sipush (v := 2000) hx hb dX5_widestGap_58 (by decide) ?_
          refine lv_icmp_le (tgt := 70) hx hb dX5_widestGap_61 (by decide) (fun c8 => ?_) (fun c8 => ?_)
          · refine lv_iload_n hx hb dX5_widestGap_70 rfl (lv_at hl 1 rfl) ?_
            refine lv_bipush (v := 10) hx hb dX5_widestGap_71 (by decide) ?_
            refine lv_idiv hx hb dX5_widestGap_73 (by decide) ?_
            exact J6 _ H locs ((if_pos c7).trans ((if_pos c8).trans (rfl))).symm hP hS
          · refine lv_sipush (v := 200) hx hb dX5_widestGap_64 (by decide) ?_
            refine lv_goto (tgt := 74) hx hb dX5_widestGap_67 (by decide) ?_
            exact J6 _ H locs ((if_pos c7).trans ((if_neg c8).trans (rfl))).symm hP hS
        · refine lv_ldc hx hb hown hk_124 dX5_widestGap_52 ?_
          refine lv_goto (tgt := 74) hx hb dX5_widestGap_54 (by decide) ?_
          exact J6 _ H locs ((if_neg c7).trans (rfl)).symm hP hS
      · have hlt : k < NN := jk_ltN hNN (by decide) hk c2
        refine lv_aload_n hx hb dX5_widestGap_15 rfl (lv_at hl 0 rfl) ?_
        obtain ⟨S10, eS10⟩ : ∃ z : jx_T, z = sX5_charges (lx_char (sX5_keeps M) k) := ⟨_, rfl⟩
        refine jk_callV (As := []) (rest := []) (ws1 := (jx_W g a S10)) ⟨hx, hb, hml, hown, hts⟩ (c_X5_charges l D g a (lx_char (sX5_keeps M) k)) (cwV 0 hts gX5_widestGap_X5_charges rfl rfl rfl (by decide +kernel) ⟨Nat.le_of_ble_eq_true rfl, Nat.le_of_ble_eq_true rfl⟩) (va_recv hK hP (ci := 5) (q0 := 0) rfl rfl) hP hD hK hN rfl hl rfl (Nat.le_of_ble_eq_true rfl) dX5_widestGap_16 ⟨Nat.zero_le _, Nat.zero_le _⟩ hS hA (fun _ h _ => by rw [eS10]; exact h) (fun H locs hP hS => ?_)
        refine W.eq (g2 := F0 m 19 ls []) rfl ?_
        have hD : va_D A (jx_W g a S10) := jk_D.same hD rfl
        refine lv_aload_n hx hb dX5_widestGap_19 rfl (lv_at hl 0 rfl) ?_
        refine jk_callV (As := []) (rest := []) (ws1 := (jx_W g a S10)) ⟨hx, hb, hml, hown, hts⟩ (c_X5_difference l D g a S10) (cwV 0 hts gX5_widestGap_X5_difference rfl rfl rfl (by decide +kernel) ⟨Nat.le_of_ble_eq_true rfl, Nat.le_of_ble_eq_true rfl⟩) (va_recv hK hP (ci := 5) (q0 := 0) rfl rfl) hP hD hK hN rfl hl rfl (Nat.le_of_ble_eq_true rfl) dX5_widestGap_20 ⟨Nat.zero_le _, Nat.zero_le _⟩ hS hA (fun _ h _ => h) (fun H locs hP hS => ?_)
        refine W.eq (g2 := F0 m 23 ls [.int (rX5_difference S10)]) rfl ?_
        refine lv_topi (fun x11 ex11 => ?_)
        refine lv_iload_n hx hb dX5_widestGap_23 rfl (lv_at hl 1 rfl) ?_
        have J12 : ∀ (x15 : Int32) (H : Heap) (locs : List Loc), x15 = (if x11 ≤ (lx_wid (sX5_keeps M) k) then (lx_wid (sX5_keeps M) k) else (rX5_difference S10)) → va_P D vwCl (jx_W g a S10) H → va_S A s.heap H locs → W p l e ({ frames := 3, cells := 0, slots := 0, locals := 69 }) s m args below meth c H locs 0 0 (MQ below (jk_Q (some (.int (rX5_widestGap M))) D (jx_W g a (sX5_widestGap M)) A) args s 0 0 A) (F0 m 35 ls [.int x15]) := by
          intro x15 H locs ex15 hP hS
          refine lv_istore_n (lv' := [(1, .int x15), (0, .ref (a 0)), (2, .int (nI k))]) hx hb dX5_widestGap_35 rfl hl (by decide) rfl (fun ls hl => ?_)
          refine lv_iinc (v := nI (k + 1)) (lv' := [(2, .int (nI (k + 1))), (1, .int x15), (0, .ref (a 0))]) hx hb dX5_widestGap_36 hl (k := 2) rfl (nI_1 _) (by decide) rfl (fun ls hl => ?_)
          refine lv_goto (tgt := 8) hx hb dX5_widestGap_39 (by decide) ?_
          subst ex15
          subst ex11
          subst eS10
          exact ih (k + 1)  (by omega) (by omega)  H locs hP hS ls (lv_sub hl [2, 1, 0] rfl)
        refine lv_icmp_le (tgt := 34) hx hb dX5_widestGap_24 (by decide) (fun c13 => ?_) (fun c13 => ?_)
        · refine lv_iload_n hx hb dX5_widestGap_34 rfl (lv_at hl 1 rfl) ?_
          exact J12 _ H locs ((if_pos c13).trans (rfl)).symm hP hS
        · refine lv_aload_n hx hb dX5_widestGap_27 rfl (lv_at hl 0 rfl) ?_
          refine jk_callV (As := []) (rest := []) (ws1 := (jx_W g a S10)) ⟨hx, hb, hml, hown, hts⟩ (c_X5_difference l D g a S10) (cwV 0 hts gX5_widestGap_X5_difference rfl rfl rfl (by decide +kernel) ⟨Nat.le_of_ble_eq_true rfl, Nat.le_of_ble_eq_true rfl⟩) (va_recv hK hP (ci := 5) (q0 := 0) rfl rfl) hP hD hK hN rfl hl rfl (Nat.le_of_ble_eq_true rfl) dX5_widestGap_28 ⟨Nat.zero_le _, Nat.zero_le _⟩ hS hA (fun _ h _ => h) (fun H locs hP hS => ?_)
          refine W.eq (g2 := F0 m 31 ls [.int (rX5_difference S10)]) rfl ?_
          refine lv_topi (fun x14 ex14 => ?_)
          refine lv_goto (tgt := 35) hx hb dX5_widestGap_31 (by decide) ?_
          subst ex14
          exact J12 _ H locs ((if_neg c13).trans (rfl)).symm hP hS
  exact hlp (NN + 1) 0  (Nat.zero_le _) (by omega)  H locs hP hS ls (lv_sub hl [2, 1, 0] rfl)

def rX5_ifTurned (M : jx_T) (vt : Int32) (vw : Int32) : Int32 := let x1 : Int32 := rX5_in ((vt : Int32).toInt64) (1 : Int64) (400 : Int64); if x1 = 0 then ((-1000002)) else (let x3 : Int32 := rX5_in ((vw : Int32).toInt64) (0 : Int64) (5 : Int64); if x3 = 0 then ((-1000002)) else (let S7 : jx_T := (lx_turn (sX5_keeps M) vt.toNatClampNeg); let x8 : Int32 := lx_dif (sX5_keeps M) vt.toNatClampNeg; let x9 : Int32 := lx_jmp (sX5_keeps M) vt.toNatClampNeg; let x18 : Int32 := (if vw = 0 then x9 else (if vw = 1 then (((jx_al S7) 7) - ((jx_al M) 7)) else (if vw = 4 then x8 else (if vw = 5 then (rX5_allCharge S7) else ((jx_al S7) ((37 + vw) - 2).toNatClampNeg))))); let S19 : jx_T := sX5_comesBack S7; x18))
def sX5_ifTurned (M : jx_T) (vt : Int32) (vw : Int32) : jx_T := let x1 : Int32 := rX5_in ((vt : Int32).toInt64) (1 : Int64) (400 : Int64); if x1 = 0 then (M) else (let x3 : Int32 := rX5_in ((vw : Int32).toInt64) (0 : Int64) (5 : Int64); if x3 = 0 then (M) else (let S7 : jx_T := (lx_turn (sX5_keeps M) vt.toNatClampNeg); let x8 : Int32 := lx_dif (sX5_keeps M) vt.toNatClampNeg; let x9 : Int32 := lx_jmp (sX5_keeps M) vt.toNatClampNeg; let x18 : Int32 := (if vw = 0 then x9 else (if vw = 1 then (((jx_al S7) 7) - ((jx_al M) 7)) else (if vw = 4 then x8 else (if vw = 5 then (rX5_allCharge S7) else ((jx_al S7) ((37 + vw) - 2).toNatClampNeg))))); let S19 : jx_T := sX5_comesBack S7; S19))
set_option maxHeartbeats 1000000 in
set_option maxRecDepth 100000 in
theorem c_X5_ifTurned (l : Launch) (D : va_G) (g : jk_G) (a : Nat → Nat) (M : jx_T) (vt : Int32) (vw : Int32) (hk0 : jx_ok (jx_al M)) : jk_M l D g yX5_ifTurned wsX5_ifTurned 5 113 [.ref (a 0), .int vt, .int vw] (jx_W g a M) (some (.int (rX5_ifTurned M vt vw))) (jx_W g a (sX5_ifTurned M vt vw)) := by
  refine jk_of (cc := cX5_ifTurned) (maxL := 7) (ret := (some .int)) (by decide +kernel) rfl (Nat.le_of_ble_eq_true rfl) ?_
  intro p e s m args below meth c hx hb hr hml hts hown hlocks hK hN A H locs hP hD hA hS ls hl
  have hown : s.vm.findClass RX5 = some m.cls := hown
  have hl : lv_has ls 7 [(0, .ref (a 0)), (1, .int vt), (2, .int vw)] := hl
  have hk_142 := hts (.constantLong RX5 142 400) (by decide +kernel)
  have hk_91 := hts (.constant RX5 91 (-1000002)) (by decide +kernel)
  have hk_144 := hts (.constantLong RX5 144 5) (by decide +kernel)
  have hf_7 := hts (.fieldLink RX5 7 "InfluenceJarsModel" "all" "[I") (by decide +kernel)
  have hi_5 : ∀ w ∈ u_ws RX5 TX5 13, w ∈ wsX5_ifTurned := by decide +kernel
  refine lv_iload_n hx hb dX5_ifTurned_0 rfl (lv_at hl 1 rfl) ?_
  refine lv_i2l hx hb dX5_ifTurned_1 rfl ?_
  refine lv_lconst (v := 1) hx hb dX5_ifTurned_2 (by decide) ?_
  refine lv_ldc2 hx hb hown hk_142 dX5_ifTurned_3 ?_
  refine jk_callS (As := [.long ((vt : Int32).toInt64), .long 1, .long 400]) (rest := []) (ws1 := (jx_W g a M)) ⟨hx, hb, hml, hown, hts⟩ (c_X5_in l D g ((vt : Int32).toInt64) (1 : Int64) (400 : Int64)) (va_cwS 3 hts gX5_ifTurned_X5_in rfl rfl rfl (by decide +kernel) ⟨Nat.le_of_ble_eq_true rfl, Nat.le_of_ble_eq_true rfl⟩) jk_nilP (jk_nilD (A := A)) hK hN rfl hl rfl (Nat.le_of_ble_eq_true rfl) dX5_ifTurned_6 ⟨Nat.zero_le _, Nat.zero_le _⟩ hS hA (fun _ _ hk => jk_keep hP hk) (fun H locs hP hS => ?_)
  refine W.eq (g2 := F0 m 9 ls [.int (rX5_in ((vt : Int32).toInt64) (1 : Int64) (400 : Int64))]) rfl ?_
  refine lv_topi (fun x1 ex1 => ?_)
  refine lv_if_eq (tgt := 24) hx hb dX5_ifTurned_9 (by decide) (fun c2 => ?_) (fun c2 => ?_)
  · refine lv_ldc hx hb hown hk_91 dX5_ifTurned_24 ?_
    subst ex1
    exact jk_iret hx hb hr hlocks hP hS ((if_pos c2).trans (rfl)).symm (congrArg (fun z => (jx_W g a z)) (((if_pos c2).trans (rfl)).symm)) dX5_ifTurned_26
  · refine lv_iload_n hx hb dX5_ifTurned_12 rfl (lv_at hl 2 rfl) ?_
    refine lv_i2l hx hb dX5_ifTurned_13 rfl ?_
    refine lv_lconst (v := 0) hx hb dX5_ifTurned_14 (by decide) ?_
    refine lv_ldc2 hx hb hown hk_144 dX5_ifTurned_15 ?_
    refine jk_callS (As := [.long ((vw : Int32).toInt64), .long 0, .long 5]) (rest := []) (ws1 := (jx_W g a M)) ⟨hx, hb, hml, hown, hts⟩ (c_X5_in l D g ((vw : Int32).toInt64) (0 : Int64) (5 : Int64)) (va_cwS 3 hts gX5_ifTurned_X5_in rfl rfl rfl (by decide +kernel) ⟨Nat.le_of_ble_eq_true rfl, Nat.le_of_ble_eq_true rfl⟩) jk_nilP (jk_nilD (A := A)) hK hN rfl hl rfl (Nat.le_of_ble_eq_true rfl) dX5_ifTurned_18 ⟨Nat.zero_le _, Nat.zero_le _⟩ hS hA (fun _ _ hk => jk_keep hP hk) (fun H locs hP hS => ?_)
    refine W.eq (g2 := F0 m 21 ls [.int (rX5_in ((vw : Int32).toInt64) (0 : Int64) (5 : Int64))]) rfl ?_
    refine lv_topi (fun x3 ex3 => ?_)
    refine lv_if_ne (tgt := 27) hx hb dX5_ifTurned_21 (by decide) (fun c4 => ?_) (fun c4 => ?_)
    · refine lv_aload_n hx hb dX5_ifTurned_27 rfl (lv_at hl 0 rfl) ?_
      refine va_get (D := D) (ci := 5) (v := .ref (a 1)) (C := RX5) (T := TX5) (N := 13) hx hb hts hi_5 hown hK hP 0 rfl rfl 0 (by decide) hf_7 (fun _ h9 => h9) rfl dX5_ifTurned_28 ?_
      refine lv_bipush (v := 7) hx hb dX5_ifTurned_31 (by decide) ?_
      refine va_iald (f := (jx_al M)) hx hb hK hP 1 0 rfl rfl (jk_inC (by decide +kernel)) dX5_ifTurned_33 ?_
      refine W.eq (g2 := F0 m 34 ls [.int ((jx_al M) 7)]) rfl ?_
      refine lv_istore_n (lv' := [(3, .int ((jx_al M) 7)), (0, .ref (a 0)), (1, .int vt), (2, .int vw)]) hx hb dX5_ifTurned_34 rfl hl (by decide) rfl (fun ls hl => ?_)
      refine lv_aload_n hx hb dX5_ifTurned_35 rfl (lv_at hl 1 rfl) ?_
      obtain ⟨S5, eS5⟩ : ∃ z : jx_T, z = sX5_keeps M := ⟨_, rfl⟩
      refine jk_callV (As := []) (rest := []) (ws1 := (jx_W g a S5)) ⟨hx, hb, hml, hown, hts⟩ (c_X5_keeps l D g a M) (cwV 0 hts gX5_ifTurned_X5_keeps rfl rfl rfl (by decide +kernel) ⟨Nat.le_of_ble_eq_true rfl, Nat.le_of_ble_eq_true rfl⟩) (va_recv hK hP (ci := 5) (q0 := 0) rfl rfl) hP hD hK hN rfl hl rfl (Nat.le_of_ble_eq_true rfl) dX5_ifTurned_36 ⟨Nat.zero_le _, Nat.zero_le _⟩ hS hA (fun _ h _ => by rw [eS5]; exact h) (fun H locs hP hS => ?_)
      refine W.eq (g2 := F0 m 39 ls []) rfl ?_
      have hD : va_D A (jx_W g a S5) := jk_D.same hD rfl
      refine lv_iconst (v := 0) hx hb dX5_ifTurned_39 (by decide) ?_
      refine lv_istore (lv' := [(4, .int 0), (3, .int ((jx_al M) 7)), (0, .ref (a 0)), (1, .int vt), (2, .int vw)]) hx hb dX5_ifTurned_40 hl (by decide) rfl (fun ls hl => ?_)
      refine lv_iconst (v := 0) hx hb dX5_ifTurned_42 (by decide) ?_
      refine lv_istore (lv' := [(5, .int 0), (4, .int 0), (3, .int ((jx_al M) 7)), (0, .ref (a 0)), (1, .int vt), (2, .int vw)]) hx hb dX5_ifTurned_43 hl (by decide) rfl (fun ls hl => ?_)
      refine lv_iconst (v := 0) hx hb dX5_ifTurned_45 (by decide) ?_
      refine lv_istore (lv' := [(6, .int 0), (5, .int 0), (4, .int 0), (3, .int ((jx_al M) 7)), (0, .ref (a 0)), (1, .int vt), (2, .int vw)]) hx hb dX5_ifTurned_46 hl (by decide) rfl (fun ls hl => ?_)
      subst eS5
      subst ex3
      subst ex1
      have hlp : ∀ (n k : Nat), k ≤ vt.toNatClampNeg → vt.toNatClampNeg < k + n → ∀ (H : Heap) (locs : List Loc), va_P D vwCl (jx_W g a (lx_turn (sX5_keeps M) k)) H → va_S A s.heap H locs → ∀ ls : Array Slot, lv_has ls 7 [(0, .ref (a 0)), (1, .int vt), (2, .int vw), (3, .int ((jx_al M) 7)), (4, .int (lx_dif (sX5_keeps M) k)), (5, .int (lx_jmp (sX5_keeps M) k)), (6, .int (nI k))] → W p l e ({ frames := 5, cells := 0, slots := 0, locals := 113 }) s m args below meth c H locs 0 0 (MQ below (jk_Q (some (.int (rX5_ifTurned M vt vw))) D (jx_W g a (sX5_ifTurned M vt vw)) A) args s 0 0 A) (F0 m 48 ls []) := by
        intro n
        induction n with
        | zero => intro k  hk1 hk2; exact absurd hk2 (by omega)
        | succ n ih =>
          intro k  hk hkn  H locs hP hS ls hl
          have hD : va_D A (jx_W g a (lx_turn (sX5_keeps M) k)) := jk_D.same hD rfl
          refine lv_iload hx hb dX5_ifTurned_48 (lv_at hl 6 rfl) ?_
          refine lv_iload_n hx hb dX5_ifTurned_50 rfl (lv_at hl 1 rfl) ?_
          refine lv_icmp_ge (tgt := 90) hx hb dX5_ifTurned_51 (by decide) (fun c6 => ?_) (fun c6 => ?_)
          · have hk9 := jk_bge hk c6
            subst hk9
            obtain ⟨S7, eS7⟩ : ∃ z : jx_T, z = (lx_turn (sX5_keeps M) vt.toNatClampNeg) := ⟨_, rfl⟩
            rw [← eS7] at hP hD
            obtain ⟨x8, ex8⟩ : ∃ z : Int32, z = lx_dif (sX5_keeps M) vt.toNatClampNeg := ⟨_, rfl⟩
            rw [← ex8] at hl
            obtain ⟨x9, ex9⟩ : ∃ z : Int32, z = lx_jmp (sX5_keeps M) vt.toNatClampNeg := ⟨_, rfl⟩
            rw [← ex9] at hl
            refine lv_iload_n hx hb dX5_ifTurned_90 rfl (lv_at hl 2 rfl) ?_
            have J10 : ∀ (x18 : Int32) (H : Heap) (locs : List Loc), x18 = (if vw = 0 then x9 else (if vw = 1 then (((jx_al S7) 7) - ((jx_al M) 7)) else (if vw = 4 then x8 else (if vw = 5 then (rX5_allCharge S7) else ((jx_al S7) ((37 + vw) - 2).toNatClampNeg))))) → va_P D vwCl (jx_W g a S7) H → va_S A s.heap H locs → W p l e ({ frames := 5, cells := 0, slots := 0, locals := 113 }) s m args below meth c H locs 0 0 (MQ below (jk_Q (some (.int (rX5_ifTurned M vt vw))) D (jx_W g a (sX5_ifTurned M vt vw)) A) args s 0 0 A) (F0 m 149 ls [.int x18]) := by
              intro x18 H locs ex18 hP hS
              refine lv_istore (lv' := [(6, .int x18), (0, .ref (a 0)), (1, .int vt), (2, .int vw), (3, .int ((jx_al M) 7)), (4, .int x8), (5, .int x9)]) hx hb dX5_ifTurned_149 hl (by decide) rfl (fun ls hl => ?_)
              refine lv_aload_n hx hb dX5_ifTurned_151 rfl (lv_at hl 1 rfl) ?_
              obtain ⟨S19, eS19⟩ : ∃ z : jx_T, z = sX5_comesBack S7 := ⟨_, rfl⟩
              refine jk_callV (As := []) (rest := []) (ws1 := (jx_W g a S19)) ⟨hx, hb, hml, hown, hts⟩ (c_X5_comesBack l D g a S7) (cwV 0 hts gX5_ifTurned_X5_comesBack rfl rfl rfl (by decide +kernel) ⟨Nat.le_of_ble_eq_true rfl, Nat.le_of_ble_eq_true rfl⟩) (va_recv hK hP (ci := 5) (q0 := 0) rfl rfl) hP hD hK hN rfl hl rfl (Nat.le_of_ble_eq_true rfl) dX5_ifTurned_152 ⟨Nat.zero_le _, Nat.zero_le _⟩ hS hA (fun _ h _ => by rw [eS19]; exact h) (fun H locs hP hS => ?_)
              refine W.eq (g2 := F0 m 155 ls []) rfl ?_
              have hD : va_D A (jx_W g a S19) := jk_D.same hD rfl
              refine lv_iload hx hb dX5_ifTurned_155 (lv_at hl 0 rfl) ?_
              subst eS19
              subst ex18
              subst ex9
              subst ex8
              subst eS7
              exact jk_iret hx hb hr hlocks hP hS ((if_neg c2).trans ((if_neg c4).trans (rfl))).symm (congrArg (fun z => (jx_W g a z)) (((if_neg c2).trans ((if_neg c4).trans (rfl))).symm)) dX5_ifTurned_157
            refine lv_if_ne (tgt := 99) hx hb dX5_ifTurned_91 (by decide) (fun c11 => ?_) (fun c11 => ?_)
            · refine lv_iload_n hx hb dX5_ifTurned_99 rfl (lv_at hl 2 rfl) ?_
              refine lv_iconst (v := 1) hx hb dX5_ifTurned_100 (by decide) ?_
              refine lv_icmp_ne (tgt := 116) hx hb dX5_ifTurned_101 (by decide) (fun c12 => ?_) (fun c12 => ?_)
              · refine lv_iload_n hx hb dX5_ifTurned_116 rfl (lv_at hl 2 rfl) ?_
                refine lv_iconst (v := 4) hx hb dX5_ifTurned_117 (by decide) ?_
                refine lv_icmp_ne (tgt := 126) hx hb dX5_ifTurned_118 (by decide) (fun c13 => ?_) (fun c13 => ?_)
                · refine lv_iload_n hx hb dX5_ifTurned_126 rfl (lv_at hl 2 rfl) ?_
                  refine lv_iconst (v := 5) hx hb dX5_ifTurned_127 (by decide) ?_
                  refine lv_icmp_ne (tgt := 138) hx hb dX5_ifTurned_128 (by decide) (fun c14 => ?_) (fun c14 => ?_)
                  · refine lv_aload_n hx hb dX5_ifTurned_138 rfl (lv_at hl 0 rfl) ?_
                    refine va_get (D := D) (ci := 5) (v := .ref (a 1)) (C := RX5) (T := TX5) (N := 13) hx hb hts hi_5 hown hK hP 0 rfl rfl 0 (by decide) hf_7 (fun _ h9 => h9) rfl dX5_ifTurned_139 ?_
                    refine lv_bipush (v := 37) hx hb dX5_ifTurned_142 (by decide) ?_
                    refine lv_iload_n hx hb dX5_ifTurned_144 rfl (lv_at hl 2 rfl) ?_
                    refine lv_iadd hx hb dX5_ifTurned_145 ?_
                    refine lv_iconst (v := 2) hx hb dX5_ifTurned_146 (by decide) ?_
                    refine lv_isub hx hb dX5_ifTurned_147 ?_
                    refine va_iald (f := (jx_al S7)) hx hb hK hP 1 0 rfl rfl (by subst_vars; exact jx_told_in c4 c11 c12 c13 c14) dX5_ifTurned_148 ?_
                    refine lv_topi (fun x15 ex15 => ?_)
                    subst ex15
                    exact J10 _ H locs ((if_neg c11).trans ((if_neg c12).trans ((if_neg c13).trans ((if_neg c14).trans (rfl))))).symm hP hS
                  · refine lv_aload_n hx hb dX5_ifTurned_131 rfl (lv_at hl 0 rfl) ?_
                    refine jk_callV (As := []) (rest := []) (ws1 := (jx_W g a S7)) ⟨hx, hb, hml, hown, hts⟩ (c_X5_allCharge l D g a S7) (cwV 0 hts gX5_ifTurned_X5_allCharge rfl rfl rfl (by decide +kernel) ⟨Nat.le_of_ble_eq_true rfl, Nat.le_of_ble_eq_true rfl⟩) (va_recv hK hP (ci := 5) (q0 := 0) rfl rfl) hP hD hK hN rfl hl rfl (Nat.le_of_ble_eq_true rfl) dX5_ifTurned_132 ⟨Nat.zero_le _, Nat.zero_le _⟩ hS hA (fun _ h _ => h) (fun H locs hP hS => ?_)
                    refine W.eq (g2 := F0 m 135 ls [.int (rX5_allCharge S7)]) rfl ?_
                    refine lv_topi (fun x16 ex16 => ?_)
                    refine lv_goto (tgt := 149) hx hb dX5_ifTurned_135 (by decide) ?_
                    subst ex16
                    exact J10 _ H locs ((if_neg c11).trans ((if_neg c12).trans ((if_neg c13).trans ((if_pos c14).trans (rfl))))).symm hP hS
                · refine lv_iload hx hb dX5_ifTurned_121 (lv_at hl 4 rfl) ?_
                  refine lv_goto (tgt := 149) hx hb dX5_ifTurned_123 (by decide) ?_
                  exact J10 _ H locs ((if_neg c11).trans ((if_neg c12).trans ((if_pos c13).trans (rfl)))).symm hP hS
              · refine lv_aload_n hx hb dX5_ifTurned_104 rfl (lv_at hl 0 rfl) ?_
                refine va_get (D := D) (ci := 5) (v := .ref (a 1)) (C := RX5) (T := TX5) (N := 13) hx hb hts hi_5 hown hK hP 0 rfl rfl 0 (by decide) hf_7 (fun _ h9 => h9) rfl dX5_ifTurned_105 ?_
                refine lv_bipush (v := 7) hx hb dX5_ifTurned_108 (by decide) ?_
                refine va_iald (f := (jx_al S7)) hx hb hK hP 1 0 rfl rfl (jk_inC (by decide +kernel)) dX5_ifTurned_110 ?_
                refine W.eq (g2 := F0 m 111 ls [.int ((jx_al S7) 7)]) rfl ?_
                refine lv_iload_n hx hb dX5_ifTurned_111 rfl (lv_at hl 3 rfl) ?_
                refine lv_isub hx hb dX5_ifTurned_112 ?_
                refine lv_topi (fun x17 ex17 => ?_)
                refine lv_goto (tgt := 149) hx hb dX5_ifTurned_113 (by decide) ?_
                subst ex17
                exact J10 _ H locs ((if_neg c11).trans ((if_pos c12).trans (rfl))).symm hP hS
            · refine lv_iload hx hb dX5_ifTurned_94 (lv_at hl 5 rfl) ?_
              refine lv_goto (tgt := 149) hx hb dX5_ifTurned_96 (by decide) ?_
              exact J10 _ H locs ((if_pos c11).trans (rfl)).symm hP hS
          · have hlt := jk_blt hk c6
            refine lv_iload hx hb dX5_ifTurned_54 (lv_at hl 5 rfl) ?_
            refine lv_aload_n hx hb dX5_ifTurned_56 rfl (lv_at hl 0 rfl) ?_
            refine lv_iconst (v := 1) hx hb dX5_ifTurned_57 (by decide) ?_
            obtain ⟨S20, eS20⟩ : ∃ z : jx_T, z = sX5_turned (lx_turn (sX5_keeps M) k) (1 : Int32) := ⟨_, rfl⟩
            refine jk_callV (As := [.int 1]) (rest := [.int (lx_jmp (sX5_keeps M) k)]) (ws1 := (jx_W g a S20)) ⟨hx, hb, hml, hown, hts⟩ (c_X5_turned l D g a (lx_turn (sX5_keeps M) k) (1 : Int32) (by subst_vars; exact (jx_ok_turn (M := sX5_keeps M) hk0 k))) (cwV 1 hts gX5_ifTurned_X5_turned rfl rfl rfl (by decide +kernel) ⟨Nat.le_of_ble_eq_true rfl, Nat.le_of_ble_eq_true rfl⟩) (va_recv hK hP (ci := 5) (q0 := 0) rfl rfl) hP hD hK hN rfl hl rfl (Nat.le_of_ble_eq_true rfl) dX5_ifTurned_58 ⟨Nat.zero_le _, Nat.zero_le _⟩ hS hA (fun _ h _ => by rw [eS20]; exact h) (fun H locs hP hS => ?_)
            refine W.eq (g2 := F0 m 61 ls [.int (rX5_turned (lx_turn (sX5_keeps M) k) (1 : Int32)), .int (lx_jmp (sX5_keeps M) k)]) rfl ?_
            have hD : va_D A (jx_W g a S20) := jk_D.same hD rfl
            refine lv_topi (fun x21 ex21 => ?_)
            refine lv_iadd hx hb dX5_ifTurned_61 ?_
            refine lv_topi (fun x22 ex22 => ?_)
            refine lv_istore (lv' := [(5, .int x22), (0, .ref (a 0)), (1, .int vt), (2, .int vw), (3, .int ((jx_al M) 7)), (4, .int (lx_dif (sX5_keeps M) k)), (6, .int (nI k))]) hx hb dX5_ifTurned_62 hl (by decide) rfl (fun ls hl => ?_)
            refine lv_aload_n hx hb dX5_ifTurned_64 rfl (lv_at hl 1 rfl) ?_
            refine jk_callV (As := []) (rest := []) (ws1 := (jx_W g a S20)) ⟨hx, hb, hml, hown, hts⟩ (c_X5_difference l D g a S20) (cwV 0 hts gX5_ifTurned_X5_difference rfl rfl rfl (by decide +kernel) ⟨Nat.le_of_ble_eq_true rfl, Nat.le_of_ble_eq_true rfl⟩) (va_recv hK hP (ci := 5) (q0 := 0) rfl rfl) hP hD hK hN rfl hl rfl (Nat.le_of_ble_eq_true rfl) dX5_ifTurned_65 ⟨Nat.zero_le _, Nat.zero_le _⟩ hS hA (fun _ h _ => h) (fun H locs hP hS => ?_)
            refine W.eq (g2 := F0 m 68 ls [.int (rX5_difference S20)]) rfl ?_
            refine lv_topi (fun x23 ex23 => ?_)
            refine lv_iload hx hb dX5_ifTurned_68 (lv_at hl 5 rfl) ?_
            have J24 : ∀ (x27 : Int32) (H : Heap) (locs : List Loc), x27 = (if x23 ≤ (lx_dif (sX5_keeps M) k) then (lx_dif (sX5_keeps M) k) else (rX5_difference S20)) → va_P D vwCl (jx_W g a S20) H → va_S A s.heap H locs → W p l e ({ frames := 5, cells := 0, slots := 0, locals := 113 }) s m args below meth c H locs 0 0 (MQ below (jk_Q (some (.int (rX5_ifTurned M vt vw))) D (jx_W g a (sX5_ifTurned M vt vw)) A) args s 0 0 A) (F0 m 82 ls [.int x27]) := by
              intro x27 H locs ex27 hP hS
              refine lv_istore (lv' := [(4, .int x27), (5, .int x22), (0, .ref (a 0)), (1, .int vt), (2, .int vw), (3, .int ((jx_al M) 7)), (6, .int (nI k))]) hx hb dX5_ifTurned_82 hl (by decide) rfl (fun ls hl => ?_)
              refine lv_iinc (v := nI (k + 1)) (lv' := [(6, .int (nI (k + 1))), (4, .int x27), (5, .int x22), (0, .ref (a 0)), (1, .int vt), (2, .int vw), (3, .int ((jx_al M) 7))]) hx hb dX5_ifTurned_84 hl (k := 6) rfl (nI_1 _) (by decide) rfl (fun ls hl => ?_)
              refine lv_goto (tgt := 48) hx hb dX5_ifTurned_87 (by decide) ?_
              subst ex27
              subst ex23
              subst ex22
              subst ex21
              subst eS20
              rw [lx_ix1] at hP
              exact ih (k + 1)  (by omega) (by omega)  H locs hP hS ls (lv_sub hl [3, 4, 5, 6, 1, 2, 0] (by simp only [lx_ix1]; rfl))
            refine lv_icmp_le (tgt := 80) hx hb dX5_ifTurned_70 (by decide) (fun c25 => ?_) (fun c25 => ?_)
            · refine lv_iload hx hb dX5_ifTurned_80 (lv_at hl 5 rfl) ?_
              exact J24 _ H locs ((if_pos c25).trans (rfl)).symm hP hS
            · refine lv_aload_n hx hb dX5_ifTurned_73 rfl (lv_at hl 1 rfl) ?_
              refine jk_callV (As := []) (rest := []) (ws1 := (jx_W g a S20)) ⟨hx, hb, hml, hown, hts⟩ (c_X5_difference l D g a S20) (cwV 0 hts gX5_ifTurned_X5_difference rfl rfl rfl (by decide +kernel) ⟨Nat.le_of_ble_eq_true rfl, Nat.le_of_ble_eq_true rfl⟩) (va_recv hK hP (ci := 5) (q0 := 0) rfl rfl) hP hD hK hN rfl hl rfl (Nat.le_of_ble_eq_true rfl) dX5_ifTurned_74 ⟨Nat.zero_le _, Nat.zero_le _⟩ hS hA (fun _ h _ => h) (fun H locs hP hS => ?_)
              refine W.eq (g2 := F0 m 77 ls [.int (rX5_difference S20)]) rfl ?_
              refine lv_topi (fun x26 ex26 => ?_)
              refine lv_goto (tgt := 82) hx hb dX5_ifTurned_77 (by decide) ?_
              subst ex26
              exact J24 _ H locs ((if_neg c25).trans (rfl)).symm hP hS
      exact hlp (vt.toNatClampNeg + 1) 0  (Nat.zero_le _) (by omega)  H locs hP hS ls (lv_sub hl [4, 5, 6, 3, 2, 1, 0] rfl)
    · refine lv_ldc hx hb hown hk_91 dX5_ifTurned_24 ?_
      subst ex3
      subst ex1
      exact jk_iret hx hb hr hlocks hP hS ((if_neg c2).trans ((if_pos c4).trans (rfl))).symm (congrArg (fun z => (jx_W g a z)) (((if_neg c2).trans ((if_pos c4).trans (rfl))).symm)) dX5_ifTurned_26

set_option maxHeartbeats 1000000 in
set_option maxRecDepth 100000 in
theorem c_X5_mostDamp (l : Launch) (D : va_G) (g : jk_G) (a : Nat → Nat) (M : jx_T) (hk0 : jx_ok (jx_al M)) : jk_M l D g yX5_mostDamp wsX5_mostDamp 5 113 [.ref (a 0)] (jx_W g a M) (some (.int (if (lx_md 61 M).2.1 = 0 then (-1000006) else (lx_md 61 M).1))) (jx_W g a (jx_ual (lx_md 61 M).2.2 (upd (jx_al (lx_md 61 M).2.2) 1 ((jx_al M) 1)))) := by
  refine jk_of (cc := cX5_mostDamp) (maxL := 4) (ret := (some .int)) (by decide +kernel) rfl (Nat.le_of_ble_eq_true rfl) ?_
  intro p e s m args below meth c hx hb hr hml hts hown hlocks hK hN A H locs hP hD hA hS ls hl
  have hown : s.vm.findClass RX5 = some m.cls := hown
  have hl : lv_has ls 4 [(0, .ref (a 0))] := hl
  have hf_7 := hts (.fieldLink RX5 7 "InfluenceJarsModel" "all" "[I") (by decide +kernel)
  have hi_5 : ∀ w ∈ u_ws RX5 TX5 13, w ∈ wsX5_mostDamp := by decide +kernel
  have hk_124 := hts (.constant RX5 124 (-1000006)) (by decide +kernel)
  refine lv_aload_n hx hb dX5_mostDamp_0 rfl (lv_at hl 0 rfl) ?_
  refine va_get (D := D) (ci := 5) (v := .ref (a 1)) (C := RX5) (T := TX5) (N := 13) hx hb hts hi_5 hown hK hP 0 rfl rfl 0 (by decide) hf_7 (fun _ h9 => h9) rfl dX5_mostDamp_1 ?_
  refine lv_iconst (v := 1) hx hb dX5_mostDamp_4 (by decide) ?_
  refine va_iald (f := (jx_al M)) hx hb hK hP 1 0 rfl rfl (jk_inC (by decide +kernel)) dX5_mostDamp_5 ?_
  refine W.eq (g2 := F0 m 6 ls [.int ((jx_al M) 1)]) rfl ?_
  refine lv_istore_n (lv' := [(1, .int ((jx_al M) 1)), (0, .ref (a 0))]) hx hb dX5_mostDamp_6 rfl hl (by decide) rfl (fun ls hl => ?_)
  refine lv_bipush (v := 61) hx hb dX5_mostDamp_7 (by decide) ?_
  refine lv_istore_n (lv' := [(2, .int 61), (1, .int ((jx_al M) 1)), (0, .ref (a 0))]) hx hb dX5_mostDamp_9 rfl hl (by decide) rfl (fun ls hl => ?_)
  refine lv_iconst (v := 0) hx hb dX5_mostDamp_10 (by decide) ?_
  refine lv_istore_n (lv' := [(3, .int 0), (2, .int 61), (1, .int ((jx_al M) 1)), (0, .ref (a 0))]) hx hb dX5_mostDamp_11 rfl hl (by decide) rfl (fun ls hl => ?_)
  have hlp : ∀ (n k : Nat) (b : Int32) (X : jx_T), k ≤ 61 → 61 < k + n → ((if b = 0 then lx_md (61 - k) X else (nI (61 - k), b, X)) = lx_md 61 M) → (jx_ok (jx_al X)) → ∀ (H : Heap) (locs : List Loc), va_P D vwCl (jx_W g a X) H → va_S A s.heap H locs → ∀ ls : Array Slot, lv_has ls 4 [(0, .ref (a 0)), (1, .int ((jx_al M) 1)), (2, .int (nI (61 - k))), (3, .int b)] → W p l e ({ frames := 5, cells := 0, slots := 0, locals := 113 }) s m args below meth c H locs 0 0 (MQ below (jk_Q (some (.int (if (lx_md 61 M).2.1 = 0 then (-1000006) else (lx_md 61 M).1))) D (jx_W g a (jx_ual (lx_md 61 M).2.2 (upd (jx_al (lx_md 61 M).2.2) 1 ((jx_al M) 1)))) A) args s 0 0 A) (F0 m 12 ls []) := by
    intro n
    induction n with
    | zero => intro k b X hk1 hk2; exact absurd hk2 (by omega)
    | succ n ih =>
      intro k b X hk hkn hE hok H locs hP hS ls hl
      have hD : va_D A (jx_W g a X) := jk_D.same hD rfl
      refine lv_iload_n hx hb dX5_mostDamp_12 rfl (lv_at hl 2 rfl) ?_
      refine lv_if_le (tgt := 51) hx hb dX5_mostDamp_13 (by decide) (fun c1 => ?_) (fun c1 => ?_)
      · have hE2 : (nI (61 - k), b, X) = lx_md 61 M := lx_md_end (jk_md0 hk c1) hE
        refine lv_aload_n hx hb dX5_mostDamp_51 rfl (lv_at hl 0 rfl) ?_
        refine va_get (D := D) (ci := 5) (v := .ref (a 1)) (C := RX5) (T := TX5) (N := 13) hx hb hts hi_5 hown hK hP 0 rfl rfl 0 (by decide) hf_7 (fun _ h9 => h9) rfl dX5_mostDamp_52 ?_
        refine lv_iconst (v := 1) hx hb dX5_mostDamp_55 (by decide) ?_
        refine lv_iload_n hx hb dX5_mostDamp_56 rfl (lv_at hl 1 rfl) ?_
        refine va_iast (f := (jx_al X)) hx hb hK hP hD hS 1 0 rfl rfl (jk_inC (by decide +kernel)) dX5_mostDamp_57 (fun H locs hP hD hS => ?_)
        have hP : va_P D vwCl (jx_W g a (jx_ual X (upd (jx_al X) 1 ((jx_al M) 1)))) H := hP
        have hD : va_D A (jx_W g a (jx_ual X (upd (jx_al X) 1 ((jx_al M) 1)))) := hD
        refine lv_iload_n hx hb dX5_mostDamp_58 rfl (lv_at hl 3 rfl) ?_
        have J2 : ∀ (x4 : Int32) (H : Heap) (locs : List Loc), x4 = (if b = 0 then (-1000006) else (nI (61 - k))) → va_P D vwCl (jx_W g a (jx_ual X (upd (jx_al X) 1 ((jx_al M) 1)))) H → va_S A s.heap H locs → W p l e ({ frames := 5, cells := 0, slots := 0, locals := 113 }) s m args below meth c H locs 0 0 (MQ below (jk_Q (some (.int (if (lx_md 61 M).2.1 = 0 then (-1000006) else (lx_md 61 M).1))) D (jx_W g a (jx_ual (lx_md 61 M).2.2 (upd (jx_al (lx_md 61 M).2.2) 1 ((jx_al M) 1)))) A) args s 0 0 A) (F0 m 68 ls [.int x4]) := by
          intro x4 H locs ex4 hP hS
          subst ex4
          exact jk_iret hx hb hr hlocks hP hS (by rw [← hE2]) (congrArg (fun z => (jx_W g a z)) ((by rw [← hE2]))) dX5_mostDamp_68
        refine lv_if_eq (tgt := 66) hx hb dX5_mostDamp_59 (by decide) (fun c3 => ?_) (fun c3 => ?_)
        · refine lv_ldc hx hb hown hk_124 dX5_mostDamp_66 ?_
          exact J2 _ H locs ((if_pos c3).trans (rfl)).symm hP hS
        · refine lv_iload_n hx hb dX5_mostDamp_62 rfl (lv_at hl 2 rfl) ?_
          refine lv_goto (tgt := 68) hx hb dX5_mostDamp_63 (by decide) ?_
          exact J2 _ H locs ((if_neg c3).trans (rfl)).symm hP hS
      · have hlt := jk_md1 hk c1
        refine lv_iload_n hx hb dX5_mostDamp_16 rfl (lv_at hl 3 rfl) ?_
        refine lv_if_ne (tgt := 51) hx hb dX5_mostDamp_17 (by decide) (fun c5 => ?_) (fun c5 => ?_)
        · have hE2 : (nI (61 - k), b, X) = lx_md 61 M := by rw [← hE, if_neg c5]
          refine lv_aload_n hx hb dX5_mostDamp_51 rfl (lv_at hl 0 rfl) ?_
          refine va_get (D := D) (ci := 5) (v := .ref (a 1)) (C := RX5) (T := TX5) (N := 13) hx hb hts hi_5 hown hK hP 0 rfl rfl 0 (by decide) hf_7 (fun _ h9 => h9) rfl dX5_mostDamp_52 ?_
          refine lv_iconst (v := 1) hx hb dX5_mostDamp_55 (by decide) ?_
          refine lv_iload_n hx hb dX5_mostDamp_56 rfl (lv_at hl 1 rfl) ?_
          refine va_iast (f := (jx_al X)) hx hb hK hP hD hS 1 0 rfl rfl (jk_inC (by decide +kernel)) dX5_mostDamp_57 (fun H locs hP hD hS => ?_)
          have hP : va_P D vwCl (jx_W g a (jx_ual X (upd (jx_al X) 1 ((jx_al M) 1)))) H := hP
          have hD : va_D A (jx_W g a (jx_ual X (upd (jx_al X) 1 ((jx_al M) 1)))) := hD
          refine lv_iload_n hx hb dX5_mostDamp_58 rfl (lv_at hl 3 rfl) ?_
          have J6 : ∀ (x8 : Int32) (H : Heap) (locs : List Loc), x8 = (if b = 0 then (-1000006) else (nI (61 - k))) → va_P D vwCl (jx_W g a (jx_ual X (upd (jx_al X) 1 ((jx_al M) 1)))) H → va_S A s.heap H locs → W p l e ({ frames := 5, cells := 0, slots := 0, locals := 113 }) s m args below meth c H locs 0 0 (MQ below (jk_Q (some (.int (if (lx_md 61 M).2.1 = 0 then (-1000006) else (lx_md 61 M).1))) D (jx_W g a (jx_ual (lx_md 61 M).2.2 (upd (jx_al (lx_md 61 M).2.2) 1 ((jx_al M) 1)))) A) args s 0 0 A) (F0 m 68 ls [.int x8]) := by
            intro x8 H locs ex8 hP hS
            subst ex8
            exact jk_iret hx hb hr hlocks hP hS (by rw [← hE2]) (congrArg (fun z => (jx_W g a z)) ((by rw [← hE2]))) dX5_mostDamp_68
          refine lv_if_eq (tgt := 66) hx hb dX5_mostDamp_59 (by decide) (fun c7 => ?_) (fun c7 => ?_)
          · refine lv_ldc hx hb hown hk_124 dX5_mostDamp_66 ?_
            exact J6 _ H locs ((if_pos c7).trans (rfl)).symm hP hS
          · refine lv_iload_n hx hb dX5_mostDamp_62 rfl (lv_at hl 2 rfl) ?_
            refine lv_goto (tgt := 68) hx hb dX5_mostDamp_63 (by decide) ?_
            exact J6 _ H locs ((if_neg c7).trans (rfl)).symm hP hS
        · have hb0 : b = 0 := c5
          refine lv_iinc (v := nI (61 - (k + 1))) (lv' := [(2, .int (nI (61 - (k + 1)))), (0, .ref (a 0)), (1, .int ((jx_al M) 1)), (3, .int b)]) hx hb dX5_mostDamp_20 hl (k := 2) rfl (jk_m1k hlt) (by decide) rfl (fun ls hl => ?_)
          refine lv_aload_n hx hb dX5_mostDamp_23 rfl (lv_at hl 1 rfl) ?_
          refine va_get (D := D) (ci := 5) (v := .ref (a 1)) (C := RX5) (T := TX5) (N := 13) hx hb hts hi_5 hown hK hP 0 rfl rfl 0 (by decide) hf_7 (fun _ h9 => h9) rfl dX5_mostDamp_24 ?_
          refine lv_iconst (v := 1) hx hb dX5_mostDamp_27 (by decide) ?_
          refine lv_iload_n hx hb dX5_mostDamp_28 rfl (lv_at hl 0 rfl) ?_
          refine va_iast (f := (jx_al X)) hx hb hK hP hD hS 1 0 rfl rfl (jk_inC (by decide +kernel)) dX5_mostDamp_29 (fun H locs hP hD hS => ?_)
          have hP : va_P D vwCl (jx_W g a (jx_ual X (upd (jx_al X) 1 (nI (61 - (k + 1)))))) H := hP
          have hD : va_D A (jx_W g a (jx_ual X (upd (jx_al X) 1 (nI (61 - (k + 1)))))) := hD
          refine lv_aload_n hx hb dX5_mostDamp_30 rfl (lv_at hl 1 rfl) ?_
          refine lv_sipush (v := 200) hx hb dX5_mostDamp_31 (by decide) ?_
          obtain ⟨S9, eS9⟩ : ∃ z : jx_T, z = (sX5_comesBack (lx_next (((jx_al (jx_ual X (upd (jx_al X) 1 (nI (61 - (k + 1))))))) 6) ((200 : Int32).toNatClampNeg + 1) (sX5_keeps (jx_ual X (upd (jx_al X) 1 (nI (61 - (k + 1)))))) 0).2) := ⟨_, rfl⟩
          refine jk_callV (As := [.int 200]) (rest := []) (ws1 := (jx_W g a S9)) ⟨hx, hb, hml, hown, hts⟩ (c_X5_nextSpark l D g a (jx_ual X (upd (jx_al X) 1 (nI (61 - (k + 1))))) (200 : Int32) (by subst_vars; exact (lx_md_ok0 hok)) (by decide) (by decide)) (cwV 1 hts gX5_mostDamp_X5_nextSpark rfl rfl rfl (by decide +kernel) ⟨Nat.le_of_ble_eq_true rfl, Nat.le_of_ble_eq_true rfl⟩) (va_recv hK hP (ci := 5) (q0 := 0) rfl rfl) hP hD hK hN rfl hl rfl (Nat.le_of_ble_eq_true rfl) dX5_mostDamp_34 ⟨Nat.zero_le _, Nat.zero_le _⟩ hS hA (fun _ h _ => by rw [eS9]; exact h) (fun H locs hP hS => ?_)
          refine W.eq (g2 := F0 m 37 ls [.int (if (lx_next (((jx_al (jx_ual X (upd (jx_al X) 1 (nI (61 - (k + 1))))))) 6) ((200 : Int32).toNatClampNeg + 1) (sX5_keeps (jx_ual X (upd (jx_al X) 1 (nI (61 - (k + 1)))))) 0).1 ≤ (200 : Int32) then (lx_next (((jx_al (jx_ual X (upd (jx_al X) 1 (nI (61 - (k + 1))))))) 6) ((200 : Int32).toNatClampNeg + 1) (sX5_keeps (jx_ual X (upd (jx_al X) 1 (nI (61 - (k + 1)))))) 0).1 else (-1000006))]) rfl ?_
          have hD : va_D A (jx_W g a S9) := jk_D.same hD rfl
          refine lv_topi (fun x10 ex10 => ?_)
          refine lv_ldc hx hb hown hk_124 dX5_mostDamp_37 ?_
          have J11 : ∀ (x13 : Int32) (H : Heap) (locs : List Loc), x13 = (if x10 = (-1000006) then 0 else 1) → va_P D vwCl (jx_W g a S9) H → va_S A s.heap H locs → W p l e ({ frames := 5, cells := 0, slots := 0, locals := 113 }) s m args below meth c H locs 0 0 (MQ below (jk_Q (some (.int (if (lx_md 61 M).2.1 = 0 then (-1000006) else (lx_md 61 M).1))) D (jx_W g a (jx_ual (lx_md 61 M).2.2 (upd (jx_al (lx_md 61 M).2.2) 1 ((jx_al M) 1)))) A) args s 0 0 A) (F0 m 47 ls [.int x13]) := by
            intro x13 H locs ex13 hP hS
            refine lv_istore_n (lv' := [(3, .int x13), (2, .int (nI (61 - (k + 1)))), (0, .ref (a 0)), (1, .int ((jx_al M) 1))]) hx hb dX5_mostDamp_47 rfl hl (by decide) rfl (fun ls hl => ?_)
            refine lv_goto (tgt := 12) hx hb dX5_mostDamp_48 (by decide) ?_
            subst ex13
            subst ex10
            subst eS9
            exact ih (k + 1) (if (if (lx_next (((jx_al (jx_ual X (upd (jx_al X) 1 (nI (61 - (k + 1))))))) 6) ((200 : Int32).toNatClampNeg + 1) (sX5_keeps (jx_ual X (upd (jx_al X) 1 (nI (61 - (k + 1)))))) 0).1 ≤ (200 : Int32) then (lx_next (((jx_al (jx_ual X (upd (jx_al X) 1 (nI (61 - (k + 1))))))) 6) ((200 : Int32).toNatClampNeg + 1) (sX5_keeps (jx_ual X (upd (jx_al X) 1 (nI (61 - (k + 1)))))) 0).1 else (-1000006)) = (-1000006) then 0 else 1) (sX5_comesBack (lx_next (((jx_al (jx_ual X (upd (jx_al X) 1 (nI (61 - (k + 1))))))) 6) ((200 : Int32).toNatClampNeg + 1) (sX5_keeps (jx_ual X (upd (jx_al X) 1 (nI (61 - (k + 1)))))) 0).2) (by omega) (by omega) (lx_md_step hlt hb0 hE) (lx_md_ok hok) H locs hP hS ls (lv_sub hl [2, 3, 1, 0] rfl)
          refine lv_icmp_eq (tgt := 46) hx hb dX5_mostDamp_39 (by decide) (fun c12 => ?_) (fun c12 => ?_)
          · refine lv_iconst (v := 0) hx hb dX5_mostDamp_46 (by decide) ?_
            exact J11 _ H locs ((if_pos c12).trans (rfl)).symm hP hS
          · refine lv_iconst (v := 1) hx hb dX5_mostDamp_42 (by decide) ?_
            refine lv_goto (tgt := 47) hx hb dX5_mostDamp_43 (by decide) ?_
            exact J11 _ H locs ((if_neg c12).trans (rfl)).symm hP hS
  exact hlp (61 + 1) 0 0 M (Nat.zero_le _) (by omega) rfl hk0 H locs hP hS ls (lv_sub hl [3, 2, 1, 0] rfl)
