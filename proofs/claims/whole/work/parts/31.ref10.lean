set_option maxHeartbeats 1000000 in
set_option maxRecDepth 100000 in
theorem c_X5_fault (l : Launch) (D : va_G) (g : jk_G) (a : Nat → Nat) (M : jx_T) (ht : ∃ t : Nat, t ≤ 60 ∧ jx_tl M = nI t) : jk_M l D g yX5_fault wsX5_fault 5 112 [.ref (a 0)] (jx_W g a M) (some (.int ((lx_fl 61 (jx_usp M 0)).1))) (jx_W g a ((lx_fl 61 (jx_usp M 0)).2)) := by
  refine jk_of (cc := cX5_fault) (maxL := 2) (ret := (some .int)) (by decide +kernel) rfl (Nat.le_of_ble_eq_true rfl) ?_
  intro p e s m args below meth c hx hb hr hml hts hown hlocks hK hN A H locs hP hD hA hS ls hl
  have hown : s.vm.findClass RX5 = some m.cls := hown
  have hl : lv_has ls 2 [(0, .ref (a 0))] := hl
  obtain ⟨t, ht60, htl⟩ := ht
  have hf_156 := hts (.fieldLink RX5 156 "InfluenceJarsModel" "spot" "I") (by decide +kernel)
  have hi_5 : ∀ w ∈ u_ws RX5 TX5 13, w ∈ wsX5_fault := by decide +kernel
  have hf_128 := hts (.fieldLink RX5 128 "InfluenceJarsModel" "textLong" "I") (by decide +kernel)
  have hk_124 := hts (.constant RX5 124 (-1000006)) (by decide +kernel)
  refine lv_aload_n hx hb dX5_fault_0 rfl (lv_at hl 0 rfl) ?_
  refine lv_iconst (v := 0) hx hb dX5_fault_1 (by decide) ?_
  refine va_put (D := D) (ci := 5) (v := .int 0) (ty := .int) (C := RX5) (T := TX5) (N := 13) hx hb hts hi_5 tyX5 tyX5_ok nmX5 hown hK hP hD hS 0 rfl rfl 8 (by decide) hf_156 (fun _ h9 => h9) rfl (by decide +kernel) rfl rfl (Nat.le_of_ble_eq_true rfl) dX5_fault_2 (fun H locs hP hD hS => ?_)
  have hP : va_P D vwCl (jx_W g a (jx_usp M 0)) H := hP
  have hD : va_D A (jx_W g a (jx_usp M 0)) := hD
  refine lv_iconst (v := 1) hx hb dX5_fault_5 (by decide) ?_
  refine lv_istore_n (lv' := [(1, .int 1), (0, .ref (a 0))]) hx hb dX5_fault_6 rfl hl (by decide) rfl (fun ls hl => ?_)
  have hlp : ∀ (n k : Nat) (b : Int32) (X : jx_T), k ≤ 61 → 61 < k + n → (lx_fE b (61 - k) X = lx_fl 61 (jx_usp M 0)) → (jx_tpn X t (jx_pos X)) → (b = 0 ∨ k ≤ jx_pos X) → ∀ (H : Heap) (locs : List Loc), va_P D vwCl (jx_W g a X) H → va_S A s.heap H locs → ∀ ls : Array Slot, lv_has ls 2 [(0, .ref (a 0)), (1, .int b)] → W p l e ({ frames := 5, cells := 0, slots := 0, locals := 112 }) s m args below meth c H locs 0 0 (MQ below (jk_Q (some (.int ((lx_fl 61 (jx_usp M 0)).1))) D (jx_W g a ((lx_fl 61 (jx_usp M 0)).2)) A) args s 0 0 A) (F0 m 7 ls []) := by
    intro n
    induction n with
    | zero => intro k b X hk1 hk2; exact absurd hk2 (by omega)
    | succ n ih =>
      intro k b X hk hkn hE hX hbq H locs hP hS ls hl
      have hD : va_D A (jx_W g a X) := jk_D.same hD rfl
      refine lv_iload_n hx hb dX5_fault_7 rfl (lv_at hl 1 rfl) ?_
      refine lv_if_eq (tgt := 33) hx hb dX5_fault_8 (by decide) (fun c_8 => ?_) (fun c_8 => ?_)
      · have hE2 : lx_fin X = lx_fl 61 (jx_usp M 0) := lx_fl_fin c_8 hE
        refine lv_aload_n hx hb dX5_fault_33 rfl (lv_at hl 0 rfl) ?_
        refine va_get (D := D) (ci := 5) (v := .int (jx_sp X)) (C := RX5) (T := TX5) (N := 13) hx hb hts hi_5 hown hK hP 0 rfl rfl 8 (by decide) hf_156 (fun _ h9 => h9) rfl dX5_fault_34 ?_
        refine lv_aload_n hx hb dX5_fault_37 rfl (lv_at hl 0 rfl) ?_
        refine va_get (D := D) (ci := 5) (v := .int (jx_tl X)) (C := RX5) (T := TX5) (N := 13) hx hb hts hi_5 hown hK hP 0 rfl rfl 7 (by decide) hf_128 (fun _ h9 => h9) rfl dX5_fault_38 ?_
        have J1 : ∀ (x2 : Int32) (H : Heap) (locs : List Loc), x2 = (if (jx_sp X) = (jx_tl X) then (-1000006) else (jx_sp X)) → va_P D vwCl (jx_W g a X) H → va_S A s.heap H locs → W p l e ({ frames := 5, cells := 0, slots := 0, locals := 112 }) s m args below meth c H locs 0 0 (MQ below (jk_Q (some (.int ((lx_fl 61 (jx_usp M 0)).1))) D (jx_W g a ((lx_fl 61 (jx_usp M 0)).2)) A) args s 0 0 A) (F0 m 53 ls [.int x2]) := by
          intro x2 H locs ex2 hP hS
          subst ex2
          exact jk_iret hx hb hr hlocks hP hS (by rw [← hE2]; rfl) (congrArg (fun z => (jx_W g a z)) ((by rw [← hE2]; rfl))) dX5_fault_53
        refine lv_icmp_ne (tgt := 49) hx hb dX5_fault_41 (by decide) (fun c_41 => ?_) (fun c_41 => ?_)
        · refine lv_aload_n hx hb dX5_fault_49 rfl (lv_at hl 0 rfl) ?_
          refine va_get (D := D) (ci := 5) (v := .int (jx_sp X)) (C := RX5) (T := TX5) (N := 13) hx hb hts hi_5 hown hK hP 0 rfl rfl 8 (by decide) hf_156 (fun _ h9 => h9) rfl dX5_fault_50 ?_
          exact J1 _ H locs ((if_neg c_41).trans (rfl)).symm hP hS
        · refine lv_ldc hx hb hown hk_124 dX5_fault_44 ?_
          refine lv_goto (tgt := 53) hx hb dX5_fault_46 (by decide) ?_
          exact J1 _ H locs ((if_pos c_41).trans (rfl)).symm hP hS
      · have hkq : k ≤ jx_pos X := hbq.resolve_left c_8
        have hlt : k < 61 := by have h1 := hX.1; have h2 := hX.2.1; omega
        refine lv_aload_n hx hb dX5_fault_11 rfl (lv_at hl 0 rfl) ?_
        obtain ⟨S3, eS3⟩ : ∃ z : jx_T, z = sX5_readsDeed X := ⟨_, rfl⟩
        refine jk_callV (As := []) (rest := []) (ws1 := (jx_W g a S3)) ⟨hx, hb, hml, hown, hts⟩ (c_X5_readsDeed l D g a X (by subst_vars; exact (hX.tp))) (cwV 0 hts gX5_fault_X5_readsDeed rfl rfl rfl (by decide +kernel) ⟨Nat.le_of_ble_eq_true rfl, Nat.le_of_ble_eq_true rfl⟩) (va_recv hK hP (ci := 5) (q0 := 0) rfl rfl) hP hD hK hN rfl hl rfl (Nat.le_of_ble_eq_true rfl) dX5_fault_12 ⟨Nat.zero_le _, Nat.zero_le _⟩ hS hA (fun _ h _ => by rw [eS3]; exact h) (fun H locs hP hS => ?_)
        refine W.eq (g2 := F0 m 15 ls [.int (rX5_readsDeed X)]) rfl ?_
        have hD : va_D A (jx_W g a S3) := jk_D.same hD rfl
        refine lv_topi (fun x4 ex4 => ?_)
        refine lv_if_ne (tgt := 23) hx hb dX5_fault_15 (by decide) (fun c_15 => ?_) (fun c_15 => ?_)
        · refine lv_aload_n hx hb dX5_fault_23 rfl (lv_at hl 0 rfl) ?_
          refine lv_bipush (v := 59) hx hb dX5_fault_24 (by decide) ?_
          obtain ⟨S5, eS5⟩ : ∃ z : jx_T, z = sX5_takesOne S3 (59 : Int32) := ⟨_, rfl⟩
          refine jk_callV (As := [.int 59]) (rest := []) (ws1 := (jx_W g a S5)) ⟨hx, hb, hml, hown, hts⟩ (c_X5_takesOne l D g a S3 (59 : Int32) (by rw [eS3]; obtain ⟨q1, -, h1⟩ := tn_deed hX; exact h1.tp)) (cwV 1 hts gX5_fault_X5_takesOne rfl rfl rfl (by decide +kernel) ⟨Nat.le_of_ble_eq_true rfl, Nat.le_of_ble_eq_true rfl⟩) (va_recv hK hP (ci := 5) (q0 := 0) rfl rfl) hP hD hK hN rfl hl rfl (Nat.le_of_ble_eq_true rfl) dX5_fault_26 ⟨Nat.zero_le _, Nat.zero_le _⟩ hS hA (fun _ h _ => by rw [eS5]; exact h) (fun H locs hP hS => ?_)
          refine W.eq (g2 := F0 m 29 ls [.int (rX5_takesOne S3 (59 : Int32))]) rfl ?_
          have hD : va_D A (jx_W g a S5) := jk_D.same hD rfl
          refine lv_topi (fun x6 ex6 => ?_)
          refine lv_istore_n (lv' := [(1, .int x6), (0, .ref (a 0))]) hx hb dX5_fault_29 rfl hl (by decide) rfl (fun ls hl => ?_)
          refine lv_goto (tgt := 7) hx hb dX5_fault_30 (by decide) ?_
          subst ex6
          subst eS5
          subst ex4
          subst eS3
          exact ih (k + 1) (rX5_takesOne (sX5_readsDeed X) (59 : Int32)) (sX5_takesOne (sX5_readsDeed X) (59 : Int32)) (by omega) (by omega) (lx_fl_next hlt c_8 c_15 hE) (tn_next hX) (tn_more hX hkq) H locs hP hS ls (lv_sub hl [1, 0] rfl)
        · have hE2 : (jx_sp (sX5_readsDeed X), sX5_readsDeed X) = lx_fl 61 (jx_usp M 0) := by subst_vars; exact lx_fl_stop hlt c_8 c_15 hE
          refine lv_aload_n hx hb dX5_fault_18 rfl (lv_at hl 0 rfl) ?_
          refine va_get (D := D) (ci := 5) (v := .int (jx_sp S3)) (C := RX5) (T := TX5) (N := 13) hx hb hts hi_5 hown hK hP 0 rfl rfl 8 (by decide) hf_156 (fun _ h9 => h9) rfl dX5_fault_19 ?_
          subst ex4
          subst eS3
          exact jk_iret hx hb hr hlocks hP hS (by rw [← hE2]) (congrArg (fun z => (jx_W g a z)) ((by rw [← hE2]))) dX5_fault_22
  exact hlp (61 + 1) 0 1 (jx_usp M 0) (Nat.zero_le _) (by omega) rfl ⟨ht60, Nat.zero_le _, htl, rfl⟩ (Or.inr (Nat.zero_le _)) H locs hP hS ls (lv_sub hl [1, 0] rfl)

def rX5_does (M : jx_T) : Int32 := if (jx_le M) = 46 then (if (((jx_al M) 5) + (jx_nu M)) ≤ 99999 then (let S6 : jx_T := sX5_turned M (jx_nu M); let x7 : Int32 := rX5_turned M (jx_nu M); x7) else (0)) else (if (jx_le M) = 120 then (let S4 : jx_T := sX5_discharges M; let x5 : Int32 := rX5_discharges M; 0) else (let x2 : Int32 := (if (jx_le M) = 102 then 0 else 1); let S3 : jx_T := sX5_touches M x2 (jx_pl M) (jx_cg M); 0))
def sX5_does (M : jx_T) : jx_T := if (jx_le M) = 46 then (if (((jx_al M) 5) + (jx_nu M)) ≤ 99999 then (let S6 : jx_T := sX5_turned M (jx_nu M); let x7 : Int32 := rX5_turned M (jx_nu M); S6) else (M)) else (if (jx_le M) = 120 then (let S4 : jx_T := sX5_discharges M; let x5 : Int32 := rX5_discharges M; S4) else (let x2 : Int32 := (if (jx_le M) = 102 then 0 else 1); let S3 : jx_T := sX5_touches M x2 (jx_pl M) (jx_cg M); S3))
set_option maxHeartbeats 1000000 in
set_option maxRecDepth 100000 in
theorem c_X5_does (l : Launch) (D : va_G) (g : jk_G) (a : Nat → Nat) (M : jx_T) (hk0 : jx_ok (jx_al M)) (hcl : ¬ jx_le M = 46 → ¬ jx_le M = 120 → vp_in (rX5_cell (if jx_le M = 102 then 0 else 1) (jx_pl M)) 67) : jk_M l D g yX5_does wsX5_does 5 113 [.ref (a 0)] (jx_W g a M) (some (.int (rX5_does M))) (jx_W g a (sX5_does M)) := by
  refine jk_of (cc := cX5_does) (maxL := 2) (ret := (some .int)) (by decide +kernel) rfl (Nat.le_of_ble_eq_true rfl) ?_
  intro p e s m args below meth c hx hb hr hml hts hown hlocks hK hN A H locs hP hD hA hS ls hl
  have hown : s.vm.findClass RX5 = some m.cls := hown
  have hl : lv_has ls 2 [(0, .ref (a 0))] := hl
  have hf_177 := hts (.fieldLink RX5 177 "InfluenceJarsModel" "letter" "I") (by decide +kernel)
  have hi_5 : ∀ w ∈ u_ws RX5 TX5 13, w ∈ wsX5_does := by decide +kernel
  have hf_168 := hts (.fieldLink RX5 168 "InfluenceJarsModel" "place" "I") (by decide +kernel)
  have hf_174 := hts (.fieldLink RX5 174 "InfluenceJarsModel" "charge" "I") (by decide +kernel)
  have hf_7 := hts (.fieldLink RX5 7 "InfluenceJarsModel" "all" "[I") (by decide +kernel)
  have hf_162 := hts (.fieldLink RX5 162 "InfluenceJarsModel" "number" "I") (by decide +kernel)
  have hk_113 := hts (.constant RX5 113 99999) (by decide +kernel)
  refine lv_aload_n hx hb dX5_does_0 rfl (lv_at hl 0 rfl) ?_
  refine va_get (D := D) (ci := 5) (v := .int (jx_le M)) (C := RX5) (T := TX5) (N := 13) hx hb hts hi_5 hown hK hP 0 rfl rfl 10 (by decide) hf_177 (fun _ h9 => h9) rfl dX5_does_1 ?_
  refine lv_bipush (v := 46) hx hb dX5_does_4 (by decide) ?_
  refine lv_icmp_ne (tgt := 38) hx hb dX5_does_6 (by decide) (fun c_6 => ?_) (fun c_6 => ?_)
  · refine lv_aload_n hx hb dX5_does_38 rfl (lv_at hl 0 rfl) ?_
    refine va_get (D := D) (ci := 5) (v := .int (jx_le M)) (C := RX5) (T := TX5) (N := 13) hx hb hts hi_5 hown hK hP 0 rfl rfl 10 (by decide) hf_177 (fun _ h9 => h9) rfl dX5_does_39 ?_
    refine lv_bipush (v := 120) hx hb dX5_does_42 (by decide) ?_
    refine lv_icmp_ne (tgt := 54) hx hb dX5_does_44 (by decide) (fun c_44 => ?_) (fun c_44 => ?_)
    · refine lv_aload_n hx hb dX5_does_54 rfl (lv_at hl 0 rfl) ?_
      refine lv_aload_n hx hb dX5_does_55 rfl (lv_at hl 0 rfl) ?_
      refine va_get (D := D) (ci := 5) (v := .int (jx_le M)) (C := RX5) (T := TX5) (N := 13) hx hb hts hi_5 hown hK hP 0 rfl rfl 10 (by decide) hf_177 (fun _ h9 => h9) rfl dX5_does_56 ?_
      refine lv_bipush (v := 102) hx hb dX5_does_59 (by decide) ?_
      have J1 : ∀ (x2 : Int32) (H : Heap) (locs : List Loc), x2 = (if (jx_le M) = 102 then 0 else 1) → va_P D vwCl (jx_W g a M) H → va_S A s.heap H locs → W p l e ({ frames := 5, cells := 0, slots := 0, locals := 113 }) s m args below meth c H locs 0 0 (MQ below (jk_Q (some (.int (rX5_does M))) D (jx_W g a (sX5_does M)) A) args s 0 0 A) (F0 m 69 ls [.int x2, .ref (a 0)]) := by
        intro x2 H locs ex2 hP hS
        refine lv_aload_n hx hb dX5_does_69 rfl (lv_at hl 0 rfl) ?_
        refine va_get (D := D) (ci := 5) (v := .int (jx_pl M)) (C := RX5) (T := TX5) (N := 13) hx hb hts hi_5 hown hK hP 0 rfl rfl 11 (by decide) hf_168 (fun _ h9 => h9) rfl dX5_does_70 ?_
        refine lv_aload_n hx hb dX5_does_73 rfl (lv_at hl 0 rfl) ?_
        refine va_get (D := D) (ci := 5) (v := .int (jx_cg M)) (C := RX5) (T := TX5) (N := 13) hx hb hts hi_5 hown hK hP 0 rfl rfl 12 (by decide) hf_174 (fun _ h9 => h9) rfl dX5_does_74 ?_
        obtain ⟨S3, eS3⟩ : ∃ z : jx_T, z = sX5_touches M x2 (jx_pl M) (jx_cg M) := ⟨_, rfl⟩
        refine jk_callV (As := [.int x2, .int (jx_pl M), .int (jx_cg M)]) (rest := []) (ws1 := (jx_W g a S3)) ⟨hx, hb, hml, hown, hts⟩ (c_X5_touches l D g a M x2 (jx_pl M) (jx_cg M) (by subst_vars; exact hcl c_6 c_44)) (cwV 3 hts gX5_does_X5_touches rfl rfl rfl (by decide +kernel) ⟨Nat.le_of_ble_eq_true rfl, Nat.le_of_ble_eq_true rfl⟩) (va_recv hK hP (ci := 5) (q0 := 0) rfl rfl) hP hD hK hN rfl hl rfl (Nat.le_of_ble_eq_true rfl) dX5_does_77 ⟨Nat.zero_le _, Nat.zero_le _⟩ hS hA (fun _ h _ => by rw [eS3]; exact h) (fun H locs hP hS => ?_)
        refine W.eq (g2 := F0 m 80 ls []) rfl ?_
        have hD : va_D A (jx_W g a S3) := jk_D.same hD rfl
        refine lv_iconst (v := 0) hx hb dX5_does_80 (by decide) ?_
        subst eS3
        subst ex2
        exact jk_iret hx hb hr hlocks hP hS (by unfold rX5_does; rw [if_neg c_6, if_neg c_44]) (congrArg (fun z => (jx_W g a z)) ((by unfold sX5_does; rw [if_neg c_6, if_neg c_44]))) dX5_does_81
      refine lv_icmp_ne (tgt := 68) hx hb dX5_does_61 (by decide) (fun c_61 => ?_) (fun c_61 => ?_)
      · refine lv_iconst (v := 1) hx hb dX5_does_68 (by decide) ?_
        exact J1 _ H locs ((if_neg c_61).trans (rfl)).symm hP hS
      · refine lv_iconst (v := 0) hx hb dX5_does_64 (by decide) ?_
        refine lv_goto (tgt := 69) hx hb dX5_does_65 (by decide) ?_
        exact J1 _ H locs ((if_pos c_61).trans (rfl)).symm hP hS
    · refine lv_aload_n hx hb dX5_does_47 rfl (lv_at hl 0 rfl) ?_
      obtain ⟨S4, eS4⟩ : ∃ z : jx_T, z = sX5_discharges M := ⟨_, rfl⟩
      refine jk_callV (As := []) (rest := []) (ws1 := (jx_W g a S4)) ⟨hx, hb, hml, hown, hts⟩ (c_X5_discharges l D g a M) (cwV 0 hts gX5_does_X5_discharges rfl rfl rfl (by decide +kernel) ⟨Nat.le_of_ble_eq_true rfl, Nat.le_of_ble_eq_true rfl⟩) (va_recv hK hP (ci := 5) (q0 := 0) rfl rfl) hP hD hK hN rfl hl rfl (Nat.le_of_ble_eq_true rfl) dX5_does_48 ⟨Nat.zero_le _, Nat.zero_le _⟩ hS hA (fun _ h _ => by rw [eS4]; exact h) (fun H locs hP hS => ?_)
      refine W.eq (g2 := F0 m 51 ls [.int (rX5_discharges M)]) rfl ?_
      have hD : va_D A (jx_W g a S4) := jk_D.same hD rfl
      refine lv_topi (fun x5 ex5 => ?_)
      refine lv_istore_n (lv' := [(1, .int x5), (0, .ref (a 0))]) hx hb dX5_does_51 rfl hl (by decide) rfl (fun ls hl => ?_)
      refine lv_iconst (v := 0) hx hb dX5_does_52 (by decide) ?_
      subst ex5
      subst eS4
      exact jk_iret hx hb hr hlocks hP hS (by unfold rX5_does; rw [if_neg c_6, if_pos c_44]) (congrArg (fun z => (jx_W g a z)) ((by unfold sX5_does; rw [if_neg c_6, if_pos c_44]))) dX5_does_53
  · refine lv_aload_n hx hb dX5_does_9 rfl (lv_at hl 0 rfl) ?_
    refine va_get (D := D) (ci := 5) (v := .ref (a 1)) (C := RX5) (T := TX5) (N := 13) hx hb hts hi_5 hown hK hP 0 rfl rfl 0 (by decide) hf_7 (fun _ h9 => h9) rfl dX5_does_10 ?_
    refine lv_iconst (v := 5) hx hb dX5_does_13 (by decide) ?_
    refine va_iald (f := (jx_al M)) hx hb hK hP 1 0 rfl rfl (jk_inC (by decide +kernel)) dX5_does_14 ?_
    refine W.eq (g2 := F0 m 15 ls [.int ((jx_al M) 5)]) rfl ?_
    refine lv_aload_n hx hb dX5_does_15 rfl (lv_at hl 0 rfl) ?_
    refine va_get (D := D) (ci := 5) (v := .int (jx_nu M)) (C := RX5) (T := TX5) (N := 13) hx hb hts hi_5 hown hK hP 0 rfl rfl 9 (by decide) hf_162 (fun _ h9 => h9) rfl dX5_does_16 ?_
    refine lv_iadd hx hb dX5_does_19 ?_
    refine lv_ldc hx hb hown hk_113 dX5_does_20 ?_
    refine lv_icmp_le (tgt := 29) hx hb dX5_does_22 (by decide) (fun c_22 => ?_) (fun c_22 => ?_)
    · refine lv_aload_n hx hb dX5_does_29 rfl (lv_at hl 0 rfl) ?_
      refine lv_aload_n hx hb dX5_does_30 rfl (lv_at hl 0 rfl) ?_
      refine va_get (D := D) (ci := 5) (v := .int (jx_nu M)) (C := RX5) (T := TX5) (N := 13) hx hb hts hi_5 hown hK hP 0 rfl rfl 9 (by decide) hf_162 (fun _ h9 => h9) rfl dX5_does_31 ?_
      obtain ⟨S6, eS6⟩ : ∃ z : jx_T, z = sX5_turned M (jx_nu M) := ⟨_, rfl⟩
      refine jk_callV (As := [.int (jx_nu M)]) (rest := []) (ws1 := (jx_W g a S6)) ⟨hx, hb, hml, hown, hts⟩ (c_X5_turned l D g a M (jx_nu M) (by subst_vars; exact hk0)) (cwV 1 hts gX5_does_X5_turned rfl rfl rfl (by decide +kernel) ⟨Nat.le_of_ble_eq_true rfl, Nat.le_of_ble_eq_true rfl⟩) (va_recv hK hP (ci := 5) (q0 := 0) rfl rfl) hP hD hK hN rfl hl rfl (Nat.le_of_ble_eq_true rfl) dX5_does_34 ⟨Nat.zero_le _, Nat.zero_le _⟩ hS hA (fun _ h _ => by rw [eS6]; exact h) (fun H locs hP hS => ?_)
      refine W.eq (g2 := F0 m 37 ls [.int (rX5_turned M (jx_nu M))]) rfl ?_
      have hD : va_D A (jx_W g a S6) := jk_D.same hD rfl
      refine lv_topi (fun x7 ex7 => ?_)
      subst ex7
      subst eS6
      exact jk_iret hx hb hr hlocks hP hS (by unfold rX5_does; rw [if_pos c_6, if_pos c_22]) (congrArg (fun z => (jx_W g a z)) ((by unfold sX5_does; rw [if_pos c_6, if_pos c_22]))) dX5_does_37
    · refine lv_iconst (v := 0) hx hb dX5_does_25 (by decide) ?_
      refine lv_goto (tgt := 37) hx hb dX5_does_26 (by decide) ?_
      exact jk_iret hx hb hr hlocks hP hS (by unfold rX5_does; rw [if_pos c_6, if_neg c_22]) (congrArg (fun z => (jx_W g a z)) ((by unfold sX5_does; rw [if_pos c_6, if_neg c_22]))) dX5_does_37
