def rX5_turned (M : jx_T) (vt : Int32) : Int32 := let x2 : Int32 := (jx_al (lx_turn M vt.toNatClampNeg)) 6; x2 - ((jx_al M) 6)
def sX5_turned (M : jx_T) (vt : Int32) : jx_T := let x2 : Int32 := (jx_al (lx_turn M vt.toNatClampNeg)) 6; (lx_turn M vt.toNatClampNeg)
set_option maxHeartbeats 1000000 in
set_option maxRecDepth 100000 in
theorem c_X5_turned (l : Launch) (D : va_G) (g : jk_G) (a : Nat → Nat) (M : jx_T) (vt : Int32) (hk0 : jx_ok (jx_al M)) : jk_M l D g yX5_turned wsX5_turned 4 90 [.ref (a 0), .int vt] (jx_W g a M) (some (.int (rX5_turned M vt))) (jx_W g a (sX5_turned M vt)) := by
  refine jk_of (cc := cX5_turned) (maxL := 4) (ret := (some .int)) (by decide +kernel) rfl (Nat.le_of_ble_eq_true rfl) ?_
  intro p e s m args below meth c hx hb hr hml hts hown hlocks hK hN A H locs hP hD hA hS ls hl
  have hown : s.vm.findClass RX5 = some m.cls := hown
  have hl : lv_has ls 4 [(0, .ref (a 0)), (1, .int vt)] := hl
  have hf_7 := hts (.fieldLink RX5 7 "InfluenceJarsModel" "all" "[I") (by decide +kernel)
  have hi_5 : ∀ w ∈ u_ws RX5 TX5 13, w ∈ wsX5_turned := by decide +kernel
  refine lv_aload_n hx hb dX5_turned_0 rfl (lv_at hl 0 rfl) ?_
  refine va_get (D := D) (ci := 5) (v := .ref (a 1)) (C := RX5) (T := TX5) (N := 13) hx hb hts hi_5 hown hK hP 0 rfl rfl 0 (by decide) hf_7 (fun _ h9 => h9) rfl dX5_turned_1 ?_
  refine lv_bipush (v := 6) hx hb dX5_turned_4 (by decide) ?_
  refine va_iald (f := (jx_al M)) hx hb hK hP 1 0 rfl rfl (jk_inC (by decide +kernel)) dX5_turned_6 ?_
  refine W.eq (g2 := F0 m 7 ls [.int ((jx_al M) 6)]) rfl ?_
  refine lv_istore_n (lv' := [(2, .int ((jx_al M) 6)), (0, .ref (a 0)), (1, .int vt)]) hx hb dX5_turned_7 rfl hl (by decide) rfl (fun ls hl => ?_)
  refine lv_iconst (v := 0) hx hb dX5_turned_8 (by decide) ?_
  refine lv_istore_n (lv' := [(3, .int 0), (2, .int ((jx_al M) 6)), (0, .ref (a 0)), (1, .int vt)]) hx hb dX5_turned_9 rfl hl (by decide) rfl (fun ls hl => ?_)
  have hlp : ∀ (n k : Nat), k ≤ vt.toNatClampNeg → vt.toNatClampNeg < k + n → ∀ (H : Heap) (locs : List Loc), va_P D vwCl (jx_W g a (lx_turn M k)) H → va_S A s.heap H locs → ∀ ls : Array Slot, lv_has ls 4 [(0, .ref (a 0)), (1, .int vt), (2, .int ((jx_al M) 6)), (3, .int (nI k))] → W p l e ({ frames := 4, cells := 0, slots := 0, locals := 90 }) s m args below meth c H locs 0 0 (MQ below (jk_Q (some (.int (rX5_turned M vt))) D (jx_W g a (sX5_turned M vt)) A) args s 0 0 A) (F0 m 10 ls []) := by
    intro n
    induction n with
    | zero => intro k  hk1 hk2; exact absurd hk2 (by omega)
    | succ n ih =>
      intro k  hk hkn  H locs hP hS ls hl
      have hD : va_D A (jx_W g a (lx_turn M k)) := jk_D.same hD rfl
      refine lv_iload_n hx hb dX5_turned_10 rfl (lv_at hl 3 rfl) ?_
      refine lv_iload_n hx hb dX5_turned_11 rfl (lv_at hl 1 rfl) ?_
      refine lv_icmp_ge (tgt := 25) hx hb dX5_turned_12 (by decide) (fun c1 => ?_) (fun c1 => ?_)
      · have hk9 := jk_bge hk c1
        subst hk9
        refine lv_aload_n hx hb dX5_turned_25 rfl (lv_at hl 0 rfl) ?_
        refine va_get (D := D) (ci := 5) (v := .ref (a 1)) (C := RX5) (T := TX5) (N := 13) hx hb hts hi_5 hown hK hP 0 rfl rfl 0 (by decide) hf_7 (fun _ h9 => h9) rfl dX5_turned_26 ?_
        refine lv_bipush (v := 6) hx hb dX5_turned_29 (by decide) ?_
        refine va_iald (f := (jx_al (lx_turn M vt.toNatClampNeg))) hx hb hK hP 1 0 rfl rfl (jk_inC (by decide +kernel)) dX5_turned_31 ?_
        refine W.eq (g2 := F0 m 32 ls [.int ((jx_al (lx_turn M vt.toNatClampNeg)) 6)]) rfl ?_
        refine lv_topi (fun x2 ex2 => ?_)
        refine lv_iload_n hx hb dX5_turned_32 rfl (lv_at hl 2 rfl) ?_
        refine lv_isub hx hb dX5_turned_33 ?_
        subst ex2
        exact jk_iret hx hb hr hlocks hP hS (rfl).symm (congrArg (fun z => (jx_W g a z)) ((rfl).symm)) dX5_turned_34
      · have hlt := jk_blt hk c1
        refine lv_aload_n hx hb dX5_turned_15 rfl (lv_at hl 0 rfl) ?_
        obtain ⟨S3, eS3⟩ : ∃ z : jx_T, z = sX5_turns (lx_turn M k) := ⟨_, rfl⟩
        refine jk_callV (As := []) (rest := []) (ws1 := (jx_W g a S3)) ⟨hx, hb, hml, hown, hts⟩ (c_X5_turns l D g a (lx_turn M k) (by subst_vars; exact (jx_ok_turn hk0 k))) (cwV 0 hts gX5_turned_X5_turns rfl rfl rfl (by decide +kernel) ⟨Nat.le_of_ble_eq_true rfl, Nat.le_of_ble_eq_true rfl⟩) (va_recv hK hP (ci := 5) (q0 := 0) rfl rfl) hP hD hK hN rfl hl rfl (Nat.le_of_ble_eq_true rfl) dX5_turned_16 ⟨Nat.zero_le _, Nat.zero_le _⟩ hS hA (fun _ h _ => by rw [eS3]; exact h) (fun H locs hP hS => ?_)
        refine W.eq (g2 := F0 m 19 ls []) rfl ?_
        have hD : va_D A (jx_W g a S3) := jk_D.same hD rfl
        refine lv_iinc (v := nI (k + 1)) (lv' := [(3, .int (nI (k + 1))), (0, .ref (a 0)), (1, .int vt), (2, .int ((jx_al M) 6))]) hx hb dX5_turned_19 hl (k := 3) rfl (nI_1 _) (by decide) rfl (fun ls hl => ?_)
        refine lv_goto (tgt := 10) hx hb dX5_turned_22 (by decide) ?_
        subst eS3
        exact ih (k + 1)  (by omega) (by omega)  H locs hP hS ls (lv_sub hl [1, 2, 3, 0] rfl)
  exact hlp (vt.toNatClampNeg + 1) 0  (Nat.zero_le _) (by omega)  H locs hP hS ls (lv_sub hl [2, 3, 1, 0] rfl)
