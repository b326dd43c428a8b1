set_option maxHeartbeats 1000000 in
set_option maxRecDepth 100000 in
theorem c_X5_changes (l : Launch) (D : va_G) (g : jk_G) (a : Nat → Nat) (M : jx_T) (nh : Nat) (hn6 : nh ≤ 6) (hn : jx_hl M = nI nh) : jk_M l D g yX5_changes wsX5_changes 0 0 [.ref (a 0)] (jx_W g a M) none (jx_W g a (lx_chg M nh)) := by
  refine jk_of (cc := cX5_changes) (maxL := 2) (ret := none) (by decide +kernel) rfl (Nat.le_of_ble_eq_true rfl) ?_
  intro p e s m args below meth c hx hb hr hml hts hown hlocks hK hN A H locs hP hD hA hS ls hl
  have hown : s.vm.findClass RX5 = some m.cls := hown
  have hl : lv_has ls 2 [(0, .ref (a 0))] := hl
  have hf_28 := hts (.fieldLink RX5 28 "InfluenceJarsModel" "historyLong" "I") (by decide +kernel)
  have hi_5 : ∀ w ∈ u_ws RX5 TX5 13, w ∈ wsX5_changes := by decide +kernel
  have hf_16 := hts (.fieldLink RX5 16 "InfluenceJarsModel" "history" "[I") (by decide +kernel)
  have hf_7 := hts (.fieldLink RX5 7 "InfluenceJarsModel" "all" "[I") (by decide +kernel)
  refine lv_aload_n hx hb dX5_changes_0 rfl (lv_at hl 0 rfl) ?_
  refine va_get (D := D) (ci := 5) (v := .int (jx_hl M)) (C := RX5) (T := TX5) (N := 13) hx hb hts hi_5 hown hK hP 0 rfl rfl 3 (by decide) hf_28 (fun _ h9 => h9) rfl dX5_changes_1 ?_
  refine lv_bipush (v := 6) hx hb dX5_changes_4 (by decide) ?_
  refine lv_icmp_ne (tgt := 49) hx hb dX5_changes_6 (by decide) (fun c1 => ?_) (fun c1 => ?_)
  · refine lv_iconst (v := 0) hx hb dX5_changes_49 (by decide) ?_
    refine lv_istore_n (lv' := [(1, .int 0), (0, .ref (a 0))]) hx hb dX5_changes_50 rfl hl (by decide) rfl (fun ls hl => ?_)
    have hlp : ∀ (n k : Nat), k ≤ 67 → 67 < k + n → ∀ (H : Heap) (locs : List Loc), va_P D vwCl (jx_W g a (jx_uhi M (lx_cpo (jx_al M) (jx_hi M) 0 (67 * nh) k))) H → va_S A s.heap H locs → ∀ ls : Array Slot, lv_has ls 2 [(0, .ref (a 0)), (1, .int (nI k))] → W p l e ({ frames := 0, cells := 0, slots := 0, locals := 0 }) s m args below meth c H locs 0 0 (MQ below (jk_Q none D (jx_W g a (lx_chg M nh)) A) args s 0 0 A) (F0 m 51 ls []) := by
      intro n
      induction n with
      | zero => intro k  hk1 hk2; exact absurd hk2 (by omega)
      | succ n ih =>
        intro k  hk hkn  H locs hP hS ls hl
        have hD : va_D A (jx_W g a (jx_uhi M (lx_cpo (jx_al M) (jx_hi M) 0 (67 * nh) k))) := jk_D.same hD rfl
        refine lv_iload_n hx hb dX5_changes_51 rfl (lv_at hl 1 rfl) ?_
        refine lv_bipush (v := 67) hx hb dX5_changes_52 (by decide) ?_
        refine lv_icmp_ge (tgt := 83) hx hb dX5_changes_54 (by decide) (fun c2 => ?_) (fun c2 => ?_)
        · have hk9 : k = 67 := jk_ge (N := 67) (by decide) hk c2
          subst hk9
          refine lv_aload_n hx hb dX5_changes_83 rfl (lv_at hl 0 rfl) ?_
          refine lv_dup hx hb dX5_changes_84 rfl ?_
          refine va_get (D := D) (ci := 5) (v := .int (jx_hl M)) (C := RX5) (T := TX5) (N := 13) hx hb hts hi_5 hown hK hP 0 rfl rfl 3 (by decide) hf_28 (fun _ h9 => h9) rfl dX5_changes_85 ?_
          refine lv_iconst (v := 1) hx hb dX5_changes_88 (by decide) ?_
          refine lv_iadd hx hb dX5_changes_89 ?_
          refine va_put (D := D) (ci := 5) (v := .int ((jx_hl M) + 1)) (ty := .int) (C := RX5) (T := TX5) (N := 13) hx hb hts hi_5 tyX5 tyX5_ok nmX5 hown hK hP hD hS 0 rfl rfl 3 (by decide) hf_28 (fun _ h9 => h9) rfl (by decide +kernel) rfl rfl (Nat.le_of_ble_eq_true rfl) dX5_changes_90 (fun H locs hP hD hS => ?_)
          have hP : va_P D vwCl (jx_W g a (jx_uhl (jx_uhi M (lx_cpo (jx_al M) (jx_hi M) 0 (67 * nh) 67)) ((jx_hl M) + 1))) H := hP
          have hD : va_D A (jx_W g a (jx_uhl (jx_uhi M (lx_cpo (jx_al M) (jx_hi M) 0 (67 * nh) 67)) ((jx_hl M) + 1))) := hD
          exact jk_vret hx hb hr hlocks hP hS (congrArg (fun z => (jx_W g a z)) ((lx_chgB hn hn6 c1))) dX5_changes_93
        · have hlt : k < 67 := jk_lt (N := 67) (by decide) hk c2
          refine lv_aload_n hx hb dX5_changes_57 rfl (lv_at hl 0 rfl) ?_
          refine va_get (D := D) (ci := 5) (v := .ref (a 3)) (C := RX5) (T := TX5) (N := 13) hx hb hts hi_5 hown hK hP 0 rfl rfl 2 (by decide) hf_16 (fun _ h9 => h9) rfl dX5_changes_58 ?_
          refine lv_bipush (v := 67) hx hb dX5_changes_61 (by decide) ?_
          refine lv_aload_n hx hb dX5_changes_63 rfl (lv_at hl 0 rfl) ?_
          refine va_get (D := D) (ci := 5) (v := .int (jx_hl M)) (C := RX5) (T := TX5) (N := 13) hx hb hts hi_5 hown hK hP 0 rfl rfl 3 (by decide) hf_28 (fun _ h9 => h9) rfl dX5_changes_64 ?_
          refine lv_imul hx hb dX5_changes_67 ?_
          refine lv_iload_n hx hb dX5_changes_68 rfl (lv_at hl 1 rfl) ?_
          refine lv_iadd hx hb dX5_changes_69 ?_
          refine lv_aload_n hx hb dX5_changes_70 rfl (lv_at hl 0 rfl) ?_
          refine va_get (D := D) (ci := 5) (v := .ref (a 1)) (C := RX5) (T := TX5) (N := 13) hx hb hts hi_5 hown hK hP 0 rfl rfl 0 (by decide) hf_7 (fun _ h9 => h9) rfl dX5_changes_71 ?_
          refine lv_iload_n hx hb dX5_changes_74 rfl (lv_at hl 1 rfl) ?_
          refine va_iald (f := (jx_al M)) hx hb hK hP 1 0 rfl rfl (vp_in_nI (by omega) (by decide)) dX5_changes_75 ?_
          refine lv_topi (fun x3 ex3 => ?_)
          refine va_iast (f := (lx_cpo (jx_al M) (jx_hi M) 0 (67 * nh) k)) hx hb hK hP hD hS 3 0 rfl rfl (by subst_vars; exact lx_i67b hn hn6 c1 hlt) dX5_changes_76 (fun H locs hP hD hS => ?_)
          obtain ⟨f4, ef4⟩ : ∃ z : Nat → Int32, z = (upd (lx_cpo (jx_al M) (jx_hi M) 0 (67 * nh) k) ((67 * (jx_hl M)) + (nI k)).toNatClampNeg x3) := ⟨_, rfl⟩
          rw [← ef4] at hP hD
          have hP : va_P D vwCl (jx_W g a (jx_uhi M f4)) H := hP
          have hD : va_D A (jx_W g a (jx_uhi M f4)) := hD
          refine lv_iinc (v := nI (k + 1)) (lv' := [(1, .int (nI (k + 1))), (0, .ref (a 0))]) hx hb dX5_changes_77 hl (k := 1) rfl (nI_1 _) (by decide) rfl (fun ls hl => ?_)
          refine lv_goto (tgt := 51) hx hb dX5_changes_80 (by decide) ?_
          subst ef4
          subst ex3
          rw [lx_s67b _ _ hn hn6 hlt] at hP
          exact ih (k + 1)  (by omega) (by omega)  H locs hP hS ls (lv_sub hl [1, 0] rfl)
    exact hlp (67 + 1) 0  (Nat.zero_le _) (by omega)  H locs (by rw [lx_cpo_0]; exact hP) hS ls (lv_sub hl [1, 0] rfl)
  · refine lv_iconst (v := 0) hx hb dX5_changes_9 (by decide) ?_
    refine lv_istore_n (lv' := [(1, .int 0), (0, .ref (a 0))]) hx hb dX5_changes_10 rfl hl (by decide) rfl (fun ls hl => ?_)
    have hlp : ∀ (n k : Nat), k ≤ 335 → 335 < k + n → ∀ (H : Heap) (locs : List Loc), va_P D vwCl (jx_W g a (jx_uhi M (lx_sh (jx_hi M) 67 k))) H → va_S A s.heap H locs → ∀ ls : Array Slot, lv_has ls 2 [(0, .ref (a 0)), (1, .int (nI k))] → W p l e ({ frames := 0, cells := 0, slots := 0, locals := 0 }) s m args below meth c H locs 0 0 (MQ below (jk_Q none D (jx_W g a (lx_chg M nh)) A) args s 0 0 A) (F0 m 11 ls []) := by
      intro n
      induction n with
      | zero => intro k  hk1 hk2; exact absurd hk2 (by omega)
      | succ n ih =>
        intro k  hk hkn  H locs hP hS ls hl
        have hD : va_D A (jx_W g a (jx_uhi M (lx_sh (jx_hi M) 67 k))) := jk_D.same hD rfl
        refine lv_iload_n hx hb dX5_changes_11 rfl (lv_at hl 1 rfl) ?_
        refine lv_sipush (v := 335) hx hb dX5_changes_12 (by decide) ?_
        refine lv_icmp_ge (tgt := 39) hx hb dX5_changes_15 (by decide) (fun c5 => ?_) (fun c5 => ?_)
        · have hk9 : k = 335 := jk_ge (N := 335) (by decide) hk c5
          subst hk9
          refine lv_aload_n hx hb dX5_changes_39 rfl (lv_at hl 0 rfl) ?_
          refine lv_dup hx hb dX5_changes_40 rfl ?_
          refine va_get (D := D) (ci := 5) (v := .int (jx_hl M)) (C := RX5) (T := TX5) (N := 13) hx hb hts hi_5 hown hK hP 0 rfl rfl 3 (by decide) hf_28 (fun _ h9 => h9) rfl dX5_changes_41 ?_
          refine lv_iconst (v := 1) hx hb dX5_changes_44 (by decide) ?_
          refine lv_isub hx hb dX5_changes_45 ?_
          refine va_put (D := D) (ci := 5) (v := .int ((jx_hl M) - 1)) (ty := .int) (C := RX5) (T := TX5) (N := 13) hx hb hts hi_5 tyX5 tyX5_ok nmX5 hown hK hP hD hS 0 rfl rfl 3 (by decide) hf_28 (fun _ h9 => h9) rfl (by decide +kernel) rfl rfl (Nat.le_of_ble_eq_true rfl) dX5_changes_46 (fun H locs hP hD hS => ?_)
          have hP : va_P D vwCl (jx_W g a (jx_uhl (jx_uhi M (lx_sh (jx_hi M) 67 335)) ((jx_hl M) - 1))) H := hP
          have hD : va_D A (jx_W g a (jx_uhl (jx_uhi M (lx_sh (jx_hi M) 67 335)) ((jx_hl M) - 1))) := hD
          refine lv_iconst (v := 0) hx hb dX5_changes_49 (by decide) ?_
          refine lv_istore_n (lv' := [(1, .int 0), (0, .ref (a 0))]) hx hb dX5_changes_50 rfl hl (by decide) rfl (fun ls hl => ?_)
          have hlp : ∀ (n k : Nat), k ≤ 67 → 67 < k + n → ∀ (H : Heap) (locs : List Loc), va_P D vwCl (jx_W g a (jx_uhl (jx_uhi M (lx_cpo (jx_al M) (lx_sh (jx_hi M) 67 335) 0 335 k)) ((jx_hl M) - 1))) H → va_S A s.heap H locs → ∀ ls : Array Slot, lv_has ls 2 [(0, .ref (a 0)), (1, .int (nI k))] → W p l e ({ frames := 0, cells := 0, slots := 0, locals := 0 }) s m args below meth c H locs 0 0 (MQ below (jk_Q none D (jx_W g a (lx_chg M nh)) A) args s 0 0 A) (F0 m 51 ls []) := by
            intro n
            induction n with
            | zero => intro k  hk1 hk2; exact absurd hk2 (by omega)
            | succ n ih =>
              intro k  hk hkn  H locs hP hS ls hl
              have hD : va_D A (jx_W g a (jx_uhl (jx_uhi M (lx_cpo (jx_al M) (lx_sh (jx_hi M) 67 335) 0 335 k)) ((jx_hl M) - 1))) := jk_D.same hD rfl
              refine lv_iload_n hx hb dX5_changes_51 rfl (lv_at hl 1 rfl) ?_
              refine lv_bipush (v := 67) hx hb dX5_changes_52 (by decide) ?_
              refine lv_icmp_ge (tgt := 83) hx hb dX5_changes_54 (by decide) (fun c6 => ?_) (fun c6 => ?_)
              · have hk9 : k = 67 := jk_ge (N := 67) (by decide) hk c6
                subst hk9
                refine lv_aload_n hx hb dX5_changes_83 rfl (lv_at hl 0 rfl) ?_
                refine lv_dup hx hb dX5_changes_84 rfl ?_
                refine va_get (D := D) (ci := 5) (v := .int ((jx_hl M) - 1)) (C := RX5) (T := TX5) (N := 13) hx hb hts hi_5 hown hK hP 0 rfl rfl 3 (by decide) hf_28 (fun _ h9 => h9) rfl dX5_changes_85 ?_
                refine lv_iconst (v := 1) hx hb dX5_changes_88 (by decide) ?_
                refine lv_iadd hx hb dX5_changes_89 ?_
                refine va_put (D := D) (ci := 5) (v := .int (((jx_hl M) - 1) + 1)) (ty := .int) (C := RX5) (T := TX5) (N := 13) hx hb hts hi_5 tyX5 tyX5_ok nmX5 hown hK hP hD hS 0 rfl rfl 3 (by decide) hf_28 (fun _ h9 => h9) rfl (by decide +kernel) rfl rfl (Nat.le_of_ble_eq_true rfl) dX5_changes_90 (fun H locs hP hD hS => ?_)
                have hP : va_P D vwCl (jx_W g a (jx_uhl (jx_uhi M (lx_cpo (jx_al M) (lx_sh (jx_hi M) 67 335) 0 335 67)) (((jx_hl M) - 1) + 1))) H := hP
                have hD : va_D A (jx_W g a (jx_uhl (jx_uhi M (lx_cpo (jx_al M) (lx_sh (jx_hi M) 67 335) 0 335 67)) (((jx_hl M) - 1) + 1))) := hD
                exact jk_vret hx hb hr hlocks hP hS (congrArg (fun z => (jx_W g a z)) ((lx_chgA hn hn6 c1))) dX5_changes_93
              · have hlt : k < 67 := jk_lt (N := 67) (by decide) hk c6
                refine lv_aload_n hx hb dX5_changes_57 rfl (lv_at hl 0 rfl) ?_
                refine va_get (D := D) (ci := 5) (v := .ref (a 3)) (C := RX5) (T := TX5) (N := 13) hx hb hts hi_5 hown hK hP 0 rfl rfl 2 (by decide) hf_16 (fun _ h9 => h9) rfl dX5_changes_58 ?_
                refine lv_bipush (v := 67) hx hb dX5_changes_61 (by decide) ?_
                refine lv_aload_n hx hb dX5_changes_63 rfl (lv_at hl 0 rfl) ?_
                refine va_get (D := D) (ci := 5) (v := .int ((jx_hl M) - 1)) (C := RX5) (T := TX5) (N := 13) hx hb hts hi_5 hown hK hP 0 rfl rfl 3 (by decide) hf_28 (fun _ h9 => h9) rfl dX5_changes_64 ?_
                refine lv_imul hx hb dX5_changes_67 ?_
                refine lv_iload_n hx hb dX5_changes_68 rfl (lv_at hl 1 rfl) ?_
                refine lv_iadd hx hb dX5_changes_69 ?_
                refine lv_topi (fun x7 ex7 => ?_)
                refine lv_aload_n hx hb dX5_changes_70 rfl (lv_at hl 0 rfl) ?_
                refine va_get (D := D) (ci := 5) (v := .ref (a 1)) (C := RX5) (T := TX5) (N := 13) hx hb hts hi_5 hown hK hP 0 rfl rfl 0 (by decide) hf_7 (fun _ h9 => h9) rfl dX5_changes_71 ?_
                refine lv_iload_n hx hb dX5_changes_74 rfl (lv_at hl 1 rfl) ?_
                refine va_iald (f := (jx_al M)) hx hb hK hP 1 0 rfl rfl (vp_in_nI (by omega) (by decide)) dX5_changes_75 ?_
                refine lv_topi (fun x8 ex8 => ?_)
                refine va_iast (f := (lx_cpo (jx_al M) (lx_sh (jx_hi M) 67 335) 0 335 k)) hx hb hK hP hD hS 3 0 rfl rfl (by subst_vars; exact lx_i67a c1 hlt) dX5_changes_76 (fun H locs hP hD hS => ?_)
                obtain ⟨f9, ef9⟩ : ∃ z : Nat → Int32, z = (upd (lx_cpo (jx_al M) (lx_sh (jx_hi M) 67 335) 0 335 k) x7.toNatClampNeg x8) := ⟨_, rfl⟩
                rw [← ef9] at hP hD
                have hP : va_P D vwCl (jx_W g a (jx_uhl (jx_uhi M f9) ((jx_hl M) - 1))) H := hP
                have hD : va_D A (jx_W g a (jx_uhl (jx_uhi M f9) ((jx_hl M) - 1))) := hD
                refine lv_iinc (v := nI (k + 1)) (lv' := [(1, .int (nI (k + 1))), (0, .ref (a 0))]) hx hb dX5_changes_77 hl (k := 1) rfl (nI_1 _) (by decide) rfl (fun ls hl => ?_)
                refine lv_goto (tgt := 51) hx hb dX5_changes_80 (by decide) ?_
                subst ef9
                subst ex8
                subst ex7
                rw [lx_s67a _ _ c1 hlt] at hP
                exact ih (k + 1)  (by omega) (by omega)  H locs hP hS ls (lv_sub hl [1, 0] rfl)
          exact hlp (67 + 1) 0  (Nat.zero_le _) (by omega)  H locs (by rw [lx_cpo_0]; exact hP) hS ls (lv_sub hl [1, 0] rfl)
        · have hlt : k < 335 := jk_lt (N := 335) (by decide) hk c5
          refine lv_aload_n hx hb dX5_changes_18 rfl (lv_at hl 0 rfl) ?_
          refine va_get (D := D) (ci := 5) (v := .ref (a 3)) (C := RX5) (T := TX5) (N := 13) hx hb hts hi_5 hown hK hP 0 rfl rfl 2 (by decide) hf_16 (fun _ h9 => h9) rfl dX5_changes_19 ?_
          refine lv_iload_n hx hb dX5_changes_22 rfl (lv_at hl 1 rfl) ?_
          refine lv_aload_n hx hb dX5_changes_23 rfl (lv_at hl 0 rfl) ?_
          refine va_get (D := D) (ci := 5) (v := .ref (a 3)) (C := RX5) (T := TX5) (N := 13) hx hb hts hi_5 hown hK hP 0 rfl rfl 2 (by decide) hf_16 (fun _ h9 => h9) rfl dX5_changes_24 ?_
          refine lv_iload_n hx hb dX5_changes_27 rfl (lv_at hl 1 rfl) ?_
          refine lv_bipush (v := 67) hx hb dX5_changes_28 (by decide) ?_
          refine lv_iadd hx hb dX5_changes_30 ?_
          refine va_iald (f := (lx_sh (jx_hi M) 67 k)) hx hb hK hP 3 0 rfl rfl (by subst_vars; exact lx_sh67_in hlt) dX5_changes_31 ?_
          refine lv_topi (fun x10 ex10 => ?_)
          refine va_iast (f := (lx_sh (jx_hi M) 67 k)) hx hb hK hP hD hS 3 0 rfl rfl (vp_in_nI (by omega) (by decide)) dX5_changes_32 (fun H locs hP hD hS => ?_)
          obtain ⟨f11, ef11⟩ : ∃ z : Nat → Int32, z = (upd (lx_sh (jx_hi M) 67 k) (nI k).toNatClampNeg x10) := ⟨_, rfl⟩
          rw [← ef11] at hP hD
          have hP : va_P D vwCl (jx_W g a (jx_uhi M f11)) H := hP
          have hD : va_D A (jx_W g a (jx_uhi M f11)) := hD
          refine lv_iinc (v := nI (k + 1)) (lv' := [(1, .int (nI (k + 1))), (0, .ref (a 0))]) hx hb dX5_changes_33 hl (k := 1) rfl (nI_1 _) (by decide) rfl (fun ls hl => ?_)
          refine lv_goto (tgt := 11) hx hb dX5_changes_36 (by decide) ?_
          subst ef11
          subst ex10
          rw [lx_sh67 _ (by omega)] at hP
          exact ih (k + 1)  (by omega) (by omega)  H locs hP hS ls (lv_sub hl [1, 0] rfl)
    exact hlp (335 + 1) 0  (Nat.zero_le _) (by omega)  H locs (by rw [lx_sh_0]; exact hP) hS ls (lv_sub hl [1, 0] rfl)

def rX5_set (M : jx_T) (vi : Int32) (vv : Int32) (nh : Nat) : Int32 := let x1 : Int32 := rX5_isSetting M vi vv; if x1 = 0 then ((-1000002)) else (if vi = 4 then (let x6 : Int32 := rX5_in (((jx_al M) 37 : Int32).toInt64) ((-vv : Int32).toInt64) ((vv : Int32).toInt64); if x6 = 0 then ((-1000005)) else (let x8 : Int32 := rX5_in (((jx_al M) 38 : Int32).toInt64) ((-vv : Int32).toInt64) ((vv : Int32).toInt64); if x8 = 0 then ((-1000005)) else (let S10 : jx_T := lx_chg M nh; let x11 : Int32 := (jx_al S10) vi.toNatClampNeg; let f12 : (Nat → Int32) := upd (jx_al S10) vi.toNatClampNeg vv; x11))) else (let S4 : jx_T := lx_chg M nh; let f5 : (Nat → Int32) := upd (jx_al S4) vi.toNatClampNeg vv; (jx_al S4) vi.toNatClampNeg))
def sX5_set (M : jx_T) (vi : Int32) (vv : Int32) (nh : Nat) : jx_T := let x1 : Int32 := rX5_isSetting M vi vv; if x1 = 0 then (M) else (if vi = 4 then (let x6 : Int32 := rX5_in (((jx_al M) 37 : Int32).toInt64) ((-vv : Int32).toInt64) ((vv : Int32).toInt64); if x6 = 0 then (M) else (let x8 : Int32 := rX5_in (((jx_al M) 38 : Int32).toInt64) ((-vv : Int32).toInt64) ((vv : Int32).toInt64); if x8 = 0 then (M) else (let S10 : jx_T := lx_chg M nh; let x11 : Int32 := (jx_al S10) vi.toNatClampNeg; let f12 : (Nat → Int32) := upd (jx_al S10) vi.toNatClampNeg vv; (jx_ual S10 f12)))) else (let S4 : jx_T := lx_chg M nh; let f5 : (Nat → Int32) := upd (jx_al S4) vi.toNatClampNeg vv; (jx_ual S4 f5)))
set_option maxHeartbeats 1000000 in
set_option maxRecDepth 100000 in
theorem c_X5_set (l : Launch) (D : va_G) (g : jk_G) (a : Nat → Nat) (M : jx_T) (vi : Int32) (vv : Int32) (nh : Nat) (hn6 : nh ≤ 6) (hn : jx_hl M = nI nh) : jk_M l D g yX5_set wsX5_set 2 47 [.ref (a 0), .int vi, .int vv] (jx_W g a M) (some (.int (rX5_set M vi vv nh))) (jx_W g a (sX5_set M vi vv nh)) := by
  refine jk_of (cc := cX5_set) (maxL := 4) (ret := (some .int)) (by decide +kernel) rfl (Nat.le_of_ble_eq_true rfl) ?_
  intro p e s m args below meth c hx hb hr hml hts hown hlocks hK hN A H locs hP hD hA hS ls hl
  have hown : s.vm.findClass RX5 = some m.cls := hown
  have hl : lv_has ls 4 [(0, .ref (a 0)), (1, .int vi), (2, .int vv)] := hl
  have hf_7 := hts (.fieldLink RX5 7 "InfluenceJarsModel" "all" "[I") (by decide +kernel)
  have hi_5 : ∀ w ∈ u_ws RX5 TX5 13, w ∈ wsX5_set := by decide +kernel
  have hk_92 := hts (.constant RX5 92 (-1000005)) (by decide +kernel)
  have hk_91 := hts (.constant RX5 91 (-1000002)) (by decide +kernel)
  refine lv_aload_n hx hb dX5_set_0 rfl (lv_at hl 0 rfl) ?_
  refine lv_iload_n hx hb dX5_set_1 rfl (lv_at hl 1 rfl) ?_
  refine lv_iload_n hx hb dX5_set_2 rfl (lv_at hl 2 rfl) ?_
  refine jk_callV (As := [.int vi, .int vv]) (rest := []) (ws1 := (jx_W g a M)) ⟨hx, hb, hml, hown, hts⟩ (c_X5_isSetting l D g a M vi vv) (cwV 2 hts gX5_set_X5_isSetting rfl rfl rfl (by decide +kernel) ⟨Nat.le_of_ble_eq_true rfl, Nat.le_of_ble_eq_true rfl⟩) (va_recv hK hP (ci := 5) (q0 := 0) rfl rfl) hP hD hK hN rfl hl rfl (Nat.le_of_ble_eq_true rfl) dX5_set_3 ⟨Nat.zero_le _, Nat.zero_le _⟩ hS hA (fun _ h _ => h) (fun H locs hP hS => ?_)
  refine W.eq (g2 := F0 m 6 ls [.int (rX5_isSetting M vi vv)]) rfl ?_
  refine lv_topi (fun x1 ex1 => ?_)
  refine lv_if_ne (tgt := 12) hx hb dX5_set_6 (by decide) (fun c2 => ?_) (fun c2 => ?_)
  · refine lv_iload_n hx hb dX5_set_12 rfl (lv_at hl 1 rfl) ?_
    refine lv_iconst (v := 4) hx hb dX5_set_13 (by decide) ?_
    refine lv_icmp_ne (tgt := 58) hx hb dX5_set_14 (by decide) (fun c3 => ?_) (fun c3 => ?_)
    · refine lv_aload_n hx hb dX5_set_58 rfl (lv_at hl 0 rfl) ?_
      obtain ⟨S4, eS4⟩ : ∃ z : jx_T, z = lx_chg M nh := ⟨_, rfl⟩
      refine jk_callV (As := []) (rest := []) (ws1 := (jx_W g a S4)) ⟨hx, hb, hml, hown, hts⟩ (c_X5_changes l D g a M nh (by subst_vars; exact hn6) (by subst_vars; exact hn)) (cwV 0 hts gX5_set_X5_changes rfl rfl rfl (by decide +kernel) ⟨Nat.le_of_ble_eq_true rfl, Nat.le_of_ble_eq_true rfl⟩) (va_recv hK hP (ci := 5) (q0 := 0) rfl rfl) hP hD hK hN rfl hl rfl (Nat.le_of_ble_eq_true rfl) dX5_set_59 ⟨Nat.zero_le _, Nat.zero_le _⟩ hS hA (fun _ h _ => by rw [eS4]; exact h) (fun H locs hP hS => ?_)
      refine W.eq (g2 := F0 m 62 ls []) rfl ?_
      have hD : va_D A (jx_W g a S4) := jk_D.same hD rfl
      refine lv_aload_n hx hb dX5_set_62 rfl (lv_at hl 0 rfl) ?_
      refine va_get (D := D) (ci := 5) (v := .ref (a 1)) (C := RX5) (T := TX5) (N := 13) hx hb hts hi_5 hown hK hP 0 rfl rfl 0 (by decide) hf_7 (fun _ h9 => h9) rfl dX5_set_63 ?_
      refine lv_iload_n hx hb dX5_set_66 rfl (lv_at hl 1 rfl) ?_
      refine va_iald (f := (jx_al S4)) hx hb hK hP 1 0 rfl rfl (by subst_vars; exact jx_set_in c2) dX5_set_67 ?_
      refine lv_istore_n (lv' := [(3, .int ((jx_al S4) vi.toNatClampNeg)), (0, .ref (a 0)), (1, .int vi), (2, .int vv)]) hx hb dX5_set_68 rfl hl (by decide) rfl (fun ls hl => ?_)
      refine lv_aload_n hx hb dX5_set_69 rfl (lv_at hl 1 rfl) ?_
      refine va_get (D := D) (ci := 5) (v := .ref (a 1)) (C := RX5) (T := TX5) (N := 13) hx hb hts hi_5 hown hK hP 0 rfl rfl 0 (by decide) hf_7 (fun _ h9 => h9) rfl dX5_set_70 ?_
      refine lv_iload_n hx hb dX5_set_73 rfl (lv_at hl 2 rfl) ?_
      refine lv_iload_n hx hb dX5_set_74 rfl (lv_at hl 3 rfl) ?_
      refine va_iast (f := (jx_al S4)) hx hb hK hP hD hS 1 0 rfl rfl (by subst_vars; exact jx_set_in c2) dX5_set_75 (fun H locs hP hD hS => ?_)
      obtain ⟨f5, ef5⟩ : ∃ z : Nat → Int32, z = (upd (jx_al S4) vi.toNatClampNeg vv) := ⟨_, rfl⟩
      rw [← ef5] at hP hD
      have hP : va_P D vwCl (jx_W g a (jx_ual S4 f5)) H := hP
      have hD : va_D A (jx_W g a (jx_ual S4 f5)) := hD
      refine lv_iload_n hx hb dX5_set_76 rfl (lv_at hl 0 rfl) ?_
      subst ef5
      subst eS4
      subst ex1
      exact jk_iret hx hb hr hlocks hP hS ((if_neg c2).trans ((if_neg c3).trans (rfl))).symm (congrArg (fun z => (jx_W g a z)) (((if_neg c2).trans ((if_neg c3).trans (rfl))).symm)) dX5_set_77
    · refine lv_aload_n hx hb dX5_set_17 rfl (lv_at hl 0 rfl) ?_
      refine va_get (D := D) (ci := 5) (v := .ref (a 1)) (C := RX5) (T := TX5) (N := 13) hx hb hts hi_5 hown hK hP 0 rfl rfl 0 (by decide) hf_7 (fun _ h9 => h9) rfl dX5_set_18 ?_
      refine lv_bipush (v := 37) hx hb dX5_set_21 (by decide) ?_
      refine va_iald (f := (jx_al M)) hx hb hK hP 1 0 rfl rfl (jk_inC (by decide +kernel)) dX5_set_23 ?_
      refine W.eq (g2 := F0 m 24 ls [.int ((jx_al M) 37)]) rfl ?_
      refine lv_i2l hx hb dX5_set_24 rfl ?_
      refine lv_iload_n hx hb dX5_set_25 rfl (lv_at hl 2 rfl) ?_
      refine lv_ineg hx hb dX5_set_26 ?_
      refine lv_i2l hx hb dX5_set_27 rfl ?_
      refine lv_iload_n hx hb dX5_set_28 rfl (lv_at hl 2 rfl) ?_
      refine lv_i2l hx hb dX5_set_29 rfl ?_
      refine jk_callS (As := [.long (((jx_al M) 37 : Int32).toInt64), .long ((-vv : Int32).toInt64), .long ((vv : Int32).toInt64)]) (rest := []) (ws1 := (jx_W g a M)) ⟨hx, hb, hml, hown, hts⟩ (c_X5_in l D g (((jx_al M) 37 : Int32).toInt64) ((-vv : Int32).toInt64) ((vv : Int32).toInt64)) (va_cwS 3 hts gX5_set_X5_in rfl rfl rfl (by decide +kernel) ⟨Nat.le_of_ble_eq_true rfl, Nat.le_of_ble_eq_true rfl⟩) jk_nilP (jk_nilD (A := A)) hK hN rfl hl rfl (Nat.le_of_ble_eq_true rfl) dX5_set_30 ⟨Nat.zero_le _, Nat.zero_le _⟩ hS hA (fun _ _ hk => jk_keep hP hk) (fun H locs hP hS => ?_)
      refine W.eq (g2 := F0 m 33 ls [.int (rX5_in (((jx_al M) 37 : Int32).toInt64) ((-vv : Int32).toInt64) ((vv : Int32).toInt64))]) rfl ?_
      refine lv_topi (fun x6 ex6 => ?_)
      refine lv_if_eq (tgt := 55) hx hb dX5_set_33 (by decide) (fun c7 => ?_) (fun c7 => ?_)
      · refine lv_ldc hx hb hown hk_92 dX5_set_55 ?_
        subst ex6
        subst ex1
        exact jk_iret hx hb hr hlocks hP hS ((if_neg c2).trans ((if_pos c3).trans ((if_pos c7).trans (rfl)))).symm (congrArg (fun z => (jx_W g a z)) (((if_neg c2).trans ((if_pos c3).trans ((if_pos c7).trans (rfl)))).symm)) dX5_set_57
      · refine lv_aload_n hx hb dX5_set_36 rfl (lv_at hl 0 rfl) ?_
        refine va_get (D := D) (ci := 5) (v := .ref (a 1)) (C := RX5) (T := TX5) (N := 13) hx hb hts hi_5 hown hK hP 0 rfl rfl 0 (by decide) hf_7 (fun _ h9 => h9) rfl dX5_set_37 ?_
        refine lv_bipush (v := 38) hx hb dX5_set_40 (by decide) ?_
        refine va_iald (f := (jx_al M)) hx hb hK hP 1 0 rfl rfl (jk_inC (by decide +kernel)) dX5_set_42 ?_
        refine W.eq (g2 := F0 m 43 ls [.int ((jx_al M) 38)]) rfl ?_
        refine lv_i2l hx hb dX5_set_43 rfl ?_
        refine lv_iload_n hx hb dX5_set_44 rfl (lv_at hl 2 rfl) ?_
        refine lv_ineg hx hb dX5_set_45 ?_
        refine lv_i2l hx hb dX5_set_46 rfl ?_
        refine lv_iload_n hx hb dX5_set_47 rfl (lv_at hl 2 rfl) ?_
        refine lv_i2l hx hb dX5_set_48 rfl ?_
        refine jk_callS (As := [.long (((jx_al M) 38 : Int32).toInt64), .long ((-vv : Int32).toInt64), .long ((vv : Int32).toInt64)]) (rest := []) (ws1 := (jx_W g a M)) ⟨hx, hb, hml, hown, hts⟩ (c_X5_in l D g (((jx_al M) 38 : Int32).toInt64) ((-vv : Int32).toInt64) ((vv : Int32).toInt64)) (va_cwS 3 hts gX5_set_X5_in rfl rfl rfl (by decide +kernel) ⟨Nat.le_of_ble_eq_true rfl, Nat.le_of_ble_eq_true rfl⟩) jk_nilP (jk_nilD (A := A)) hK hN rfl hl rfl (Nat.le_of_ble_eq_true rfl) dX5_set_49 ⟨Nat.zero_le _, Nat.zero_le _⟩ hS hA (fun _ _ hk => jk_keep hP hk) (fun H locs hP hS => ?_)
        refine W.eq (g2 := F0 m 52 ls [.int (rX5_in (((jx_al M) 38 : Int32).toInt64) ((-vv : Int32).toInt64) ((vv : Int32).toInt64))]) rfl ?_
        refine lv_topi (fun x8 ex8 => ?_)
        refine lv_if_ne (tgt := 58) hx hb dX5_set_52 (by decide) (fun c9 => ?_) (fun c9 => ?_)
        · refine lv_aload_n hx hb dX5_set_58 rfl (lv_at hl 0 rfl) ?_
          obtain ⟨S10, eS10⟩ : ∃ z : jx_T, z = lx_chg M nh := ⟨_, rfl⟩
          refine jk_callV (As := []) (rest := []) (ws1 := (jx_W g a S10)) ⟨hx, hb, hml, hown, hts⟩ (c_X5_changes l D g a M nh (by subst_vars; exact hn6) (by subst_vars; exact hn)) (cwV 0 hts gX5_set_X5_changes rfl rfl rfl (by decide +kernel) ⟨Nat.le_of_ble_eq_true rfl, Nat.le_of_ble_eq_true rfl⟩) (va_recv hK hP (ci := 5) (q0 := 0) rfl rfl) hP hD hK hN rfl hl rfl (Nat.le_of_ble_eq_true rfl) dX5_set_59 ⟨Nat.zero_le _, Nat.zero_le _⟩ hS hA (fun _ h _ => by rw [eS10]; exact h) (fun H locs hP hS => ?_)
          refine W.eq (g2 := F0 m 62 ls []) rfl ?_
          have hD : va_D A (jx_W g a S10) := jk_D.same hD rfl
          refine lv_aload_n hx hb dX5_set_62 rfl (lv_at hl 0 rfl) ?_
          refine va_get (D := D) (ci := 5) (v := .ref (a 1)) (C := RX5) (T := TX5) (N := 13) hx hb hts hi_5 hown hK hP 0 rfl rfl 0 (by decide) hf_7 (fun _ h9 => h9) rfl dX5_set_63 ?_
          refine lv_iload_n hx hb dX5_set_66 rfl (lv_at hl 1 rfl) ?_
          refine va_iald (f := (jx_al S10)) hx hb hK hP 1 0 rfl rfl (by subst_vars; exact jx_set_in c2) dX5_set_67 ?_
          refine lv_topi (fun x11 ex11 => ?_)
          refine lv_istore_n (lv' := [(3, .int x11), (0, .ref (a 0)), (1, .int vi), (2, .int vv)]) hx hb dX5_set_68 rfl hl (by decide) rfl (fun ls hl => ?_)
          refine lv_aload_n hx hb dX5_set_69 rfl (lv_at hl 1 rfl) ?_
          refine va_get (D := D) (ci := 5) (v := .ref (a 1)) (C := RX5) (T := TX5) (N := 13) hx hb hts hi_5 hown hK hP 0 rfl rfl 0 (by decide) hf_7 (fun _ h9 => h9) rfl dX5_set_70 ?_
          refine lv_iload_n hx hb dX5_set_73 rfl (lv_at hl 2 rfl) ?_
          refine lv_iload_n hx hb dX5_set_74 rfl (lv_at hl 3 rfl) ?_
          refine va_iast (f := (jx_al S10)) hx hb hK hP hD hS 1 0 rfl rfl (by subst_vars; exact jx_set_in c2) dX5_set_75 (fun H locs hP hD hS => ?_)
          obtain ⟨f12, ef12⟩ : ∃ z : Nat → Int32, z = (upd (jx_al S10) vi.toNatClampNeg vv) := ⟨_, rfl⟩
          rw [← ef12] at hP hD
          have hP : va_P D vwCl (jx_W g a (jx_ual S10 f12)) H := hP
          have hD : va_D A (jx_W g a (jx_ual S10 f12)) := hD
          refine lv_iload_n hx hb dX5_set_76 rfl (lv_at hl 0 rfl) ?_
          subst ef12
          subst ex11
          subst eS10
          subst ex8
          subst ex6
          subst ex1
          exact jk_iret hx hb hr hlocks hP hS ((if_neg c2).trans ((if_pos c3).trans ((if_neg c7).trans ((if_neg c9).trans (rfl))))).symm (congrArg (fun z => (jx_W g a z)) (((if_neg c2).trans ((if_pos c3).trans ((if_neg c7).trans ((if_neg c9).trans (rfl))))).symm)) dX5_set_77
        · refine lv_ldc hx hb hown hk_92 dX5_set_55 ?_
          subst ex8
          subst ex6
          subst ex1
          exact jk_iret hx hb hr hlocks hP hS ((if_neg c2).trans ((if_pos c3).trans ((if_neg c7).trans ((if_pos c9).trans (rfl))))).symm (congrArg (fun z => (jx_W g a z)) (((if_neg c2).trans ((if_pos c3).trans ((if_neg c7).trans ((if_pos c9).trans (rfl))))).symm)) dX5_set_57
  · refine lv_ldc hx hb hown hk_91 dX5_set_9 ?_
    subst ex1
    exact jk_iret hx hb hr hlocks hP hS ((if_pos c2).trans (rfl)).symm (congrArg (fun z => (jx_W g a z)) (((if_pos c2).trans (rfl)).symm)) dX5_set_11

def sX5_touches (M : jx_T) (vd : Int32) (vq : Int32) (vx : Int32) : jx_T := let x1 : Int32 := rX5_cell vd vq; let x2 : Int32 := vx - ((jx_al M) x1.toNatClampNeg); let x3 : Int32 := rX5_cell vd vq; let f4 : (Nat → Int32) := upd (upd (jx_al M) 10 (((jx_al M) 10) + x2)) x3.toNatClampNeg vx; (jx_ual M f4)
set_option maxHeartbeats 1000000 in
set_option maxRecDepth 100000 in
theorem c_X5_touches (l : Launch) (D : va_G) (g : jk_G) (a : Nat → Nat) (M : jx_T) (vd : Int32) (vq : Int32) (vx : Int32) (hc : vp_in (rX5_cell vd vq) 67) : jk_M l D g yX5_touches wsX5_touches 1 21 [.ref (a 0), .int vd, .int vq, .int vx] (jx_W g a M) none (jx_W g a (sX5_touches M vd vq vx)) := by
  refine jk_of (cc := cX5_touches) (maxL := 4) (ret := none) (by decide +kernel) rfl (Nat.le_of_ble_eq_true rfl) ?_
  intro p e s m args below meth c hx hb hr hml hts hown hlocks hK hN A H locs hP hD hA hS ls hl
  have hown : s.vm.findClass RX5 = some m.cls := hown
  have hl : lv_has ls 4 [(0, .ref (a 0)), (1, .int vd), (2, .int vq), (3, .int vx)] := hl
  have hf_7 := hts (.fieldLink RX5 7 "InfluenceJarsModel" "all" "[I") (by decide +kernel)
  have hi_5 : ∀ w ∈ u_ws RX5 TX5 13, w ∈ wsX5_touches := by decide +kernel
  refine lv_aload_n hx hb dX5_touches_0 rfl (lv_at hl 0 rfl) ?_
  refine va_get (D := D) (ci := 5) (v := .ref (a 1)) (C := RX5) (T := TX5) (N := 13) hx hb hts hi_5 hown hK hP 0 rfl rfl 0 (by decide) hf_7 (fun _ h9 => h9) rfl dX5_touches_1 ?_
  refine lv_bipush (v := 10) hx hb dX5_touches_4 (by decide) ?_
  refine lv_dup2_11 hx hb dX5_touches_6 rfl rfl ?_
  refine va_iald (f := (jx_al M)) hx hb hK hP 1 0 rfl rfl (jk_inC (by decide +kernel)) dX5_touches_7 ?_
  refine W.eq (g2 := F0 m 8 ls [.int ((jx_al M) 10), .int 10, .ref (a 1)]) rfl ?_
  refine lv_iload_n hx hb dX5_touches_8 rfl (lv_at hl 3 rfl) ?_
  refine lv_aload_n hx hb dX5_touches_9 rfl (lv_at hl 0 rfl) ?_
  refine va_get (D := D) (ci := 5) (v := .ref (a 1)) (C := RX5) (T := TX5) (N := 13) hx hb hts hi_5 hown hK hP 0 rfl rfl 0 (by decide) hf_7 (fun _ h9 => h9) rfl dX5_touches_10 ?_
  refine lv_iload_n hx hb dX5_touches_13 rfl (lv_at hl 1 rfl) ?_
  refine lv_iload_n hx hb dX5_touches_14 rfl (lv_at hl 2 rfl) ?_
  refine jk_callS (As := [.int vd, .int vq]) (rest := [.ref (a 1), .int vx, .int ((jx_al M) 10), .int 10, .ref (a 1)]) (ws1 := (jx_W g a M)) ⟨hx, hb, hml, hown, hts⟩ (c_X5_cell l D g vd vq) (va_cwS 2 hts gX5_touches_X5_cell rfl rfl rfl (by decide +kernel) ⟨Nat.le_of_ble_eq_true rfl, Nat.le_of_ble_eq_true rfl⟩) jk_nilP (jk_nilD (A := A)) hK hN rfl hl rfl (Nat.le_of_ble_eq_true rfl) dX5_touches_15 ⟨Nat.zero_le _, Nat.zero_le _⟩ hS hA (fun _ _ hk => jk_keep hP hk) (fun H locs hP hS => ?_)
  refine W.eq (g2 := F0 m 18 ls [.int (rX5_cell vd vq), .ref (a 1), .int vx, .int ((jx_al M) 10), .int 10, .ref (a 1)]) rfl ?_
  refine lv_topi (fun x1 ex1 => ?_)
  refine va_iald (f := (jx_al M)) hx hb hK hP 1 0 rfl rfl (by subst_vars; exact hc) dX5_touches_18 ?_
  refine lv_isub hx hb dX5_touches_19 ?_
  refine lv_topi (fun x2 ex2 => ?_)
  refine lv_iadd hx hb dX5_touches_20 ?_
  refine va_iast (f := (jx_al M)) hx hb hK hP hD hS 1 0 rfl rfl (jk_inC (by decide +kernel)) dX5_touches_21 (fun H locs hP hD hS => ?_)
  have hP : va_P D vwCl (jx_W g a (jx_ual M (upd (jx_al M) 10 (((jx_al M) 10) + x2)))) H := hP
  have hD : va_D A (jx_W g a (jx_ual M (upd (jx_al M) 10 (((jx_al M) 10) + x2)))) := hD
  refine lv_aload_n hx hb dX5_touches_22 rfl (lv_at hl 0 rfl) ?_
  refine va_get (D := D) (ci := 5) (v := .ref (a 1)) (C := RX5) (T := TX5) (N := 13) hx hb hts hi_5 hown hK hP 0 rfl rfl 0 (by decide) hf_7 (fun _ h9 => h9) rfl dX5_touches_23 ?_
  refine lv_iload_n hx hb dX5_touches_26 rfl (lv_at hl 1 rfl) ?_
  refine lv_iload_n hx hb dX5_touches_27 rfl (lv_at hl 2 rfl) ?_
  refine jk_callS (As := [.int vd, .int vq]) (rest := [.ref (a 1)]) (ws1 := (jx_W g a (jx_ual M (upd (jx_al M) 10 (((jx_al M) 10) + x2))))) ⟨hx, hb, hml, hown, hts⟩ (c_X5_cell l D g vd vq) (va_cwS 2 hts gX5_touches_X5_cell rfl rfl rfl (by decide +kernel) ⟨Nat.le_of_ble_eq_true rfl, Nat.le_of_ble_eq_true rfl⟩) jk_nilP (jk_nilD (A := A)) hK hN rfl hl rfl (Nat.le_of_ble_eq_true rfl) dX5_touches_28 ⟨Nat.zero_le _, Nat.zero_le _⟩ hS hA (fun _ _ hk => jk_keep hP hk) (fun H locs hP hS => ?_)
  refine W.eq (g2 := F0 m 31 ls [.int (rX5_cell vd vq), .ref (a 1)]) rfl ?_
  refine lv_topi (fun x3 ex3 => ?_)
  refine lv_iload_n hx hb dX5_touches_31 rfl (lv_at hl 3 rfl) ?_
  refine va_iast (f := (upd (jx_al M) 10 (((jx_al M) 10) + x2))) hx hb hK hP hD hS 1 0 rfl rfl (by subst_vars; exact hc) dX5_touches_32 (fun H locs hP hD hS => ?_)
  obtain ⟨f4, ef4⟩ : ∃ z : Nat → Int32, z = (upd (upd (jx_al M) 10 (((jx_al M) 10) + x2)) x3.toNatClampNeg vx) := ⟨_, rfl⟩
  rw [← ef4] at hP hD
  have hP : va_P D vwCl (jx_W g a (jx_ual M f4)) H := hP
  have hD : va_D A (jx_W g a (jx_ual M f4)) := hD
  subst ef4
  subst ex3
  subst ex2
  subst ex1
  exact jk_vret hx hb hr hlocks hP hS (congrArg (fun z => (jx_W g a z)) ((rfl).symm)) dX5_touches_33

def rX5_touch (M : jx_T) (vd : Int32) (vq : Int32) (vx : Int32) (nh : Nat) : Int32 := let x1 : Int32 := rX5_isDisc vd; if x1 = 0 then ((-1000001)) else (let x3 : Int32 := rX5_isPlace vq; if x3 = 0 then ((-1000001)) else (let x5 : Int32 := rX5_in ((vx : Int32).toInt64) ((-99) : Int64) (99 : Int64); if x5 = 0 then ((-1000002)) else (let S7 : jx_T := lx_chg M nh; let x8 : Int32 := rX5_cell vd vq; let S9 : jx_T := sX5_touches S7 vd vq vx; (jx_al S7) x8.toNatClampNeg)))
def sX5_touch (M : jx_T) (vd : Int32) (vq : Int32) (vx : Int32) (nh : Nat) : jx_T := let x1 : Int32 := rX5_isDisc vd; if x1 = 0 then (M) else (let x3 : Int32 := rX5_isPlace vq; if x3 = 0 then (M) else (let x5 : Int32 := rX5_in ((vx : Int32).toInt64) ((-99) : Int64) (99 : Int64); if x5 = 0 then (M) else (let S7 : jx_T := lx_chg M nh; let x8 : Int32 := rX5_cell vd vq; let S9 : jx_T := sX5_touches S7 vd vq vx; S9)))
set_option maxHeartbeats 1000000 in
set_option maxRecDepth 100000 in
theorem c_X5_touch (l : Launch) (D : va_G) (g : jk_G) (a : Nat → Nat) (M : jx_T) (vd : Int32) (vq : Int32) (vx : Int32) (nh : Nat) (hn6 : nh ≤ 6) (hn : jx_hl M = nI nh) : jk_M l D g yX5_touch wsX5_touch 2 45 [.ref (a 0), .int vd, .int vq, .int vx] (jx_W g a M) (some (.int (rX5_touch M vd vq vx nh))) (jx_W g a (sX5_touch M vd vq vx nh)) := by
  refine jk_of (cc := cX5_touch) (maxL := 5) (ret := (some .int)) (by decide +kernel) rfl (Nat.le_of_ble_eq_true rfl) ?_
  intro p e s m args below meth c hx hb hr hml hts hown hlocks hK hN A H locs hP hD hA hS ls hl
  have hown : s.vm.findClass RX5 = some m.cls := hown
  have hl : lv_has ls 5 [(0, .ref (a 0)), (1, .int vd), (2, .int vq), (3, .int vx)] := hl
  have hk_105 := hts (.constant RX5 105 (-1000001)) (by decide +kernel)
  have hk_106 := hts (.constantLong RX5 106 (-99)) (by decide +kernel)
  have hk_108 := hts (.constantLong RX5 108 99) (by decide +kernel)
  have hf_7 := hts (.fieldLink RX5 7 "InfluenceJarsModel" "all" "[I") (by decide +kernel)
  have hi_5 : ∀ w ∈ u_ws RX5 TX5 13, w ∈ wsX5_touch := by decide +kernel
  have hk_91 := hts (.constant RX5 91 (-1000002)) (by decide +kernel)
  refine lv_iload_n hx hb dX5_touch_0 rfl (lv_at hl 1 rfl) ?_
  refine jk_callS (As := [.int vd]) (rest := []) (ws1 := (jx_W g a M)) ⟨hx, hb, hml, hown, hts⟩ (c_X5_isDisc l D g vd) (va_cwS 1 hts gX5_touch_X5_isDisc rfl rfl rfl (by decide +kernel) ⟨Nat.le_of_ble_eq_true rfl, Nat.le_of_ble_eq_true rfl⟩) jk_nilP (jk_nilD (A := A)) hK hN rfl hl rfl (Nat.le_of_ble_eq_true rfl) dX5_touch_1 ⟨Nat.zero_le _, Nat.zero_le _⟩ hS hA (fun _ _ hk => jk_keep hP hk) (fun H locs hP hS => ?_)
  refine W.eq (g2 := F0 m 4 ls [.int (rX5_isDisc vd)]) rfl ?_
  refine lv_topi (fun x1 ex1 => ?_)
  refine lv_if_eq (tgt := 14) hx hb dX5_touch_4 (by decide) (fun c2 => ?_) (fun c2 => ?_)
  · refine lv_ldc hx hb hown hk_105 dX5_touch_14 ?_
    subst ex1
    exact jk_iret hx hb hr hlocks hP hS ((if_pos c2).trans (rfl)).symm (congrArg (fun z => (jx_W g a z)) (((if_pos c2).trans (rfl)).symm)) dX5_touch_16
  · refine lv_iload_n hx hb dX5_touch_7 rfl (lv_at hl 2 rfl) ?_
    refine jk_callS (As := [.int vq]) (rest := []) (ws1 := (jx_W g a M)) ⟨hx, hb, hml, hown, hts⟩ (c_X5_isPlace l D g vq) (va_cwS 1 hts gX5_touch_X5_isPlace rfl rfl rfl (by decide +kernel) ⟨Nat.le_of_ble_eq_true rfl, Nat.le_of_ble_eq_true rfl⟩) jk_nilP (jk_nilD (A := A)) hK hN rfl hl rfl (Nat.le_of_ble_eq_true rfl) dX5_touch_8 ⟨Nat.zero_le _, Nat.zero_le _⟩ hS hA (fun _ _ hk => jk_keep hP hk) (fun H locs hP hS => ?_)
    refine W.eq (g2 := F0 m 11 ls [.int (rX5_isPlace vq)]) rfl ?_
    refine lv_topi (fun x3 ex3 => ?_)
    refine lv_if_ne (tgt := 17) hx hb dX5_touch_11 (by decide) (fun c4 => ?_) (fun c4 => ?_)
    · refine lv_iload_n hx hb dX5_touch_17 rfl (lv_at hl 3 rfl) ?_
      refine lv_i2l hx hb dX5_touch_18 rfl ?_
      refine lv_ldc2 hx hb hown hk_106 dX5_touch_19 ?_
      refine lv_ldc2 hx hb hown hk_108 dX5_touch_22 ?_
      refine jk_callS (As := [.long ((vx : Int32).toInt64), .long (-99), .long 99]) (rest := []) (ws1 := (jx_W g a M)) ⟨hx, hb, hml, hown, hts⟩ (c_X5_in l D g ((vx : Int32).toInt64) ((-99) : Int64) (99 : Int64)) (va_cwS 3 hts gX5_touch_X5_in rfl rfl rfl (by decide +kernel) ⟨Nat.le_of_ble_eq_true rfl, Nat.le_of_ble_eq_true rfl⟩) jk_nilP (jk_nilD (A := A)) hK hN rfl hl rfl (Nat.le_of_ble_eq_true rfl) dX5_touch_25 ⟨Nat.zero_le _, Nat.zero_le _⟩ hS hA (fun _ _ hk => jk_keep hP hk) (fun H locs hP hS => ?_)
      refine W.eq (g2 := F0 m 28 ls [.int (rX5_in ((vx : Int32).toInt64) ((-99) : Int64) (99 : Int64))]) rfl ?_
      refine lv_topi (fun x5 ex5 => ?_)
      refine lv_if_ne (tgt := 34) hx hb dX5_touch_28 (by decide) (fun c6 => ?_) (fun c6 => ?_)
      · refine lv_aload_n hx hb dX5_touch_34 rfl (lv_at hl 0 rfl) ?_
        obtain ⟨S7, eS7⟩ : ∃ z : jx_T, z = lx_chg M nh := ⟨_, rfl⟩
        refine jk_callV (As := []) (rest := []) (ws1 := (jx_W g a S7)) ⟨hx, hb, hml, hown, hts⟩ (c_X5_changes l D g a M nh (by subst_vars; exact hn6) (by subst_vars; exact hn)) (cwV 0 hts gX5_touch_X5_changes rfl rfl rfl (by decide +kernel) ⟨Nat.le_of_ble_eq_true rfl, Nat.le_of_ble_eq_true rfl⟩) (va_recv hK hP (ci := 5) (q0 := 0) rfl rfl) hP hD hK hN rfl hl rfl (Nat.le_of_ble_eq_true rfl) dX5_touch_35 ⟨Nat.zero_le _, Nat.zero_le _⟩ hS hA (fun _ h _ => by rw [eS7]; exact h) (fun H locs hP hS => ?_)
        refine W.eq (g2 := F0 m 38 ls []) rfl ?_
        have hD : va_D A (jx_W g a S7) := jk_D.same hD rfl
        refine lv_aload_n hx hb dX5_touch_38 rfl (lv_at hl 0 rfl) ?_
        refine va_get (D := D) (ci := 5) (v := .ref (a 1)) (C := RX5) (T := TX5) (N := 13) hx hb hts hi_5 hown hK hP 0 rfl rfl 0 (by decide) hf_7 (fun _ h9 => h9) rfl dX5_touch_39 ?_
        refine lv_iload_n hx hb dX5_touch_42 rfl (lv_at hl 1 rfl) ?_
        refine lv_iload_n hx hb dX5_touch_43 rfl (lv_at hl 2 rfl) ?_
        refine jk_callS (As := [.int vd, .int vq]) (rest := [.ref (a 1)]) (ws1 := (jx_W g a S7)) ⟨hx, hb, hml, hown, hts⟩ (c_X5_cell l D g vd vq) (va_cwS 2 hts gX5_touch_X5_cell rfl rfl rfl (by decide +kernel) ⟨Nat.le_of_ble_eq_true rfl, Nat.le_of_ble_eq_true rfl⟩) jk_nilP (jk_nilD (A := A)) hK hN rfl hl rfl (Nat.le_of_ble_eq_true rfl) dX5_touch_44 ⟨Nat.zero_le _, Nat.zero_le _⟩ hS hA (fun _ _ hk => jk_keep hP hk) (fun H locs hP hS => ?_)
        refine W.eq (g2 := F0 m 47 ls [.int (rX5_cell vd vq), .ref (a 1)]) rfl ?_
        refine lv_topi (fun x8 ex8 => ?_)
        refine va_iald (f := (jx_al S7)) hx hb hK hP 1 0 rfl rfl (by subst_vars; first | exact jx_cell_in2 c2 c4) dX5_touch_47 ?_
        refine lv_istore (lv' := [(4, .int ((jx_al S7) x8.toNatClampNeg)), (0, .ref (a 0)), (1, .int vd), (2, .int vq), (3, .int vx)]) hx hb dX5_touch_48 hl (by decide) rfl (fun ls hl => ?_)
        refine lv_aload_n hx hb dX5_touch_50 rfl (lv_at hl 1 rfl) ?_
        refine lv_iload_n hx hb dX5_touch_51 rfl (lv_at hl 2 rfl) ?_
        refine lv_iload_n hx hb dX5_touch_52 rfl (lv_at hl 3 rfl) ?_
        refine lv_iload_n hx hb dX5_touch_53 rfl (lv_at hl 4 rfl) ?_
        obtain ⟨S9, eS9⟩ : ∃ z : jx_T, z = sX5_touches S7 vd vq vx := ⟨_, rfl⟩
        refine jk_callV (As := [.int vd, .int vq, .int vx]) (rest := []) (ws1 := (jx_W g a S9)) ⟨hx, hb, hml, hown, hts⟩ (c_X5_touches l D g a S7 vd vq vx (by subst_vars; exact jx_cell_in2 c2 c4)) (cwV 3 hts gX5_touch_X5_touches rfl rfl rfl (by decide +kernel) ⟨Nat.le_of_ble_eq_true rfl, Nat.le_of_ble_eq_true rfl⟩) (va_recv hK hP (ci := 5) (q0 := 0) rfl rfl) hP hD hK hN rfl hl rfl (Nat.le_of_ble_eq_true rfl) dX5_touch_54 ⟨Nat.zero_le _, Nat.zero_le _⟩ hS hA (fun _ h _ => by rw [eS9]; exact h) (fun H locs hP hS => ?_)
        refine W.eq (g2 := F0 m 57 ls []) rfl ?_
        have hD : va_D A (jx_W g a S9) := jk_D.same hD rfl
        refine lv_iload hx hb dX5_touch_57 (lv_at hl 0 rfl) ?_
        subst eS9
        subst ex8
        subst eS7
        subst ex5
        subst ex3
        subst ex1
        exact jk_iret hx hb hr hlocks hP hS ((if_neg c2).trans ((if_neg c4).trans ((if_neg c6).trans (rfl)))).symm (congrArg (fun z => (jx_W g a z)) (((if_neg c2).trans ((if_neg c4).trans ((if_neg c6).trans (rfl)))).symm)) dX5_touch_59
      · refine lv_ldc hx hb hown hk_91 dX5_touch_31 ?_
        subst ex5
        subst ex3
        subst ex1
        exact jk_iret hx hb hr hlocks hP hS ((if_neg c2).trans ((if_neg c4).trans ((if_pos c6).trans (rfl)))).symm (congrArg (fun z => (jx_W g a z)) (((if_neg c2).trans ((if_neg c4).trans ((if_pos c6).trans (rfl)))).symm)) dX5_touch_33
    · refine lv_ldc hx hb hown hk_105 dX5_touch_14 ?_
      subst ex3
      subst ex1
      exact jk_iret hx hb hr hlocks hP hS ((if_neg c2).trans ((if_pos c4).trans (rfl))).symm (congrArg (fun z => (jx_W g a z)) (((if_neg c2).trans ((if_pos c4).trans (rfl))).symm)) dX5_touch_16

def rX5_discharges (M : jx_T) : Int32 := let x1 : Int32 := rX5_difference M; let x2 : Int32 := ((jx_al M) 37) + ((jx_al M) 38); x1
def sX5_discharges (M : jx_T) : jx_T := let x1 : Int32 := rX5_difference M; let x2 : Int32 := ((jx_al M) 37) + ((jx_al M) 38); (jx_ual M (upd (upd (upd (jx_al M) 11 (((jx_al M) 11) + x2)) 37 0) 38 0))
set_option maxHeartbeats 1000000 in
set_option maxRecDepth 100000 in
theorem c_X5_discharges (l : Launch) (D : va_G) (g : jk_G) (a : Nat → Nat) (M : jx_T)  : jk_M l D g yX5_discharges wsX5_discharges 1 21 [.ref (a 0)] (jx_W g a M) (some (.int (rX5_discharges M))) (jx_W g a (sX5_discharges M)) := by
  refine jk_of (cc := cX5_discharges) (maxL := 2) (ret := (some .int)) (by decide +kernel) rfl (Nat.le_of_ble_eq_true rfl) ?_
  intro p e s m args below meth c hx hb hr hml hts hown hlocks hK hN A H locs hP hD hA hS ls hl
  have hown : s.vm.findClass RX5 = some m.cls := hown
  have hl : lv_has ls 2 [(0, .ref (a 0))] := hl
  have hf_7 := hts (.fieldLink RX5 7 "InfluenceJarsModel" "all" "[I") (by decide +kernel)
  have hi_5 : ∀ w ∈ u_ws RX5 TX5 13, w ∈ wsX5_discharges := by decide +kernel
  refine lv_aload_n hx hb dX5_discharges_0 rfl (lv_at hl 0 rfl) ?_
  refine jk_callV (As := []) (rest := []) (ws1 := (jx_W g a M)) ⟨hx, hb, hml, hown, hts⟩ (c_X5_difference l D g a M) (cwV 0 hts gX5_discharges_X5_difference rfl rfl rfl (by decide +kernel) ⟨Nat.le_of_ble_eq_true rfl, Nat.le_of_ble_eq_true rfl⟩) (va_recv hK hP (ci := 5) (q0 := 0) rfl rfl) hP hD hK hN rfl hl rfl (Nat.le_of_ble_eq_true rfl) dX5_discharges_1 ⟨Nat.zero_le _, Nat.zero_le _⟩ hS hA (fun _ h _ => h) (fun H locs hP hS => ?_)
  refine W.eq (g2 := F0 m 4 ls [.int (rX5_difference M)]) rfl ?_
  refine lv_topi (fun x1 ex1 => ?_)
  refine lv_istore_n (lv' := [(1, .int x1), (0, .ref (a 0))]) hx hb dX5_discharges_4 rfl hl (by decide) rfl (fun ls hl => ?_)
  refine lv_aload_n hx hb dX5_discharges_5 rfl (lv_at hl 1 rfl) ?_
  refine va_get (D := D) (ci := 5) (v := .ref (a 1)) (C := RX5) (T := TX5) (N := 13) hx hb hts hi_5 hown hK hP 0 rfl rfl 0 (by decide) hf_7 (fun _ h9 => h9) rfl dX5_discharges_6 ?_
  refine lv_bipush (v := 11) hx hb dX5_discharges_9 (by decide) ?_
  refine lv_dup2_11 hx hb dX5_discharges_11 rfl rfl ?_
  refine va_iald (f := (jx_al M)) hx hb hK hP 1 0 rfl rfl (jk_inC (by decide +kernel)) dX5_discharges_12 ?_
  refine W.eq (g2 := F0 m 13 ls [.int ((jx_al M) 11), .int 11, .ref (a 1)]) rfl ?_
  refine lv_aload_n hx hb dX5_discharges_13 rfl (lv_at hl 1 rfl) ?_
  refine va_get (D := D) (ci := 5) (v := .ref (a 1)) (C := RX5) (T := TX5) (N := 13) hx hb hts hi_5 hown hK hP 0 rfl rfl 0 (by decide) hf_7 (fun _ h9 => h9) rfl dX5_discharges_14 ?_
  refine lv_bipush (v := 37) hx hb dX5_discharges_17 (by decide) ?_
  refine va_iald (f := (jx_al M)) hx hb hK hP 1 0 rfl rfl (jk_inC (by decide +kernel)) dX5_discharges_19 ?_
  refine W.eq (g2 := F0 m 20 ls [.int ((jx_al M) 37), .int ((jx_al M) 11), .int 11, .ref (a 1)]) rfl ?_
  refine lv_aload_n hx hb dX5_discharges_20 rfl (lv_at hl 1 rfl) ?_
  refine va_get (D := D) (ci := 5) (v := .ref (a 1)) (C := RX5) (T := TX5) (N := 13) hx hb hts hi_5 hown hK hP 0 rfl rfl 0 (by decide) hf_7 (fun _ h9 => h9) rfl dX5_discharges_21 ?_
  refine lv_bipush (v := 38) hx hb dX5_discharges_24 (by decide) ?_
  refine va_iald (f := (jx_al M)) hx hb hK hP 1 0 rfl rfl (jk_inC (by decide +kernel)) dX5_discharges_26 ?_
  refine W.eq (g2 := F0 m 27 ls [.int ((jx_al M) 38), .int ((jx_al M) 37), .int ((jx_al M) 11), .int 11, .ref (a 1)]) rfl ?_
  refine lv_iadd hx hb dX5_discharges_27 ?_
  refine lv_topi (fun x2 ex2 => ?_)
  refine lv_iadd hx hb dX5_discharges_28 ?_
  refine va_iast (f := (jx_al M)) hx hb hK hP hD hS 1 0 rfl rfl (jk_inC (by decide +kernel)) dX5_discharges_29 (fun H locs hP hD hS => ?_)
  have hP : va_P D vwCl (jx_W g a (jx_ual M (upd (jx_al M) 11 (((jx_al M) 11) + x2)))) H := hP
  have hD : va_D A (jx_W g a (jx_ual M (upd (jx_al M) 11 (((jx_al M) 11) + x2)))) := hD
  refine lv_aload_n hx hb dX5_discharges_30 rfl (lv_at hl 1 rfl) ?_
  refine va_get (D := D) (ci := 5) (v := .ref (a 1)) (C := RX5) (T := TX5) (N := 13) hx hb hts hi_5 hown hK hP 0 rfl rfl 0 (by decide) hf_7 (fun _ h9 => h9) rfl dX5_discharges_31 ?_
  refine lv_bipush (v := 37) hx hb dX5_discharges_34 (by decide) ?_
  refine lv_iconst (v := 0) hx hb dX5_discharges_36 (by decide) ?_
  refine va_iast (f := (upd (jx_al M) 11 (((jx_al M) 11) + x2))) hx hb hK hP hD hS 1 0 rfl rfl (jk_inC (by decide +kernel)) dX5_discharges_37 (fun H locs hP hD hS => ?_)
  have hP : va_P D vwCl (jx_W g a (jx_ual M (upd (upd (jx_al M) 11 (((jx_al M) 11) + x2)) 37 0))) H := hP
  have hD : va_D A (jx_W g a (jx_ual M (upd (upd (jx_al M) 11 (((jx_al M) 11) + x2)) 37 0))) := hD
  refine lv_aload_n hx hb dX5_discharges_38 rfl (lv_at hl 1 rfl) ?_
  refine va_get (D := D) (ci := 5) (v := .ref (a 1)) (C := RX5) (T := TX5) (N := 13) hx hb hts hi_5 hown hK hP 0 rfl rfl 0 (by decide) hf_7 (fun _ h9 => h9) rfl dX5_discharges_39 ?_
  refine lv_bipush (v := 38) hx hb dX5_discharges_42 (by decide) ?_
  refine lv_iconst (v := 0) hx hb dX5_discharges_44 (by decide) ?_
  refine va_iast (f := (upd (upd (jx_al M) 11 (((jx_al M) 11) + x2)) 37 0)) hx hb hK hP hD hS 1 0 rfl rfl (jk_inC (by decide +kernel)) dX5_discharges_45 (fun H locs hP hD hS => ?_)
  have hP : va_P D vwCl (jx_W g a (jx_ual M (upd (upd (upd (jx_al M) 11 (((jx_al M) 11) + x2)) 37 0) 38 0))) H := hP
  have hD : va_D A (jx_W g a (jx_ual M (upd (upd (upd (jx_al M) 11 (((jx_al M) 11) + x2)) 37 0) 38 0))) := hD
  refine lv_iload_n hx hb dX5_discharges_46 rfl (lv_at hl 0 rfl) ?_
  subst ex2
  subst ex1
  exact jk_iret hx hb hr hlocks hP hS (rfl).symm (congrArg (fun z => (jx_W g a z)) ((rfl).symm)) dX5_discharges_47

def rX5_discharge (M : jx_T) (nh : Nat) : Int32 := let S1 : jx_T := lx_chg M nh; let S2 : jx_T := sX5_discharges S1; let x3 : Int32 := rX5_discharges S1; x3
def sX5_discharge (M : jx_T) (nh : Nat) : jx_T := let S1 : jx_T := lx_chg M nh; let S2 : jx_T := sX5_discharges S1; let x3 : Int32 := rX5_discharges S1; S2
set_option maxHeartbeats 1000000 in
set_option maxRecDepth 100000 in
theorem c_X5_discharge (l : Launch) (D : va_G) (g : jk_G) (a : Nat → Nat) (M : jx_T) (nh : Nat) (hn6 : nh ≤ 6) (hn : jx_hl M = nI nh) : jk_M l D g yX5_discharge wsX5_discharge 2 42 [.ref (a 0)] (jx_W g a M) (some (.int (rX5_discharge M nh))) (jx_W g a (sX5_discharge M nh)) := by
  refine jk_of (cc := cX5_discharge) (maxL := 1) (ret := (some .int)) (by decide +kernel) rfl (Nat.le_of_ble_eq_true rfl) ?_
  intro p e s m args below meth c hx hb hr hml hts hown hlocks hK hN A H locs hP hD hA hS ls hl
  have hown : s.vm.findClass RX5 = some m.cls := hown
  have hl : lv_has ls 1 [(0, .ref (a 0))] := hl
  refine lv_aload_n hx hb dX5_discharge_0 rfl (lv_at hl 0 rfl) ?_
  obtain ⟨S1, eS1⟩ : ∃ z : jx_T, z = lx_chg M nh := ⟨_, rfl⟩
  refine jk_callV (As := []) (rest := []) (ws1 := (jx_W g a S1)) ⟨hx, hb, hml, hown, hts⟩ (c_X5_changes l D g a M nh (by subst_vars; exact hn6) (by subst_vars; exact hn)) (cwV 0 hts gX5_discharge_X5_changes rfl rfl rfl (by decide +kernel) ⟨Nat.le_of_ble_eq_true rfl, Nat.le_of_ble_eq_true rfl⟩) (va_recv hK hP (ci := 5) (q0 := 0) rfl rfl) hP hD hK hN rfl hl rfl (Nat.le_of_ble_eq_true rfl) dX5_discharge_1 ⟨Nat.zero_le _, Nat.zero_le _⟩ hS hA (fun _ h _ => by rw [eS1]; exact h) (fun H locs hP hS => ?_)
  refine W.eq (g2 := F0 m 4 ls []) rfl ?_
  have hD : va_D A (jx_W g a S1) := jk_D.same hD rfl
  refine lv_aload_n hx hb dX5_discharge_4 rfl (lv_at hl 0 rfl) ?_
  obtain ⟨S2, eS2⟩ : ∃ z : jx_T, z = sX5_discharges S1 := ⟨_, rfl⟩
  refine jk_callV (As := []) (rest := []) (ws1 := (jx_W g a S2)) ⟨hx, hb, hml, hown, hts⟩ (c_X5_discharges l D g a S1) (cwV 0 hts gX5_discharge_X5_discharges rfl rfl rfl (by decide +kernel) ⟨Nat.le_of_ble_eq_true rfl, Nat.le_of_ble_eq_true rfl⟩) (va_recv hK hP (ci := 5) (q0 := 0) rfl rfl) hP hD hK hN rfl hl rfl (Nat.le_of_ble_eq_true rfl) dX5_discharge_5 ⟨Nat.zero_le _, Nat.zero_le _⟩ hS hA (fun _ h _ => by rw [eS2]; exact h) (fun H locs hP hS => ?_)
  refine W.eq (g2 := F0 m 8 ls [.int (rX5_discharges S1)]) rfl ?_
  have hD : va_D A (jx_W g a S2) := jk_D.same hD rfl
  refine lv_topi (fun x3 ex3 => ?_)
  subst ex3
  subst eS2
  subst eS1
  exact jk_iret hx hb hr hlocks hP hS (rfl).symm (congrArg (fun z => (jx_W g a z)) ((rfl).symm)) dX5_discharge_8

def rX5_turn (M : jx_T) (vt : Int32) (nh : Nat) : Int32 := let x1 : Int32 := rX5_in ((vt : Int32).toInt64) (1 : Int64) (99 : Int64); if x1 = 0 then ((-1000002)) else (if (((jx_al M) 5) + vt) ≤ 99999 then (let S4 : jx_T := lx_chg M nh; let S5 : jx_T := sX5_turned S4 vt; let x6 : Int32 := rX5_turned S4 vt; x6) else ((-1000004)))
def sX5_turn (M : jx_T) (vt : Int32) (nh : Nat) : jx_T := let x1 : Int32 := rX5_in ((vt : Int32).toInt64) (1 : Int64) (99 : Int64); if x1 = 0 then (M) else (if (((jx_al M) 5) + vt) ≤ 99999 then (let S4 : jx_T := lx_chg M nh; let S5 : jx_T := sX5_turned S4 vt; let x6 : Int32 := rX5_turned S4 vt; S5) else (M))
set_option maxHeartbeats 1000000 in
set_option maxRecDepth 100000 in
theorem c_X5_turn (l : Launch) (D : va_G) (g : jk_G) (a : Nat → Nat) (M : jx_T) (vt : Int32) (nh : Nat) (hn6 : nh ≤ 6) (hn : jx_hl M = nI nh) (hk0 : jx_ok (jx_al M)) : jk_M l D g yX5_turn wsX5_turn 5 113 [.ref (a 0), .int vt] (jx_W g a M) (some (.int (rX5_turn M vt nh))) (jx_W g a (sX5_turn M vt nh)) := by
  refine jk_of (cc := cX5_turn) (maxL := 2) (ret := (some .int)) (by decide +kernel) rfl (Nat.le_of_ble_eq_true rfl) ?_
  intro p e s m args below meth c hx hb hr hml hts hown hlocks hK hN A H locs hP hD hA hS ls hl
  have hown : s.vm.findClass RX5 = some m.cls := hown
  have hl : lv_has ls 2 [(0, .ref (a 0)), (1, .int vt)] := hl
  have hk_108 := hts (.constantLong RX5 108 99) (by decide +kernel)
  have hf_7 := hts (.fieldLink RX5 7 "InfluenceJarsModel" "all" "[I") (by decide +kernel)
  have hi_5 : ∀ w ∈ u_ws RX5 TX5 13, w ∈ wsX5_turn := by decide +kernel
  have hk_113 := hts (.constant RX5 113 99999) (by decide +kernel)
  have hk_114 := hts (.constant RX5 114 (-1000004)) (by decide +kernel)
  have hk_91 := hts (.constant RX5 91 (-1000002)) (by decide +kernel)
  refine lv_iload_n hx hb dX5_turn_0 rfl (lv_at hl 1 rfl) ?_
  refine lv_i2l hx hb dX5_turn_1 rfl ?_
  refine lv_lconst (v := 1) hx hb dX5_turn_2 (by decide) ?_
  refine lv_ldc2 hx hb hown hk_108 dX5_turn_3 ?_
  refine jk_callS (As := [.long ((vt : Int32).toInt64), .long 1, .long 99]) (rest := []) (ws1 := (jx_W g a M)) ⟨hx, hb, hml, hown, hts⟩ (c_X5_in l D g ((vt : Int32).toInt64) (1 : Int64) (99 : Int64)) (va_cwS 3 hts gX5_turn_X5_in rfl rfl rfl (by decide +kernel) ⟨Nat.le_of_ble_eq_true rfl, Nat.le_of_ble_eq_true rfl⟩) jk_nilP (jk_nilD (A := A)) hK hN rfl hl rfl (Nat.le_of_ble_eq_true rfl) dX5_turn_6 ⟨Nat.zero_le _, Nat.zero_le _⟩ hS hA (fun _ _ hk => jk_keep hP hk) (fun H locs hP hS => ?_)
  refine W.eq (g2 := F0 m 9 ls [.int (rX5_in ((vt : Int32).toInt64) (1 : Int64) (99 : Int64))]) rfl ?_
  refine lv_topi (fun x1 ex1 => ?_)
  refine lv_if_ne (tgt := 15) hx hb dX5_turn_9 (by decide) (fun c2 => ?_) (fun c2 => ?_)
  · refine lv_aload_n hx hb dX5_turn_15 rfl (lv_at hl 0 rfl) ?_
    refine va_get (D := D) (ci := 5) (v := .ref (a 1)) (C := RX5) (T := TX5) (N := 13) hx hb hts hi_5 hown hK hP 0 rfl rfl 0 (by decide) hf_7 (fun _ h9 => h9) rfl dX5_turn_16 ?_
    refine lv_iconst (v := 5) hx hb dX5_turn_19 (by decide) ?_
    refine va_iald (f := (jx_al M)) hx hb hK hP 1 0 rfl rfl (jk_inC (by decide +kernel)) dX5_turn_20 ?_
    refine W.eq (g2 := F0 m 21 ls [.int ((jx_al M) 5)]) rfl ?_
    refine lv_iload_n hx hb dX5_turn_21 rfl (lv_at hl 1 rfl) ?_
    refine lv_iadd hx hb dX5_turn_22 ?_
    refine lv_ldc hx hb hown hk_113 dX5_turn_23 ?_
    refine lv_icmp_le (tgt := 31) hx hb dX5_turn_25 (by decide) (fun c3 => ?_) (fun c3 => ?_)
    · refine lv_aload_n hx hb dX5_turn_31 rfl (lv_at hl 0 rfl) ?_
      obtain ⟨S4, eS4⟩ : ∃ z : jx_T, z = lx_chg M nh := ⟨_, rfl⟩
      refine jk_callV (As := []) (rest := []) (ws1 := (jx_W g a S4)) ⟨hx, hb, hml, hown, hts⟩ (c_X5_changes l D g a M nh (by subst_vars; exact hn6) (by subst_vars; exact hn)) (cwV 0 hts gX5_turn_X5_changes rfl rfl rfl (by decide +kernel) ⟨Nat.le_of_ble_eq_true rfl, Nat.le_of_ble_eq_true rfl⟩) (va_recv hK hP (ci := 5) (q0 := 0) rfl rfl) hP hD hK hN rfl hl rfl (Nat.le_of_ble_eq_true rfl) dX5_turn_32 ⟨Nat.zero_le _, Nat.zero_le _⟩ hS hA (fun _ h _ => by rw [eS4]; exact h) (fun H locs hP hS => ?_)
      refine W.eq (g2 := F0 m 35 ls []) rfl ?_
      have hD : va_D A (jx_W g a S4) := jk_D.same hD rfl
      refine lv_aload_n hx hb dX5_turn_35 rfl (lv_at hl 0 rfl) ?_
      refine lv_iload_n hx hb dX5_turn_36 rfl (lv_at hl 1 rfl) ?_
      obtain ⟨S5, eS5⟩ : ∃ z : jx_T, z = sX5_turned S4 vt := ⟨_, rfl⟩
      refine jk_callV (As := [.int vt]) (rest := []) (ws1 := (jx_W g a S5)) ⟨hx, hb, hml, hown, hts⟩ (c_X5_turned l D g a S4 vt (by subst_vars; exact hk0)) (cwV 1 hts gX5_turn_X5_turned rfl rfl rfl (by decide +kernel) ⟨Nat.le_of_ble_eq_true rfl, Nat.le_of_ble_eq_true rfl⟩) (va_recv hK hP (ci := 5) (q0 := 0) rfl rfl) hP hD hK hN rfl hl rfl (Nat.le_of_ble_eq_true rfl) dX5_turn_37 ⟨Nat.zero_le _, Nat.zero_le _⟩ hS hA (fun _ h _ => by rw [eS5]; exact h) (fun H locs hP hS => ?_)
      refine W.eq (g2 := F0 m 40 ls [.int (rX5_turned S4 vt)]) rfl ?_
      have hD : va_D A (jx_W g a S5) := jk_D.same hD rfl
      refine lv_topi (fun x6 ex6 => ?_)
      subst ex6
      subst eS5
      subst eS4
      subst ex1
      exact jk_iret hx hb hr hlocks hP hS ((if_neg c2).trans ((if_pos c3).trans (rfl))).symm (congrArg (fun z => (jx_W g a z)) (((if_neg c2).trans ((if_pos c3).trans (rfl))).symm)) dX5_turn_40
    · refine lv_ldc hx hb hown hk_114 dX5_turn_28 ?_
      subst ex1
      exact jk_iret hx hb hr hlocks hP hS ((if_neg c2).trans ((if_neg c3).trans (rfl))).symm (congrArg (fun z => (jx_W g a z)) (((if_neg c2).trans ((if_neg c3).trans (rfl))).symm)) dX5_turn_30
  · refine lv_ldc hx hb hown hk_91 dX5_turn_12 ?_
    subst ex1
    exact jk_iret hx hb hr hlocks hP hS ((if_pos c2).trans (rfl)).symm (congrArg (fun z => (jx_W g a z)) (((if_pos c2).trans (rfl)).symm)) dX5_turn_14

def rX5_wipeDisc (M : jx_T) (vd : Int32) : Int32 := let x1 : Int32 := rX5_isDisc vd; if x1 = 0 then ((-1000001)) else (let f5 : (Nat → Int32) := (lx_wp (jx_al M) vd 12); let x6 : Int32 := lx_wn (jx_al M) vd 12; x6)
def sX5_wipeDisc (M : jx_T) (vd : Int32) (nh : Nat) : jx_T := let x1 : Int32 := rX5_isDisc vd; if x1 = 0 then (M) else (let f5 : (Nat → Int32) := (lx_wp (jx_al M) vd 12); let x6 : Int32 := lx_wn (jx_al M) vd 12; (jx_ual (lx_chg M nh) f5))
set_option maxHeartbeats 1000000 in
set_option maxRecDepth 100000 in
theorem c_X5_wipeDisc (l : Launch) (D : va_G) (g : jk_G) (a : Nat → Nat) (M : jx_T) (vd : Int32) (nh : Nat) (hn6 : nh ≤ 6) (hn : jx_hl M = nI nh) : jk_M l D g yX5_wipeDisc wsX5_wipeDisc 1 21 [.ref (a 0), .int vd] (jx_W g a M) (some (.int (rX5_wipeDisc M vd))) (jx_W g a (sX5_wipeDisc M vd nh)) := by
  refine jk_of (cc := cX5_wipeDisc) (maxL := 4) (ret := (some .int)) (by decide +kernel) rfl (Nat.le_of_ble_eq_true rfl) ?_
  intro p e s m args below meth c hx hb hr hml hts hown hlocks hK hN A H locs hP hD hA hS ls hl
  have hown : s.vm.findClass RX5 = some m.cls := hown
  have hl : lv_has ls 4 [(0, .ref (a 0)), (1, .int vd)] := hl
  have hf_7 := hts (.fieldLink RX5 7 "InfluenceJarsModel" "all" "[I") (by decide +kernel)
  have hi_5 : ∀ w ∈ u_ws RX5 TX5 13, w ∈ wsX5_wipeDisc := by decide +kernel
  have hk_105 := hts (.constant RX5 105 (-1000001)) (by decide +kernel)
  refine lv_iload_n hx hb dX5_wipeDisc_0 rfl (lv_at hl 1 rfl) ?_
  refine jk_callS (As := [.int vd]) (rest := []) (ws1 := (jx_W g a M)) ⟨hx, hb, hml, hown, hts⟩ (c_X5_isDisc l D g vd) (va_cwS 1 hts gX5_wipeDisc_X5_isDisc rfl rfl rfl (by decide +kernel) ⟨Nat.le_of_ble_eq_true rfl, Nat.le_of_ble_eq_true rfl⟩) jk_nilP (jk_nilD (A := A)) hK hN rfl hl rfl (Nat.le_of_ble_eq_true rfl) dX5_wipeDisc_1 ⟨Nat.zero_le _, Nat.zero_le _⟩ hS hA (fun _ _ hk => jk_keep hP hk) (fun H locs hP hS => ?_)
  refine W.eq (g2 := F0 m 4 ls [.int (rX5_isDisc vd)]) rfl ?_
  refine lv_topi (fun x1 ex1 => ?_)
  refine lv_if_ne (tgt := 10) hx hb dX5_wipeDisc_4 (by decide) (fun c2 => ?_) (fun c2 => ?_)
  · refine lv_aload_n hx hb dX5_wipeDisc_10 rfl (lv_at hl 0 rfl) ?_
    obtain ⟨S3, eS3⟩ : ∃ z : jx_T, z = lx_chg M nh := ⟨_, rfl⟩
    refine jk_callV (As := []) (rest := []) (ws1 := (jx_W g a S3)) ⟨hx, hb, hml, hown, hts⟩ (c_X5_changes l D g a M nh (by subst_vars; exact hn6) (by subst_vars; exact hn)) (cwV 0 hts gX5_wipeDisc_X5_changes rfl rfl rfl (by decide +kernel) ⟨Nat.le_of_ble_eq_true rfl, Nat.le_of_ble_eq_true rfl⟩) (va_recv hK hP (ci := 5) (q0 := 0) rfl rfl) hP hD hK hN rfl hl rfl (Nat.le_of_ble_eq_true rfl) dX5_wipeDisc_11 ⟨Nat.zero_le _, Nat.zero_le _⟩ hS hA (fun _ h _ => by rw [eS3]; exact h) (fun H locs hP hS => ?_)
    refine W.eq (g2 := F0 m 14 ls []) rfl ?_
    have hD : va_D A (jx_W g a S3) := jk_D.same hD rfl
    refine lv_iconst (v := 0) hx hb dX5_wipeDisc_14 (by decide) ?_
    refine lv_istore_n (lv' := [(2, .int 0), (0, .ref (a 0)), (1, .int vd)]) hx hb dX5_wipeDisc_15 rfl hl (by decide) rfl (fun ls hl => ?_)
    refine lv_iconst (v := 0) hx hb dX5_wipeDisc_16 (by decide) ?_
    refine lv_istore_n (lv' := [(3, .int 0), (2, .int 0), (0, .ref (a 0)), (1, .int vd)]) hx hb dX5_wipeDisc_17 rfl hl (by decide) rfl (fun ls hl => ?_)
    subst eS3
    subst ex1
    have hlp : ∀ (n k : Nat), k ≤ 12 → 12 < k + n → ∀ (H : Heap) (locs : List Loc), va_P D vwCl (jx_W g a (jx_ual (lx_chg M nh) (lx_wp (jx_al M) vd k))) H → va_S A s.heap H locs → ∀ ls : Array Slot, lv_has ls 4 [(0, .ref (a 0)), (1, .int vd), (2, .int (lx_wn (jx_al M) vd k)), (3, .int (nI k))] → W p l e ({ frames := 1, cells := 0, slots := 0, locals := 21 }) s m args below meth c H locs 0 0 (MQ below (jk_Q (some (.int (rX5_wipeDisc M vd))) D (jx_W g a (sX5_wipeDisc M vd nh)) A) args s 0 0 A) (F0 m 18 ls []) := by
      intro n
      induction n with
      | zero => intro k  hk1 hk2; exact absurd hk2 (by omega)
      | succ n ih =>
        intro k  hk hkn  H locs hP hS ls hl
        have hD : va_D A (jx_W g a (jx_ual (lx_chg M nh) (lx_wp (jx_al M) vd k))) := jk_D.same hD rfl
        refine lv_iload_n hx hb dX5_wipeDisc_18 rfl (lv_at hl 3 rfl) ?_
        refine lv_bipush (v := 12) hx hb dX5_wipeDisc_19 (by decide) ?_
        refine lv_icmp_ge (tgt := 82) hx hb dX5_wipeDisc_21 (by decide) (fun c4 => ?_) (fun c4 => ?_)
        · have hk9 : k = 12 := jk_ge (N := 12) (by decide) hk c4
          subst hk9
          obtain ⟨f5, ef5⟩ : ∃ z : Nat → Int32, z = (lx_wp (jx_al M) vd 12) := ⟨_, rfl⟩
          rw [← ef5] at hP hD
          obtain ⟨x6, ex6⟩ : ∃ z : Int32, z = lx_wn (jx_al M) vd 12 := ⟨_, rfl⟩
          rw [← ex6] at hl
          refine lv_iload_n hx hb dX5_wipeDisc_82 rfl (lv_at hl 2 rfl) ?_
          subst ex6
          subst ef5
          exact jk_iret hx hb hr hlocks hP hS ((if_neg c2).trans (rfl)).symm (congrArg (fun z => (jx_W g a z)) (((if_neg c2).trans (rfl)).symm)) dX5_wipeDisc_83
        · have hlt : k < 12 := jk_lt (N := 12) (by decide) hk c4
          refine lv_iload_n hx hb dX5_wipeDisc_24 rfl (lv_at hl 2 rfl) ?_
          refine lv_aload_n hx hb dX5_wipeDisc_25 rfl (lv_at hl 0 rfl) ?_
          refine va_get (D := D) (ci := 5) (v := .ref (a 1)) (C := RX5) (T := TX5) (N := 13) hx hb hts hi_5 hown hK hP 0 rfl rfl 0 (by decide) hf_7 (fun _ h9 => h9) rfl dX5_wipeDisc_26 ?_
          refine lv_iload_n hx hb dX5_wipeDisc_29 rfl (lv_at hl 1 rfl) ?_
          refine lv_iload_n hx hb dX5_wipeDisc_30 rfl (lv_at hl 3 rfl) ?_
          refine jk_callS (As := [.int vd, .int (nI k)]) (rest := [.ref (a 1), .int (lx_wn (jx_al M) vd k)]) (ws1 := (jx_W g a (jx_ual (lx_chg M nh) (lx_wp (jx_al M) vd k)))) ⟨hx, hb, hml, hown, hts⟩ (c_X5_cell l D g vd (nI k)) (va_cwS 2 hts gX5_wipeDisc_X5_cell rfl rfl rfl (by decide +kernel) ⟨Nat.le_of_ble_eq_true rfl, Nat.le_of_ble_eq_true rfl⟩) jk_nilP (jk_nilD (A := A)) hK hN rfl hl rfl (Nat.le_of_ble_eq_true rfl) dX5_wipeDisc_31 ⟨Nat.zero_le _, Nat.zero_le _⟩ hS hA (fun _ _ hk => jk_keep hP hk) (fun H locs hP hS => ?_)
          refine W.eq (g2 := F0 m 34 ls [.int (rX5_cell vd (nI k)), .ref (a 1), .int (lx_wn (jx_al M) vd k)]) rfl ?_
          refine lv_topi (fun x7 ex7 => ?_)
          refine va_iald (f := (lx_wp (jx_al M) vd k)) hx hb hK hP 1 0 rfl rfl (by subst_vars; exact jx_cell_in (jx_disc01 c2) hlt) dX5_wipeDisc_34 ?_
          refine lv_topi (fun x8 ex8 => ?_)
          have J9 : ∀ (x11 : Int32) (H : Heap) (locs : List Loc), x11 = (if x8 = 0 then 0 else 1) → va_P D vwCl (jx_W g a (jx_ual (lx_chg M nh) (lx_wp (jx_al M) vd k))) H → va_S A s.heap H locs → W p l e ({ frames := 1, cells := 0, slots := 0, locals := 21 }) s m args below meth c H locs 0 0 (MQ below (jk_Q (some (.int (rX5_wipeDisc M vd))) D (jx_W g a (sX5_wipeDisc M vd nh)) A) args s 0 0 A) (F0 m 43 ls [.int x11, .int (lx_wn (jx_al M) vd k)]) := by
            intro x11 H locs ex11 hP hS
            refine lv_iadd hx hb dX5_wipeDisc_43 ?_
            refine lv_topi (fun x12 ex12 => ?_)
            refine lv_istore_n (lv' := [(2, .int x12), (0, .ref (a 0)), (1, .int vd), (3, .int (nI k))]) hx hb dX5_wipeDisc_44 rfl hl (by decide) rfl (fun ls hl => ?_)
            refine lv_aload_n hx hb dX5_wipeDisc_45 rfl (lv_at hl 1 rfl) ?_
            refine va_get (D := D) (ci := 5) (v := .ref (a 1)) (C := RX5) (T := TX5) (N := 13) hx hb hts hi_5 hown hK hP 0 rfl rfl 0 (by decide) hf_7 (fun _ h9 => h9) rfl dX5_wipeDisc_46 ?_
            refine lv_bipush (v := 11) hx hb dX5_wipeDisc_49 (by decide) ?_
            refine lv_dup2_11 hx hb dX5_wipeDisc_51 rfl rfl ?_
            refine va_iald (f := (lx_wp (jx_al M) vd k)) hx hb hK hP 1 0 rfl rfl (jk_inC (by decide +kernel)) dX5_wipeDisc_52 ?_
            refine W.eq (g2 := F0 m 53 ls [.int ((lx_wp (jx_al M) vd k) 11), .int 11, .ref (a 1)]) rfl ?_
            refine lv_aload_n hx hb dX5_wipeDisc_53 rfl (lv_at hl 1 rfl) ?_
            refine va_get (D := D) (ci := 5) (v := .ref (a 1)) (C := RX5) (T := TX5) (N := 13) hx hb hts hi_5 hown hK hP 0 rfl rfl 0 (by decide) hf_7 (fun _ h9 => h9) rfl dX5_wipeDisc_54 ?_
            refine lv_iload_n hx hb dX5_wipeDisc_57 rfl (lv_at hl 2 rfl) ?_
            refine lv_iload_n hx hb dX5_wipeDisc_58 rfl (lv_at hl 3 rfl) ?_
            refine jk_callS (As := [.int vd, .int (nI k)]) (rest := [.ref (a 1), .int ((lx_wp (jx_al M) vd k) 11), .int 11, .ref (a 1)]) (ws1 := (jx_W g a (jx_ual (lx_chg M nh) (lx_wp (jx_al M) vd k)))) ⟨hx, hb, hml, hown, hts⟩ (c_X5_cell l D g vd (nI k)) (va_cwS 2 hts gX5_wipeDisc_X5_cell rfl rfl rfl (by decide +kernel) ⟨Nat.le_of_ble_eq_true rfl, Nat.le_of_ble_eq_true rfl⟩) jk_nilP (jk_nilD (A := A)) hK hN rfl hl rfl (Nat.le_of_ble_eq_true rfl) dX5_wipeDisc_59 ⟨Nat.zero_le _, Nat.zero_le _⟩ hS hA (fun _ _ hk => jk_keep hP hk) (fun H locs hP hS => ?_)
            refine W.eq (g2 := F0 m 62 ls [.int (rX5_cell vd (nI k)), .ref (a 1), .int ((lx_wp (jx_al M) vd k) 11), .int 11, .ref (a 1)]) rfl ?_
            refine lv_topi (fun x13 ex13 => ?_)
            refine va_iald (f := (lx_wp (jx_al M) vd k)) hx hb hK hP 1 0 rfl rfl (by subst_vars; exact jx_cell_in (jx_disc01 c2) hlt) dX5_wipeDisc_62 ?_
            refine lv_topi (fun x14 ex14 => ?_)
            refine lv_iadd hx hb dX5_wipeDisc_63 ?_
            refine lv_topi (fun x15 ex15 => ?_)
            refine va_iast (f := (lx_wp (jx_al M) vd k)) hx hb hK hP hD hS 1 0 rfl rfl (jk_inC (by decide +kernel)) dX5_wipeDisc_64 (fun H locs hP hD hS => ?_)
            have hP : va_P D vwCl (jx_W g a (jx_ual (lx_chg M nh) (upd (lx_wp (jx_al M) vd k) 11 x15))) H := hP
            have hD : va_D A (jx_W g a (jx_ual (lx_chg M nh) (upd (lx_wp (jx_al M) vd k) 11 x15))) := hD
            refine lv_aload_n hx hb dX5_wipeDisc_65 rfl (lv_at hl 1 rfl) ?_
            refine va_get (D := D) (ci := 5) (v := .ref (a 1)) (C := RX5) (T := TX5) (N := 13) hx hb hts hi_5 hown hK hP 0 rfl rfl 0 (by decide) hf_7 (fun _ h9 => h9) rfl dX5_wipeDisc_66 ?_
            refine lv_iload_n hx hb dX5_wipeDisc_69 rfl (lv_at hl 2 rfl) ?_
            refine lv_iload_n hx hb dX5_wipeDisc_70 rfl (lv_at hl 3 rfl) ?_
            refine jk_callS (As := [.int vd, .int (nI k)]) (rest := [.ref (a 1)]) (ws1 := (jx_W g a (jx_ual (lx_chg M nh) (upd (lx_wp (jx_al M) vd k) 11 x15)))) ⟨hx, hb, hml, hown, hts⟩ (c_X5_cell l D g vd (nI k)) (va_cwS 2 hts gX5_wipeDisc_X5_cell rfl rfl rfl (by decide +kernel) ⟨Nat.le_of_ble_eq_true rfl, Nat.le_of_ble_eq_true rfl⟩) jk_nilP (jk_nilD (A := A)) hK hN rfl hl rfl (Nat.le_of_ble_eq_true rfl) dX5_wipeDisc_71 ⟨Nat.zero_le _, Nat.zero_le _⟩ hS hA (fun _ _ hk => jk_keep hP hk) (fun H locs hP hS => ?_)
            refine W.eq (g2 := F0 m 74 ls [.int (rX5_cell vd (nI k)), .ref (a 1)]) rfl ?_
            refine lv_topi (fun x16 ex16 => ?_)
            refine lv_iconst (v := 0) hx hb dX5_wipeDisc_74 (by decide) ?_
            refine va_iast (f := (upd (lx_wp (jx_al M) vd k) 11 x15)) hx hb hK hP hD hS 1 0 rfl rfl (by subst_vars; exact jx_cell_in (jx_disc01 c2) hlt) dX5_wipeDisc_75 (fun H locs hP hD hS => ?_)
            obtain ⟨f17, ef17⟩ : ∃ z : Nat → Int32, z = (upd (upd (lx_wp (jx_al M) vd k) 11 x15) x16.toNatClampNeg 0) := ⟨_, rfl⟩
            rw [← ef17] at hP hD
            have hP : va_P D vwCl (jx_W g a (jx_ual (lx_chg M nh) f17)) H := hP
            have hD : va_D A (jx_W g a (jx_ual (lx_chg M nh) f17)) := hD
            refine lv_iinc (v := nI (k + 1)) (lv' := [(3, .int (nI (k + 1))), (2, .int x12), (0, .ref (a 0)), (1, .int vd)]) hx hb dX5_wipeDisc_76 hl (k := 3) rfl (nI_1 _) (by decide) rfl (fun ls hl => ?_)
            refine lv_goto (tgt := 18) hx hb dX5_wipeDisc_79 (by decide) ?_
            subst ef17
            subst ex16
            subst ex15
            subst ex14
            subst ex13
            subst ex12
            subst ex11
            subst ex8
            subst ex7
            exact ih (k + 1)  (by omega) (by omega)  H locs hP hS ls (lv_sub hl [2, 3, 1, 0] rfl)
          refine lv_if_ne (tgt := 42) hx hb dX5_wipeDisc_35 (by decide) (fun c10 => ?_) (fun c10 => ?_)
          · refine lv_iconst (v := 1) hx hb dX5_wipeDisc_42 (by decide) ?_
            exact J9 _ H locs ((if_neg c10).trans (rfl)).symm hP hS
          · refine lv_iconst (v := 0) hx hb dX5_wipeDisc_38 (by decide) ?_
            refine lv_goto (tgt := 43) hx hb dX5_wipeDisc_39 (by decide) ?_
            exact J9 _ H locs ((if_pos c10).trans (rfl)).symm hP hS
    exact hlp (12 + 1) 0  (Nat.zero_le _) (by omega)  H locs hP hS ls (lv_sub hl [2, 3, 1, 0] rfl)
  · refine lv_ldc hx hb hown hk_105 dX5_wipeDisc_7 ?_
    subst ex1
    exact jk_iret hx hb hr hlocks hP hS ((if_pos c2).trans (rfl)).symm (congrArg (fun z => (jx_W g a z)) (((if_pos c2).trans (rfl)).symm)) dX5_wipeDisc_9

def rX5_sector (M : jx_T) (vd : Int32) (vq : Int32) : Int32 := let x1 : Int32 := rX5_isDisc vd; if x1 = 0 then ((-1000001)) else (let x3 : Int32 := rX5_isPlace vq; if x3 = 0 then ((-1000001)) else (let x5 : Int32 := rX5_cell vd vq; (jx_al M) x5.toNatClampNeg))
set_option maxHeartbeats 1000000 in
set_option maxRecDepth 100000 in
theorem c_X5_sector (l : Launch) (D : va_G) (g : jk_G) (a : Nat → Nat) (M : jx_T) (vd : Int32) (vq : Int32)  : jk_M l D g yX5_sector wsX5_sector 2 45 [.ref (a 0), .int vd, .int vq] (jx_W g a M) (some (.int (rX5_sector M vd vq))) (jx_W g a M) := by
  refine jk_of (cc := cX5_sector) (maxL := 3) (ret := (some .int)) (by decide +kernel) rfl (Nat.le_of_ble_eq_true rfl) ?_
  intro p e s m args below meth c hx hb hr hml hts hown hlocks hK hN A H locs hP hD hA hS ls hl
  have hown : s.vm.findClass RX5 = some m.cls := hown
  have hl : lv_has ls 3 [(0, .ref (a 0)), (1, .int vd), (2, .int vq)] := hl
  have hk_105 := hts (.constant RX5 105 (-1000001)) (by decide +kernel)
  have hf_7 := hts (.fieldLink RX5 7 "InfluenceJarsModel" "all" "[I") (by decide +kernel)
  have hi_5 : ∀ w ∈ u_ws RX5 TX5 13, w ∈ wsX5_sector := by decide +kernel
  refine lv_iload_n hx hb dX5_sector_0 rfl (lv_at hl 1 rfl) ?_
  refine jk_callS (As := [.int vd]) (rest := []) (ws1 := (jx_W g a M)) ⟨hx, hb, hml, hown, hts⟩ (c_X5_isDisc l D g vd) (va_cwS 1 hts gX5_sector_X5_isDisc rfl rfl rfl (by decide +kernel) ⟨Nat.le_of_ble_eq_true rfl, Nat.le_of_ble_eq_true rfl⟩) jk_nilP (jk_nilD (A := A)) hK hN rfl hl rfl (Nat.le_of_ble_eq_true rfl) dX5_sector_1 ⟨Nat.zero_le _, Nat.zero_le _⟩ hS hA (fun _ _ hk => jk_keep hP hk) (fun H locs hP hS => ?_)
  refine W.eq (g2 := F0 m 4 ls [.int (rX5_isDisc vd)]) rfl ?_
  refine lv_topi (fun x1 ex1 => ?_)
  refine lv_if_eq (tgt := 27) hx hb dX5_sector_4 (by decide) (fun c2 => ?_) (fun c2 => ?_)
  · refine lv_ldc hx hb hown hk_105 dX5_sector_27 ?_
    subst ex1
    exact jk_iret hx hb hr hlocks hP hS ((if_pos c2).trans (rfl)).symm rfl dX5_sector_29
  · refine lv_iload_n hx hb dX5_sector_7 rfl (lv_at hl 2 rfl) ?_
    refine jk_callS (As := [.int vq]) (rest := []) (ws1 := (jx_W g a M)) ⟨hx, hb, hml, hown, hts⟩ (c_X5_isPlace l D g vq) (va_cwS 1 hts gX5_sector_X5_isPlace rfl rfl rfl (by decide +kernel) ⟨Nat.le_of_ble_eq_true rfl, Nat.le_of_ble_eq_true rfl⟩) jk_nilP (jk_nilD (A := A)) hK hN rfl hl rfl (Nat.le_of_ble_eq_true rfl) dX5_sector_8 ⟨Nat.zero_le _, Nat.zero_le _⟩ hS hA (fun _ _ hk => jk_keep hP hk) (fun H locs hP hS => ?_)
    refine W.eq (g2 := F0 m 11 ls [.int (rX5_isPlace vq)]) rfl ?_
    refine lv_topi (fun x3 ex3 => ?_)
    refine lv_if_eq (tgt := 27) hx hb dX5_sector_11 (by decide) (fun c4 => ?_) (fun c4 => ?_)
    · refine lv_ldc hx hb hown hk_105 dX5_sector_27 ?_
      subst ex3
      subst ex1
      exact jk_iret hx hb hr hlocks hP hS ((if_neg c2).trans ((if_pos c4).trans (rfl))).symm rfl dX5_sector_29
    · refine lv_aload_n hx hb dX5_sector_14 rfl (lv_at hl 0 rfl) ?_
      refine va_get (D := D) (ci := 5) (v := .ref (a 1)) (C := RX5) (T := TX5) (N := 13) hx hb hts hi_5 hown hK hP 0 rfl rfl 0 (by decide) hf_7 (fun _ h9 => h9) rfl dX5_sector_15 ?_
      refine lv_iload_n hx hb dX5_sector_18 rfl (lv_at hl 1 rfl) ?_
      refine lv_iload_n hx hb dX5_sector_19 rfl (lv_at hl 2 rfl) ?_
      refine jk_callS (As := [.int vd, .int vq]) (rest := [.ref (a 1)]) (ws1 := (jx_W g a M)) ⟨hx, hb, hml, hown, hts⟩ (c_X5_cell l D g vd vq) (va_cwS 2 hts gX5_sector_X5_cell rfl rfl rfl (by decide +kernel) ⟨Nat.le_of_ble_eq_true rfl, Nat.le_of_ble_eq_true rfl⟩) jk_nilP (jk_nilD (A := A)) hK hN rfl hl rfl (Nat.le_of_ble_eq_true rfl) dX5_sector_20 ⟨Nat.zero_le _, Nat.zero_le _⟩ hS hA (fun _ _ hk => jk_keep hP hk) (fun H locs hP hS => ?_)
      refine W.eq (g2 := F0 m 23 ls [.int (rX5_cell vd vq), .ref (a 1)]) rfl ?_
      refine lv_topi (fun x5 ex5 => ?_)
      refine va_iald (f := (jx_al M)) hx hb hK hP 1 0 rfl rfl (by subst_vars; first | exact jx_cell_in2 c2 c4) dX5_sector_23 ?_
      refine lv_goto (tgt := 29) hx hb dX5_sector_24 (by decide) ?_
      subst ex5
      subst ex3
      subst ex1
      exact jk_iret hx hb hr hlocks hP hS ((if_neg c2).trans ((if_neg c4).trans (rfl))).symm rfl dX5_sector_29

def rX5_disc (M : jx_T) (vd : Int32) (vw : Int32) : Int32 := let x1 : Int32 := rX5_isDisc vd; if x1 = 0 then ((-1000001)) else (let x4 : Int32 := lx_ds (jx_al M) vd 12; let x5 : Int32 := lx_da (jx_al M) vd 12; let x6 : Int32 := lx_db (jx_al M) vd 12; let x7 : Int32 := lx_dg (jx_al M) vd 12; let x8 : Int32 := lx_dl (jx_al M) vd 12; if vw = 0 then (x4) else (if vw = 1 then (x5) else (if vw = 2 then (x6) else (if vw = 3 then (x7) else (if vw = 4 then (x8) else ((-1000002)))))))
set_option maxHeartbeats 1000000 in
set_option maxRecDepth 100000 in
theorem c_X5_disc (l : Launch) (D : va_G) (g : jk_G) (a : Nat → Nat) (M : jx_T) (vd : Int32) (vw : Int32)  : jk_M l D g yX5_disc wsX5_disc 1 21 [.ref (a 0), .int vd, .int vw] (jx_W g a M) (some (.int (rX5_disc M vd vw))) (jx_W g a M) := by
  refine jk_of (cc := cX5_disc) (maxL := 10) (ret := (some .int)) (by decide +kernel) rfl (Nat.le_of_ble_eq_true rfl) ?_
  intro p e s m args below meth c hx hb hr hml hts hown hlocks hK hN A H locs hP hD hA hS ls hl
  have hown : s.vm.findClass RX5 = some m.cls := hown
  have hl : lv_has ls 10 [(0, .ref (a 0)), (1, .int vd), (2, .int vw)] := hl
  obtain ⟨NN, hNN⟩ : ∃ z : Nat, z = 12 := ⟨_, rfl⟩
  have hk_91 := hts (.constant RX5 91 (-1000002)) (by decide +kernel)
  have hf_7 := hts (.fieldLink RX5 7 "InfluenceJarsModel" "all" "[I") (by decide +kernel)
  have hi_5 : ∀ w ∈ u_ws RX5 TX5 13, w ∈ wsX5_disc := by decide +kernel
  have hk_105 := hts (.constant RX5 105 (-1000001)) (by decide +kernel)
  refine lv_iload_n hx hb dX5_disc_0 rfl (lv_at hl 1 rfl) ?_
  refine jk_callS (As := [.int vd]) (rest := []) (ws1 := (jx_W g a M)) ⟨hx, hb, hml, hown, hts⟩ (c_X5_isDisc l D g vd) (va_cwS 1 hts gX5_disc_X5_isDisc rfl rfl rfl (by decide +kernel) ⟨Nat.le_of_ble_eq_true rfl, Nat.le_of_ble_eq_true rfl⟩) jk_nilP (jk_nilD (A := A)) hK hN rfl hl rfl (Nat.le_of_ble_eq_true rfl) dX5_disc_1 ⟨Nat.zero_le _, Nat.zero_le _⟩ hS hA (fun _ _ hk => jk_keep hP hk) (fun H locs hP hS => ?_)
  refine W.eq (g2 := F0 m 4 ls [.int (rX5_isDisc vd)]) rfl ?_
  refine lv_topi (fun x1 ex1 => ?_)
  refine lv_if_ne (tgt := 10) hx hb dX5_disc_4 (by decide) (fun c2 => ?_) (fun c2 => ?_)
  · refine lv_iconst (v := 0) hx hb dX5_disc_10 (by decide) ?_
    refine lv_istore_n (lv' := [(3, .int 0), (0, .ref (a 0)), (1, .int vd), (2, .int vw)]) hx hb dX5_disc_11 rfl hl (by decide) rfl (fun ls hl => ?_)
    refine lv_iconst (v := 0) hx hb dX5_disc_12 (by decide) ?_
    refine lv_istore (lv' := [(4, .int 0), (3, .int 0), (0, .ref (a 0)), (1, .int vd), (2, .int vw)]) hx hb dX5_disc_13 hl (by decide) rfl (fun ls hl => ?_)
    refine lv_iconst (v := 0) hx hb dX5_disc_15 (by decide) ?_
    refine lv_istore (lv' := [(5, .int 0), (4, .int 0), (3, .int 0), (0, .ref (a 0)), (1, .int vd), (2, .int vw)]) hx hb dX5_disc_16 hl (by decide) rfl (fun ls hl => ?_)
    refine lv_bipush (v := (-99)) hx hb dX5_disc_18 (by decide) ?_
    refine lv_istore (lv' := [(6, .int (-99)), (5, .int 0), (4, .int 0), (3, .int 0), (0, .ref (a 0)), (1, .int vd), (2, .int vw)]) hx hb dX5_disc_20 hl (by decide) rfl (fun ls hl => ?_)
    refine lv_bipush (v := 99) hx hb dX5_disc_22 (by decide) ?_
    refine lv_istore (lv' := [(7, .int 99), (6, .int (-99)), (5, .int 0), (4, .int 0), (3, .int 0), (0, .ref (a 0)), (1, .int vd), (2, .int vw)]) hx hb dX5_disc_24 hl (by decide) rfl (fun ls hl => ?_)
    refine lv_iconst (v := 0) hx hb dX5_disc_26 (by decide) ?_
    refine lv_istore (lv' := [(8, .int 0), (7, .int 99), (6, .int (-99)), (5, .int 0), (4, .int 0), (3, .int 0), (0, .ref (a 0)), (1, .int vd), (2, .int vw)]) hx hb dX5_disc_27 hl (by decide) rfl (fun ls hl => ?_)
    subst ex1
    have hlp : ∀ (n k : Nat), k ≤ NN → NN < k + n → ∀ (H : Heap) (locs : List Loc), va_P D vwCl (jx_W g a M) H → va_S A s.heap H locs → ∀ ls : Array Slot, lv_has ls 10 [(0, .ref (a 0)), (1, .int vd), (2, .int vw), (3, .int (lx_ds (jx_al M) vd k)), (4, .int (lx_da (jx_al M) vd k)), (5, .int (lx_db (jx_al M) vd k)), (6, .int (lx_dg (jx_al M) vd k)), (7, .int (lx_dl (jx_al M) vd k)), (8, .int (nI k))] → W p l e ({ frames := 1, cells := 0, slots := 0, locals := 21 }) s m args below meth c H locs 0 0 (MQ below (jk_Q (some (.int (rX5_disc M vd vw))) D (jx_W g a M) A) args s 0 0 A) (F0 m 29 ls []) := by
      intro n
      induction n with
      | zero => intro k  hk1 hk2; exact absurd hk2 (by omega)
      | succ n ih =>
        intro k  hk hkn  H locs hP hS ls hl
        have hD : va_D A (jx_W g a M) := jk_D.same hD rfl
        refine lv_iload hx hb dX5_disc_29 (lv_at hl 8 rfl) ?_
        refine lv_bipush (v := 12) hx hb dX5_disc_31 (by decide) ?_
        refine lv_icmp_ge (tgt := 122) hx hb dX5_disc_33 (by decide) (fun c3 => ?_) (fun c3 => ?_)
        · have hk9 : NN = k := (jk_geN hNN (by decide) hk c3).symm
          subst hk9
          obtain ⟨x4, ex4⟩ : ∃ z : Int32, z = lx_ds (jx_al M) vd NN := ⟨_, rfl⟩
          rw [← ex4] at hl
          obtain ⟨x5, ex5⟩ : ∃ z : Int32, z = lx_da (jx_al M) vd NN := ⟨_, rfl⟩
          rw [← ex5] at hl
          obtain ⟨x6, ex6⟩ : ∃ z : Int32, z = lx_db (jx_al M) vd NN := ⟨_, rfl⟩
          rw [← ex6] at hl
          obtain ⟨x7, ex7⟩ : ∃ z : Int32, z = lx_dg (jx_al M) vd NN := ⟨_, rfl⟩
          rw [← ex7] at hl
          obtain ⟨x8, ex8⟩ : ∃ z : Int32, z = lx_dl (jx_al M) vd NN := ⟨_, rfl⟩
          rw [← ex8] at hl
          refine lv_iload_n hx hb dX5_disc_122 rfl (lv_at hl 2 rfl) ?_
          by_cases c9 : vw = 0
          · refine lv_tableIn (off := 33) (tgt := 156) hx hb dX5_disc_123 (by rw [c9]; decide) (by rw [c9]; decide) (by rw [c9]; rfl) (by decide) ?_
            refine lv_iload_n hx hb dX5_disc_156 rfl (lv_at hl 3 rfl) ?_
            subst ex8
            subst ex7
            subst ex6
            subst ex5
            subst ex4
            subst hNN
            exact jk_iret hx hb hr hlocks hP hS ((if_neg c2).trans ((if_pos c9).trans (rfl))).symm rfl dX5_disc_157
          · by_cases c10 : vw = 1
            · refine lv_tableIn (off := 35) (tgt := 158) hx hb dX5_disc_123 (by rw [c10]; decide) (by rw [c10]; decide) (by rw [c10]; rfl) (by decide) ?_
              refine lv_iload hx hb dX5_disc_158 (lv_at hl 4 rfl) ?_
              subst ex8
              subst ex7
              subst ex6
              subst ex5
              subst ex4
              subst hNN
              exact jk_iret hx hb hr hlocks hP hS ((if_neg c2).trans ((if_neg c9).trans ((if_pos c10).trans (rfl)))).symm rfl dX5_disc_160
            · by_cases c11 : vw = 2
              · refine lv_tableIn (off := 38) (tgt := 161) hx hb dX5_disc_123 (by rw [c11]; decide) (by rw [c11]; decide) (by rw [c11]; rfl) (by decide) ?_
                refine lv_iload hx hb dX5_disc_161 (lv_at hl 5 rfl) ?_
                subst ex8
                subst ex7
                subst ex6
                subst ex5
                subst ex4
                subst hNN
                exact jk_iret hx hb hr hlocks hP hS ((if_neg c2).trans ((if_neg c9).trans ((if_neg c10).trans ((if_pos c11).trans (rfl))))).symm rfl dX5_disc_163
              · by_cases c12 : vw = 3
                · refine lv_tableIn (off := 41) (tgt := 164) hx hb dX5_disc_123 (by rw [c12]; decide) (by rw [c12]; decide) (by rw [c12]; rfl) (by decide) ?_
                  refine lv_iload hx hb dX5_disc_164 (lv_at hl 6 rfl) ?_
                  subst ex8
                  subst ex7
                  subst ex6
                  subst ex5
                  subst ex4
                  subst hNN
                  exact jk_iret hx hb hr hlocks hP hS ((if_neg c2).trans ((if_neg c9).trans ((if_neg c10).trans ((if_neg c11).trans ((if_pos c12).trans (rfl)))))).symm rfl dX5_disc_166
                · by_cases c13 : vw = 4
                  · refine lv_tableIn (off := 44) (tgt := 167) hx hb dX5_disc_123 (by rw [c13]; decide) (by rw [c13]; decide) (by rw [c13]; rfl) (by decide) ?_
                    refine lv_iload hx hb dX5_disc_167 (lv_at hl 7 rfl) ?_
                    subst ex8
                    subst ex7
                    subst ex6
                    subst ex5
                    subst ex4
                    subst hNN
                    exact jk_iret hx hb hr hlocks hP hS ((if_neg c2).trans ((if_neg c9).trans ((if_neg c10).trans ((if_neg c11).trans ((if_neg c12).trans ((if_pos c13).trans (rfl))))))).symm rfl dX5_disc_169
                  · refine lv_tableOut (tgt := 170) hx hb dX5_disc_123 (by have q0 := lv_neT (a := 0) c9 (by decide); have q1 := lv_neT (a := 1) c10 (by decide); have q2 := lv_neT (a := 2) c11 (by decide); have q3 := lv_neT (a := 3) c12 (by decide); have q4 := lv_neT (a := 4) c13 (by decide); omega) (by decide) ?_
                    refine lv_ldc hx hb hown hk_91 dX5_disc_170 ?_
                    subst ex8
                    subst ex7
                    subst ex6
                    subst ex5
                    subst ex4
                    subst hNN
                    exact jk_iret hx hb hr hlocks hP hS ((if_neg c2).trans ((if_neg c9).trans ((if_neg c10).trans ((if_neg c11).trans ((if_neg c12).trans ((if_neg c13).trans (rfl))))))).symm rfl dX5_disc_172
        · have hlt : k < NN := jk_ltN hNN (by decide) hk c3
          refine lv_aload_n hx hb dX5_disc_36 rfl (lv_at hl 0 rfl) ?_
          refine va_get (D := D) (ci := 5) (v := .ref (a 1)) (C := RX5) (T := TX5) (N := 13) hx hb hts hi_5 hown hK hP 0 rfl rfl 0 (by decide) hf_7 (fun _ h9 => h9) rfl dX5_disc_37 ?_
          refine lv_iload_n hx hb dX5_disc_40 rfl (lv_at hl 1 rfl) ?_
          refine lv_iload hx hb dX5_disc_41 (lv_at hl 8 rfl) ?_
          refine jk_callS (As := [.int vd, .int (nI k)]) (rest := [.ref (a 1)]) (ws1 := (jx_W g a M)) ⟨hx, hb, hml, hown, hts⟩ (c_X5_cell l D g vd (nI k)) (va_cwS 2 hts gX5_disc_X5_cell rfl rfl rfl (by decide +kernel) ⟨Nat.le_of_ble_eq_true rfl, Nat.le_of_ble_eq_true rfl⟩) jk_nilP (jk_nilD (A := A)) hK hN rfl hl rfl (Nat.le_of_ble_eq_true rfl) dX5_disc_43 ⟨Nat.zero_le _, Nat.zero_le _⟩ hS hA (fun _ _ hk => jk_keep hP hk) (fun H locs hP hS => ?_)
          refine W.eq (g2 := F0 m 46 ls [.int (rX5_cell vd (nI k)), .ref (a 1)]) rfl ?_
          refine lv_topi (fun x14 ex14 => ?_)
          refine va_iald (f := (jx_al M)) hx hb hK hP 1 0 rfl rfl (by subst_vars; exact jx_cell_in (jx_disc01 c2) hlt) dX5_disc_46 ?_
          refine lv_istore (lv' := [(9, .int ((jx_al M) x14.toNatClampNeg)), (0, .ref (a 0)), (1, .int vd), (2, .int vw), (3, .int (lx_ds (jx_al M) vd k)), (4, .int (lx_da (jx_al M) vd k)), (5, .int (lx_db (jx_al M) vd k)), (6, .int (lx_dg (jx_al M) vd k)), (7, .int (lx_dl (jx_al M) vd k)), (8, .int (nI k))]) hx hb dX5_disc_47 hl (by decide) rfl (fun ls hl => ?_)
          refine lv_iload_n hx hb dX5_disc_49 rfl (lv_at hl 4 rfl) ?_
          refine lv_iload hx hb dX5_disc_50 (lv_at hl 0 rfl) ?_
          refine lv_iadd hx hb dX5_disc_52 ?_
          refine lv_topi (fun x15 ex15 => ?_)
          refine lv_istore_n (lv' := [(3, .int x15), (9, .int ((jx_al M) x14.toNatClampNeg)), (0, .ref (a 0)), (1, .int vd), (2, .int vw), (4, .int (lx_da (jx_al M) vd k)), (5, .int (lx_db (jx_al M) vd k)), (6, .int (lx_dg (jx_al M) vd k)), (7, .int (lx_dl (jx_al M) vd k)), (8, .int (nI k))]) hx hb dX5_disc_53 rfl hl (by decide) rfl (fun ls hl => ?_)
          refine lv_iload hx hb dX5_disc_54 (lv_at hl 5 rfl) ?_
          refine lv_iload hx hb dX5_disc_56 (lv_at hl 1 rfl) ?_
          have J16 : ∀ (x18 : Int32) (H : Heap) (locs : List Loc), x18 = (if ((jx_al M) x14.toNatClampNeg) ≤ 0 then 0 else 1) → va_P D vwCl (jx_W g a M) H → va_S A s.heap H locs → W p l e ({ frames := 1, cells := 0, slots := 0, locals := 21 }) s m args below meth c H locs 0 0 (MQ below (jk_Q (some (.int (rX5_disc M vd vw))) D (jx_W g a M) A) args s 0 0 A) (F0 m 66 ls [.int x18, .int (lx_da (jx_al M) vd k)]) := by
            intro x18 H locs ex18 hP hS
            refine lv_iadd hx hb dX5_disc_66 ?_
            refine lv_topi (fun x19 ex19 => ?_)
            refine lv_istore (lv' := [(4, .int x19), (3, .int x15), (9, .int ((jx_al M) x14.toNatClampNeg)), (0, .ref (a 0)), (1, .int vd), (2, .int vw), (5, .int (lx_db (jx_al M) vd k)), (6, .int (lx_dg (jx_al M) vd k)), (7, .int (lx_dl (jx_al M) vd k)), (8, .int (nI k))]) hx hb dX5_disc_67 hl (by decide) rfl (fun ls hl => ?_)
            refine lv_iload hx hb dX5_disc_69 (lv_at hl 6 rfl) ?_
            refine lv_iload hx hb dX5_disc_71 (lv_at hl 2 rfl) ?_
            have J20 : ∀ (x22 : Int32) (H : Heap) (locs : List Loc), x22 = (if 0 ≤ ((jx_al M) x14.toNatClampNeg) then 0 else 1) → va_P D vwCl (jx_W g a M) H → va_S A s.heap H locs → W p l e ({ frames := 1, cells := 0, slots := 0, locals := 21 }) s m args below meth c H locs 0 0 (MQ below (jk_Q (some (.int (rX5_disc M vd vw))) D (jx_W g a M) A) args s 0 0 A) (F0 m 81 ls [.int x22, .int (lx_db (jx_al M) vd k)]) := by
              intro x22 H locs ex22 hP hS
              refine lv_iadd hx hb dX5_disc_81 ?_
              refine lv_topi (fun x23 ex23 => ?_)
              refine lv_istore (lv' := [(5, .int x23), (4, .int x19), (3, .int x15), (9, .int ((jx_al M) x14.toNatClampNeg)), (0, .ref (a 0)), (1, .int vd), (2, .int vw), (6, .int (lx_dg (jx_al M) vd k)), (7, .int (lx_dl (jx_al M) vd k)), (8, .int (nI k))]) hx hb dX5_disc_82 hl (by decide) rfl (fun ls hl => ?_)
              refine lv_iload hx hb dX5_disc_84 (lv_at hl 3 rfl) ?_
              refine lv_iload hx hb dX5_disc_86 (lv_at hl 7 rfl) ?_
              have J24 : ∀ (x26 : Int32) (H : Heap) (locs : List Loc), x26 = (if ((jx_al M) x14.toNatClampNeg) ≤ (lx_dg (jx_al M) vd k) then (lx_dg (jx_al M) vd k) else ((jx_al M) x14.toNatClampNeg)) → va_P D vwCl (jx_W g a M) H → va_S A s.heap H locs → W p l e ({ frames := 1, cells := 0, slots := 0, locals := 21 }) s m args below meth c H locs 0 0 (MQ below (jk_Q (some (.int (rX5_disc M vd vw))) D (jx_W g a M) A) args s 0 0 A) (F0 m 98 ls [.int x26]) := by
                intro x26 H locs ex26 hP hS
                refine lv_istore (lv' := [(6, .int x26), (5, .int x23), (4, .int x19), (3, .int x15), (9, .int ((jx_al M) x14.toNatClampNeg)), (0, .ref (a 0)), (1, .int vd), (2, .int vw), (7, .int (lx_dl (jx_al M) vd k)), (8, .int (nI k))]) hx hb dX5_disc_98 hl (by decide) rfl (fun ls hl => ?_)
                refine lv_iload hx hb dX5_disc_100 (lv_at hl 4 rfl) ?_
                refine lv_iload hx hb dX5_disc_102 (lv_at hl 8 rfl) ?_
                have J27 : ∀ (x29 : Int32) (H : Heap) (locs : List Loc), x29 = (if (lx_dl (jx_al M) vd k) ≤ ((jx_al M) x14.toNatClampNeg) then (lx_dl (jx_al M) vd k) else ((jx_al M) x14.toNatClampNeg)) → va_P D vwCl (jx_W g a M) H → va_S A s.heap H locs → W p l e ({ frames := 1, cells := 0, slots := 0, locals := 21 }) s m args below meth c H locs 0 0 (MQ below (jk_Q (some (.int (rX5_disc M vd vw))) D (jx_W g a M) A) args s 0 0 A) (F0 m 114 ls [.int x29]) := by
                  intro x29 H locs ex29 hP hS
                  refine lv_istore (lv' := [(7, .int x29), (6, .int x26), (5, .int x23), (4, .int x19), (3, .int x15), (9, .int ((jx_al M) x14.toNatClampNeg)), (0, .ref (a 0)), (1, .int vd), (2, .int vw), (8, .int (nI k))]) hx hb dX5_disc_114 hl (by decide) rfl (fun ls hl => ?_)
                  refine lv_iinc (v := nI (k + 1)) (lv' := [(8, .int (nI (k + 1))), (7, .int x29), (6, .int x26), (5, .int x23), (4, .int x19), (3, .int x15), (9, .int ((jx_al M) x14.toNatClampNeg)), (0, .ref (a 0)), (1, .int vd), (2, .int vw)]) hx hb dX5_disc_116 hl (k := 9) rfl (nI_1 _) (by decide) rfl (fun ls hl => ?_)
                  refine lv_goto (tgt := 29) hx hb dX5_disc_119 (by decide) ?_
                  subst ex29
                  subst ex26
                  subst ex23
                  subst ex22
                  subst ex19
                  subst ex18
                  subst ex15
                  subst ex14
                  exact ih (k + 1)  (by omega) (by omega)  H locs hP hS ls (lv_sub hl [7, 8, 9, 5, 4, 3, 2, 1, 0] rfl)
                refine lv_icmp_ge (tgt := 112) hx hb dX5_disc_104 (by decide) (fun c28 => ?_) (fun c28 => ?_)
                · refine lv_iload hx hb dX5_disc_112 (lv_at hl 8 rfl) ?_
                  exact J27 _ H locs ((if_pos c28).trans (rfl)).symm hP hS
                · refine lv_iload hx hb dX5_disc_107 (lv_at hl 4 rfl) ?_
                  refine lv_goto (tgt := 114) hx hb dX5_disc_109 (by decide) ?_
                  exact J27 _ H locs ((if_neg c28).trans (rfl)).symm hP hS
              refine lv_icmp_le (tgt := 96) hx hb dX5_disc_88 (by decide) (fun c25 => ?_) (fun c25 => ?_)
              · refine lv_iload hx hb dX5_disc_96 (lv_at hl 7 rfl) ?_
                exact J24 _ H locs ((if_pos c25).trans (rfl)).symm hP hS
              · refine lv_iload hx hb dX5_disc_91 (lv_at hl 3 rfl) ?_
                refine lv_goto (tgt := 98) hx hb dX5_disc_93 (by decide) ?_
                exact J24 _ H locs ((if_neg c25).trans (rfl)).symm hP hS
            refine lv_if_ge (tgt := 80) hx hb dX5_disc_73 (by decide) (fun c21 => ?_) (fun c21 => ?_)
            · refine lv_iconst (v := 0) hx hb dX5_disc_80 (by decide) ?_
              exact J20 _ H locs ((if_pos c21).trans (rfl)).symm hP hS
            · refine lv_iconst (v := 1) hx hb dX5_disc_76 (by decide) ?_
              refine lv_goto (tgt := 81) hx hb dX5_disc_77 (by decide) ?_
              exact J20 _ H locs ((if_neg c21).trans (rfl)).symm hP hS
          refine lv_if_le (tgt := 65) hx hb dX5_disc_58 (by decide) (fun c17 => ?_) (fun c17 => ?_)
          · refine lv_iconst (v := 0) hx hb dX5_disc_65 (by decide) ?_
            exact J16 _ H locs ((if_pos c17).trans (rfl)).symm hP hS
          · refine lv_iconst (v := 1) hx hb dX5_disc_61 (by decide) ?_
            refine lv_goto (tgt := 66) hx hb dX5_disc_62 (by decide) ?_
            exact J16 _ H locs ((if_neg c17).trans (rfl)).symm hP hS
    exact hlp (NN + 1) 0  (Nat.zero_le _) (by omega)  H locs hP hS ls (lv_sub hl [6, 7, 8, 5, 4, 3, 2, 1, 0] rfl)
  · refine lv_ldc hx hb hown hk_105 dX5_disc_7 ?_
    subst ex1
    subst hNN
    exact jk_iret hx hb hr hlocks hP hS ((if_pos c2).trans (rfl)).symm rfl dX5_disc_9

def rX5_jar (M : jx_T) (vj : Int32) (vw : Int32) : Int32 := let x1 : Int32 := rX5_isDisc vj; if x1 = 0 then ((-1000001)) else (let x3 : Int32 := rX5_in ((vw : Int32).toInt64) (0 : Int64) (2 : Int64); if x3 = 0 then ((-1000002)) else (let x5 : Int32 := (jx_al M) ((37 + (2 * vw)) + vj).toNatClampNeg; x5))
set_option maxHeartbeats 1000000 in
set_option maxRecDepth 100000 in
theorem c_X5_jar (l : Launch) (D : va_G) (g : jk_G) (a : Nat → Nat) (M : jx_T) (vj : Int32) (vw : Int32)  : jk_M l D g yX5_jar wsX5_jar 1 25 [.ref (a 0), .int vj, .int vw] (jx_W g a M) (some (.int (rX5_jar M vj vw))) (jx_W g a M) := by
  refine jk_of (cc := cX5_jar) (maxL := 3) (ret := (some .int)) (by decide +kernel) rfl (Nat.le_of_ble_eq_true rfl) ?_
  intro p e s m args below meth c hx hb hr hml hts hown hlocks hK hN A H locs hP hD hA hS ls hl
  have hown : s.vm.findClass RX5 = some m.cls := hown
  have hl : lv_has ls 3 [(0, .ref (a 0)), (1, .int vj), (2, .int vw)] := hl
  have hk_122 := hts (.constantLong RX5 122 2) (by decide +kernel)
  have hk_91 := hts (.constant RX5 91 (-1000002)) (by decide +kernel)
  have hf_7 := hts (.fieldLink RX5 7 "InfluenceJarsModel" "all" "[I") (by decide +kernel)
  have hi_5 : ∀ w ∈ u_ws RX5 TX5 13, w ∈ wsX5_jar := by decide +kernel
  have hk_105 := hts (.constant RX5 105 (-1000001)) (by decide +kernel)
  refine lv_iload_n hx hb dX5_jar_0 rfl (lv_at hl 1 rfl) ?_
  refine jk_callS (As := [.int vj]) (rest := []) (ws1 := (jx_W g a M)) ⟨hx, hb, hml, hown, hts⟩ (c_X5_isDisc l D g vj) (va_cwS 1 hts gX5_jar_X5_isDisc rfl rfl rfl (by decide +kernel) ⟨Nat.le_of_ble_eq_true rfl, Nat.le_of_ble_eq_true rfl⟩) jk_nilP (jk_nilD (A := A)) hK hN rfl hl rfl (Nat.le_of_ble_eq_true rfl) dX5_jar_1 ⟨Nat.zero_le _, Nat.zero_le _⟩ hS hA (fun _ _ hk => jk_keep hP hk) (fun H locs hP hS => ?_)
  refine W.eq (g2 := F0 m 4 ls [.int (rX5_isDisc vj)]) rfl ?_
  refine lv_topi (fun x1 ex1 => ?_)
  refine lv_if_ne (tgt := 12) hx hb dX5_jar_4 (by decide) (fun c2 => ?_) (fun c2 => ?_)
  · refine lv_iload_n hx hb dX5_jar_12 rfl (lv_at hl 2 rfl) ?_
    refine lv_i2l hx hb dX5_jar_13 rfl ?_
    refine lv_lconst (v := 0) hx hb dX5_jar_14 (by decide) ?_
    refine lv_ldc2 hx hb hown hk_122 dX5_jar_15 ?_
    refine jk_callS (As := [.long ((vw : Int32).toInt64), .long 0, .long 2]) (rest := []) (ws1 := (jx_W g a M)) ⟨hx, hb, hml, hown, hts⟩ (c_X5_in l D g ((vw : Int32).toInt64) (0 : Int64) (2 : Int64)) (va_cwS 3 hts gX5_jar_X5_in rfl rfl rfl (by decide +kernel) ⟨Nat.le_of_ble_eq_true rfl, Nat.le_of_ble_eq_true rfl⟩) jk_nilP (jk_nilD (A := A)) hK hN rfl hl rfl (Nat.le_of_ble_eq_true rfl) dX5_jar_18 ⟨Nat.zero_le _, Nat.zero_le _⟩ hS hA (fun _ _ hk => jk_keep hP hk) (fun H locs hP hS => ?_)
    refine W.eq (g2 := F0 m 21 ls [.int (rX5_in ((vw : Int32).toInt64) (0 : Int64) (2 : Int64))]) rfl ?_
    refine lv_topi (fun x3 ex3 => ?_)
    refine lv_if_eq (tgt := 40) hx hb dX5_jar_21 (by decide) (fun c4 => ?_) (fun c4 => ?_)
    · refine lv_ldc hx hb hown hk_91 dX5_jar_40 ?_
      subst ex3
      subst ex1
      exact jk_iret hx hb hr hlocks hP hS ((if_neg c2).trans ((if_pos c4).trans (rfl))).symm rfl dX5_jar_42
    · refine lv_aload_n hx hb dX5_jar_24 rfl (lv_at hl 0 rfl) ?_
      refine va_get (D := D) (ci := 5) (v := .ref (a 1)) (C := RX5) (T := TX5) (N := 13) hx hb hts hi_5 hown hK hP 0 rfl rfl 0 (by decide) hf_7 (fun _ h9 => h9) rfl dX5_jar_25 ?_
      refine lv_bipush (v := 37) hx hb dX5_jar_28 (by decide) ?_
      refine lv_iconst (v := 2) hx hb dX5_jar_30 (by decide) ?_
      refine lv_iload_n hx hb dX5_jar_31 rfl (lv_at hl 2 rfl) ?_
      refine lv_imul hx hb dX5_jar_32 ?_
      refine lv_iadd hx hb dX5_jar_33 ?_
      refine lv_iload_n hx hb dX5_jar_34 rfl (lv_at hl 1 rfl) ?_
      refine lv_iadd hx hb dX5_jar_35 ?_
      refine va_iald (f := (jx_al M)) hx hb hK hP 1 0 rfl rfl (by subst_vars; exact jx_jar_in c2 c4) dX5_jar_36 ?_
      refine lv_topi (fun x5 ex5 => ?_)
      refine lv_goto (tgt := 42) hx hb dX5_jar_37 (by decide) ?_
      subst ex5
      subst ex3
      subst ex1
      exact jk_iret hx hb hr hlocks hP hS ((if_neg c2).trans ((if_neg c4).trans (rfl))).symm rfl dX5_jar_42
  · refine lv_ldc hx hb hown hk_105 dX5_jar_7 ?_
    refine lv_goto (tgt := 42) hx hb dX5_jar_9 (by decide) ?_
    subst ex1
    exact jk_iret hx hb hr hlocks hP hS ((if_pos c2).trans (rfl)).symm rfl dX5_jar_42

def rX5_spark (M : jx_T) (vg : Int32) (vw : Int32) : Int32 := if vg < 0 then ((-1000002)) else (let x2 : Int32 := rX5_in ((vw : Int32).toInt64) (0 : Int64) (2 : Int64); if x2 = 0 then ((-1000002)) else (if ((jx_al M) 12) ≤ vg then ((-1000006)) else (let x5 : Int32 := 3 * ((((jx_al M) 12) - 1) - vg); let x6 : Int32 := (jx_al M) ((43 + x5) + vw).toNatClampNeg; x6)))
set_option maxHeartbeats 1000000 in
set_option maxRecDepth 100000 in
theorem c_X5_spark (l : Launch) (D : va_G) (g : jk_G) (a : Nat → Nat) (M : jx_T) (vg : Int32) (vw : Int32) (hk0 : jx_ok (jx_al M)) : jk_M l D g yX5_spark wsX5_spark 1 25 [.ref (a 0), .int vg, .int vw] (jx_W g a M) (some (.int (rX5_spark M vg vw))) (jx_W g a M) := by
  refine jk_of (cc := cX5_spark) (maxL := 3) (ret := (some .int)) (by decide +kernel) rfl (Nat.le_of_ble_eq_true rfl) ?_
  intro p e s m args below meth c hx hb hr hml hts hown hlocks hK hN A H locs hP hD hA hS ls hl
  have hown : s.vm.findClass RX5 = some m.cls := hown
  have hl : lv_has ls 3 [(0, .ref (a 0)), (1, .int vg), (2, .int vw)] := hl
  have hk_91 := hts (.constant RX5 91 (-1000002)) (by decide +kernel)
  have hk_122 := hts (.constantLong RX5 122 2) (by decide +kernel)
  have hf_7 := hts (.fieldLink RX5 7 "InfluenceJarsModel" "all" "[I") (by decide +kernel)
  have hi_5 : ∀ w ∈ u_ws RX5 TX5 13, w ∈ wsX5_spark := by decide +kernel
  have hk_124 := hts (.constant RX5 124 (-1000006)) (by decide +kernel)
  refine lv_iload_n hx hb dX5_spark_0 rfl (lv_at hl 1 rfl) ?_
  refine lv_if_lt (tgt := 16) hx hb dX5_spark_1 (by decide) (fun c1 => ?_) (fun c1 => ?_)
  · refine lv_ldc hx hb hown hk_91 dX5_spark_16 ?_
    exact jk_iret hx hb hr hlocks hP hS ((if_pos c1).trans (rfl)).symm rfl dX5_spark_18
  · refine lv_iload_n hx hb dX5_spark_4 rfl (lv_at hl 2 rfl) ?_
    refine lv_i2l hx hb dX5_spark_5 rfl ?_
    refine lv_lconst (v := 0) hx hb dX5_spark_6 (by decide) ?_
    refine lv_ldc2 hx hb hown hk_122 dX5_spark_7 ?_
    refine jk_callS (As := [.long ((vw : Int32).toInt64), .long 0, .long 2]) (rest := []) (ws1 := (jx_W g a M)) ⟨hx, hb, hml, hown, hts⟩ (c_X5_in l D g ((vw : Int32).toInt64) (0 : Int64) (2 : Int64)) (va_cwS 3 hts gX5_spark_X5_in rfl rfl rfl (by decide +kernel) ⟨Nat.le_of_ble_eq_true rfl, Nat.le_of_ble_eq_true rfl⟩) jk_nilP (jk_nilD (A := A)) hK hN rfl hl rfl (Nat.le_of_ble_eq_true rfl) dX5_spark_10 ⟨Nat.zero_le _, Nat.zero_le _⟩ hS hA (fun _ _ hk => jk_keep hP hk) (fun H locs hP hS => ?_)
    refine W.eq (g2 := F0 m 13 ls [.int (rX5_in ((vw : Int32).toInt64) (0 : Int64) (2 : Int64))]) rfl ?_
    refine lv_topi (fun x2 ex2 => ?_)
    refine lv_if_ne (tgt := 19) hx hb dX5_spark_13 (by decide) (fun c3 => ?_) (fun c3 => ?_)
    · refine lv_iload_n hx hb dX5_spark_19 rfl (lv_at hl 1 rfl) ?_
      refine lv_aload_n hx hb dX5_spark_20 rfl (lv_at hl 0 rfl) ?_
      refine va_get (D := D) (ci := 5) (v := .ref (a 1)) (C := RX5) (T := TX5) (N := 13) hx hb hts hi_5 hown hK hP 0 rfl rfl 0 (by decide) hf_7 (fun _ h9 => h9) rfl dX5_spark_21 ?_
      refine lv_bipush (v := 12) hx hb dX5_spark_24 (by decide) ?_
      refine va_iald (f := (jx_al M)) hx hb hK hP 1 0 rfl rfl (jk_inC (by decide +kernel)) dX5_spark_26 ?_
      refine W.eq (g2 := F0 m 27 ls [.int ((jx_al M) 12), .int vg]) rfl ?_
      refine lv_icmp_ge (tgt := 56) hx hb dX5_spark_27 (by decide) (fun c4 => ?_) (fun c4 => ?_)
      · refine lv_ldc hx hb hown hk_124 dX5_spark_56 ?_
        subst ex2
        exact jk_iret hx hb hr hlocks hP hS ((if_neg c1).trans ((if_neg c3).trans ((if_pos c4).trans (rfl)))).symm rfl dX5_spark_58
      · refine lv_aload_n hx hb dX5_spark_30 rfl (lv_at hl 0 rfl) ?_
        refine va_get (D := D) (ci := 5) (v := .ref (a 1)) (C := RX5) (T := TX5) (N := 13) hx hb hts hi_5 hown hK hP 0 rfl rfl 0 (by decide) hf_7 (fun _ h9 => h9) rfl dX5_spark_31 ?_
        refine lv_bipush (v := 43) hx hb dX5_spark_34 (by decide) ?_
        refine lv_iconst (v := 3) hx hb dX5_spark_36 (by decide) ?_
        refine lv_aload_n hx hb dX5_spark_37 rfl (lv_at hl 0 rfl) ?_
        refine va_get (D := D) (ci := 5) (v := .ref (a 1)) (C := RX5) (T := TX5) (N := 13) hx hb hts hi_5 hown hK hP 0 rfl rfl 0 (by decide) hf_7 (fun _ h9 => h9) rfl dX5_spark_38 ?_
        refine lv_bipush (v := 12) hx hb dX5_spark_41 (by decide) ?_
        refine va_iald (f := (jx_al M)) hx hb hK hP 1 0 rfl rfl (jk_inC (by decide +kernel)) dX5_spark_43 ?_
        refine W.eq (g2 := F0 m 44 ls [.int ((jx_al M) 12), .int 3, .int 43, .ref (a 1)]) rfl ?_
        refine lv_iconst (v := 1) hx hb dX5_spark_44 (by decide) ?_
        refine lv_isub hx hb dX5_spark_45 ?_
        refine lv_iload_n hx hb dX5_spark_46 rfl (lv_at hl 1 rfl) ?_
        refine lv_isub hx hb dX5_spark_47 ?_
        refine lv_imul hx hb dX5_spark_48 ?_
        refine lv_topi (fun x5 ex5 => ?_)
        refine lv_iadd hx hb dX5_spark_49 ?_
        refine lv_iload_n hx hb dX5_spark_50 rfl (lv_at hl 2 rfl) ?_
        refine lv_iadd hx hb dX5_spark_51 ?_
        refine va_iald (f := (jx_al M)) hx hb hK hP 1 0 rfl rfl (by subst_vars; exact jx_spark_in hk0 c1 c3 c4) dX5_spark_52 ?_
        refine lv_topi (fun x6 ex6 => ?_)
        refine lv_goto (tgt := 58) hx hb dX5_spark_53 (by decide) ?_
        subst ex6
        subst ex5
        subst ex2
        exact jk_iret hx hb hr hlocks hP hS ((if_neg c1).trans ((if_neg c3).trans ((if_neg c4).trans (rfl)))).symm rfl dX5_spark_58
    · refine lv_ldc hx hb hown hk_91 dX5_spark_16 ?_
      subst ex2
      exact jk_iret hx hb hr hlocks hP hS ((if_neg c1).trans ((if_pos c3).trans (rfl))).symm rfl dX5_spark_18

def rX5_count (M : jx_T) (vw : Int32) : Int32 := if vw = 8 then (let x2 : Int32 := rX5_sign M; x2) else (if vw = 9 then (let x4 : Int32 := rX5_allCharge M; x4) else (if vw = 10 then (let x6 : Int32 := (jx_al M) ((9 + vw) - 10).toNatClampNeg; x6) else (if vw = 11 then (let x8 : Int32 := (jx_al M) ((9 + vw) - 10).toNatClampNeg; x8) else (if vw = 12 then (let x10 : Int32 := (jx_al M) ((9 + vw) - 10).toNatClampNeg; x10) else (if vw = 13 then ((jx_tl M)) else (if vw = 14 then ((jx_hl M)) else (let x13 : Int32 := rX5_in ((vw : Int32).toInt64) (0 : Int64) (7 : Int64); if x13 = 0 then ((-1000002)) else ((jx_al M) vw.toNatClampNeg))))))))
set_option maxHeartbeats 1000000 in
set_option maxRecDepth 100000 in
theorem c_X5_count (l : Launch) (D : va_G) (g : jk_G) (a : Nat → Nat) (M : jx_T) (vw : Int32)  : jk_M l D g yX5_count wsX5_count 1 25 [.ref (a 0), .int vw] (jx_W g a M) (some (.int (rX5_count M vw))) (jx_W g a M) := by
  refine jk_of (cc := cX5_count) (maxL := 2) (ret := (some .int)) (by decide +kernel) rfl (Nat.le_of_ble_eq_true rfl) ?_
  intro p e s m args below meth c hx hb hr hml hts hown hlocks hK hN A H locs hP hD hA hS ls hl
  have hown : s.vm.findClass RX5 = some m.cls := hown
  have hl : lv_has ls 2 [(0, .ref (a 0)), (1, .int vw)] := hl
  have hf_7 := hts (.fieldLink RX5 7 "InfluenceJarsModel" "all" "[I") (by decide +kernel)
  have hi_5 : ∀ w ∈ u_ws RX5 TX5 13, w ∈ wsX5_count := by decide +kernel
  have hf_128 := hts (.fieldLink RX5 128 "InfluenceJarsModel" "textLong" "I") (by decide +kernel)
  have hf_28 := hts (.fieldLink RX5 28 "InfluenceJarsModel" "historyLong" "I") (by decide +kernel)
  have hk_131 := hts (.constantLong RX5 131 7) (by decide +kernel)
  have hk_91 := hts (.constant RX5 91 (-1000002)) (by decide +kernel)
  refine lv_iload_n hx hb dX5_count_0 rfl (lv_at hl 1 rfl) ?_
  by_cases c1 : vw = 8
  · refine lv_tableIn (off := 43) (tgt := 44) hx hb dX5_count_1 (by rw [c1]; decide) (by rw [c1]; decide) (by rw [c1]; rfl) (by decide) ?_
    refine lv_aload_n hx hb dX5_count_44 rfl (lv_at hl 0 rfl) ?_
    refine jk_callV (As := []) (rest := []) (ws1 := (jx_W g a M)) ⟨hx, hb, hml, hown, hts⟩ (c_X5_sign l D g a M) (cwV 0 hts gX5_count_X5_sign rfl rfl rfl (by decide +kernel) ⟨Nat.le_of_ble_eq_true rfl, Nat.le_of_ble_eq_true rfl⟩) (va_recv hK hP (ci := 5) (q0 := 0) rfl rfl) hP hD hK hN rfl hl rfl (Nat.le_of_ble_eq_true rfl) dX5_count_45 ⟨Nat.zero_le _, Nat.zero_le _⟩ hS hA (fun _ h _ => h) (fun H locs hP hS => ?_)
    refine W.eq (g2 := F0 m 48 ls [.int (rX5_sign M)]) rfl ?_
    refine lv_topi (fun x2 ex2 => ?_)
    subst ex2
    exact jk_iret hx hb hr hlocks hP hS ((if_pos c1).trans (rfl)).symm rfl dX5_count_48
  · by_cases c3 : vw = 9
    · refine lv_tableIn (off := 48) (tgt := 49) hx hb dX5_count_1 (by rw [c3]; decide) (by rw [c3]; decide) (by rw [c3]; rfl) (by decide) ?_
      refine lv_aload_n hx hb dX5_count_49 rfl (lv_at hl 0 rfl) ?_
      refine jk_callV (As := []) (rest := []) (ws1 := (jx_W g a M)) ⟨hx, hb, hml, hown, hts⟩ (c_X5_allCharge l D g a M) (cwV 0 hts gX5_count_X5_allCharge rfl rfl rfl (by decide +kernel) ⟨Nat.le_of_ble_eq_true rfl, Nat.le_of_ble_eq_true rfl⟩) (va_recv hK hP (ci := 5) (q0 := 0) rfl rfl) hP hD hK hN rfl hl rfl (Nat.le_of_ble_eq_true rfl) dX5_count_50 ⟨Nat.zero_le _, Nat.zero_le _⟩ hS hA (fun _ h _ => h) (fun H locs hP hS => ?_)
      refine W.eq (g2 := F0 m 53 ls [.int (rX5_allCharge M)]) rfl ?_
      refine lv_topi (fun x4 ex4 => ?_)
      subst ex4
      exact jk_iret hx hb hr hlocks hP hS ((if_neg c1).trans ((if_pos c3).trans (rfl))).symm rfl dX5_count_53
    · by_cases c5 : vw = 10
      · refine lv_tableIn (off := 53) (tgt := 54) hx hb dX5_count_1 (by rw [c5]; decide) (by rw [c5]; decide) (by rw [c5]; rfl) (by decide) ?_
        refine lv_aload_n hx hb dX5_count_54 rfl (lv_at hl 0 rfl) ?_
        refine va_get (D := D) (ci := 5) (v := .ref (a 1)) (C := RX5) (T := TX5) (N := 13) hx hb hts hi_5 hown hK hP 0 rfl rfl 0 (by decide) hf_7 (fun _ h9 => h9) rfl dX5_count_55 ?_
        refine lv_bipush (v := 9) hx hb dX5_count_58 (by decide) ?_
        refine lv_iload_n hx hb dX5_count_60 rfl (lv_at hl 1 rfl) ?_
        refine lv_iadd hx hb dX5_count_61 ?_
        refine lv_bipush (v := 10) hx hb dX5_count_62 (by decide) ?_
        refine lv_isub hx hb dX5_count_64 ?_
        refine va_iald (f := (jx_al M)) hx hb hK hP 1 0 rfl rfl (by subst_vars; exact jk_inC (by decide +kernel)) dX5_count_65 ?_
        refine lv_topi (fun x6 ex6 => ?_)
        subst ex6
        exact jk_iret hx hb hr hlocks hP hS ((if_neg c1).trans ((if_neg c3).trans ((if_pos c5).trans (rfl)))).symm rfl dX5_count_66
      · by_cases c7 : vw = 11
        · refine lv_tableIn (off := 53) (tgt := 54) hx hb dX5_count_1 (by rw [c7]; decide) (by rw [c7]; decide) (by rw [c7]; rfl) (by decide) ?_
          refine lv_aload_n hx hb dX5_count_54 rfl (lv_at hl 0 rfl) ?_
          refine va_get (D := D) (ci := 5) (v := .ref (a 1)) (C := RX5) (T := TX5) (N := 13) hx hb hts hi_5 hown hK hP 0 rfl rfl 0 (by decide) hf_7 (fun _ h9 => h9) rfl dX5_count_55 ?_
          refine lv_bipush (v := 9) hx hb dX5_count_58 (by decide) ?_
          refine lv_iload_n hx hb dX5_count_60 rfl (lv_at hl 1 rfl) ?_
          refine lv_iadd hx hb dX5_count_61 ?_
          refine lv_bipush (v := 10) hx hb dX5_count_62 (by decide) ?_
          refine lv_isub hx hb dX5_count_64 ?_
          refine va_iald (f := (jx_al M)) hx hb hK hP 1 0 rfl rfl (by subst_vars; exact jk_inC (by decide +kernel)) dX5_count_65 ?_
          refine lv_topi (fun x8 ex8 => ?_)
          subst ex8
          exact jk_iret hx hb hr hlocks hP hS ((if_neg c1).trans ((if_neg c3).trans ((if_neg c5).trans ((if_pos c7).trans (rfl))))).symm rfl dX5_count_66
        · by_cases c9 : vw = 12
          · refine lv_tableIn (off := 53) (tgt := 54) hx hb dX5_count_1 (by rw [c9]; decide) (by rw [c9]; decide) (by rw [c9]; rfl) (by decide) ?_
            refine lv_aload_n hx hb dX5_count_54 rfl (lv_at hl 0 rfl) ?_
            refine va_get (D := D) (ci := 5) (v := .ref (a 1)) (C := RX5) (T := TX5) (N := 13) hx hb hts hi_5 hown hK hP 0 rfl rfl 0 (by decide) hf_7 (fun _ h9 => h9) rfl dX5_count_55 ?_
            refine lv_bipush (v := 9) hx hb dX5_count_58 (by decide) ?_
            refine lv_iload_n hx hb dX5_count_60 rfl (lv_at hl 1 rfl) ?_
            refine lv_iadd hx hb dX5_count_61 ?_
            refine lv_bipush (v := 10) hx hb dX5_count_62 (by decide) ?_
            refine lv_isub hx hb dX5_count_64 ?_
            refine va_iald (f := (jx_al M)) hx hb hK hP 1 0 rfl rfl (by subst_vars; exact jk_inC (by decide +kernel)) dX5_count_65 ?_
            refine lv_topi (fun x10 ex10 => ?_)
            subst ex10
            exact jk_iret hx hb hr hlocks hP hS ((if_neg c1).trans ((if_neg c3).trans ((if_neg c5).trans ((if_neg c7).trans ((if_pos c9).trans (rfl)))))).symm rfl dX5_count_66
          · by_cases c11 : vw = 13
            · refine lv_tableIn (off := 66) (tgt := 67) hx hb dX5_count_1 (by rw [c11]; decide) (by rw [c11]; decide) (by rw [c11]; rfl) (by decide) ?_
              refine lv_aload_n hx hb dX5_count_67 rfl (lv_at hl 0 rfl) ?_
              refine va_get (D := D) (ci := 5) (v := .int (jx_tl M)) (C := RX5) (T := TX5) (N := 13) hx hb hts hi_5 hown hK hP 0 rfl rfl 7 (by decide) hf_128 (fun _ h9 => h9) rfl dX5_count_68 ?_
              exact jk_iret hx hb hr hlocks hP hS ((if_neg c1).trans ((if_neg c3).trans ((if_neg c5).trans ((if_neg c7).trans ((if_neg c9).trans ((if_pos c11).trans (rfl))))))).symm rfl dX5_count_71
            · by_cases c12 : vw = 14
              · refine lv_tableIn (off := 71) (tgt := 72) hx hb dX5_count_1 (by rw [c12]; decide) (by rw [c12]; decide) (by rw [c12]; rfl) (by decide) ?_
                refine lv_aload_n hx hb dX5_count_72 rfl (lv_at hl 0 rfl) ?_
                refine va_get (D := D) (ci := 5) (v := .int (jx_hl M)) (C := RX5) (T := TX5) (N := 13) hx hb hts hi_5 hown hK hP 0 rfl rfl 3 (by decide) hf_28 (fun _ h9 => h9) rfl dX5_count_73 ?_
                exact jk_iret hx hb hr hlocks hP hS ((if_neg c1).trans ((if_neg c3).trans ((if_neg c5).trans ((if_neg c7).trans ((if_neg c9).trans ((if_neg c11).trans ((if_pos c12).trans (rfl)))))))).symm rfl dX5_count_76
              · refine lv_tableOut (tgt := 77) hx hb dX5_count_1 (by have q0 := lv_neT (a := 8) c1 (by decide); have q1 := lv_neT (a := 9) c3 (by decide); have q2 := lv_neT (a := 10) c5 (by decide); have q3 := lv_neT (a := 11) c7 (by decide); have q4 := lv_neT (a := 12) c9 (by decide); have q5 := lv_neT (a := 13) c11 (by decide); have q6 := lv_neT (a := 14) c12 (by decide); omega) (by decide) ?_
                refine lv_iload_n hx hb dX5_count_77 rfl (lv_at hl 1 rfl) ?_
                refine lv_i2l hx hb dX5_count_78 rfl ?_
                refine lv_lconst (v := 0) hx hb dX5_count_79 (by decide) ?_
                refine lv_ldc2 hx hb hown hk_131 dX5_count_80 ?_
                refine jk_callS (As := [.long ((vw : Int32).toInt64), .long 0, .long 7]) (rest := []) (ws1 := (jx_W g a M)) ⟨hx, hb, hml, hown, hts⟩ (c_X5_in l D g ((vw : Int32).toInt64) (0 : Int64) (7 : Int64)) (va_cwS 3 hts gX5_count_X5_in rfl rfl rfl (by decide +kernel) ⟨Nat.le_of_ble_eq_true rfl, Nat.le_of_ble_eq_true rfl⟩) jk_nilP (jk_nilD (A := A)) hK hN rfl hl rfl (Nat.le_of_ble_eq_true rfl) dX5_count_83 ⟨Nat.zero_le _, Nat.zero_le _⟩ hS hA (fun _ _ hk => jk_keep hP hk) (fun H locs hP hS => ?_)
                refine W.eq (g2 := F0 m 86 ls [.int (rX5_in ((vw : Int32).toInt64) (0 : Int64) (7 : Int64))]) rfl ?_
                refine lv_topi (fun x13 ex13 => ?_)
                refine lv_if_eq (tgt := 98) hx hb dX5_count_86 (by decide) (fun c14 => ?_) (fun c14 => ?_)
                · refine lv_ldc hx hb hown hk_91 dX5_count_98 ?_
                  subst ex13
                  exact jk_iret hx hb hr hlocks hP hS ((if_neg c1).trans ((if_neg c3).trans ((if_neg c5).trans ((if_neg c7).trans ((if_neg c9).trans ((if_neg c11).trans ((if_neg c12).trans ((if_pos c14).trans (rfl))))))))).symm rfl dX5_count_100
                · refine lv_aload_n hx hb dX5_count_89 rfl (lv_at hl 0 rfl) ?_
                  refine va_get (D := D) (ci := 5) (v := .ref (a 1)) (C := RX5) (T := TX5) (N := 13) hx hb hts hi_5 hown hK hP 0 rfl rfl 0 (by decide) hf_7 (fun _ h9 => h9) rfl dX5_count_90 ?_
                  refine lv_iload_n hx hb dX5_count_93 rfl (lv_at hl 1 rfl) ?_
                  refine va_iald (f := (jx_al M)) hx hb hK hP 1 0 rfl rfl (by subst_vars; exact jx_in7 (by assumption)) dX5_count_94 ?_
                  refine lv_goto (tgt := 100) hx hb dX5_count_95 (by decide) ?_
                  subst ex13
                  exact jk_iret hx hb hr hlocks hP hS ((if_neg c1).trans ((if_neg c3).trans ((if_neg c5).trans ((if_neg c7).trans ((if_neg c9).trans ((if_neg c11).trans ((if_neg c12).trans ((if_neg c14).trans (rfl))))))))).symm rfl dX5_count_100

def rX5_undo (M : jx_T) : Int32 := if (jx_hl M) = 0 then ((-1000005)) else (((jx_hl M) - 1))
def sX5_undo (M : jx_T) (nh : Nat) : jx_T := if (jx_hl M) = 0 then (M) else ((jx_uhl (jx_ual M (lx_cpo (jx_hi M) (jx_al M) (67 * (nh - 1)) 0 67)) ((jx_hl M) - 1)))
set_option maxHeartbeats 1000000 in
set_option maxRecDepth 100000 in
theorem c_X5_undo (l : Launch) (D : va_G) (g : jk_G) (a : Nat → Nat) (M : jx_T) (nh : Nat) (hn6 : nh ≤ 6) (hn : jx_hl M = nI nh) : jk_M l D g yX5_undo wsX5_undo 0 0 [.ref (a 0)] (jx_W g a M) (some (.int (rX5_undo M))) (jx_W g a (sX5_undo M nh)) := by
  refine jk_of (cc := cX5_undo) (maxL := 2) (ret := (some .int)) (by decide +kernel) rfl (Nat.le_of_ble_eq_true rfl) ?_
  intro p e s m args below meth c hx hb hr hml hts hown hlocks hK hN A H locs hP hD hA hS ls hl
  have hown : s.vm.findClass RX5 = some m.cls := hown
  have hl : lv_has ls 2 [(0, .ref (a 0))] := hl
  have hf_28 := hts (.fieldLink RX5 28 "InfluenceJarsModel" "historyLong" "I") (by decide +kernel)
  have hi_5 : ∀ w ∈ u_ws RX5 TX5 13, w ∈ wsX5_undo := by decide +kernel
  have hf_7 := hts (.fieldLink RX5 7 "InfluenceJarsModel" "all" "[I") (by decide +kernel)
  have hf_16 := hts (.fieldLink RX5 16 "InfluenceJarsModel" "history" "[I") (by decide +kernel)
  have hk_92 := hts (.constant RX5 92 (-1000005)) (by decide +kernel)
  refine lv_aload_n hx hb dX5_undo_0 rfl (lv_at hl 0 rfl) ?_
  refine va_get (D := D) (ci := 5) (v := .int (jx_hl M)) (C := RX5) (T := TX5) (N := 13) hx hb hts hi_5 hown hK hP 0 rfl rfl 3 (by decide) hf_28 (fun _ h9 => h9) rfl dX5_undo_1 ?_
  refine lv_if_ne (tgt := 10) hx hb dX5_undo_4 (by decide) (fun c1 => ?_) (fun c1 => ?_)
  · refine lv_aload_n hx hb dX5_undo_10 rfl (lv_at hl 0 rfl) ?_
    refine lv_dup hx hb dX5_undo_11 rfl ?_
    refine va_get (D := D) (ci := 5) (v := .int (jx_hl M)) (C := RX5) (T := TX5) (N := 13) hx hb hts hi_5 hown hK hP 0 rfl rfl 3 (by decide) hf_28 (fun _ h9 => h9) rfl dX5_undo_12 ?_
    refine lv_iconst (v := 1) hx hb dX5_undo_15 (by decide) ?_
    refine lv_isub hx hb dX5_undo_16 ?_
    refine va_put (D := D) (ci := 5) (v := .int ((jx_hl M) - 1)) (ty := .int) (C := RX5) (T := TX5) (N := 13) hx hb hts hi_5 tyX5 tyX5_ok nmX5 hown hK hP hD hS 0 rfl rfl 3 (by decide) hf_28 (fun _ h9 => h9) rfl (by decide +kernel) rfl rfl (Nat.le_of_ble_eq_true rfl) dX5_undo_17 (fun H locs hP hD hS => ?_)
    have hP : va_P D vwCl (jx_W g a (jx_uhl M ((jx_hl M) - 1))) H := hP
    have hD : va_D A (jx_W g a (jx_uhl M ((jx_hl M) - 1))) := hD
    refine lv_iconst (v := 0) hx hb dX5_undo_20 (by decide) ?_
    refine lv_istore_n (lv' := [(1, .int 0), (0, .ref (a 0))]) hx hb dX5_undo_21 rfl hl (by decide) rfl (fun ls hl => ?_)
    have hlp : ∀ (n k : Nat), k ≤ 67 → 67 < k + n → ∀ (H : Heap) (locs : List Loc), va_P D vwCl (jx_W g a (jx_uhl (jx_ual M (lx_cpo (jx_hi M) (jx_al M) (67 * (nh - 1)) 0 k)) ((jx_hl M) - 1))) H → va_S A s.heap H locs → ∀ ls : Array Slot, lv_has ls 2 [(0, .ref (a 0)), (1, .int (nI k))] → W p l e ({ frames := 0, cells := 0, slots := 0, locals := 0 }) s m args below meth c H locs 0 0 (MQ below (jk_Q (some (.int (rX5_undo M))) D (jx_W g a (sX5_undo M nh)) A) args s 0 0 A) (F0 m 22 ls []) := by
      intro n
      induction n with
      | zero => intro k  hk1 hk2; exact absurd hk2 (by omega)
      | succ n ih =>
        intro k  hk hkn  H locs hP hS ls hl
        have hD : va_D A (jx_W g a (jx_uhl (jx_ual M (lx_cpo (jx_hi M) (jx_al M) (67 * (nh - 1)) 0 k)) ((jx_hl M) - 1))) := jk_D.same hD rfl
        refine lv_iload_n hx hb dX5_undo_22 rfl (lv_at hl 1 rfl) ?_
        refine lv_bipush (v := 67) hx hb dX5_undo_23 (by decide) ?_
        refine lv_icmp_ge (tgt := 54) hx hb dX5_undo_25 (by decide) (fun c2 => ?_) (fun c2 => ?_)
        · have hk9 : k = 67 := jk_ge (N := 67) (by decide) hk c2
          subst hk9
          refine lv_aload_n hx hb dX5_undo_54 rfl (lv_at hl 0 rfl) ?_
          refine va_get (D := D) (ci := 5) (v := .int ((jx_hl M) - 1)) (C := RX5) (T := TX5) (N := 13) hx hb hts hi_5 hown hK hP 0 rfl rfl 3 (by decide) hf_28 (fun _ h9 => h9) rfl dX5_undo_55 ?_
          exact jk_iret hx hb hr hlocks hP hS ((if_neg c1).trans (rfl)).symm (congrArg (fun z => (jx_W g a z)) (((if_neg c1).trans (rfl)).symm)) dX5_undo_58
        · have hlt : k < 67 := jk_lt (N := 67) (by decide) hk c2
          refine lv_aload_n hx hb dX5_undo_28 rfl (lv_at hl 0 rfl) ?_
          refine va_get (D := D) (ci := 5) (v := .ref (a 1)) (C := RX5) (T := TX5) (N := 13) hx hb hts hi_5 hown hK hP 0 rfl rfl 0 (by decide) hf_7 (fun _ h9 => h9) rfl dX5_undo_29 ?_
          refine lv_iload_n hx hb dX5_undo_32 rfl (lv_at hl 1 rfl) ?_
          refine lv_aload_n hx hb dX5_undo_33 rfl (lv_at hl 0 rfl) ?_
          refine va_get (D := D) (ci := 5) (v := .ref (a 3)) (C := RX5) (T := TX5) (N := 13) hx hb hts hi_5 hown hK hP 0 rfl rfl 2 (by decide) hf_16 (fun _ h9 => h9) rfl dX5_undo_34 ?_
          refine lv_bipush (v := 67) hx hb dX5_undo_37 (by decide) ?_
          refine lv_aload_n hx hb dX5_undo_39 rfl (lv_at hl 0 rfl) ?_
          refine va_get (D := D) (ci := 5) (v := .int ((jx_hl M) - 1)) (C := RX5) (T := TX5) (N := 13) hx hb hts hi_5 hown hK hP 0 rfl rfl 3 (by decide) hf_28 (fun _ h9 => h9) rfl dX5_undo_40 ?_
          refine lv_imul hx hb dX5_undo_43 ?_
          refine lv_iload_n hx hb dX5_undo_44 rfl (lv_at hl 1 rfl) ?_
          refine lv_iadd hx hb dX5_undo_45 ?_
          refine lv_topi (fun x3 ex3 => ?_)
          refine va_iald (f := (jx_hi M)) hx hb hK hP 3 0 rfl rfl (by subst_vars; exact lx_i67u hn hn6 c1 hlt) dX5_undo_46 ?_
          refine va_iast (f := (lx_cpo (jx_hi M) (jx_al M) (67 * (nh - 1)) 0 k)) hx hb hK hP hD hS 1 0 rfl rfl (vp_in_nI (by omega) (by decide)) dX5_undo_47 (fun H locs hP hD hS => ?_)
          obtain ⟨f4, ef4⟩ : ∃ z : Nat → Int32, z = (upd (lx_cpo (jx_hi M) (jx_al M) (67 * (nh - 1)) 0 k) (nI k).toNatClampNeg ((jx_hi M) x3.toNatClampNeg)) := ⟨_, rfl⟩
          rw [← ef4] at hP hD
          have hP : va_P D vwCl (jx_W g a (jx_uhl (jx_ual M f4) ((jx_hl M) - 1))) H := hP
          have hD : va_D A (jx_W g a (jx_uhl (jx_ual M f4) ((jx_hl M) - 1))) := hD
          refine lv_iinc (v := nI (k + 1)) (lv' := [(1, .int (nI (k + 1))), (0, .ref (a 0))]) hx hb dX5_undo_48 hl (k := 1) rfl (nI_1 _) (by decide) rfl (fun ls hl => ?_)
          refine lv_goto (tgt := 22) hx hb dX5_undo_51 (by decide) ?_
          subst ef4
          subst ex3
          rw [lx_s67u _ _ hn hn6 c1 hlt] at hP
          exact ih (k + 1)  (by omega) (by omega)  H locs hP hS ls (lv_sub hl [1, 0] rfl)
    exact hlp (67 + 1) 0  (Nat.zero_le _) (by omega)  H locs (by rw [lx_cpo_0]; exact hP) hS ls (lv_sub hl [1, 0] rfl)
  · refine lv_ldc hx hb hown hk_92 dX5_undo_7 ?_
    exact jk_iret hx hb hr hlocks hP hS ((if_pos c1).trans (rfl)).symm (congrArg (fun z => (jx_W g a z)) (((if_pos c1).trans (rfl)).symm)) dX5_undo_9

def rX5_save (M : jx_T) (vv : Int32) : Int32 := let x1 : Int32 := rX5_isDisc vv; if x1 = 0 then ((-1000002)) else (let f4 : (Nat → Int32) := upd (jx_sv M) vv.toNatClampNeg 1; (jx_al M) 5)
def sX5_save (M : jx_T) (vv : Int32) : jx_T := let x1 : Int32 := rX5_isDisc vv; if x1 = 0 then (M) else (let f4 : (Nat → Int32) := upd (jx_sv M) vv.toNatClampNeg 1; (jx_usv (jx_usl M (lx_cpo (jx_al M) (jx_sl M) 0 (67 * vv.toNatClampNeg) 67)) f4))
set_option maxHeartbeats 1000000 in
set_option maxRecDepth 100000 in
theorem c_X5_save (l : Launch) (D : va_G) (g : jk_G) (a : Nat → Nat) (M : jx_T) (vv : Int32)  : jk_M l D g yX5_save wsX5_save 1 20 [.ref (a 0), .int vv] (jx_W g a M) (some (.int (rX5_save M vv))) (jx_W g a (sX5_save M vv)) := by
  refine jk_of (cc := cX5_save) (maxL := 3) (ret := (some .int)) (by decide +kernel) rfl (Nat.le_of_ble_eq_true rfl) ?_
  intro p e s m args below meth c hx hb hr hml hts hown hlocks hK hN A H locs hP hD hA hS ls hl
  have hown : s.vm.findClass RX5 = some m.cls := hown
  have hl : lv_has ls 3 [(0, .ref (a 0)), (1, .int vv)] := hl
  have hf_22 := hts (.fieldLink RX5 22 "InfluenceJarsModel" "isSaved" "[I") (by decide +kernel)
  have hi_5 : ∀ w ∈ u_ws RX5 TX5 13, w ∈ wsX5_save := by decide +kernel
  have hf_7 := hts (.fieldLink RX5 7 "InfluenceJarsModel" "all" "[I") (by decide +kernel)
  have hf_19 := hts (.fieldLink RX5 19 "InfluenceJarsModel" "slots" "[I") (by decide +kernel)
  have hk_91 := hts (.constant RX5 91 (-1000002)) (by decide +kernel)
  refine lv_iload_n hx hb dX5_save_0 rfl (lv_at hl 1 rfl) ?_
  refine jk_callS (As := [.int vv]) (rest := []) (ws1 := (jx_W g a M)) ⟨hx, hb, hml, hown, hts⟩ (c_X5_isDisc l D g vv) (va_cwS 1 hts gX5_save_X5_isDisc rfl rfl rfl (by decide +kernel) ⟨Nat.le_of_ble_eq_true rfl, Nat.le_of_ble_eq_true rfl⟩) jk_nilP (jk_nilD (A := A)) hK hN rfl hl rfl (Nat.le_of_ble_eq_true rfl) dX5_save_1 ⟨Nat.zero_le _, Nat.zero_le _⟩ hS hA (fun _ _ hk => jk_keep hP hk) (fun H locs hP hS => ?_)
  refine W.eq (g2 := F0 m 4 ls [.int (rX5_isDisc vv)]) rfl ?_
  refine lv_topi (fun x1 ex1 => ?_)
  refine lv_if_ne (tgt := 10) hx hb dX5_save_4 (by decide) (fun c2 => ?_) (fun c2 => ?_)
  · refine lv_iconst (v := 0) hx hb dX5_save_10 (by decide) ?_
    refine lv_istore_n (lv' := [(2, .int 0), (0, .ref (a 0)), (1, .int vv)]) hx hb dX5_save_11 rfl hl (by decide) rfl (fun ls hl => ?_)
    subst ex1
    have hlp : ∀ (n k : Nat), k ≤ 67 → 67 < k + n → ∀ (H : Heap) (locs : List Loc), va_P D vwCl (jx_W g a (jx_usl M (lx_cpo (jx_al M) (jx_sl M) 0 (67 * vv.toNatClampNeg) k))) H → va_S A s.heap H locs → ∀ ls : Array Slot, lv_has ls 3 [(0, .ref (a 0)), (1, .int vv), (2, .int (nI k))] → W p l e ({ frames := 1, cells := 0, slots := 0, locals := 20 }) s m args below meth c H locs 0 0 (MQ below (jk_Q (some (.int (rX5_save M vv))) D (jx_W g a (sX5_save M vv)) A) args s 0 0 A) (F0 m 12 ls []) := by
      intro n
      induction n with
      | zero => intro k  hk1 hk2; exact absurd hk2 (by omega)
      | succ n ih =>
        intro k  hk hkn  H locs hP hS ls hl
        have hD : va_D A (jx_W g a (jx_usl M (lx_cpo (jx_al M) (jx_sl M) 0 (67 * vv.toNatClampNeg) k))) := jk_D.same hD rfl
        refine lv_iload_n hx hb dX5_save_12 rfl (lv_at hl 2 rfl) ?_
        refine lv_bipush (v := 67) hx hb dX5_save_13 (by decide) ?_
        refine lv_icmp_ge (tgt := 41) hx hb dX5_save_15 (by decide) (fun c3 => ?_) (fun c3 => ?_)
        · have hk9 : k = 67 := jk_ge (N := 67) (by decide) hk c3
          subst hk9
          refine lv_aload_n hx hb dX5_save_41 rfl (lv_at hl 0 rfl) ?_
          refine va_get (D := D) (ci := 5) (v := .ref (a 5)) (C := RX5) (T := TX5) (N := 13) hx hb hts hi_5 hown hK hP 0 rfl rfl 5 (by decide) hf_22 (fun _ h9 => h9) rfl dX5_save_42 ?_
          refine lv_iload_n hx hb dX5_save_45 rfl (lv_at hl 1 rfl) ?_
          refine lv_iconst (v := 1) hx hb dX5_save_46 (by decide) ?_
          refine va_iast (f := (jx_sv M)) hx hb hK hP hD hS 5 0 rfl rfl (by subst_vars; exact jx_v01 (jx_disc01 c2)) dX5_save_47 (fun H locs hP hD hS => ?_)
          obtain ⟨f4, ef4⟩ : ∃ z : Nat → Int32, z = (upd (jx_sv M) vv.toNatClampNeg 1) := ⟨_, rfl⟩
          rw [← ef4] at hP hD
          have hP : va_P D vwCl (jx_W g a (jx_usv (jx_usl M (lx_cpo (jx_al M) (jx_sl M) 0 (67 * vv.toNatClampNeg) 67)) f4)) H := hP
          have hD : va_D A (jx_W g a (jx_usv (jx_usl M (lx_cpo (jx_al M) (jx_sl M) 0 (67 * vv.toNatClampNeg) 67)) f4)) := hD
          refine lv_aload_n hx hb dX5_save_48 rfl (lv_at hl 0 rfl) ?_
          refine va_get (D := D) (ci := 5) (v := .ref (a 1)) (C := RX5) (T := TX5) (N := 13) hx hb hts hi_5 hown hK hP 0 rfl rfl 0 (by decide) hf_7 (fun _ h9 => h9) rfl dX5_save_49 ?_
          refine lv_iconst (v := 5) hx hb dX5_save_52 (by decide) ?_
          refine va_iald (f := (jx_al M)) hx hb hK hP 1 0 rfl rfl (jk_inC (by decide +kernel)) dX5_save_53 ?_
          refine W.eq (g2 := F0 m 54 ls [.int ((jx_al M) 5)]) rfl ?_
          subst ef4
          exact jk_iret hx hb hr hlocks hP hS ((if_neg c2).trans (rfl)).symm (congrArg (fun z => (jx_W g a z)) (((if_neg c2).trans (rfl)).symm)) dX5_save_54
        · have hlt : k < 67 := jk_lt (N := 67) (by decide) hk c3
          refine lv_aload_n hx hb dX5_save_18 rfl (lv_at hl 0 rfl) ?_
          refine va_get (D := D) (ci := 5) (v := .ref (a 4)) (C := RX5) (T := TX5) (N := 13) hx hb hts hi_5 hown hK hP 0 rfl rfl 4 (by decide) hf_19 (fun _ h9 => h9) rfl dX5_save_19 ?_
          refine lv_bipush (v := 67) hx hb dX5_save_22 (by decide) ?_
          refine lv_iload_n hx hb dX5_save_24 rfl (lv_at hl 1 rfl) ?_
          refine lv_imul hx hb dX5_save_25 ?_
          refine lv_iload_n hx hb dX5_save_26 rfl (lv_at hl 2 rfl) ?_
          refine lv_iadd hx hb dX5_save_27 ?_
          refine lv_aload_n hx hb dX5_save_28 rfl (lv_at hl 0 rfl) ?_
          refine va_get (D := D) (ci := 5) (v := .ref (a 1)) (C := RX5) (T := TX5) (N := 13) hx hb hts hi_5 hown hK hP 0 rfl rfl 0 (by decide) hf_7 (fun _ h9 => h9) rfl dX5_save_29 ?_
          refine lv_iload_n hx hb dX5_save_32 rfl (lv_at hl 2 rfl) ?_
          refine va_iald (f := (jx_al M)) hx hb hK hP 1 0 rfl rfl (vp_in_nI (by omega) (by decide)) dX5_save_33 ?_
          refine lv_topi (fun x5 ex5 => ?_)
          refine va_iast (f := (lx_cpo (jx_al M) (jx_sl M) 0 (67 * vv.toNatClampNeg) k)) hx hb hK hP hD hS 4 0 rfl rfl (by subst_vars; exact lx_i67s (jx_disc01 c2) hlt) dX5_save_34 (fun H locs hP hD hS => ?_)
          obtain ⟨f6, ef6⟩ : ∃ z : Nat → Int32, z = (upd (lx_cpo (jx_al M) (jx_sl M) 0 (67 * vv.toNatClampNeg) k) ((67 * vv) + (nI k)).toNatClampNeg x5) := ⟨_, rfl⟩
          rw [← ef6] at hP hD
          have hP : va_P D vwCl (jx_W g a (jx_usl M f6)) H := hP
          have hD : va_D A (jx_W g a (jx_usl M f6)) := hD
          refine lv_iinc (v := nI (k + 1)) (lv' := [(2, .int (nI (k + 1))), (0, .ref (a 0)), (1, .int vv)]) hx hb dX5_save_35 hl (k := 2) rfl (nI_1 _) (by decide) rfl (fun ls hl => ?_)
          refine lv_goto (tgt := 12) hx hb dX5_save_38 (by decide) ?_
          subst ef6
          subst ex5
          rw [lx_s67s _ _ (jx_disc01 c2) hlt] at hP
          exact ih (k + 1)  (by omega) (by omega)  H locs hP hS ls (lv_sub hl [1, 2, 0] rfl)
    exact hlp (67 + 1) 0  (Nat.zero_le _) (by omega)  H locs (by rw [lx_cpo_0]; exact hP) hS ls (lv_sub hl [1, 2, 0] rfl)
  · refine lv_ldc hx hb hown hk_91 dX5_save_7 ?_
    subst ex1
    exact jk_iret hx hb hr hlocks hP hS ((if_pos c2).trans (rfl)).symm (congrArg (fun z => (jx_W g a z)) (((if_pos c2).trans (rfl)).symm)) dX5_save_9

def rX5_restore (M : jx_T) (vv : Int32) : Int32 := let x1 : Int32 := rX5_isDisc vv; if x1 = 0 then ((-1000002)) else (if ((jx_sv M) vv.toNatClampNeg) = 0 then ((-1000005)) else (let x6 : Int32 := (lx_cpo (jx_sl M) (jx_al M) (67 * vv.toNatClampNeg) 0 67) 5; x6))
def sX5_restore (M : jx_T) (vv : Int32) (nh : Nat) : jx_T := let x1 : Int32 := rX5_isDisc vv; if x1 = 0 then (M) else (if ((jx_sv M) vv.toNatClampNeg) = 0 then (M) else (let x6 : Int32 := (lx_cpo (jx_sl M) (jx_al M) (67 * vv.toNatClampNeg) 0 67) 5; (jx_ual (lx_chg M nh) (lx_cpo (jx_sl M) (jx_al M) (67 * vv.toNatClampNeg) 0 67))))
set_option maxHeartbeats 1000000 in
set_option maxRecDepth 100000 in
theorem c_X5_restore (l : Launch) (D : va_G) (g : jk_G) (a : Nat → Nat) (M : jx_T) (vv : Int32) (nh : Nat) (hn6 : nh ≤ 6) (hn : jx_hl M = nI nh) : jk_M l D g yX5_restore wsX5_restore 1 21 [.ref (a 0), .int vv] (jx_W g a M) (some (.int (rX5_restore M vv))) (jx_W g a (sX5_restore M vv nh)) := by
  refine jk_of (cc := cX5_restore) (maxL := 3) (ret := (some .int)) (by decide +kernel) rfl (Nat.le_of_ble_eq_true rfl) ?_
  intro p e s m args below meth c hx hb hr hml hts hown hlocks hK hN A H locs hP hD hA hS ls hl
  have hown : s.vm.findClass RX5 = some m.cls := hown
  have hl : lv_has ls 3 [(0, .ref (a 0)), (1, .int vv)] := hl
  have hf_22 := hts (.fieldLink RX5 22 "InfluenceJarsModel" "isSaved" "[I") (by decide +kernel)
  have hi_5 : ∀ w ∈ u_ws RX5 TX5 13, w ∈ wsX5_restore := by decide +kernel
  have hf_7 := hts (.fieldLink RX5 7 "InfluenceJarsModel" "all" "[I") (by decide +kernel)
  have hf_19 := hts (.fieldLink RX5 19 "InfluenceJarsModel" "slots" "[I") (by decide +kernel)
  have hk_92 := hts (.constant RX5 92 (-1000005)) (by decide +kernel)
  have hk_91 := hts (.constant RX5 91 (-1000002)) (by decide +kernel)
  refine lv_iload_n hx hb dX5_restore_0 rfl (lv_at hl 1 rfl) ?_
  refine jk_callS (As := [.int vv]) (rest := []) (ws1 := (jx_W g a M)) ⟨hx, hb, hml, hown, hts⟩ (c_X5_isDisc l D g vv) (va_cwS 1 hts gX5_restore_X5_isDisc rfl rfl rfl (by decide +kernel) ⟨Nat.le_of_ble_eq_true rfl, Nat.le_of_ble_eq_true rfl⟩) jk_nilP (jk_nilD (A := A)) hK hN rfl hl rfl (Nat.le_of_ble_eq_true rfl) dX5_restore_1 ⟨Nat.zero_le _, Nat.zero_le _⟩ hS hA (fun _ _ hk => jk_keep hP hk) (fun H locs hP hS => ?_)
  refine W.eq (g2 := F0 m 4 ls [.int (rX5_isDisc vv)]) rfl ?_
  refine lv_topi (fun x1 ex1 => ?_)
  refine lv_if_ne (tgt := 10) hx hb dX5_restore_4 (by decide) (fun c2 => ?_) (fun c2 => ?_)
  · refine lv_aload_n hx hb dX5_restore_10 rfl (lv_at hl 0 rfl) ?_
    refine va_get (D := D) (ci := 5) (v := .ref (a 5)) (C := RX5) (T := TX5) (N := 13) hx hb hts hi_5 hown hK hP 0 rfl rfl 5 (by decide) hf_22 (fun _ h9 => h9) rfl dX5_restore_11 ?_
    refine lv_iload_n hx hb dX5_restore_14 rfl (lv_at hl 1 rfl) ?_
    refine va_iald (f := (jx_sv M)) hx hb hK hP 5 0 rfl rfl (by subst_vars; exact jx_v01 (jx_disc01 c2)) dX5_restore_15 ?_
    refine lv_if_ne (tgt := 22) hx hb dX5_restore_16 (by decide) (fun c3 => ?_) (fun c3 => ?_)
    · refine lv_aload_n hx hb dX5_restore_22 rfl (lv_at hl 0 rfl) ?_
      obtain ⟨S4, eS4⟩ : ∃ z : jx_T, z = lx_chg M nh := ⟨_, rfl⟩
      refine jk_callV (As := []) (rest := []) (ws1 := (jx_W g a S4)) ⟨hx, hb, hml, hown, hts⟩ (c_X5_changes l D g a M nh (by subst_vars; exact hn6) (by subst_vars; exact hn)) (cwV 0 hts gX5_restore_X5_changes rfl rfl rfl (by decide +kernel) ⟨Nat.le_of_ble_eq_true rfl, Nat.le_of_ble_eq_true rfl⟩) (va_recv hK hP (ci := 5) (q0 := 0) rfl rfl) hP hD hK hN rfl hl rfl (Nat.le_of_ble_eq_true rfl) dX5_restore_23 ⟨Nat.zero_le _, Nat.zero_le _⟩ hS hA (fun _ h _ => by rw [eS4]; exact h) (fun H locs hP hS => ?_)
      refine W.eq (g2 := F0 m 26 ls []) rfl ?_
      have hD : va_D A (jx_W g a S4) := jk_D.same hD rfl
      refine lv_iconst (v := 0) hx hb dX5_restore_26 (by decide) ?_
      refine lv_istore_n (lv' := [(2, .int 0), (0, .ref (a 0)), (1, .int vv)]) hx hb dX5_restore_27 rfl hl (by decide) rfl (fun ls hl => ?_)
      subst eS4
      subst ex1
      have hlp : ∀ (n k : Nat), k ≤ 67 → 67 < k + n → ∀ (H : Heap) (locs : List Loc), va_P D vwCl (jx_W g a (jx_ual (lx_chg M nh) (lx_cpo (jx_sl M) (jx_al M) (67 * vv.toNatClampNeg) 0 k))) H → va_S A s.heap H locs → ∀ ls : Array Slot, lv_has ls 3 [(0, .ref (a 0)), (1, .int vv), (2, .int (nI k))] → W p l e ({ frames := 1, cells := 0, slots := 0, locals := 21 }) s m args below meth c H locs 0 0 (MQ below (jk_Q (some (.int (rX5_restore M vv))) D (jx_W g a (sX5_restore M vv nh)) A) args s 0 0 A) (F0 m 28 ls []) := by
        intro n
        induction n with
        | zero => intro k  hk1 hk2; exact absurd hk2 (by omega)
        | succ n ih =>
          intro k  hk hkn  H locs hP hS ls hl
          have hD : va_D A (jx_W g a (jx_ual (lx_chg M nh) (lx_cpo (jx_sl M) (jx_al M) (67 * vv.toNatClampNeg) 0 k))) := jk_D.same hD rfl
          refine lv_iload_n hx hb dX5_restore_28 rfl (lv_at hl 2 rfl) ?_
          refine lv_bipush (v := 67) hx hb dX5_restore_29 (by decide) ?_
          refine lv_icmp_ge (tgt := 57) hx hb dX5_restore_31 (by decide) (fun c5 => ?_) (fun c5 => ?_)
          · have hk9 : k = 67 := jk_ge (N := 67) (by decide) hk c5
            subst hk9
            refine lv_aload_n hx hb dX5_restore_57 rfl (lv_at hl 0 rfl) ?_
            refine va_get (D := D) (ci := 5) (v := .ref (a 1)) (C := RX5) (T := TX5) (N := 13) hx hb hts hi_5 hown hK hP 0 rfl rfl 0 (by decide) hf_7 (fun _ h9 => h9) rfl dX5_restore_58 ?_
            refine lv_iconst (v := 5) hx hb dX5_restore_61 (by decide) ?_
            refine va_iald (f := (lx_cpo (jx_sl M) (jx_al M) (67 * vv.toNatClampNeg) 0 67)) hx hb hK hP 1 0 rfl rfl (jk_inC (by decide +kernel)) dX5_restore_62 ?_
            refine W.eq (g2 := F0 m 63 ls [.int ((lx_cpo (jx_sl M) (jx_al M) (67 * vv.toNatClampNeg) 0 67) 5)]) rfl ?_
            refine lv_topi (fun x6 ex6 => ?_)
            subst ex6
            exact jk_iret hx hb hr hlocks hP hS ((if_neg c2).trans ((if_neg c3).trans (rfl))).symm (congrArg (fun z => (jx_W g a z)) (((if_neg c2).trans ((if_neg c3).trans (rfl))).symm)) dX5_restore_63
          · have hlt : k < 67 := jk_lt (N := 67) (by decide) hk c5
            refine lv_aload_n hx hb dX5_restore_34 rfl (lv_at hl 0 rfl) ?_
            refine va_get (D := D) (ci := 5) (v := .ref (a 1)) (C := RX5) (T := TX5) (N := 13) hx hb hts hi_5 hown hK hP 0 rfl rfl 0 (by decide) hf_7 (fun _ h9 => h9) rfl dX5_restore_35 ?_
            refine lv_iload_n hx hb dX5_restore_38 rfl (lv_at hl 2 rfl) ?_
            refine lv_aload_n hx hb dX5_restore_39 rfl (lv_at hl 0 rfl) ?_
            refine va_get (D := D) (ci := 5) (v := .ref (a 4)) (C := RX5) (T := TX5) (N := 13) hx hb hts hi_5 hown hK hP 0 rfl rfl 4 (by decide) hf_19 (fun _ h9 => h9) rfl dX5_restore_40 ?_
            refine lv_bipush (v := 67) hx hb dX5_restore_43 (by decide) ?_
            refine lv_iload_n hx hb dX5_restore_45 rfl (lv_at hl 1 rfl) ?_
            refine lv_imul hx hb dX5_restore_46 ?_
            refine lv_iload_n hx hb dX5_restore_47 rfl (lv_at hl 2 rfl) ?_
            refine lv_iadd hx hb dX5_restore_48 ?_
            refine va_iald (f := (jx_sl (lx_chg M nh))) hx hb hK hP 4 0 rfl rfl (by subst_vars; exact lx_i67s (jx_disc01 c2) hlt) dX5_restore_49 ?_
            refine lv_topi (fun x7 ex7 => ?_)
            refine va_iast (f := (lx_cpo (jx_sl M) (jx_al M) (67 * vv.toNatClampNeg) 0 k)) hx hb hK hP hD hS 1 0 rfl rfl (vp_in_nI (by omega) (by decide)) dX5_restore_50 (fun H locs hP hD hS => ?_)
            obtain ⟨f8, ef8⟩ : ∃ z : Nat → Int32, z = (upd (lx_cpo (jx_sl M) (jx_al M) (67 * vv.toNatClampNeg) 0 k) (nI k).toNatClampNeg x7) := ⟨_, rfl⟩
            rw [← ef8] at hP hD
            have hP : va_P D vwCl (jx_W g a (jx_ual (lx_chg M nh) f8)) H := hP
            have hD : va_D A (jx_W g a (jx_ual (lx_chg M nh) f8)) := hD
            refine lv_iinc (v := nI (k + 1)) (lv' := [(2, .int (nI (k + 1))), (0, .ref (a 0)), (1, .int vv)]) hx hb dX5_restore_51 hl (k := 2) rfl (nI_1 _) (by decide) rfl (fun ls hl => ?_)
            refine lv_goto (tgt := 28) hx hb dX5_restore_54 (by decide) ?_
            subst ef8
            subst ex7
            rw [show jx_sl (lx_chg M nh) = jx_sl M from rfl, lx_r67s _ _ (jx_disc01 c2) hlt] at hP
            exact ih (k + 1)  (by omega) (by omega)  H locs hP hS ls (lv_sub hl [1, 2, 0] rfl)
      exact hlp (67 + 1) 0  (Nat.zero_le _) (by omega)  H locs (by rw [lx_cpo_0]; exact hP) hS ls (lv_sub hl [1, 2, 0] rfl)
    · refine lv_ldc hx hb hown hk_92 dX5_restore_19 ?_
      subst ex1
      exact jk_iret hx hb hr hlocks hP hS ((if_neg c2).trans ((if_pos c3).trans (rfl))).symm (congrArg (fun z => (jx_W g a z)) (((if_neg c2).trans ((if_pos c3).trans (rfl))).symm)) dX5_restore_21
  · refine lv_ldc hx hb hown hk_91 dX5_restore_7 ?_
    subst ex1
    exact jk_iret hx hb hr hlocks hP hS ((if_pos c2).trans (rfl)).symm (congrArg (fun z => (jx_W g a z)) (((if_pos c2).trans (rfl)).symm)) dX5_restore_9
