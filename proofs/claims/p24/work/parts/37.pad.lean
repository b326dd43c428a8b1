set_option maxHeartbeats 1000000 in
set_option maxRecDepth 100000 in
theorem c_X4_charactersIn (l : Launch) (D : va_G) (g : jk_G) (vv : Int64)  : jk_M l D g yX4_charactersIn wsX4_charactersIn 0 0 [.long vv] [] (some (.int (lc_ci 8 vv 0))) [] := by
  refine jk_of (cc := cX4_charactersIn) (maxL := 7) (ret := (some .int)) (by decide +kernel) rfl (Nat.le_of_ble_eq_true rfl) ?_
  intro p e s m args below meth c hx hb hr hml hts hown hlocks hK hN A H locs hP hD hA hS ls hl
  have hown : s.vm.findClass RX4 = some m.cls := hown
  have hl : lv_has ls 7 [(0, .long vv)] := hl
  have hDu : va_D A [] := hD
  have hk_224 := hts (.constantLong RX4 224 255) (by decide +kernel)
  refine lv_iconst (v := 0) hx hb dX4_charactersIn_0 (by decide) ?_
  refine lv_istore_n (lv' := [(2, .int 0), (0, .long vv)]) hx hb dX4_charactersIn_1 rfl hl (by decide) rfl (fun ls hl => ?_)
  refine lv_lload_n hx hb dX4_charactersIn_2 rfl (lv_at hl 1 rfl) ?_
  refine lv_lstore_n (lv' := [(3, .long vv), (2, .int 0), (0, .long vv)]) hx hb dX4_charactersIn_3 rfl hl (by decide) rfl (fun ls hl => ?_)
  refine lv_iconst (v := 0) hx hb dX4_charactersIn_4 (by decide) ?_
  refine lv_istore (lv' := [(5, .int 0), (3, .long vv), (2, .int 0), (0, .long vv)]) hx hb dX4_charactersIn_5 hl (by decide) rfl (fun ls hl => ?_)
  have hlp : ∀ (nn k : Nat) (q : Int64), k ≤ 8 → 8 < k + nn → (lc_ci (8 - k) q k = lc_ci 8 vv 0) → ∀ (H : Heap) (locs : List Loc), va_P D vwCl [] H → va_S A s.heap H locs → ∀ ls : Array Slot, lv_has ls 7 [(0, .long vv), (2, .int (nI k)), (3, .long q), (5, .int (nI k))] → W p l e ({ frames := 0, cells := 0, slots := 0, locals := 0 }) s m args below meth c H locs 0 0 (MQ below (jk_Q (some (.int (lc_ci 8 vv 0))) D [] A) args s 0 0 A) (F0 m 7 ls []) := by
    intro nn
    induction nn with
    | zero => intro k q hk1 hk2; exact absurd hk2 (by omega)
    | succ nn ih =>
      intro k q hk hkn hE H locs hP hS ls hl
      have hD : va_D A [] := hDu
      refine lv_iload hx hb dX4_charactersIn_7 (lv_at hl 3 rfl) ?_
      refine lv_bipush (v := 8) hx hb dX4_charactersIn_9 (by decide) ?_
      refine lv_icmp_ge (tgt := 58) hx hb dX4_charactersIn_11 (by decide) (fun c_11 => ?_) (fun c_11 => ?_)
      · have hk9 : k = 8 := jk_ge (N := 8) (by decide) hk c_11
        have hE2 := lc_ci_8 hk9 hE
        refine lv_iload_n hx hb dX4_charactersIn_58 rfl (lv_at hl 1 rfl) ?_
        exact jk_iret hx hb hr hlocks hP hS hE2 rfl dX4_charactersIn_59
      · have hlt : k < 8 := jk_lt (N := 8) (by decide) hk c_11
        refine lv_lload_n hx hb dX4_charactersIn_14 rfl (lv_at hl 2 rfl) ?_
        refine lv_lconst (v := 0) hx hb dX4_charactersIn_15 (by decide) ?_
        refine W.lcmp hx hb dX4_charactersIn_16 ?_
        refine lv_if_eq (tgt := 58) hx hb dX4_charactersIn_17 (by decide) (fun c_17 => ?_) (fun c_17 => ?_)
        · have hE2 := lc_ci_0 hlt c_17 hE
          refine lv_iload_n hx hb dX4_charactersIn_58 rfl (lv_at hl 1 rfl) ?_
          exact jk_iret hx hb hr hlocks hP hS hE2 rfl dX4_charactersIn_59
        · refine lv_lload_n hx hb dX4_charactersIn_20 rfl (lv_at hl 2 rfl) ?_
          refine lv_ldc2 hx hb hown hk_224 dX4_charactersIn_21 ?_
          refine lv_land hx hb dX4_charactersIn_24 ?_
          refine lv_l2i hx hb dX4_charactersIn_25 rfl ?_
          refine lv_istore (lv' := [(6, .int ((q &&& 255).toInt32)), (0, .long vv), (2, .int (nI k)), (3, .long q), (5, .int (nI k))]) hx hb dX4_charactersIn_26 hl (by decide) rfl (fun ls hl => ?_)
          refine lv_iload hx hb dX4_charactersIn_28 (lv_at hl 0 rfl) ?_
          refine lv_bipush (v := 33) hx hb dX4_charactersIn_30 (by decide) ?_
          refine lv_icmp_lt (tgt := 42) hx hb dX4_charactersIn_32 (by decide) (fun c_32 => ?_) (fun c_32 => ?_)
          · have hE2 : 0 = lc_ci 8 vv 0 := by subst_vars; exact lc_ci_a hlt c_17 c_32 hE
            refine lv_iconst (v := 0) hx hb dX4_charactersIn_42 (by decide) ?_
            exact jk_iret hx hb hr hlocks hP hS hE2 rfl dX4_charactersIn_43
          · refine lv_iload hx hb dX4_charactersIn_35 (lv_at hl 0 rfl) ?_
            refine lv_bipush (v := 126) hx hb dX4_charactersIn_37 (by decide) ?_
            refine lv_icmp_le (tgt := 44) hx hb dX4_charactersIn_39 (by decide) (fun c_39 => ?_) (fun c_39 => ?_)
            · refine lv_iinc (v := nI (k + 1)) (lv' := [(2, .int (nI (k + 1))), (6, .int ((q &&& 255).toInt32)), (0, .long vv), (3, .long q), (5, .int (nI k))]) hx hb dX4_charactersIn_44 hl (k := 2) rfl (nI_1 _) (by decide) rfl (fun ls hl => ?_)
              refine lv_lload_n hx hb dX4_charactersIn_47 rfl (lv_at hl 3 rfl) ?_
              refine lv_bipush (v := 8) hx hb dX4_charactersIn_48 (by decide) ?_
              refine lv_lushr hx hb dX4_charactersIn_50 rfl ?_
              refine lv_topl (fun x1 ex1 => ?_)
              refine lv_lstore_n (lv' := [(3, .long x1), (2, .int (nI (k + 1))), (6, .int ((q &&& 255).toInt32)), (0, .long vv), (5, .int (nI k))]) hx hb dX4_charactersIn_51 rfl hl (by decide) rfl (fun ls hl => ?_)
              refine lv_iinc (v := nI (k + 1)) (lv' := [(5, .int (nI (k + 1))), (3, .long x1), (2, .int (nI (k + 1))), (6, .int ((q &&& 255).toInt32)), (0, .long vv)]) hx hb dX4_charactersIn_52 hl (k := 4) rfl (nI_1 _) (by decide) rfl (fun ls hl => ?_)
              refine lv_goto (tgt := 7) hx hb dX4_charactersIn_55 (by decide) ?_
              have qex1 := ex1.symm; subst qex1
              exact ih (k + 1) ((q.toUInt64 >>> ((8 : Int32).toInt64.toUInt64 &&& Int64.toUInt64 63)).toInt64) (by omega) (by omega) (by subst_vars; exact lc_ci_s hlt c_17 c_32 c_39 hE) H locs hP hS ls (lv_sub hl [4, 2, 1, 0] rfl)
            · have hE2 : 0 = lc_ci 8 vv 0 := by subst_vars; exact lc_ci_b hlt c_17 c_32 c_39 hE
              refine lv_iconst (v := 0) hx hb dX4_charactersIn_42 (by decide) ?_
              exact jk_iret hx hb hr hlocks hP hS hE2 rfl dX4_charactersIn_43
  exact hlp (8 + 1) 0 vv (Nat.zero_le _) (by omega) rfl H locs hP hS ls (lv_sub hl [3, 2, 1, 0] rfl)

def sX3_clear (P : jp_T) : jp_T := (jp_uln P 0)
set_option maxHeartbeats 1000000 in
set_option maxRecDepth 100000 in
theorem c_X3_clear (l : Launch) (D : va_G) (g : jk_G) (b : Nat → Nat) (P : jp_T)  : jk_M l D g yX3_clear wsX3_clear 0 0 [.ref (b 0)] (jp_W g b P) none (jp_W g b (sX3_clear P)) := by
  refine jk_of (cc := cX3_clear) (maxL := 1) (ret := none) (by decide +kernel) rfl (Nat.le_of_ble_eq_true rfl) ?_
  intro p e s m args below meth c hx hb hr hml hts hown hlocks hK hN A H locs hP hD hA hS ls hl
  have hown : s.vm.findClass RX3 = some m.cls := hown
  have hl : lv_has ls 1 [(0, .ref (b 0))] := hl
  have hDu : ∀ (z0 : jp_T), va_D A (jp_W g b z0) := fun z0 => jk_D.same hD rfl
  have hf_15 := hts (.fieldLink RX3 15 "InfluenceJars$Pad" "length" "I") (by decide +kernel)
  have hi_3 : ∀ w ∈ u_ws RX3 TX3 2, w ∈ wsX3_clear := by decide +kernel
  refine lv_aload_n hx hb dX3_clear_0 rfl (lv_at hl 0 rfl) ?_
  refine lv_iconst (v := 0) hx hb dX3_clear_1 (by decide) ?_
  refine va_put (D := D) (ci := 3) (v := .int 0) (ty := .int) (C := RX3) (T := TX3) (N := 2) hx hb hts hi_3 tyX3 tyX3_ok nmX3 hown hK hP hD hS 0 rfl rfl 1 (by decide) hf_15 (fun _ h9 => h9) rfl (by decide +kernel) rfl rfl (Nat.le_of_ble_eq_true rfl) dX3_clear_2 (fun H locs hP hD hS => ?_)
  have hP : va_P D vwCl (jp_W g b (jp_uln P 0)) H := hP
  have hD : va_D A (jp_W g b (jp_uln P 0)) := hD
  exact jk_vret hx hb hr hlocks hP hS (congrArg (fun z => (jp_W g b z)) ((rfl).symm)) dX3_clear_5

set_option maxHeartbeats 1000000 in
set_option maxRecDepth 100000 in
theorem c_X3_append (l : Launch) (D : va_G) (g : jk_G) (b : Nat → Nat) (P : jp_T) (vv : Int64) (vn : Int32) (tt : Nat) (cn : Nat) (ht : jp_ln P = nI tt) (hc : tt + cn ≤ 60) (hvn : vn = nI cn) : jk_M l D g yX3_append wsX3_append 0 0 [.ref (b 0), .long vv, .int vn] (jp_W g b P) none (jp_W g b (jp_uln (jp_usg P (lc_app (jp_sg P) tt vv vn cn)) (nI (tt + cn)))) := by
  refine jk_of (cc := cX3_append) (maxL := 5) (ret := none) (by decide +kernel) rfl (Nat.le_of_ble_eq_true rfl) ?_
  intro p e s m args below meth c hx hb hr hml hts hown hlocks hK hN A H locs hP hD hA hS ls hl
  have hown : s.vm.findClass RX3 = some m.cls := hown
  have hl : lv_has ls 5 [(0, .ref (b 0)), (1, .long vv), (3, .int vn)] := hl
  have hDu : ∀ (z0 : jp_T), va_D A (jp_W g b z0) := fun z0 => jk_D.same hD rfl
  have hf_15 := hts (.fieldLink RX3 15 "InfluenceJars$Pad" "length" "I") (by decide +kernel)
  have hi_3 : ∀ w ∈ u_ws RX3 TX3 2, w ∈ wsX3_append := by decide +kernel
  have hf_9 := hts (.fieldLink RX3 9 "InfluenceJars$Pad" "signs" "[C") (by decide +kernel)
  have hk_19 := hts (.constantLong RX3 19 255) (by decide +kernel)
  refine lv_iload_n hx hb dX3_append_0 rfl (lv_at hl 2 rfl) ?_
  refine lv_iconst (v := 1) hx hb dX3_append_1 (by decide) ?_
  refine lv_isub hx hb dX3_append_2 ?_
  refine lv_istore (lv' := [(4, .int (vn - 1)), (0, .ref (b 0)), (1, .long vv), (3, .int vn)]) hx hb dX3_append_3 hl (by decide) rfl (fun ls hl => ?_)
  have hlp : ∀ (nn k : Nat), k ≤ cn → cn < k + nn → ∀ (H : Heap) (locs : List Loc), va_P D vwCl (jp_W g b (jp_uln (jp_usg P (lc_app (jp_sg P) tt vv vn k)) (nI (tt + k)))) H → va_S A s.heap H locs → ∀ ls : Array Slot, lv_has ls 5 [(0, .ref (b 0)), (1, .long vv), (3, .int vn), (4, .int (vn - 1 - nI k))] → W p l e ({ frames := 0, cells := 0, slots := 0, locals := 0 }) s m args below meth c H locs 0 0 (MQ below (jk_Q none D (jp_W g b (jp_uln (jp_usg P (lc_app (jp_sg P) tt vv vn cn)) (nI (tt + cn)))) A) args s 0 0 A) (F0 m 5 ls []) := by
    intro nn
    induction nn with
    | zero => intro k  hk1 hk2; exact absurd hk2 (by omega)
    | succ nn ih =>
      intro k  hk hkn  H locs hP hS ls hl
      have hD : va_D A (jp_W g b (jp_uln (jp_usg P (lc_app (jp_sg P) tt vv vn k)) (nI (tt + k)))) := hDu _
      refine lv_iload hx hb dX3_append_5 (lv_at hl 3 rfl) ?_
      refine lv_if_lt (tgt := 60) hx hb dX3_append_7 (by decide) (fun c_7 => ?_) (fun c_7 => ?_)
      · have hk9 : cn = k := lc_ex hvn (by omega) hk c_7
        subst hk9
        exact jk_vret hx hb hr hlocks hP hS (congrArg (fun z => (jp_W g b z)) (rfl)) dX3_append_60
      · have hlt := lc_in hvn (by omega) hk c_7
        refine lv_aload_n hx hb dX3_append_10 rfl (lv_at hl 0 rfl) ?_
        refine va_get (D := D) (ci := 3) (v := .int (nI (tt + k))) (C := RX3) (T := TX3) (N := 2) hx hb hts hi_3 hown hK hP 0 rfl rfl 1 (by decide) hf_15 (fun _ h9 => h9) rfl dX3_append_11 ?_
        refine lv_aload_n hx hb dX3_append_14 rfl (lv_at hl 0 rfl) ?_
        refine va_get (D := D) (ci := 3) (v := .ref (b 1)) (C := RX3) (T := TX3) (N := 2) hx hb hts hi_3 hown hK hP 0 rfl rfl 0 (by decide) hf_9 (fun _ h9 => h9) rfl dX3_append_15 ?_
        refine va_alen (v := 60) hx hb hK hP 1 1 rfl rfl rfl dX3_append_18 ?_
        refine lv_icmp_ge (tgt := 60) hx hb dX3_append_19 (by decide) (fun c_19 => ?_) (fun c_19 => ?_)
        · exact absurd c_19 (lc_full (by omega))
        · refine lv_aload_n hx hb dX3_append_22 rfl (lv_at hl 0 rfl) ?_
          refine va_get (D := D) (ci := 3) (v := .ref (b 1)) (C := RX3) (T := TX3) (N := 2) hx hb hts hi_3 hown hK hP 0 rfl rfl 0 (by decide) hf_9 (fun _ h9 => h9) rfl dX3_append_23 ?_
          refine lv_aload_n hx hb dX3_append_26 rfl (lv_at hl 0 rfl) ?_
          refine va_get (D := D) (ci := 3) (v := .int (nI (tt + k))) (C := RX3) (T := TX3) (N := 2) hx hb hts hi_3 hown hK hP 0 rfl rfl 1 (by decide) hf_15 (fun _ h9 => h9) rfl dX3_append_27 ?_
          refine lv_lload_n hx hb dX3_append_30 rfl (lv_at hl 1 rfl) ?_
          refine lv_bipush (v := 8) hx hb dX3_append_31 (by decide) ?_
          refine lv_iload hx hb dX3_append_33 (lv_at hl 3 rfl) ?_
          refine lv_imul hx hb dX3_append_35 ?_
          refine lv_lushr hx hb dX3_append_36 rfl ?_
          refine lv_topl (fun x1 ex1 => ?_)
          refine lv_ldc2 hx hb hown hk_19 dX3_append_37 ?_
          refine lv_land hx hb dX3_append_40 ?_
          refine lv_l2i hx hb dX3_append_41 rfl ?_
          refine lv_i2c hx hb dX3_append_42 rfl ?_
          refine lv_topi (fun x2 ex2 => ?_)
          refine va_cast (f := (lc_app (jp_sg P) tt vv vn k)) hx hb hK hP hD hS 1 1 rfl rfl (vp_in_nI (by omega) (by decide)) dX3_append_43 (fun H locs hP hD hS => ?_)
          obtain ⟨f3, ef3⟩ : ∃ z : Nat → Int32, z = (upd (lc_app (jp_sg P) tt vv vn k) (nI (tt + k)).toNatClampNeg (vp_nar .char x2)) := ⟨_, rfl⟩
          rw [← ef3] at hP hD
          have hP : va_P D vwCl (jp_W g b (jp_uln (jp_usg P f3) (nI (tt + k)))) H := hP
          have hD : va_D A (jp_W g b (jp_uln (jp_usg P f3) (nI (tt + k)))) := hD
          refine lv_aload_n hx hb dX3_append_44 rfl (lv_at hl 0 rfl) ?_
          refine lv_dup hx hb dX3_append_45 rfl ?_
          refine va_get (D := D) (ci := 3) (v := .int (nI (tt + k))) (C := RX3) (T := TX3) (N := 2) hx hb hts hi_3 hown hK hP 0 rfl rfl 1 (by decide) hf_15 (fun _ h9 => h9) rfl dX3_append_46 ?_
          refine lv_iconst (v := 1) hx hb dX3_append_49 (by decide) ?_
          refine lv_iadd hx hb dX3_append_50 ?_
          refine lv_topi (fun x4 ex4 => ?_)
          refine va_put (D := D) (ci := 3) (v := .int x4) (ty := .int) (C := RX3) (T := TX3) (N := 2) hx hb hts hi_3 tyX3 tyX3_ok nmX3 hown hK hP hD hS 0 rfl rfl 1 (by decide) hf_15 (fun _ h9 => h9) rfl (by decide +kernel) rfl rfl (Nat.le_of_ble_eq_true rfl) dX3_append_51 (fun H locs hP hD hS => ?_)
          have hP : va_P D vwCl (jp_W g b (jp_uln (jp_usg P f3) x4)) H := hP
          have hD : va_D A (jp_W g b (jp_uln (jp_usg P f3) x4)) := hD
          refine lv_iinc (v := vn - 1 - nI (k + 1)) (lv' := [(4, .int (vn - 1 - nI (k + 1))), (0, .ref (b 0)), (1, .long vv), (3, .int vn)]) hx hb dX3_append_54 hl (k := 3) rfl (lc_dec _ _) (by decide) rfl (fun ls hl => ?_)
          refine lv_goto (tgt := 5) hx hb dX3_append_57 (by decide) ?_
          have qex4 := ex4.symm; subst qex4
          have qef3 := ef3.symm; subst qef3
          have qex2 := ex2.symm; subst qex2
          have qex1 := ex1.symm; subst qex1
          rw [jk_cl (by omega), nI_1] at hP
          exact ih (k + 1)  (by omega) (by omega)  H locs hP hS ls (lv_sub hl [1, 2, 3, 0] rfl)
  exact hlp (cn + 1) 0  (Nat.zero_le _) (by omega)  H locs (by rw [Nat.add_zero, ← ht]; exact hP) hS ls (lv_sub hl [1, 2, 3, 0] (by rw [nI_0, Int32.sub_zero]; rfl))

def rX3_signAt (P : jp_T) (vi : Int32) : Int32 := if vi < 0 then (0) else (if (jp_ln P) ≤ vi then (0) else (if vi < 60 then ((jp_sg P) vi.toNatClampNeg) else (0)))
set_option maxHeartbeats 1000000 in
set_option maxRecDepth 100000 in
theorem c_X3_signAt (l : Launch) (D : va_G) (g : jk_G) (b : Nat → Nat) (P : jp_T) (vi : Int32) (hch : jp_chs P) : jk_M l D g yX3_signAt wsX3_signAt 0 0 [.ref (b 0), .int vi] (jp_W g b P) (some (.int (rX3_signAt P vi))) (jp_W g b P) := by
  refine jk_of (cc := cX3_signAt) (maxL := 2) (ret := (some .char)) (by decide +kernel) rfl (Nat.le_of_ble_eq_true rfl) ?_
  intro p e s m args below meth c hx hb hr hml hts hown hlocks hK hN A H locs hP hD hA hS ls hl
  have hown : s.vm.findClass RX3 = some m.cls := hown
  have hl : lv_has ls 2 [(0, .ref (b 0)), (1, .int vi)] := hl
  have hDu : ∀ (z0 : jp_T), va_D A (jp_W g b z0) := fun z0 => jk_D.same hD rfl
  have hf_15 := hts (.fieldLink RX3 15 "InfluenceJars$Pad" "length" "I") (by decide +kernel)
  have hi_3 : ∀ w ∈ u_ws RX3 TX3 2, w ∈ wsX3_signAt := by decide +kernel
  have hf_9 := hts (.fieldLink RX3 9 "InfluenceJars$Pad" "signs" "[C") (by decide +kernel)
  refine lv_iload_n hx hb dX3_signAt_0 rfl (lv_at hl 1 rfl) ?_
  refine lv_if_lt (tgt := 21) hx hb dX3_signAt_1 (by decide) (fun c_1 => ?_) (fun c_1 => ?_)
  · refine lv_iconst (v := 0) hx hb dX3_signAt_21 (by decide) ?_
    refine lv_goto (tgt := 31) hx hb dX3_signAt_22 (by decide) ?_
    exact jk_zret hx hb hr rfl hlocks hP hS (by unfold rX3_signAt; rw [if_pos c_1]) rfl dX3_signAt_31
  · refine lv_iload_n hx hb dX3_signAt_4 rfl (lv_at hl 1 rfl) ?_
    refine lv_aload_n hx hb dX3_signAt_5 rfl (lv_at hl 0 rfl) ?_
    refine va_get (D := D) (ci := 3) (v := .int (jp_ln P)) (C := RX3) (T := TX3) (N := 2) hx hb hts hi_3 hown hK hP 0 rfl rfl 1 (by decide) hf_15 (fun _ h9 => h9) rfl dX3_signAt_6 ?_
    refine lv_icmp_ge (tgt := 21) hx hb dX3_signAt_9 (by decide) (fun c_9 => ?_) (fun c_9 => ?_)
    · refine lv_iconst (v := 0) hx hb dX3_signAt_21 (by decide) ?_
      refine lv_goto (tgt := 31) hx hb dX3_signAt_22 (by decide) ?_
      exact jk_zret hx hb hr rfl hlocks hP hS (by unfold rX3_signAt; rw [if_neg c_1, if_pos c_9]) rfl dX3_signAt_31
    · refine lv_iload_n hx hb dX3_signAt_12 rfl (lv_at hl 1 rfl) ?_
      refine lv_aload_n hx hb dX3_signAt_13 rfl (lv_at hl 0 rfl) ?_
      refine va_get (D := D) (ci := 3) (v := .ref (b 1)) (C := RX3) (T := TX3) (N := 2) hx hb hts hi_3 hown hK hP 0 rfl rfl 0 (by decide) hf_9 (fun _ h9 => h9) rfl dX3_signAt_14 ?_
      refine va_alen (v := 60) hx hb hK hP 1 1 rfl rfl rfl dX3_signAt_17 ?_
      refine lv_icmp_lt (tgt := 25) hx hb dX3_signAt_18 (by decide) (fun c_18 => ?_) (fun c_18 => ?_)
      · refine lv_aload_n hx hb dX3_signAt_25 rfl (lv_at hl 0 rfl) ?_
        refine va_get (D := D) (ci := 3) (v := .ref (b 1)) (C := RX3) (T := TX3) (N := 2) hx hb hts hi_3 hown hK hP 0 rfl rfl 0 (by decide) hf_9 (fun _ h9 => h9) rfl dX3_signAt_26 ?_
        refine lv_iload_n hx hb dX3_signAt_29 rfl (lv_at hl 1 rfl) ?_
        refine va_cald (f := (jp_sg P)) hx hb hK hP 1 1 rfl rfl (by subst_vars; exact jp_ix_in c_1 c_18) dX3_signAt_30 ?_
        exact jk_zret hx hb hr (hch _) hlocks hP hS (by unfold rX3_signAt; rw [if_neg c_1, if_neg c_9, if_pos c_18]) rfl dX3_signAt_31
      · refine lv_iconst (v := 0) hx hb dX3_signAt_21 (by decide) ?_
        refine lv_goto (tgt := 31) hx hb dX3_signAt_22 (by decide) ?_
        exact jk_zret hx hb hr rfl hlocks hP hS (by unfold rX3_signAt; rw [if_neg c_1, if_neg c_9, if_neg c_18]) rfl dX3_signAt_31
