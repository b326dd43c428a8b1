set_option maxHeartbeats 1000000 in
set_option maxRecDepth 100000 in
theorem c_X5_charactersOf (l : Launch) (D : va_G) (g : jk_G) (vv : Int64)  : jk_M l D g yX5_charactersOf wsX5_charactersOf 1 25 [.long vv] [] (some (.int (lx_chars vv))) [] := by
  refine jk_of (cc := cX5_charactersOf) (maxL := 5) (ret := (some .int)) (by decide +kernel) rfl (Nat.le_of_ble_eq_true rfl) ?_
  intro p e s m args below meth c hx hb hr hml hts hown hlocks hK hN A H locs hP hD hA hS ls hl
  have hown : s.vm.findClass RX5 = some m.cls := hown
  have hl : lv_has ls 5 [(0, .long vv)] := hl
  have hk_146 := hts (.constantLong RX5 146 255) (by decide +kernel)
  have hk_148 := hts (.constantLong RX5 148 33) (by decide +kernel)
  have hk_150 := hts (.constantLong RX5 150 126) (by decide +kernel)
  refine lv_lload_n hx hb dX5_charactersOf_0 rfl (lv_at hl 0 rfl) ?_
  refine lv_lstore_n (lv' := [(2, .long vv), (0, .long vv)]) hx hb dX5_charactersOf_1 rfl hl (by decide) rfl (fun ls hl => ?_)
  refine lv_iconst (v := 0) hx hb dX5_charactersOf_2 (by decide) ?_
  refine lv_istore (lv' := [(4, .int 0), (2, .long vv), (0, .long vv)]) hx hb dX5_charactersOf_3 hl (by decide) rfl (fun ls hl => ?_)
  have hlp : ∀ (n k : Nat) (q : Int64), k ≤ 8 → 8 < k + n → (((lx_co (8 - k) q).1 + k, (lx_co (8 - k) q).2) = lx_co 8 vv) → ∀ (H : Heap) (locs : List Loc), va_P D vwCl [] H → va_S A s.heap H locs → ∀ ls : Array Slot, lv_has ls 5 [(0, .long vv), (2, .long q), (4, .int (nI k))] → W p l e ({ frames := 1, cells := 0, slots := 0, locals := 25 }) s m args below meth c H locs 0 0 (MQ below (jk_Q (some (.int (lx_chars vv))) D [] A) args s 0 0 A) (F0 m 5 ls []) := by
    intro n
    induction n with
    | zero => intro k q hk1 hk2; exact absurd hk2 (by omega)
    | succ n ih =>
      intro k q hk hkn hE H locs hP hS ls hl
      have hD : va_D A [] := jk_D.same hD rfl
      refine lv_iload hx hb dX5_charactersOf_5 (lv_at hl 2 rfl) ?_
      refine lv_bipush (v := 8) hx hb dX5_charactersOf_7 (by decide) ?_
      refine lv_icmp_ge (tgt := 40) hx hb dX5_charactersOf_9 (by decide) (fun c1 => ?_) (fun c1 => ?_)
      · have hk9 : k = 8 := jk_ge (N := 8) (by decide) hk c1
        have hE2 := lx_co_end8 hk9 hE
        refine lv_lload_n hx hb dX5_charactersOf_40 rfl (lv_at hl 1 rfl) ?_
        refine lv_lconst (v := 0) hx hb dX5_charactersOf_41 (by decide) ?_
        refine W.lcmp hx hb dX5_charactersOf_42 ?_
        have J2 : ∀ (x4 : Int32) (H : Heap) (locs : List Loc), x4 = (if (lg_cmp q 0) = 0 then (nI k) else 0) → va_P D vwCl [] H → va_S A s.heap H locs → W p l e ({ frames := 1, cells := 0, slots := 0, locals := 25 }) s m args below meth c H locs 0 0 (MQ below (jk_Q (some (.int (lx_chars vv))) D [] A) args s 0 0 A) (F0 m 52 ls [.int x4]) := by
          intro x4 H locs ex4 hP hS
          subst ex4
          exact jk_iret hx hb hr hlocks hP hS (by unfold lx_chars; rw [← hE2]) rfl dX5_charactersOf_52
        refine lv_if_ne (tgt := 51) hx hb dX5_charactersOf_43 (by decide) (fun c3 => ?_) (fun c3 => ?_)
        · refine lv_iconst (v := 0) hx hb dX5_charactersOf_51 (by decide) ?_
          exact J2 _ H locs ((if_neg c3).trans (rfl)).symm hP hS
        · refine lv_iload hx hb dX5_charactersOf_46 (lv_at hl 2 rfl) ?_
          refine lv_goto (tgt := 52) hx hb dX5_charactersOf_48 (by decide) ?_
          exact J2 _ H locs ((if_pos c3).trans (rfl)).symm hP hS
      · have hlt : k < 8 := jk_lt (N := 8) (by decide) hk c1
        refine lv_lload_n hx hb dX5_charactersOf_12 rfl (lv_at hl 1 rfl) ?_
        refine lv_ldc2 hx hb hown hk_146 dX5_charactersOf_13 ?_
        refine lv_land hx hb dX5_charactersOf_16 ?_
        refine lv_ldc2 hx hb hown hk_148 dX5_charactersOf_17 ?_
        refine lv_ldc2 hx hb hown hk_150 dX5_charactersOf_20 ?_
        refine jk_callS (As := [.long (q &&& 255), .long 33, .long 126]) (rest := []) (ws1 := []) ⟨hx, hb, hml, hown, hts⟩ (c_X5_in l D g (q &&& 255) (33 : Int64) (126 : Int64)) (va_cwS 3 hts gX5_charactersOf_X5_in rfl rfl rfl (by decide +kernel) ⟨Nat.le_of_ble_eq_true rfl, Nat.le_of_ble_eq_true rfl⟩) jk_nilP (jk_nilD (A := A)) hK hN rfl hl rfl (Nat.le_of_ble_eq_true rfl) dX5_charactersOf_23 ⟨Nat.zero_le _, Nat.zero_le _⟩ hS hA (fun _ _ hk => jk_keep hP hk) (fun H locs hP hS => ?_)
        refine W.eq (g2 := F0 m 26 ls [.int (rX5_in (q &&& 255) (33 : Int64) (126 : Int64))]) rfl ?_
        refine lv_topi (fun x5 ex5 => ?_)
        refine lv_if_eq (tgt := 40) hx hb dX5_charactersOf_26 (by decide) (fun c6 => ?_) (fun c6 => ?_)
        · have hE2 : (k, q) = lx_co 8 vv := by subst_vars; exact lx_co_end hlt c6 hE
          refine lv_lload_n hx hb dX5_charactersOf_40 rfl (lv_at hl 1 rfl) ?_
          refine lv_lconst (v := 0) hx hb dX5_charactersOf_41 (by decide) ?_
          refine W.lcmp hx hb dX5_charactersOf_42 ?_
          have J7 : ∀ (x9 : Int32) (H : Heap) (locs : List Loc), x9 = (if (lg_cmp q 0) = 0 then (nI k) else 0) → va_P D vwCl [] H → va_S A s.heap H locs → W p l e ({ frames := 1, cells := 0, slots := 0, locals := 25 }) s m args below meth c H locs 0 0 (MQ below (jk_Q (some (.int (lx_chars vv))) D [] A) args s 0 0 A) (F0 m 52 ls [.int x9]) := by
            intro x9 H locs ex9 hP hS
            subst ex9
            subst ex5
            exact jk_iret hx hb hr hlocks hP hS (by unfold lx_chars; rw [← hE2]) rfl dX5_charactersOf_52
          refine lv_if_ne (tgt := 51) hx hb dX5_charactersOf_43 (by decide) (fun c8 => ?_) (fun c8 => ?_)
          · refine lv_iconst (v := 0) hx hb dX5_charactersOf_51 (by decide) ?_
            exact J7 _ H locs ((if_neg c8).trans (rfl)).symm hP hS
          · refine lv_iload hx hb dX5_charactersOf_46 (lv_at hl 2 rfl) ?_
            refine lv_goto (tgt := 52) hx hb dX5_charactersOf_48 (by decide) ?_
            exact J7 _ H locs ((if_pos c8).trans (rfl)).symm hP hS
        · refine lv_lload_n hx hb dX5_charactersOf_29 rfl (lv_at hl 1 rfl) ?_
          refine lv_bipush (v := 8) hx hb dX5_charactersOf_30 (by decide) ?_
          refine lv_lushr hx hb dX5_charactersOf_32 rfl ?_
          refine lv_topl (fun x10 ex10 => ?_)
          refine lv_lstore_n (lv' := [(2, .long x10), (0, .long vv), (4, .int (nI k))]) hx hb dX5_charactersOf_33 rfl hl (by decide) rfl (fun ls hl => ?_)
          refine lv_iinc (v := nI (k + 1)) (lv' := [(4, .int (nI (k + 1))), (2, .long x10), (0, .long vv)]) hx hb dX5_charactersOf_34 hl (k := 2) rfl (nI_1 _) (by decide) rfl (fun ls hl => ?_)
          refine lv_goto (tgt := 5) hx hb dX5_charactersOf_37 (by decide) ?_
          subst ex10
          subst ex5
          exact ih (k + 1) ((q.toUInt64 >>> ((8 : Int32).toInt64.toUInt64 &&& Int64.toUInt64 63)).toInt64) (by omega) (by omega) (by subst_vars; exact lx_co_step hlt c6 hE) H locs hP hS ls (lv_sub hl [2, 1, 0] rfl)
  exact hlp (8 + 1) 0 vv (Nat.zero_le _) (by omega) rfl H locs hP hS ls (lv_sub hl [2, 1, 0] rfl)

def rX5_put (M : jx_T) (vv : Int64) : Int32 := let x1 : Int32 := lx_chars vv; if x1 = 0 then ((-1000002)) else (if ((jx_tl M) + x1) ≤ 60 then (let f5 : (Nat → Int32) := (lx_put (jx_tx M) (jx_tl M) vv x1 x1.toNatClampNeg); (jx_tl M) + x1) else ((-1000004)))
def sX5_put (M : jx_T) (vv : Int64) : jx_T := let x1 : Int32 := lx_chars vv; if x1 = 0 then (M) else (if ((jx_tl M) + x1) ≤ 60 then (let f5 : (Nat → Int32) := (lx_put (jx_tx M) (jx_tl M) vv x1 x1.toNatClampNeg); (jx_utl (jx_utx M f5) ((jx_tl M) + x1))) else (M))
set_option maxHeartbeats 1000000 in
set_option maxRecDepth 100000 in
theorem c_X5_put (l : Launch) (D : va_G) (g : jk_G) (a : Nat → Nat) (M : jx_T) (vv : Int64) (ht : ∃ t : Nat, t ≤ 60 ∧ jx_tl M = nI t) : jk_M l D g yX5_put wsX5_put 2 49 [.ref (a 0), .long vv] (jx_W g a M) (some (.int (rX5_put M vv))) (jx_W g a (sX5_put M vv)) := by
  refine jk_of (cc := cX5_put) (maxL := 5) (ret := (some .int)) (by decide +kernel) rfl (Nat.le_of_ble_eq_true rfl) ?_
  intro p e s m args below meth c hx hb hr hml hts hown hlocks hK hN A H locs hP hD hA hS ls hl
  have hown : s.vm.findClass RX5 = some m.cls := hown
  have hl : lv_has ls 5 [(0, .ref (a 0)), (1, .long vv)] := hl
  have hf_128 := hts (.fieldLink RX5 128 "InfluenceJarsModel" "textLong" "I") (by decide +kernel)
  have hi_5 : ∀ w ∈ u_ws RX5 TX5 13, w ∈ wsX5_put := by decide +kernel
  have hf_25 := hts (.fieldLink RX5 25 "InfluenceJarsModel" "text" "[I") (by decide +kernel)
  have hk_146 := hts (.constantLong RX5 146 255) (by decide +kernel)
  have hk_114 := hts (.constant RX5 114 (-1000004)) (by decide +kernel)
  have hk_91 := hts (.constant RX5 91 (-1000002)) (by decide +kernel)
  refine lv_lload_n hx hb dX5_put_0 rfl (lv_at hl 1 rfl) ?_
  refine jk_callS (As := [.long vv]) (rest := []) (ws1 := (jx_W g a M)) ⟨hx, hb, hml, hown, hts⟩ (c_X5_charactersOf l D g vv) (va_cwS 1 hts gX5_put_X5_charactersOf rfl rfl rfl (by decide +kernel) ⟨Nat.le_of_ble_eq_true rfl, Nat.le_of_ble_eq_true rfl⟩) jk_nilP (jk_nilD (A := A)) hK hN rfl hl rfl (Nat.le_of_ble_eq_true rfl) dX5_put_1 ⟨Nat.zero_le _, Nat.zero_le _⟩ hS hA (fun _ _ hk => jk_keep hP hk) (fun H locs hP hS => ?_)
  refine W.eq (g2 := F0 m 4 ls [.int (lx_chars vv)]) rfl ?_
  refine lv_topi (fun x1 ex1 => ?_)
  refine lv_istore_n (lv' := [(3, .int x1), (0, .ref (a 0)), (1, .long vv)]) hx hb dX5_put_4 rfl hl (by decide) rfl (fun ls hl => ?_)
  refine lv_iload_n hx hb dX5_put_5 rfl (lv_at hl 0 rfl) ?_
  refine lv_if_ne (tgt := 12) hx hb dX5_put_6 (by decide) (fun c2 => ?_) (fun c2 => ?_)
  · refine lv_aload_n hx hb dX5_put_12 rfl (lv_at hl 1 rfl) ?_
    refine va_get (D := D) (ci := 5) (v := .int (jx_tl M)) (C := RX5) (T := TX5) (N := 13) hx hb hts hi_5 hown hK hP 0 rfl rfl 7 (by decide) hf_128 (fun _ h9 => h9) rfl dX5_put_13 ?_
    refine lv_iload_n hx hb dX5_put_16 rfl (lv_at hl 0 rfl) ?_
    refine lv_iadd hx hb dX5_put_17 ?_
    refine lv_bipush (v := 60) hx hb dX5_put_18 (by decide) ?_
    refine lv_icmp_le (tgt := 26) hx hb dX5_put_20 (by decide) (fun c3 => ?_) (fun c3 => ?_)
    · refine lv_iconst (v := 0) hx hb dX5_put_26 (by decide) ?_
      refine lv_istore (lv' := [(4, .int 0), (3, .int x1), (0, .ref (a 0)), (1, .long vv)]) hx hb dX5_put_27 hl (by decide) rfl (fun ls hl => ?_)
      have hlp : ∀ (n k : Nat), k ≤ x1.toNatClampNeg → x1.toNatClampNeg < k + n → ∀ (H : Heap) (locs : List Loc), va_P D vwCl (jx_W g a (jx_utx M (lx_put (jx_tx M) (jx_tl M) vv x1 k))) H → va_S A s.heap H locs → ∀ ls : Array Slot, lv_has ls 5 [(0, .ref (a 0)), (1, .long vv), (3, .int x1), (4, .int (nI k))] → W p l e ({ frames := 2, cells := 0, slots := 0, locals := 49 }) s m args below meth c H locs 0 0 (MQ below (jk_Q (some (.int (rX5_put M vv))) D (jx_W g a (sX5_put M vv)) A) args s 0 0 A) (F0 m 29 ls []) := by
        intro n
        induction n with
        | zero => intro k  hk1 hk2; exact absurd hk2 (by omega)
        | succ n ih =>
          intro k  hk hkn  H locs hP hS ls hl
          have hD : va_D A (jx_W g a (jx_utx M (lx_put (jx_tx M) (jx_tl M) vv x1 k))) := jk_D.same hD rfl
          refine lv_iload hx hb dX5_put_29 (lv_at hl 3 rfl) ?_
          refine lv_iload_n hx hb dX5_put_31 rfl (lv_at hl 2 rfl) ?_
          refine lv_icmp_ge (tgt := 69) hx hb dX5_put_32 (by decide) (fun c4 => ?_) (fun c4 => ?_)
          · have hk9 := jk_bge hk c4
            subst hk9
            obtain ⟨f5, ef5⟩ : ∃ z : Nat → Int32, z = (lx_put (jx_tx M) (jx_tl M) vv x1 x1.toNatClampNeg) := ⟨_, rfl⟩
            rw [← ef5] at hP hD
            refine lv_aload_n hx hb dX5_put_69 rfl (lv_at hl 0 rfl) ?_
            refine lv_dup hx hb dX5_put_70 rfl ?_
            refine va_get (D := D) (ci := 5) (v := .int (jx_tl M)) (C := RX5) (T := TX5) (N := 13) hx hb hts hi_5 hown hK hP 0 rfl rfl 7 (by decide) hf_128 (fun _ h9 => h9) rfl dX5_put_71 ?_
            refine lv_iload_n hx hb dX5_put_74 rfl (lv_at hl 2 rfl) ?_
            refine lv_iadd hx hb dX5_put_75 ?_
            refine va_put (D := D) (ci := 5) (v := .int ((jx_tl M) + x1)) (ty := .int) (C := RX5) (T := TX5) (N := 13) hx hb hts hi_5 tyX5 tyX5_ok nmX5 hown hK hP hD hS 0 rfl rfl 7 (by decide) hf_128 (fun _ h9 => h9) rfl (by decide +kernel) rfl rfl (Nat.le_of_ble_eq_true rfl) dX5_put_76 (fun H locs hP hD hS => ?_)
            have hP : va_P D vwCl (jx_W g a (jx_utl (jx_utx M f5) ((jx_tl M) + x1))) H := hP
            have hD : va_D A (jx_W g a (jx_utl (jx_utx M f5) ((jx_tl M) + x1))) := hD
            refine lv_aload_n hx hb dX5_put_79 rfl (lv_at hl 0 rfl) ?_
            refine va_get (D := D) (ci := 5) (v := .int ((jx_tl M) + x1)) (C := RX5) (T := TX5) (N := 13) hx hb hts hi_5 hown hK hP 0 rfl rfl 7 (by decide) hf_128 (fun _ h9 => h9) rfl dX5_put_80 ?_
            subst ef5
            subst ex1
            exact jk_iret hx hb hr hlocks hP hS (by unfold rX5_put; rw [if_neg c2, if_pos c3]) (congrArg (fun z => (jx_W g a z)) ((by unfold sX5_put; rw [if_neg c2, if_pos c3]))) dX5_put_83
          · have hlt := jk_blt hk c4
            refine lv_aload_n hx hb dX5_put_35 rfl (lv_at hl 0 rfl) ?_
            refine va_get (D := D) (ci := 5) (v := .ref (a 6)) (C := RX5) (T := TX5) (N := 13) hx hb hts hi_5 hown hK hP 0 rfl rfl 6 (by decide) hf_25 (fun _ h9 => h9) rfl dX5_put_36 ?_
            refine lv_aload_n hx hb dX5_put_39 rfl (lv_at hl 0 rfl) ?_
            refine va_get (D := D) (ci := 5) (v := .int (jx_tl M)) (C := RX5) (T := TX5) (N := 13) hx hb hts hi_5 hown hK hP 0 rfl rfl 7 (by decide) hf_128 (fun _ h9 => h9) rfl dX5_put_40 ?_
            refine lv_iload hx hb dX5_put_43 (lv_at hl 3 rfl) ?_
            refine lv_iadd hx hb dX5_put_45 ?_
            refine lv_lload_n hx hb dX5_put_46 rfl (lv_at hl 1 rfl) ?_
            refine lv_bipush (v := 8) hx hb dX5_put_47 (by decide) ?_
            refine lv_iload_n hx hb dX5_put_49 rfl (lv_at hl 2 rfl) ?_
            refine lv_iconst (v := 1) hx hb dX5_put_50 (by decide) ?_
            refine lv_isub hx hb dX5_put_51 ?_
            refine lv_iload hx hb dX5_put_52 (lv_at hl 3 rfl) ?_
            refine lv_isub hx hb dX5_put_54 ?_
            refine lv_imul hx hb dX5_put_55 ?_
            refine lv_lushr hx hb dX5_put_56 rfl ?_
            refine lv_topl (fun x6 ex6 => ?_)
            refine lv_ldc2 hx hb hown hk_146 dX5_put_57 ?_
            refine lv_land hx hb dX5_put_60 ?_
            refine lv_l2i hx hb dX5_put_61 rfl ?_
            refine va_iast (f := (lx_put (jx_tx M) (jx_tl M) vv x1 k)) hx hb hK hP hD hS 6 0 rfl rfl (lx_put_in ht (by rw [ex1]; exact lx_chars_n vv) c3 hlt) dX5_put_62 (fun H locs hP hD hS => ?_)
            obtain ⟨f7, ef7⟩ : ∃ z : Nat → Int32, z = (upd (lx_put (jx_tx M) (jx_tl M) vv x1 k) ((jx_tl M) + (nI k)).toNatClampNeg ((x6 &&& 255).toInt32)) := ⟨_, rfl⟩
            rw [← ef7] at hP hD
            have hP : va_P D vwCl (jx_W g a (jx_utx M f7)) H := hP
            have hD : va_D A (jx_W g a (jx_utx M f7)) := hD
            refine lv_iinc (v := nI (k + 1)) (lv' := [(4, .int (nI (k + 1))), (0, .ref (a 0)), (1, .long vv), (3, .int x1)]) hx hb dX5_put_63 hl (k := 3) rfl (nI_1 _) (by decide) rfl (fun ls hl => ?_)
            refine lv_goto (tgt := 29) hx hb dX5_put_66 (by decide) ?_
            subst ef7
            subst ex6
            exact ih (k + 1)  (by omega) (by omega)  H locs hP hS ls (lv_sub hl [1, 2, 3, 0] rfl)
      exact hlp (x1.toNatClampNeg + 1) 0  (Nat.zero_le _) (by omega)  H locs hP hS ls (lv_sub hl [2, 3, 1, 0] rfl)
    · refine lv_ldc hx hb hown hk_114 dX5_put_23 ?_
      subst ex1
      exact jk_iret hx hb hr hlocks hP hS (by unfold rX5_put; rw [if_neg c2, if_neg c3]) (congrArg (fun z => (jx_W g a z)) ((by unfold sX5_put; rw [if_neg c2, if_neg c3]))) dX5_put_25
  · refine lv_ldc hx hb hown hk_91 dX5_put_9 ?_
    subst ex1
    exact jk_iret hx hb hr hlocks hP hS (by unfold rX5_put; rw [if_pos c2]) (congrArg (fun z => (jx_W g a z)) ((by unfold sX5_put; rw [if_pos c2]))) dX5_put_11

def rX5_wipe (M : jx_T) : Int32 := (jx_tl M)
def sX5_wipe (M : jx_T) : jx_T := (jx_utl M 0)
set_option maxHeartbeats 1000000 in
set_option maxRecDepth 100000 in
theorem c_X5_wipe (l : Launch) (D : va_G) (g : jk_G) (a : Nat → Nat) (M : jx_T)  : jk_M l D g yX5_wipe wsX5_wipe 0 0 [.ref (a 0)] (jx_W g a M) (some (.int (rX5_wipe M))) (jx_W g a (sX5_wipe M)) := by
  refine jk_of (cc := cX5_wipe) (maxL := 2) (ret := (some .int)) (by decide +kernel) rfl (Nat.le_of_ble_eq_true rfl) ?_
  intro p e s m args below meth c hx hb hr hml hts hown hlocks hK hN A H locs hP hD hA hS ls hl
  have hown : s.vm.findClass RX5 = some m.cls := hown
  have hl : lv_has ls 2 [(0, .ref (a 0))] := hl
  have hf_128 := hts (.fieldLink RX5 128 "InfluenceJarsModel" "textLong" "I") (by decide +kernel)
  have hi_5 : ∀ w ∈ u_ws RX5 TX5 13, w ∈ wsX5_wipe := by decide +kernel
  refine lv_aload_n hx hb dX5_wipe_0 rfl (lv_at hl 0 rfl) ?_
  refine va_get (D := D) (ci := 5) (v := .int (jx_tl M)) (C := RX5) (T := TX5) (N := 13) hx hb hts hi_5 hown hK hP 0 rfl rfl 7 (by decide) hf_128 (fun _ h9 => h9) rfl dX5_wipe_1 ?_
  refine lv_istore_n (lv' := [(1, .int (jx_tl M)), (0, .ref (a 0))]) hx hb dX5_wipe_4 rfl hl (by decide) rfl (fun ls hl => ?_)
  refine lv_aload_n hx hb dX5_wipe_5 rfl (lv_at hl 1 rfl) ?_
  refine lv_iconst (v := 0) hx hb dX5_wipe_6 (by decide) ?_
  refine va_put (D := D) (ci := 5) (v := .int 0) (ty := .int) (C := RX5) (T := TX5) (N := 13) hx hb hts hi_5 tyX5 tyX5_ok nmX5 hown hK hP hD hS 0 rfl rfl 7 (by decide) hf_128 (fun _ h9 => h9) rfl (by decide +kernel) rfl rfl (Nat.le_of_ble_eq_true rfl) dX5_wipe_7 (fun H locs hP hD hS => ?_)
  have hP : va_P D vwCl (jx_W g a (jx_utl M 0)) H := hP
  have hD : va_D A (jx_W g a (jx_utl M 0)) := hD
  refine lv_iload_n hx hb dX5_wipe_10 rfl (lv_at hl 0 rfl) ?_
  exact jk_iret hx hb hr hlocks hP hS (rfl).symm (congrArg (fun z => (jx_W g a z)) ((rfl).symm)) dX5_wipe_11

def rX5_isHere (M : jx_T) (vu : Int32) (vv : Int32) : Int32 := if (jx_tl M) ≤ (jx_sp M) then (0) else (let x2 : Int32 := (jx_tx M) (jx_sp M).toNatClampNeg; let x3 : Int32 := rX5_in ((x2 : Int32).toInt64) ((vu : Int32).toInt64) ((vv : Int32).toInt64); if x3 = 0 then (0) else (1))
set_option maxHeartbeats 1000000 in
set_option maxRecDepth 100000 in
theorem c_X5_isHere (l : Launch) (D : va_G) (g : jk_G) (a : Nat → Nat) (M : jx_T) (vu : Int32) (vv : Int32) (ht : jx_tp M) : jk_M l D g yX5_isHere wsX5_isHere 1 25 [.ref (a 0), .int vu, .int vv] (jx_W g a M) (some (.int (rX5_isHere M vu vv))) (jx_W g a M) := by
  refine jk_of (cc := cX5_isHere) (maxL := 3) (ret := (some .boolean)) (by decide +kernel) rfl (Nat.le_of_ble_eq_true rfl) ?_
  intro p e s m args below meth c hx hb hr hml hts hown hlocks hK hN A H locs hP hD hA hS ls hl
  have hown : s.vm.findClass RX5 = some m.cls := hown
  have hl : lv_has ls 3 [(0, .ref (a 0)), (1, .int vu), (2, .int vv)] := hl
  have hf_156 := hts (.fieldLink RX5 156 "InfluenceJarsModel" "spot" "I") (by decide +kernel)
  have hi_5 : ∀ w ∈ u_ws RX5 TX5 13, w ∈ wsX5_isHere := by decide +kernel
  have hf_128 := hts (.fieldLink RX5 128 "InfluenceJarsModel" "textLong" "I") (by decide +kernel)
  have hf_25 := hts (.fieldLink RX5 25 "InfluenceJarsModel" "text" "[I") (by decide +kernel)
  refine lv_aload_n hx hb dX5_isHere_0 rfl (lv_at hl 0 rfl) ?_
  refine va_get (D := D) (ci := 5) (v := .int (jx_sp M)) (C := RX5) (T := TX5) (N := 13) hx hb hts hi_5 hown hK hP 0 rfl rfl 8 (by decide) hf_156 (fun _ h9 => h9) rfl dX5_isHere_1 ?_
  refine lv_aload_n hx hb dX5_isHere_4 rfl (lv_at hl 0 rfl) ?_
  refine va_get (D := D) (ci := 5) (v := .int (jx_tl M)) (C := RX5) (T := TX5) (N := 13) hx hb hts hi_5 hown hK hP 0 rfl rfl 7 (by decide) hf_128 (fun _ h9 => h9) rfl dX5_isHere_5 ?_
  refine lv_icmp_ge (tgt := 35) hx hb dX5_isHere_8 (by decide) (fun c1 => ?_) (fun c1 => ?_)
  · refine lv_iconst (v := 0) hx hb dX5_isHere_35 (by decide) ?_
    exact jk_zret hx hb hr rfl hlocks hP hS ((if_pos c1).trans (rfl)).symm rfl dX5_isHere_36
  · refine lv_aload_n hx hb dX5_isHere_11 rfl (lv_at hl 0 rfl) ?_
    refine va_get (D := D) (ci := 5) (v := .ref (a 6)) (C := RX5) (T := TX5) (N := 13) hx hb hts hi_5 hown hK hP 0 rfl rfl 6 (by decide) hf_25 (fun _ h9 => h9) rfl dX5_isHere_12 ?_
    refine lv_aload_n hx hb dX5_isHere_15 rfl (lv_at hl 0 rfl) ?_
    refine va_get (D := D) (ci := 5) (v := .int (jx_sp M)) (C := RX5) (T := TX5) (N := 13) hx hb hts hi_5 hown hK hP 0 rfl rfl 8 (by decide) hf_156 (fun _ h9 => h9) rfl dX5_isHere_16 ?_
    refine va_iald (f := (jx_tx M)) hx hb hK hP 6 0 rfl rfl (by subst_vars; exact jx_tp_lt ht c1) dX5_isHere_19 ?_
    refine lv_topi (fun x2 ex2 => ?_)
    refine lv_i2l hx hb dX5_isHere_20 rfl ?_
    refine lv_iload_n hx hb dX5_isHere_21 rfl (lv_at hl 1 rfl) ?_
    refine lv_i2l hx hb dX5_isHere_22 rfl ?_
    refine lv_iload_n hx hb dX5_isHere_23 rfl (lv_at hl 2 rfl) ?_
    refine lv_i2l hx hb dX5_isHere_24 rfl ?_
    refine jk_callS (As := [.long ((x2 : Int32).toInt64), .long ((vu : Int32).toInt64), .long ((vv : Int32).toInt64)]) (rest := []) (ws1 := (jx_W g a M)) ⟨hx, hb, hml, hown, hts⟩ (c_X5_in l D g ((x2 : Int32).toInt64) ((vu : Int32).toInt64) ((vv : Int32).toInt64)) (va_cwS 3 hts gX5_isHere_X5_in rfl rfl rfl (by decide +kernel) ⟨Nat.le_of_ble_eq_true rfl, Nat.le_of_ble_eq_true rfl⟩) jk_nilP (jk_nilD (A := A)) hK hN rfl hl rfl (Nat.le_of_ble_eq_true rfl) dX5_isHere_25 ⟨Nat.zero_le _, Nat.zero_le _⟩ hS hA (fun _ _ hk => jk_keep hP hk) (fun H locs hP hS => ?_)
    refine W.eq (g2 := F0 m 28 ls [.int (rX5_in ((x2 : Int32).toInt64) ((vu : Int32).toInt64) ((vv : Int32).toInt64))]) rfl ?_
    refine lv_topi (fun x3 ex3 => ?_)
    refine lv_if_eq (tgt := 35) hx hb dX5_isHere_28 (by decide) (fun c4 => ?_) (fun c4 => ?_)
    · refine lv_iconst (v := 0) hx hb dX5_isHere_35 (by decide) ?_
      subst ex3
      subst ex2
      exact jk_zret hx hb hr rfl hlocks hP hS ((if_neg c1).trans ((if_pos c4).trans (rfl))).symm rfl dX5_isHere_36
    · refine lv_iconst (v := 1) hx hb dX5_isHere_31 (by decide) ?_
      refine lv_goto (tgt := 36) hx hb dX5_isHere_32 (by decide) ?_
      subst ex3
      subst ex2
      exact jk_zret hx hb hr rfl hlocks hP hS ((if_neg c1).trans ((if_neg c4).trans (rfl))).symm rfl dX5_isHere_36
