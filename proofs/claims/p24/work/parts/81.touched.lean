/-! ===== a touch by the pad ===== -/
theorem addn_chs {P : jp_T} (h : jp_chs P) (t : Nat) {n : Nat} (hn : n < 100) : jp_chs (addn P t n) := by
  unfold addn
  by_cases c : n < 10
  · rw [if_pos c]
    exact addc_chs h _ (by omega)
  · rw [if_neg c]
    exact addc_chs (addc_chs h _ (by omega)) _ (by omega)
theorem tc_chs {P : jp_T} (h : jp_chs P) {d p : Nat} (hd : d < 2) (hp : p < 12) (s : Bool) {n : Nat} (hn : n < 100) : jp_chs (tcP (sX3_clear P) d p s n) := by
  have h0 : jp_chs (sX3_clear P) := h
  have h2 : jp_chs (addc (addn (addc (sX3_clear P) 0 (if d = 0 then 102 else 98)) 1 p) (1 + nlen p) 61) := addc_chs (addn_chs (addc_chs h0 _ (by split <;> omega)) _ (by omega)) _ (by omega)
  unfold tcP
  cases s
  · exact addn_chs h2 _ hn
  · exact addn_chs (addc_chs h2 _ (by omega)) _ hn
theorem padok_clear {P : jp_T} (h : jp_chs P) : padok (sX3_clear P) := ⟨rfl, h⟩
theorem put_sp (N : jm_T) (d p x : Int32) : jm_sp (sX2_putCharge N d p x) = jm_sp N := rfl
theorem tc_runS (P : jp_T) {d p : Nat} (hd : d < 2) (hp : p < 12) (s : Bool) {n : Nat} (hn : n < 100) {P5 : jp_T} (hP : P5 = tcP P d p s n) (N : jm_T) (Q : jd_T) : (lc_ff P5 61 (jd_uat Q 0)).1 = -1000006 ∧ (lc_rl P5 60 N (sX0_start (lc_ff P5 61 (jd_uat Q 0)).2)).1 = sX2_putCharge N (nI d) (nI p) (if s then -nI n else nI n) := by
  subst hP
  exact tc_run P hd hp s hn N Q
theorem nn_ge (n : Nat) (h : n < 100) : 0 ≤ nI n := by
  rw [Int32.le_iff_toInt_le, nI_toInt (by omega), Int32.toInt_zero]
  omega
theorem ng_lt {n : Nat} (h : n < 100) (h0 : n ≠ 0) : -nI n < 0 := by
  rw [Int32.lt_iff_toInt_lt, nq_T (by rw [nI_toInt (by omega)]; omega), nI_toInt (by omega), Int32.toInt_zero]
  omega
theorem put_sec {N : jm_T} {T : Nat} (hT : jm_tu N = nI T) (h6 : T < 1000000) {d p : Nat} (hd : d < 2) (hp : p < 12) (x : Int32) : rX4_sector (sX2_putCharge N (nI d) (nI p) x) (nI d) (nI p) = x := by
  rw [(put_T hT h6 hd hp x).2, sec_at (N := jm_upo (jm_uch N (upd (jm_ch N) (sg T (12 * d + p)) x)) (jm_po N + (x - jm_ch N (sg T (12 * d + p))))) hT h6 hd hp]
  exact pk_us

set_option maxHeartbeats 2000000 in
set_option maxRecDepth 20000 in
theorem e_isTouched_0p (l : Launch) (D : va_G) (g : jk_G) (tl tm : Nat) (a : Nat → Nat → Nat) (S : oS) {T pl n : Nat} (hT : jm_tu (oN S) = nI T) (h6 : T < 1000000) (hpad : padok (oP S)) (hp : pl < 12) (hn : n < 100) : kE l D g tl tm yL_isTouched wsL_isTouched 8 182 7 72 [.ref (a 0 0), .int (nI 0), .int (nI pl), .int (nI n)] (WO g a S) 1 (fun w => ∃ Q P, padok P ∧ WO g a (sX2_putCharge (oN S) (nI 0) (nI pl) (nI n), jf_u (oF S) (jh_ix (oH S)).toNatClampNeg (oN S), oG S, jh_rec (oH S), Q, P) w) := by
  have lp := nlen_le pl
  refine kE_of (cc := cL_isTouched) (maxL := 4) (ret := (some .boolean)) (by decide +kernel) rfl (Nat.le_of_ble_eq_true rfl) ?_
  intro w hw p e s m args below meth c hx hb hr hml hts hown hlocks hK hN A H locs hZ hP hD hA hS ls hl
  have hown : s.vm.findClass RL = some m.cls := hown
  have hl : lv_has ls 4 [(0, .ref (a 0 0)), (1, .int (nI 0)), (2, .int (nI pl)), (3, .int (nI n))] := hl
  refine lv_aload_n hx hb dL_isTouched_0 rfl (lv_at hl 0 rfl) ?_
  refine kE_callV (As := []) (rest := []) ⟨hx, hb, hml, hown, hts⟩ (k_wipe l D g tl tm a S) hw (cw_isTouched_X4_wipe hts) ⟨Nat.le_of_ble_eq_true rfl, Nat.le_of_ble_eq_true rfl⟩ (WO_cell hK hP hw) hZ hP hD hK hN rfl hl rfl (Nat.le_of_ble_eq_true rfl) dL_isTouched_1 ⟨Nat.le_of_ble_eq_true rfl, Nat.le_of_ble_eq_true rfl⟩ hS hA (fun w H locs hw hP hD hS => ?_)
  refine lv_if_lt (tgt := 97) hx hb dL_isTouched_4 (by decide) (fun c1 => ?_) (fun c1 => ?_)
  · exact absurd c1 (Int32.not_lt.mpr (by rw [hpad.1]; decide))
  refine lv_aload_n hx hb dL_isTouched_7 rfl (lv_at hl 0 rfl) ?_
  refine lv_iload_n hx hb dL_isTouched_8 rfl (lv_at hl 1 rfl) ?_
  refine lv_if_ne (tgt := 18) hx hb dL_isTouched_9 (by decide) (fun c2 => ?_) (fun c2 => ?_)
  · exact absurd rfl c2
  refine lv_ldc2 (v := 102) hx hb hown (hts (.constantLong RL 19 102) (by decide +kernel)) dL_isTouched_12 ?_
  refine lv_goto (tgt := 21) hx hb dL_isTouched_15 (by decide) ?_
  refine kE_callV (As := [.long 102]) (rest := []) ⟨hx, hb, hml, hown, hts⟩ (k_put l D g tl tm a (opad S (sX3_clear (oP S))) (t := 0) (c := 102) rfl (by omega) (by omega) (by omega)) hw (cw_isTouched_X4_put hts) ⟨Nat.le_of_ble_eq_true rfl, Nat.le_of_ble_eq_true rfl⟩ (WO_cell hK hP hw) hZ hP hD hK hN rfl hl rfl (Nat.le_of_ble_eq_true rfl) dL_isTouched_21 ⟨Nat.le_of_ble_eq_true rfl, Nat.le_of_ble_eq_true rfl⟩ hS hA (fun w H locs hw hP hD hS => ?_)
  refine lv_if_le (tgt := 97) hx hb dL_isTouched_24 (by decide) (fun c3 => ?_) (fun c3 => ?_)
  · exact absurd c3 (Int32.not_le.mpr (pos_nI (by omega) (by omega)))
  refine lv_aload_n hx hb dL_isTouched_27 rfl (lv_at hl 0 rfl) ?_
  refine lv_iload_n hx hb dL_isTouched_28 rfl (lv_at hl 2 rfl) ?_
  refine kE_callS (As := [.ref (a 0 0), .int (nI pl)]) (rest := []) ⟨hx, hb, hml, hown, hts⟩ (e_number l D g tl tm a (opad S (addc (sX3_clear (oP S)) 0 102)) (t := 1) (n := pl) rfl (by omega) (by omega)) hw (cw_isTouched_L_number hts) ⟨Nat.le_of_ble_eq_true rfl, Nat.le_of_ble_eq_true rfl⟩ hZ hP hD hK hN rfl hl rfl (Nat.le_of_ble_eq_true rfl) dL_isTouched_29 ⟨Nat.le_of_ble_eq_true rfl, Nat.le_of_ble_eq_true rfl⟩ hS hA (fun w H locs hw hP hD hS => ?_)
  refine lv_if_eq (tgt := 97) hx hb dL_isTouched_32 (by decide) (fun c4 => ?_) (fun c4 => ?_)
  · exact absurd c4 (by decide)
  refine lv_aload_n hx hb dL_isTouched_35 rfl (lv_at hl 0 rfl) ?_
  refine lv_ldc2 (v := 61) hx hb hown (hts (.constantLong RL 29 61) (by decide +kernel)) dL_isTouched_36 ?_
  refine kE_callV (As := [.long 61]) (rest := []) ⟨hx, hb, hml, hown, hts⟩ (k_put l D g tl tm a (opad S (addn (addc (sX3_clear (oP S)) 0 102) 1 pl)) (t := 1 + nlen pl) (c := 61) (addn_ln _ _ _) (by omega) (by omega) (by omega)) hw (cw_isTouched_X4_put hts) ⟨Nat.le_of_ble_eq_true rfl, Nat.le_of_ble_eq_true rfl⟩ (WO_cell hK hP hw) hZ hP hD hK hN rfl hl rfl (Nat.le_of_ble_eq_true rfl) dL_isTouched_39 ⟨Nat.le_of_ble_eq_true rfl, Nat.le_of_ble_eq_true rfl⟩ hS hA (fun w H locs hw hP hD hS => ?_)
  refine lv_if_le (tgt := 97) hx hb dL_isTouched_42 (by decide) (fun c5 => ?_) (fun c5 => ?_)
  · exact absurd c5 (Int32.not_le.mpr (pos_nI (by omega) (by omega)))
  refine lv_iload_n hx hb dL_isTouched_45 rfl (lv_at hl 3 rfl) ?_
  refine lv_if_ge (tgt := 59) hx hb dL_isTouched_46 (by decide) (fun c6 => ?_) (fun c6 => ?_)
  rotate_left
  · exact absurd (nn_ge n hn) c6
  refine lv_aload_n hx hb dL_isTouched_59 rfl (lv_at hl 0 rfl) ?_
  refine lv_iload_n hx hb dL_isTouched_60 rfl (lv_at hl 3 rfl) ?_
  refine lv_if_ge (tgt := 69) hx hb dL_isTouched_61 (by decide) (fun c7 => ?_) (fun c7 => ?_)
  rotate_left
  · exact absurd (nn_ge n hn) c7
  refine lv_iload_n hx hb dL_isTouched_69 rfl (lv_at hl 3 rfl) ?_
  refine kE_callS (As := [.ref (a 0 0), .int (nI n)]) (rest := []) ⟨hx, hb, hml, hown, hts⟩ (e_number l D g tl tm a (opad S (addc (addn (addc (sX3_clear (oP S)) 0 102) 1 pl) (1 + nlen pl) 61)) (t := 2 + nlen pl) (n := n) (show jp_ln (oP (opad S (addc (addn (addc (sX3_clear (oP S)) 0 102) 1 pl) (1 + nlen pl) 61))) = nI (2 + nlen pl) from by show nI (1 + nlen pl + 1) = _; congr 1; omega) (by omega) (by omega)) hw (cw_isTouched_L_number hts) ⟨Nat.le_of_ble_eq_true rfl, Nat.le_of_ble_eq_true rfl⟩ hZ hP hD hK hN rfl hl rfl (Nat.le_of_ble_eq_true rfl) dL_isTouched_70 ⟨Nat.le_of_ble_eq_true rfl, Nat.le_of_ble_eq_true rfl⟩ hS hA (fun w H locs hw hP hD hS => ?_)
  refine lv_if_eq (tgt := 97) hx hb dL_isTouched_73 (by decide) (fun c8 => ?_) (fun c8 => ?_)
  · exact absurd c8 (by decide)
  refine lv_aload_n hx hb dL_isTouched_76 rfl (lv_at hl 0 rfl) ?_
  refine kE_callV (As := []) (rest := []) ⟨hx, hb, hml, hown, hts⟩ (k_run l D g tl tm a (opad S (tcP (sX3_clear (oP S)) 0 pl false n)) (tc_chs hpad.2 (by omega) hp false hn) (sX2_putCharge (oN (opad S (tcP (sX3_clear (oP S)) 0 pl false n))) (nI 0) (nI pl) (nI n)) (tc_runS (sX3_clear (oP S)) (d := 0) (by omega) hp false hn (P5 := oP (opad S (tcP (sX3_clear (oP S)) 0 pl false n))) rfl (oN (opad S (tcP (sX3_clear (oP S)) 0 pl false n))) (oQ (opad S (tcP (sX3_clear (oP S)) 0 pl false n)))).1 (tc_runS (sX3_clear (oP S)) (d := 0) (by omega) hp false hn (P5 := oP (opad S (tcP (sX3_clear (oP S)) 0 pl false n))) rfl (oN (opad S (tcP (sX3_clear (oP S)) 0 pl false n))) (oQ (opad S (tcP (sX3_clear (oP S)) 0 pl false n)))).2 (put_sp _ _ _ _)) hw (cw_isTouched_X4_run hts) ⟨Nat.le_of_ble_eq_true rfl, Nat.le_of_ble_eq_true rfl⟩ (WO_cell hK hP hw) hZ hP hD hK hN rfl hl rfl (Nat.le_of_ble_eq_true rfl) dL_isTouched_77 ⟨Nat.le_of_ble_eq_true rfl, Nat.le_of_ble_eq_true rfl⟩ hS hA (fun w H locs hw hP hD hS => ?_)
  obtain ⟨Q9, hw⟩ := hw
  have hq9 : padok (sX3_clear (oP (opad S (tcP (sX3_clear (oP S)) 0 pl false n)))) := padok_clear (tc_chs hpad.2 (by omega) hp false hn)
  generalize sX3_clear (oP (opad S (tcP (sX3_clear (oP S)) 0 pl false n))) = P9 at hw hq9
  have hw : WO g a (sX2_putCharge (oN S) (nI 0) (nI pl) (nI n), jf_u (oF S) (jh_ix (oH S)).toNatClampNeg (oN S), oG S, jh_rec (oH S), Q9, P9) w := hw
  refine lv_if_ne (tgt := 97) hx hb dL_isTouched_80 (by decide) (fun c9 => ?_) (fun c9 => ?_)
  · exact absurd (by decide) c9
  refine lv_aload_n hx hb dL_isTouched_83 rfl (lv_at hl 0 rfl) ?_
  refine lv_iload_n hx hb dL_isTouched_84 rfl (lv_at hl 1 rfl) ?_
  refine lv_iload_n hx hb dL_isTouched_85 rfl (lv_at hl 2 rfl) ?_
  refine kE_callV (As := [.int (nI 0), .int (nI pl)]) (rest := []) ⟨hx, hb, hml, hown, hts⟩ (k_sector l D g tl tm a (sX2_putCharge (oN S) (nI 0) (nI pl) (nI n), jf_u (oF S) (jh_ix (oH S)).toNatClampNeg (oN S), oG S, jh_rec (oH S), Q9, P9) (nI 0) (nI pl)) hw (cw_isTouched_X4_sector hts) ⟨Nat.le_of_ble_eq_true rfl, Nat.le_of_ble_eq_true rfl⟩ (WO_cell hK hP hw) hZ hP hD hK hN rfl hl rfl (Nat.le_of_ble_eq_true rfl) dL_isTouched_86 ⟨Nat.le_of_ble_eq_true rfl, Nat.le_of_ble_eq_true rfl⟩ hS hA (fun w H locs hw hP hD hS => ?_)
  refine lv_iload_n hx hb dL_isTouched_89 rfl (lv_at hl 3 rfl) ?_
  refine lv_icmp_ne (tgt := 97) hx hb dL_isTouched_90 (by decide) (fun c10 => ?_) (fun c10 => ?_)
  · exact absurd (put_sec hT h6 (d := 0) (by omega) hp (nI n)) c10
  refine lv_iconst (v := 1) hx hb dL_isTouched_93 (by decide) ?_
  refine lv_goto (tgt := 98) hx hb dL_isTouched_94 (by decide) ?_
  exact kE_zret hx hb hr (by decide) hlocks ⟨Q9, P9, hq9, hw⟩ hP hD hS (Nat.le_of_ble_eq_true rfl) (Nat.le_of_ble_eq_true rfl) rfl dL_isTouched_98

set_option maxHeartbeats 2000000 in
set_option maxRecDepth 20000 in
theorem e_isTouched_0n (l : Launch) (D : va_G) (g : jk_G) (tl tm : Nat) (a : Nat → Nat → Nat) (S : oS) {T pl n : Nat} (hT : jm_tu (oN S) = nI T) (h6 : T < 1000000) (hpad : padok (oP S)) (hp : pl < 12) (hn : n < 100) (hs : n ≠ 0) : kE l D g tl tm yL_isTouched wsL_isTouched 8 182 7 72 [.ref (a 0 0), .int (nI 0), .int (nI pl), .int (-nI n)] (WO g a S) 1 (fun w => ∃ Q P, padok P ∧ WO g a (sX2_putCharge (oN S) (nI 0) (nI pl) (-nI n), jf_u (oF S) (jh_ix (oH S)).toNatClampNeg (oN S), oG S, jh_rec (oH S), Q, P) w) := by
  have lp := nlen_le pl
  refine kE_of (cc := cL_isTouched) (maxL := 4) (ret := (some .boolean)) (by decide +kernel) rfl (Nat.le_of_ble_eq_true rfl) ?_
  intro w hw p e s m args below meth c hx hb hr hml hts hown hlocks hK hN A H locs hZ hP hD hA hS ls hl
  have hown : s.vm.findClass RL = some m.cls := hown
  have hl : lv_has ls 4 [(0, .ref (a 0 0)), (1, .int (nI 0)), (2, .int (nI pl)), (3, .int (-nI n))] := hl
  refine lv_aload_n hx hb dL_isTouched_0 rfl (lv_at hl 0 rfl) ?_
  refine kE_callV (As := []) (rest := []) ⟨hx, hb, hml, hown, hts⟩ (k_wipe l D g tl tm a S) hw (cw_isTouched_X4_wipe hts) ⟨Nat.le_of_ble_eq_true rfl, Nat.le_of_ble_eq_true rfl⟩ (WO_cell hK hP hw) hZ hP hD hK hN rfl hl rfl (Nat.le_of_ble_eq_true rfl) dL_isTouched_1 ⟨Nat.le_of_ble_eq_true rfl, Nat.le_of_ble_eq_true rfl⟩ hS hA (fun w H locs hw hP hD hS => ?_)
  refine lv_if_lt (tgt := 97) hx hb dL_isTouched_4 (by decide) (fun c1 => ?_) (fun c1 => ?_)
  · exact absurd c1 (Int32.not_lt.mpr (by rw [hpad.1]; decide))
  refine lv_aload_n hx hb dL_isTouched_7 rfl (lv_at hl 0 rfl) ?_
  refine lv_iload_n hx hb dL_isTouched_8 rfl (lv_at hl 1 rfl) ?_
  refine lv_if_ne (tgt := 18) hx hb dL_isTouched_9 (by decide) (fun c2 => ?_) (fun c2 => ?_)
  · exact absurd rfl c2
  refine lv_ldc2 (v := 102) hx hb hown (hts (.constantLong RL 19 102) (by decide +kernel)) dL_isTouched_12 ?_
  refine lv_goto (tgt := 21) hx hb dL_isTouched_15 (by decide) ?_
  refine kE_callV (As := [.long 102]) (rest := []) ⟨hx, hb, hml, hown, hts⟩ (k_put l D g tl tm a (opad S (sX3_clear (oP S))) (t := 0) (c := 102) rfl (by omega) (by omega) (by omega)) hw (cw_isTouched_X4_put hts) ⟨Nat.le_of_ble_eq_true rfl, Nat.le_of_ble_eq_true rfl⟩ (WO_cell hK hP hw) hZ hP hD hK hN rfl hl rfl (Nat.le_of_ble_eq_true rfl) dL_isTouched_21 ⟨Nat.le_of_ble_eq_true rfl, Nat.le_of_ble_eq_true rfl⟩ hS hA (fun w H locs hw hP hD hS => ?_)
  refine lv_if_le (tgt := 97) hx hb dL_isTouched_24 (by decide) (fun c3 => ?_) (fun c3 => ?_)
  · exact absurd c3 (Int32.not_le.mpr (pos_nI (by omega) (by omega)))
  refine lv_aload_n hx hb dL_isTouched_27 rfl (lv_at hl 0 rfl) ?_
  refine lv_iload_n hx hb dL_isTouched_28 rfl (lv_at hl 2 rfl) ?_
  refine kE_callS (As := [.ref (a 0 0), .int (nI pl)]) (rest := []) ⟨hx, hb, hml, hown, hts⟩ (e_number l D g tl tm a (opad S (addc (sX3_clear (oP S)) 0 102)) (t := 1) (n := pl) rfl (by omega) (by omega)) hw (cw_isTouched_L_number hts) ⟨Nat.le_of_ble_eq_true rfl, Nat.le_of_ble_eq_true rfl⟩ hZ hP hD hK hN rfl hl rfl (Nat.le_of_ble_eq_true rfl) dL_isTouched_29 ⟨Nat.le_of_ble_eq_true rfl, Nat.le_of_ble_eq_true rfl⟩ hS hA (fun w H locs hw hP hD hS => ?_)
  refine lv_if_eq (tgt := 97) hx hb dL_isTouched_32 (by decide) (fun c4 => ?_) (fun c4 => ?_)
  · exact absurd c4 (by decide)
  refine lv_aload_n hx hb dL_isTouched_35 rfl (lv_at hl 0 rfl) ?_
  refine lv_ldc2 (v := 61) hx hb hown (hts (.constantLong RL 29 61) (by decide +kernel)) dL_isTouched_36 ?_
  refine kE_callV (As := [.long 61]) (rest := []) ⟨hx, hb, hml, hown, hts⟩ (k_put l D g tl tm a (opad S (addn (addc (sX3_clear (oP S)) 0 102) 1 pl)) (t := 1 + nlen pl) (c := 61) (addn_ln _ _ _) (by omega) (by omega) (by omega)) hw (cw_isTouched_X4_put hts) ⟨Nat.le_of_ble_eq_true rfl, Nat.le_of_ble_eq_true rfl⟩ (WO_cell hK hP hw) hZ hP hD hK hN rfl hl rfl (Nat.le_of_ble_eq_true rfl) dL_isTouched_39 ⟨Nat.le_of_ble_eq_true rfl, Nat.le_of_ble_eq_true rfl⟩ hS hA (fun w H locs hw hP hD hS => ?_)
  refine lv_if_le (tgt := 97) hx hb dL_isTouched_42 (by decide) (fun c5 => ?_) (fun c5 => ?_)
  · exact absurd c5 (Int32.not_le.mpr (pos_nI (by omega) (by omega)))
  refine lv_iload_n hx hb dL_isTouched_45 rfl (lv_at hl 3 rfl) ?_
  refine lv_if_ge (tgt := 59) hx hb dL_isTouched_46 (by decide) (fun c6 => ?_) (fun c6 => ?_)
  · exact absurd c6 (Int32.not_le.mpr (ng_lt hn hs))
  refine lv_aload_n hx hb dL_isTouched_49 rfl (lv_at hl 0 rfl) ?_
  refine lv_ldc2 (v := 45) hx hb hown (hts (.constantLong RL 31 45) (by decide +kernel)) dL_isTouched_50 ?_
  refine kE_callV (As := [.long 45]) (rest := []) ⟨hx, hb, hml, hown, hts⟩ (k_put l D g tl tm a (opad S (addc (addn (addc (sX3_clear (oP S)) 0 102) 1 pl) (1 + nlen pl) 61)) (t := 2 + nlen pl) (c := 45) (show jp_ln (oP (opad S (addc (addn (addc (sX3_clear (oP S)) 0 102) 1 pl) (1 + nlen pl) 61))) = nI (2 + nlen pl) from by show nI (1 + nlen pl + 1) = _; congr 1; omega) (by omega) (by omega) (by omega)) hw (cw_isTouched_X4_put hts) ⟨Nat.le_of_ble_eq_true rfl, Nat.le_of_ble_eq_true rfl⟩ (WO_cell hK hP hw) hZ hP hD hK hN rfl hl rfl (Nat.le_of_ble_eq_true rfl) dL_isTouched_53 ⟨Nat.le_of_ble_eq_true rfl, Nat.le_of_ble_eq_true rfl⟩ hS hA (fun w H locs hw hP hD hS => ?_)
  refine lv_if_le (tgt := 97) hx hb dL_isTouched_56 (by decide) (fun c7 => ?_) (fun c7 => ?_)
  · exact absurd c7 (Int32.not_le.mpr (pos_nI (by omega) (by omega)))
  refine lv_aload_n hx hb dL_isTouched_59 rfl (lv_at hl 0 rfl) ?_
  refine lv_iload_n hx hb dL_isTouched_60 rfl (lv_at hl 3 rfl) ?_
  refine lv_if_ge (tgt := 69) hx hb dL_isTouched_61 (by decide) (fun c8 => ?_) (fun c8 => ?_)
  · exact absurd c8 (Int32.not_le.mpr (ng_lt hn hs))
  refine lv_iload_n hx hb dL_isTouched_64 rfl (lv_at hl 3 rfl) ?_
  refine lv_ineg hx hb dL_isTouched_65 ?_
  refine lv_topi (fun y9 e9 => ?_)
  obtain rfl : y9 = nI n := e9.trans (nq_nn _)
  refine lv_goto (tgt := 70) hx hb dL_isTouched_66 (by decide) ?_
  refine kE_callS (As := [.ref (a 0 0), .int (nI n)]) (rest := []) ⟨hx, hb, hml, hown, hts⟩ (e_number l D g tl tm a (opad S (addc (addc (addn (addc (sX3_clear (oP S)) 0 102) 1 pl) (1 + nlen pl) 61) (2 + nlen pl) 45)) (t := 3 + nlen pl) (n := n) (show jp_ln (oP (opad S (addc (addc (addn (addc (sX3_clear (oP S)) 0 102) 1 pl) (1 + nlen pl) 61) (2 + nlen pl) 45))) = nI (3 + nlen pl) from by show nI (2 + nlen pl + 1) = _; congr 1; omega) (by omega) (by omega)) hw (cw_isTouched_L_number hts) ⟨Nat.le_of_ble_eq_true rfl, Nat.le_of_ble_eq_true rfl⟩ hZ hP hD hK hN rfl hl rfl (Nat.le_of_ble_eq_true rfl) dL_isTouched_70 ⟨Nat.le_of_ble_eq_true rfl, Nat.le_of_ble_eq_true rfl⟩ hS hA (fun w H locs hw hP hD hS => ?_)
  refine lv_if_eq (tgt := 97) hx hb dL_isTouched_73 (by decide) (fun c9 => ?_) (fun c9 => ?_)
  · exact absurd c9 (by decide)
  refine lv_aload_n hx hb dL_isTouched_76 rfl (lv_at hl 0 rfl) ?_
  refine kE_callV (As := []) (rest := []) ⟨hx, hb, hml, hown, hts⟩ (k_run l D g tl tm a (opad S (tcP (sX3_clear (oP S)) 0 pl true n)) (tc_chs hpad.2 (by omega) hp true hn) (sX2_putCharge (oN (opad S (tcP (sX3_clear (oP S)) 0 pl true n))) (nI 0) (nI pl) (-nI n)) (tc_runS (sX3_clear (oP S)) (d := 0) (by omega) hp true hn (P5 := oP (opad S (tcP (sX3_clear (oP S)) 0 pl true n))) rfl (oN (opad S (tcP (sX3_clear (oP S)) 0 pl true n))) (oQ (opad S (tcP (sX3_clear (oP S)) 0 pl true n)))).1 (tc_runS (sX3_clear (oP S)) (d := 0) (by omega) hp true hn (P5 := oP (opad S (tcP (sX3_clear (oP S)) 0 pl true n))) rfl (oN (opad S (tcP (sX3_clear (oP S)) 0 pl true n))) (oQ (opad S (tcP (sX3_clear (oP S)) 0 pl true n)))).2 (put_sp _ _ _ _)) hw (cw_isTouched_X4_run hts) ⟨Nat.le_of_ble_eq_true rfl, Nat.le_of_ble_eq_true rfl⟩ (WO_cell hK hP hw) hZ hP hD hK hN rfl hl rfl (Nat.le_of_ble_eq_true rfl) dL_isTouched_77 ⟨Nat.le_of_ble_eq_true rfl, Nat.le_of_ble_eq_true rfl⟩ hS hA (fun w H locs hw hP hD hS => ?_)
  obtain ⟨Q9, hw⟩ := hw
  have hq9 : padok (sX3_clear (oP (opad S (tcP (sX3_clear (oP S)) 0 pl true n)))) := padok_clear (tc_chs hpad.2 (by omega) hp true hn)
  generalize sX3_clear (oP (opad S (tcP (sX3_clear (oP S)) 0 pl true n))) = P9 at hw hq9
  have hw : WO g a (sX2_putCharge (oN S) (nI 0) (nI pl) (-nI n), jf_u (oF S) (jh_ix (oH S)).toNatClampNeg (oN S), oG S, jh_rec (oH S), Q9, P9) w := hw
  refine lv_if_ne (tgt := 97) hx hb dL_isTouched_80 (by decide) (fun c10 => ?_) (fun c10 => ?_)
  · exact absurd (by decide) c10
  refine lv_aload_n hx hb dL_isTouched_83 rfl (lv_at hl 0 rfl) ?_
  refine lv_iload_n hx hb dL_isTouched_84 rfl (lv_at hl 1 rfl) ?_
  refine lv_iload_n hx hb dL_isTouched_85 rfl (lv_at hl 2 rfl) ?_
  refine kE_callV (As := [.int (nI 0), .int (nI pl)]) (rest := []) ⟨hx, hb, hml, hown, hts⟩ (k_sector l D g tl tm a (sX2_putCharge (oN S) (nI 0) (nI pl) (-nI n), jf_u (oF S) (jh_ix (oH S)).toNatClampNeg (oN S), oG S, jh_rec (oH S), Q9, P9) (nI 0) (nI pl)) hw (cw_isTouched_X4_sector hts) ⟨Nat.le_of_ble_eq_true rfl, Nat.le_of_ble_eq_true rfl⟩ (WO_cell hK hP hw) hZ hP hD hK hN rfl hl rfl (Nat.le_of_ble_eq_true rfl) dL_isTouched_86 ⟨Nat.le_of_ble_eq_true rfl, Nat.le_of_ble_eq_true rfl⟩ hS hA (fun w H locs hw hP hD hS => ?_)
  refine lv_iload_n hx hb dL_isTouched_89 rfl (lv_at hl 3 rfl) ?_
  refine lv_icmp_ne (tgt := 97) hx hb dL_isTouched_90 (by decide) (fun c11 => ?_) (fun c11 => ?_)
  · exact absurd (put_sec hT h6 (d := 0) (by omega) hp (-nI n)) c11
  refine lv_iconst (v := 1) hx hb dL_isTouched_93 (by decide) ?_
  refine lv_goto (tgt := 98) hx hb dL_isTouched_94 (by decide) ?_
  exact kE_zret hx hb hr (by decide) hlocks ⟨Q9, P9, hq9, hw⟩ hP hD hS (Nat.le_of_ble_eq_true rfl) (Nat.le_of_ble_eq_true rfl) rfl dL_isTouched_98

set_option maxHeartbeats 2000000 in
set_option maxRecDepth 20000 in
theorem e_isTouched_1p (l : Launch) (D : va_G) (g : jk_G) (tl tm : Nat) (a : Nat → Nat → Nat) (S : oS) {T pl n : Nat} (hT : jm_tu (oN S) = nI T) (h6 : T < 1000000) (hpad : padok (oP S)) (hp : pl < 12) (hn : n < 100) : kE l D g tl tm yL_isTouched wsL_isTouched 8 182 7 72 [.ref (a 0 0), .int (nI 1), .int (nI pl), .int (nI n)] (WO g a S) 1 (fun w => ∃ Q P, padok P ∧ WO g a (sX2_putCharge (oN S) (nI 1) (nI pl) (nI n), jf_u (oF S) (jh_ix (oH S)).toNatClampNeg (oN S), oG S, jh_rec (oH S), Q, P) w) := by
  have lp := nlen_le pl
  refine kE_of (cc := cL_isTouched) (maxL := 4) (ret := (some .boolean)) (by decide +kernel) rfl (Nat.le_of_ble_eq_true rfl) ?_
  intro w hw p e s m args below meth c hx hb hr hml hts hown hlocks hK hN A H locs hZ hP hD hA hS ls hl
  have hown : s.vm.findClass RL = some m.cls := hown
  have hl : lv_has ls 4 [(0, .ref (a 0 0)), (1, .int (nI 1)), (2, .int (nI pl)), (3, .int (nI n))] := hl
  refine lv_aload_n hx hb dL_isTouched_0 rfl (lv_at hl 0 rfl) ?_
  refine kE_callV (As := []) (rest := []) ⟨hx, hb, hml, hown, hts⟩ (k_wipe l D g tl tm a S) hw (cw_isTouched_X4_wipe hts) ⟨Nat.le_of_ble_eq_true rfl, Nat.le_of_ble_eq_true rfl⟩ (WO_cell hK hP hw) hZ hP hD hK hN rfl hl rfl (Nat.le_of_ble_eq_true rfl) dL_isTouched_1 ⟨Nat.le_of_ble_eq_true rfl, Nat.le_of_ble_eq_true rfl⟩ hS hA (fun w H locs hw hP hD hS => ?_)
  refine lv_if_lt (tgt := 97) hx hb dL_isTouched_4 (by decide) (fun c1 => ?_) (fun c1 => ?_)
  · exact absurd c1 (Int32.not_lt.mpr (by rw [hpad.1]; decide))
  refine lv_aload_n hx hb dL_isTouched_7 rfl (lv_at hl 0 rfl) ?_
  refine lv_iload_n hx hb dL_isTouched_8 rfl (lv_at hl 1 rfl) ?_
  refine lv_if_ne (tgt := 18) hx hb dL_isTouched_9 (by decide) (fun c2 => ?_) (fun c2 => ?_)
  rotate_left
  · exact absurd c2 (by decide)
  refine lv_ldc2 (v := 98) hx hb hown (hts (.constantLong RL 21 98) (by decide +kernel)) dL_isTouched_18 ?_
  refine kE_callV (As := [.long 98]) (rest := []) ⟨hx, hb, hml, hown, hts⟩ (k_put l D g tl tm a (opad S (sX3_clear (oP S))) (t := 0) (c := 98) rfl (by omega) (by omega) (by omega)) hw (cw_isTouched_X4_put hts) ⟨Nat.le_of_ble_eq_true rfl, Nat.le_of_ble_eq_true rfl⟩ (WO_cell hK hP hw) hZ hP hD hK hN rfl hl rfl (Nat.le_of_ble_eq_true rfl) dL_isTouched_21 ⟨Nat.le_of_ble_eq_true rfl, Nat.le_of_ble_eq_true rfl⟩ hS hA (fun w H locs hw hP hD hS => ?_)
  refine lv_if_le (tgt := 97) hx hb dL_isTouched_24 (by decide) (fun c3 => ?_) (fun c3 => ?_)
  · exact absurd c3 (Int32.not_le.mpr (pos_nI (by omega) (by omega)))
  refine lv_aload_n hx hb dL_isTouched_27 rfl (lv_at hl 0 rfl) ?_
  refine lv_iload_n hx hb dL_isTouched_28 rfl (lv_at hl 2 rfl) ?_
  refine kE_callS (As := [.ref (a 0 0), .int (nI pl)]) (rest := []) ⟨hx, hb, hml, hown, hts⟩ (e_number l D g tl tm a (opad S (addc (sX3_clear (oP S)) 0 98)) (t := 1) (n := pl) rfl (by omega) (by omega)) hw (cw_isTouched_L_number hts) ⟨Nat.le_of_ble_eq_true rfl, Nat.le_of_ble_eq_true rfl⟩ hZ hP hD hK hN rfl hl rfl (Nat.le_of_ble_eq_true rfl) dL_isTouched_29 ⟨Nat.le_of_ble_eq_true rfl, Nat.le_of_ble_eq_true rfl⟩ hS hA (fun w H locs hw hP hD hS => ?_)
  refine lv_if_eq (tgt := 97) hx hb dL_isTouched_32 (by decide) (fun c4 => ?_) (fun c4 => ?_)
  · exact absurd c4 (by decide)
  refine lv_aload_n hx hb dL_isTouched_35 rfl (lv_at hl 0 rfl) ?_
  refine lv_ldc2 (v := 61) hx hb hown (hts (.constantLong RL 29 61) (by decide +kernel)) dL_isTouched_36 ?_
  refine kE_callV (As := [.long 61]) (rest := []) ⟨hx, hb, hml, hown, hts⟩ (k_put l D g tl tm a (opad S (addn (addc (sX3_clear (oP S)) 0 98) 1 pl)) (t := 1 + nlen pl) (c := 61) (addn_ln _ _ _) (by omega) (by omega) (by omega)) hw (cw_isTouched_X4_put hts) ⟨Nat.le_of_ble_eq_true rfl, Nat.le_of_ble_eq_true rfl⟩ (WO_cell hK hP hw) hZ hP hD hK hN rfl hl rfl (Nat.le_of_ble_eq_true rfl) dL_isTouched_39 ⟨Nat.le_of_ble_eq_true rfl, Nat.le_of_ble_eq_true rfl⟩ hS hA (fun w H locs hw hP hD hS => ?_)
  refine lv_if_le (tgt := 97) hx hb dL_isTouched_42 (by decide) (fun c5 => ?_) (fun c5 => ?_)
  · exact absurd c5 (Int32.not_le.mpr (pos_nI (by omega) (by omega)))
  refine lv_iload_n hx hb dL_isTouched_45 rfl (lv_at hl 3 rfl) ?_
  refine lv_if_ge (tgt := 59) hx hb dL_isTouched_46 (by decide) (fun c6 => ?_) (fun c6 => ?_)
  rotate_left
  · exact absurd (nn_ge n hn) c6
  refine lv_aload_n hx hb dL_isTouched_59 rfl (lv_at hl 0 rfl) ?_
  refine lv_iload_n hx hb dL_isTouched_60 rfl (lv_at hl 3 rfl) ?_
  refine lv_if_ge (tgt := 69) hx hb dL_isTouched_61 (by decide) (fun c7 => ?_) (fun c7 => ?_)
  rotate_left
  · exact absurd (nn_ge n hn) c7
  refine lv_iload_n hx hb dL_isTouched_69 rfl (lv_at hl 3 rfl) ?_
  refine kE_callS (As := [.ref (a 0 0), .int (nI n)]) (rest := []) ⟨hx, hb, hml, hown, hts⟩ (e_number l D g tl tm a (opad S (addc (addn (addc (sX3_clear (oP S)) 0 98) 1 pl) (1 + nlen pl) 61)) (t := 2 + nlen pl) (n := n) (show jp_ln (oP (opad S (addc (addn (addc (sX3_clear (oP S)) 0 98) 1 pl) (1 + nlen pl) 61))) = nI (2 + nlen pl) from by show nI (1 + nlen pl + 1) = _; congr 1; omega) (by omega) (by omega)) hw (cw_isTouched_L_number hts) ⟨Nat.le_of_ble_eq_true rfl, Nat.le_of_ble_eq_true rfl⟩ hZ hP hD hK hN rfl hl rfl (Nat.le_of_ble_eq_true rfl) dL_isTouched_70 ⟨Nat.le_of_ble_eq_true rfl, Nat.le_of_ble_eq_true rfl⟩ hS hA (fun w H locs hw hP hD hS => ?_)
  refine lv_if_eq (tgt := 97) hx hb dL_isTouched_73 (by decide) (fun c8 => ?_) (fun c8 => ?_)
  · exact absurd c8 (by decide)
  refine lv_aload_n hx hb dL_isTouched_76 rfl (lv_at hl 0 rfl) ?_
  refine kE_callV (As := []) (rest := []) ⟨hx, hb, hml, hown, hts⟩ (k_run l D g tl tm a (opad S (tcP (sX3_clear (oP S)) 1 pl false n)) (tc_chs hpad.2 (by omega) hp false hn) (sX2_putCharge (oN (opad S (tcP (sX3_clear (oP S)) 1 pl false n))) (nI 1) (nI pl) (nI n)) (tc_runS (sX3_clear (oP S)) (d := 1) (by omega) hp false hn (P5 := oP (opad S (tcP (sX3_clear (oP S)) 1 pl false n))) rfl (oN (opad S (tcP (sX3_clear (oP S)) 1 pl false n))) (oQ (opad S (tcP (sX3_clear (oP S)) 1 pl false n)))).1 (tc_runS (sX3_clear (oP S)) (d := 1) (by omega) hp false hn (P5 := oP (opad S (tcP (sX3_clear (oP S)) 1 pl false n))) rfl (oN (opad S (tcP (sX3_clear (oP S)) 1 pl false n))) (oQ (opad S (tcP (sX3_clear (oP S)) 1 pl false n)))).2 (put_sp _ _ _ _)) hw (cw_isTouched_X4_run hts) ⟨Nat.le_of_ble_eq_true rfl, Nat.le_of_ble_eq_true rfl⟩ (WO_cell hK hP hw) hZ hP hD hK hN rfl hl rfl (Nat.le_of_ble_eq_true rfl) dL_isTouched_77 ⟨Nat.le_of_ble_eq_true rfl, Nat.le_of_ble_eq_true rfl⟩ hS hA (fun w H locs hw hP hD hS => ?_)
  obtain ⟨Q9, hw⟩ := hw
  have hq9 : padok (sX3_clear (oP (opad S (tcP (sX3_clear (oP S)) 1 pl false n)))) := padok_clear (tc_chs hpad.2 (by omega) hp false hn)
  generalize sX3_clear (oP (opad S (tcP (sX3_clear (oP S)) 1 pl false n))) = P9 at hw hq9
  have hw : WO g a (sX2_putCharge (oN S) (nI 1) (nI pl) (nI n), jf_u (oF S) (jh_ix (oH S)).toNatClampNeg (oN S), oG S, jh_rec (oH S), Q9, P9) w := hw
  refine lv_if_ne (tgt := 97) hx hb dL_isTouched_80 (by decide) (fun c9 => ?_) (fun c9 => ?_)
  · exact absurd (by decide) c9
  refine lv_aload_n hx hb dL_isTouched_83 rfl (lv_at hl 0 rfl) ?_
  refine lv_iload_n hx hb dL_isTouched_84 rfl (lv_at hl 1 rfl) ?_
  refine lv_iload_n hx hb dL_isTouched_85 rfl (lv_at hl 2 rfl) ?_
  refine kE_callV (As := [.int (nI 1), .int (nI pl)]) (rest := []) ⟨hx, hb, hml, hown, hts⟩ (k_sector l D g tl tm a (sX2_putCharge (oN S) (nI 1) (nI pl) (nI n), jf_u (oF S) (jh_ix (oH S)).toNatClampNeg (oN S), oG S, jh_rec (oH S), Q9, P9) (nI 1) (nI pl)) hw (cw_isTouched_X4_sector hts) ⟨Nat.le_of_ble_eq_true rfl, Nat.le_of_ble_eq_true rfl⟩ (WO_cell hK hP hw) hZ hP hD hK hN rfl hl rfl (Nat.le_of_ble_eq_true rfl) dL_isTouched_86 ⟨Nat.le_of_ble_eq_true rfl, Nat.le_of_ble_eq_true rfl⟩ hS hA (fun w H locs hw hP hD hS => ?_)
  refine lv_iload_n hx hb dL_isTouched_89 rfl (lv_at hl 3 rfl) ?_
  refine lv_icmp_ne (tgt := 97) hx hb dL_isTouched_90 (by decide) (fun c10 => ?_) (fun c10 => ?_)
  · exact absurd (put_sec hT h6 (d := 1) (by omega) hp (nI n)) c10
  refine lv_iconst (v := 1) hx hb dL_isTouched_93 (by decide) ?_
  refine lv_goto (tgt := 98) hx hb dL_isTouched_94 (by decide) ?_
  exact kE_zret hx hb hr (by decide) hlocks ⟨Q9, P9, hq9, hw⟩ hP hD hS (Nat.le_of_ble_eq_true rfl) (Nat.le_of_ble_eq_true rfl) rfl dL_isTouched_98

set_option maxHeartbeats 2000000 in
set_option maxRecDepth 20000 in
theorem e_isTouched_1n (l : Launch) (D : va_G) (g : jk_G) (tl tm : Nat) (a : Nat → Nat → Nat) (S : oS) {T pl n : Nat} (hT : jm_tu (oN S) = nI T) (h6 : T < 1000000) (hpad : padok (oP S)) (hp : pl < 12) (hn : n < 100) (hs : n ≠ 0) : kE l D g tl tm yL_isTouched wsL_isTouched 8 182 7 72 [.ref (a 0 0), .int (nI 1), .int (nI pl), .int (-nI n)] (WO g a S) 1 (fun w => ∃ Q P, padok P ∧ WO g a (sX2_putCharge (oN S) (nI 1) (nI pl) (-nI n), jf_u (oF S) (jh_ix (oH S)).toNatClampNeg (oN S), oG S, jh_rec (oH S), Q, P) w) := by
  have lp := nlen_le pl
  refine kE_of (cc := cL_isTouched) (maxL := 4) (ret := (some .boolean)) (by decide +kernel) rfl (Nat.le_of_ble_eq_true rfl) ?_
  intro w hw p e s m args below meth c hx hb hr hml hts hown hlocks hK hN A H locs hZ hP hD hA hS ls hl
  have hown : s.vm.findClass RL = some m.cls := hown
  have hl : lv_has ls 4 [(0, .ref (a 0 0)), (1, .int (nI 1)), (2, .int (nI pl)), (3, .int (-nI n))] := hl
  refine lv_aload_n hx hb dL_isTouched_0 rfl (lv_at hl 0 rfl) ?_
  refine kE_callV (As := []) (rest := []) ⟨hx, hb, hml, hown, hts⟩ (k_wipe l D g tl tm a S) hw (cw_isTouched_X4_wipe hts) ⟨Nat.le_of_ble_eq_true rfl, Nat.le_of_ble_eq_true rfl⟩ (WO_cell hK hP hw) hZ hP hD hK hN rfl hl rfl (Nat.le_of_ble_eq_true rfl) dL_isTouched_1 ⟨Nat.le_of_ble_eq_true rfl, Nat.le_of_ble_eq_true rfl⟩ hS hA (fun w H locs hw hP hD hS => ?_)
  refine lv_if_lt (tgt := 97) hx hb dL_isTouched_4 (by decide) (fun c1 => ?_) (fun c1 => ?_)
  · exact absurd c1 (Int32.not_lt.mpr (by rw [hpad.1]; decide))
  refine lv_aload_n hx hb dL_isTouched_7 rfl (lv_at hl 0 rfl) ?_
  refine lv_iload_n hx hb dL_isTouched_8 rfl (lv_at hl 1 rfl) ?_
  refine lv_if_ne (tgt := 18) hx hb dL_isTouched_9 (by decide) (fun c2 => ?_) (fun c2 => ?_)
  rotate_left
  · exact absurd c2 (by decide)
  refine lv_ldc2 (v := 98) hx hb hown (hts (.constantLong RL 21 98) (by decide +kernel)) dL_isTouched_18 ?_
  refine kE_callV (As := [.long 98]) (rest := []) ⟨hx, hb, hml, hown, hts⟩ (k_put l D g tl tm a (opad S (sX3_clear (oP S))) (t := 0) (c := 98) rfl (by omega) (by omega) (by omega)) hw (cw_isTouched_X4_put hts) ⟨Nat.le_of_ble_eq_true rfl, Nat.le_of_ble_eq_true rfl⟩ (WO_cell hK hP hw) hZ hP hD hK hN rfl hl rfl (Nat.le_of_ble_eq_true rfl) dL_isTouched_21 ⟨Nat.le_of_ble_eq_true rfl, Nat.le_of_ble_eq_true rfl⟩ hS hA (fun w H locs hw hP hD hS => ?_)
  refine lv_if_le (tgt := 97) hx hb dL_isTouched_24 (by decide) (fun c3 => ?_) (fun c3 => ?_)
  · exact absurd c3 (Int32.not_le.mpr (pos_nI (by omega) (by omega)))
  refine lv_aload_n hx hb dL_isTouched_27 rfl (lv_at hl 0 rfl) ?_
  refine lv_iload_n hx hb dL_isTouched_28 rfl (lv_at hl 2 rfl) ?_
  refine kE_callS (As := [.ref (a 0 0), .int (nI pl)]) (rest := []) ⟨hx, hb, hml, hown, hts⟩ (e_number l D g tl tm a (opad S (addc (sX3_clear (oP S)) 0 98)) (t := 1) (n := pl) rfl (by omega) (by omega)) hw (cw_isTouched_L_number hts) ⟨Nat.le_of_ble_eq_true rfl, Nat.le_of_ble_eq_true rfl⟩ hZ hP hD hK hN rfl hl rfl (Nat.le_of_ble_eq_true rfl) dL_isTouched_29 ⟨Nat.le_of_ble_eq_true rfl, Nat.le_of_ble_eq_true rfl⟩ hS hA (fun w H locs hw hP hD hS => ?_)
  refine lv_if_eq (tgt := 97) hx hb dL_isTouched_32 (by decide) (fun c4 => ?_) (fun c4 => ?_)
  · exact absurd c4 (by decide)
  refine lv_aload_n hx hb dL_isTouched_35 rfl (lv_at hl 0 rfl) ?_
  refine lv_ldc2 (v := 61) hx hb hown (hts (.constantLong RL 29 61) (by decide +kernel)) dL_isTouched_36 ?_
  refine kE_callV (As := [.long 61]) (rest := []) ⟨hx, hb, hml, hown, hts⟩ (k_put l D g tl tm a (opad S (addn (addc (sX3_clear (oP S)) 0 98) 1 pl)) (t := 1 + nlen pl) (c := 61) (addn_ln _ _ _) (by omega) (by omega) (by omega)) hw (cw_isTouched_X4_put hts) ⟨Nat.le_of_ble_eq_true rfl, Nat.le_of_ble_eq_true rfl⟩ (WO_cell hK hP hw) hZ hP hD hK hN rfl hl rfl (Nat.le_of_ble_eq_true rfl) dL_isTouched_39 ⟨Nat.le_of_ble_eq_true rfl, Nat.le_of_ble_eq_true rfl⟩ hS hA (fun w H locs hw hP hD hS => ?_)
  refine lv_if_le (tgt := 97) hx hb dL_isTouched_42 (by decide) (fun c5 => ?_) (fun c5 => ?_)
  · exact absurd c5 (Int32.not_le.mpr (pos_nI (by omega) (by omega)))
  refine lv_iload_n hx hb dL_isTouched_45 rfl (lv_at hl 3 rfl) ?_
  refine lv_if_ge (tgt := 59) hx hb dL_isTouched_46 (by decide) (fun c6 => ?_) (fun c6 => ?_)
  · exact absurd c6 (Int32.not_le.mpr (ng_lt hn hs))
  refine lv_aload_n hx hb dL_isTouched_49 rfl (lv_at hl 0 rfl) ?_
  refine lv_ldc2 (v := 45) hx hb hown (hts (.constantLong RL 31 45) (by decide +kernel)) dL_isTouched_50 ?_
  refine kE_callV (As := [.long 45]) (rest := []) ⟨hx, hb, hml, hown, hts⟩ (k_put l D g tl tm a (opad S (addc (addn (addc (sX3_clear (oP S)) 0 98) 1 pl) (1 + nlen pl) 61)) (t := 2 + nlen pl) (c := 45) (show jp_ln (oP (opad S (addc (addn (addc (sX3_clear (oP S)) 0 98) 1 pl) (1 + nlen pl) 61))) = nI (2 + nlen pl) from by show nI (1 + nlen pl + 1) = _; congr 1; omega) (by omega) (by omega) (by omega)) hw (cw_isTouched_X4_put hts) ⟨Nat.le_of_ble_eq_true rfl, Nat.le_of_ble_eq_true rfl⟩ (WO_cell hK hP hw) hZ hP hD hK hN rfl hl rfl (Nat.le_of_ble_eq_true rfl) dL_isTouched_53 ⟨Nat.le_of_ble_eq_true rfl, Nat.le_of_ble_eq_true rfl⟩ hS hA (fun w H locs hw hP hD hS => ?_)
  refine lv_if_le (tgt := 97) hx hb dL_isTouched_56 (by decide) (fun c7 => ?_) (fun c7 => ?_)
  · exact absurd c7 (Int32.not_le.mpr (pos_nI (by omega) (by omega)))
  refine lv_aload_n hx hb dL_isTouched_59 rfl (lv_at hl 0 rfl) ?_
  refine lv_iload_n hx hb dL_isTouched_60 rfl (lv_at hl 3 rfl) ?_
  refine lv_if_ge (tgt := 69) hx hb dL_isTouched_61 (by decide) (fun c8 => ?_) (fun c8 => ?_)
  · exact absurd c8 (Int32.not_le.mpr (ng_lt hn hs))
  refine lv_iload_n hx hb dL_isTouched_64 rfl (lv_at hl 3 rfl) ?_
  refine lv_ineg hx hb dL_isTouched_65 ?_
  refine lv_topi (fun y9 e9 => ?_)
  obtain rfl : y9 = nI n := e9.trans (nq_nn _)
  refine lv_goto (tgt := 70) hx hb dL_isTouched_66 (by decide) ?_
  refine kE_callS (As := [.ref (a 0 0), .int (nI n)]) (rest := []) ⟨hx, hb, hml, hown, hts⟩ (e_number l D g tl tm a (opad S (addc (addc (addn (addc (sX3_clear (oP S)) 0 98) 1 pl) (1 + nlen pl) 61) (2 + nlen pl) 45)) (t := 3 + nlen pl) (n := n) (show jp_ln (oP (opad S (addc (addc (addn (addc (sX3_clear (oP S)) 0 98) 1 pl) (1 + nlen pl) 61) (2 + nlen pl) 45))) = nI (3 + nlen pl) from by show nI (2 + nlen pl + 1) = _; congr 1; omega) (by omega) (by omega)) hw (cw_isTouched_L_number hts) ⟨Nat.le_of_ble_eq_true rfl, Nat.le_of_ble_eq_true rfl⟩ hZ hP hD hK hN rfl hl rfl (Nat.le_of_ble_eq_true rfl) dL_isTouched_70 ⟨Nat.le_of_ble_eq_true rfl, Nat.le_of_ble_eq_true rfl⟩ hS hA (fun w H locs hw hP hD hS => ?_)
  refine lv_if_eq (tgt := 97) hx hb dL_isTouched_73 (by decide) (fun c9 => ?_) (fun c9 => ?_)
  · exact absurd c9 (by decide)
  refine lv_aload_n hx hb dL_isTouched_76 rfl (lv_at hl 0 rfl) ?_
  refine kE_callV (As := []) (rest := []) ⟨hx, hb, hml, hown, hts⟩ (k_run l D g tl tm a (opad S (tcP (sX3_clear (oP S)) 1 pl true n)) (tc_chs hpad.2 (by omega) hp true hn) (sX2_putCharge (oN (opad S (tcP (sX3_clear (oP S)) 1 pl true n))) (nI 1) (nI pl) (-nI n)) (tc_runS (sX3_clear (oP S)) (d := 1) (by omega) hp true hn (P5 := oP (opad S (tcP (sX3_clear (oP S)) 1 pl true n))) rfl (oN (opad S (tcP (sX3_clear (oP S)) 1 pl true n))) (oQ (opad S (tcP (sX3_clear (oP S)) 1 pl true n)))).1 (tc_runS (sX3_clear (oP S)) (d := 1) (by omega) hp true hn (P5 := oP (opad S (tcP (sX3_clear (oP S)) 1 pl true n))) rfl (oN (opad S (tcP (sX3_clear (oP S)) 1 pl true n))) (oQ (opad S (tcP (sX3_clear (oP S)) 1 pl true n)))).2 (put_sp _ _ _ _)) hw (cw_isTouched_X4_run hts) ⟨Nat.le_of_ble_eq_true rfl, Nat.le_of_ble_eq_true rfl⟩ (WO_cell hK hP hw) hZ hP hD hK hN rfl hl rfl (Nat.le_of_ble_eq_true rfl) dL_isTouched_77 ⟨Nat.le_of_ble_eq_true rfl, Nat.le_of_ble_eq_true rfl⟩ hS hA (fun w H locs hw hP hD hS => ?_)
  obtain ⟨Q9, hw⟩ := hw
  have hq9 : padok (sX3_clear (oP (opad S (tcP (sX3_clear (oP S)) 1 pl true n)))) := padok_clear (tc_chs hpad.2 (by omega) hp true hn)
  generalize sX3_clear (oP (opad S (tcP (sX3_clear (oP S)) 1 pl true n))) = P9 at hw hq9
  have hw : WO g a (sX2_putCharge (oN S) (nI 1) (nI pl) (-nI n), jf_u (oF S) (jh_ix (oH S)).toNatClampNeg (oN S), oG S, jh_rec (oH S), Q9, P9) w := hw
  refine lv_if_ne (tgt := 97) hx hb dL_isTouched_80 (by decide) (fun c10 => ?_) (fun c10 => ?_)
  · exact absurd (by decide) c10
  refine lv_aload_n hx hb dL_isTouched_83 rfl (lv_at hl 0 rfl) ?_
  refine lv_iload_n hx hb dL_isTouched_84 rfl (lv_at hl 1 rfl) ?_
  refine lv_iload_n hx hb dL_isTouched_85 rfl (lv_at hl 2 rfl) ?_
  refine kE_callV (As := [.int (nI 1), .int (nI pl)]) (rest := []) ⟨hx, hb, hml, hown, hts⟩ (k_sector l D g tl tm a (sX2_putCharge (oN S) (nI 1) (nI pl) (-nI n), jf_u (oF S) (jh_ix (oH S)).toNatClampNeg (oN S), oG S, jh_rec (oH S), Q9, P9) (nI 1) (nI pl)) hw (cw_isTouched_X4_sector hts) ⟨Nat.le_of_ble_eq_true rfl, Nat.le_of_ble_eq_true rfl⟩ (WO_cell hK hP hw) hZ hP hD hK hN rfl hl rfl (Nat.le_of_ble_eq_true rfl) dL_isTouched_86 ⟨Nat.le_of_ble_eq_true rfl, Nat.le_of_ble_eq_true rfl⟩ hS hA (fun w H locs hw hP hD hS => ?_)
  refine lv_iload_n hx hb dL_isTouched_89 rfl (lv_at hl 3 rfl) ?_
  refine lv_icmp_ne (tgt := 97) hx hb dL_isTouched_90 (by decide) (fun c11 => ?_) (fun c11 => ?_)
  · exact absurd (put_sec hT h6 (d := 1) (by omega) hp (-nI n)) c11
  refine lv_iconst (v := 1) hx hb dL_isTouched_93 (by decide) ?_
  refine lv_goto (tgt := 98) hx hb dL_isTouched_94 (by decide) ?_
  exact kE_zret hx hb hr (by decide) hlocks ⟨Q9, P9, hq9, hw⟩ hP hD hS (Nat.le_of_ble_eq_true rfl) (Nat.le_of_ble_eq_true rfl) rfl dL_isTouched_98

