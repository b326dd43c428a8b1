/-! ===== the law round and round ===== -/
section LOOP
variable {p : Program} {l : Launch} {e : Env} {s : State} {m : MethodId} {b L : Nat} {xs : Nat → Int32} {below : List Frame} {meth : Method} {c : Code} {Qz : State → Prop}
variable {D : va_G} {g : jk_G} {tl tm : Nat} {a : Nat → Nat → Nat} {ax : Nat → Nat}
theorem law_gt {i L : Nat} (hi : i ≤ 2100) (hL : L ≤ 2048) : (nI L - nI 4 < nI i ↔ ¬ i + 4 ≤ L) := by
  have e : (nI L - nI 4).toInt = (L : Int) - 4 := by rw [jk_subT (by rw [nI_toInt (by omega), nI_toInt (by omega)]; omega) (by rw [nI_toInt (by omega), nI_toInt (by omega)]; omega), nI_toInt (by omega), nI_toInt (by omega)]; rfl
  rw [Int32.lt_iff_toInt_lt, e, nI_toInt (by omega)]
  omega
theorem law_off {x : Int32} {w : Nat} {offs : Array Int} {v : Int} (h : x.toInt = w) (ho : offs[w]? = some v) : offs[(x.toInt - 0).toNat]? = some v := by rw [h, Int.sub_zero, Int.toNat_natCast]; exact ho
set_option maxHeartbeats 4000000 in
theorem law_loop (hx : p.tables.exec = Jvm.exec) (hb : c.code = cL_law) (hml : c.maxLocals = 4) (hown : s.vm.findClass RL = some m.cls) (hts : ∀ w ∈ wsL_law, w.before #[.ref b] s = true) (hX : va_X b L xs s s.heap) (hbl : b < s.heap.size) (hbA : ¬ lawA s b) (hZ : jk_Z tl tm (lawA s) s) (hK : va_K D vwCl (jk_T g) s) (hN : jk_N s) (hL : L ≤ 2048) (fin : ∀ (H : Heap) (locs : List Loc) (cells slots : Nat) (ls : Array Slot), cells ≤ 600000 → slots ≤ 7302249 → va_S (lawA s) s.heap H locs → W p l e room_1 s m #[.ref b] below meth c H locs cells slots Qz (F0 m 651 ls [])) : ∀ (n kk cells slots : Nat) (p0 u0 : Nat → Nat → Nat) (N0 T0 : jm_T) (F0f G0 : jf_T) (Hs0 : jh_T) (Q0 : jd_T) (P0 : jp_T) (X0 : jx_T) (H : Heap) (locs : List Loc) (ls : Array Slot), 4 * kk ≤ 2051 → 2100 < 4 * kk + n → cells ≤ 100 + 7 * kk → slots ≤ 2000 + 72 * kk → lv_has ls 4 [(3, .int (nI (4 * kk))), (2, .ref (ax 0)), (1, .ref (a 0 0)), (0, .ref b)] → zwR kk N0 F0f G0 Hs0 P0 X0 → va_P D vwCl (zwL g a p0 u0 ax N0 T0 F0f G0 Hs0 Q0 P0 X0).flatten H → va_D (lawA s) (zwL g a p0 u0 ax N0 T0 F0f G0 Hs0 Q0 P0 X0).flatten → va_S (lawA s) s.heap H locs → W p l e room_1 s m #[.ref b] below meth c H locs cells slots Qz (F0 m 18 ls [])
  | 0, kk, _, _, _, _, _, _, _, _, _, _, _, _, _, _, _, h1, h2, _, _, _, _, _, _, _ => absurd h2 (by omega)
  | n + 1, kk, cells, slots, p0, u0, N0, T0, F0f, G0, Hs0, Q0, P0, X0, H, locs, ls, h1, h2, hc1, hc2, hl, hr, hP, hD, hS => by
    refine lv_iload_n hx hb dL_law_18 rfl (lv_at hl 0 rfl) ?_
    refine lv_aload_n hx hb dL_law_19 rfl (lv_at hl 3 rfl) ?_
    refine va_slen hx hb hX hbl hbA hS dL_law_20 ?_
    refine lv_iconst (v := nI 4) hx hb dL_law_21 (by decide) ?_
    refine lv_isub hx hb dL_law_22 ?_
    refine lv_icmp_gt (tgt := 651) hx hb dL_law_23 (by decide) (fun _ => fin H locs cells slots ls (by omega) (by omega) hS) (fun cg => ?_)
    have hi : 4 * kk + 4 ≤ L := Decidable.not_not.mp (fun z => cg ((law_gt (by omega) hL).mpr z))
    refine lv_aload_n hx hb dL_law_26 rfl (lv_at hl 3 rfl) ?_
    refine lv_iload_n hx hb dL_law_27 rfl (lv_at hl 0 rfl) ?_
    refine va_sld hx hb hX hbl hbA hS (vp_in_nI (by omega) (by omega)) dL_law_28 ?_
    refine lv_bipush (v := 31) hx hb dL_law_29 (by decide) ?_
    refine lv_iand hx hb dL_law_31 ?_
    generalize xs (nI (4 * kk)).toNatClampNeg &&& 31 = x
    have K : ∀ (H1 : Heap) (locs1 : List Loc) (cells1 slots1 : Nat) (pn un : Nat → Nat → Nat) (N T : jm_T) (F G : jf_T) (Hs : jh_T) (Q : jd_T) (P : jp_T) (X : jx_T), cells1 ≤ cells + 7 → slots1 ≤ slots + 72 → zwR (kk + 1) N F G Hs P X → va_P D vwCl (zwL g a pn un ax N T F G Hs Q P X).flatten H1 → va_D (lawA s) (zwL g a pn un ax N T F G Hs Q P X).flatten → va_S (lawA s) s.heap H1 locs1 → W p l e room_1 s m #[.ref b] below meth c H1 locs1 cells1 slots1 Qz (F0 m 645 ls []) := by
      intro H1 locs1 cells1 slots1 pn un N T F G Hs Q P X g1 g2 g3 g4 g5 g6
      refine lv_iinc (k := 0) (v := nI (4 * (kk + 1))) (lv' := [(3, .int (nI (4 * (kk + 1)))), (2, .ref (ax 0)), (1, .ref (a 0 0)), (0, .ref b)]) hx hb dL_law_645 hl rfl (by rw [show Int32.ofInt 4 = nI 4 from rfl, nI_add]; rfl) (by decide) rfl (fun ls1 hl1 => ?_)
      refine lv_goto (tgt := 18) hx hb dL_law_648 (by decide) ?_
      exact law_loop hx hb hml hown hts hX hbl hbA hZ hK hN hL fin n (kk + 1) cells1 slots1 pn un N T F G Hs Q P X H1 locs1 ls1 (by omega) (by omega) (by omega) (by omega) hl1 g3 g4 g5 g6
    by_cases c0 : x.toInt < 0 ∨ 20 < x.toInt
    · exact lv_tableOut (tgt := 645) hx hb dL_law_32 c0 (by decide) (K H locs cells slots p0 u0 N0 T0 F0f G0 Hs0 Q0 P0 X0 (by omega) (by omega) (ri_up hr) hP hD hS)
    · obtain ⟨w, hw⟩ : ∃ w : Nat, x.toInt = w := ⟨x.toInt.toNat, by omega⟩
      rcases (show w = 0 ∨ w = 1 ∨ w = 2 ∨ w = 3 ∨ w = 4 ∨ w = 5 ∨ w = 6 ∨ w = 7 ∨ w = 8 ∨ w = 9 ∨ w = 10 ∨ w = 11 ∨ w = 12 ∨ w = 13 ∨ w = 14 ∨ w = 15 ∨ w = 16 ∨ w = 17 ∨ w = 18 ∨ w = 19 ∨ w = 20 by omega) with q | q | q | q | q | q | q | q | q | q | q | q | q | q | q | q | q | q | q | q | q <;> subst q
      · exact lv_tableIn (tgt := 132) hx hb dL_law_32 (by omega) (by omega) (law_off hw rfl) (by decide) (law_set hx hb hml hown hts hX hbl hbA hZ hK hN hi hL hl (by omega) hr hP hD hS (by omega) (by omega) K)
      · exact lv_tableIn (tgt := 165) hx hb dL_law_32 (by omega) (by omega) (law_off hw rfl) (by decide) (law_touch hx hb hml hown hts hX hbl hbA hZ hK hN hi hL hl (by omega) hr hP hD hS (by omega) (by omega) K)
      · exact lv_tableIn (tgt := 208) hx hb dL_law_32 (by omega) (by omega) (law_off hw rfl) (by decide) (law_turn hx hb hml hown hts hX hbl hbA hZ hK hN hi hL hl (by omega) hr hP hD hS (by omega) (by omega) K)
      · exact lv_tableIn (tgt := 231) hx hb dL_law_32 (by omega) (by omega) (law_off hw rfl) (by decide) (law_discharge hx hb hml hown hts hX hbl hbA hZ hK hN hi hL hl (by omega) hr hP hD hS (by omega) (by omega) K)
      · exact lv_tableIn (tgt := 244) hx hb dL_law_32 (by omega) (by omega) (law_off hw rfl) (by decide) (law_wipeDisc hx hb hml hown hts hX hbl hbA hZ hK hN hi hL hl (by omega) hr hP hD hS (by omega) (by omega) K)
      · exact lv_tableIn (tgt := 267) hx hb dL_law_32 (by omega) (by omega) (law_off hw rfl) (by decide) (law_run hx hb hml hown hts hX hbl hbA hZ hK hN hi hL hl (by omega) hr hP hD hS (by omega) (by omega) K)
      · exact lv_tableIn (tgt := 280) hx hb dL_law_32 (by omega) (by omega) (law_off hw rfl) (by decide) (law_sector hx hb hml hown hts hX hbl hbA hZ hK hN hi hL hl (by omega) hr hP hD hS (by omega) (by omega) K)
      · exact lv_tableIn (tgt := 313) hx hb dL_law_32 (by omega) (by omega) (law_off hw rfl) (by decide) (law_disc hx hb hml hown hts hX hbl hbA hZ hK hN hi hL hl (by omega) hr hP hD hS (by omega) (by omega) K)
      · exact lv_tableIn (tgt := 346) hx hb dL_law_32 (by omega) (by omega) (law_off hw rfl) (by decide) (law_jar hx hb hml hown hts hX hbl hbA hZ hK hN hi hL hl (by omega) hr hP hD hS (by omega) (by omega) K)
      · exact lv_tableIn (tgt := 379) hx hb dL_law_32 (by omega) (by omega) (law_off hw rfl) (by decide) (law_spark hx hb hml hown hts hX hbl hbA hZ hK hN hi hL hl (by omega) hr hP hD hS (by omega) (by omega) K)
      · exact lv_tableIn (tgt := 412) hx hb dL_law_32 (by omega) (by omega) (law_off hw rfl) (by decide) (law_count hx hb hml hown hts hX hbl hbA hZ hK hN hi hL hl (by omega) hr hP hD hS (by omega) (by omega) K)
      · exact lv_tableIn (tgt := 435) hx hb dL_law_32 (by omega) (by omega) (law_off hw rfl) (by decide) (law_untilSpark hx hb hml hown hts hX hbl hbA hZ hK hN hi hL hl (by omega) hr hP hD hS (by omega) (by omega) K)
      · exact lv_tableIn (tgt := 448) hx hb dL_law_32 (by omega) (by omega) (law_off hw rfl) (by decide) (law_ifTurned hx hb hml hown hts hX hbl hbA hZ hK hN hi hL hl (by omega) hr hP hD hS (by omega) (by omega) K)
      · exact lv_tableIn (tgt := 481) hx hb dL_law_32 (by omega) (by omega) (law_off hw rfl) (by decide) (law_widestGap hx hb hml hown hts hX hbl hbA hZ hK hN hi hL hl (by omega) hr hP hD hS (by omega) (by omega) K)
      · exact lv_tableIn (tgt := 494) hx hb dL_law_32 (by omega) (by omega) (law_off hw rfl) (by decide) (law_mostDamp hx hb hml hown hts hX hbl hbA hZ hK hN hi hL hl (by omega) hr hP hD hS (by omega) (by omega) K)
      · exact lv_tableIn (tgt := 507) hx hb dL_law_32 (by omega) (by omega) (law_off hw rfl) (by decide) (law_put hx hb hml hown hts hX hbl hbA hZ hK hN hi hL hl (by omega) hr hP hD hS (by omega) (by omega) K)
      · exact lv_tableIn (tgt := 560) hx hb dL_law_32 (by omega) (by omega) (law_off hw rfl) (by decide) (law_wipe hx hb hml hown hts hX hbl hbA hZ hK hN hi hL hl (by omega) hr hP hD hS (by omega) (by omega) K)
      · exact lv_tableIn (tgt := 573) hx hb dL_law_32 (by omega) (by omega) (law_off hw rfl) (by decide) (law_fault hx hb hml hown hts hX hbl hbA hZ hK hN hi hL hl (by omega) hr hP hD hS (by omega) (by omega) K)
      · exact lv_tableIn (tgt := 586) hx hb dL_law_32 (by omega) (by omega) (law_off hw rfl) (by decide) (law_undo hx hb hml hown hts hX hbl hbA hZ hK hN hi hL hl (by omega) hr hP hD hS (by omega) (by omega) K)
      · exact lv_tableIn (tgt := 599) hx hb dL_law_32 (by omega) (by omega) (law_off hw rfl) (by decide) (law_save hx hb hml hown hts hX hbl hbA hZ hK hN hi hL hl (by omega) hr hP hD hS (by omega) (by omega) K)
      · exact lv_tableIn (tgt := 622) hx hb dL_law_32 (by omega) (by omega) (law_off hw rfl) (by decide) (law_restore hx hb hml hown hts hX hbl hbA hZ hK hN hi hL hl (by omega) hr hP hD hS (by omega) (by omega) K)
end LOOP
