/-! ===== areAlike ===== -/
theorem disc_al {N : jm_T} (h : bdd N) {d : Nat} (hd : d < 2) : rX4_disc N (nI d) 0 = -rX4_disc (ng N) (nI d) 0 ∧ rX4_disc N (nI d) 1 = rX4_disc (ng N) (nI d) 2 ∧ rX4_disc N (nI d) 2 = rX4_disc (ng N) (nI d) 1 ∧ rX4_disc N (nI d) 3 = -rX4_disc (ng N) (nI d) 4 ∧ rX4_disc N (nI d) 4 = -rX4_disc (ng N) (nI d) 3 := by
  obtain ⟨a0, a1, a2, a3, a4⟩ := disc_ng h hd
  rw [a0, a1, a2, a3, a4, nq_nn, nq_nn, nq_nn]
  exact ⟨rfl, rfl, rfl, rfl, rfl⟩
theorem sec_al {N : jm_T} {T : Nat} (hT : jm_tu N = nI T) (h6 : T < 1000000) {d p : Nat} (hd : d < 2) (hp : p < 12) : rX4_sector N (nI d) (nI p) = -rX4_sector (ng N) (nI d) (nI p) := by
  rw [sec_ng hT h6 hd hp, nq_nn]
theorem cw_areAlike_X4_untilSpark {R : Room} {s : State} {args : Array Value} (hts : ∀ w ∈ wsL_areAlike, w.before args s = true) : ∀ rm : Room, rm.frames + 1 ≤ R.frames → 8 + (1 + 11) + rm.locals ≤ R.locals → CallW R s args RL RX4 64 yX4_untilSpark cX4_untilSpark 1 (some .int) wsX4_untilSpark rm rm.cells rm.slots 0 := fun rm h1 h2 => cwV 0 hts gL_areAlike_X4_untilSpark rfl rfl rfl (by decide +kernel) ⟨h1, h2⟩
theorem cw_areAlike_X4_widestGap {R : Room} {s : State} {args : Array Value} (hts : ∀ w ∈ wsL_areAlike, w.before args s = true) : ∀ rm : Room, rm.frames + 1 ≤ R.frames → 8 + (3 + 11) + rm.locals ≤ R.locals → CallW R s args RL RX4 97 yX4_widestGap cX4_widestGap 3 (some .int) wsX4_widestGap rm rm.cells rm.slots 0 := fun rm h1 h2 => cwV 0 hts gL_areAlike_X4_widestGap rfl rfl rfl (by decide +kernel) ⟨h1, h2⟩
theorem cw_areAlike_X4_mostDamp {R : Room} {s : State} {args : Array Value} (hts : ∀ w ∈ wsL_areAlike, w.before args s = true) : ∀ rm : Room, rm.frames + 1 ≤ R.frames → 8 + (2 + 11) + rm.locals ≤ R.locals → CallW R s args RL RX4 100 yX4_mostDamp cX4_mostDamp 2 (some .int) wsX4_mostDamp rm rm.cells rm.slots 0 := fun rm h1 h2 => cwV 0 hts gL_areAlike_X4_mostDamp rfl rfl rfl (by decide +kernel) ⟨h1, h2⟩
theorem cw_areAlike_L_up {R : Room} {s : State} {args : Array Value} (hts : ∀ w ∈ wsL_areAlike, w.before args s = true) : ∀ rm : Room, rm.frames + 1 ≤ R.frames → 8 + (2 + 11) + rm.locals ≤ R.locals → CallB R s args RL 43 yL_up cL_up 2 (some .int) wsL_up rm rm.cells rm.slots 2 ∧ (Cond.static yL_up).before args s = true := fun rm h1 h2 => va_cwS 2 hts gL_areAlike_L_up rfl rfl rfl (by decide +kernel) ⟨h1, h2⟩
theorem cw_areAlike_X4_ifTurned {R : Room} {s : State} {args : Array Value} (hts : ∀ w ∈ wsL_areAlike, w.before args s = true) : ∀ rm : Room, rm.frames + 1 ≤ R.frames → 8 + (4 + 11) + rm.locals ≤ R.locals → CallW R s args RL RX4 54 yX4_ifTurned cX4_ifTurned 4 (some .int) wsX4_ifTurned rm rm.cells rm.slots 2 := fun rm h1 h2 => cwV 2 hts gL_areAlike_X4_ifTurned rfl rfl rfl (by decide +kernel) ⟨h1, h2⟩
theorem cw_areAlike_X4_spark {R : Room} {s : State} {args : Array Value} (hts : ∀ w ∈ wsL_areAlike, w.before args s = true) : ∀ rm : Room, rm.frames + 1 ≤ R.frames → 8 + (3 + 11) + rm.locals ≤ R.locals → CallW R s args RL RX4 103 yX4_spark cX4_spark 3 (some .int) wsX4_spark rm rm.cells rm.slots 2 := fun rm h1 h2 => cwV 2 hts gL_areAlike_X4_spark rfl rfl rfl (by decide +kernel) ⟨h1, h2⟩
theorem cw_areAlike_X4_disc {R : Room} {s : State} {args : Array Value} (hts : ∀ w ∈ wsL_areAlike, w.before args s = true) : ∀ rm : Room, rm.frames + 1 ≤ R.frames → 8 + (3 + 11) + rm.locals ≤ R.locals → CallW R s args RL RX4 74 yX4_disc cX4_disc 3 (some .int) wsX4_disc rm rm.cells rm.slots 2 := fun rm h1 h2 => cwV 2 hts gL_areAlike_X4_disc rfl rfl rfl (by decide +kernel) ⟨h1, h2⟩
theorem cw_areAlike_X4_sector {R : Room} {s : State} {args : Array Value} (hts : ∀ w ∈ wsL_areAlike, w.before args s = true) : ∀ rm : Room, rm.frames + 1 ≤ R.frames → 8 + (3 + 11) + rm.locals ≤ R.locals → CallW R s args RL RX4 36 yX4_sector cX4_sector 3 (some .int) wsX4_sector rm rm.cells rm.slots 2 := fun rm h1 h2 => cwV 2 hts gL_areAlike_X4_sector rfl rfl rfl (by decide +kernel) ⟨h1, h2⟩
theorem cw_areAlike_X4_jar {R : Room} {s : State} {args : Array Value} (hts : ∀ w ∈ wsL_areAlike, w.before args s = true) : ∀ rm : Room, rm.frames + 1 ≤ R.frames → 8 + (3 + 11) + rm.locals ≤ R.locals → CallW R s args RL RX4 40 yX4_jar cX4_jar 3 (some .int) wsX4_jar rm rm.cells rm.slots 2 := fun rm h1 h2 => cwV 2 hts gL_areAlike_X4_jar rfl rfl rfl (by decide +kernel) ⟨h1, h2⟩
theorem cw_areAlike_X4_count {R : Room} {s : State} {args : Array Value} (hts : ∀ w ∈ wsL_areAlike, w.before args s = true) : ∀ rm : Room, rm.frames + 1 ≤ R.frames → 8 + (2 + 11) + rm.locals ≤ R.locals → CallW R s args RL RX4 46 yX4_count cX4_count 2 (some .int) wsX4_count rm rm.cells rm.slots 1 := fun rm h1 h2 => cwV 1 hts gL_areAlike_X4_count rfl rfl rfl (by decide +kernel) ⟨h1, h2⟩
set_option maxHeartbeats 8000000 in
set_option maxRecDepth 20000 in
theorem e_areAlike (l : Launch) (D : va_G) (g : jk_G) (tl tm : Nat) (a b : Nat → Nat → Nat) {k0 : Nat} {S S' : oS} (h : rel k0 S S') (hk0 : k0 < 900) (x : Int32) : kE l D g tl tm yL_areAlike wsL_areAlike 7 163 0 0 [.ref (a 0 0), .ref (b 0 0), .int x] (bothW (WO g a S) (WO g b S')) 1 (bothW (WO g a S) (WO g b S')) := by
  have hT := h.1.1
  obtain ⟨T0, S0, t1, -, t3, -, hb9, -⟩ := id hT
  have hTb : T0 < 1000000 := by omega
  have eN := h.2.1
  have eH := h.2.2.2.2.1
  have fs := foresee_ng hT (by omega) jm_0 jm_0
  have fc : ∀ w, _ := fun w => cnt_ng hb9 (oH S) (oP S) (oP S') (w := w)
  have fdisc := fun d hd => disc_al hb9 (d := d) hd
  have fsec := fun d p (hd : d < 2) (hp : p < 12) => sec_al t3 hTb hd hp
  have fj := fun j w (hj : j < 2) (hw : w < 3) => jar_ng (oN S) hj hw
  have fsp := fun k (hk : k < 8) => spk_ng hT (by omega) hk
  have fift := fun n (h1 : 1 ≤ n) (h2 : n ≤ 400) => ift_ng hT (by omega) jm_0 jm_0 h1 h2
  rw [← eN] at fs fc fdisc fsec fj fsp fift
  have fc : ∀ w : Nat, (w < 8 → rX4_count (oN S) (oH S) (oP S) (nI w) = rX4_count (oN S') (oH S') (oP S') (nI w)) ∧ (8 ≤ w → w < 13 → rX4_count (oN S) (oH S) (oP S) (nI w) = -rX4_count (oN S') (oH S') (oP S') (nI w)) := by rw [eH]; exact fc
  refine kE_of (cc := cL_areAlike) (maxL := 6) (ret := (some .boolean)) (by decide +kernel) rfl (Nat.le_of_ble_eq_true rfl) ?_
  intro w hw p e s m args below meth c hx hb hr hml hts hown hlocks hK hN A H locs hZ hP hD hA hS ls hl
  have hown : s.vm.findClass RL = some m.cls := hown
  have hl : lv_has ls 6 [(0, .ref (a 0 0)), (1, .ref (b 0 0)), (2, .int x)] := hl
  refine lv_aload_n hx hb dL_areAlike_0 rfl (lv_at hl 0 rfl) ?_
  refine kE_callV (As := []) (rest := []) ⟨hx, hb, hml, hown, hts⟩ (kE_L (k_until l D g tl tm a S) (WO g b S')) hw (cw_areAlike_X4_untilSpark hts) ⟨Nat.le_of_ble_eq_true rfl, Nat.le_of_ble_eq_true rfl⟩ (WW_cellL (hasO_WO _ _ _) hK hP hw) hZ hP hD hK hN rfl hl rfl (Nat.le_of_ble_eq_true rfl) dL_areAlike_1 ⟨Nat.le_of_ble_eq_true rfl, Nat.le_of_ble_eq_true rfl⟩ hS hA (fun w H locs hw hP hD hS => ?_)
  refine lv_aload_n hx hb dL_areAlike_4 rfl (lv_at hl 1 rfl) ?_
  refine kE_callV (As := []) (rest := [.int (rX4_untilSpark (oN S) jm_0)]) ⟨hx, hb, hml, hown, hts⟩ (kE_R (k_until l D g tl tm b S') (WO g a S)) hw (cw_areAlike_X4_untilSpark hts) ⟨Nat.le_of_ble_eq_true rfl, Nat.le_of_ble_eq_true rfl⟩ (WW_cellR (hasO_WO _ _ _) hK hP hw) hZ hP hD hK hN rfl hl rfl (Nat.le_of_ble_eq_true rfl) dL_areAlike_5 ⟨Nat.le_of_ble_eq_true rfl, Nat.le_of_ble_eq_true rfl⟩ hS hA (fun w H locs hw hP hD hS => ?_)
  refine lv_icmp_ne (tgt := 37) hx hb dL_areAlike_8 (by decide) (fun c1 => ?_) (fun c1 => ?_)
  · exact absurd fs.1 c1
  refine lv_aload_n hx hb dL_areAlike_11 rfl (lv_at hl 0 rfl) ?_
  refine kE_callV (As := []) (rest := []) ⟨hx, hb, hml, hown, hts⟩ (kE_L (k_gap l D g tl tm a S) (WO g b S')) hw (cw_areAlike_X4_widestGap hts) ⟨Nat.le_of_ble_eq_true rfl, Nat.le_of_ble_eq_true rfl⟩ (WW_cellL (hasO_WO _ _ _) hK hP hw) hZ hP hD hK hN rfl hl rfl (Nat.le_of_ble_eq_true rfl) dL_areAlike_12 ⟨Nat.le_of_ble_eq_true rfl, Nat.le_of_ble_eq_true rfl⟩ hS hA (fun w H locs hw hP hD hS => ?_)
  refine lv_aload_n hx hb dL_areAlike_15 rfl (lv_at hl 1 rfl) ?_
  refine kE_callV (As := []) (rest := [.int (lc_wg (oN S))]) ⟨hx, hb, hml, hown, hts⟩ (kE_R (k_gap l D g tl tm b S') (WO g a S)) hw (cw_areAlike_X4_widestGap hts) ⟨Nat.le_of_ble_eq_true rfl, Nat.le_of_ble_eq_true rfl⟩ (WW_cellR (hasO_WO _ _ _) hK hP hw) hZ hP hD hK hN rfl hl rfl (Nat.le_of_ble_eq_true rfl) dL_areAlike_16 ⟨Nat.le_of_ble_eq_true rfl, Nat.le_of_ble_eq_true rfl⟩ hS hA (fun w H locs hw hP hD hS => ?_)
  refine lv_icmp_ne (tgt := 37) hx hb dL_areAlike_19 (by decide) (fun c2 => ?_) (fun c2 => ?_)
  · exact absurd fs.2.1 c2
  refine lv_aload_n hx hb dL_areAlike_22 rfl (lv_at hl 0 rfl) ?_
  refine kE_callV (As := []) (rest := []) ⟨hx, hb, hml, hown, hts⟩ (kE_L (k_damp l D g tl tm a S) (WO g b S')) hw (cw_areAlike_X4_mostDamp hts) ⟨Nat.le_of_ble_eq_true rfl, Nat.le_of_ble_eq_true rfl⟩ (WW_cellL (hasO_WO _ _ _) hK hP hw) hZ hP hD hK hN rfl hl rfl (Nat.le_of_ble_eq_true rfl) dL_areAlike_23 ⟨Nat.le_of_ble_eq_true rfl, Nat.le_of_ble_eq_true rfl⟩ hS hA (fun w H locs hw hP hD hS => ?_)
  refine lv_aload_n hx hb dL_areAlike_26 rfl (lv_at hl 1 rfl) ?_
  refine kE_callV (As := []) (rest := [.int ((lc_md (oN S) 61 0 jm_0).1)]) ⟨hx, hb, hml, hown, hts⟩ (kE_R (k_damp l D g tl tm b S') (WO g a S)) hw (cw_areAlike_X4_mostDamp hts) ⟨Nat.le_of_ble_eq_true rfl, Nat.le_of_ble_eq_true rfl⟩ (WW_cellR (hasO_WO _ _ _) hK hP hw) hZ hP hD hK hN rfl hl rfl (Nat.le_of_ble_eq_true rfl) dL_areAlike_27 ⟨Nat.le_of_ble_eq_true rfl, Nat.le_of_ble_eq_true rfl⟩ hS hA (fun w H locs hw hP hD hS => ?_)
  refine lv_icmp_ne (tgt := 37) hx hb dL_areAlike_30 (by decide) (fun c3 => ?_) (fun c3 => ?_)
  · exact absurd fs.2.2 c3
  refine lv_iconst (v := 1) hx hb dL_areAlike_33 (by decide) ?_
  refine lv_goto (tgt := 38) hx hb dL_areAlike_34 (by decide) ?_
  refine lv_istore_n (lv' := [(3, .int 1), (0, .ref (a 0 0)), (1, .ref (b 0 0)), (2, .int x)]) hx hb dL_areAlike_38 rfl hl (by decide) rfl (fun ls hl => ?_)
  refine lv_iconst (v := 0) hx hb dL_areAlike_39 (by decide) ?_
  refine lv_istore (lv' := [(4, .int 0), (3, .int 1), (0, .ref (a 0 0)), (1, .ref (b 0 0)), (2, .int x)]) hx hb dL_areAlike_40 hl (by decide) rfl (fun ls hl => ?_)
  have hlp42 : ∀ (nn42 k : Nat), k ≤ 8 → 8 < k + nn42 → ∀ (w : va_W) (H : Heap) (locs : List Loc) (ls : Array Slot), (bothW (WO g a S) (WO g b S')) w → va_P D vwCl w H → va_D A w → va_S A s.heap H locs → lv_has ls 6 [(4, .int (nI k)), (3, .int 1), (0, .ref (a 0 0)), (1, .ref (b 0 0)), (2, .int x)] → W p l e ({ frames := 7, cells := 0, slots := 0, locals := 163 }) s m args below meth c H locs 0 0 (MQ below (jk_QC (some (.int 1)) D (fun o : {w // (bothW (WO g a S) (WO g b S')) w} => o.1) A) args s 0 0 A) (F0 m 42 ls []) := by
    intro nn42
    induction nn42 with
    | zero => intro k  hk1 hk2; exact absurd hk2 (by omega)
    | succ nn42 ih42 =>
      intro k  hk42 hkn42  w H locs ls hw hP hD hS hl
      refine lv_iload hx hb dL_areAlike_42 (lv_at hl 0 rfl) ?_
      refine lv_bipush (v := 8) hx hb dL_areAlike_44 (by decide) ?_
      refine lv_icmp_ge (tgt := 80) hx hb dL_areAlike_46 (by decide) (fun c4 => ?_) (fun c4 => ?_)
      · have hk9 : k = 8 := jk_ge (N := 8) (by decide) hk42 c4
        refine lv_bipush (v := 8) hx hb dL_areAlike_80 (by decide) ?_
        refine lv_istore (lv' := [(4, .int 8), (3, .int 1), (0, .ref (a 0 0)), (1, .ref (b 0 0)), (2, .int x)]) hx hb dL_areAlike_82 hl (by decide) rfl (fun ls hl => ?_)
        have hlp84 : ∀ (nn84 k : Nat), k ≤ 5 → 5 < k + nn84 → ∀ (w : va_W) (H : Heap) (locs : List Loc) (ls : Array Slot), (bothW (WO g a S) (WO g b S')) w → va_P D vwCl w H → va_D A w → va_S A s.heap H locs → lv_has ls 6 [(4, .int (nI (8 + k))), (3, .int 1), (0, .ref (a 0 0)), (1, .ref (b 0 0)), (2, .int x)] → W p l e ({ frames := 7, cells := 0, slots := 0, locals := 163 }) s m args below meth c H locs 0 0 (MQ below (jk_QC (some (.int 1)) D (fun o : {w // (bothW (WO g a S) (WO g b S')) w} => o.1) A) args s 0 0 A) (F0 m 84 ls []) := by
          intro nn84
          induction nn84 with
          | zero => intro k  hk1 hk2; exact absurd hk2 (by omega)
          | succ nn84 ih84 =>
            intro k  hk84 hkn84  w H locs ls hw hP hD hS hl
            refine lv_iload hx hb dL_areAlike_84 (lv_at hl 0 rfl) ?_
            refine lv_bipush (v := 13) hx hb dL_areAlike_86 (by decide) ?_
            refine lv_icmp_ge (tgt := 123) hx hb dL_areAlike_88 (by decide) (fun c5 => ?_) (fun c5 => ?_)
            · have hk9 : 8 + k = 13 := jk_ge (N := 13) (k := 8 + k) (by decide) (by omega) c5
              refine lv_iconst (v := 0) hx hb dL_areAlike_123 (by decide) ?_
              refine lv_istore (lv' := [(4, .int 0), (3, .int 1), (0, .ref (a 0 0)), (1, .ref (b 0 0)), (2, .int x)]) hx hb dL_areAlike_124 hl (by decide) rfl (fun ls hl => ?_)
              have hlp126 : ∀ (nn126 j : Nat), j ≤ 2 → 2 < j + nn126 → ∀ (w : va_W) (H : Heap) (locs : List Loc) (ls : Array Slot), (bothW (WO g a S) (WO g b S')) w → va_P D vwCl w H → va_D A w → va_S A s.heap H locs → lv_has ls 6 [(4, .int (nI j)), (3, .int 1), (0, .ref (a 0 0)), (1, .ref (b 0 0)), (2, .int x)] → W p l e ({ frames := 7, cells := 0, slots := 0, locals := 163 }) s m args below meth c H locs 0 0 (MQ below (jk_QC (some (.int 1)) D (fun o : {w // (bothW (WO g a S) (WO g b S')) w} => o.1) A) args s 0 0 A) (F0 m 126 ls []) := by
                intro nn126
                induction nn126 with
                | zero => intro j  hk1 hk2; exact absurd hk2 (by omega)
                | succ nn126 ih126 =>
                  intro j  hk126 hkn126  w H locs ls hw hP hD hS hl
                  refine lv_iload hx hb dL_areAlike_126 (lv_at hl 0 rfl) ?_
                  refine lv_iconst (v := 2) hx hb dL_areAlike_128 (by decide) ?_
                  refine lv_icmp_ge (tgt := 306) hx hb dL_areAlike_129 (by decide) (fun c6 => ?_) (fun c6 => ?_)
                  · have hk9 : j = 2 := jk_ge (N := 2) (by decide) hk126 c6
                    refine lv_iconst (v := 0) hx hb dL_areAlike_306 (by decide) ?_
                    refine lv_istore (lv' := [(4, .int 0), (3, .int 1), (0, .ref (a 0 0)), (1, .ref (b 0 0)), (2, .int x)]) hx hb dL_areAlike_307 hl (by decide) rfl (fun ls hl => ?_)
                    have hlp309 : ∀ (nn309 k : Nat), k ≤ 8 → 8 < k + nn309 → ∀ (w : va_W) (H : Heap) (locs : List Loc) (ls : Array Slot), (bothW (WO g a S) (WO g b S')) w → va_P D vwCl w H → va_D A w → va_S A s.heap H locs → lv_has ls 6 [(4, .int (nI k)), (3, .int 1), (0, .ref (a 0 0)), (1, .ref (b 0 0)), (2, .int x)] → W p l e ({ frames := 7, cells := 0, slots := 0, locals := 163 }) s m args below meth c H locs 0 0 (MQ below (jk_QC (some (.int 1)) D (fun o : {w // (bothW (WO g a S) (WO g b S')) w} => o.1) A) args s 0 0 A) (F0 m 309 ls []) := by
                      intro nn309
                      induction nn309 with
                      | zero => intro k  hk1 hk2; exact absurd hk2 (by omega)
                      | succ nn309 ih309 =>
                        intro k  hk309 hkn309  w H locs ls hw hP hD hS hl
                        refine lv_iload hx hb dL_areAlike_309 (lv_at hl 0 rfl) ?_
                        refine lv_bipush (v := 8) hx hb dL_areAlike_311 (by decide) ?_
                        refine lv_icmp_ge (tgt := 396) hx hb dL_areAlike_313 (by decide) (fun c7 => ?_) (fun c7 => ?_)
                        · have hk9 : k = 8 := jk_ge (N := 8) (by decide) hk309 c7
                          refine lv_iconst (v := 1) hx hb dL_areAlike_396 (by decide) ?_
                          refine lv_iload_n hx hb dL_areAlike_397 rfl (lv_at hl 4 rfl) ?_
                          refine lv_sipush (v := 200) hx hb dL_areAlike_398 (by decide) ?_
                          refine kE_callS (As := [.int x, .int 200]) (rest := [.int 1]) ⟨hx, hb, hml, hown, hts⟩ (e_up l D g tl tm x (n := 200) (by omega) (by omega) _) hw (cw_areAlike_L_up hts) ⟨Nat.le_of_ble_eq_true rfl, Nat.le_of_ble_eq_true rfl⟩ hZ hP hD hK hN rfl hl rfl (Nat.le_of_ble_eq_true rfl) dL_areAlike_401 ⟨Nat.le_of_ble_eq_true rfl, Nat.le_of_ble_eq_true rfl⟩ hS hA (fun w H locs hw hP hD hS => ?_)
                          refine lv_iadd hx hb dL_areAlike_404 ?_
                          refine lv_topi (fun y9 e9 => ?_)
                          obtain rfl : y9 = nI (1 + upN x 200) := e9.trans (nI_add 1 _)
                          have hu := upN_lt x (show 0 < 200 by omega)
                          have fi := fift (1 + upN x 200) (by omega) (by omega)
                          refine lv_istore (lv' := [(4, .int (nI (1 + upN x 200))), (3, .int 1), (0, .ref (a 0 0)), (1, .ref (b 0 0)), (2, .int x)]) hx hb dL_areAlike_405 hl (by decide) rfl (fun ls hl => ?_)
                          refine lv_iload_n hx hb dL_areAlike_407 rfl (lv_at hl 1 rfl) ?_
                          refine lv_if_eq (tgt := 520) hx hb dL_areAlike_408 (by decide) (fun c8 => ?_) (fun c8 => ?_)
                          · exact absurd c8 (by decide)
                          refine lv_aload_n hx hb dL_areAlike_411 rfl (lv_at hl 2 rfl) ?_
                          refine lv_iload hx hb dL_areAlike_412 (lv_at hl 0 rfl) ?_
                          refine lv_iconst (v := 0) hx hb dL_areAlike_414 (by decide) ?_
                          refine kE_callV (As := [.int (nI (1 + upN x 200)), .int 0]) (rest := []) ⟨hx, hb, hml, hown, hts⟩ (kE_L (k_ifT l D g tl tm a S (nI (1 + upN x 200)) 0) (WO g b S')) hw (cw_areAlike_X4_ifTurned hts) ⟨Nat.le_of_ble_eq_true rfl, Nat.le_of_ble_eq_true rfl⟩ (WW_cellL (hasO_WO _ _ _) hK hP hw) hZ hP hD hK hN rfl hl rfl (Nat.le_of_ble_eq_true rfl) dL_areAlike_415 ⟨Nat.le_of_ble_eq_true rfl, Nat.le_of_ble_eq_true rfl⟩ hS hA (fun w H locs hw hP hD hS => ?_)
                          refine lv_aload_n hx hb dL_areAlike_418 rfl (lv_at hl 3 rfl) ?_
                          refine lv_iload hx hb dL_areAlike_419 (lv_at hl 0 rfl) ?_
                          refine lv_iconst (v := 0) hx hb dL_areAlike_421 (by decide) ?_
                          refine kE_callV (As := [.int (nI (1 + upN x 200)), .int 0]) (rest := [.int (rX4_ifTurned (oN S) jm_0 (nI (1 + upN x 200)) 0)]) ⟨hx, hb, hml, hown, hts⟩ (kE_R (k_ifT l D g tl tm b S' (nI (1 + upN x 200)) 0) (WO g a S)) hw (cw_areAlike_X4_ifTurned hts) ⟨Nat.le_of_ble_eq_true rfl, Nat.le_of_ble_eq_true rfl⟩ (WW_cellR (hasO_WO _ _ _) hK hP hw) hZ hP hD hK hN rfl hl rfl (Nat.le_of_ble_eq_true rfl) dL_areAlike_422 ⟨Nat.le_of_ble_eq_true rfl, Nat.le_of_ble_eq_true rfl⟩ hS hA (fun w H locs hw hP hD hS => ?_)
                          refine lv_icmp_ne (tgt := 520) hx hb dL_areAlike_425 (by decide) (fun c9 => ?_) (fun c9 => ?_)
                          · exact absurd fi.1 c9
                          refine lv_aload_n hx hb dL_areAlike_428 rfl (lv_at hl 2 rfl) ?_
                          refine lv_iload hx hb dL_areAlike_429 (lv_at hl 0 rfl) ?_
                          refine lv_iconst (v := 1) hx hb dL_areAlike_431 (by decide) ?_
                          refine kE_callV (As := [.int (nI (1 + upN x 200)), .int 1]) (rest := []) ⟨hx, hb, hml, hown, hts⟩ (kE_L (k_ifT l D g tl tm a S (nI (1 + upN x 200)) 1) (WO g b S')) hw (cw_areAlike_X4_ifTurned hts) ⟨Nat.le_of_ble_eq_true rfl, Nat.le_of_ble_eq_true rfl⟩ (WW_cellL (hasO_WO _ _ _) hK hP hw) hZ hP hD hK hN rfl hl rfl (Nat.le_of_ble_eq_true rfl) dL_areAlike_432 ⟨Nat.le_of_ble_eq_true rfl, Nat.le_of_ble_eq_true rfl⟩ hS hA (fun w H locs hw hP hD hS => ?_)
                          refine lv_aload_n hx hb dL_areAlike_435 rfl (lv_at hl 3 rfl) ?_
                          refine lv_iload hx hb dL_areAlike_436 (lv_at hl 0 rfl) ?_
                          refine lv_iconst (v := 1) hx hb dL_areAlike_438 (by decide) ?_
                          refine kE_callV (As := [.int (nI (1 + upN x 200)), .int 1]) (rest := [.int (rX4_ifTurned (oN S) jm_0 (nI (1 + upN x 200)) 1)]) ⟨hx, hb, hml, hown, hts⟩ (kE_R (k_ifT l D g tl tm b S' (nI (1 + upN x 200)) 1) (WO g a S)) hw (cw_areAlike_X4_ifTurned hts) ⟨Nat.le_of_ble_eq_true rfl, Nat.le_of_ble_eq_true rfl⟩ (WW_cellR (hasO_WO _ _ _) hK hP hw) hZ hP hD hK hN rfl hl rfl (Nat.le_of_ble_eq_true rfl) dL_areAlike_439 ⟨Nat.le_of_ble_eq_true rfl, Nat.le_of_ble_eq_true rfl⟩ hS hA (fun w H locs hw hP hD hS => ?_)
                          refine lv_icmp_ne (tgt := 520) hx hb dL_areAlike_442 (by decide) (fun c10 => ?_) (fun c10 => ?_)
                          · exact absurd fi.2.1 c10
                          refine lv_aload_n hx hb dL_areAlike_445 rfl (lv_at hl 2 rfl) ?_
                          refine lv_iload hx hb dL_areAlike_446 (lv_at hl 0 rfl) ?_
                          refine lv_iconst (v := 2) hx hb dL_areAlike_448 (by decide) ?_
                          refine kE_callV (As := [.int (nI (1 + upN x 200)), .int 2]) (rest := []) ⟨hx, hb, hml, hown, hts⟩ (kE_L (k_ifT l D g tl tm a S (nI (1 + upN x 200)) 2) (WO g b S')) hw (cw_areAlike_X4_ifTurned hts) ⟨Nat.le_of_ble_eq_true rfl, Nat.le_of_ble_eq_true rfl⟩ (WW_cellL (hasO_WO _ _ _) hK hP hw) hZ hP hD hK hN rfl hl rfl (Nat.le_of_ble_eq_true rfl) dL_areAlike_449 ⟨Nat.le_of_ble_eq_true rfl, Nat.le_of_ble_eq_true rfl⟩ hS hA (fun w H locs hw hP hD hS => ?_)
                          refine lv_aload_n hx hb dL_areAlike_452 rfl (lv_at hl 3 rfl) ?_
                          refine lv_iload hx hb dL_areAlike_453 (lv_at hl 0 rfl) ?_
                          refine lv_iconst (v := 2) hx hb dL_areAlike_455 (by decide) ?_
                          refine kE_callV (As := [.int (nI (1 + upN x 200)), .int 2]) (rest := [.int (rX4_ifTurned (oN S) jm_0 (nI (1 + upN x 200)) 2)]) ⟨hx, hb, hml, hown, hts⟩ (kE_R (k_ifT l D g tl tm b S' (nI (1 + upN x 200)) 2) (WO g a S)) hw (cw_areAlike_X4_ifTurned hts) ⟨Nat.le_of_ble_eq_true rfl, Nat.le_of_ble_eq_true rfl⟩ (WW_cellR (hasO_WO _ _ _) hK hP hw) hZ hP hD hK hN rfl hl rfl (Nat.le_of_ble_eq_true rfl) dL_areAlike_456 ⟨Nat.le_of_ble_eq_true rfl, Nat.le_of_ble_eq_true rfl⟩ hS hA (fun w H locs hw hP hD hS => ?_)
                          refine lv_ineg hx hb dL_areAlike_459 ?_
                          refine lv_icmp_ne (tgt := 520) hx hb dL_areAlike_460 (by decide) (fun c11 => ?_) (fun c11 => ?_)
                          · exact absurd fi.2.2.1 c11
                          refine lv_aload_n hx hb dL_areAlike_463 rfl (lv_at hl 2 rfl) ?_
                          refine lv_iload hx hb dL_areAlike_464 (lv_at hl 0 rfl) ?_
                          refine lv_iconst (v := 3) hx hb dL_areAlike_466 (by decide) ?_
                          refine kE_callV (As := [.int (nI (1 + upN x 200)), .int 3]) (rest := []) ⟨hx, hb, hml, hown, hts⟩ (kE_L (k_ifT l D g tl tm a S (nI (1 + upN x 200)) 3) (WO g b S')) hw (cw_areAlike_X4_ifTurned hts) ⟨Nat.le_of_ble_eq_true rfl, Nat.le_of_ble_eq_true rfl⟩ (WW_cellL (hasO_WO _ _ _) hK hP hw) hZ hP hD hK hN rfl hl rfl (Nat.le_of_ble_eq_true rfl) dL_areAlike_467 ⟨Nat.le_of_ble_eq_true rfl, Nat.le_of_ble_eq_true rfl⟩ hS hA (fun w H locs hw hP hD hS => ?_)
                          refine lv_aload_n hx hb dL_areAlike_470 rfl (lv_at hl 3 rfl) ?_
                          refine lv_iload hx hb dL_areAlike_471 (lv_at hl 0 rfl) ?_
                          refine lv_iconst (v := 3) hx hb dL_areAlike_473 (by decide) ?_
                          refine kE_callV (As := [.int (nI (1 + upN x 200)), .int 3]) (rest := [.int (rX4_ifTurned (oN S) jm_0 (nI (1 + upN x 200)) 3)]) ⟨hx, hb, hml, hown, hts⟩ (kE_R (k_ifT l D g tl tm b S' (nI (1 + upN x 200)) 3) (WO g a S)) hw (cw_areAlike_X4_ifTurned hts) ⟨Nat.le_of_ble_eq_true rfl, Nat.le_of_ble_eq_true rfl⟩ (WW_cellR (hasO_WO _ _ _) hK hP hw) hZ hP hD hK hN rfl hl rfl (Nat.le_of_ble_eq_true rfl) dL_areAlike_474 ⟨Nat.le_of_ble_eq_true rfl, Nat.le_of_ble_eq_true rfl⟩ hS hA (fun w H locs hw hP hD hS => ?_)
                          refine lv_ineg hx hb dL_areAlike_477 ?_
                          refine lv_icmp_ne (tgt := 520) hx hb dL_areAlike_478 (by decide) (fun c12 => ?_) (fun c12 => ?_)
                          · exact absurd fi.2.2.2.1 c12
                          refine lv_aload_n hx hb dL_areAlike_481 rfl (lv_at hl 2 rfl) ?_
                          refine lv_iload hx hb dL_areAlike_482 (lv_at hl 0 rfl) ?_
                          refine lv_iconst (v := 4) hx hb dL_areAlike_484 (by decide) ?_
                          refine kE_callV (As := [.int (nI (1 + upN x 200)), .int 4]) (rest := []) ⟨hx, hb, hml, hown, hts⟩ (kE_L (k_ifT l D g tl tm a S (nI (1 + upN x 200)) 4) (WO g b S')) hw (cw_areAlike_X4_ifTurned hts) ⟨Nat.le_of_ble_eq_true rfl, Nat.le_of_ble_eq_true rfl⟩ (WW_cellL (hasO_WO _ _ _) hK hP hw) hZ hP hD hK hN rfl hl rfl (Nat.le_of_ble_eq_true rfl) dL_areAlike_485 ⟨Nat.le_of_ble_eq_true rfl, Nat.le_of_ble_eq_true rfl⟩ hS hA (fun w H locs hw hP hD hS => ?_)
                          refine lv_aload_n hx hb dL_areAlike_488 rfl (lv_at hl 3 rfl) ?_
                          refine lv_iload hx hb dL_areAlike_489 (lv_at hl 0 rfl) ?_
                          refine lv_iconst (v := 4) hx hb dL_areAlike_491 (by decide) ?_
                          refine kE_callV (As := [.int (nI (1 + upN x 200)), .int 4]) (rest := [.int (rX4_ifTurned (oN S) jm_0 (nI (1 + upN x 200)) 4)]) ⟨hx, hb, hml, hown, hts⟩ (kE_R (k_ifT l D g tl tm b S' (nI (1 + upN x 200)) 4) (WO g a S)) hw (cw_areAlike_X4_ifTurned hts) ⟨Nat.le_of_ble_eq_true rfl, Nat.le_of_ble_eq_true rfl⟩ (WW_cellR (hasO_WO _ _ _) hK hP hw) hZ hP hD hK hN rfl hl rfl (Nat.le_of_ble_eq_true rfl) dL_areAlike_492 ⟨Nat.le_of_ble_eq_true rfl, Nat.le_of_ble_eq_true rfl⟩ hS hA (fun w H locs hw hP hD hS => ?_)
                          refine lv_icmp_ne (tgt := 520) hx hb dL_areAlike_495 (by decide) (fun c13 => ?_) (fun c13 => ?_)
                          · exact absurd fi.2.2.2.2.1 c13
                          refine lv_aload_n hx hb dL_areAlike_498 rfl (lv_at hl 2 rfl) ?_
                          refine lv_iload hx hb dL_areAlike_499 (lv_at hl 0 rfl) ?_
                          refine lv_iconst (v := 5) hx hb dL_areAlike_501 (by decide) ?_
                          refine kE_callV (As := [.int (nI (1 + upN x 200)), .int 5]) (rest := []) ⟨hx, hb, hml, hown, hts⟩ (kE_L (k_ifT l D g tl tm a S (nI (1 + upN x 200)) 5) (WO g b S')) hw (cw_areAlike_X4_ifTurned hts) ⟨Nat.le_of_ble_eq_true rfl, Nat.le_of_ble_eq_true rfl⟩ (WW_cellL (hasO_WO _ _ _) hK hP hw) hZ hP hD hK hN rfl hl rfl (Nat.le_of_ble_eq_true rfl) dL_areAlike_502 ⟨Nat.le_of_ble_eq_true rfl, Nat.le_of_ble_eq_true rfl⟩ hS hA (fun w H locs hw hP hD hS => ?_)
                          refine lv_aload_n hx hb dL_areAlike_505 rfl (lv_at hl 3 rfl) ?_
                          refine lv_iload hx hb dL_areAlike_506 (lv_at hl 0 rfl) ?_
                          refine lv_iconst (v := 5) hx hb dL_areAlike_508 (by decide) ?_
                          refine kE_callV (As := [.int (nI (1 + upN x 200)), .int 5]) (rest := [.int (rX4_ifTurned (oN S) jm_0 (nI (1 + upN x 200)) 5)]) ⟨hx, hb, hml, hown, hts⟩ (kE_R (k_ifT l D g tl tm b S' (nI (1 + upN x 200)) 5) (WO g a S)) hw (cw_areAlike_X4_ifTurned hts) ⟨Nat.le_of_ble_eq_true rfl, Nat.le_of_ble_eq_true rfl⟩ (WW_cellR (hasO_WO _ _ _) hK hP hw) hZ hP hD hK hN rfl hl rfl (Nat.le_of_ble_eq_true rfl) dL_areAlike_509 ⟨Nat.le_of_ble_eq_true rfl, Nat.le_of_ble_eq_true rfl⟩ hS hA (fun w H locs hw hP hD hS => ?_)
                          refine lv_ineg hx hb dL_areAlike_512 ?_
                          refine lv_icmp_ne (tgt := 520) hx hb dL_areAlike_513 (by decide) (fun c14 => ?_) (fun c14 => ?_)
                          · exact absurd fi.2.2.2.2.2 c14
                          refine lv_iconst (v := 1) hx hb dL_areAlike_516 (by decide) ?_
                          refine lv_goto (tgt := 521) hx hb dL_areAlike_517 (by decide) ?_
                          exact kE_zret hx hb hr (by decide) hlocks hw hP hD hS (Nat.le_of_ble_eq_true rfl) (Nat.le_of_ble_eq_true rfl) rfl dL_areAlike_521
                        · have hlt : k < 8 := jk_lt (N := 8) (by decide) hk309 c7
                          refine lv_aload_n hx hb dL_areAlike_316 rfl (lv_at hl 2 rfl) ?_
                          refine lv_iload hx hb dL_areAlike_317 (lv_at hl 0 rfl) ?_
                          refine lv_iconst (v := 0) hx hb dL_areAlike_319 (by decide) ?_
                          refine kE_callV (As := [.int (nI k), .int 0]) (rest := []) ⟨hx, hb, hml, hown, hts⟩ (kE_L (k_spark l D g tl tm a S (nI k) 0) (WO g b S')) hw (cw_areAlike_X4_spark hts) ⟨Nat.le_of_ble_eq_true rfl, Nat.le_of_ble_eq_true rfl⟩ (WW_cellL (hasO_WO _ _ _) hK hP hw) hZ hP hD hK hN rfl hl rfl (Nat.le_of_ble_eq_true rfl) dL_areAlike_320 ⟨Nat.le_of_ble_eq_true rfl, Nat.le_of_ble_eq_true rfl⟩ hS hA (fun w H locs hw hP hD hS => ?_)
                          refine lv_istore (lv' := [(5, .int (rX4_spark (oN S) (nI k) 0)), (4, .int (nI k)), (3, .int 1), (0, .ref (a 0 0)), (1, .ref (b 0 0)), (2, .int x)]) hx hb dL_areAlike_323 hl (by decide) rfl (fun ls hl => ?_)
                          refine lv_iload_n hx hb dL_areAlike_325 rfl (lv_at hl 2 rfl) ?_
                          refine lv_if_eq (tgt := 388) hx hb dL_areAlike_326 (by decide) (fun c15 => ?_) (fun c15 => ?_)
                          · exact absurd c15 (by decide)
                          refine lv_iload hx hb dL_areAlike_329 (lv_at hl 0 rfl) ?_
                          refine lv_aload_n hx hb dL_areAlike_331 rfl (lv_at hl 4 rfl) ?_
                          refine lv_iload hx hb dL_areAlike_332 (lv_at hl 1 rfl) ?_
                          refine lv_iconst (v := 0) hx hb dL_areAlike_334 (by decide) ?_
                          refine kE_callV (As := [.int (nI k), .int 0]) (rest := [.int (rX4_spark (oN S) (nI k) 0)]) ⟨hx, hb, hml, hown, hts⟩ (kE_R (k_spark l D g tl tm b S' (nI k) 0) (WO g a S)) hw (cw_areAlike_X4_spark hts) ⟨Nat.le_of_ble_eq_true rfl, Nat.le_of_ble_eq_true rfl⟩ (WW_cellR (hasO_WO _ _ _) hK hP hw) hZ hP hD hK hN rfl hl rfl (Nat.le_of_ble_eq_true rfl) dL_areAlike_335 ⟨Nat.le_of_ble_eq_true rfl, Nat.le_of_ble_eq_true rfl⟩ hS hA (fun w H locs hw hP hD hS => ?_)
                          refine lv_icmp_ne (tgt := 388) hx hb dL_areAlike_338 (by decide) (fun c16 => ?_) (fun c16 => ?_)
                          · exact absurd ((fsp k hlt).1) c16
                          refine lv_iload hx hb dL_areAlike_341 (lv_at hl 0 rfl) ?_
                          refine lv_ldc hx hb hown (hts (.constant RL 106 (-1000006)) (by decide +kernel)) dL_areAlike_343 ?_
                          refine lv_icmp_eq (tgt := 384) hx hb dL_areAlike_345 (by decide) (fun c17 => ?_) (fun c17 => ?_)
                          · refine lv_iconst (v := 1) hx hb dL_areAlike_384 (by decide) ?_
                            refine lv_goto (tgt := 389) hx hb dL_areAlike_385 (by decide) ?_
                            refine lv_istore_n (lv' := [(3, .int 1), (5, .int (rX4_spark (oN S) (nI k) 0)), (4, .int (nI k)), (0, .ref (a 0 0)), (1, .ref (b 0 0)), (2, .int x)]) hx hb dL_areAlike_389 rfl hl (by decide) rfl (fun ls hl => ?_)
                            refine lv_iinc (v := nI (k + 1)) (lv' := [(4, .int (nI (k + 1))), (3, .int 1), (5, .int (rX4_spark (oN S) (nI k) 0)), (0, .ref (a 0 0)), (1, .ref (b 0 0)), (2, .int x)]) hx hb dL_areAlike_390 hl (k := 2) rfl (nI_1 _) (by decide) rfl (fun ls hl => ?_)
                            refine lv_goto (tgt := 309) hx hb dL_areAlike_393 (by decide) ?_
                            exact ih309 (k + 1)  (by omega) (by omega)  w H locs ls hw hP hD hS (lv_sub hl [0, 1, 3, 4, 5] rfl)
                          · refine lv_aload_n hx hb dL_areAlike_348 rfl (lv_at hl 3 rfl) ?_
                            refine lv_iload hx hb dL_areAlike_349 (lv_at hl 1 rfl) ?_
                            refine lv_iconst (v := 1) hx hb dL_areAlike_351 (by decide) ?_
                            refine kE_callV (As := [.int (nI k), .int 1]) (rest := []) ⟨hx, hb, hml, hown, hts⟩ (kE_L (k_spark l D g tl tm a S (nI k) 1) (WO g b S')) hw (cw_areAlike_X4_spark hts) ⟨Nat.le_of_ble_eq_true rfl, Nat.le_of_ble_eq_true rfl⟩ (WW_cellL (hasO_WO _ _ _) hK hP hw) hZ hP hD hK hN rfl hl rfl (Nat.le_of_ble_eq_true rfl) dL_areAlike_352 ⟨Nat.le_of_ble_eq_true rfl, Nat.le_of_ble_eq_true rfl⟩ hS hA (fun w H locs hw hP hD hS => ?_)
                            refine lv_aload_n hx hb dL_areAlike_355 rfl (lv_at hl 4 rfl) ?_
                            refine lv_iload hx hb dL_areAlike_356 (lv_at hl 1 rfl) ?_
                            refine lv_iconst (v := 1) hx hb dL_areAlike_358 (by decide) ?_
                            refine kE_callV (As := [.int (nI k), .int 1]) (rest := [.int (rX4_spark (oN S) (nI k) 1)]) ⟨hx, hb, hml, hown, hts⟩ (kE_R (k_spark l D g tl tm b S' (nI k) 1) (WO g a S)) hw (cw_areAlike_X4_spark hts) ⟨Nat.le_of_ble_eq_true rfl, Nat.le_of_ble_eq_true rfl⟩ (WW_cellR (hasO_WO _ _ _) hK hP hw) hZ hP hD hK hN rfl hl rfl (Nat.le_of_ble_eq_true rfl) dL_areAlike_359 ⟨Nat.le_of_ble_eq_true rfl, Nat.le_of_ble_eq_true rfl⟩ hS hA (fun w H locs hw hP hD hS => ?_)
                            refine lv_ineg hx hb dL_areAlike_362 ?_
                            refine lv_icmp_ne (tgt := 388) hx hb dL_areAlike_363 (by decide) (fun c18 => ?_) (fun c18 => ?_)
                            · exact absurd (((fsp k hlt).2 c17).1) c18
                            refine lv_aload_n hx hb dL_areAlike_366 rfl (lv_at hl 3 rfl) ?_
                            refine lv_iload hx hb dL_areAlike_367 (lv_at hl 1 rfl) ?_
                            refine lv_iconst (v := 2) hx hb dL_areAlike_369 (by decide) ?_
                            refine kE_callV (As := [.int (nI k), .int 2]) (rest := []) ⟨hx, hb, hml, hown, hts⟩ (kE_L (k_spark l D g tl tm a S (nI k) 2) (WO g b S')) hw (cw_areAlike_X4_spark hts) ⟨Nat.le_of_ble_eq_true rfl, Nat.le_of_ble_eq_true rfl⟩ (WW_cellL (hasO_WO _ _ _) hK hP hw) hZ hP hD hK hN rfl hl rfl (Nat.le_of_ble_eq_true rfl) dL_areAlike_370 ⟨Nat.le_of_ble_eq_true rfl, Nat.le_of_ble_eq_true rfl⟩ hS hA (fun w H locs hw hP hD hS => ?_)
                            refine lv_aload_n hx hb dL_areAlike_373 rfl (lv_at hl 4 rfl) ?_
                            refine lv_iload hx hb dL_areAlike_374 (lv_at hl 1 rfl) ?_
                            refine lv_iconst (v := 2) hx hb dL_areAlike_376 (by decide) ?_
                            refine kE_callV (As := [.int (nI k), .int 2]) (rest := [.int (rX4_spark (oN S) (nI k) 2)]) ⟨hx, hb, hml, hown, hts⟩ (kE_R (k_spark l D g tl tm b S' (nI k) 2) (WO g a S)) hw (cw_areAlike_X4_spark hts) ⟨Nat.le_of_ble_eq_true rfl, Nat.le_of_ble_eq_true rfl⟩ (WW_cellR (hasO_WO _ _ _) hK hP hw) hZ hP hD hK hN rfl hl rfl (Nat.le_of_ble_eq_true rfl) dL_areAlike_377 ⟨Nat.le_of_ble_eq_true rfl, Nat.le_of_ble_eq_true rfl⟩ hS hA (fun w H locs hw hP hD hS => ?_)
                            refine lv_ineg hx hb dL_areAlike_380 ?_
                            refine lv_icmp_ne (tgt := 388) hx hb dL_areAlike_381 (by decide) (fun c19 => ?_) (fun c19 => ?_)
                            · exact absurd (((fsp k hlt).2 c17).2) c19
                            refine lv_iconst (v := 1) hx hb dL_areAlike_384 (by decide) ?_
                            refine lv_goto (tgt := 389) hx hb dL_areAlike_385 (by decide) ?_
                            refine lv_istore_n (lv' := [(3, .int 1), (5, .int (rX4_spark (oN S) (nI k) 0)), (4, .int (nI k)), (0, .ref (a 0 0)), (1, .ref (b 0 0)), (2, .int x)]) hx hb dL_areAlike_389 rfl hl (by decide) rfl (fun ls hl => ?_)
                            refine lv_iinc (v := nI (k + 1)) (lv' := [(4, .int (nI (k + 1))), (3, .int 1), (5, .int (rX4_spark (oN S) (nI k) 0)), (0, .ref (a 0 0)), (1, .ref (b 0 0)), (2, .int x)]) hx hb dL_areAlike_390 hl (k := 2) rfl (nI_1 _) (by decide) rfl (fun ls hl => ?_)
                            refine lv_goto (tgt := 309) hx hb dL_areAlike_393 (by decide) ?_
                            exact ih309 (k + 1)  (by omega) (by omega)  w H locs ls hw hP hD hS (lv_sub hl [0, 1, 3, 4, 5] rfl)
                    exact hlp309 (8 + 1) 0  (by omega) (by omega)  w H locs ls hw hP hD hS (lv_sub hl [0, 1, 2, 3, 4] rfl)
                  · have hltj : j < 2 := jk_lt (N := 2) (by decide) hk126 c6
                    have fd := fdisc j hltj
                    refine lv_iload_n hx hb dL_areAlike_132 rfl (lv_at hl 1 rfl) ?_
                    refine lv_if_eq (tgt := 228) hx hb dL_areAlike_133 (by decide) (fun c20 => ?_) (fun c20 => ?_)
                    · exact absurd c20 (by decide)
                    refine lv_aload_n hx hb dL_areAlike_136 rfl (lv_at hl 2 rfl) ?_
                    refine lv_iload hx hb dL_areAlike_137 (lv_at hl 0 rfl) ?_
                    refine lv_iconst (v := 0) hx hb dL_areAlike_139 (by decide) ?_
                    refine kE_callV (As := [.int (nI j), .int 0]) (rest := []) ⟨hx, hb, hml, hown, hts⟩ (kE_L (k_disc l D g tl tm a S (nI j) 0) (WO g b S')) hw (cw_areAlike_X4_disc hts) ⟨Nat.le_of_ble_eq_true rfl, Nat.le_of_ble_eq_true rfl⟩ (WW_cellL (hasO_WO _ _ _) hK hP hw) hZ hP hD hK hN rfl hl rfl (Nat.le_of_ble_eq_true rfl) dL_areAlike_140 ⟨Nat.le_of_ble_eq_true rfl, Nat.le_of_ble_eq_true rfl⟩ hS hA (fun w H locs hw hP hD hS => ?_)
                    refine lv_aload_n hx hb dL_areAlike_143 rfl (lv_at hl 3 rfl) ?_
                    refine lv_iload hx hb dL_areAlike_144 (lv_at hl 0 rfl) ?_
                    refine lv_iconst (v := 0) hx hb dL_areAlike_146 (by decide) ?_
                    refine kE_callV (As := [.int (nI j), .int 0]) (rest := [.int (rX4_disc (oN S) (nI j) 0)]) ⟨hx, hb, hml, hown, hts⟩ (kE_R (k_disc l D g tl tm b S' (nI j) 0) (WO g a S)) hw (cw_areAlike_X4_disc hts) ⟨Nat.le_of_ble_eq_true rfl, Nat.le_of_ble_eq_true rfl⟩ (WW_cellR (hasO_WO _ _ _) hK hP hw) hZ hP hD hK hN rfl hl rfl (Nat.le_of_ble_eq_true rfl) dL_areAlike_147 ⟨Nat.le_of_ble_eq_true rfl, Nat.le_of_ble_eq_true rfl⟩ hS hA (fun w H locs hw hP hD hS => ?_)
                    refine lv_ineg hx hb dL_areAlike_150 ?_
                    refine lv_icmp_ne (tgt := 228) hx hb dL_areAlike_151 (by decide) (fun c21 => ?_) (fun c21 => ?_)
                    · exact absurd fd.1 c21
                    refine lv_aload_n hx hb dL_areAlike_154 rfl (lv_at hl 2 rfl) ?_
                    refine lv_iload hx hb dL_areAlike_155 (lv_at hl 0 rfl) ?_
                    refine lv_iconst (v := 1) hx hb dL_areAlike_157 (by decide) ?_
                    refine kE_callV (As := [.int (nI j), .int 1]) (rest := []) ⟨hx, hb, hml, hown, hts⟩ (kE_L (k_disc l D g tl tm a S (nI j) 1) (WO g b S')) hw (cw_areAlike_X4_disc hts) ⟨Nat.le_of_ble_eq_true rfl, Nat.le_of_ble_eq_true rfl⟩ (WW_cellL (hasO_WO _ _ _) hK hP hw) hZ hP hD hK hN rfl hl rfl (Nat.le_of_ble_eq_true rfl) dL_areAlike_158 ⟨Nat.le_of_ble_eq_true rfl, Nat.le_of_ble_eq_true rfl⟩ hS hA (fun w H locs hw hP hD hS => ?_)
                    refine lv_aload_n hx hb dL_areAlike_161 rfl (lv_at hl 3 rfl) ?_
                    refine lv_iload hx hb dL_areAlike_162 (lv_at hl 0 rfl) ?_
                    refine lv_iconst (v := 2) hx hb dL_areAlike_164 (by decide) ?_
                    refine kE_callV (As := [.int (nI j), .int 2]) (rest := [.int (rX4_disc (oN S) (nI j) 1)]) ⟨hx, hb, hml, hown, hts⟩ (kE_R (k_disc l D g tl tm b S' (nI j) 2) (WO g a S)) hw (cw_areAlike_X4_disc hts) ⟨Nat.le_of_ble_eq_true rfl, Nat.le_of_ble_eq_true rfl⟩ (WW_cellR (hasO_WO _ _ _) hK hP hw) hZ hP hD hK hN rfl hl rfl (Nat.le_of_ble_eq_true rfl) dL_areAlike_165 ⟨Nat.le_of_ble_eq_true rfl, Nat.le_of_ble_eq_true rfl⟩ hS hA (fun w H locs hw hP hD hS => ?_)
                    refine lv_icmp_ne (tgt := 228) hx hb dL_areAlike_168 (by decide) (fun c22 => ?_) (fun c22 => ?_)
                    · exact absurd fd.2.1 c22
                    refine lv_aload_n hx hb dL_areAlike_171 rfl (lv_at hl 2 rfl) ?_
                    refine lv_iload hx hb dL_areAlike_172 (lv_at hl 0 rfl) ?_
                    refine lv_iconst (v := 2) hx hb dL_areAlike_174 (by decide) ?_
                    refine kE_callV (As := [.int (nI j), .int 2]) (rest := []) ⟨hx, hb, hml, hown, hts⟩ (kE_L (k_disc l D g tl tm a S (nI j) 2) (WO g b S')) hw (cw_areAlike_X4_disc hts) ⟨Nat.le_of_ble_eq_true rfl, Nat.le_of_ble_eq_true rfl⟩ (WW_cellL (hasO_WO _ _ _) hK hP hw) hZ hP hD hK hN rfl hl rfl (Nat.le_of_ble_eq_true rfl) dL_areAlike_175 ⟨Nat.le_of_ble_eq_true rfl, Nat.le_of_ble_eq_true rfl⟩ hS hA (fun w H locs hw hP hD hS => ?_)
                    refine lv_aload_n hx hb dL_areAlike_178 rfl (lv_at hl 3 rfl) ?_
                    refine lv_iload hx hb dL_areAlike_179 (lv_at hl 0 rfl) ?_
                    refine lv_iconst (v := 1) hx hb dL_areAlike_181 (by decide) ?_
                    refine kE_callV (As := [.int (nI j), .int 1]) (rest := [.int (rX4_disc (oN S) (nI j) 2)]) ⟨hx, hb, hml, hown, hts⟩ (kE_R (k_disc l D g tl tm b S' (nI j) 1) (WO g a S)) hw (cw_areAlike_X4_disc hts) ⟨Nat.le_of_ble_eq_true rfl, Nat.le_of_ble_eq_true rfl⟩ (WW_cellR (hasO_WO _ _ _) hK hP hw) hZ hP hD hK hN rfl hl rfl (Nat.le_of_ble_eq_true rfl) dL_areAlike_182 ⟨Nat.le_of_ble_eq_true rfl, Nat.le_of_ble_eq_true rfl⟩ hS hA (fun w H locs hw hP hD hS => ?_)
                    refine lv_icmp_ne (tgt := 228) hx hb dL_areAlike_185 (by decide) (fun c23 => ?_) (fun c23 => ?_)
                    · exact absurd fd.2.2.1 c23
                    refine lv_aload_n hx hb dL_areAlike_188 rfl (lv_at hl 2 rfl) ?_
                    refine lv_iload hx hb dL_areAlike_189 (lv_at hl 0 rfl) ?_
                    refine lv_iconst (v := 3) hx hb dL_areAlike_191 (by decide) ?_
                    refine kE_callV (As := [.int (nI j), .int 3]) (rest := []) ⟨hx, hb, hml, hown, hts⟩ (kE_L (k_disc l D g tl tm a S (nI j) 3) (WO g b S')) hw (cw_areAlike_X4_disc hts) ⟨Nat.le_of_ble_eq_true rfl, Nat.le_of_ble_eq_true rfl⟩ (WW_cellL (hasO_WO _ _ _) hK hP hw) hZ hP hD hK hN rfl hl rfl (Nat.le_of_ble_eq_true rfl) dL_areAlike_192 ⟨Nat.le_of_ble_eq_true rfl, Nat.le_of_ble_eq_true rfl⟩ hS hA (fun w H locs hw hP hD hS => ?_)
                    refine lv_aload_n hx hb dL_areAlike_195 rfl (lv_at hl 3 rfl) ?_
                    refine lv_iload hx hb dL_areAlike_196 (lv_at hl 0 rfl) ?_
                    refine lv_iconst (v := 4) hx hb dL_areAlike_198 (by decide) ?_
                    refine kE_callV (As := [.int (nI j), .int 4]) (rest := [.int (rX4_disc (oN S) (nI j) 3)]) ⟨hx, hb, hml, hown, hts⟩ (kE_R (k_disc l D g tl tm b S' (nI j) 4) (WO g a S)) hw (cw_areAlike_X4_disc hts) ⟨Nat.le_of_ble_eq_true rfl, Nat.le_of_ble_eq_true rfl⟩ (WW_cellR (hasO_WO _ _ _) hK hP hw) hZ hP hD hK hN rfl hl rfl (Nat.le_of_ble_eq_true rfl) dL_areAlike_199 ⟨Nat.le_of_ble_eq_true rfl, Nat.le_of_ble_eq_true rfl⟩ hS hA (fun w H locs hw hP hD hS => ?_)
                    refine lv_ineg hx hb dL_areAlike_202 ?_
                    refine lv_icmp_ne (tgt := 228) hx hb dL_areAlike_203 (by decide) (fun c24 => ?_) (fun c24 => ?_)
                    · exact absurd fd.2.2.2.1 c24
                    refine lv_aload_n hx hb dL_areAlike_206 rfl (lv_at hl 2 rfl) ?_
                    refine lv_iload hx hb dL_areAlike_207 (lv_at hl 0 rfl) ?_
                    refine lv_iconst (v := 4) hx hb dL_areAlike_209 (by decide) ?_
                    refine kE_callV (As := [.int (nI j), .int 4]) (rest := []) ⟨hx, hb, hml, hown, hts⟩ (kE_L (k_disc l D g tl tm a S (nI j) 4) (WO g b S')) hw (cw_areAlike_X4_disc hts) ⟨Nat.le_of_ble_eq_true rfl, Nat.le_of_ble_eq_true rfl⟩ (WW_cellL (hasO_WO _ _ _) hK hP hw) hZ hP hD hK hN rfl hl rfl (Nat.le_of_ble_eq_true rfl) dL_areAlike_210 ⟨Nat.le_of_ble_eq_true rfl, Nat.le_of_ble_eq_true rfl⟩ hS hA (fun w H locs hw hP hD hS => ?_)
                    refine lv_aload_n hx hb dL_areAlike_213 rfl (lv_at hl 3 rfl) ?_
                    refine lv_iload hx hb dL_areAlike_214 (lv_at hl 0 rfl) ?_
                    refine lv_iconst (v := 3) hx hb dL_areAlike_216 (by decide) ?_
                    refine kE_callV (As := [.int (nI j), .int 3]) (rest := [.int (rX4_disc (oN S) (nI j) 4)]) ⟨hx, hb, hml, hown, hts⟩ (kE_R (k_disc l D g tl tm b S' (nI j) 3) (WO g a S)) hw (cw_areAlike_X4_disc hts) ⟨Nat.le_of_ble_eq_true rfl, Nat.le_of_ble_eq_true rfl⟩ (WW_cellR (hasO_WO _ _ _) hK hP hw) hZ hP hD hK hN rfl hl rfl (Nat.le_of_ble_eq_true rfl) dL_areAlike_217 ⟨Nat.le_of_ble_eq_true rfl, Nat.le_of_ble_eq_true rfl⟩ hS hA (fun w H locs hw hP hD hS => ?_)
                    refine lv_ineg hx hb dL_areAlike_220 ?_
                    refine lv_icmp_ne (tgt := 228) hx hb dL_areAlike_221 (by decide) (fun c25 => ?_) (fun c25 => ?_)
                    · exact absurd fd.2.2.2.2 c25
                    refine lv_iconst (v := 1) hx hb dL_areAlike_224 (by decide) ?_
                    refine lv_goto (tgt := 229) hx hb dL_areAlike_225 (by decide) ?_
                    refine lv_istore_n (lv' := [(3, .int 1), (4, .int (nI j)), (0, .ref (a 0 0)), (1, .ref (b 0 0)), (2, .int x)]) hx hb dL_areAlike_229 rfl hl (by decide) rfl (fun ls hl => ?_)
                    refine lv_iconst (v := 0) hx hb dL_areAlike_230 (by decide) ?_
                    refine lv_istore (lv' := [(5, .int 0), (3, .int 1), (4, .int (nI j)), (0, .ref (a 0 0)), (1, .ref (b 0 0)), (2, .int x)]) hx hb dL_areAlike_231 hl (by decide) rfl (fun ls hl => ?_)
                    have hlp233 : ∀ (nn233 k : Nat), k ≤ 12 → 12 < k + nn233 → ∀ (w : va_W) (H : Heap) (locs : List Loc) (ls : Array Slot), (bothW (WO g a S) (WO g b S')) w → va_P D vwCl w H → va_D A w → va_S A s.heap H locs → lv_has ls 6 [(5, .int (nI k)), (3, .int 1), (4, .int (nI j)), (0, .ref (a 0 0)), (1, .ref (b 0 0)), (2, .int x)] → W p l e ({ frames := 7, cells := 0, slots := 0, locals := 163 }) s m args below meth c H locs 0 0 (MQ below (jk_QC (some (.int 1)) D (fun o : {w // (bothW (WO g a S) (WO g b S')) w} => o.1) A) args s 0 0 A) (F0 m 233 ls []) := by
                      intro nn233
                      induction nn233 with
                      | zero => intro k  hk1 hk2; exact absurd hk2 (by omega)
                      | succ nn233 ih233 =>
                        intro k  hk233 hkn233  w H locs ls hw hP hD hS hl
                        refine lv_iload hx hb dL_areAlike_233 (lv_at hl 0 rfl) ?_
                        refine lv_bipush (v := 12) hx hb dL_areAlike_235 (by decide) ?_
                        refine lv_icmp_ge (tgt := 300) hx hb dL_areAlike_237 (by decide) (fun c26 => ?_) (fun c26 => ?_)
                        · have hk9 : k = 12 := jk_ge (N := 12) (by decide) hk233 c26
                          refine lv_iinc (v := nI (j + 1)) (lv' := [(4, .int (nI (j + 1))), (5, .int (nI k)), (3, .int 1), (0, .ref (a 0 0)), (1, .ref (b 0 0)), (2, .int x)]) hx hb dL_areAlike_300 hl (k := 2) rfl (nI_1 _) (by decide) rfl (fun ls hl => ?_)
                          refine lv_goto (tgt := 126) hx hb dL_areAlike_303 (by decide) ?_
                          exact ih126 (j + 1)  (by omega) (by omega)  w H locs ls hw hP hD hS (lv_sub hl [0, 2, 3, 4, 5] rfl)
                        · have hlt : k < 12 := jk_lt (N := 12) (by decide) hk233 c26
                          refine lv_iload_n hx hb dL_areAlike_240 rfl (lv_at hl 1 rfl) ?_
                          refine lv_if_eq (tgt := 292) hx hb dL_areAlike_241 (by decide) (fun c27 => ?_) (fun c27 => ?_)
                          · exact absurd c27 (by decide)
                          refine lv_aload_n hx hb dL_areAlike_244 rfl (lv_at hl 3 rfl) ?_
                          refine lv_iload hx hb dL_areAlike_245 (lv_at hl 2 rfl) ?_
                          refine lv_iload hx hb dL_areAlike_247 (lv_at hl 0 rfl) ?_
                          refine kE_callV (As := [.int (nI j), .int (nI k)]) (rest := []) ⟨hx, hb, hml, hown, hts⟩ (kE_L (k_sector l D g tl tm a S (nI j) (nI k)) (WO g b S')) hw (cw_areAlike_X4_sector hts) ⟨Nat.le_of_ble_eq_true rfl, Nat.le_of_ble_eq_true rfl⟩ (WW_cellL (hasO_WO _ _ _) hK hP hw) hZ hP hD hK hN rfl hl rfl (Nat.le_of_ble_eq_true rfl) dL_areAlike_249 ⟨Nat.le_of_ble_eq_true rfl, Nat.le_of_ble_eq_true rfl⟩ hS hA (fun w H locs hw hP hD hS => ?_)
                          refine lv_aload_n hx hb dL_areAlike_252 rfl (lv_at hl 4 rfl) ?_
                          refine lv_iload hx hb dL_areAlike_253 (lv_at hl 2 rfl) ?_
                          refine lv_iload hx hb dL_areAlike_255 (lv_at hl 0 rfl) ?_
                          refine kE_callV (As := [.int (nI j), .int (nI k)]) (rest := [.int (rX4_sector (oN S) (nI j) (nI k))]) ⟨hx, hb, hml, hown, hts⟩ (kE_R (k_sector l D g tl tm b S' (nI j) (nI k)) (WO g a S)) hw (cw_areAlike_X4_sector hts) ⟨Nat.le_of_ble_eq_true rfl, Nat.le_of_ble_eq_true rfl⟩ (WW_cellR (hasO_WO _ _ _) hK hP hw) hZ hP hD hK hN rfl hl rfl (Nat.le_of_ble_eq_true rfl) dL_areAlike_257 ⟨Nat.le_of_ble_eq_true rfl, Nat.le_of_ble_eq_true rfl⟩ hS hA (fun w H locs hw hP hD hS => ?_)
                          refine lv_ineg hx hb dL_areAlike_260 ?_
                          refine lv_icmp_ne (tgt := 292) hx hb dL_areAlike_261 (by decide) (fun c28 => ?_) (fun c28 => ?_)
                          · exact absurd (fsec j k hltj hlt) c28
                          refine lv_aload_n hx hb dL_areAlike_264 rfl (lv_at hl 3 rfl) ?_
                          refine lv_iload hx hb dL_areAlike_265 (lv_at hl 2 rfl) ?_
                          refine lv_iload hx hb dL_areAlike_267 (lv_at hl 0 rfl) ?_
                          refine lv_iconst (v := 3) hx hb dL_areAlike_269 (by decide) ?_
                          refine lv_irem hx hb dL_areAlike_270 (by decide) ?_
                          refine lv_topi (fun y9 e9 => ?_)
                          obtain rfl : y9 = nI (k % 3) := e9.trans (rem3 k hlt)
                          refine kE_callV (As := [.int (nI j), .int (nI (k % 3))]) (rest := []) ⟨hx, hb, hml, hown, hts⟩ (kE_L (k_jar l D g tl tm a S (nI j) (nI (k % 3))) (WO g b S')) hw (cw_areAlike_X4_jar hts) ⟨Nat.le_of_ble_eq_true rfl, Nat.le_of_ble_eq_true rfl⟩ (WW_cellL (hasO_WO _ _ _) hK hP hw) hZ hP hD hK hN rfl hl rfl (Nat.le_of_ble_eq_true rfl) dL_areAlike_271 ⟨Nat.le_of_ble_eq_true rfl, Nat.le_of_ble_eq_true rfl⟩ hS hA (fun w H locs hw hP hD hS => ?_)
                          refine lv_aload_n hx hb dL_areAlike_274 rfl (lv_at hl 4 rfl) ?_
                          refine lv_iload hx hb dL_areAlike_275 (lv_at hl 2 rfl) ?_
                          refine lv_iload hx hb dL_areAlike_277 (lv_at hl 0 rfl) ?_
                          refine lv_iconst (v := 3) hx hb dL_areAlike_279 (by decide) ?_
                          refine lv_irem hx hb dL_areAlike_280 (by decide) ?_
                          refine lv_topi (fun y9 e9 => ?_)
                          obtain rfl : y9 = nI (k % 3) := e9.trans (rem3 k hlt)
                          refine kE_callV (As := [.int (nI j), .int (nI (k % 3))]) (rest := [.int (rX4_jar (oN S) (nI j) (nI (k % 3)))]) ⟨hx, hb, hml, hown, hts⟩ (kE_R (k_jar l D g tl tm b S' (nI j) (nI (k % 3))) (WO g a S)) hw (cw_areAlike_X4_jar hts) ⟨Nat.le_of_ble_eq_true rfl, Nat.le_of_ble_eq_true rfl⟩ (WW_cellR (hasO_WO _ _ _) hK hP hw) hZ hP hD hK hN rfl hl rfl (Nat.le_of_ble_eq_true rfl) dL_areAlike_281 ⟨Nat.le_of_ble_eq_true rfl, Nat.le_of_ble_eq_true rfl⟩ hS hA (fun w H locs hw hP hD hS => ?_)
                          refine lv_ineg hx hb dL_areAlike_284 ?_
                          refine lv_icmp_ne (tgt := 292) hx hb dL_areAlike_285 (by decide) (fun c29 => ?_) (fun c29 => ?_)
                          · exact absurd (fj j (k % 3) hltj (by omega)) c29
                          refine lv_iconst (v := 1) hx hb dL_areAlike_288 (by decide) ?_
                          refine lv_goto (tgt := 293) hx hb dL_areAlike_289 (by decide) ?_
                          refine lv_istore_n (lv' := [(3, .int 1), (5, .int (nI k)), (4, .int (nI j)), (0, .ref (a 0 0)), (1, .ref (b 0 0)), (2, .int x)]) hx hb dL_areAlike_293 rfl hl (by decide) rfl (fun ls hl => ?_)
                          refine lv_iinc (v := nI (k + 1)) (lv' := [(5, .int (nI (k + 1))), (3, .int 1), (4, .int (nI j)), (0, .ref (a 0 0)), (1, .ref (b 0 0)), (2, .int x)]) hx hb dL_areAlike_294 hl (k := 1) rfl (nI_1 _) (by decide) rfl (fun ls hl => ?_)
                          refine lv_goto (tgt := 233) hx hb dL_areAlike_297 (by decide) ?_
                          exact ih233 (k + 1)  (by omega) (by omega)  w H locs ls hw hP hD hS (lv_sub hl [0, 1, 2, 3, 4, 5] rfl)
                    exact hlp233 (12 + 1) 0  (by omega) (by omega)  w H locs ls hw hP hD hS (lv_sub hl [0, 1, 2, 3, 4, 5] rfl)
              exact hlp126 (2 + 1) 0  (by omega) (by omega)  w H locs ls hw hP hD hS (lv_sub hl [0, 1, 2, 3, 4] rfl)
            · have hlt : 8 + k < 13 := jk_lt (N := 13) (k := 8 + k) (by decide) (by omega) c5
              refine lv_iload_n hx hb dL_areAlike_91 rfl (lv_at hl 1 rfl) ?_
              refine lv_if_eq (tgt := 115) hx hb dL_areAlike_92 (by decide) (fun c30 => ?_) (fun c30 => ?_)
              · exact absurd c30 (by decide)
              refine lv_aload_n hx hb dL_areAlike_95 rfl (lv_at hl 2 rfl) ?_
              refine lv_iload hx hb dL_areAlike_96 (lv_at hl 0 rfl) ?_
              refine kE_callV (As := [.int (nI (8 + k))]) (rest := []) ⟨hx, hb, hml, hown, hts⟩ (kE_L (k_count l D g tl tm a S (nI (8 + k))) (WO g b S')) hw (cw_areAlike_X4_count hts) ⟨Nat.le_of_ble_eq_true rfl, Nat.le_of_ble_eq_true rfl⟩ (WW_cellL (hasO_WO _ _ _) hK hP hw) hZ hP hD hK hN rfl hl rfl (Nat.le_of_ble_eq_true rfl) dL_areAlike_98 ⟨Nat.le_of_ble_eq_true rfl, Nat.le_of_ble_eq_true rfl⟩ hS hA (fun w H locs hw hP hD hS => ?_)
              refine lv_aload_n hx hb dL_areAlike_101 rfl (lv_at hl 3 rfl) ?_
              refine lv_iload hx hb dL_areAlike_102 (lv_at hl 0 rfl) ?_
              refine kE_callV (As := [.int (nI (8 + k))]) (rest := [.int (rX4_count (oN S) (oH S) (oP S) (nI (8 + k)))]) ⟨hx, hb, hml, hown, hts⟩ (kE_R (k_count l D g tl tm b S' (nI (8 + k))) (WO g a S)) hw (cw_areAlike_X4_count hts) ⟨Nat.le_of_ble_eq_true rfl, Nat.le_of_ble_eq_true rfl⟩ (WW_cellR (hasO_WO _ _ _) hK hP hw) hZ hP hD hK hN rfl hl rfl (Nat.le_of_ble_eq_true rfl) dL_areAlike_104 ⟨Nat.le_of_ble_eq_true rfl, Nat.le_of_ble_eq_true rfl⟩ hS hA (fun w H locs hw hP hD hS => ?_)
              refine lv_ineg hx hb dL_areAlike_107 ?_
              refine lv_icmp_ne (tgt := 115) hx hb dL_areAlike_108 (by decide) (fun c31 => ?_) (fun c31 => ?_)
              · exact absurd ((fc (8 + k)).2 (by omega) (by omega)) c31
              refine lv_iconst (v := 1) hx hb dL_areAlike_111 (by decide) ?_
              refine lv_goto (tgt := 116) hx hb dL_areAlike_112 (by decide) ?_
              refine lv_istore_n (lv' := [(3, .int 1), (4, .int (nI (8 + k))), (0, .ref (a 0 0)), (1, .ref (b 0 0)), (2, .int x)]) hx hb dL_areAlike_116 rfl hl (by decide) rfl (fun ls hl => ?_)
              refine lv_iinc (v := nI ((8 + k) + 1)) (lv' := [(4, .int (nI ((8 + k) + 1))), (3, .int 1), (0, .ref (a 0 0)), (1, .ref (b 0 0)), (2, .int x)]) hx hb dL_areAlike_117 hl (k := 1) rfl (nI_1 _) (by decide) rfl (fun ls hl => ?_)
              refine lv_goto (tgt := 84) hx hb dL_areAlike_120 (by decide) ?_
              exact ih84 (k + 1)  (by omega) (by omega)  w H locs ls hw hP hD hS (lv_sub hl [0, 1, 2, 3, 4] rfl)
        exact hlp84 (5 + 1) 0  (by omega) (by omega)  w H locs ls hw hP hD hS (lv_sub hl [0, 1, 2, 3, 4] rfl)
      · have hlt : k < 8 := jk_lt (N := 8) (by decide) hk42 c4
        refine lv_iload_n hx hb dL_areAlike_49 rfl (lv_at hl 1 rfl) ?_
        refine lv_if_eq (tgt := 72) hx hb dL_areAlike_50 (by decide) (fun c32 => ?_) (fun c32 => ?_)
        · exact absurd c32 (by decide)
        refine lv_aload_n hx hb dL_areAlike_53 rfl (lv_at hl 2 rfl) ?_
        refine lv_iload hx hb dL_areAlike_54 (lv_at hl 0 rfl) ?_
        refine kE_callV (As := [.int (nI k)]) (rest := []) ⟨hx, hb, hml, hown, hts⟩ (kE_L (k_count l D g tl tm a S (nI k)) (WO g b S')) hw (cw_areAlike_X4_count hts) ⟨Nat.le_of_ble_eq_true rfl, Nat.le_of_ble_eq_true rfl⟩ (WW_cellL (hasO_WO _ _ _) hK hP hw) hZ hP hD hK hN rfl hl rfl (Nat.le_of_ble_eq_true rfl) dL_areAlike_56 ⟨Nat.le_of_ble_eq_true rfl, Nat.le_of_ble_eq_true rfl⟩ hS hA (fun w H locs hw hP hD hS => ?_)
        refine lv_aload_n hx hb dL_areAlike_59 rfl (lv_at hl 3 rfl) ?_
        refine lv_iload hx hb dL_areAlike_60 (lv_at hl 0 rfl) ?_
        refine kE_callV (As := [.int (nI k)]) (rest := [.int (rX4_count (oN S) (oH S) (oP S) (nI k))]) ⟨hx, hb, hml, hown, hts⟩ (kE_R (k_count l D g tl tm b S' (nI k)) (WO g a S)) hw (cw_areAlike_X4_count hts) ⟨Nat.le_of_ble_eq_true rfl, Nat.le_of_ble_eq_true rfl⟩ (WW_cellR (hasO_WO _ _ _) hK hP hw) hZ hP hD hK hN rfl hl rfl (Nat.le_of_ble_eq_true rfl) dL_areAlike_62 ⟨Nat.le_of_ble_eq_true rfl, Nat.le_of_ble_eq_true rfl⟩ hS hA (fun w H locs hw hP hD hS => ?_)
        refine lv_icmp_ne (tgt := 72) hx hb dL_areAlike_65 (by decide) (fun c33 => ?_) (fun c33 => ?_)
        · exact absurd ((fc k).1 hlt) c33
        refine lv_iconst (v := 1) hx hb dL_areAlike_68 (by decide) ?_
        refine lv_goto (tgt := 73) hx hb dL_areAlike_69 (by decide) ?_
        refine lv_istore_n (lv' := [(3, .int 1), (4, .int (nI k)), (0, .ref (a 0 0)), (1, .ref (b 0 0)), (2, .int x)]) hx hb dL_areAlike_73 rfl hl (by decide) rfl (fun ls hl => ?_)
        refine lv_iinc (v := nI (k + 1)) (lv' := [(4, .int (nI (k + 1))), (3, .int 1), (0, .ref (a 0 0)), (1, .ref (b 0 0)), (2, .int x)]) hx hb dL_areAlike_74 hl (k := 1) rfl (nI_1 _) (by decide) rfl (fun ls hl => ?_)
        refine lv_goto (tgt := 42) hx hb dL_areAlike_77 (by decide) ?_
        exact ih42 (k + 1)  (by omega) (by omega)  w H locs ls hw hP hD hS (lv_sub hl [0, 1, 2, 3, 4] rfl)
  exact hlp42 (8 + 1) 0  (by omega) (by omega)  w H locs ls hw hP hD hS (lv_sub hl [0, 1, 2, 3, 4] rfl)
