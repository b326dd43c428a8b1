/-! ===== isWell ===== -/
theorem cw_isWell_X4_count {R : Room} {s : State} {args : Array Value} (hts : ∀ w ∈ wsL_isWell, w.before args s = true) : ∀ rm : Room, rm.frames + 1 ≤ R.frames → 8 + (2 + 11) + rm.locals ≤ R.locals → CallW R s args RL RX4 46 yX4_count cX4_count 2 (some .int) wsX4_count rm rm.cells rm.slots 1 := fun rm h1 h2 => cwV 1 hts gL_isWell_X4_count rfl rfl rfl (by decide +kernel) ⟨h1, h2⟩
theorem cw_isWell_X4_disc {R : Room} {s : State} {args : Array Value} (hts : ∀ w ∈ wsL_isWell, w.before args s = true) : ∀ rm : Room, rm.frames + 1 ≤ R.frames → 8 + (3 + 11) + rm.locals ≤ R.locals → CallW R s args RL RX4 74 yX4_disc cX4_disc 3 (some .int) wsX4_disc rm rm.cells rm.slots 2 := fun rm h1 h2 => cwV 2 hts gL_isWell_X4_disc rfl rfl rfl (by decide +kernel) ⟨h1, h2⟩
theorem cw_isWell_X4_jar {R : Room} {s : State} {args : Array Value} (hts : ∀ w ∈ wsL_isWell, w.before args s = true) : ∀ rm : Room, rm.frames + 1 ≤ R.frames → 8 + (3 + 11) + rm.locals ≤ R.locals → CallW R s args RL RX4 40 yX4_jar cX4_jar 3 (some .int) wsX4_jar rm rm.cells rm.slots 2 := fun rm h1 h2 => cwV 2 hts gL_isWell_X4_jar rfl rfl rfl (by decide +kernel) ⟨h1, h2⟩
theorem cw_isWell_X4_spark {R : Room} {s : State} {args : Array Value} (hts : ∀ w ∈ wsL_isWell, w.before args s = true) : ∀ rm : Room, rm.frames + 1 ≤ R.frames → 8 + (3 + 11) + rm.locals ≤ R.locals → CallW R s args RL RX4 103 yX4_spark cX4_spark 3 (some .int) wsX4_spark rm rm.cells rm.slots 2 := fun rm h1 h2 => cwV 2 hts gL_isWell_X4_spark rfl rfl rfl (by decide +kernel) ⟨h1, h2⟩
set_option maxHeartbeats 4000000 in
set_option maxRecDepth 20000 in
theorem e_isWell (l : Launch) (D : va_G) (g : jk_G) (tl tm : Nat) (a : Nat → Nat → Nat) {k0 : Nat} {S : oS} (h : okS k0 S) (hk0 : k0 < 900) : kE l D g tl tm yL_isWell wsL_isWell 4 85 0 0 [.ref (a 0 0)] (WO g a S) 1 (WO g a S) := by
  have hT := h.1
  obtain ⟨ac1, ac2⟩ := well_acc hT (oH S) (oP S)
  obtain ⟨sg1, sg2, sg3⟩ := well_sign hT (oH S) (oP S)
  refine kE_of (cc := cL_isWell) (maxL := 5) (ret := (some .boolean)) (by decide +kernel) rfl (Nat.le_of_ble_eq_true rfl) ?_
  intro w hw p e s m args below meth c hx hb hr hml hts hown hlocks hK hN A H locs hZ hP hD hA hS ls hl
  have hown : s.vm.findClass RL = some m.cls := hown
  have hl : lv_has ls 5 [(0, .ref (a 0 0))] := hl
  have K39_0 : ∀ (x8 : Int32), x8 = rX4_count (oN S) (oH S) (oP S) 8 → ∀ (w : va_W) (H : Heap) (locs : List Loc) (ls : Array Slot), WO g a S w → va_P D vwCl w H → va_D A w → va_S A s.heap H locs → lv_has ls 5 [(0, .ref (a 0 0))] → W p l e ({ frames := 4, cells := 0, slots := 0, locals := 85 }) s m args below meth c H locs 0 0 (MQ below (jk_QC (some (.int 1)) D (fun o : {w // (WO g a S) w} => o.1) A) args s 0 0 A) (F0 m 39 ls [.int x8]) := by
    intro x8 hx8 w H locs ls hw hP hD hS hl
    refine lv_istore_n (lv' := [(1, .int x8), (0, .ref (a 0 0))]) hx hb dL_isWell_39 rfl hl (by decide) rfl (fun ls hl => ?_)
    refine lv_aload_n hx hb dL_isWell_40 rfl (lv_at hl 1 rfl) ?_
    refine lv_bipush (v := 9) hx hb dL_isWell_41 (by decide) ?_
    refine kE_callV (As := [.int 9]) (rest := []) ⟨hx, hb, hml, hown, hts⟩ (k_count l D g tl tm a S 9) hw (cw_isWell_X4_count hts) ⟨Nat.le_of_ble_eq_true rfl, Nat.le_of_ble_eq_true rfl⟩ (WO_cell hK hP hw) hZ hP hD hK hN rfl hl rfl (Nat.le_of_ble_eq_true rfl) dL_isWell_43 ⟨Nat.le_of_ble_eq_true rfl, Nat.le_of_ble_eq_true rfl⟩ hS hA (fun w H locs hw hP hD hS => ?_)
    refine lv_aload_n hx hb dL_isWell_46 rfl (lv_at hl 1 rfl) ?_
    refine lv_bipush (v := 11) hx hb dL_isWell_47 (by decide) ?_
    refine kE_callV (As := [.int 11]) (rest := [.int (rX4_count (oN S) (oH S) (oP S) 9)]) ⟨hx, hb, hml, hown, hts⟩ (k_count l D g tl tm a S 11) hw (cw_isWell_X4_count hts) ⟨Nat.le_of_ble_eq_true rfl, Nat.le_of_ble_eq_true rfl⟩ (WO_cell hK hP hw) hZ hP hD hK hN rfl hl rfl (Nat.le_of_ble_eq_true rfl) dL_isWell_49 ⟨Nat.le_of_ble_eq_true rfl, Nat.le_of_ble_eq_true rfl⟩ hS hA (fun w H locs hw hP hD hS => ?_)
    refine lv_aload_n hx hb dL_isWell_52 rfl (lv_at hl 1 rfl) ?_
    refine lv_bipush (v := 12) hx hb dL_isWell_53 (by decide) ?_
    refine kE_callV (As := [.int 12]) (rest := [.int (rX4_count (oN S) (oH S) (oP S) 11), .int (rX4_count (oN S) (oH S) (oP S) 9)]) ⟨hx, hb, hml, hown, hts⟩ (k_count l D g tl tm a S 12) hw (cw_isWell_X4_count hts) ⟨Nat.le_of_ble_eq_true rfl, Nat.le_of_ble_eq_true rfl⟩ (WO_cell hK hP hw) hZ hP hD hK hN rfl hl rfl (Nat.le_of_ble_eq_true rfl) dL_isWell_55 ⟨Nat.le_of_ble_eq_true rfl, Nat.le_of_ble_eq_true rfl⟩ hS hA (fun w H locs hw hP hD hS => ?_)
    refine lv_isub hx hb dL_isWell_58 ?_
    refine lv_aload_n hx hb dL_isWell_59 rfl (lv_at hl 1 rfl) ?_
    refine lv_bipush (v := 10) hx hb dL_isWell_60 (by decide) ?_
    refine kE_callV (As := [.int 10]) (rest := [.int ((rX4_count (oN S) (oH S) (oP S) 11) - (rX4_count (oN S) (oH S) (oP S) 12)), .int (rX4_count (oN S) (oH S) (oP S) 9)]) ⟨hx, hb, hml, hown, hts⟩ (k_count l D g tl tm a S 10) hw (cw_isWell_X4_count hts) ⟨Nat.le_of_ble_eq_true rfl, Nat.le_of_ble_eq_true rfl⟩ (WO_cell hK hP hw) hZ hP hD hK hN rfl hl rfl (Nat.le_of_ble_eq_true rfl) dL_isWell_62 ⟨Nat.le_of_ble_eq_true rfl, Nat.le_of_ble_eq_true rfl⟩ hS hA (fun w H locs hw hP hD hS => ?_)
    refine lv_isub hx hb dL_isWell_65 ?_
    refine lv_icmp_ne (tgt := 119) hx hb dL_isWell_66 (by decide) (fun c2 => ?_) (fun c2 => ?_)
    · exact absurd ac1 c2
    refine lv_aload_n hx hb dL_isWell_69 rfl (lv_at hl 1 rfl) ?_
    refine lv_bipush (v := 9) hx hb dL_isWell_70 (by decide) ?_
    refine kE_callV (As := [.int 9]) (rest := []) ⟨hx, hb, hml, hown, hts⟩ (k_count l D g tl tm a S 9) hw (cw_isWell_X4_count hts) ⟨Nat.le_of_ble_eq_true rfl, Nat.le_of_ble_eq_true rfl⟩ (WO_cell hK hP hw) hZ hP hD hK hN rfl hl rfl (Nat.le_of_ble_eq_true rfl) dL_isWell_72 ⟨Nat.le_of_ble_eq_true rfl, Nat.le_of_ble_eq_true rfl⟩ hS hA (fun w H locs hw hP hD hS => ?_)
    refine lv_aload_n hx hb dL_isWell_75 rfl (lv_at hl 1 rfl) ?_
    refine lv_iconst (v := 0) hx hb dL_isWell_76 (by decide) ?_
    refine lv_iconst (v := 0) hx hb dL_isWell_77 (by decide) ?_
    refine kE_callV (As := [.int 0, .int 0]) (rest := [.int (rX4_count (oN S) (oH S) (oP S) 9)]) ⟨hx, hb, hml, hown, hts⟩ (k_disc l D g tl tm a S 0 0) hw (cw_isWell_X4_disc hts) ⟨Nat.le_of_ble_eq_true rfl, Nat.le_of_ble_eq_true rfl⟩ (WO_cell hK hP hw) hZ hP hD hK hN rfl hl rfl (Nat.le_of_ble_eq_true rfl) dL_isWell_78 ⟨Nat.le_of_ble_eq_true rfl, Nat.le_of_ble_eq_true rfl⟩ hS hA (fun w H locs hw hP hD hS => ?_)
    refine lv_aload_n hx hb dL_isWell_81 rfl (lv_at hl 1 rfl) ?_
    refine lv_iconst (v := 1) hx hb dL_isWell_82 (by decide) ?_
    refine lv_iconst (v := 0) hx hb dL_isWell_83 (by decide) ?_
    refine kE_callV (As := [.int 1, .int 0]) (rest := [.int (rX4_disc (oN S) 0 0), .int (rX4_count (oN S) (oH S) (oP S) 9)]) ⟨hx, hb, hml, hown, hts⟩ (k_disc l D g tl tm a S 1 0) hw (cw_isWell_X4_disc hts) ⟨Nat.le_of_ble_eq_true rfl, Nat.le_of_ble_eq_true rfl⟩ (WO_cell hK hP hw) hZ hP hD hK hN rfl hl rfl (Nat.le_of_ble_eq_true rfl) dL_isWell_84 ⟨Nat.le_of_ble_eq_true rfl, Nat.le_of_ble_eq_true rfl⟩ hS hA (fun w H locs hw hP hD hS => ?_)
    refine lv_iadd hx hb dL_isWell_87 ?_
    refine lv_aload_n hx hb dL_isWell_88 rfl (lv_at hl 1 rfl) ?_
    refine lv_iconst (v := 0) hx hb dL_isWell_89 (by decide) ?_
    refine lv_iconst (v := 0) hx hb dL_isWell_90 (by decide) ?_
    refine kE_callV (As := [.int 0, .int 0]) (rest := [.int ((rX4_disc (oN S) 0 0) + (rX4_disc (oN S) 1 0)), .int (rX4_count (oN S) (oH S) (oP S) 9)]) ⟨hx, hb, hml, hown, hts⟩ (k_jar l D g tl tm a S 0 0) hw (cw_isWell_X4_jar hts) ⟨Nat.le_of_ble_eq_true rfl, Nat.le_of_ble_eq_true rfl⟩ (WO_cell hK hP hw) hZ hP hD hK hN rfl hl rfl (Nat.le_of_ble_eq_true rfl) dL_isWell_91 ⟨Nat.le_of_ble_eq_true rfl, Nat.le_of_ble_eq_true rfl⟩ hS hA (fun w H locs hw hP hD hS => ?_)
    refine lv_iadd hx hb dL_isWell_94 ?_
    refine lv_aload_n hx hb dL_isWell_95 rfl (lv_at hl 1 rfl) ?_
    refine lv_iconst (v := 1) hx hb dL_isWell_96 (by decide) ?_
    refine lv_iconst (v := 0) hx hb dL_isWell_97 (by decide) ?_
    refine kE_callV (As := [.int 1, .int 0]) (rest := [.int (((rX4_disc (oN S) 0 0) + (rX4_disc (oN S) 1 0)) + (rX4_jar (oN S) 0 0)), .int (rX4_count (oN S) (oH S) (oP S) 9)]) ⟨hx, hb, hml, hown, hts⟩ (k_jar l D g tl tm a S 1 0) hw (cw_isWell_X4_jar hts) ⟨Nat.le_of_ble_eq_true rfl, Nat.le_of_ble_eq_true rfl⟩ (WO_cell hK hP hw) hZ hP hD hK hN rfl hl rfl (Nat.le_of_ble_eq_true rfl) dL_isWell_98 ⟨Nat.le_of_ble_eq_true rfl, Nat.le_of_ble_eq_true rfl⟩ hS hA (fun w H locs hw hP hD hS => ?_)
    refine lv_iadd hx hb dL_isWell_101 ?_
    refine lv_icmp_ne (tgt := 119) hx hb dL_isWell_102 (by decide) (fun c3 => ?_) (fun c3 => ?_)
    · exact absurd ac2 c3
    refine lv_iload_n hx hb dL_isWell_105 rfl (lv_at hl 0 rfl) ?_
    refine lv_aload_n hx hb dL_isWell_106 rfl (lv_at hl 1 rfl) ?_
    refine lv_bipush (v := 8) hx hb dL_isWell_107 (by decide) ?_
    refine kE_callV (As := [.int 8]) (rest := [.int x8]) ⟨hx, hb, hml, hown, hts⟩ (k_count l D g tl tm a S 8) hw (cw_isWell_X4_count hts) ⟨Nat.le_of_ble_eq_true rfl, Nat.le_of_ble_eq_true rfl⟩ (WO_cell hK hP hw) hZ hP hD hK hN rfl hl rfl (Nat.le_of_ble_eq_true rfl) dL_isWell_109 ⟨Nat.le_of_ble_eq_true rfl, Nat.le_of_ble_eq_true rfl⟩ hS hA (fun w H locs hw hP hD hS => ?_)
    refine lv_icmp_ne (tgt := 119) hx hb dL_isWell_112 (by decide) (fun c4 => ?_) (fun c4 => ?_)
    · exact absurd hx8 c4
    refine lv_iconst (v := 1) hx hb dL_isWell_115 (by decide) ?_
    refine lv_goto (tgt := 120) hx hb dL_isWell_116 (by decide) ?_
    refine lv_istore_n (lv' := [(2, .int 1), (1, .int x8), (0, .ref (a 0 0))]) hx hb dL_isWell_120 rfl hl (by decide) rfl (fun ls hl => ?_)
    refine lv_iconst (v := 0) hx hb dL_isWell_121 (by decide) ?_
    refine lv_istore_n (lv' := [(3, .int 0), (2, .int 1), (1, .int x8), (0, .ref (a 0 0))]) hx hb dL_isWell_122 rfl hl (by decide) rfl (fun ls hl => ?_)
    have hlp123 : ∀ (nn123 j : Nat), j ≤ 2 → 2 < j + nn123 → ∀ (w : va_W) (H : Heap) (locs : List Loc) (ls : Array Slot), (WO g a S) w → va_P D vwCl w H → va_D A w → va_S A s.heap H locs → lv_has ls 5 [(3, .int (nI j)), (2, .int 1), (1, .int x8), (0, .ref (a 0 0))] → W p l e ({ frames := 4, cells := 0, slots := 0, locals := 85 }) s m args below meth c H locs 0 0 (MQ below (jk_QC (some (.int 1)) D (fun o : {w // (WO g a S) w} => o.1) A) args s 0 0 A) (F0 m 123 ls []) := by
      intro nn123
      induction nn123 with
      | zero => intro j  hk1 hk2; exact absurd hk2 (by omega)
      | succ nn123 ih123 =>
        intro j  hk123 hkn123  w H locs ls hw hP hD hS hl
        refine lv_iload_n hx hb dL_isWell_123 rfl (lv_at hl 0 rfl) ?_
        refine lv_iconst (v := 2) hx hb dL_isWell_124 (by decide) ?_
        refine lv_icmp_ge (tgt := 213) hx hb dL_isWell_125 (by decide) (fun c5 => ?_) (fun c5 => ?_)
        · have hj9 : j = 2 := jk_ge (N := 2) (by decide) hk123 c5
          refine lv_iconst (v := 0) hx hb dL_isWell_213 (by decide) ?_
          refine lv_istore_n (lv' := [(3, .int 0), (2, .int 1), (1, .int x8), (0, .ref (a 0 0))]) hx hb dL_isWell_214 rfl hl (by decide) rfl (fun ls hl => ?_)
          have hlp215 : ∀ (nn215 k : Nat), k ≤ 8 → 8 < k + nn215 → ∀ (w : va_W) (H : Heap) (locs : List Loc) (ls : Array Slot), (WO g a S) w → va_P D vwCl w H → va_D A w → va_S A s.heap H locs → lv_has ls 5 [(3, .int (nI k)), (2, .int 1), (1, .int x8), (0, .ref (a 0 0))] → W p l e ({ frames := 4, cells := 0, slots := 0, locals := 85 }) s m args below meth c H locs 0 0 (MQ below (jk_QC (some (.int 1)) D (fun o : {w // (WO g a S) w} => o.1) A) args s 0 0 A) (F0 m 215 ls []) := by
            intro nn215
            induction nn215 with
            | zero => intro k  hk1 hk2; exact absurd hk2 (by omega)
            | succ nn215 ih215 =>
              intro k  hk215 hkn215  w H locs ls hw hP hD hS hl
              refine lv_iload_n hx hb dL_isWell_215 rfl (lv_at hl 0 rfl) ?_
              refine lv_bipush (v := 8) hx hb dL_isWell_216 (by decide) ?_
              refine lv_icmp_ge (tgt := 314) hx hb dL_isWell_218 (by decide) (fun c6 => ?_) (fun c6 => ?_)
              · have hk9 : k = 8 := jk_ge (N := 8) (by decide) hk215 c6
                refine lv_iload_n hx hb dL_isWell_314 rfl (lv_at hl 1 rfl) ?_
                refine lv_if_eq (tgt := 334) hx hb dL_isWell_315 (by decide) (fun c7 => ?_) (fun c7 => ?_)
                · exact absurd c7 (by decide)
                refine lv_aload_n hx hb dL_isWell_318 rfl (lv_at hl 3 rfl) ?_
                refine lv_bipush (v := 8) hx hb dL_isWell_319 (by decide) ?_
                refine lv_iconst (v := 0) hx hb dL_isWell_321 (by decide) ?_
                refine kE_callV (As := [.int 8, .int 0]) (rest := []) ⟨hx, hb, hml, hown, hts⟩ (k_spark l D g tl tm a S 8 0) hw (cw_isWell_X4_spark hts) ⟨Nat.le_of_ble_eq_true rfl, Nat.le_of_ble_eq_true rfl⟩ (WO_cell hK hP hw) hZ hP hD hK hN rfl hl rfl (Nat.le_of_ble_eq_true rfl) dL_isWell_322 ⟨Nat.le_of_ble_eq_true rfl, Nat.le_of_ble_eq_true rfl⟩ hS hA (fun w H locs hw hP hD hS => ?_)
                refine lv_ldc hx hb hown (hts (.constant RL 106 (-1000006)) (by decide +kernel)) dL_isWell_325 ?_
                refine lv_icmp_ne (tgt := 334) hx hb dL_isWell_327 (by decide) (fun c8 => ?_) (fun c8 => ?_)
                · exact absurd (spk_8 _) c8
                refine lv_iconst (v := 1) hx hb dL_isWell_330 (by decide) ?_
                refine lv_goto (tgt := 335) hx hb dL_isWell_331 (by decide) ?_
                exact kE_zret hx hb hr (by decide) hlocks hw hP hD hS (Nat.le_of_ble_eq_true rfl) (Nat.le_of_ble_eq_true rfl) rfl dL_isWell_335
              · have hlt : k < 8 := jk_lt (N := 8) (by decide) hk215 c6
                rcases well_log hT (by omega) (oH S) (oP S) hlt with ⟨q1, q2, q3, q4⟩ | ⟨q1, q2⟩
                · refine lv_aload_n hx hb dL_isWell_221 rfl (lv_at hl 3 rfl) ?_
                  refine lv_iload_n hx hb dL_isWell_222 rfl (lv_at hl 0 rfl) ?_
                  refine lv_iconst (v := 0) hx hb dL_isWell_223 (by decide) ?_
                  refine kE_callV (As := [.int (nI k), .int 0]) (rest := []) ⟨hx, hb, hml, hown, hts⟩ (k_spark l D g tl tm a S (nI k) 0) hw (cw_isWell_X4_spark hts) ⟨Nat.le_of_ble_eq_true rfl, Nat.le_of_ble_eq_true rfl⟩ (WO_cell hK hP hw) hZ hP hD hK hN rfl hl rfl (Nat.le_of_ble_eq_true rfl) dL_isWell_224 ⟨Nat.le_of_ble_eq_true rfl, Nat.le_of_ble_eq_true rfl⟩ hS hA (fun w H locs hw hP hD hS => ?_)
                  refine lv_istore (lv' := [(4, .int (rX4_spark (oN S) (nI k) 0)), (3, .int (nI k)), (2, .int 1), (1, .int x8), (0, .ref (a 0 0))]) hx hb dL_isWell_227 hl (by decide) rfl (fun ls hl => ?_)
                  refine lv_iload_n hx hb dL_isWell_229 rfl (lv_at hl 2 rfl) ?_
                  refine lv_if_eq (tgt := 306) hx hb dL_isWell_230 (by decide) (fun c9 => ?_) (fun c9 => ?_)
                  · exact absurd c9 (by decide)
                  refine lv_iload hx hb dL_isWell_233 (lv_at hl 0 rfl) ?_
                  refine lv_ldc hx hb hown (hts (.constant RL 106 (-1000006)) (by decide +kernel)) dL_isWell_235 ?_
                  refine lv_icmp_eq (tgt := 244) hx hb dL_isWell_237 (by decide) (fun c10 => ?_) (fun c10 => ?_)
                  · exact absurd c10 (spk_ne q2)
                  refine lv_iconst (v := 1) hx hb dL_isWell_240 (by decide) ?_
                  refine lv_goto (tgt := 245) hx hb dL_isWell_241 (by decide) ?_
                  refine lv_iload_n hx hb dL_isWell_245 rfl (lv_at hl 1 rfl) ?_
                  refine lv_aload_n hx hb dL_isWell_246 rfl (lv_at hl 4 rfl) ?_
                  refine lv_bipush (v := 6) hx hb dL_isWell_247 (by decide) ?_
                  refine kE_callV (As := [.int 6]) (rest := [.int (nI k), .int 1]) ⟨hx, hb, hml, hown, hts⟩ (k_count l D g tl tm a S 6) hw (cw_isWell_X4_count hts) ⟨Nat.le_of_ble_eq_true rfl, Nat.le_of_ble_eq_true rfl⟩ (WO_cell hK hP hw) hZ hP hD hK hN rfl hl rfl (Nat.le_of_ble_eq_true rfl) dL_isWell_249 ⟨Nat.le_of_ble_eq_true rfl, Nat.le_of_ble_eq_true rfl⟩ hS hA (fun w H locs hw hP hD hS => ?_)
                  refine lv_icmp_ge (tgt := 259) hx hb dL_isWell_252 (by decide) (fun c11 => ?_) (fun c11 => ?_)
                  · exact absurd c11 (Int32.not_le.mpr q1)
                  refine lv_iconst (v := 1) hx hb dL_isWell_255 (by decide) ?_
                  refine lv_goto (tgt := 260) hx hb dL_isWell_256 (by decide) ?_
                  refine lv_icmp_ne (tgt := 306) hx hb dL_isWell_260 (by decide) (fun c12 => ?_) (fun c12 => ?_)
                  · exact absurd (by decide) c12
                  refine lv_iload hx hb dL_isWell_263 (lv_at hl 0 rfl) ?_
                  refine lv_ldc hx hb hown (hts (.constant RL 106 (-1000006)) (by decide +kernel)) dL_isWell_265 ?_
                  refine lv_icmp_eq (tgt := 302) hx hb dL_isWell_267 (by decide) (fun c13 => ?_) (fun c13 => ?_)
                  · exact absurd c13 (spk_ne q2)
                  refine lv_iload hx hb dL_isWell_270 (lv_at hl 0 rfl) ?_
                  refine lv_if_le (tgt := 306) hx hb dL_isWell_272 (by decide) (fun c14 => ?_) (fun c14 => ?_)
                  · exact absurd c14 (Int32.not_le.mpr q2)
                  refine lv_iload hx hb dL_isWell_275 (lv_at hl 0 rfl) ?_
                  refine lv_aload_n hx hb dL_isWell_277 rfl (lv_at hl 4 rfl) ?_
                  refine lv_iconst (v := 5) hx hb dL_isWell_278 (by decide) ?_
                  refine kE_callV (As := [.int 5]) (rest := [.int (rX4_spark (oN S) (nI k) 0)]) ⟨hx, hb, hml, hown, hts⟩ (k_count l D g tl tm a S 5) hw (cw_isWell_X4_count hts) ⟨Nat.le_of_ble_eq_true rfl, Nat.le_of_ble_eq_true rfl⟩ (WO_cell hK hP hw) hZ hP hD hK hN rfl hl rfl (Nat.le_of_ble_eq_true rfl) dL_isWell_279 ⟨Nat.le_of_ble_eq_true rfl, Nat.le_of_ble_eq_true rfl⟩ hS hA (fun w H locs hw hP hD hS => ?_)
                  refine lv_icmp_gt (tgt := 306) hx hb dL_isWell_282 (by decide) (fun c15 => ?_) (fun c15 => ?_)
                  · exact absurd c15 (Int32.not_lt.mpr q3)
                  refine lv_iload_n hx hb dL_isWell_285 rfl (lv_at hl 1 rfl) ?_
                  refine lv_if_eq (tgt := 302) hx hb dL_isWell_286 (by decide) (fun c16 => ?_) (fun c16 => ?_)
                  · refine lv_iconst (v := 1) hx hb dL_isWell_302 (by decide) ?_
                    refine lv_goto (tgt := 307) hx hb dL_isWell_303 (by decide) ?_
                    refine lv_istore_n (lv' := [(2, .int 1), (4, .int (rX4_spark (oN S) (nI k) 0)), (3, .int (nI k)), (1, .int x8), (0, .ref (a 0 0))]) hx hb dL_isWell_307 rfl hl (by decide) rfl (fun ls hl => ?_)
                    refine lv_iinc (v := nI (k + 1)) (lv' := [(3, .int (nI (k + 1))), (2, .int 1), (4, .int (rX4_spark (oN S) (nI k) 0)), (1, .int x8), (0, .ref (a 0 0))]) hx hb dL_isWell_308 hl (k := 2) rfl (nI_1 _) (by decide) rfl (fun ls hl => ?_)
                    refine lv_goto (tgt := 215) hx hb dL_isWell_311 (by decide) ?_
                    exact ih215 (k + 1)  (by omega) (by omega)  w H locs ls hw hP hD hS (lv_sub hl [0, 1, 3, 4] rfl)
                  · refine lv_iload hx hb dL_isWell_289 (lv_at hl 0 rfl) ?_
                    refine lv_aload_n hx hb dL_isWell_291 rfl (lv_at hl 4 rfl) ?_
                    refine lv_iload_n hx hb dL_isWell_292 rfl (lv_at hl 1 rfl) ?_
                    refine lv_iconst (v := 1) hx hb dL_isWell_293 (by decide) ?_
                    refine lv_isub hx hb dL_isWell_294 ?_
                    refine lv_topi (fun y9 e9 => ?_)
                    obtain rfl : y9 = nI (k - 1) := e9.trans (km1 (k_ne (c := 0) c16))
                    refine lv_iconst (v := 0) hx hb dL_isWell_295 (by decide) ?_
                    refine kE_callV (As := [.int (nI (k - 1)), .int 0]) (rest := [.int (rX4_spark (oN S) (nI k) 0)]) ⟨hx, hb, hml, hown, hts⟩ (k_spark l D g tl tm a S (nI (k - 1)) 0) hw (cw_isWell_X4_spark hts) ⟨Nat.le_of_ble_eq_true rfl, Nat.le_of_ble_eq_true rfl⟩ (WO_cell hK hP hw) hZ hP hD hK hN rfl hl rfl (Nat.le_of_ble_eq_true rfl) dL_isWell_296 ⟨Nat.le_of_ble_eq_true rfl, Nat.le_of_ble_eq_true rfl⟩ hS hA (fun w H locs hw hP hD hS => ?_)
                    refine lv_icmp_ge (tgt := 306) hx hb dL_isWell_299 (by decide) (fun c17 => ?_) (fun c17 => ?_)
                    · exact absurd c17 (Int32.not_le.mpr (q4 (k_ne (c := 0) c16)))
                    refine lv_iconst (v := 1) hx hb dL_isWell_302 (by decide) ?_
                    refine lv_goto (tgt := 307) hx hb dL_isWell_303 (by decide) ?_
                    refine lv_istore_n (lv' := [(2, .int 1), (4, .int (rX4_spark (oN S) (nI k) 0)), (3, .int (nI k)), (1, .int x8), (0, .ref (a 0 0))]) hx hb dL_isWell_307 rfl hl (by decide) rfl (fun ls hl => ?_)
                    refine lv_iinc (v := nI (k + 1)) (lv' := [(3, .int (nI (k + 1))), (2, .int 1), (4, .int (rX4_spark (oN S) (nI k) 0)), (1, .int x8), (0, .ref (a 0 0))]) hx hb dL_isWell_308 hl (k := 2) rfl (nI_1 _) (by decide) rfl (fun ls hl => ?_)
                    refine lv_goto (tgt := 215) hx hb dL_isWell_311 (by decide) ?_
                    exact ih215 (k + 1)  (by omega) (by omega)  w H locs ls hw hP hD hS (lv_sub hl [0, 1, 3, 4] rfl)
                · refine lv_aload_n hx hb dL_isWell_221 rfl (lv_at hl 3 rfl) ?_
                  refine lv_iload_n hx hb dL_isWell_222 rfl (lv_at hl 0 rfl) ?_
                  refine lv_iconst (v := 0) hx hb dL_isWell_223 (by decide) ?_
                  refine kE_callV (As := [.int (nI k), .int 0]) (rest := []) ⟨hx, hb, hml, hown, hts⟩ (k_spark l D g tl tm a S (nI k) 0) hw (cw_isWell_X4_spark hts) ⟨Nat.le_of_ble_eq_true rfl, Nat.le_of_ble_eq_true rfl⟩ (WO_cell hK hP hw) hZ hP hD hK hN rfl hl rfl (Nat.le_of_ble_eq_true rfl) dL_isWell_224 ⟨Nat.le_of_ble_eq_true rfl, Nat.le_of_ble_eq_true rfl⟩ hS hA (fun w H locs hw hP hD hS => ?_)
                  refine lv_istore (lv' := [(4, .int (rX4_spark (oN S) (nI k) 0)), (3, .int (nI k)), (2, .int 1), (1, .int x8), (0, .ref (a 0 0))]) hx hb dL_isWell_227 hl (by decide) rfl (fun ls hl => ?_)
                  refine lv_iload_n hx hb dL_isWell_229 rfl (lv_at hl 2 rfl) ?_
                  refine lv_if_eq (tgt := 306) hx hb dL_isWell_230 (by decide) (fun c18 => ?_) (fun c18 => ?_)
                  · exact absurd c18 (by decide)
                  refine lv_iload hx hb dL_isWell_233 (lv_at hl 0 rfl) ?_
                  refine lv_ldc hx hb hown (hts (.constant RL 106 (-1000006)) (by decide +kernel)) dL_isWell_235 ?_
                  refine lv_icmp_eq (tgt := 244) hx hb dL_isWell_237 (by decide) (fun c19 => ?_) (fun c19 => ?_)
                  rotate_left
                  · exact absurd q2 c19
                  refine lv_iconst (v := 0) hx hb dL_isWell_244 (by decide) ?_
                  refine lv_iload_n hx hb dL_isWell_245 rfl (lv_at hl 1 rfl) ?_
                  refine lv_aload_n hx hb dL_isWell_246 rfl (lv_at hl 4 rfl) ?_
                  refine lv_bipush (v := 6) hx hb dL_isWell_247 (by decide) ?_
                  refine kE_callV (As := [.int 6]) (rest := [.int (nI k), .int 0]) ⟨hx, hb, hml, hown, hts⟩ (k_count l D g tl tm a S 6) hw (cw_isWell_X4_count hts) ⟨Nat.le_of_ble_eq_true rfl, Nat.le_of_ble_eq_true rfl⟩ (WO_cell hK hP hw) hZ hP hD hK hN rfl hl rfl (Nat.le_of_ble_eq_true rfl) dL_isWell_249 ⟨Nat.le_of_ble_eq_true rfl, Nat.le_of_ble_eq_true rfl⟩ hS hA (fun w H locs hw hP hD hS => ?_)
                  refine lv_icmp_ge (tgt := 259) hx hb dL_isWell_252 (by decide) (fun c20 => ?_) (fun c20 => ?_)
                  rotate_left
                  · exact absurd (Int32.not_lt.mp q1) c20
                  refine lv_iconst (v := 0) hx hb dL_isWell_259 (by decide) ?_
                  refine lv_icmp_ne (tgt := 306) hx hb dL_isWell_260 (by decide) (fun c21 => ?_) (fun c21 => ?_)
                  · exact absurd (by decide) c21
                  refine lv_iload hx hb dL_isWell_263 (lv_at hl 0 rfl) ?_
                  refine lv_ldc hx hb hown (hts (.constant RL 106 (-1000006)) (by decide +kernel)) dL_isWell_265 ?_
                  refine lv_icmp_eq (tgt := 302) hx hb dL_isWell_267 (by decide) (fun c22 => ?_) (fun c22 => ?_)
                  rotate_left
                  · exact absurd q2 c22
                  refine lv_iconst (v := 1) hx hb dL_isWell_302 (by decide) ?_
                  refine lv_goto (tgt := 307) hx hb dL_isWell_303 (by decide) ?_
                  refine lv_istore_n (lv' := [(2, .int 1), (4, .int (rX4_spark (oN S) (nI k) 0)), (3, .int (nI k)), (1, .int x8), (0, .ref (a 0 0))]) hx hb dL_isWell_307 rfl hl (by decide) rfl (fun ls hl => ?_)
                  refine lv_iinc (v := nI (k + 1)) (lv' := [(3, .int (nI (k + 1))), (2, .int 1), (4, .int (rX4_spark (oN S) (nI k) 0)), (1, .int x8), (0, .ref (a 0 0))]) hx hb dL_isWell_308 hl (k := 2) rfl (nI_1 _) (by decide) rfl (fun ls hl => ?_)
                  refine lv_goto (tgt := 215) hx hb dL_isWell_311 (by decide) ?_
                  exact ih215 (k + 1)  (by omega) (by omega)  w H locs ls hw hP hD hS (lv_sub hl [0, 1, 3, 4] rfl)
          exact hlp215 (8 + 1) 0  (by omega) (by omega)  w H locs ls hw hP hD hS (lv_sub hl [0, 1, 2, 3] rfl)
        · have hlt : j < 2 := jk_lt (N := 2) (by decide) hk123 c5
          have wj := well_jar hT (oH S) (oP S) hlt
          refine lv_iload_n hx hb dL_isWell_128 rfl (lv_at hl 1 rfl) ?_
          refine lv_if_eq (tgt := 205) hx hb dL_isWell_129 (by decide) (fun c23 => ?_) (fun c23 => ?_)
          · exact absurd c23 (by decide)
          refine lv_aload_n hx hb dL_isWell_132 rfl (lv_at hl 3 rfl) ?_
          refine lv_iload_n hx hb dL_isWell_133 rfl (lv_at hl 0 rfl) ?_
          refine lv_iconst (v := 0) hx hb dL_isWell_134 (by decide) ?_
          refine kE_callV (As := [.int (nI j), .int 0]) (rest := []) ⟨hx, hb, hml, hown, hts⟩ (k_jar l D g tl tm a S (nI j) 0) hw (cw_isWell_X4_jar hts) ⟨Nat.le_of_ble_eq_true rfl, Nat.le_of_ble_eq_true rfl⟩ (WO_cell hK hP hw) hZ hP hD hK hN rfl hl rfl (Nat.le_of_ble_eq_true rfl) dL_isWell_135 ⟨Nat.le_of_ble_eq_true rfl, Nat.le_of_ble_eq_true rfl⟩ hS hA (fun w H locs hw hP hD hS => ?_)
          refine lv_aload_n hx hb dL_isWell_138 rfl (lv_at hl 3 rfl) ?_
          refine lv_iconst (v := 4) hx hb dL_isWell_139 (by decide) ?_
          refine kE_callV (As := [.int 4]) (rest := [.int (rX4_jar (oN S) (nI j) 0)]) ⟨hx, hb, hml, hown, hts⟩ (k_count l D g tl tm a S 4) hw (cw_isWell_X4_count hts) ⟨Nat.le_of_ble_eq_true rfl, Nat.le_of_ble_eq_true rfl⟩ (WO_cell hK hP hw) hZ hP hD hK hN rfl hl rfl (Nat.le_of_ble_eq_true rfl) dL_isWell_140 ⟨Nat.le_of_ble_eq_true rfl, Nat.le_of_ble_eq_true rfl⟩ hS hA (fun w H locs hw hP hD hS => ?_)
          refine lv_icmp_gt (tgt := 205) hx hb dL_isWell_143 (by decide) (fun c24 => ?_) (fun c24 => ?_)
          · exact absurd c24 (Int32.not_lt.mpr wj.1)
          refine lv_aload_n hx hb dL_isWell_146 rfl (lv_at hl 3 rfl) ?_
          refine lv_iload_n hx hb dL_isWell_147 rfl (lv_at hl 0 rfl) ?_
          refine lv_iconst (v := 0) hx hb dL_isWell_148 (by decide) ?_
          refine kE_callV (As := [.int (nI j), .int 0]) (rest := []) ⟨hx, hb, hml, hown, hts⟩ (k_jar l D g tl tm a S (nI j) 0) hw (cw_isWell_X4_jar hts) ⟨Nat.le_of_ble_eq_true rfl, Nat.le_of_ble_eq_true rfl⟩ (WO_cell hK hP hw) hZ hP hD hK hN rfl hl rfl (Nat.le_of_ble_eq_true rfl) dL_isWell_149 ⟨Nat.le_of_ble_eq_true rfl, Nat.le_of_ble_eq_true rfl⟩ hS hA (fun w H locs hw hP hD hS => ?_)
          refine lv_aload_n hx hb dL_isWell_152 rfl (lv_at hl 3 rfl) ?_
          refine lv_iconst (v := 4) hx hb dL_isWell_153 (by decide) ?_
          refine kE_callV (As := [.int 4]) (rest := [.int (rX4_jar (oN S) (nI j) 0)]) ⟨hx, hb, hml, hown, hts⟩ (k_count l D g tl tm a S 4) hw (cw_isWell_X4_count hts) ⟨Nat.le_of_ble_eq_true rfl, Nat.le_of_ble_eq_true rfl⟩ (WO_cell hK hP hw) hZ hP hD hK hN rfl hl rfl (Nat.le_of_ble_eq_true rfl) dL_isWell_154 ⟨Nat.le_of_ble_eq_true rfl, Nat.le_of_ble_eq_true rfl⟩ hS hA (fun w H locs hw hP hD hS => ?_)
          refine lv_ineg hx hb dL_isWell_157 ?_
          refine lv_icmp_lt (tgt := 205) hx hb dL_isWell_158 (by decide) (fun c25 => ?_) (fun c25 => ?_)
          · exact absurd c25 (Int32.not_lt.mpr wj.2.1)
          refine lv_aload_n hx hb dL_isWell_161 rfl (lv_at hl 3 rfl) ?_
          refine lv_iload_n hx hb dL_isWell_162 rfl (lv_at hl 0 rfl) ?_
          refine lv_iconst (v := 3) hx hb dL_isWell_163 (by decide) ?_
          refine kE_callV (As := [.int (nI j), .int 3]) (rest := []) ⟨hx, hb, hml, hown, hts⟩ (k_disc l D g tl tm a S (nI j) 3) hw (cw_isWell_X4_disc hts) ⟨Nat.le_of_ble_eq_true rfl, Nat.le_of_ble_eq_true rfl⟩ (WO_cell hK hP hw) hZ hP hD hK hN rfl hl rfl (Nat.le_of_ble_eq_true rfl) dL_isWell_164 ⟨Nat.le_of_ble_eq_true rfl, Nat.le_of_ble_eq_true rfl⟩ hS hA (fun w H locs hw hP hD hS => ?_)
          refine lv_bipush (v := 99) hx hb dL_isWell_167 (by decide) ?_
          refine lv_icmp_gt (tgt := 205) hx hb dL_isWell_169 (by decide) (fun c26 => ?_) (fun c26 => ?_)
          · exact absurd c26 (Int32.not_lt.mpr wj.2.2.1)
          refine lv_aload_n hx hb dL_isWell_172 rfl (lv_at hl 3 rfl) ?_
          refine lv_iload_n hx hb dL_isWell_173 rfl (lv_at hl 0 rfl) ?_
          refine lv_iconst (v := 4) hx hb dL_isWell_174 (by decide) ?_
          refine kE_callV (As := [.int (nI j), .int 4]) (rest := []) ⟨hx, hb, hml, hown, hts⟩ (k_disc l D g tl tm a S (nI j) 4) hw (cw_isWell_X4_disc hts) ⟨Nat.le_of_ble_eq_true rfl, Nat.le_of_ble_eq_true rfl⟩ (WO_cell hK hP hw) hZ hP hD hK hN rfl hl rfl (Nat.le_of_ble_eq_true rfl) dL_isWell_175 ⟨Nat.le_of_ble_eq_true rfl, Nat.le_of_ble_eq_true rfl⟩ hS hA (fun w H locs hw hP hD hS => ?_)
          refine lv_bipush (v := (-99)) hx hb dL_isWell_178 (by decide) ?_
          refine lv_icmp_lt (tgt := 205) hx hb dL_isWell_180 (by decide) (fun c27 => ?_) (fun c27 => ?_)
          · exact absurd c27 (Int32.not_lt.mpr wj.2.2.2.1)
          refine lv_aload_n hx hb dL_isWell_183 rfl (lv_at hl 3 rfl) ?_
          refine lv_iload_n hx hb dL_isWell_184 rfl (lv_at hl 0 rfl) ?_
          refine lv_iconst (v := 1) hx hb dL_isWell_185 (by decide) ?_
          refine kE_callV (As := [.int (nI j), .int 1]) (rest := []) ⟨hx, hb, hml, hown, hts⟩ (k_disc l D g tl tm a S (nI j) 1) hw (cw_isWell_X4_disc hts) ⟨Nat.le_of_ble_eq_true rfl, Nat.le_of_ble_eq_true rfl⟩ (WO_cell hK hP hw) hZ hP hD hK hN rfl hl rfl (Nat.le_of_ble_eq_true rfl) dL_isWell_186 ⟨Nat.le_of_ble_eq_true rfl, Nat.le_of_ble_eq_true rfl⟩ hS hA (fun w H locs hw hP hD hS => ?_)
          refine lv_aload_n hx hb dL_isWell_189 rfl (lv_at hl 3 rfl) ?_
          refine lv_iload_n hx hb dL_isWell_190 rfl (lv_at hl 0 rfl) ?_
          refine lv_iconst (v := 2) hx hb dL_isWell_191 (by decide) ?_
          refine kE_callV (As := [.int (nI j), .int 2]) (rest := [.int (rX4_disc (oN S) (nI j) 1)]) ⟨hx, hb, hml, hown, hts⟩ (k_disc l D g tl tm a S (nI j) 2) hw (cw_isWell_X4_disc hts) ⟨Nat.le_of_ble_eq_true rfl, Nat.le_of_ble_eq_true rfl⟩ (WO_cell hK hP hw) hZ hP hD hK hN rfl hl rfl (Nat.le_of_ble_eq_true rfl) dL_isWell_192 ⟨Nat.le_of_ble_eq_true rfl, Nat.le_of_ble_eq_true rfl⟩ hS hA (fun w H locs hw hP hD hS => ?_)
          refine lv_iadd hx hb dL_isWell_195 ?_
          refine lv_bipush (v := 12) hx hb dL_isWell_196 (by decide) ?_
          refine lv_icmp_gt (tgt := 205) hx hb dL_isWell_198 (by decide) (fun c28 => ?_) (fun c28 => ?_)
          · exact absurd c28 (Int32.not_lt.mpr wj.2.2.2.2)
          refine lv_iconst (v := 1) hx hb dL_isWell_201 (by decide) ?_
          refine lv_goto (tgt := 206) hx hb dL_isWell_202 (by decide) ?_
          refine lv_istore_n (lv' := [(2, .int 1), (3, .int (nI j)), (1, .int x8), (0, .ref (a 0 0))]) hx hb dL_isWell_206 rfl hl (by decide) rfl (fun ls hl => ?_)
          refine lv_iinc (v := nI (j + 1)) (lv' := [(3, .int (nI (j + 1))), (2, .int 1), (1, .int x8), (0, .ref (a 0 0))]) hx hb dL_isWell_207 hl (k := 1) rfl (nI_1 _) (by decide) rfl (fun ls hl => ?_)
          refine lv_goto (tgt := 123) hx hb dL_isWell_210 (by decide) ?_
          exact ih123 (j + 1)  (by omega) (by omega)  w H locs ls hw hP hD hS (lv_sub hl [0, 1, 2, 3] rfl)
    exact hlp123 (2 + 1) 0  (by omega) (by omega)  w H locs ls hw hP hD hS (lv_sub hl [0, 1, 2, 3] rfl)
  refine lv_aload_n hx hb dL_isWell_0 rfl (lv_at hl 0 rfl) ?_
  refine lv_iconst (v := 0) hx hb dL_isWell_1 (by decide) ?_
  refine lv_iconst (v := 0) hx hb dL_isWell_2 (by decide) ?_
  refine kE_callV (As := [.int 0, .int 0]) (rest := []) ⟨hx, hb, hml, hown, hts⟩ (k_jar l D g tl tm a S 0 0) hw (cw_isWell_X4_jar hts) ⟨Nat.le_of_ble_eq_true rfl, Nat.le_of_ble_eq_true rfl⟩ (WO_cell hK hP hw) hZ hP hD hK hN rfl hl rfl (Nat.le_of_ble_eq_true rfl) dL_isWell_3 ⟨Nat.le_of_ble_eq_true rfl, Nat.le_of_ble_eq_true rfl⟩ hS hA (fun w H locs hw hP hD hS => ?_)
  refine lv_aload_n hx hb dL_isWell_6 rfl (lv_at hl 0 rfl) ?_
  refine lv_iconst (v := 1) hx hb dL_isWell_7 (by decide) ?_
  refine lv_iconst (v := 0) hx hb dL_isWell_8 (by decide) ?_
  refine kE_callV (As := [.int 1, .int 0]) (rest := [.int (rX4_jar (oN S) 0 0)]) ⟨hx, hb, hml, hown, hts⟩ (k_jar l D g tl tm a S 1 0) hw (cw_isWell_X4_jar hts) ⟨Nat.le_of_ble_eq_true rfl, Nat.le_of_ble_eq_true rfl⟩ (WO_cell hK hP hw) hZ hP hD hK hN rfl hl rfl (Nat.le_of_ble_eq_true rfl) dL_isWell_9 ⟨Nat.le_of_ble_eq_true rfl, Nat.le_of_ble_eq_true rfl⟩ hS hA (fun w H locs hw hP hD hS => ?_)
  refine lv_icmp_le (tgt := 19) hx hb dL_isWell_12 (by decide) (fun c29 => ?_) (fun c29 => ?_)
  · refine lv_aload_n hx hb dL_isWell_19 rfl (lv_at hl 0 rfl) ?_
    refine lv_iconst (v := 0) hx hb dL_isWell_20 (by decide) ?_
    refine lv_iconst (v := 0) hx hb dL_isWell_21 (by decide) ?_
    refine kE_callV (As := [.int 0, .int 0]) (rest := []) ⟨hx, hb, hml, hown, hts⟩ (k_jar l D g tl tm a S 0 0) hw (cw_isWell_X4_jar hts) ⟨Nat.le_of_ble_eq_true rfl, Nat.le_of_ble_eq_true rfl⟩ (WO_cell hK hP hw) hZ hP hD hK hN rfl hl rfl (Nat.le_of_ble_eq_true rfl) dL_isWell_22 ⟨Nat.le_of_ble_eq_true rfl, Nat.le_of_ble_eq_true rfl⟩ hS hA (fun w H locs hw hP hD hS => ?_)
    refine lv_aload_n hx hb dL_isWell_25 rfl (lv_at hl 0 rfl) ?_
    refine lv_iconst (v := 1) hx hb dL_isWell_26 (by decide) ?_
    refine lv_iconst (v := 0) hx hb dL_isWell_27 (by decide) ?_
    refine kE_callV (As := [.int 1, .int 0]) (rest := [.int (rX4_jar (oN S) 0 0)]) ⟨hx, hb, hml, hown, hts⟩ (k_jar l D g tl tm a S 1 0) hw (cw_isWell_X4_jar hts) ⟨Nat.le_of_ble_eq_true rfl, Nat.le_of_ble_eq_true rfl⟩ (WO_cell hK hP hw) hZ hP hD hK hN rfl hl rfl (Nat.le_of_ble_eq_true rfl) dL_isWell_28 ⟨Nat.le_of_ble_eq_true rfl, Nat.le_of_ble_eq_true rfl⟩ hS hA (fun w H locs hw hP hD hS => ?_)
    refine lv_icmp_ge (tgt := 38) hx hb dL_isWell_31 (by decide) (fun c30 => ?_) (fun c30 => ?_)
    · refine lv_iconst (v := 0) hx hb dL_isWell_38 (by decide) ?_
      exact K39_0 0 (sg3 (Int32.not_lt.mpr c29) (Int32.not_lt.mpr c30)) w H locs ls hw hP hD hS (lv_sub hl [0] rfl)
    · refine lv_iconst (v := (-1)) hx hb dL_isWell_34 (by decide) ?_
      refine lv_goto (tgt := 39) hx hb dL_isWell_35 (by decide) ?_
      exact K39_0 (-1) (sg2 (Int32.not_le.mp c30)) w H locs ls hw hP hD hS (lv_sub hl [0] rfl)
  · refine lv_iconst (v := 1) hx hb dL_isWell_15 (by decide) ?_
    refine lv_goto (tgt := 39) hx hb dL_isWell_16 (by decide) ?_
    exact K39_0 1 (sg1 (Int32.not_le.mp c29)) w H locs ls hw hP hD hS (lv_sub hl [0] rfl)
