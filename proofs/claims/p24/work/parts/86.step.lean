/-! ===== a step ===== -/
theorem sp_nn {k : Nat} {S S' : oS} (h : rel k S S') (hk : k < 900) : 0 ≤ rX4_ifTurned (oN S) jm_0 1 0 := by
  obtain ⟨-, -, -, -, o5⟩ := st_once h.1.1 (by omega)
  have e : rX4_ifTurned (oN S) jm_0 (nI 1) 0 = _ := (ift_at (oN S) jm_0 (Nat.le_refl 1) (show 1 ≤ 400 by omega)).1
  rw [show rX4_ifTurned (oN S) jm_0 1 0 = _ from e]
  exact o5
theorem chg_at {c : Nat} (h : c < 199) : r99 (nI c - 99) ∧ ∃ (s : Bool) (n : Nat), n < 100 ∧ -(nI c - 99) = (if s then -nI n else nI n) ∧ (s = true → n ≠ 0) := by
  have e : (nI c - 99).toInt = (c : Int) - 99 := by rw [jk_subT (by rw [nI_toInt (by omega), c99.1]; omega) (by rw [nI_toInt (by omega), c99.1]; omega), nI_toInt (by omega), c99.1]
  refine ⟨by unfold r99; omega, ?_⟩
  by_cases q : c ≤ 99
  · refine ⟨false, 99 - c, by omega, Int32.toInt_inj.mp ?_, fun z => by cases z⟩
    rw [nq_T (by omega), e, if_neg (by decide), nI_toInt (by omega)]
    omega
  · refine ⟨true, c - 99, by omega, Int32.toInt_inj.mp ?_, fun _ => by omega⟩
    rw [nq_T (by omega), e, if_pos rfl, nq_T (by rw [nI_toInt (by omega)]; omega), nI_toInt (by omega)]
    omega
theorem hasO_any {g : jk_G} {b : Nat → Nat → Nat} {f : jd_T → jp_T → oS} {C : jd_T → jp_T → Prop} : hasO b (fun w => ∃ Q P, C Q P ∧ WO g b (f Q P) w) := by
  rintro w ⟨Q, P, -, h⟩
  exact WO_rec h
theorem e_isTouched (l : Launch) (D : va_G) (g : jk_G) (tl tm : Nat) (a : Nat → Nat → Nat) (S : oS) {T d pl n : Nat} (hT : jm_tu (oN S) = nI T) (h6 : T < 1000000) (hpad : padok (oP S)) (hd : d < 2) (hp : pl < 12) (hn : n < 100) {s : Bool} (hs : s = true → n ≠ 0) {x : Int32} (ex : x = (if s then -nI n else nI n)) : kE l D g tl tm yL_isTouched wsL_isTouched 8 182 7 72 [.ref (a 0 0), .int (nI d), .int (nI pl), .int x] (WO g a S) 1 (fun w => ∃ Q P, padok P ∧ WO g a (sX2_putCharge (oN S) (nI d) (nI pl) x, jf_u (oF S) (jh_ix (oH S)).toNatClampNeg (oN S), oG S, jh_rec (oH S), Q, P) w) := by
  subst ex
  rcases (show d = 0 ∨ d = 1 by omega) with q | q <;> subst q <;> cases s
  · exact e_isTouched_0p l D g tl tm a S hT h6 hpad hp hn
  · exact e_isTouched_0n l D g tl tm a S hT h6 hpad hp hn (hs rfl)
  · exact e_isTouched_1p l D g tl tm a S hT h6 hpad hp hn
  · exact e_isTouched_1n l D g tl tm a S hT h6 hpad hp hn (hs rfl)
theorem cw_isStep_L_up {R : Room} {s : State} {args : Array Value} (hts : ∀ w ∈ wsL_isStep, w.before args s = true) : ∀ rm : Room, rm.frames + 1 ≤ R.frames → 8 + (2 + 11) + rm.locals ≤ R.locals → CallB R s args RL 43 yL_up cL_up 2 (some .int) wsL_up rm rm.cells rm.slots 2 ∧ (Cond.static yL_up).before args s = true := fun rm h1 h2 => va_cwS 2 hts gL_isStep_L_up rfl rfl rfl (by decide +kernel) ⟨h1, h2⟩
theorem cw_isStep_X4_count {R : Room} {s : State} {args : Array Value} (hts : ∀ w ∈ wsL_isStep, w.before args s = true) : ∀ rm : Room, rm.frames + 1 ≤ R.frames → 8 + (2 + 11) + rm.locals ≤ R.locals → CallW R s args RL RX4 46 yX4_count cX4_count 2 (some .int) wsX4_count rm rm.cells rm.slots 1 := fun rm h1 h2 => cwV 1 hts gL_isStep_X4_count rfl rfl rfl (by decide +kernel) ⟨h1, h2⟩
theorem cw_isStep_X4_set {R : Room} {s : State} {args : Array Value} (hts : ∀ w ∈ wsL_isStep, w.before args s = true) : ∀ rm : Room, rm.frames + 1 ≤ R.frames → 8 + (4 + 11) + rm.locals ≤ R.locals → CallW R s args RL RX4 50 yX4_set cX4_set 4 (some .int) wsX4_set rm rm.cells rm.slots 2 := fun rm h1 h2 => cwV 2 hts gL_isStep_X4_set rfl rfl rfl (by decide +kernel) ⟨h1, h2⟩
theorem cw_isStep_X4_jar {R : Room} {s : State} {args : Array Value} (hts : ∀ w ∈ wsL_isStep, w.before args s = true) : ∀ rm : Room, rm.frames + 1 ≤ R.frames → 8 + (3 + 11) + rm.locals ≤ R.locals → CallW R s args RL RX4 40 yX4_jar cX4_jar 3 (some .int) wsX4_jar rm rm.cells rm.slots 2 := fun rm h1 h2 => cwV 2 hts gL_isStep_X4_jar rfl rfl rfl (by decide +kernel) ⟨h1, h2⟩
theorem cw_isStep_X4_ifTurned {R : Room} {s : State} {args : Array Value} (hts : ∀ w ∈ wsL_isStep, w.before args s = true) : ∀ rm : Room, rm.frames + 1 ≤ R.frames → 8 + (4 + 11) + rm.locals ≤ R.locals → CallW R s args RL RX4 54 yX4_ifTurned cX4_ifTurned 4 (some .int) wsX4_ifTurned rm rm.cells rm.slots 2 := fun rm h1 h2 => cwV 2 hts gL_isStep_X4_ifTurned rfl rfl rfl (by decide +kernel) ⟨h1, h2⟩
theorem cw_isStep_X4_turn {R : Room} {s : State} {args : Array Value} (hts : ∀ w ∈ wsL_isStep, w.before args s = true) : ∀ rm : Room, rm.frames + 1 ≤ R.frames → 8 + (2 + 11) + rm.locals ≤ R.locals → CallW R s args RL RX4 57 yX4_turn cX4_turn 2 (some .int) wsX4_turn rm rm.cells rm.slots 1 := fun rm h1 h2 => cwV 1 hts gL_isStep_X4_turn rfl rfl rfl (by decide +kernel) ⟨h1, h2⟩
theorem cw_isStep_L_isTurned {R : Room} {s : State} {args : Array Value} (hts : ∀ w ∈ wsL_isStep, w.before args s = true) : ∀ rm : Room, rm.frames + 1 ≤ R.frames → 8 + (13 + 11) + rm.locals ≤ R.locals → CallB R s args RL 60 yL_isTurned cL_isTurned 13 (some .boolean) wsL_isTurned rm rm.cells rm.slots 1 ∧ (Cond.static yL_isTurned).before args s = true := fun rm h1 h2 => va_cwS 1 hts gL_isStep_L_isTurned rfl rfl rfl (by decide +kernel) ⟨h1, h2⟩
theorem cw_isStep_L_gap {R : Room} {s : State} {args : Array Value} (hts : ∀ w ∈ wsL_isStep, w.before args s = true) : ∀ rm : Room, rm.frames + 1 ≤ R.frames → 8 + (2 + 11) + rm.locals ≤ R.locals → CallB R s args RL 67 yL_gap cL_gap 2 (some .int) wsL_gap rm rm.cells rm.slots 1 ∧ (Cond.static yL_gap).before args s = true := fun rm h1 h2 => va_cwS 1 hts gL_isStep_L_gap rfl rfl rfl (by decide +kernel) ⟨h1, h2⟩
theorem cw_isStep_X4_discharge {R : Room} {s : State} {args : Array Value} (hts : ∀ w ∈ wsL_isStep, w.before args s = true) : ∀ rm : Room, rm.frames + 1 ≤ R.frames → 8 + (1 + 11) + rm.locals ≤ R.locals → CallW R s args RL RX4 71 yX4_discharge cX4_discharge 1 (some .int) wsX4_discharge rm rm.cells rm.slots 0 := fun rm h1 h2 => cwV 0 hts gL_isStep_X4_discharge rfl rfl rfl (by decide +kernel) ⟨h1, h2⟩
theorem cw_isStep_X4_untilSpark {R : Room} {s : State} {args : Array Value} (hts : ∀ w ∈ wsL_isStep, w.before args s = true) : ∀ rm : Room, rm.frames + 1 ≤ R.frames → 8 + (1 + 11) + rm.locals ≤ R.locals → CallW R s args RL RX4 64 yX4_untilSpark cX4_untilSpark 1 (some .int) wsX4_untilSpark rm rm.cells rm.slots 0 := fun rm h1 h2 => cwV 0 hts gL_isStep_X4_untilSpark rfl rfl rfl (by decide +kernel) ⟨h1, h2⟩
theorem cw_isStep_X4_disc {R : Room} {s : State} {args : Array Value} (hts : ∀ w ∈ wsL_isStep, w.before args s = true) : ∀ rm : Room, rm.frames + 1 ≤ R.frames → 8 + (3 + 11) + rm.locals ≤ R.locals → CallW R s args RL RX4 74 yX4_disc cX4_disc 3 (some .int) wsX4_disc rm rm.cells rm.slots 2 := fun rm h1 h2 => cwV 2 hts gL_isStep_X4_disc rfl rfl rfl (by decide +kernel) ⟨h1, h2⟩
theorem cw_isStep_X4_wipeDisc {R : Room} {s : State} {args : Array Value} (hts : ∀ w ∈ wsL_isStep, w.before args s = true) : ∀ rm : Room, rm.frames + 1 ≤ R.frames → 8 + (2 + 11) + rm.locals ≤ R.locals → CallW R s args RL RX4 77 yX4_wipeDisc cX4_wipeDisc 2 (some .int) wsX4_wipeDisc rm rm.cells rm.slots 1 := fun rm h1 h2 => cwV 1 hts gL_isStep_X4_wipeDisc rfl rfl rfl (by decide +kernel) ⟨h1, h2⟩
theorem cw_isStep_X4_undo {R : Room} {s : State} {args : Array Value} (hts : ∀ w ∈ wsL_isStep, w.before args s = true) : ∀ rm : Room, rm.frames + 1 ≤ R.frames → 8 + (1 + 11) + rm.locals ≤ R.locals → CallW R s args RL RX4 80 yX4_undo cX4_undo 1 (some .int) wsX4_undo rm rm.cells rm.slots 0 := fun rm h1 h2 => cwV 0 hts gL_isStep_X4_undo rfl rfl rfl (by decide +kernel) ⟨h1, h2⟩
theorem cw_isStep_X4_restore {R : Room} {s : State} {args : Array Value} (hts : ∀ w ∈ wsL_isStep, w.before args s = true) : ∀ rm : Room, rm.frames + 1 ≤ R.frames → 8 + (3 + 11) + rm.locals ≤ R.locals → CallW R s args RL RX4 86 yX4_restore cX4_restore 3 (some .int) wsX4_restore rm rm.cells rm.slots 1 := fun rm h1 h2 => cwV 1 hts gL_isStep_X4_restore rfl rfl rfl (by decide +kernel) ⟨h1, h2⟩
theorem cw_isStep_X4_save {R : Room} {s : State} {args : Array Value} (hts : ∀ w ∈ wsL_isStep, w.before args s = true) : ∀ rm : Room, rm.frames + 1 ≤ R.frames → 8 + (3 + 11) + rm.locals ≤ R.locals → CallW R s args RL RX4 83 yX4_save cX4_save 3 (some .int) wsX4_save rm rm.cells rm.slots 1 := fun rm h1 h2 => cwV 1 hts gL_isStep_X4_save rfl rfl rfl (by decide +kernel) ⟨h1, h2⟩
theorem cw_isStep_X4_sector {R : Room} {s : State} {args : Array Value} (hts : ∀ w ∈ wsL_isStep, w.before args s = true) : ∀ rm : Room, rm.frames + 1 ≤ R.frames → 8 + (3 + 11) + rm.locals ≤ R.locals → CallW R s args RL RX4 36 yX4_sector cX4_sector 3 (some .int) wsX4_sector rm rm.cells rm.slots 2 := fun rm h1 h2 => cwV 2 hts gL_isStep_X4_sector rfl rfl rfl (by decide +kernel) ⟨h1, h2⟩
theorem cw_isStep_X4_touch {R : Room} {s : State} {args : Array Value} (hts : ∀ w ∈ wsL_isStep, w.before args s = true) : ∀ rm : Room, rm.frames + 1 ≤ R.frames → 8 + (4 + 11) + rm.locals ≤ R.locals → CallW R s args RL RX4 89 yX4_touch cX4_touch 4 (some .int) wsX4_touch rm rm.cells rm.slots 3 := fun rm h1 h2 => cwV 3 hts gL_isStep_X4_touch rfl rfl rfl (by decide +kernel) ⟨h1, h2⟩
theorem cw_isStep_L_isTouched {R : Room} {s : State} {args : Array Value} (hts : ∀ w ∈ wsL_isStep, w.before args s = true) : ∀ rm : Room, rm.frames + 1 ≤ R.frames → 8 + (4 + 11) + rm.locals ≤ R.locals → CallB R s args RL 93 yL_isTouched cL_isTouched 4 (some .boolean) wsL_isTouched rm rm.cells rm.slots 4 ∧ (Cond.static yL_isTouched).before args s = true := fun rm h1 h2 => va_cwS 4 hts gL_isStep_L_isTouched rfl rfl rfl (by decide +kernel) ⟨h1, h2⟩
section STEP
variable {p : Program} {l : Launch} {e : Env} {s : State} {m : MethodId} {args : Array Value} {below : List Frame} {meth : Method} {c : Code} {H : Heap} {locs : List Loc} {w : va_W} {ls : Array Slot}
variable {D : va_G} {g : jk_G} {tl tm k0 : Nat} {a b : Nat → Nat → Nat} {S S' : oS} {A : Nat → Prop}
set_option maxHeartbeats 8000000 in
set_option maxRecDepth 20000 in
theorem st_64 {x y : Int32} (hx : p.tables.exec = Jvm.exec) (hb : c.code = cL_isStep) (hr : meth.sig.returnType = some .boolean) (hml : c.maxLocals = 10) (hts : ∀ w ∈ wsL_isStep, w.before args s = true) (hown : s.vm.findClass RL = some m.cls) (hlocks : meth.locks = false) (hK : va_K D vwCl (jk_T g) s) (hN : jk_N s) (hZ : jk_Z tl tm A s) (hA : ∀ q, s.heap.size ≤ q → A q) (h : rel k0 S S') (hk0 : k0 < 900) (hw : bothW (WO g a S) (WO g b S') w) (hP : va_P D vwCl w H) (hD : va_D A w) (hS : va_S A s.heap H locs) (hl : lv_has ls 10 [(0, .ref (a 0 0)), (1, .ref (b 0 0)), (2, .int x), (3, .int y), (4, .int (x >>> (4 &&& 31)))]) : W p l e ({ frames := 9, cells := 16, slots := 168, locals := 205 }) s m args below meth c H locs 0 0 (MQ below (jk_QC (some (.int 1)) D (fun o : {w // (fun w => ∃ S2 S2', rel (k0 + 1) S2 S2' ∧ bothW (WO g a S2) (WO g b S2') w) w} => o.1) A) args s 16 168 A) (F0 m 64 ls []) := by
  refine lv_iload hx hb dL_isStep_64 (lv_at hl 4 rfl) ?_
  refine lv_iconst (v := 5) hx hb dL_isStep_66 (by decide) ?_
  refine kE_callS (As := [.int (x >>> (4 &&& 31)), .int 5]) (rest := []) ⟨hx, hb, hml, hown, hts⟩ (e_up l D g tl tm (x >>> (4 &&& 31)) (n := 5) (by omega) (by omega) _) hw (cw_isStep_L_up hts) ⟨Nat.le_of_ble_eq_true rfl, Nat.le_of_ble_eq_true rfl⟩ hZ hP hD hK hN rfl hl rfl (Nat.le_of_ble_eq_true rfl) dL_isStep_67 ⟨Nat.le_of_ble_eq_true rfl, Nat.le_of_ble_eq_true rfl⟩ hS hA (fun w H locs hw hP hD hS => ?_)
  have hu := upN_lt (x >>> (4 &&& 31)) (show 0 < 5 by omega)
  rcases (show upN (x >>> (4 &&& 31)) 5 = 0 ∨ upN (x >>> (4 &&& 31)) 5 = 1 ∨ upN (x >>> (4 &&& 31)) 5 = 2 ∨ upN (x >>> (4 &&& 31)) 5 = 3 ∨ upN (x >>> (4 &&& 31)) 5 = 4 by omega) with q | q | q | q | q
  · rw [q]
    refine lv_istore (lv' := [(5, .int (nI 0)), (0, .ref (a 0 0)), (1, .ref (b 0 0)), (2, .int x), (3, .int y), (4, .int (x >>> (4 &&& 31)))]) hx hb dL_isStep_70 hl (by decide) rfl (fun ls hl => ?_)
    refine lv_iload hx hb dL_isStep_72 (lv_at hl 0 rfl) ?_
    refine lv_if_ne (tgt := 86) hx hb dL_isStep_74 (by decide) (fun c1 => ?_) (fun c1 => ?_)
    · exact absurd (by decide) c1
    refine lv_iload_n hx hb dL_isStep_77 rfl (lv_at hl 4 rfl) ?_
    refine lv_bipush (v := 33) hx hb dL_isStep_78 (by decide) ?_
    refine kE_callS (As := [.int y, .int 33]) (rest := []) ⟨hx, hb, hml, hown, hts⟩ (e_up l D g tl tm y (n := 33) (by omega) (by omega) _) hw (cw_isStep_L_up hts) ⟨Nat.le_of_ble_eq_true rfl, Nat.le_of_ble_eq_true rfl⟩ hZ hP hD hK hN rfl hl rfl (Nat.le_of_ble_eq_true rfl) dL_isStep_80 ⟨Nat.le_of_ble_eq_true rfl, Nat.le_of_ble_eq_true rfl⟩ hS hA (fun w H locs hw hP hD hS => ?_)
    refine lv_goto (tgt := 157) hx hb dL_isStep_83 (by decide) ?_
    have hv := upN_lt y (show 0 < 33 by omega)
    have f := st_set h hk0 (i := 0) (by omega) (v := nI (upN y 33)) (by rw [nI_toInt (by omega)]; show (0 : Int) ≤ _; omega) (by rw [nI_toInt (by omega)]; show _ ≤ (32 : Int); omega)
    generalize (upN y 33) = v9 at f ⊢
    refine lv_istore (lv' := [(6, .int (nI v9)), (5, .int (nI 0)), (0, .ref (a 0 0)), (1, .ref (b 0 0)), (2, .int x), (3, .int y), (4, .int (x >>> (4 &&& 31)))]) hx hb dL_isStep_157 hl (by decide) rfl (fun ls hl => ?_)
    refine lv_aload_n hx hb dL_isStep_159 rfl (lv_at hl 2 rfl) ?_
    refine lv_iload hx hb dL_isStep_160 (lv_at hl 1 rfl) ?_
    refine kE_callV (As := [.int (nI 0)]) (rest := []) ⟨hx, hb, hml, hown, hts⟩ (kE_L (k_count l D g tl tm a S (nI 0)) (WO g b S')) hw (cw_isStep_X4_count hts) ⟨Nat.le_of_ble_eq_true rfl, Nat.le_of_ble_eq_true rfl⟩ (WW_cellL (hasO_WO _ _ _) hK hP hw) hZ hP hD hK hN rfl hl rfl (Nat.le_of_ble_eq_true rfl) dL_isStep_162 ⟨Nat.le_of_ble_eq_true rfl, Nat.le_of_ble_eq_true rfl⟩ hS hA (fun w H locs hw hP hD hS => ?_)
    refine lv_istore (lv' := [(7, .int (rX4_count (oN S) (oH S) (oP S) (nI 0))), (6, .int (nI v9)), (5, .int (nI 0)), (0, .ref (a 0 0)), (1, .ref (b 0 0)), (2, .int x), (3, .int y), (4, .int (x >>> (4 &&& 31)))]) hx hb dL_isStep_165 hl (by decide) rfl (fun ls hl => ?_)
    refine lv_iload hx hb dL_isStep_167 (lv_at hl 2 rfl) ?_
    refine lv_iconst (v := 4) hx hb dL_isStep_169 (by decide) ?_
    refine lv_icmp_ne (tgt := 219) hx hb dL_isStep_170 (by decide) (fun c2 => ?_) (fun c2 => ?_)
    rotate_left
    · exact absurd c2 (by decide)
    refine lv_iconst (v := 1) hx hb dL_isStep_219 (by decide) ?_
    refine lv_goto (tgt := 224) hx hb dL_isStep_220 (by decide) ?_
    refine lv_istore (lv' := [(8, .int 1), (7, .int (rX4_count (oN S) (oH S) (oP S) (nI 0))), (6, .int (nI v9)), (5, .int (nI 0)), (0, .ref (a 0 0)), (1, .ref (b 0 0)), (2, .int x), (3, .int y), (4, .int (x >>> (4 &&& 31)))]) hx hb dL_isStep_224 hl (by decide) rfl (fun ls hl => ?_)
    refine lv_aload_n hx hb dL_isStep_226 rfl (lv_at hl 4 rfl) ?_
    refine lv_iload hx hb dL_isStep_227 (lv_at hl 3 rfl) ?_
    refine lv_iload hx hb dL_isStep_229 (lv_at hl 2 rfl) ?_
    refine kE_callV (As := [.int (nI 0), .int (nI v9)]) (rest := []) ⟨hx, hb, hml, hown, hts⟩ (kE_L (k_set l D g tl tm a S (nI 0) (nI v9)) (WO g b S')) hw (cw_isStep_X4_set hts) ⟨Nat.le_of_ble_eq_true rfl, Nat.le_of_ble_eq_true rfl⟩ (WW_cellL (hasO_WO _ _ _) hK hP hw) hZ hP hD hK hN rfl hl rfl (Nat.le_of_ble_eq_true rfl) dL_isStep_231 ⟨Nat.le_of_ble_eq_true rfl, Nat.le_of_ble_eq_true rfl⟩ hS hA (fun w H locs hw hP hD hS => ?_)
    refine lv_istore (lv' := [(9, .int (rX4_set (oN S) (oH S) (oF S) (nI 0) (nI v9))), (8, .int 1), (7, .int (rX4_count (oN S) (oH S) (oP S) (nI 0))), (6, .int (nI v9)), (5, .int (nI 0)), (0, .ref (a 0 0)), (1, .ref (b 0 0)), (2, .int x), (3, .int y), (4, .int (x >>> (4 &&& 31)))]) hx hb dL_isStep_234 hl (by decide) rfl (fun ls hl => ?_)
    refine lv_iload hx hb dL_isStep_236 (lv_at hl 0 rfl) ?_
    refine lv_aload_n hx hb dL_isStep_238 rfl (lv_at hl 6 rfl) ?_
    refine lv_iload hx hb dL_isStep_239 (lv_at hl 4 rfl) ?_
    refine lv_iload hx hb dL_isStep_241 (lv_at hl 3 rfl) ?_
    refine kE_callV (As := [.int (nI 0), .int (nI v9)]) (rest := [.int (rX4_set (oN S) (oH S) (oF S) (nI 0) (nI v9))]) ⟨hx, hb, hml, hown, hts⟩ (kE_R (k_set l D g tl tm b S' (nI 0) (nI v9)) (WO g a (oset S (nI 0) (nI v9)))) hw (cw_isStep_X4_set hts) ⟨Nat.le_of_ble_eq_true rfl, Nat.le_of_ble_eq_true rfl⟩ (WW_cellR (hasO_WO _ _ _) hK hP hw) hZ hP hD hK hN rfl hl rfl (Nat.le_of_ble_eq_true rfl) dL_isStep_243 ⟨Nat.le_of_ble_eq_true rfl, Nat.le_of_ble_eq_true rfl⟩ hS hA (fun w H locs hw hP hD hS => ?_)
    refine lv_icmp_ne (tgt := 270) hx hb dL_isStep_246 (by decide) (fun c3 => ?_) (fun c3 => ?_)
    · exact absurd f.1 c3
    refine lv_iload hx hb dL_isStep_249 (lv_at hl 0 rfl) ?_
    refine lv_iload hx hb dL_isStep_251 (lv_at hl 1 rfl) ?_
    refine lv_if_eq (tgt := 261) hx hb dL_isStep_253 (by decide) (fun c4 => ?_) (fun c4 => ?_)
    · exact absurd c4 (by decide)
    refine lv_iload hx hb dL_isStep_256 (lv_at hl 2 rfl) ?_
    refine lv_goto (tgt := 263) hx hb dL_isStep_258 (by decide) ?_
    refine lv_icmp_ne (tgt := 270) hx hb dL_isStep_263 (by decide) (fun c5 => ?_) (fun c5 => ?_)
    · exact absurd (f.2.2.1 (fun z => absurd z (by omega))) c5
    refine lv_iconst (v := 1) hx hb dL_isStep_266 (by decide) ?_
    refine lv_goto (tgt := 271) hx hb dL_isStep_267 (by decide) ?_
    exact kE_zret hx hb hr (by decide) hlocks ⟨_, _, f.2.1, hw⟩ hP hD hS (Nat.le_of_ble_eq_true rfl) (Nat.le_of_ble_eq_true rfl) rfl dL_isStep_271
  · rw [q]
    refine lv_istore (lv' := [(5, .int (nI 1)), (0, .ref (a 0 0)), (1, .ref (b 0 0)), (2, .int x), (3, .int y), (4, .int (x >>> (4 &&& 31)))]) hx hb dL_isStep_70 hl (by decide) rfl (fun ls hl => ?_)
    refine lv_iload hx hb dL_isStep_72 (lv_at hl 0 rfl) ?_
    refine lv_if_ne (tgt := 86) hx hb dL_isStep_74 (by decide) (fun c6 => ?_) (fun c6 => ?_)
    rotate_left
    · exact absurd c6 (by decide)
    refine lv_iload hx hb dL_isStep_86 (lv_at hl 0 rfl) ?_
    refine lv_iconst (v := 2) hx hb dL_isStep_88 (by decide) ?_
    refine lv_icmp_ne (tgt := 118) hx hb dL_isStep_89 (by decide) (fun c7 => ?_) (fun c7 => ?_)
    rotate_left
    · exact absurd c7 (by decide)
    refine lv_iload hx hb dL_isStep_118 (lv_at hl 0 rfl) ?_
    refine lv_iconst (v := 4) hx hb dL_isStep_120 (by decide) ?_
    refine lv_icmp_ne (tgt := 151) hx hb dL_isStep_121 (by decide) (fun c8 => ?_) (fun c8 => ?_)
    rotate_left
    · exact absurd c8 (by decide)
    refine lv_iload_n hx hb dL_isStep_151 rfl (lv_at hl 4 rfl) ?_
    refine lv_bipush (v := 61) hx hb dL_isStep_152 (by decide) ?_
    refine kE_callS (As := [.int y, .int 61]) (rest := []) ⟨hx, hb, hml, hown, hts⟩ (e_up l D g tl tm y (n := 61) (by omega) (by omega) _) hw (cw_isStep_L_up hts) ⟨Nat.le_of_ble_eq_true rfl, Nat.le_of_ble_eq_true rfl⟩ hZ hP hD hK hN rfl hl rfl (Nat.le_of_ble_eq_true rfl) dL_isStep_154 ⟨Nat.le_of_ble_eq_true rfl, Nat.le_of_ble_eq_true rfl⟩ hS hA (fun w H locs hw hP hD hS => ?_)
    have hv := upN_lt y (show 0 < 61 by omega)
    have f := st_set h hk0 (i := 1) (by omega) (v := nI (upN y 61)) (by rw [nI_toInt (by omega)]; show (0 : Int) ≤ _; omega) (by rw [nI_toInt (by omega)]; show _ ≤ (60 : Int); omega)
    generalize (upN y 61) = v9 at f ⊢
    refine lv_istore (lv' := [(6, .int (nI v9)), (5, .int (nI 1)), (0, .ref (a 0 0)), (1, .ref (b 0 0)), (2, .int x), (3, .int y), (4, .int (x >>> (4 &&& 31)))]) hx hb dL_isStep_157 hl (by decide) rfl (fun ls hl => ?_)
    refine lv_aload_n hx hb dL_isStep_159 rfl (lv_at hl 2 rfl) ?_
    refine lv_iload hx hb dL_isStep_160 (lv_at hl 1 rfl) ?_
    refine kE_callV (As := [.int (nI 1)]) (rest := []) ⟨hx, hb, hml, hown, hts⟩ (kE_L (k_count l D g tl tm a S (nI 1)) (WO g b S')) hw (cw_isStep_X4_count hts) ⟨Nat.le_of_ble_eq_true rfl, Nat.le_of_ble_eq_true rfl⟩ (WW_cellL (hasO_WO _ _ _) hK hP hw) hZ hP hD hK hN rfl hl rfl (Nat.le_of_ble_eq_true rfl) dL_isStep_162 ⟨Nat.le_of_ble_eq_true rfl, Nat.le_of_ble_eq_true rfl⟩ hS hA (fun w H locs hw hP hD hS => ?_)
    refine lv_istore (lv' := [(7, .int (rX4_count (oN S) (oH S) (oP S) (nI 1))), (6, .int (nI v9)), (5, .int (nI 1)), (0, .ref (a 0 0)), (1, .ref (b 0 0)), (2, .int x), (3, .int y), (4, .int (x >>> (4 &&& 31)))]) hx hb dL_isStep_165 hl (by decide) rfl (fun ls hl => ?_)
    refine lv_iload hx hb dL_isStep_167 (lv_at hl 2 rfl) ?_
    refine lv_iconst (v := 4) hx hb dL_isStep_169 (by decide) ?_
    refine lv_icmp_ne (tgt := 219) hx hb dL_isStep_170 (by decide) (fun c9 => ?_) (fun c9 => ?_)
    rotate_left
    · exact absurd c9 (by decide)
    refine lv_iconst (v := 1) hx hb dL_isStep_219 (by decide) ?_
    refine lv_goto (tgt := 224) hx hb dL_isStep_220 (by decide) ?_
    refine lv_istore (lv' := [(8, .int 1), (7, .int (rX4_count (oN S) (oH S) (oP S) (nI 1))), (6, .int (nI v9)), (5, .int (nI 1)), (0, .ref (a 0 0)), (1, .ref (b 0 0)), (2, .int x), (3, .int y), (4, .int (x >>> (4 &&& 31)))]) hx hb dL_isStep_224 hl (by decide) rfl (fun ls hl => ?_)
    refine lv_aload_n hx hb dL_isStep_226 rfl (lv_at hl 4 rfl) ?_
    refine lv_iload hx hb dL_isStep_227 (lv_at hl 3 rfl) ?_
    refine lv_iload hx hb dL_isStep_229 (lv_at hl 2 rfl) ?_
    refine kE_callV (As := [.int (nI 1), .int (nI v9)]) (rest := []) ⟨hx, hb, hml, hown, hts⟩ (kE_L (k_set l D g tl tm a S (nI 1) (nI v9)) (WO g b S')) hw (cw_isStep_X4_set hts) ⟨Nat.le_of_ble_eq_true rfl, Nat.le_of_ble_eq_true rfl⟩ (WW_cellL (hasO_WO _ _ _) hK hP hw) hZ hP hD hK hN rfl hl rfl (Nat.le_of_ble_eq_true rfl) dL_isStep_231 ⟨Nat.le_of_ble_eq_true rfl, Nat.le_of_ble_eq_true rfl⟩ hS hA (fun w H locs hw hP hD hS => ?_)
    refine lv_istore (lv' := [(9, .int (rX4_set (oN S) (oH S) (oF S) (nI 1) (nI v9))), (8, .int 1), (7, .int (rX4_count (oN S) (oH S) (oP S) (nI 1))), (6, .int (nI v9)), (5, .int (nI 1)), (0, .ref (a 0 0)), (1, .ref (b 0 0)), (2, .int x), (3, .int y), (4, .int (x >>> (4 &&& 31)))]) hx hb dL_isStep_234 hl (by decide) rfl (fun ls hl => ?_)
    refine lv_iload hx hb dL_isStep_236 (lv_at hl 0 rfl) ?_
    refine lv_aload_n hx hb dL_isStep_238 rfl (lv_at hl 6 rfl) ?_
    refine lv_iload hx hb dL_isStep_239 (lv_at hl 4 rfl) ?_
    refine lv_iload hx hb dL_isStep_241 (lv_at hl 3 rfl) ?_
    refine kE_callV (As := [.int (nI 1), .int (nI v9)]) (rest := [.int (rX4_set (oN S) (oH S) (oF S) (nI 1) (nI v9))]) ⟨hx, hb, hml, hown, hts⟩ (kE_R (k_set l D g tl tm b S' (nI 1) (nI v9)) (WO g a (oset S (nI 1) (nI v9)))) hw (cw_isStep_X4_set hts) ⟨Nat.le_of_ble_eq_true rfl, Nat.le_of_ble_eq_true rfl⟩ (WW_cellR (hasO_WO _ _ _) hK hP hw) hZ hP hD hK hN rfl hl rfl (Nat.le_of_ble_eq_true rfl) dL_isStep_243 ⟨Nat.le_of_ble_eq_true rfl, Nat.le_of_ble_eq_true rfl⟩ hS hA (fun w H locs hw hP hD hS => ?_)
    refine lv_icmp_ne (tgt := 270) hx hb dL_isStep_246 (by decide) (fun c10 => ?_) (fun c10 => ?_)
    · exact absurd f.1 c10
    refine lv_iload hx hb dL_isStep_249 (lv_at hl 0 rfl) ?_
    refine lv_iload hx hb dL_isStep_251 (lv_at hl 1 rfl) ?_
    refine lv_if_eq (tgt := 261) hx hb dL_isStep_253 (by decide) (fun c11 => ?_) (fun c11 => ?_)
    · exact absurd c11 (by decide)
    refine lv_iload hx hb dL_isStep_256 (lv_at hl 2 rfl) ?_
    refine lv_goto (tgt := 263) hx hb dL_isStep_258 (by decide) ?_
    refine lv_icmp_ne (tgt := 270) hx hb dL_isStep_263 (by decide) (fun c12 => ?_) (fun c12 => ?_)
    · exact absurd (f.2.2.1 (fun z => absurd z (by omega))) c12
    refine lv_iconst (v := 1) hx hb dL_isStep_266 (by decide) ?_
    refine lv_goto (tgt := 271) hx hb dL_isStep_267 (by decide) ?_
    exact kE_zret hx hb hr (by decide) hlocks ⟨_, _, f.2.1, hw⟩ hP hD hS (Nat.le_of_ble_eq_true rfl) (Nat.le_of_ble_eq_true rfl) rfl dL_isStep_271
  · rw [q]
    refine lv_istore (lv' := [(5, .int (nI 2)), (0, .ref (a 0 0)), (1, .ref (b 0 0)), (2, .int x), (3, .int y), (4, .int (x >>> (4 &&& 31)))]) hx hb dL_isStep_70 hl (by decide) rfl (fun ls hl => ?_)
    refine lv_iload hx hb dL_isStep_72 (lv_at hl 0 rfl) ?_
    refine lv_if_ne (tgt := 86) hx hb dL_isStep_74 (by decide) (fun c13 => ?_) (fun c13 => ?_)
    rotate_left
    · exact absurd c13 (by decide)
    refine lv_iload hx hb dL_isStep_86 (lv_at hl 0 rfl) ?_
    refine lv_iconst (v := 2) hx hb dL_isStep_88 (by decide) ?_
    refine lv_icmp_ne (tgt := 118) hx hb dL_isStep_89 (by decide) (fun c14 => ?_) (fun c14 => ?_)
    · exact absurd (by decide) c14
    refine lv_iconst (v := 1) hx hb dL_isStep_92 (by decide) ?_
    refine lv_iload_n hx hb dL_isStep_93 rfl (lv_at hl 4 rfl) ?_
    refine lv_iload hx hb dL_isStep_94 (lv_at hl 5 rfl) ?_
    refine lv_iconst (v := 2) hx hb dL_isStep_96 (by decide) ?_
    refine kE_callS (As := [.int (x >>> (4 &&& 31)), .int 2]) (rest := [.int y, .int 1]) ⟨hx, hb, hml, hown, hts⟩ (e_up l D g tl tm (x >>> (4 &&& 31)) (n := 2) (by omega) (by omega) _) hw (cw_isStep_L_up hts) ⟨Nat.le_of_ble_eq_true rfl, Nat.le_of_ble_eq_true rfl⟩ hZ hP hD hK hN rfl hl rfl (Nat.le_of_ble_eq_true rfl) dL_isStep_97 ⟨Nat.le_of_ble_eq_true rfl, Nat.le_of_ble_eq_true rfl⟩ hS hA (fun w H locs hw hP hD hS => ?_)
    refine lv_if_ne (tgt := 109) hx hb dL_isStep_100 (by decide) (fun c15 => ?_) (fun c15 => ?_)
    · refine lv_bipush (v := 15) hx hb dL_isStep_109 (by decide) ?_
      refine kE_callS (As := [.int y, .int 15]) (rest := [.int 1]) ⟨hx, hb, hml, hown, hts⟩ (e_up l D g tl tm y (n := 15) (by omega) (by omega) _) hw (cw_isStep_L_up hts) ⟨Nat.le_of_ble_eq_true rfl, Nat.le_of_ble_eq_true rfl⟩ hZ hP hD hK hN rfl hl rfl (Nat.le_of_ble_eq_true rfl) dL_isStep_111 ⟨Nat.le_of_ble_eq_true rfl, Nat.le_of_ble_eq_true rfl⟩ hS hA (fun w H locs hw hP hD hS => ?_)
      refine lv_iadd hx hb dL_isStep_114 ?_
      refine lv_goto (tgt := 157) hx hb dL_isStep_115 (by decide) ?_
      refine lv_topi (fun y9 e9 => ?_)
      obtain rfl : y9 = nI (1 + upN y 15) := e9.trans (nI_add 1 _)
      have hv := upN_lt y (show 0 < 15 by omega)
      have f := st_set h hk0 (i := 2) (by omega) (v := nI (1 + upN y 15)) (by rw [nI_toInt (by omega)]; show (1 : Int) ≤ _; omega) (by rw [nI_toInt (by omega)]; show _ ≤ (200 : Int); omega)
      generalize (1 + upN y 15) = v9 at f ⊢
      refine lv_istore (lv' := [(6, .int (nI v9)), (5, .int (nI 2)), (0, .ref (a 0 0)), (1, .ref (b 0 0)), (2, .int x), (3, .int y), (4, .int (x >>> (4 &&& 31)))]) hx hb dL_isStep_157 hl (by decide) rfl (fun ls hl => ?_)
      refine lv_aload_n hx hb dL_isStep_159 rfl (lv_at hl 2 rfl) ?_
      refine lv_iload hx hb dL_isStep_160 (lv_at hl 1 rfl) ?_
      refine kE_callV (As := [.int (nI 2)]) (rest := []) ⟨hx, hb, hml, hown, hts⟩ (kE_L (k_count l D g tl tm a S (nI 2)) (WO g b S')) hw (cw_isStep_X4_count hts) ⟨Nat.le_of_ble_eq_true rfl, Nat.le_of_ble_eq_true rfl⟩ (WW_cellL (hasO_WO _ _ _) hK hP hw) hZ hP hD hK hN rfl hl rfl (Nat.le_of_ble_eq_true rfl) dL_isStep_162 ⟨Nat.le_of_ble_eq_true rfl, Nat.le_of_ble_eq_true rfl⟩ hS hA (fun w H locs hw hP hD hS => ?_)
      refine lv_istore (lv' := [(7, .int (rX4_count (oN S) (oH S) (oP S) (nI 2))), (6, .int (nI v9)), (5, .int (nI 2)), (0, .ref (a 0 0)), (1, .ref (b 0 0)), (2, .int x), (3, .int y), (4, .int (x >>> (4 &&& 31)))]) hx hb dL_isStep_165 hl (by decide) rfl (fun ls hl => ?_)
      refine lv_iload hx hb dL_isStep_167 (lv_at hl 2 rfl) ?_
      refine lv_iconst (v := 4) hx hb dL_isStep_169 (by decide) ?_
      refine lv_icmp_ne (tgt := 219) hx hb dL_isStep_170 (by decide) (fun c16 => ?_) (fun c16 => ?_)
      rotate_left
      · exact absurd c16 (by decide)
      refine lv_iconst (v := 1) hx hb dL_isStep_219 (by decide) ?_
      refine lv_goto (tgt := 224) hx hb dL_isStep_220 (by decide) ?_
      refine lv_istore (lv' := [(8, .int 1), (7, .int (rX4_count (oN S) (oH S) (oP S) (nI 2))), (6, .int (nI v9)), (5, .int (nI 2)), (0, .ref (a 0 0)), (1, .ref (b 0 0)), (2, .int x), (3, .int y), (4, .int (x >>> (4 &&& 31)))]) hx hb dL_isStep_224 hl (by decide) rfl (fun ls hl => ?_)
      refine lv_aload_n hx hb dL_isStep_226 rfl (lv_at hl 4 rfl) ?_
      refine lv_iload hx hb dL_isStep_227 (lv_at hl 3 rfl) ?_
      refine lv_iload hx hb dL_isStep_229 (lv_at hl 2 rfl) ?_
      refine kE_callV (As := [.int (nI 2), .int (nI v9)]) (rest := []) ⟨hx, hb, hml, hown, hts⟩ (kE_L (k_set l D g tl tm a S (nI 2) (nI v9)) (WO g b S')) hw (cw_isStep_X4_set hts) ⟨Nat.le_of_ble_eq_true rfl, Nat.le_of_ble_eq_true rfl⟩ (WW_cellL (hasO_WO _ _ _) hK hP hw) hZ hP hD hK hN rfl hl rfl (Nat.le_of_ble_eq_true rfl) dL_isStep_231 ⟨Nat.le_of_ble_eq_true rfl, Nat.le_of_ble_eq_true rfl⟩ hS hA (fun w H locs hw hP hD hS => ?_)
      refine lv_istore (lv' := [(9, .int (rX4_set (oN S) (oH S) (oF S) (nI 2) (nI v9))), (8, .int 1), (7, .int (rX4_count (oN S) (oH S) (oP S) (nI 2))), (6, .int (nI v9)), (5, .int (nI 2)), (0, .ref (a 0 0)), (1, .ref (b 0 0)), (2, .int x), (3, .int y), (4, .int (x >>> (4 &&& 31)))]) hx hb dL_isStep_234 hl (by decide) rfl (fun ls hl => ?_)
      refine lv_iload hx hb dL_isStep_236 (lv_at hl 0 rfl) ?_
      refine lv_aload_n hx hb dL_isStep_238 rfl (lv_at hl 6 rfl) ?_
      refine lv_iload hx hb dL_isStep_239 (lv_at hl 4 rfl) ?_
      refine lv_iload hx hb dL_isStep_241 (lv_at hl 3 rfl) ?_
      refine kE_callV (As := [.int (nI 2), .int (nI v9)]) (rest := [.int (rX4_set (oN S) (oH S) (oF S) (nI 2) (nI v9))]) ⟨hx, hb, hml, hown, hts⟩ (kE_R (k_set l D g tl tm b S' (nI 2) (nI v9)) (WO g a (oset S (nI 2) (nI v9)))) hw (cw_isStep_X4_set hts) ⟨Nat.le_of_ble_eq_true rfl, Nat.le_of_ble_eq_true rfl⟩ (WW_cellR (hasO_WO _ _ _) hK hP hw) hZ hP hD hK hN rfl hl rfl (Nat.le_of_ble_eq_true rfl) dL_isStep_243 ⟨Nat.le_of_ble_eq_true rfl, Nat.le_of_ble_eq_true rfl⟩ hS hA (fun w H locs hw hP hD hS => ?_)
      refine lv_icmp_ne (tgt := 270) hx hb dL_isStep_246 (by decide) (fun c17 => ?_) (fun c17 => ?_)
      · exact absurd f.1 c17
      refine lv_iload hx hb dL_isStep_249 (lv_at hl 0 rfl) ?_
      refine lv_iload hx hb dL_isStep_251 (lv_at hl 1 rfl) ?_
      refine lv_if_eq (tgt := 261) hx hb dL_isStep_253 (by decide) (fun c18 => ?_) (fun c18 => ?_)
      · exact absurd c18 (by decide)
      refine lv_iload hx hb dL_isStep_256 (lv_at hl 2 rfl) ?_
      refine lv_goto (tgt := 263) hx hb dL_isStep_258 (by decide) ?_
      refine lv_icmp_ne (tgt := 270) hx hb dL_isStep_263 (by decide) (fun c19 => ?_) (fun c19 => ?_)
      · exact absurd (f.2.2.1 (fun z => absurd z (by omega))) c19
      refine lv_iconst (v := 1) hx hb dL_isStep_266 (by decide) ?_
      refine lv_goto (tgt := 271) hx hb dL_isStep_267 (by decide) ?_
      exact kE_zret hx hb hr (by decide) hlocks ⟨_, _, f.2.1, hw⟩ hP hD hS (Nat.le_of_ble_eq_true rfl) (Nat.le_of_ble_eq_true rfl) rfl dL_isStep_271
    · refine lv_sipush (v := 200) hx hb dL_isStep_103 (by decide) ?_
      refine lv_goto (tgt := 111) hx hb dL_isStep_106 (by decide) ?_
      refine kE_callS (As := [.int y, .int 200]) (rest := [.int 1]) ⟨hx, hb, hml, hown, hts⟩ (e_up l D g tl tm y (n := 200) (by omega) (by omega) _) hw (cw_isStep_L_up hts) ⟨Nat.le_of_ble_eq_true rfl, Nat.le_of_ble_eq_true rfl⟩ hZ hP hD hK hN rfl hl rfl (Nat.le_of_ble_eq_true rfl) dL_isStep_111 ⟨Nat.le_of_ble_eq_true rfl, Nat.le_of_ble_eq_true rfl⟩ hS hA (fun w H locs hw hP hD hS => ?_)
      refine lv_iadd hx hb dL_isStep_114 ?_
      refine lv_goto (tgt := 157) hx hb dL_isStep_115 (by decide) ?_
      refine lv_topi (fun y9 e9 => ?_)
      obtain rfl : y9 = nI (1 + upN y 200) := e9.trans (nI_add 1 _)
      have hv := upN_lt y (show 0 < 200 by omega)
      have f := st_set h hk0 (i := 2) (by omega) (v := nI (1 + upN y 200)) (by rw [nI_toInt (by omega)]; show (1 : Int) ≤ _; omega) (by rw [nI_toInt (by omega)]; show _ ≤ (200 : Int); omega)
      generalize (1 + upN y 200) = v9 at f ⊢
      refine lv_istore (lv' := [(6, .int (nI v9)), (5, .int (nI 2)), (0, .ref (a 0 0)), (1, .ref (b 0 0)), (2, .int x), (3, .int y), (4, .int (x >>> (4 &&& 31)))]) hx hb dL_isStep_157 hl (by decide) rfl (fun ls hl => ?_)
      refine lv_aload_n hx hb dL_isStep_159 rfl (lv_at hl 2 rfl) ?_
      refine lv_iload hx hb dL_isStep_160 (lv_at hl 1 rfl) ?_
      refine kE_callV (As := [.int (nI 2)]) (rest := []) ⟨hx, hb, hml, hown, hts⟩ (kE_L (k_count l D g tl tm a S (nI 2)) (WO g b S')) hw (cw_isStep_X4_count hts) ⟨Nat.le_of_ble_eq_true rfl, Nat.le_of_ble_eq_true rfl⟩ (WW_cellL (hasO_WO _ _ _) hK hP hw) hZ hP hD hK hN rfl hl rfl (Nat.le_of_ble_eq_true rfl) dL_isStep_162 ⟨Nat.le_of_ble_eq_true rfl, Nat.le_of_ble_eq_true rfl⟩ hS hA (fun w H locs hw hP hD hS => ?_)
      refine lv_istore (lv' := [(7, .int (rX4_count (oN S) (oH S) (oP S) (nI 2))), (6, .int (nI v9)), (5, .int (nI 2)), (0, .ref (a 0 0)), (1, .ref (b 0 0)), (2, .int x), (3, .int y), (4, .int (x >>> (4 &&& 31)))]) hx hb dL_isStep_165 hl (by decide) rfl (fun ls hl => ?_)
      refine lv_iload hx hb dL_isStep_167 (lv_at hl 2 rfl) ?_
      refine lv_iconst (v := 4) hx hb dL_isStep_169 (by decide) ?_
      refine lv_icmp_ne (tgt := 219) hx hb dL_isStep_170 (by decide) (fun c20 => ?_) (fun c20 => ?_)
      rotate_left
      · exact absurd c20 (by decide)
      refine lv_iconst (v := 1) hx hb dL_isStep_219 (by decide) ?_
      refine lv_goto (tgt := 224) hx hb dL_isStep_220 (by decide) ?_
      refine lv_istore (lv' := [(8, .int 1), (7, .int (rX4_count (oN S) (oH S) (oP S) (nI 2))), (6, .int (nI v9)), (5, .int (nI 2)), (0, .ref (a 0 0)), (1, .ref (b 0 0)), (2, .int x), (3, .int y), (4, .int (x >>> (4 &&& 31)))]) hx hb dL_isStep_224 hl (by decide) rfl (fun ls hl => ?_)
      refine lv_aload_n hx hb dL_isStep_226 rfl (lv_at hl 4 rfl) ?_
      refine lv_iload hx hb dL_isStep_227 (lv_at hl 3 rfl) ?_
      refine lv_iload hx hb dL_isStep_229 (lv_at hl 2 rfl) ?_
      refine kE_callV (As := [.int (nI 2), .int (nI v9)]) (rest := []) ⟨hx, hb, hml, hown, hts⟩ (kE_L (k_set l D g tl tm a S (nI 2) (nI v9)) (WO g b S')) hw (cw_isStep_X4_set hts) ⟨Nat.le_of_ble_eq_true rfl, Nat.le_of_ble_eq_true rfl⟩ (WW_cellL (hasO_WO _ _ _) hK hP hw) hZ hP hD hK hN rfl hl rfl (Nat.le_of_ble_eq_true rfl) dL_isStep_231 ⟨Nat.le_of_ble_eq_true rfl, Nat.le_of_ble_eq_true rfl⟩ hS hA (fun w H locs hw hP hD hS => ?_)
      refine lv_istore (lv' := [(9, .int (rX4_set (oN S) (oH S) (oF S) (nI 2) (nI v9))), (8, .int 1), (7, .int (rX4_count (oN S) (oH S) (oP S) (nI 2))), (6, .int (nI v9)), (5, .int (nI 2)), (0, .ref (a 0 0)), (1, .ref (b 0 0)), (2, .int x), (3, .int y), (4, .int (x >>> (4 &&& 31)))]) hx hb dL_isStep_234 hl (by decide) rfl (fun ls hl => ?_)
      refine lv_iload hx hb dL_isStep_236 (lv_at hl 0 rfl) ?_
      refine lv_aload_n hx hb dL_isStep_238 rfl (lv_at hl 6 rfl) ?_
      refine lv_iload hx hb dL_isStep_239 (lv_at hl 4 rfl) ?_
      refine lv_iload hx hb dL_isStep_241 (lv_at hl 3 rfl) ?_
      refine kE_callV (As := [.int (nI 2), .int (nI v9)]) (rest := [.int (rX4_set (oN S) (oH S) (oF S) (nI 2) (nI v9))]) ⟨hx, hb, hml, hown, hts⟩ (kE_R (k_set l D g tl tm b S' (nI 2) (nI v9)) (WO g a (oset S (nI 2) (nI v9)))) hw (cw_isStep_X4_set hts) ⟨Nat.le_of_ble_eq_true rfl, Nat.le_of_ble_eq_true rfl⟩ (WW_cellR (hasO_WO _ _ _) hK hP hw) hZ hP hD hK hN rfl hl rfl (Nat.le_of_ble_eq_true rfl) dL_isStep_243 ⟨Nat.le_of_ble_eq_true rfl, Nat.le_of_ble_eq_true rfl⟩ hS hA (fun w H locs hw hP hD hS => ?_)
      refine lv_icmp_ne (tgt := 270) hx hb dL_isStep_246 (by decide) (fun c21 => ?_) (fun c21 => ?_)
      · exact absurd f.1 c21
      refine lv_iload hx hb dL_isStep_249 (lv_at hl 0 rfl) ?_
      refine lv_iload hx hb dL_isStep_251 (lv_at hl 1 rfl) ?_
      refine lv_if_eq (tgt := 261) hx hb dL_isStep_253 (by decide) (fun c22 => ?_) (fun c22 => ?_)
      · exact absurd c22 (by decide)
      refine lv_iload hx hb dL_isStep_256 (lv_at hl 2 rfl) ?_
      refine lv_goto (tgt := 263) hx hb dL_isStep_258 (by decide) ?_
      refine lv_icmp_ne (tgt := 270) hx hb dL_isStep_263 (by decide) (fun c23 => ?_) (fun c23 => ?_)
      · exact absurd (f.2.2.1 (fun z => absurd z (by omega))) c23
      refine lv_iconst (v := 1) hx hb dL_isStep_266 (by decide) ?_
      refine lv_goto (tgt := 271) hx hb dL_isStep_267 (by decide) ?_
      exact kE_zret hx hb hr (by decide) hlocks ⟨_, _, f.2.1, hw⟩ hP hD hS (Nat.le_of_ble_eq_true rfl) (Nat.le_of_ble_eq_true rfl) rfl dL_isStep_271
  · rw [q]
    refine lv_istore (lv' := [(5, .int (nI 3)), (0, .ref (a 0 0)), (1, .ref (b 0 0)), (2, .int x), (3, .int y), (4, .int (x >>> (4 &&& 31)))]) hx hb dL_isStep_70 hl (by decide) rfl (fun ls hl => ?_)
    refine lv_iload hx hb dL_isStep_72 (lv_at hl 0 rfl) ?_
    refine lv_if_ne (tgt := 86) hx hb dL_isStep_74 (by decide) (fun c24 => ?_) (fun c24 => ?_)
    rotate_left
    · exact absurd c24 (by decide)
    refine lv_iload hx hb dL_isStep_86 (lv_at hl 0 rfl) ?_
    refine lv_iconst (v := 2) hx hb dL_isStep_88 (by decide) ?_
    refine lv_icmp_ne (tgt := 118) hx hb dL_isStep_89 (by decide) (fun c25 => ?_) (fun c25 => ?_)
    rotate_left
    · exact absurd c25 (by decide)
    refine lv_iload hx hb dL_isStep_118 (lv_at hl 0 rfl) ?_
    refine lv_iconst (v := 4) hx hb dL_isStep_120 (by decide) ?_
    refine lv_icmp_ne (tgt := 151) hx hb dL_isStep_121 (by decide) (fun c26 => ?_) (fun c26 => ?_)
    rotate_left
    · exact absurd c26 (by decide)
    refine lv_iload_n hx hb dL_isStep_151 rfl (lv_at hl 4 rfl) ?_
    refine lv_bipush (v := 61) hx hb dL_isStep_152 (by decide) ?_
    refine kE_callS (As := [.int y, .int 61]) (rest := []) ⟨hx, hb, hml, hown, hts⟩ (e_up l D g tl tm y (n := 61) (by omega) (by omega) _) hw (cw_isStep_L_up hts) ⟨Nat.le_of_ble_eq_true rfl, Nat.le_of_ble_eq_true rfl⟩ hZ hP hD hK hN rfl hl rfl (Nat.le_of_ble_eq_true rfl) dL_isStep_154 ⟨Nat.le_of_ble_eq_true rfl, Nat.le_of_ble_eq_true rfl⟩ hS hA (fun w H locs hw hP hD hS => ?_)
    have hv := upN_lt y (show 0 < 61 by omega)
    have f := st_set h hk0 (i := 3) (by omega) (v := nI (upN y 61)) (by rw [nI_toInt (by omega)]; show (0 : Int) ≤ _; omega) (by rw [nI_toInt (by omega)]; show _ ≤ (60 : Int); omega)
    generalize (upN y 61) = v9 at f ⊢
    refine lv_istore (lv' := [(6, .int (nI v9)), (5, .int (nI 3)), (0, .ref (a 0 0)), (1, .ref (b 0 0)), (2, .int x), (3, .int y), (4, .int (x >>> (4 &&& 31)))]) hx hb dL_isStep_157 hl (by decide) rfl (fun ls hl => ?_)
    refine lv_aload_n hx hb dL_isStep_159 rfl (lv_at hl 2 rfl) ?_
    refine lv_iload hx hb dL_isStep_160 (lv_at hl 1 rfl) ?_
    refine kE_callV (As := [.int (nI 3)]) (rest := []) ⟨hx, hb, hml, hown, hts⟩ (kE_L (k_count l D g tl tm a S (nI 3)) (WO g b S')) hw (cw_isStep_X4_count hts) ⟨Nat.le_of_ble_eq_true rfl, Nat.le_of_ble_eq_true rfl⟩ (WW_cellL (hasO_WO _ _ _) hK hP hw) hZ hP hD hK hN rfl hl rfl (Nat.le_of_ble_eq_true rfl) dL_isStep_162 ⟨Nat.le_of_ble_eq_true rfl, Nat.le_of_ble_eq_true rfl⟩ hS hA (fun w H locs hw hP hD hS => ?_)
    refine lv_istore (lv' := [(7, .int (rX4_count (oN S) (oH S) (oP S) (nI 3))), (6, .int (nI v9)), (5, .int (nI 3)), (0, .ref (a 0 0)), (1, .ref (b 0 0)), (2, .int x), (3, .int y), (4, .int (x >>> (4 &&& 31)))]) hx hb dL_isStep_165 hl (by decide) rfl (fun ls hl => ?_)
    refine lv_iload hx hb dL_isStep_167 (lv_at hl 2 rfl) ?_
    refine lv_iconst (v := 4) hx hb dL_isStep_169 (by decide) ?_
    refine lv_icmp_ne (tgt := 219) hx hb dL_isStep_170 (by decide) (fun c27 => ?_) (fun c27 => ?_)
    rotate_left
    · exact absurd c27 (by decide)
    refine lv_iconst (v := 1) hx hb dL_isStep_219 (by decide) ?_
    refine lv_goto (tgt := 224) hx hb dL_isStep_220 (by decide) ?_
    refine lv_istore (lv' := [(8, .int 1), (7, .int (rX4_count (oN S) (oH S) (oP S) (nI 3))), (6, .int (nI v9)), (5, .int (nI 3)), (0, .ref (a 0 0)), (1, .ref (b 0 0)), (2, .int x), (3, .int y), (4, .int (x >>> (4 &&& 31)))]) hx hb dL_isStep_224 hl (by decide) rfl (fun ls hl => ?_)
    refine lv_aload_n hx hb dL_isStep_226 rfl (lv_at hl 4 rfl) ?_
    refine lv_iload hx hb dL_isStep_227 (lv_at hl 3 rfl) ?_
    refine lv_iload hx hb dL_isStep_229 (lv_at hl 2 rfl) ?_
    refine kE_callV (As := [.int (nI 3), .int (nI v9)]) (rest := []) ⟨hx, hb, hml, hown, hts⟩ (kE_L (k_set l D g tl tm a S (nI 3) (nI v9)) (WO g b S')) hw (cw_isStep_X4_set hts) ⟨Nat.le_of_ble_eq_true rfl, Nat.le_of_ble_eq_true rfl⟩ (WW_cellL (hasO_WO _ _ _) hK hP hw) hZ hP hD hK hN rfl hl rfl (Nat.le_of_ble_eq_true rfl) dL_isStep_231 ⟨Nat.le_of_ble_eq_true rfl, Nat.le_of_ble_eq_true rfl⟩ hS hA (fun w H locs hw hP hD hS => ?_)
    refine lv_istore (lv' := [(9, .int (rX4_set (oN S) (oH S) (oF S) (nI 3) (nI v9))), (8, .int 1), (7, .int (rX4_count (oN S) (oH S) (oP S) (nI 3))), (6, .int (nI v9)), (5, .int (nI 3)), (0, .ref (a 0 0)), (1, .ref (b 0 0)), (2, .int x), (3, .int y), (4, .int (x >>> (4 &&& 31)))]) hx hb dL_isStep_234 hl (by decide) rfl (fun ls hl => ?_)
    refine lv_iload hx hb dL_isStep_236 (lv_at hl 0 rfl) ?_
    refine lv_aload_n hx hb dL_isStep_238 rfl (lv_at hl 6 rfl) ?_
    refine lv_iload hx hb dL_isStep_239 (lv_at hl 4 rfl) ?_
    refine lv_iload hx hb dL_isStep_241 (lv_at hl 3 rfl) ?_
    refine kE_callV (As := [.int (nI 3), .int (nI v9)]) (rest := [.int (rX4_set (oN S) (oH S) (oF S) (nI 3) (nI v9))]) ⟨hx, hb, hml, hown, hts⟩ (kE_R (k_set l D g tl tm b S' (nI 3) (nI v9)) (WO g a (oset S (nI 3) (nI v9)))) hw (cw_isStep_X4_set hts) ⟨Nat.le_of_ble_eq_true rfl, Nat.le_of_ble_eq_true rfl⟩ (WW_cellR (hasO_WO _ _ _) hK hP hw) hZ hP hD hK hN rfl hl rfl (Nat.le_of_ble_eq_true rfl) dL_isStep_243 ⟨Nat.le_of_ble_eq_true rfl, Nat.le_of_ble_eq_true rfl⟩ hS hA (fun w H locs hw hP hD hS => ?_)
    refine lv_icmp_ne (tgt := 270) hx hb dL_isStep_246 (by decide) (fun c28 => ?_) (fun c28 => ?_)
    · exact absurd f.1 c28
    refine lv_iload hx hb dL_isStep_249 (lv_at hl 0 rfl) ?_
    refine lv_iload hx hb dL_isStep_251 (lv_at hl 1 rfl) ?_
    refine lv_if_eq (tgt := 261) hx hb dL_isStep_253 (by decide) (fun c29 => ?_) (fun c29 => ?_)
    · exact absurd c29 (by decide)
    refine lv_iload hx hb dL_isStep_256 (lv_at hl 2 rfl) ?_
    refine lv_goto (tgt := 263) hx hb dL_isStep_258 (by decide) ?_
    refine lv_icmp_ne (tgt := 270) hx hb dL_isStep_263 (by decide) (fun c30 => ?_) (fun c30 => ?_)
    · exact absurd (f.2.2.1 (fun z => absurd z (by omega))) c30
    refine lv_iconst (v := 1) hx hb dL_isStep_266 (by decide) ?_
    refine lv_goto (tgt := 271) hx hb dL_isStep_267 (by decide) ?_
    exact kE_zret hx hb hr (by decide) hlocks ⟨_, _, f.2.1, hw⟩ hP hD hS (Nat.le_of_ble_eq_true rfl) (Nat.le_of_ble_eq_true rfl) rfl dL_isStep_271
  · rw [q]
    refine lv_istore (lv' := [(5, .int (nI 4)), (0, .ref (a 0 0)), (1, .ref (b 0 0)), (2, .int x), (3, .int y), (4, .int (x >>> (4 &&& 31)))]) hx hb dL_isStep_70 hl (by decide) rfl (fun ls hl => ?_)
    refine lv_iload hx hb dL_isStep_72 (lv_at hl 0 rfl) ?_
    refine lv_if_ne (tgt := 86) hx hb dL_isStep_74 (by decide) (fun c31 => ?_) (fun c31 => ?_)
    rotate_left
    · exact absurd c31 (by decide)
    refine lv_iload hx hb dL_isStep_86 (lv_at hl 0 rfl) ?_
    refine lv_iconst (v := 2) hx hb dL_isStep_88 (by decide) ?_
    refine lv_icmp_ne (tgt := 118) hx hb dL_isStep_89 (by decide) (fun c32 => ?_) (fun c32 => ?_)
    rotate_left
    · exact absurd c32 (by decide)
    refine lv_iload hx hb dL_isStep_118 (lv_at hl 0 rfl) ?_
    refine lv_iconst (v := 4) hx hb dL_isStep_120 (by decide) ?_
    refine lv_icmp_ne (tgt := 151) hx hb dL_isStep_121 (by decide) (fun c33 => ?_) (fun c33 => ?_)
    · exact absurd (by decide) c33
    refine lv_bipush (v := 100) hx hb dL_isStep_124 (by decide) ?_
    refine lv_iload_n hx hb dL_isStep_126 rfl (lv_at hl 4 rfl) ?_
    refine lv_iload hx hb dL_isStep_127 (lv_at hl 5 rfl) ?_
    refine lv_iconst (v := 2) hx hb dL_isStep_129 (by decide) ?_
    refine kE_callS (As := [.int (x >>> (4 &&& 31)), .int 2]) (rest := [.int y, .int 100]) ⟨hx, hb, hml, hown, hts⟩ (e_up l D g tl tm (x >>> (4 &&& 31)) (n := 2) (by omega) (by omega) _) hw (cw_isStep_L_up hts) ⟨Nat.le_of_ble_eq_true rfl, Nat.le_of_ble_eq_true rfl⟩ hZ hP hD hK hN rfl hl rfl (Nat.le_of_ble_eq_true rfl) dL_isStep_130 ⟨Nat.le_of_ble_eq_true rfl, Nat.le_of_ble_eq_true rfl⟩ hS hA (fun w H locs hw hP hD hS => ?_)
    refine lv_if_ne (tgt := 142) hx hb dL_isStep_133 (by decide) (fun c34 => ?_) (fun c34 => ?_)
    · refine lv_bipush (v := 60) hx hb dL_isStep_142 (by decide) ?_
      refine kE_callS (As := [.int y, .int 60]) (rest := [.int 100]) ⟨hx, hb, hml, hown, hts⟩ (e_up l D g tl tm y (n := 60) (by omega) (by omega) _) hw (cw_isStep_L_up hts) ⟨Nat.le_of_ble_eq_true rfl, Nat.le_of_ble_eq_true rfl⟩ hZ hP hD hK hN rfl hl rfl (Nat.le_of_ble_eq_true rfl) dL_isStep_144 ⟨Nat.le_of_ble_eq_true rfl, Nat.le_of_ble_eq_true rfl⟩ hS hA (fun w H locs hw hP hD hS => ?_)
      refine lv_iadd hx hb dL_isStep_147 ?_
      refine lv_goto (tgt := 157) hx hb dL_isStep_148 (by decide) ?_
      refine lv_topi (fun y9 e9 => ?_)
      obtain rfl : y9 = nI (100 + upN y 60) := e9.trans (nI_add 100 _)
      have hv := upN_lt y (show 0 < 60 by omega)
      have f := st_set h hk0 (i := 4) (by omega) (v := nI (100 + upN y 60)) (by rw [nI_toInt (by omega)]; show (100 : Int) ≤ _; omega) (by rw [nI_toInt (by omega)]; show _ ≤ (2000 : Int); omega)
      generalize (100 + upN y 60) = v9 at f ⊢
      refine lv_istore (lv' := [(6, .int (nI v9)), (5, .int (nI 4)), (0, .ref (a 0 0)), (1, .ref (b 0 0)), (2, .int x), (3, .int y), (4, .int (x >>> (4 &&& 31)))]) hx hb dL_isStep_157 hl (by decide) rfl (fun ls hl => ?_)
      refine lv_aload_n hx hb dL_isStep_159 rfl (lv_at hl 2 rfl) ?_
      refine lv_iload hx hb dL_isStep_160 (lv_at hl 1 rfl) ?_
      refine kE_callV (As := [.int (nI 4)]) (rest := []) ⟨hx, hb, hml, hown, hts⟩ (kE_L (k_count l D g tl tm a S (nI 4)) (WO g b S')) hw (cw_isStep_X4_count hts) ⟨Nat.le_of_ble_eq_true rfl, Nat.le_of_ble_eq_true rfl⟩ (WW_cellL (hasO_WO _ _ _) hK hP hw) hZ hP hD hK hN rfl hl rfl (Nat.le_of_ble_eq_true rfl) dL_isStep_162 ⟨Nat.le_of_ble_eq_true rfl, Nat.le_of_ble_eq_true rfl⟩ hS hA (fun w H locs hw hP hD hS => ?_)
      refine lv_istore (lv' := [(7, .int (rX4_count (oN S) (oH S) (oP S) (nI 4))), (6, .int (nI v9)), (5, .int (nI 4)), (0, .ref (a 0 0)), (1, .ref (b 0 0)), (2, .int x), (3, .int y), (4, .int (x >>> (4 &&& 31)))]) hx hb dL_isStep_165 hl (by decide) rfl (fun ls hl => ?_)
      refine lv_iload hx hb dL_isStep_167 (lv_at hl 2 rfl) ?_
      refine lv_iconst (v := 4) hx hb dL_isStep_169 (by decide) ?_
      refine lv_icmp_ne (tgt := 219) hx hb dL_isStep_170 (by decide) (fun c35 => ?_) (fun c35 => ?_)
      · exact absurd (by decide) c35
      by_cases hc : canH (oN S) (nI v9)
      · refine lv_aload_n hx hb dL_isStep_173 rfl (lv_at hl 3 rfl) ?_
        refine lv_iconst (v := 0) hx hb dL_isStep_174 (by decide) ?_
        refine lv_iconst (v := 0) hx hb dL_isStep_175 (by decide) ?_
        refine kE_callV (As := [.int 0, .int 0]) (rest := []) ⟨hx, hb, hml, hown, hts⟩ (kE_L (k_jar l D g tl tm a S 0 0) (WO g b S')) hw (cw_isStep_X4_jar hts) ⟨Nat.le_of_ble_eq_true rfl, Nat.le_of_ble_eq_true rfl⟩ (WW_cellL (hasO_WO _ _ _) hK hP hw) hZ hP hD hK hN rfl hl rfl (Nat.le_of_ble_eq_true rfl) dL_isStep_176 ⟨Nat.le_of_ble_eq_true rfl, Nat.le_of_ble_eq_true rfl⟩ hS hA (fun w H locs hw hP hD hS => ?_)
        refine lv_iload hx hb dL_isStep_179 (lv_at hl 1 rfl) ?_
        refine lv_icmp_gt (tgt := 223) hx hb dL_isStep_181 (by decide) (fun c36 => ?_) (fun c36 => ?_)
        · exact absurd c36 (Int32.not_lt.mpr hc.1)
        refine lv_aload_n hx hb dL_isStep_184 rfl (lv_at hl 3 rfl) ?_
        refine lv_iconst (v := 0) hx hb dL_isStep_185 (by decide) ?_
        refine lv_iconst (v := 0) hx hb dL_isStep_186 (by decide) ?_
        refine kE_callV (As := [.int 0, .int 0]) (rest := []) ⟨hx, hb, hml, hown, hts⟩ (kE_L (k_jar l D g tl tm a S 0 0) (WO g b S')) hw (cw_isStep_X4_jar hts) ⟨Nat.le_of_ble_eq_true rfl, Nat.le_of_ble_eq_true rfl⟩ (WW_cellL (hasO_WO _ _ _) hK hP hw) hZ hP hD hK hN rfl hl rfl (Nat.le_of_ble_eq_true rfl) dL_isStep_187 ⟨Nat.le_of_ble_eq_true rfl, Nat.le_of_ble_eq_true rfl⟩ hS hA (fun w H locs hw hP hD hS => ?_)
        refine lv_iload hx hb dL_isStep_190 (lv_at hl 1 rfl) ?_
        refine lv_ineg hx hb dL_isStep_192 ?_
        refine lv_icmp_lt (tgt := 223) hx hb dL_isStep_193 (by decide) (fun c37 => ?_) (fun c37 => ?_)
        · exact absurd c37 (Int32.not_lt.mpr hc.2.1)
        refine lv_aload_n hx hb dL_isStep_196 rfl (lv_at hl 3 rfl) ?_
        refine lv_iconst (v := 1) hx hb dL_isStep_197 (by decide) ?_
        refine lv_iconst (v := 0) hx hb dL_isStep_198 (by decide) ?_
        refine kE_callV (As := [.int 1, .int 0]) (rest := []) ⟨hx, hb, hml, hown, hts⟩ (kE_L (k_jar l D g tl tm a S 1 0) (WO g b S')) hw (cw_isStep_X4_jar hts) ⟨Nat.le_of_ble_eq_true rfl, Nat.le_of_ble_eq_true rfl⟩ (WW_cellL (hasO_WO _ _ _) hK hP hw) hZ hP hD hK hN rfl hl rfl (Nat.le_of_ble_eq_true rfl) dL_isStep_199 ⟨Nat.le_of_ble_eq_true rfl, Nat.le_of_ble_eq_true rfl⟩ hS hA (fun w H locs hw hP hD hS => ?_)
        refine lv_iload hx hb dL_isStep_202 (lv_at hl 1 rfl) ?_
        refine lv_icmp_gt (tgt := 223) hx hb dL_isStep_204 (by decide) (fun c38 => ?_) (fun c38 => ?_)
        · exact absurd c38 (Int32.not_lt.mpr hc.2.2.1)
        refine lv_aload_n hx hb dL_isStep_207 rfl (lv_at hl 3 rfl) ?_
        refine lv_iconst (v := 1) hx hb dL_isStep_208 (by decide) ?_
        refine lv_iconst (v := 0) hx hb dL_isStep_209 (by decide) ?_
        refine kE_callV (As := [.int 1, .int 0]) (rest := []) ⟨hx, hb, hml, hown, hts⟩ (kE_L (k_jar l D g tl tm a S 1 0) (WO g b S')) hw (cw_isStep_X4_jar hts) ⟨Nat.le_of_ble_eq_true rfl, Nat.le_of_ble_eq_true rfl⟩ (WW_cellL (hasO_WO _ _ _) hK hP hw) hZ hP hD hK hN rfl hl rfl (Nat.le_of_ble_eq_true rfl) dL_isStep_210 ⟨Nat.le_of_ble_eq_true rfl, Nat.le_of_ble_eq_true rfl⟩ hS hA (fun w H locs hw hP hD hS => ?_)
        refine lv_iload hx hb dL_isStep_213 (lv_at hl 1 rfl) ?_
        refine lv_ineg hx hb dL_isStep_215 ?_
        refine lv_icmp_lt (tgt := 223) hx hb dL_isStep_216 (by decide) (fun c39 => ?_) (fun c39 => ?_)
        · exact absurd c39 (Int32.not_lt.mpr hc.2.2.2)
        refine lv_iconst (v := 1) hx hb dL_isStep_219 (by decide) ?_
        refine lv_goto (tgt := 224) hx hb dL_isStep_220 (by decide) ?_
        refine lv_istore (lv' := [(8, .int 1), (7, .int (rX4_count (oN S) (oH S) (oP S) (nI 4))), (6, .int (nI v9)), (5, .int (nI 4)), (0, .ref (a 0 0)), (1, .ref (b 0 0)), (2, .int x), (3, .int y), (4, .int (x >>> (4 &&& 31)))]) hx hb dL_isStep_224 hl (by decide) rfl (fun ls hl => ?_)
        refine lv_aload_n hx hb dL_isStep_226 rfl (lv_at hl 4 rfl) ?_
        refine lv_iload hx hb dL_isStep_227 (lv_at hl 3 rfl) ?_
        refine lv_iload hx hb dL_isStep_229 (lv_at hl 2 rfl) ?_
        refine kE_callV (As := [.int (nI 4), .int (nI v9)]) (rest := []) ⟨hx, hb, hml, hown, hts⟩ (kE_L (k_set l D g tl tm a S (nI 4) (nI v9)) (WO g b S')) hw (cw_isStep_X4_set hts) ⟨Nat.le_of_ble_eq_true rfl, Nat.le_of_ble_eq_true rfl⟩ (WW_cellL (hasO_WO _ _ _) hK hP hw) hZ hP hD hK hN rfl hl rfl (Nat.le_of_ble_eq_true rfl) dL_isStep_231 ⟨Nat.le_of_ble_eq_true rfl, Nat.le_of_ble_eq_true rfl⟩ hS hA (fun w H locs hw hP hD hS => ?_)
        refine lv_istore (lv' := [(9, .int (rX4_set (oN S) (oH S) (oF S) (nI 4) (nI v9))), (8, .int 1), (7, .int (rX4_count (oN S) (oH S) (oP S) (nI 4))), (6, .int (nI v9)), (5, .int (nI 4)), (0, .ref (a 0 0)), (1, .ref (b 0 0)), (2, .int x), (3, .int y), (4, .int (x >>> (4 &&& 31)))]) hx hb dL_isStep_234 hl (by decide) rfl (fun ls hl => ?_)
        refine lv_iload hx hb dL_isStep_236 (lv_at hl 0 rfl) ?_
        refine lv_aload_n hx hb dL_isStep_238 rfl (lv_at hl 6 rfl) ?_
        refine lv_iload hx hb dL_isStep_239 (lv_at hl 4 rfl) ?_
        refine lv_iload hx hb dL_isStep_241 (lv_at hl 3 rfl) ?_
        refine kE_callV (As := [.int (nI 4), .int (nI v9)]) (rest := [.int (rX4_set (oN S) (oH S) (oF S) (nI 4) (nI v9))]) ⟨hx, hb, hml, hown, hts⟩ (kE_R (k_set l D g tl tm b S' (nI 4) (nI v9)) (WO g a (oset S (nI 4) (nI v9)))) hw (cw_isStep_X4_set hts) ⟨Nat.le_of_ble_eq_true rfl, Nat.le_of_ble_eq_true rfl⟩ (WW_cellR (hasO_WO _ _ _) hK hP hw) hZ hP hD hK hN rfl hl rfl (Nat.le_of_ble_eq_true rfl) dL_isStep_243 ⟨Nat.le_of_ble_eq_true rfl, Nat.le_of_ble_eq_true rfl⟩ hS hA (fun w H locs hw hP hD hS => ?_)
        refine lv_icmp_ne (tgt := 270) hx hb dL_isStep_246 (by decide) (fun c40 => ?_) (fun c40 => ?_)
        · exact absurd f.1 c40
        refine lv_iload hx hb dL_isStep_249 (lv_at hl 0 rfl) ?_
        refine lv_iload hx hb dL_isStep_251 (lv_at hl 1 rfl) ?_
        refine lv_if_eq (tgt := 261) hx hb dL_isStep_253 (by decide) (fun c41 => ?_) (fun c41 => ?_)
        · exact absurd c41 (by decide)
        refine lv_iload hx hb dL_isStep_256 (lv_at hl 2 rfl) ?_
        refine lv_goto (tgt := 263) hx hb dL_isStep_258 (by decide) ?_
        refine lv_icmp_ne (tgt := 270) hx hb dL_isStep_263 (by decide) (fun c42 => ?_) (fun c42 => ?_)
        · exact absurd (f.2.2.1 (fun _ => hc)) c42
        refine lv_iconst (v := 1) hx hb dL_isStep_266 (by decide) ?_
        refine lv_goto (tgt := 271) hx hb dL_isStep_267 (by decide) ?_
        exact kE_zret hx hb hr (by decide) hlocks ⟨_, _, f.2.1, hw⟩ hP hD hS (Nat.le_of_ble_eq_true rfl) (Nat.le_of_ble_eq_true rfl) rfl dL_isStep_271
      · have K223_42 : ∀ (w : va_W) (H : Heap) (locs : List Loc) (ls : Array Slot), (bothW (WO g a S) (WO g b S')) w → va_P D vwCl w H → va_D A w → va_S A s.heap H locs → lv_has ls 10 [(7, .int (rX4_count (oN S) (oH S) (oP S) (nI 4))), (6, .int (nI v9)), (5, .int (nI 4)), (0, .ref (a 0 0)), (1, .ref (b 0 0)), (2, .int x), (3, .int y), (4, .int (x >>> (4 &&& 31)))] → W p l e ({ frames := 9, cells := 16, slots := 168, locals := 205 }) s m args below meth c H locs 0 0 (MQ below (jk_QC (some (.int 1)) D (fun o : {w // (fun w => ∃ S2 S2', rel (k0 + 1) S2 S2' ∧ bothW (WO g a S2) (WO g b S2') w) w} => o.1) A) args s 16 168 A) (F0 m 223 ls []) := by
          intro w H locs ls hw hP hD hS hl
          refine lv_iconst (v := 0) hx hb dL_isStep_223 (by decide) ?_
          refine lv_istore (lv' := [(8, .int 0), (7, .int (rX4_count (oN S) (oH S) (oP S) (nI 4))), (6, .int (nI v9)), (5, .int (nI 4)), (0, .ref (a 0 0)), (1, .ref (b 0 0)), (2, .int x), (3, .int y), (4, .int (x >>> (4 &&& 31)))]) hx hb dL_isStep_224 hl (by decide) rfl (fun ls hl => ?_)
          refine lv_aload_n hx hb dL_isStep_226 rfl (lv_at hl 4 rfl) ?_
          refine lv_iload hx hb dL_isStep_227 (lv_at hl 3 rfl) ?_
          refine lv_iload hx hb dL_isStep_229 (lv_at hl 2 rfl) ?_
          refine kE_callV (As := [.int (nI 4), .int (nI v9)]) (rest := []) ⟨hx, hb, hml, hown, hts⟩ (kE_L (k_set l D g tl tm a S (nI 4) (nI v9)) (WO g b S')) hw (cw_isStep_X4_set hts) ⟨Nat.le_of_ble_eq_true rfl, Nat.le_of_ble_eq_true rfl⟩ (WW_cellL (hasO_WO _ _ _) hK hP hw) hZ hP hD hK hN rfl hl rfl (Nat.le_of_ble_eq_true rfl) dL_isStep_231 ⟨Nat.le_of_ble_eq_true rfl, Nat.le_of_ble_eq_true rfl⟩ hS hA (fun w H locs hw hP hD hS => ?_)
          refine lv_istore (lv' := [(9, .int (rX4_set (oN S) (oH S) (oF S) (nI 4) (nI v9))), (8, .int 0), (7, .int (rX4_count (oN S) (oH S) (oP S) (nI 4))), (6, .int (nI v9)), (5, .int (nI 4)), (0, .ref (a 0 0)), (1, .ref (b 0 0)), (2, .int x), (3, .int y), (4, .int (x >>> (4 &&& 31)))]) hx hb dL_isStep_234 hl (by decide) rfl (fun ls hl => ?_)
          refine lv_iload hx hb dL_isStep_236 (lv_at hl 0 rfl) ?_
          refine lv_aload_n hx hb dL_isStep_238 rfl (lv_at hl 6 rfl) ?_
          refine lv_iload hx hb dL_isStep_239 (lv_at hl 4 rfl) ?_
          refine lv_iload hx hb dL_isStep_241 (lv_at hl 3 rfl) ?_
          refine kE_callV (As := [.int (nI 4), .int (nI v9)]) (rest := [.int (rX4_set (oN S) (oH S) (oF S) (nI 4) (nI v9))]) ⟨hx, hb, hml, hown, hts⟩ (kE_R (k_set l D g tl tm b S' (nI 4) (nI v9)) (WO g a (oset S (nI 4) (nI v9)))) hw (cw_isStep_X4_set hts) ⟨Nat.le_of_ble_eq_true rfl, Nat.le_of_ble_eq_true rfl⟩ (WW_cellR (hasO_WO _ _ _) hK hP hw) hZ hP hD hK hN rfl hl rfl (Nat.le_of_ble_eq_true rfl) dL_isStep_243 ⟨Nat.le_of_ble_eq_true rfl, Nat.le_of_ble_eq_true rfl⟩ hS hA (fun w H locs hw hP hD hS => ?_)
          refine lv_icmp_ne (tgt := 270) hx hb dL_isStep_246 (by decide) (fun c44 => ?_) (fun c44 => ?_)
          · exact absurd f.1 c44
          refine lv_iload hx hb dL_isStep_249 (lv_at hl 0 rfl) ?_
          refine lv_iload hx hb dL_isStep_251 (lv_at hl 1 rfl) ?_
          refine lv_if_eq (tgt := 261) hx hb dL_isStep_253 (by decide) (fun c45 => ?_) (fun c45 => ?_)
          rotate_left
          · exact absurd (by decide) c45
          refine lv_ldc hx hb hown (hts (.constant RL 53 (-1000005)) (by decide +kernel)) dL_isStep_261 ?_
          refine lv_icmp_ne (tgt := 270) hx hb dL_isStep_263 (by decide) (fun c46 => ?_) (fun c46 => ?_)
          · exact absurd (f.2.2.2 rfl hc) c46
          refine lv_iconst (v := 1) hx hb dL_isStep_266 (by decide) ?_
          refine lv_goto (tgt := 271) hx hb dL_isStep_267 (by decide) ?_
          exact kE_zret hx hb hr (by decide) hlocks ⟨_, _, f.2.1, hw⟩ hP hD hS (Nat.le_of_ble_eq_true rfl) (Nat.le_of_ble_eq_true rfl) rfl dL_isStep_271
        refine lv_aload_n hx hb dL_isStep_173 rfl (lv_at hl 3 rfl) ?_
        refine lv_iconst (v := 0) hx hb dL_isStep_174 (by decide) ?_
        refine lv_iconst (v := 0) hx hb dL_isStep_175 (by decide) ?_
        refine kE_callV (As := [.int 0, .int 0]) (rest := []) ⟨hx, hb, hml, hown, hts⟩ (kE_L (k_jar l D g tl tm a S 0 0) (WO g b S')) hw (cw_isStep_X4_jar hts) ⟨Nat.le_of_ble_eq_true rfl, Nat.le_of_ble_eq_true rfl⟩ (WW_cellL (hasO_WO _ _ _) hK hP hw) hZ hP hD hK hN rfl hl rfl (Nat.le_of_ble_eq_true rfl) dL_isStep_176 ⟨Nat.le_of_ble_eq_true rfl, Nat.le_of_ble_eq_true rfl⟩ hS hA (fun w H locs hw hP hD hS => ?_)
        refine lv_iload hx hb dL_isStep_179 (lv_at hl 1 rfl) ?_
        refine lv_icmp_gt (tgt := 223) hx hb dL_isStep_181 (by decide) (fun c47 => ?_) (fun c47 => ?_)
        · exact K223_42 w H locs ls hw hP hD hS (lv_sub hl [0, 1, 2, 3, 4, 5, 6, 7] rfl)
        · refine lv_aload_n hx hb dL_isStep_184 rfl (lv_at hl 3 rfl) ?_
          refine lv_iconst (v := 0) hx hb dL_isStep_185 (by decide) ?_
          refine lv_iconst (v := 0) hx hb dL_isStep_186 (by decide) ?_
          refine kE_callV (As := [.int 0, .int 0]) (rest := []) ⟨hx, hb, hml, hown, hts⟩ (kE_L (k_jar l D g tl tm a S 0 0) (WO g b S')) hw (cw_isStep_X4_jar hts) ⟨Nat.le_of_ble_eq_true rfl, Nat.le_of_ble_eq_true rfl⟩ (WW_cellL (hasO_WO _ _ _) hK hP hw) hZ hP hD hK hN rfl hl rfl (Nat.le_of_ble_eq_true rfl) dL_isStep_187 ⟨Nat.le_of_ble_eq_true rfl, Nat.le_of_ble_eq_true rfl⟩ hS hA (fun w H locs hw hP hD hS => ?_)
          refine lv_iload hx hb dL_isStep_190 (lv_at hl 1 rfl) ?_
          refine lv_ineg hx hb dL_isStep_192 ?_
          refine lv_icmp_lt (tgt := 223) hx hb dL_isStep_193 (by decide) (fun c48 => ?_) (fun c48 => ?_)
          · exact K223_42 w H locs ls hw hP hD hS (lv_sub hl [0, 1, 2, 3, 4, 5, 6, 7] rfl)
          · refine lv_aload_n hx hb dL_isStep_196 rfl (lv_at hl 3 rfl) ?_
            refine lv_iconst (v := 1) hx hb dL_isStep_197 (by decide) ?_
            refine lv_iconst (v := 0) hx hb dL_isStep_198 (by decide) ?_
            refine kE_callV (As := [.int 1, .int 0]) (rest := []) ⟨hx, hb, hml, hown, hts⟩ (kE_L (k_jar l D g tl tm a S 1 0) (WO g b S')) hw (cw_isStep_X4_jar hts) ⟨Nat.le_of_ble_eq_true rfl, Nat.le_of_ble_eq_true rfl⟩ (WW_cellL (hasO_WO _ _ _) hK hP hw) hZ hP hD hK hN rfl hl rfl (Nat.le_of_ble_eq_true rfl) dL_isStep_199 ⟨Nat.le_of_ble_eq_true rfl, Nat.le_of_ble_eq_true rfl⟩ hS hA (fun w H locs hw hP hD hS => ?_)
            refine lv_iload hx hb dL_isStep_202 (lv_at hl 1 rfl) ?_
            refine lv_icmp_gt (tgt := 223) hx hb dL_isStep_204 (by decide) (fun c49 => ?_) (fun c49 => ?_)
            · exact K223_42 w H locs ls hw hP hD hS (lv_sub hl [0, 1, 2, 3, 4, 5, 6, 7] rfl)
            · refine lv_aload_n hx hb dL_isStep_207 rfl (lv_at hl 3 rfl) ?_
              refine lv_iconst (v := 1) hx hb dL_isStep_208 (by decide) ?_
              refine lv_iconst (v := 0) hx hb dL_isStep_209 (by decide) ?_
              refine kE_callV (As := [.int 1, .int 0]) (rest := []) ⟨hx, hb, hml, hown, hts⟩ (kE_L (k_jar l D g tl tm a S 1 0) (WO g b S')) hw (cw_isStep_X4_jar hts) ⟨Nat.le_of_ble_eq_true rfl, Nat.le_of_ble_eq_true rfl⟩ (WW_cellL (hasO_WO _ _ _) hK hP hw) hZ hP hD hK hN rfl hl rfl (Nat.le_of_ble_eq_true rfl) dL_isStep_210 ⟨Nat.le_of_ble_eq_true rfl, Nat.le_of_ble_eq_true rfl⟩ hS hA (fun w H locs hw hP hD hS => ?_)
              refine lv_iload hx hb dL_isStep_213 (lv_at hl 1 rfl) ?_
              refine lv_ineg hx hb dL_isStep_215 ?_
              refine lv_icmp_lt (tgt := 223) hx hb dL_isStep_216 (by decide) (fun c50 => ?_) (fun c50 => ?_)
              rotate_left
              · exact absurd (Int32.not_le.mp (fun z => hc ⟨Int32.not_lt.mp c47, Int32.not_lt.mp c48, Int32.not_lt.mp c49, z⟩)) c50
              exact K223_42 w H locs ls hw hP hD hS (lv_sub hl [0, 1, 2, 3, 4, 5, 6, 7] rfl)
    · refine lv_sipush (v := 1901) hx hb dL_isStep_136 (by decide) ?_
      refine lv_goto (tgt := 144) hx hb dL_isStep_139 (by decide) ?_
      refine kE_callS (As := [.int y, .int 1901]) (rest := [.int 100]) ⟨hx, hb, hml, hown, hts⟩ (e_up l D g tl tm y (n := 1901) (by omega) (by omega) _) hw (cw_isStep_L_up hts) ⟨Nat.le_of_ble_eq_true rfl, Nat.le_of_ble_eq_true rfl⟩ hZ hP hD hK hN rfl hl rfl (Nat.le_of_ble_eq_true rfl) dL_isStep_144 ⟨Nat.le_of_ble_eq_true rfl, Nat.le_of_ble_eq_true rfl⟩ hS hA (fun w H locs hw hP hD hS => ?_)
      refine lv_iadd hx hb dL_isStep_147 ?_
      refine lv_goto (tgt := 157) hx hb dL_isStep_148 (by decide) ?_
      refine lv_topi (fun y9 e9 => ?_)
      obtain rfl : y9 = nI (100 + upN y 1901) := e9.trans (nI_add 100 _)
      have hv := upN_lt y (show 0 < 1901 by omega)
      have f := st_set h hk0 (i := 4) (by omega) (v := nI (100 + upN y 1901)) (by rw [nI_toInt (by omega)]; show (100 : Int) ≤ _; omega) (by rw [nI_toInt (by omega)]; show _ ≤ (2000 : Int); omega)
      generalize (100 + upN y 1901) = v9 at f ⊢
      refine lv_istore (lv' := [(6, .int (nI v9)), (5, .int (nI 4)), (0, .ref (a 0 0)), (1, .ref (b 0 0)), (2, .int x), (3, .int y), (4, .int (x >>> (4 &&& 31)))]) hx hb dL_isStep_157 hl (by decide) rfl (fun ls hl => ?_)
      refine lv_aload_n hx hb dL_isStep_159 rfl (lv_at hl 2 rfl) ?_
      refine lv_iload hx hb dL_isStep_160 (lv_at hl 1 rfl) ?_
      refine kE_callV (As := [.int (nI 4)]) (rest := []) ⟨hx, hb, hml, hown, hts⟩ (kE_L (k_count l D g tl tm a S (nI 4)) (WO g b S')) hw (cw_isStep_X4_count hts) ⟨Nat.le_of_ble_eq_true rfl, Nat.le_of_ble_eq_true rfl⟩ (WW_cellL (hasO_WO _ _ _) hK hP hw) hZ hP hD hK hN rfl hl rfl (Nat.le_of_ble_eq_true rfl) dL_isStep_162 ⟨Nat.le_of_ble_eq_true rfl, Nat.le_of_ble_eq_true rfl⟩ hS hA (fun w H locs hw hP hD hS => ?_)
      refine lv_istore (lv' := [(7, .int (rX4_count (oN S) (oH S) (oP S) (nI 4))), (6, .int (nI v9)), (5, .int (nI 4)), (0, .ref (a 0 0)), (1, .ref (b 0 0)), (2, .int x), (3, .int y), (4, .int (x >>> (4 &&& 31)))]) hx hb dL_isStep_165 hl (by decide) rfl (fun ls hl => ?_)
      refine lv_iload hx hb dL_isStep_167 (lv_at hl 2 rfl) ?_
      refine lv_iconst (v := 4) hx hb dL_isStep_169 (by decide) ?_
      refine lv_icmp_ne (tgt := 219) hx hb dL_isStep_170 (by decide) (fun c51 => ?_) (fun c51 => ?_)
      · exact absurd (by decide) c51
      by_cases hc : canH (oN S) (nI v9)
      · refine lv_aload_n hx hb dL_isStep_173 rfl (lv_at hl 3 rfl) ?_
        refine lv_iconst (v := 0) hx hb dL_isStep_174 (by decide) ?_
        refine lv_iconst (v := 0) hx hb dL_isStep_175 (by decide) ?_
        refine kE_callV (As := [.int 0, .int 0]) (rest := []) ⟨hx, hb, hml, hown, hts⟩ (kE_L (k_jar l D g tl tm a S 0 0) (WO g b S')) hw (cw_isStep_X4_jar hts) ⟨Nat.le_of_ble_eq_true rfl, Nat.le_of_ble_eq_true rfl⟩ (WW_cellL (hasO_WO _ _ _) hK hP hw) hZ hP hD hK hN rfl hl rfl (Nat.le_of_ble_eq_true rfl) dL_isStep_176 ⟨Nat.le_of_ble_eq_true rfl, Nat.le_of_ble_eq_true rfl⟩ hS hA (fun w H locs hw hP hD hS => ?_)
        refine lv_iload hx hb dL_isStep_179 (lv_at hl 1 rfl) ?_
        refine lv_icmp_gt (tgt := 223) hx hb dL_isStep_181 (by decide) (fun c52 => ?_) (fun c52 => ?_)
        · exact absurd c52 (Int32.not_lt.mpr hc.1)
        refine lv_aload_n hx hb dL_isStep_184 rfl (lv_at hl 3 rfl) ?_
        refine lv_iconst (v := 0) hx hb dL_isStep_185 (by decide) ?_
        refine lv_iconst (v := 0) hx hb dL_isStep_186 (by decide) ?_
        refine kE_callV (As := [.int 0, .int 0]) (rest := []) ⟨hx, hb, hml, hown, hts⟩ (kE_L (k_jar l D g tl tm a S 0 0) (WO g b S')) hw (cw_isStep_X4_jar hts) ⟨Nat.le_of_ble_eq_true rfl, Nat.le_of_ble_eq_true rfl⟩ (WW_cellL (hasO_WO _ _ _) hK hP hw) hZ hP hD hK hN rfl hl rfl (Nat.le_of_ble_eq_true rfl) dL_isStep_187 ⟨Nat.le_of_ble_eq_true rfl, Nat.le_of_ble_eq_true rfl⟩ hS hA (fun w H locs hw hP hD hS => ?_)
        refine lv_iload hx hb dL_isStep_190 (lv_at hl 1 rfl) ?_
        refine lv_ineg hx hb dL_isStep_192 ?_
        refine lv_icmp_lt (tgt := 223) hx hb dL_isStep_193 (by decide) (fun c53 => ?_) (fun c53 => ?_)
        · exact absurd c53 (Int32.not_lt.mpr hc.2.1)
        refine lv_aload_n hx hb dL_isStep_196 rfl (lv_at hl 3 rfl) ?_
        refine lv_iconst (v := 1) hx hb dL_isStep_197 (by decide) ?_
        refine lv_iconst (v := 0) hx hb dL_isStep_198 (by decide) ?_
        refine kE_callV (As := [.int 1, .int 0]) (rest := []) ⟨hx, hb, hml, hown, hts⟩ (kE_L (k_jar l D g tl tm a S 1 0) (WO g b S')) hw (cw_isStep_X4_jar hts) ⟨Nat.le_of_ble_eq_true rfl, Nat.le_of_ble_eq_true rfl⟩ (WW_cellL (hasO_WO _ _ _) hK hP hw) hZ hP hD hK hN rfl hl rfl (Nat.le_of_ble_eq_true rfl) dL_isStep_199 ⟨Nat.le_of_ble_eq_true rfl, Nat.le_of_ble_eq_true rfl⟩ hS hA (fun w H locs hw hP hD hS => ?_)
        refine lv_iload hx hb dL_isStep_202 (lv_at hl 1 rfl) ?_
        refine lv_icmp_gt (tgt := 223) hx hb dL_isStep_204 (by decide) (fun c54 => ?_) (fun c54 => ?_)
        · exact absurd c54 (Int32.not_lt.mpr hc.2.2.1)
        refine lv_aload_n hx hb dL_isStep_207 rfl (lv_at hl 3 rfl) ?_
        refine lv_iconst (v := 1) hx hb dL_isStep_208 (by decide) ?_
        refine lv_iconst (v := 0) hx hb dL_isStep_209 (by decide) ?_
        refine kE_callV (As := [.int 1, .int 0]) (rest := []) ⟨hx, hb, hml, hown, hts⟩ (kE_L (k_jar l D g tl tm a S 1 0) (WO g b S')) hw (cw_isStep_X4_jar hts) ⟨Nat.le_of_ble_eq_true rfl, Nat.le_of_ble_eq_true rfl⟩ (WW_cellL (hasO_WO _ _ _) hK hP hw) hZ hP hD hK hN rfl hl rfl (Nat.le_of_ble_eq_true rfl) dL_isStep_210 ⟨Nat.le_of_ble_eq_true rfl, Nat.le_of_ble_eq_true rfl⟩ hS hA (fun w H locs hw hP hD hS => ?_)
        refine lv_iload hx hb dL_isStep_213 (lv_at hl 1 rfl) ?_
        refine lv_ineg hx hb dL_isStep_215 ?_
        refine lv_icmp_lt (tgt := 223) hx hb dL_isStep_216 (by decide) (fun c55 => ?_) (fun c55 => ?_)
        · exact absurd c55 (Int32.not_lt.mpr hc.2.2.2)
        refine lv_iconst (v := 1) hx hb dL_isStep_219 (by decide) ?_
        refine lv_goto (tgt := 224) hx hb dL_isStep_220 (by decide) ?_
        refine lv_istore (lv' := [(8, .int 1), (7, .int (rX4_count (oN S) (oH S) (oP S) (nI 4))), (6, .int (nI v9)), (5, .int (nI 4)), (0, .ref (a 0 0)), (1, .ref (b 0 0)), (2, .int x), (3, .int y), (4, .int (x >>> (4 &&& 31)))]) hx hb dL_isStep_224 hl (by decide) rfl (fun ls hl => ?_)
        refine lv_aload_n hx hb dL_isStep_226 rfl (lv_at hl 4 rfl) ?_
        refine lv_iload hx hb dL_isStep_227 (lv_at hl 3 rfl) ?_
        refine lv_iload hx hb dL_isStep_229 (lv_at hl 2 rfl) ?_
        refine kE_callV (As := [.int (nI 4), .int (nI v9)]) (rest := []) ⟨hx, hb, hml, hown, hts⟩ (kE_L (k_set l D g tl tm a S (nI 4) (nI v9)) (WO g b S')) hw (cw_isStep_X4_set hts) ⟨Nat.le_of_ble_eq_true rfl, Nat.le_of_ble_eq_true rfl⟩ (WW_cellL (hasO_WO _ _ _) hK hP hw) hZ hP hD hK hN rfl hl rfl (Nat.le_of_ble_eq_true rfl) dL_isStep_231 ⟨Nat.le_of_ble_eq_true rfl, Nat.le_of_ble_eq_true rfl⟩ hS hA (fun w H locs hw hP hD hS => ?_)
        refine lv_istore (lv' := [(9, .int (rX4_set (oN S) (oH S) (oF S) (nI 4) (nI v9))), (8, .int 1), (7, .int (rX4_count (oN S) (oH S) (oP S) (nI 4))), (6, .int (nI v9)), (5, .int (nI 4)), (0, .ref (a 0 0)), (1, .ref (b 0 0)), (2, .int x), (3, .int y), (4, .int (x >>> (4 &&& 31)))]) hx hb dL_isStep_234 hl (by decide) rfl (fun ls hl => ?_)
        refine lv_iload hx hb dL_isStep_236 (lv_at hl 0 rfl) ?_
        refine lv_aload_n hx hb dL_isStep_238 rfl (lv_at hl 6 rfl) ?_
        refine lv_iload hx hb dL_isStep_239 (lv_at hl 4 rfl) ?_
        refine lv_iload hx hb dL_isStep_241 (lv_at hl 3 rfl) ?_
        refine kE_callV (As := [.int (nI 4), .int (nI v9)]) (rest := [.int (rX4_set (oN S) (oH S) (oF S) (nI 4) (nI v9))]) ⟨hx, hb, hml, hown, hts⟩ (kE_R (k_set l D g tl tm b S' (nI 4) (nI v9)) (WO g a (oset S (nI 4) (nI v9)))) hw (cw_isStep_X4_set hts) ⟨Nat.le_of_ble_eq_true rfl, Nat.le_of_ble_eq_true rfl⟩ (WW_cellR (hasO_WO _ _ _) hK hP hw) hZ hP hD hK hN rfl hl rfl (Nat.le_of_ble_eq_true rfl) dL_isStep_243 ⟨Nat.le_of_ble_eq_true rfl, Nat.le_of_ble_eq_true rfl⟩ hS hA (fun w H locs hw hP hD hS => ?_)
        refine lv_icmp_ne (tgt := 270) hx hb dL_isStep_246 (by decide) (fun c56 => ?_) (fun c56 => ?_)
        · exact absurd f.1 c56
        refine lv_iload hx hb dL_isStep_249 (lv_at hl 0 rfl) ?_
        refine lv_iload hx hb dL_isStep_251 (lv_at hl 1 rfl) ?_
        refine lv_if_eq (tgt := 261) hx hb dL_isStep_253 (by decide) (fun c57 => ?_) (fun c57 => ?_)
        · exact absurd c57 (by decide)
        refine lv_iload hx hb dL_isStep_256 (lv_at hl 2 rfl) ?_
        refine lv_goto (tgt := 263) hx hb dL_isStep_258 (by decide) ?_
        refine lv_icmp_ne (tgt := 270) hx hb dL_isStep_263 (by decide) (fun c58 => ?_) (fun c58 => ?_)
        · exact absurd (f.2.2.1 (fun _ => hc)) c58
        refine lv_iconst (v := 1) hx hb dL_isStep_266 (by decide) ?_
        refine lv_goto (tgt := 271) hx hb dL_isStep_267 (by decide) ?_
        exact kE_zret hx hb hr (by decide) hlocks ⟨_, _, f.2.1, hw⟩ hP hD hS (Nat.le_of_ble_eq_true rfl) (Nat.le_of_ble_eq_true rfl) rfl dL_isStep_271
      · have K223_58 : ∀ (w : va_W) (H : Heap) (locs : List Loc) (ls : Array Slot), (bothW (WO g a S) (WO g b S')) w → va_P D vwCl w H → va_D A w → va_S A s.heap H locs → lv_has ls 10 [(7, .int (rX4_count (oN S) (oH S) (oP S) (nI 4))), (6, .int (nI v9)), (5, .int (nI 4)), (0, .ref (a 0 0)), (1, .ref (b 0 0)), (2, .int x), (3, .int y), (4, .int (x >>> (4 &&& 31)))] → W p l e ({ frames := 9, cells := 16, slots := 168, locals := 205 }) s m args below meth c H locs 0 0 (MQ below (jk_QC (some (.int 1)) D (fun o : {w // (fun w => ∃ S2 S2', rel (k0 + 1) S2 S2' ∧ bothW (WO g a S2) (WO g b S2') w) w} => o.1) A) args s 16 168 A) (F0 m 223 ls []) := by
          intro w H locs ls hw hP hD hS hl
          refine lv_iconst (v := 0) hx hb dL_isStep_223 (by decide) ?_
          refine lv_istore (lv' := [(8, .int 0), (7, .int (rX4_count (oN S) (oH S) (oP S) (nI 4))), (6, .int (nI v9)), (5, .int (nI 4)), (0, .ref (a 0 0)), (1, .ref (b 0 0)), (2, .int x), (3, .int y), (4, .int (x >>> (4 &&& 31)))]) hx hb dL_isStep_224 hl (by decide) rfl (fun ls hl => ?_)
          refine lv_aload_n hx hb dL_isStep_226 rfl (lv_at hl 4 rfl) ?_
          refine lv_iload hx hb dL_isStep_227 (lv_at hl 3 rfl) ?_
          refine lv_iload hx hb dL_isStep_229 (lv_at hl 2 rfl) ?_
          refine kE_callV (As := [.int (nI 4), .int (nI v9)]) (rest := []) ⟨hx, hb, hml, hown, hts⟩ (kE_L (k_set l D g tl tm a S (nI 4) (nI v9)) (WO g b S')) hw (cw_isStep_X4_set hts) ⟨Nat.le_of_ble_eq_true rfl, Nat.le_of_ble_eq_true rfl⟩ (WW_cellL (hasO_WO _ _ _) hK hP hw) hZ hP hD hK hN rfl hl rfl (Nat.le_of_ble_eq_true rfl) dL_isStep_231 ⟨Nat.le_of_ble_eq_true rfl, Nat.le_of_ble_eq_true rfl⟩ hS hA (fun w H locs hw hP hD hS => ?_)
          refine lv_istore (lv' := [(9, .int (rX4_set (oN S) (oH S) (oF S) (nI 4) (nI v9))), (8, .int 0), (7, .int (rX4_count (oN S) (oH S) (oP S) (nI 4))), (6, .int (nI v9)), (5, .int (nI 4)), (0, .ref (a 0 0)), (1, .ref (b 0 0)), (2, .int x), (3, .int y), (4, .int (x >>> (4 &&& 31)))]) hx hb dL_isStep_234 hl (by decide) rfl (fun ls hl => ?_)
          refine lv_iload hx hb dL_isStep_236 (lv_at hl 0 rfl) ?_
          refine lv_aload_n hx hb dL_isStep_238 rfl (lv_at hl 6 rfl) ?_
          refine lv_iload hx hb dL_isStep_239 (lv_at hl 4 rfl) ?_
          refine lv_iload hx hb dL_isStep_241 (lv_at hl 3 rfl) ?_
          refine kE_callV (As := [.int (nI 4), .int (nI v9)]) (rest := [.int (rX4_set (oN S) (oH S) (oF S) (nI 4) (nI v9))]) ⟨hx, hb, hml, hown, hts⟩ (kE_R (k_set l D g tl tm b S' (nI 4) (nI v9)) (WO g a (oset S (nI 4) (nI v9)))) hw (cw_isStep_X4_set hts) ⟨Nat.le_of_ble_eq_true rfl, Nat.le_of_ble_eq_true rfl⟩ (WW_cellR (hasO_WO _ _ _) hK hP hw) hZ hP hD hK hN rfl hl rfl (Nat.le_of_ble_eq_true rfl) dL_isStep_243 ⟨Nat.le_of_ble_eq_true rfl, Nat.le_of_ble_eq_true rfl⟩ hS hA (fun w H locs hw hP hD hS => ?_)
          refine lv_icmp_ne (tgt := 270) hx hb dL_isStep_246 (by decide) (fun c60 => ?_) (fun c60 => ?_)
          · exact absurd f.1 c60
          refine lv_iload hx hb dL_isStep_249 (lv_at hl 0 rfl) ?_
          refine lv_iload hx hb dL_isStep_251 (lv_at hl 1 rfl) ?_
          refine lv_if_eq (tgt := 261) hx hb dL_isStep_253 (by decide) (fun c61 => ?_) (fun c61 => ?_)
          rotate_left
          · exact absurd (by decide) c61
          refine lv_ldc hx hb hown (hts (.constant RL 53 (-1000005)) (by decide +kernel)) dL_isStep_261 ?_
          refine lv_icmp_ne (tgt := 270) hx hb dL_isStep_263 (by decide) (fun c62 => ?_) (fun c62 => ?_)
          · exact absurd (f.2.2.2 rfl hc) c62
          refine lv_iconst (v := 1) hx hb dL_isStep_266 (by decide) ?_
          refine lv_goto (tgt := 271) hx hb dL_isStep_267 (by decide) ?_
          exact kE_zret hx hb hr (by decide) hlocks ⟨_, _, f.2.1, hw⟩ hP hD hS (Nat.le_of_ble_eq_true rfl) (Nat.le_of_ble_eq_true rfl) rfl dL_isStep_271
        refine lv_aload_n hx hb dL_isStep_173 rfl (lv_at hl 3 rfl) ?_
        refine lv_iconst (v := 0) hx hb dL_isStep_174 (by decide) ?_
        refine lv_iconst (v := 0) hx hb dL_isStep_175 (by decide) ?_
        refine kE_callV (As := [.int 0, .int 0]) (rest := []) ⟨hx, hb, hml, hown, hts⟩ (kE_L (k_jar l D g tl tm a S 0 0) (WO g b S')) hw (cw_isStep_X4_jar hts) ⟨Nat.le_of_ble_eq_true rfl, Nat.le_of_ble_eq_true rfl⟩ (WW_cellL (hasO_WO _ _ _) hK hP hw) hZ hP hD hK hN rfl hl rfl (Nat.le_of_ble_eq_true rfl) dL_isStep_176 ⟨Nat.le_of_ble_eq_true rfl, Nat.le_of_ble_eq_true rfl⟩ hS hA (fun w H locs hw hP hD hS => ?_)
        refine lv_iload hx hb dL_isStep_179 (lv_at hl 1 rfl) ?_
        refine lv_icmp_gt (tgt := 223) hx hb dL_isStep_181 (by decide) (fun c63 => ?_) (fun c63 => ?_)
        · exact K223_58 w H locs ls hw hP hD hS (lv_sub hl [0, 1, 2, 3, 4, 5, 6, 7] rfl)
        · refine lv_aload_n hx hb dL_isStep_184 rfl (lv_at hl 3 rfl) ?_
          refine lv_iconst (v := 0) hx hb dL_isStep_185 (by decide) ?_
          refine lv_iconst (v := 0) hx hb dL_isStep_186 (by decide) ?_
          refine kE_callV (As := [.int 0, .int 0]) (rest := []) ⟨hx, hb, hml, hown, hts⟩ (kE_L (k_jar l D g tl tm a S 0 0) (WO g b S')) hw (cw_isStep_X4_jar hts) ⟨Nat.le_of_ble_eq_true rfl, Nat.le_of_ble_eq_true rfl⟩ (WW_cellL (hasO_WO _ _ _) hK hP hw) hZ hP hD hK hN rfl hl rfl (Nat.le_of_ble_eq_true rfl) dL_isStep_187 ⟨Nat.le_of_ble_eq_true rfl, Nat.le_of_ble_eq_true rfl⟩ hS hA (fun w H locs hw hP hD hS => ?_)
          refine lv_iload hx hb dL_isStep_190 (lv_at hl 1 rfl) ?_
          refine lv_ineg hx hb dL_isStep_192 ?_
          refine lv_icmp_lt (tgt := 223) hx hb dL_isStep_193 (by decide) (fun c64 => ?_) (fun c64 => ?_)
          · exact K223_58 w H locs ls hw hP hD hS (lv_sub hl [0, 1, 2, 3, 4, 5, 6, 7] rfl)
          · refine lv_aload_n hx hb dL_isStep_196 rfl (lv_at hl 3 rfl) ?_
            refine lv_iconst (v := 1) hx hb dL_isStep_197 (by decide) ?_
            refine lv_iconst (v := 0) hx hb dL_isStep_198 (by decide) ?_
            refine kE_callV (As := [.int 1, .int 0]) (rest := []) ⟨hx, hb, hml, hown, hts⟩ (kE_L (k_jar l D g tl tm a S 1 0) (WO g b S')) hw (cw_isStep_X4_jar hts) ⟨Nat.le_of_ble_eq_true rfl, Nat.le_of_ble_eq_true rfl⟩ (WW_cellL (hasO_WO _ _ _) hK hP hw) hZ hP hD hK hN rfl hl rfl (Nat.le_of_ble_eq_true rfl) dL_isStep_199 ⟨Nat.le_of_ble_eq_true rfl, Nat.le_of_ble_eq_true rfl⟩ hS hA (fun w H locs hw hP hD hS => ?_)
            refine lv_iload hx hb dL_isStep_202 (lv_at hl 1 rfl) ?_
            refine lv_icmp_gt (tgt := 223) hx hb dL_isStep_204 (by decide) (fun c65 => ?_) (fun c65 => ?_)
            · exact K223_58 w H locs ls hw hP hD hS (lv_sub hl [0, 1, 2, 3, 4, 5, 6, 7] rfl)
            · refine lv_aload_n hx hb dL_isStep_207 rfl (lv_at hl 3 rfl) ?_
              refine lv_iconst (v := 1) hx hb dL_isStep_208 (by decide) ?_
              refine lv_iconst (v := 0) hx hb dL_isStep_209 (by decide) ?_
              refine kE_callV (As := [.int 1, .int 0]) (rest := []) ⟨hx, hb, hml, hown, hts⟩ (kE_L (k_jar l D g tl tm a S 1 0) (WO g b S')) hw (cw_isStep_X4_jar hts) ⟨Nat.le_of_ble_eq_true rfl, Nat.le_of_ble_eq_true rfl⟩ (WW_cellL (hasO_WO _ _ _) hK hP hw) hZ hP hD hK hN rfl hl rfl (Nat.le_of_ble_eq_true rfl) dL_isStep_210 ⟨Nat.le_of_ble_eq_true rfl, Nat.le_of_ble_eq_true rfl⟩ hS hA (fun w H locs hw hP hD hS => ?_)
              refine lv_iload hx hb dL_isStep_213 (lv_at hl 1 rfl) ?_
              refine lv_ineg hx hb dL_isStep_215 ?_
              refine lv_icmp_lt (tgt := 223) hx hb dL_isStep_216 (by decide) (fun c66 => ?_) (fun c66 => ?_)
              rotate_left
              · exact absurd (Int32.not_le.mp (fun z => hc ⟨Int32.not_lt.mp c63, Int32.not_lt.mp c64, Int32.not_lt.mp c65, z⟩)) c66
              exact K223_58 w H locs ls hw hP hD hS (lv_sub hl [0, 1, 2, 3, 4, 5, 6, 7] rfl)
set_option maxHeartbeats 8000000 in
set_option maxRecDepth 20000 in
theorem st_272 {x y : Int32} (hx : p.tables.exec = Jvm.exec) (hb : c.code = cL_isStep) (hr : meth.sig.returnType = some .boolean) (hml : c.maxLocals = 10) (hts : ∀ w ∈ wsL_isStep, w.before args s = true) (hown : s.vm.findClass RL = some m.cls) (hlocks : meth.locks = false) (hK : va_K D vwCl (jk_T g) s) (hN : jk_N s) (hZ : jk_Z tl tm A s) (hA : ∀ q, s.heap.size ≤ q → A q) (h : rel k0 S S') (hk0 : k0 < 900) (hw : bothW (WO g a S) (WO g b S') w) (hP : va_P D vwCl w H) (hD : va_D A w) (hS : va_S A s.heap H locs) (hl : lv_has ls 10 [(0, .ref (a 0 0)), (1, .ref (b 0 0)), (2, .int x), (3, .int y), (4, .int (x >>> (4 &&& 31)))]) : W p l e ({ frames := 9, cells := 16, slots := 168, locals := 205 }) s m args below meth c H locs 0 0 (MQ below (jk_QC (some (.int 1)) D (fun o : {w // (fun w => ∃ S2 S2', rel (k0 + 1) S2 S2' ∧ bothW (WO g a S2) (WO g b S2') w) w} => o.1) A) args s 16 168 A) (F0 m 272 ls []) := by
  refine lv_iconst (v := 1) hx hb dL_isStep_272 (by decide) ?_
  refine lv_iload_n hx hb dL_isStep_273 rfl (lv_at hl 3 rfl) ?_
  refine lv_iload hx hb dL_isStep_274 (lv_at hl 4 rfl) ?_
  refine lv_iconst (v := 4) hx hb dL_isStep_276 (by decide) ?_
  refine kE_callS (As := [.int (x >>> (4 &&& 31)), .int 4]) (rest := [.int y, .int 1]) ⟨hx, hb, hml, hown, hts⟩ (e_up l D g tl tm (x >>> (4 &&& 31)) (n := 4) (by omega) (by omega) _) hw (cw_isStep_L_up hts) ⟨Nat.le_of_ble_eq_true rfl, Nat.le_of_ble_eq_true rfl⟩ hZ hP hD hK hN rfl hl rfl (Nat.le_of_ble_eq_true rfl) dL_isStep_277 ⟨Nat.le_of_ble_eq_true rfl, Nat.le_of_ble_eq_true rfl⟩ hS hA (fun w H locs hw hP hD hS => ?_)
  refine lv_if_ne (tgt := 288) hx hb dL_isStep_280 (by decide) (fun c1 => ?_) (fun c1 => ?_)
  · refine lv_bipush (v := 7) hx hb dL_isStep_288 (by decide) ?_
    refine kE_callS (As := [.int y, .int 7]) (rest := [.int 1]) ⟨hx, hb, hml, hown, hts⟩ (e_up l D g tl tm y (n := 7) (by omega) (by omega) _) hw (cw_isStep_L_up hts) ⟨Nat.le_of_ble_eq_true rfl, Nat.le_of_ble_eq_true rfl⟩ hZ hP hD hK hN rfl hl rfl (Nat.le_of_ble_eq_true rfl) dL_isStep_290 ⟨Nat.le_of_ble_eq_true rfl, Nat.le_of_ble_eq_true rfl⟩ hS hA (fun w H locs hw hP hD hS => ?_)
    refine lv_iadd hx hb dL_isStep_293 ?_
    refine lv_topi (fun y9 e9 => ?_)
    obtain rfl : y9 = nI (1 + upN y 7) := e9.trans (nI_add 1 _)
    have hv := upN_lt y (show 0 < 7 by omega)
    have f := st_turn h hk0 (n := 1 + upN y 7) (by omega) (by omega)
    generalize 1 + upN y 7 = v9 at f ⊢
    refine lv_istore (lv' := [(5, .int (nI v9)), (0, .ref (a 0 0)), (1, .ref (b 0 0)), (2, .int x), (3, .int y), (4, .int (x >>> (4 &&& 31)))]) hx hb dL_isStep_294 hl (by decide) rfl (fun ls hl => ?_)
    refine lv_aload_n hx hb dL_isStep_296 rfl (lv_at hl 1 rfl) ?_
    refine lv_iload hx hb dL_isStep_297 (lv_at hl 0 rfl) ?_
    refine lv_iconst (v := 0) hx hb dL_isStep_299 (by decide) ?_
    refine kE_callV (As := [.int (nI v9), .int 0]) (rest := []) ⟨hx, hb, hml, hown, hts⟩ (kE_L (k_ifT l D g tl tm a S (nI v9) 0) (WO g b S')) hw (cw_isStep_X4_ifTurned hts) ⟨Nat.le_of_ble_eq_true rfl, Nat.le_of_ble_eq_true rfl⟩ (WW_cellL (hasO_WO _ _ _) hK hP hw) hZ hP hD hK hN rfl hl rfl (Nat.le_of_ble_eq_true rfl) dL_isStep_300 ⟨Nat.le_of_ble_eq_true rfl, Nat.le_of_ble_eq_true rfl⟩ hS hA (fun w H locs hw hP hD hS => ?_)
    refine lv_istore (lv' := [(6, .int (rX4_ifTurned (oN S) jm_0 (nI v9) 0)), (5, .int (nI v9)), (0, .ref (a 0 0)), (1, .ref (b 0 0)), (2, .int x), (3, .int y), (4, .int (x >>> (4 &&& 31)))]) hx hb dL_isStep_303 hl (by decide) rfl (fun ls hl => ?_)
    refine lv_aload_n hx hb dL_isStep_305 rfl (lv_at hl 2 rfl) ?_
    refine lv_iconst (v := 5) hx hb dL_isStep_306 (by decide) ?_
    refine kE_callV (As := [.int 5]) (rest := []) ⟨hx, hb, hml, hown, hts⟩ (kE_L (k_count l D g tl tm a S 5) (WO g b S')) hw (cw_isStep_X4_count hts) ⟨Nat.le_of_ble_eq_true rfl, Nat.le_of_ble_eq_true rfl⟩ (WW_cellL (hasO_WO _ _ _) hK hP hw) hZ hP hD hK hN rfl hl rfl (Nat.le_of_ble_eq_true rfl) dL_isStep_307 ⟨Nat.le_of_ble_eq_true rfl, Nat.le_of_ble_eq_true rfl⟩ hS hA (fun w H locs hw hP hD hS => ?_)
    refine lv_istore (lv' := [(7, .int (rX4_count (oN S) (oH S) (oP S) 5)), (6, .int (rX4_ifTurned (oN S) jm_0 (nI v9) 0)), (5, .int (nI v9)), (0, .ref (a 0 0)), (1, .ref (b 0 0)), (2, .int x), (3, .int y), (4, .int (x >>> (4 &&& 31)))]) hx hb dL_isStep_310 hl (by decide) rfl (fun ls hl => ?_)
    refine lv_aload_n hx hb dL_isStep_312 rfl (lv_at hl 3 rfl) ?_
    refine lv_bipush (v := 6) hx hb dL_isStep_313 (by decide) ?_
    refine kE_callV (As := [.int 6]) (rest := []) ⟨hx, hb, hml, hown, hts⟩ (kE_L (k_count l D g tl tm a S 6) (WO g b S')) hw (cw_isStep_X4_count hts) ⟨Nat.le_of_ble_eq_true rfl, Nat.le_of_ble_eq_true rfl⟩ (WW_cellL (hasO_WO _ _ _) hK hP hw) hZ hP hD hK hN rfl hl rfl (Nat.le_of_ble_eq_true rfl) dL_isStep_315 ⟨Nat.le_of_ble_eq_true rfl, Nat.le_of_ble_eq_true rfl⟩ hS hA (fun w H locs hw hP hD hS => ?_)
    refine lv_istore (lv' := [(8, .int (rX4_count (oN S) (oH S) (oP S) 6)), (7, .int (rX4_count (oN S) (oH S) (oP S) 5)), (6, .int (rX4_ifTurned (oN S) jm_0 (nI v9) 0)), (5, .int (nI v9)), (0, .ref (a 0 0)), (1, .ref (b 0 0)), (2, .int x), (3, .int y), (4, .int (x >>> (4 &&& 31)))]) hx hb dL_isStep_318 hl (by decide) rfl (fun ls hl => ?_)
    refine lv_aload_n hx hb dL_isStep_320 rfl (lv_at hl 4 rfl) ?_
    refine lv_iload hx hb dL_isStep_321 (lv_at hl 3 rfl) ?_
    refine kE_callV (As := [.int (nI v9)]) (rest := []) ⟨hx, hb, hml, hown, hts⟩ (kE_L (k_turn l D g tl tm a S (nI v9)) (WO g b S')) hw (cw_isStep_X4_turn hts) ⟨Nat.le_of_ble_eq_true rfl, Nat.le_of_ble_eq_true rfl⟩ (WW_cellL (hasO_WO _ _ _) hK hP hw) hZ hP hD hK hN rfl hl rfl (Nat.le_of_ble_eq_true rfl) dL_isStep_323 ⟨Nat.le_of_ble_eq_true rfl, Nat.le_of_ble_eq_true rfl⟩ hS hA (fun w H locs hw hP hD hS => ?_)
    refine lv_iload hx hb dL_isStep_326 (lv_at hl 2 rfl) ?_
    refine lv_icmp_ne (tgt := 373) hx hb dL_isStep_328 (by decide) (fun c2 => ?_) (fun c2 => ?_)
    · exact absurd f.1 c2
    refine lv_aload_n hx hb dL_isStep_331 rfl (lv_at hl 5 rfl) ?_
    refine lv_iload hx hb dL_isStep_332 (lv_at hl 3 rfl) ?_
    refine kE_callV (As := [.int (nI v9)]) (rest := []) ⟨hx, hb, hml, hown, hts⟩ (kE_R (k_turn l D g tl tm b S' (nI v9)) (WO g a (oturn S (nI v9)))) hw (cw_isStep_X4_turn hts) ⟨Nat.le_of_ble_eq_true rfl, Nat.le_of_ble_eq_true rfl⟩ (WW_cellR (hasO_WO _ _ _) hK hP hw) hZ hP hD hK hN rfl hl rfl (Nat.le_of_ble_eq_true rfl) dL_isStep_334 ⟨Nat.le_of_ble_eq_true rfl, Nat.le_of_ble_eq_true rfl⟩ hS hA (fun w H locs hw hP hD hS => ?_)
    refine lv_iload hx hb dL_isStep_337 (lv_at hl 2 rfl) ?_
    refine lv_icmp_ne (tgt := 373) hx hb dL_isStep_339 (by decide) (fun c3 => ?_) (fun c3 => ?_)
    · exact absurd f.2.1 c3
    refine lv_aload_n hx hb dL_isStep_342 rfl (lv_at hl 4 rfl) ?_
    refine lv_iconst (v := 5) hx hb dL_isStep_343 (by decide) ?_
    refine kE_callV (As := [.int 5]) (rest := []) ⟨hx, hb, hml, hown, hts⟩ (kE_L (k_count l D g tl tm a (oturn S (nI v9)) 5) (WO g b (oturn S' (nI v9)))) hw (cw_isStep_X4_count hts) ⟨Nat.le_of_ble_eq_true rfl, Nat.le_of_ble_eq_true rfl⟩ (WW_cellL (hasO_WO _ _ _) hK hP hw) hZ hP hD hK hN rfl hl rfl (Nat.le_of_ble_eq_true rfl) dL_isStep_344 ⟨Nat.le_of_ble_eq_true rfl, Nat.le_of_ble_eq_true rfl⟩ hS hA (fun w H locs hw hP hD hS => ?_)
    refine lv_iload hx hb dL_isStep_347 (lv_at hl 1 rfl) ?_
    refine lv_iload hx hb dL_isStep_349 (lv_at hl 3 rfl) ?_
    refine lv_iadd hx hb dL_isStep_351 ?_
    refine lv_icmp_ne (tgt := 373) hx hb dL_isStep_352 (by decide) (fun c4 => ?_) (fun c4 => ?_)
    · exact absurd ((f.2.2.1 _ _ _ _).1) c4
    refine lv_aload_n hx hb dL_isStep_355 rfl (lv_at hl 4 rfl) ?_
    refine lv_bipush (v := 6) hx hb dL_isStep_356 (by decide) ?_
    refine kE_callV (As := [.int 6]) (rest := []) ⟨hx, hb, hml, hown, hts⟩ (kE_L (k_count l D g tl tm a (oturn S (nI v9)) 6) (WO g b (oturn S' (nI v9)))) hw (cw_isStep_X4_count hts) ⟨Nat.le_of_ble_eq_true rfl, Nat.le_of_ble_eq_true rfl⟩ (WW_cellL (hasO_WO _ _ _) hK hP hw) hZ hP hD hK hN rfl hl rfl (Nat.le_of_ble_eq_true rfl) dL_isStep_358 ⟨Nat.le_of_ble_eq_true rfl, Nat.le_of_ble_eq_true rfl⟩ hS hA (fun w H locs hw hP hD hS => ?_)
    refine lv_iload hx hb dL_isStep_361 (lv_at hl 0 rfl) ?_
    refine lv_iload hx hb dL_isStep_363 (lv_at hl 2 rfl) ?_
    refine lv_iadd hx hb dL_isStep_365 ?_
    refine lv_icmp_ne (tgt := 373) hx hb dL_isStep_366 (by decide) (fun c5 => ?_) (fun c5 => ?_)
    · exact absurd ((f.2.2.1 _ _ _ _).2) c5
    refine lv_iconst (v := 1) hx hb dL_isStep_369 (by decide) ?_
    refine lv_goto (tgt := 374) hx hb dL_isStep_370 (by decide) ?_
    exact kE_zret hx hb hr (by decide) hlocks ⟨_, _, f.2.2.2.1, hw⟩ hP hD hS (Nat.le_of_ble_eq_true rfl) (Nat.le_of_ble_eq_true rfl) rfl dL_isStep_374
  · refine lv_bipush (v := 99) hx hb dL_isStep_283 (by decide) ?_
    refine lv_goto (tgt := 290) hx hb dL_isStep_285 (by decide) ?_
    refine kE_callS (As := [.int y, .int 99]) (rest := [.int 1]) ⟨hx, hb, hml, hown, hts⟩ (e_up l D g tl tm y (n := 99) (by omega) (by omega) _) hw (cw_isStep_L_up hts) ⟨Nat.le_of_ble_eq_true rfl, Nat.le_of_ble_eq_true rfl⟩ hZ hP hD hK hN rfl hl rfl (Nat.le_of_ble_eq_true rfl) dL_isStep_290 ⟨Nat.le_of_ble_eq_true rfl, Nat.le_of_ble_eq_true rfl⟩ hS hA (fun w H locs hw hP hD hS => ?_)
    refine lv_iadd hx hb dL_isStep_293 ?_
    refine lv_topi (fun y9 e9 => ?_)
    obtain rfl : y9 = nI (1 + upN y 99) := e9.trans (nI_add 1 _)
    have hv := upN_lt y (show 0 < 99 by omega)
    have f := st_turn h hk0 (n := 1 + upN y 99) (by omega) (by omega)
    generalize 1 + upN y 99 = v9 at f ⊢
    refine lv_istore (lv' := [(5, .int (nI v9)), (0, .ref (a 0 0)), (1, .ref (b 0 0)), (2, .int x), (3, .int y), (4, .int (x >>> (4 &&& 31)))]) hx hb dL_isStep_294 hl (by decide) rfl (fun ls hl => ?_)
    refine lv_aload_n hx hb dL_isStep_296 rfl (lv_at hl 1 rfl) ?_
    refine lv_iload hx hb dL_isStep_297 (lv_at hl 0 rfl) ?_
    refine lv_iconst (v := 0) hx hb dL_isStep_299 (by decide) ?_
    refine kE_callV (As := [.int (nI v9), .int 0]) (rest := []) ⟨hx, hb, hml, hown, hts⟩ (kE_L (k_ifT l D g tl tm a S (nI v9) 0) (WO g b S')) hw (cw_isStep_X4_ifTurned hts) ⟨Nat.le_of_ble_eq_true rfl, Nat.le_of_ble_eq_true rfl⟩ (WW_cellL (hasO_WO _ _ _) hK hP hw) hZ hP hD hK hN rfl hl rfl (Nat.le_of_ble_eq_true rfl) dL_isStep_300 ⟨Nat.le_of_ble_eq_true rfl, Nat.le_of_ble_eq_true rfl⟩ hS hA (fun w H locs hw hP hD hS => ?_)
    refine lv_istore (lv' := [(6, .int (rX4_ifTurned (oN S) jm_0 (nI v9) 0)), (5, .int (nI v9)), (0, .ref (a 0 0)), (1, .ref (b 0 0)), (2, .int x), (3, .int y), (4, .int (x >>> (4 &&& 31)))]) hx hb dL_isStep_303 hl (by decide) rfl (fun ls hl => ?_)
    refine lv_aload_n hx hb dL_isStep_305 rfl (lv_at hl 2 rfl) ?_
    refine lv_iconst (v := 5) hx hb dL_isStep_306 (by decide) ?_
    refine kE_callV (As := [.int 5]) (rest := []) ⟨hx, hb, hml, hown, hts⟩ (kE_L (k_count l D g tl tm a S 5) (WO g b S')) hw (cw_isStep_X4_count hts) ⟨Nat.le_of_ble_eq_true rfl, Nat.le_of_ble_eq_true rfl⟩ (WW_cellL (hasO_WO _ _ _) hK hP hw) hZ hP hD hK hN rfl hl rfl (Nat.le_of_ble_eq_true rfl) dL_isStep_307 ⟨Nat.le_of_ble_eq_true rfl, Nat.le_of_ble_eq_true rfl⟩ hS hA (fun w H locs hw hP hD hS => ?_)
    refine lv_istore (lv' := [(7, .int (rX4_count (oN S) (oH S) (oP S) 5)), (6, .int (rX4_ifTurned (oN S) jm_0 (nI v9) 0)), (5, .int (nI v9)), (0, .ref (a 0 0)), (1, .ref (b 0 0)), (2, .int x), (3, .int y), (4, .int (x >>> (4 &&& 31)))]) hx hb dL_isStep_310 hl (by decide) rfl (fun ls hl => ?_)
    refine lv_aload_n hx hb dL_isStep_312 rfl (lv_at hl 3 rfl) ?_
    refine lv_bipush (v := 6) hx hb dL_isStep_313 (by decide) ?_
    refine kE_callV (As := [.int 6]) (rest := []) ⟨hx, hb, hml, hown, hts⟩ (kE_L (k_count l D g tl tm a S 6) (WO g b S')) hw (cw_isStep_X4_count hts) ⟨Nat.le_of_ble_eq_true rfl, Nat.le_of_ble_eq_true rfl⟩ (WW_cellL (hasO_WO _ _ _) hK hP hw) hZ hP hD hK hN rfl hl rfl (Nat.le_of_ble_eq_true rfl) dL_isStep_315 ⟨Nat.le_of_ble_eq_true rfl, Nat.le_of_ble_eq_true rfl⟩ hS hA (fun w H locs hw hP hD hS => ?_)
    refine lv_istore (lv' := [(8, .int (rX4_count (oN S) (oH S) (oP S) 6)), (7, .int (rX4_count (oN S) (oH S) (oP S) 5)), (6, .int (rX4_ifTurned (oN S) jm_0 (nI v9) 0)), (5, .int (nI v9)), (0, .ref (a 0 0)), (1, .ref (b 0 0)), (2, .int x), (3, .int y), (4, .int (x >>> (4 &&& 31)))]) hx hb dL_isStep_318 hl (by decide) rfl (fun ls hl => ?_)
    refine lv_aload_n hx hb dL_isStep_320 rfl (lv_at hl 4 rfl) ?_
    refine lv_iload hx hb dL_isStep_321 (lv_at hl 3 rfl) ?_
    refine kE_callV (As := [.int (nI v9)]) (rest := []) ⟨hx, hb, hml, hown, hts⟩ (kE_L (k_turn l D g tl tm a S (nI v9)) (WO g b S')) hw (cw_isStep_X4_turn hts) ⟨Nat.le_of_ble_eq_true rfl, Nat.le_of_ble_eq_true rfl⟩ (WW_cellL (hasO_WO _ _ _) hK hP hw) hZ hP hD hK hN rfl hl rfl (Nat.le_of_ble_eq_true rfl) dL_isStep_323 ⟨Nat.le_of_ble_eq_true rfl, Nat.le_of_ble_eq_true rfl⟩ hS hA (fun w H locs hw hP hD hS => ?_)
    refine lv_iload hx hb dL_isStep_326 (lv_at hl 2 rfl) ?_
    refine lv_icmp_ne (tgt := 373) hx hb dL_isStep_328 (by decide) (fun c6 => ?_) (fun c6 => ?_)
    · exact absurd f.1 c6
    refine lv_aload_n hx hb dL_isStep_331 rfl (lv_at hl 5 rfl) ?_
    refine lv_iload hx hb dL_isStep_332 (lv_at hl 3 rfl) ?_
    refine kE_callV (As := [.int (nI v9)]) (rest := []) ⟨hx, hb, hml, hown, hts⟩ (kE_R (k_turn l D g tl tm b S' (nI v9)) (WO g a (oturn S (nI v9)))) hw (cw_isStep_X4_turn hts) ⟨Nat.le_of_ble_eq_true rfl, Nat.le_of_ble_eq_true rfl⟩ (WW_cellR (hasO_WO _ _ _) hK hP hw) hZ hP hD hK hN rfl hl rfl (Nat.le_of_ble_eq_true rfl) dL_isStep_334 ⟨Nat.le_of_ble_eq_true rfl, Nat.le_of_ble_eq_true rfl⟩ hS hA (fun w H locs hw hP hD hS => ?_)
    refine lv_iload hx hb dL_isStep_337 (lv_at hl 2 rfl) ?_
    refine lv_icmp_ne (tgt := 373) hx hb dL_isStep_339 (by decide) (fun c7 => ?_) (fun c7 => ?_)
    · exact absurd f.2.1 c7
    refine lv_aload_n hx hb dL_isStep_342 rfl (lv_at hl 4 rfl) ?_
    refine lv_iconst (v := 5) hx hb dL_isStep_343 (by decide) ?_
    refine kE_callV (As := [.int 5]) (rest := []) ⟨hx, hb, hml, hown, hts⟩ (kE_L (k_count l D g tl tm a (oturn S (nI v9)) 5) (WO g b (oturn S' (nI v9)))) hw (cw_isStep_X4_count hts) ⟨Nat.le_of_ble_eq_true rfl, Nat.le_of_ble_eq_true rfl⟩ (WW_cellL (hasO_WO _ _ _) hK hP hw) hZ hP hD hK hN rfl hl rfl (Nat.le_of_ble_eq_true rfl) dL_isStep_344 ⟨Nat.le_of_ble_eq_true rfl, Nat.le_of_ble_eq_true rfl⟩ hS hA (fun w H locs hw hP hD hS => ?_)
    refine lv_iload hx hb dL_isStep_347 (lv_at hl 1 rfl) ?_
    refine lv_iload hx hb dL_isStep_349 (lv_at hl 3 rfl) ?_
    refine lv_iadd hx hb dL_isStep_351 ?_
    refine lv_icmp_ne (tgt := 373) hx hb dL_isStep_352 (by decide) (fun c8 => ?_) (fun c8 => ?_)
    · exact absurd ((f.2.2.1 _ _ _ _).1) c8
    refine lv_aload_n hx hb dL_isStep_355 rfl (lv_at hl 4 rfl) ?_
    refine lv_bipush (v := 6) hx hb dL_isStep_356 (by decide) ?_
    refine kE_callV (As := [.int 6]) (rest := []) ⟨hx, hb, hml, hown, hts⟩ (kE_L (k_count l D g tl tm a (oturn S (nI v9)) 6) (WO g b (oturn S' (nI v9)))) hw (cw_isStep_X4_count hts) ⟨Nat.le_of_ble_eq_true rfl, Nat.le_of_ble_eq_true rfl⟩ (WW_cellL (hasO_WO _ _ _) hK hP hw) hZ hP hD hK hN rfl hl rfl (Nat.le_of_ble_eq_true rfl) dL_isStep_358 ⟨Nat.le_of_ble_eq_true rfl, Nat.le_of_ble_eq_true rfl⟩ hS hA (fun w H locs hw hP hD hS => ?_)
    refine lv_iload hx hb dL_isStep_361 (lv_at hl 0 rfl) ?_
    refine lv_iload hx hb dL_isStep_363 (lv_at hl 2 rfl) ?_
    refine lv_iadd hx hb dL_isStep_365 ?_
    refine lv_icmp_ne (tgt := 373) hx hb dL_isStep_366 (by decide) (fun c9 => ?_) (fun c9 => ?_)
    · exact absurd ((f.2.2.1 _ _ _ _).2) c9
    refine lv_iconst (v := 1) hx hb dL_isStep_369 (by decide) ?_
    refine lv_goto (tgt := 374) hx hb dL_isStep_370 (by decide) ?_
    exact kE_zret hx hb hr (by decide) hlocks ⟨_, _, f.2.2.2.1, hw⟩ hP hD hS (Nat.le_of_ble_eq_true rfl) (Nat.le_of_ble_eq_true rfl) rfl dL_isStep_374
set_option maxHeartbeats 8000000 in
set_option maxRecDepth 20000 in
theorem st_375 {x y : Int32} (hx : p.tables.exec = Jvm.exec) (hb : c.code = cL_isStep) (hr : meth.sig.returnType = some .boolean) (hml : c.maxLocals = 10) (hts : ∀ w ∈ wsL_isStep, w.before args s = true) (hown : s.vm.findClass RL = some m.cls) (hlocks : meth.locks = false) (hK : va_K D vwCl (jk_T g) s) (hN : jk_N s) (hZ : jk_Z tl tm A s) (hA : ∀ q, s.heap.size ≤ q → A q) (h : rel k0 S S') (hk0 : k0 < 900) (hw : bothW (WO g a S) (WO g b S') w) (hP : va_P D vwCl w H) (hD : va_D A w) (hS : va_S A s.heap H locs) (hl : lv_has ls 10 [(0, .ref (a 0 0)), (1, .ref (b 0 0)), (2, .int x), (3, .int y), (4, .int (x >>> (4 &&& 31)))]) : W p l e ({ frames := 9, cells := 16, slots := 168, locals := 205 }) s m args below meth c H locs 0 0 (MQ below (jk_QC (some (.int 1)) D (fun o : {w // (fun w => ∃ S2 S2', rel (k0 + 1) S2 S2' ∧ bothW (WO g a S2) (WO g b S2') w) w} => o.1) A) args s 16 168 A) (F0 m 375 ls []) := by
  have f := st_turn h hk0 (n := 1) (by omega) (by omega)
  have f9 := sp_nn h hk0
  refine lv_aload_n hx hb dL_isStep_375 rfl (lv_at hl 0 rfl) ?_
  refine kE_callS (As := [.ref (a 0 0)]) (rest := []) ⟨hx, hb, hml, hown, hts⟩ (kE_L (e_isTurned l D g tl tm a h.1.1 (by omega)) (WO g b S')) hw (cw_isStep_L_isTurned hts) ⟨Nat.le_of_ble_eq_true rfl, Nat.le_of_ble_eq_true rfl⟩ hZ hP hD hK hN rfl hl rfl (Nat.le_of_ble_eq_true rfl) dL_isStep_376 ⟨Nat.le_of_ble_eq_true rfl, Nat.le_of_ble_eq_true rfl⟩ hS hA (fun w H locs hw hP hD hS => ?_)
  refine lv_if_eq (tgt := 394) hx hb dL_isStep_379 (by decide) (fun c1 => ?_) (fun c1 => ?_)
  · exact absurd c1 (by decide)
  refine lv_aload_n hx hb dL_isStep_382 rfl (lv_at hl 1 rfl) ?_
  refine lv_iconst (v := 1) hx hb dL_isStep_383 (by decide) ?_
  refine kE_callV (As := [.int 1]) (rest := []) ⟨hx, hb, hml, hown, hts⟩ (kE_R (k_turn l D g tl tm b S' 1) (WO g a (oturn S 1))) hw (cw_isStep_X4_turn hts) ⟨Nat.le_of_ble_eq_true rfl, Nat.le_of_ble_eq_true rfl⟩ (WW_cellR (hasO_WO _ _ _) hK hP hw) hZ hP hD hK hN rfl hl rfl (Nat.le_of_ble_eq_true rfl) dL_isStep_384 ⟨Nat.le_of_ble_eq_true rfl, Nat.le_of_ble_eq_true rfl⟩ hS hA (fun w H locs hw hP hD hS => ?_)
  refine lv_if_lt (tgt := 394) hx hb dL_isStep_387 (by decide) (fun c2 => ?_) (fun c2 => ?_)
  · exact absurd c2 (Int32.not_lt.mpr (by rw [show rX4_turn (oN S') (oH S') (oF S') 1 = _ from f.2.1]; exact f9))
  refine lv_iconst (v := 1) hx hb dL_isStep_390 (by decide) ?_
  refine lv_goto (tgt := 395) hx hb dL_isStep_391 (by decide) ?_
  exact kE_zret hx hb hr (by decide) hlocks ⟨_, _, f.2.2.2.1, hw⟩ hP hD hS (Nat.le_of_ble_eq_true rfl) (Nat.le_of_ble_eq_true rfl) rfl dL_isStep_395
set_option maxHeartbeats 8000000 in
set_option maxRecDepth 20000 in
theorem st_396 {x y : Int32} (hx : p.tables.exec = Jvm.exec) (hb : c.code = cL_isStep) (hr : meth.sig.returnType = some .boolean) (hml : c.maxLocals = 10) (hts : ∀ w ∈ wsL_isStep, w.before args s = true) (hown : s.vm.findClass RL = some m.cls) (hlocks : meth.locks = false) (hK : va_K D vwCl (jk_T g) s) (hN : jk_N s) (hZ : jk_Z tl tm A s) (hA : ∀ q, s.heap.size ≤ q → A q) (h : rel k0 S S') (hk0 : k0 < 900) (hw : bothW (WO g a S) (WO g b S') w) (hP : va_P D vwCl w H) (hD : va_D A w) (hS : va_S A s.heap H locs) (hl : lv_has ls 10 [(0, .ref (a 0 0)), (1, .ref (b 0 0)), (2, .int x), (3, .int y), (4, .int (x >>> (4 &&& 31)))]) : W p l e ({ frames := 9, cells := 16, slots := 168, locals := 205 }) s m args below meth c H locs 0 0 (MQ below (jk_QC (some (.int 1)) D (fun o : {w // (fun w => ∃ S2 S2', rel (k0 + 1) S2 S2' ∧ bothW (WO g a S2) (WO g b S2') w) w} => o.1) A) args s 16 168 A) (F0 m 396 ls []) := by
  have eN := h.2.1
  have fs := foresee_ng h.1.1 (by omega) jm_0 jm_0
  rw [← eN] at fs
  have f := st_dis h hk0
  refine lv_iload hx hb dL_isStep_396 (lv_at hl 4 rfl) ?_
  refine lv_iconst (v := 3) hx hb dL_isStep_398 (by decide) ?_
  refine kE_callS (As := [.int (x >>> (4 &&& 31)), .int 3]) (rest := []) ⟨hx, hb, hml, hown, hts⟩ (e_up l D g tl tm (x >>> (4 &&& 31)) (n := 3) (by omega) (by omega) _) hw (cw_isStep_L_up hts) ⟨Nat.le_of_ble_eq_true rfl, Nat.le_of_ble_eq_true rfl⟩ hZ hP hD hK hN rfl hl rfl (Nat.le_of_ble_eq_true rfl) dL_isStep_399 ⟨Nat.le_of_ble_eq_true rfl, Nat.le_of_ble_eq_true rfl⟩ hS hA (fun w H locs hw hP hD hS => ?_)
  refine lv_if_le (tgt := 422) hx hb dL_isStep_402 (by decide) (fun c1 => ?_) (fun c1 => ?_)
  · refine lv_aload_n hx hb dL_isStep_422 rfl (lv_at hl 0 rfl) ?_
    refine kE_callS (As := [.ref (a 0 0)]) (rest := []) ⟨hx, hb, hml, hown, hts⟩ (kE_L (e_gap l D g tl tm a S) (WO g b S')) hw (cw_isStep_L_gap hts) ⟨Nat.le_of_ble_eq_true rfl, Nat.le_of_ble_eq_true rfl⟩ hZ hP hD hK hN rfl hl rfl (Nat.le_of_ble_eq_true rfl) dL_isStep_423 ⟨Nat.le_of_ble_eq_true rfl, Nat.le_of_ble_eq_true rfl⟩ hS hA (fun w H locs hw hP hD hS => ?_)
    refine lv_istore (lv' := [(5, .int (rX2_difference (oN S))), (0, .ref (a 0 0)), (1, .ref (b 0 0)), (2, .int x), (3, .int y), (4, .int (x >>> (4 &&& 31)))]) hx hb dL_isStep_426 hl (by decide) rfl (fun ls hl => ?_)
    refine lv_aload_n hx hb dL_isStep_428 rfl (lv_at hl 1 rfl) ?_
    refine lv_bipush (v := 12) hx hb dL_isStep_429 (by decide) ?_
    refine kE_callV (As := [.int 12]) (rest := []) ⟨hx, hb, hml, hown, hts⟩ (kE_L (k_count l D g tl tm a S 12) (WO g b S')) hw (cw_isStep_X4_count hts) ⟨Nat.le_of_ble_eq_true rfl, Nat.le_of_ble_eq_true rfl⟩ (WW_cellL (hasO_WO _ _ _) hK hP hw) hZ hP hD hK hN rfl hl rfl (Nat.le_of_ble_eq_true rfl) dL_isStep_431 ⟨Nat.le_of_ble_eq_true rfl, Nat.le_of_ble_eq_true rfl⟩ hS hA (fun w H locs hw hP hD hS => ?_)
    refine lv_istore (lv' := [(6, .int (rX4_count (oN S) (oH S) (oP S) 12)), (5, .int (rX2_difference (oN S))), (0, .ref (a 0 0)), (1, .ref (b 0 0)), (2, .int x), (3, .int y), (4, .int (x >>> (4 &&& 31)))]) hx hb dL_isStep_434 hl (by decide) rfl (fun ls hl => ?_)
    refine lv_aload_n hx hb dL_isStep_436 rfl (lv_at hl 2 rfl) ?_
    refine lv_iconst (v := 0) hx hb dL_isStep_437 (by decide) ?_
    refine lv_iconst (v := 0) hx hb dL_isStep_438 (by decide) ?_
    refine kE_callV (As := [.int 0, .int 0]) (rest := []) ⟨hx, hb, hml, hown, hts⟩ (kE_L (k_jar l D g tl tm a S 0 0) (WO g b S')) hw (cw_isStep_X4_jar hts) ⟨Nat.le_of_ble_eq_true rfl, Nat.le_of_ble_eq_true rfl⟩ (WW_cellL (hasO_WO _ _ _) hK hP hw) hZ hP hD hK hN rfl hl rfl (Nat.le_of_ble_eq_true rfl) dL_isStep_439 ⟨Nat.le_of_ble_eq_true rfl, Nat.le_of_ble_eq_true rfl⟩ hS hA (fun w H locs hw hP hD hS => ?_)
    refine lv_aload_n hx hb dL_isStep_442 rfl (lv_at hl 2 rfl) ?_
    refine lv_iconst (v := 1) hx hb dL_isStep_443 (by decide) ?_
    refine lv_iconst (v := 0) hx hb dL_isStep_444 (by decide) ?_
    refine kE_callV (As := [.int 1, .int 0]) (rest := [.int (rX4_jar (oN S) 0 0)]) ⟨hx, hb, hml, hown, hts⟩ (kE_L (k_jar l D g tl tm a S 1 0) (WO g b S')) hw (cw_isStep_X4_jar hts) ⟨Nat.le_of_ble_eq_true rfl, Nat.le_of_ble_eq_true rfl⟩ (WW_cellL (hasO_WO _ _ _) hK hP hw) hZ hP hD hK hN rfl hl rfl (Nat.le_of_ble_eq_true rfl) dL_isStep_445 ⟨Nat.le_of_ble_eq_true rfl, Nat.le_of_ble_eq_true rfl⟩ hS hA (fun w H locs hw hP hD hS => ?_)
    refine lv_iadd hx hb dL_isStep_448 ?_
    refine lv_istore (lv' := [(7, .int ((rX4_jar (oN S) 0 0) + (rX4_jar (oN S) 1 0))), (6, .int (rX4_count (oN S) (oH S) (oP S) 12)), (5, .int (rX2_difference (oN S))), (0, .ref (a 0 0)), (1, .ref (b 0 0)), (2, .int x), (3, .int y), (4, .int (x >>> (4 &&& 31)))]) hx hb dL_isStep_449 hl (by decide) rfl (fun ls hl => ?_)
    refine lv_aload_n hx hb dL_isStep_451 rfl (lv_at hl 3 rfl) ?_
    refine kE_callV (As := []) (rest := []) ⟨hx, hb, hml, hown, hts⟩ (kE_L (k_discharge l D g tl tm a S) (WO g b S')) hw (cw_isStep_X4_discharge hts) ⟨Nat.le_of_ble_eq_true rfl, Nat.le_of_ble_eq_true rfl⟩ (WW_cellL (hasO_WO _ _ _) hK hP hw) hZ hP hD hK hN rfl hl rfl (Nat.le_of_ble_eq_true rfl) dL_isStep_452 ⟨Nat.le_of_ble_eq_true rfl, Nat.le_of_ble_eq_true rfl⟩ hS hA (fun w H locs hw hP hD hS => ?_)
    refine lv_iload hx hb dL_isStep_455 (lv_at hl 2 rfl) ?_
    refine lv_icmp_ne (tgt := 514) hx hb dL_isStep_457 (by decide) (fun c2 => ?_) (fun c2 => ?_)
    · exact absurd f.1 c2
    refine lv_aload_n hx hb dL_isStep_460 rfl (lv_at hl 4 rfl) ?_
    refine kE_callV (As := []) (rest := []) ⟨hx, hb, hml, hown, hts⟩ (kE_R (k_discharge l D g tl tm b S') (WO g a (odis S))) hw (cw_isStep_X4_discharge hts) ⟨Nat.le_of_ble_eq_true rfl, Nat.le_of_ble_eq_true rfl⟩ (WW_cellR (hasO_WO _ _ _) hK hP hw) hZ hP hD hK hN rfl hl rfl (Nat.le_of_ble_eq_true rfl) dL_isStep_461 ⟨Nat.le_of_ble_eq_true rfl, Nat.le_of_ble_eq_true rfl⟩ hS hA (fun w H locs hw hP hD hS => ?_)
    refine lv_iload hx hb dL_isStep_464 (lv_at hl 2 rfl) ?_
    refine lv_icmp_ne (tgt := 514) hx hb dL_isStep_466 (by decide) (fun c3 => ?_) (fun c3 => ?_)
    · exact absurd f.2.1 c3
    refine lv_aload_n hx hb dL_isStep_469 rfl (lv_at hl 3 rfl) ?_
    refine lv_bipush (v := 12) hx hb dL_isStep_470 (by decide) ?_
    refine kE_callV (As := [.int 12]) (rest := []) ⟨hx, hb, hml, hown, hts⟩ (kE_L (k_count l D g tl tm a (odis S) 12) (WO g b (odis S'))) hw (cw_isStep_X4_count hts) ⟨Nat.le_of_ble_eq_true rfl, Nat.le_of_ble_eq_true rfl⟩ (WW_cellL (hasO_WO _ _ _) hK hP hw) hZ hP hD hK hN rfl hl rfl (Nat.le_of_ble_eq_true rfl) dL_isStep_472 ⟨Nat.le_of_ble_eq_true rfl, Nat.le_of_ble_eq_true rfl⟩ hS hA (fun w H locs hw hP hD hS => ?_)
    refine lv_iload hx hb dL_isStep_475 (lv_at hl 1 rfl) ?_
    refine lv_iload hx hb dL_isStep_477 (lv_at hl 0 rfl) ?_
    refine lv_iadd hx hb dL_isStep_479 ?_
    refine lv_icmp_ne (tgt := 514) hx hb dL_isStep_480 (by decide) (fun c4 => ?_) (fun c4 => ?_)
    · exact absurd ((f.2.2.1 _ _ _ _).1) c4
    refine lv_aload_n hx hb dL_isStep_483 rfl (lv_at hl 3 rfl) ?_
    refine lv_iconst (v := 0) hx hb dL_isStep_484 (by decide) ?_
    refine lv_iconst (v := 0) hx hb dL_isStep_485 (by decide) ?_
    refine kE_callV (As := [.int 0, .int 0]) (rest := []) ⟨hx, hb, hml, hown, hts⟩ (kE_L (k_jar l D g tl tm a (odis S) 0 0) (WO g b (odis S'))) hw (cw_isStep_X4_jar hts) ⟨Nat.le_of_ble_eq_true rfl, Nat.le_of_ble_eq_true rfl⟩ (WW_cellL (hasO_WO _ _ _) hK hP hw) hZ hP hD hK hN rfl hl rfl (Nat.le_of_ble_eq_true rfl) dL_isStep_486 ⟨Nat.le_of_ble_eq_true rfl, Nat.le_of_ble_eq_true rfl⟩ hS hA (fun w H locs hw hP hD hS => ?_)
    refine lv_if_ne (tgt := 514) hx hb dL_isStep_489 (by decide) (fun c5 => ?_) (fun c5 => ?_)
    · exact absurd f.2.2.2.1 c5
    refine lv_aload_n hx hb dL_isStep_492 rfl (lv_at hl 3 rfl) ?_
    refine lv_iconst (v := 1) hx hb dL_isStep_493 (by decide) ?_
    refine lv_iconst (v := 0) hx hb dL_isStep_494 (by decide) ?_
    refine kE_callV (As := [.int 1, .int 0]) (rest := []) ⟨hx, hb, hml, hown, hts⟩ (kE_L (k_jar l D g tl tm a (odis S) 1 0) (WO g b (odis S'))) hw (cw_isStep_X4_jar hts) ⟨Nat.le_of_ble_eq_true rfl, Nat.le_of_ble_eq_true rfl⟩ (WW_cellL (hasO_WO _ _ _) hK hP hw) hZ hP hD hK hN rfl hl rfl (Nat.le_of_ble_eq_true rfl) dL_isStep_495 ⟨Nat.le_of_ble_eq_true rfl, Nat.le_of_ble_eq_true rfl⟩ hS hA (fun w H locs hw hP hD hS => ?_)
    refine lv_if_ne (tgt := 514) hx hb dL_isStep_498 (by decide) (fun c6 => ?_) (fun c6 => ?_)
    · exact absurd f.2.2.2.2.1 c6
    refine lv_aload_n hx hb dL_isStep_501 rfl (lv_at hl 3 rfl) ?_
    refine lv_bipush (v := 8) hx hb dL_isStep_502 (by decide) ?_
    refine kE_callV (As := [.int 8]) (rest := []) ⟨hx, hb, hml, hown, hts⟩ (kE_L (k_count l D g tl tm a (odis S) 8) (WO g b (odis S'))) hw (cw_isStep_X4_count hts) ⟨Nat.le_of_ble_eq_true rfl, Nat.le_of_ble_eq_true rfl⟩ (WW_cellL (hasO_WO _ _ _) hK hP hw) hZ hP hD hK hN rfl hl rfl (Nat.le_of_ble_eq_true rfl) dL_isStep_504 ⟨Nat.le_of_ble_eq_true rfl, Nat.le_of_ble_eq_true rfl⟩ hS hA (fun w H locs hw hP hD hS => ?_)
    refine lv_if_ne (tgt := 514) hx hb dL_isStep_507 (by decide) (fun c7 => ?_) (fun c7 => ?_)
    · exact absurd ((f.2.2.1 _ (oH S) _ (oP S)).2) c7
    refine lv_iconst (v := 1) hx hb dL_isStep_510 (by decide) ?_
    refine lv_goto (tgt := 515) hx hb dL_isStep_511 (by decide) ?_
    exact kE_zret hx hb hr (by decide) hlocks ⟨_, _, f.2.2.2.2.2, hw⟩ hP hD hS (Nat.le_of_ble_eq_true rfl) (Nat.le_of_ble_eq_true rfl) rfl dL_isStep_515
  · refine lv_aload_n hx hb dL_isStep_405 rfl (lv_at hl 0 rfl) ?_
    refine kE_callV (As := []) (rest := []) ⟨hx, hb, hml, hown, hts⟩ (kE_L (k_until l D g tl tm a S) (WO g b S')) hw (cw_isStep_X4_untilSpark hts) ⟨Nat.le_of_ble_eq_true rfl, Nat.le_of_ble_eq_true rfl⟩ (WW_cellL (hasO_WO _ _ _) hK hP hw) hZ hP hD hK hN rfl hl rfl (Nat.le_of_ble_eq_true rfl) dL_isStep_406 ⟨Nat.le_of_ble_eq_true rfl, Nat.le_of_ble_eq_true rfl⟩ hS hA (fun w H locs hw hP hD hS => ?_)
    refine lv_aload_n hx hb dL_isStep_409 rfl (lv_at hl 1 rfl) ?_
    refine kE_callV (As := []) (rest := [.int (rX4_untilSpark (oN S) jm_0)]) ⟨hx, hb, hml, hown, hts⟩ (kE_R (k_until l D g tl tm b S') (WO g a S)) hw (cw_isStep_X4_untilSpark hts) ⟨Nat.le_of_ble_eq_true rfl, Nat.le_of_ble_eq_true rfl⟩ (WW_cellR (hasO_WO _ _ _) hK hP hw) hZ hP hD hK hN rfl hl rfl (Nat.le_of_ble_eq_true rfl) dL_isStep_410 ⟨Nat.le_of_ble_eq_true rfl, Nat.le_of_ble_eq_true rfl⟩ hS hA (fun w H locs hw hP hD hS => ?_)
    refine lv_icmp_ne (tgt := 420) hx hb dL_isStep_413 (by decide) (fun c8 => ?_) (fun c8 => ?_)
    · exact absurd fs.1 c8
    refine lv_iconst (v := 1) hx hb dL_isStep_416 (by decide) ?_
    refine lv_goto (tgt := 421) hx hb dL_isStep_417 (by decide) ?_
    exact kE_zret hx hb hr (by decide) hlocks ⟨_, _, h.up, hw⟩ hP hD hS (Nat.le_of_ble_eq_true rfl) (Nat.le_of_ble_eq_true rfl) rfl dL_isStep_421
set_option maxHeartbeats 8000000 in
set_option maxRecDepth 20000 in
theorem st_516 {x y : Int32} (hx : p.tables.exec = Jvm.exec) (hb : c.code = cL_isStep) (hr : meth.sig.returnType = some .boolean) (hml : c.maxLocals = 10) (hts : ∀ w ∈ wsL_isStep, w.before args s = true) (hown : s.vm.findClass RL = some m.cls) (hlocks : meth.locks = false) (hK : va_K D vwCl (jk_T g) s) (hN : jk_N s) (hZ : jk_Z tl tm A s) (hA : ∀ q, s.heap.size ≤ q → A q) (h : rel k0 S S') (hk0 : k0 < 900) (hw : bothW (WO g a S) (WO g b S') w) (hP : va_P D vwCl w H) (hD : va_D A w) (hS : va_S A s.heap H locs) (hl : lv_has ls 10 [(0, .ref (a 0 0)), (1, .ref (b 0 0)), (2, .int x), (3, .int y), (4, .int (x >>> (4 &&& 31)))]) : W p l e ({ frames := 9, cells := 16, slots := 168, locals := 205 }) s m args below meth c H locs 0 0 (MQ below (jk_QC (some (.int 1)) D (fun o : {w // (fun w => ∃ S2 S2', rel (k0 + 1) S2 S2' ∧ bothW (WO g a S2) (WO g b S2') w) w} => o.1) A) args s 16 168 A) (F0 m 516 ls []) := by
  refine lv_iload hx hb dL_isStep_516 (lv_at hl 4 rfl) ?_
  refine lv_iconst (v := 4) hx hb dL_isStep_518 (by decide) ?_
  refine kE_callS (As := [.int (x >>> (4 &&& 31)), .int 4]) (rest := []) ⟨hx, hb, hml, hown, hts⟩ (e_up l D g tl tm (x >>> (4 &&& 31)) (n := 4) (by omega) (by omega) _) hw (cw_isStep_L_up hts) ⟨Nat.le_of_ble_eq_true rfl, Nat.le_of_ble_eq_true rfl⟩ hZ hP hD hK hN rfl hl rfl (Nat.le_of_ble_eq_true rfl) dL_isStep_519 ⟨Nat.le_of_ble_eq_true rfl, Nat.le_of_ble_eq_true rfl⟩ hS hA (fun w H locs hw hP hD hS => ?_)
  refine lv_if_le (tgt := 527) hx hb dL_isStep_522 (by decide) (fun c1 => ?_) (fun c1 => ?_)
  · refine lv_iload_n hx hb dL_isStep_527 rfl (lv_at hl 3 rfl) ?_
    refine lv_iconst (v := 2) hx hb dL_isStep_528 (by decide) ?_
    refine kE_callS (As := [.int y, .int 2]) (rest := []) ⟨hx, hb, hml, hown, hts⟩ (e_up l D g tl tm y (n := 2) (by omega) (by omega) _) hw (cw_isStep_L_up hts) ⟨Nat.le_of_ble_eq_true rfl, Nat.le_of_ble_eq_true rfl⟩ hZ hP hD hK hN rfl hl rfl (Nat.le_of_ble_eq_true rfl) dL_isStep_529 ⟨Nat.le_of_ble_eq_true rfl, Nat.le_of_ble_eq_true rfl⟩ hS hA (fun w H locs hw hP hD hS => ?_)
    have hv := upN_lt y (show 0 < 2 by omega)
    have f := st_wipe h hk0 (d := upN y 2) hv
    generalize upN y 2 = d9 at f hv ⊢
    refine lv_istore (lv' := [(5, .int (nI d9)), (0, .ref (a 0 0)), (1, .ref (b 0 0)), (2, .int x), (3, .int y), (4, .int (x >>> (4 &&& 31)))]) hx hb dL_isStep_532 hl (by decide) rfl (fun ls hl => ?_)
    refine lv_aload_n hx hb dL_isStep_534 rfl (lv_at hl 1 rfl) ?_
    refine lv_iload hx hb dL_isStep_535 (lv_at hl 0 rfl) ?_
    refine lv_iconst (v := 1) hx hb dL_isStep_537 (by decide) ?_
    refine kE_callV (As := [.int (nI d9), .int 1]) (rest := []) ⟨hx, hb, hml, hown, hts⟩ (kE_L (k_disc l D g tl tm a S (nI d9) 1) (WO g b S')) hw (cw_isStep_X4_disc hts) ⟨Nat.le_of_ble_eq_true rfl, Nat.le_of_ble_eq_true rfl⟩ (WW_cellL (hasO_WO _ _ _) hK hP hw) hZ hP hD hK hN rfl hl rfl (Nat.le_of_ble_eq_true rfl) dL_isStep_538 ⟨Nat.le_of_ble_eq_true rfl, Nat.le_of_ble_eq_true rfl⟩ hS hA (fun w H locs hw hP hD hS => ?_)
    refine lv_aload_n hx hb dL_isStep_541 rfl (lv_at hl 1 rfl) ?_
    refine lv_iload hx hb dL_isStep_542 (lv_at hl 0 rfl) ?_
    refine lv_iconst (v := 2) hx hb dL_isStep_544 (by decide) ?_
    refine kE_callV (As := [.int (nI d9), .int 2]) (rest := [.int (rX4_disc (oN S) (nI d9) 1)]) ⟨hx, hb, hml, hown, hts⟩ (kE_L (k_disc l D g tl tm a S (nI d9) 2) (WO g b S')) hw (cw_isStep_X4_disc hts) ⟨Nat.le_of_ble_eq_true rfl, Nat.le_of_ble_eq_true rfl⟩ (WW_cellL (hasO_WO _ _ _) hK hP hw) hZ hP hD hK hN rfl hl rfl (Nat.le_of_ble_eq_true rfl) dL_isStep_545 ⟨Nat.le_of_ble_eq_true rfl, Nat.le_of_ble_eq_true rfl⟩ hS hA (fun w H locs hw hP hD hS => ?_)
    refine lv_iadd hx hb dL_isStep_548 ?_
    refine lv_istore (lv' := [(6, .int ((rX4_disc (oN S) (nI d9) 1) + (rX4_disc (oN S) (nI d9) 2))), (5, .int (nI d9)), (0, .ref (a 0 0)), (1, .ref (b 0 0)), (2, .int x), (3, .int y), (4, .int (x >>> (4 &&& 31)))]) hx hb dL_isStep_549 hl (by decide) rfl (fun ls hl => ?_)
    refine lv_aload_n hx hb dL_isStep_551 rfl (lv_at hl 2 rfl) ?_
    refine lv_bipush (v := 12) hx hb dL_isStep_552 (by decide) ?_
    refine kE_callV (As := [.int 12]) (rest := []) ⟨hx, hb, hml, hown, hts⟩ (kE_L (k_count l D g tl tm a S 12) (WO g b S')) hw (cw_isStep_X4_count hts) ⟨Nat.le_of_ble_eq_true rfl, Nat.le_of_ble_eq_true rfl⟩ (WW_cellL (hasO_WO _ _ _) hK hP hw) hZ hP hD hK hN rfl hl rfl (Nat.le_of_ble_eq_true rfl) dL_isStep_554 ⟨Nat.le_of_ble_eq_true rfl, Nat.le_of_ble_eq_true rfl⟩ hS hA (fun w H locs hw hP hD hS => ?_)
    refine lv_istore (lv' := [(7, .int (rX4_count (oN S) (oH S) (oP S) 12)), (6, .int ((rX4_disc (oN S) (nI d9) 1) + (rX4_disc (oN S) (nI d9) 2))), (5, .int (nI d9)), (0, .ref (a 0 0)), (1, .ref (b 0 0)), (2, .int x), (3, .int y), (4, .int (x >>> (4 &&& 31)))]) hx hb dL_isStep_557 hl (by decide) rfl (fun ls hl => ?_)
    refine lv_aload_n hx hb dL_isStep_559 rfl (lv_at hl 3 rfl) ?_
    refine lv_iload hx hb dL_isStep_560 (lv_at hl 2 rfl) ?_
    refine lv_iconst (v := 0) hx hb dL_isStep_562 (by decide) ?_
    refine kE_callV (As := [.int (nI d9), .int 0]) (rest := []) ⟨hx, hb, hml, hown, hts⟩ (kE_L (k_disc l D g tl tm a S (nI d9) 0) (WO g b S')) hw (cw_isStep_X4_disc hts) ⟨Nat.le_of_ble_eq_true rfl, Nat.le_of_ble_eq_true rfl⟩ (WW_cellL (hasO_WO _ _ _) hK hP hw) hZ hP hD hK hN rfl hl rfl (Nat.le_of_ble_eq_true rfl) dL_isStep_563 ⟨Nat.le_of_ble_eq_true rfl, Nat.le_of_ble_eq_true rfl⟩ hS hA (fun w H locs hw hP hD hS => ?_)
    refine lv_istore (lv' := [(8, .int (rX4_disc (oN S) (nI d9) 0)), (7, .int (rX4_count (oN S) (oH S) (oP S) 12)), (6, .int ((rX4_disc (oN S) (nI d9) 1) + (rX4_disc (oN S) (nI d9) 2))), (5, .int (nI d9)), (0, .ref (a 0 0)), (1, .ref (b 0 0)), (2, .int x), (3, .int y), (4, .int (x >>> (4 &&& 31)))]) hx hb dL_isStep_566 hl (by decide) rfl (fun ls hl => ?_)
    refine lv_aload_n hx hb dL_isStep_568 rfl (lv_at hl 4 rfl) ?_
    refine lv_iload hx hb dL_isStep_569 (lv_at hl 3 rfl) ?_
    refine kE_callV (As := [.int (nI d9)]) (rest := []) ⟨hx, hb, hml, hown, hts⟩ (kE_L (k_wipeDisc l D g tl tm a S (nI d9)) (WO g b S')) hw (cw_isStep_X4_wipeDisc hts) ⟨Nat.le_of_ble_eq_true rfl, Nat.le_of_ble_eq_true rfl⟩ (WW_cellL (hasO_WO _ _ _) hK hP hw) hZ hP hD hK hN rfl hl rfl (Nat.le_of_ble_eq_true rfl) dL_isStep_571 ⟨Nat.le_of_ble_eq_true rfl, Nat.le_of_ble_eq_true rfl⟩ hS hA (fun w H locs hw hP hD hS => ?_)
    refine lv_iload hx hb dL_isStep_574 (lv_at hl 2 rfl) ?_
    refine lv_icmp_ne (tgt := 628) hx hb dL_isStep_576 (by decide) (fun c2 => ?_) (fun c2 => ?_)
    · exact absurd f.1 c2
    refine lv_aload_n hx hb dL_isStep_579 rfl (lv_at hl 5 rfl) ?_
    refine lv_iload hx hb dL_isStep_580 (lv_at hl 3 rfl) ?_
    refine kE_callV (As := [.int (nI d9)]) (rest := []) ⟨hx, hb, hml, hown, hts⟩ (kE_R (k_wipeDisc l D g tl tm b S' (nI d9)) (WO g a (owipe S (nI d9)))) hw (cw_isStep_X4_wipeDisc hts) ⟨Nat.le_of_ble_eq_true rfl, Nat.le_of_ble_eq_true rfl⟩ (WW_cellR (hasO_WO _ _ _) hK hP hw) hZ hP hD hK hN rfl hl rfl (Nat.le_of_ble_eq_true rfl) dL_isStep_582 ⟨Nat.le_of_ble_eq_true rfl, Nat.le_of_ble_eq_true rfl⟩ hS hA (fun w H locs hw hP hD hS => ?_)
    refine lv_iload hx hb dL_isStep_585 (lv_at hl 2 rfl) ?_
    refine lv_icmp_ne (tgt := 628) hx hb dL_isStep_587 (by decide) (fun c3 => ?_) (fun c3 => ?_)
    · exact absurd f.2.1 c3
    refine lv_aload_n hx hb dL_isStep_590 rfl (lv_at hl 4 rfl) ?_
    refine lv_bipush (v := 12) hx hb dL_isStep_591 (by decide) ?_
    refine kE_callV (As := [.int 12]) (rest := []) ⟨hx, hb, hml, hown, hts⟩ (kE_L (k_count l D g tl tm a (owipe S (nI d9)) 12) (WO g b (owipe S' (nI d9)))) hw (cw_isStep_X4_count hts) ⟨Nat.le_of_ble_eq_true rfl, Nat.le_of_ble_eq_true rfl⟩ (WW_cellL (hasO_WO _ _ _) hK hP hw) hZ hP hD hK hN rfl hl rfl (Nat.le_of_ble_eq_true rfl) dL_isStep_593 ⟨Nat.le_of_ble_eq_true rfl, Nat.le_of_ble_eq_true rfl⟩ hS hA (fun w H locs hw hP hD hS => ?_)
    refine lv_iload hx hb dL_isStep_596 (lv_at hl 1 rfl) ?_
    refine lv_iload hx hb dL_isStep_598 (lv_at hl 0 rfl) ?_
    refine lv_iadd hx hb dL_isStep_600 ?_
    refine lv_icmp_ne (tgt := 628) hx hb dL_isStep_601 (by decide) (fun c4 => ?_) (fun c4 => ?_)
    · exact absurd (f.2.2.1 _ _ _ _) c4
    refine lv_aload_n hx hb dL_isStep_604 rfl (lv_at hl 4 rfl) ?_
    refine lv_iload hx hb dL_isStep_605 (lv_at hl 3 rfl) ?_
    refine lv_iconst (v := 3) hx hb dL_isStep_607 (by decide) ?_
    refine kE_callV (As := [.int (nI d9), .int 3]) (rest := []) ⟨hx, hb, hml, hown, hts⟩ (kE_L (k_disc l D g tl tm a (owipe S (nI d9)) (nI d9) 3) (WO g b (owipe S' (nI d9)))) hw (cw_isStep_X4_disc hts) ⟨Nat.le_of_ble_eq_true rfl, Nat.le_of_ble_eq_true rfl⟩ (WW_cellL (hasO_WO _ _ _) hK hP hw) hZ hP hD hK hN rfl hl rfl (Nat.le_of_ble_eq_true rfl) dL_isStep_608 ⟨Nat.le_of_ble_eq_true rfl, Nat.le_of_ble_eq_true rfl⟩ hS hA (fun w H locs hw hP hD hS => ?_)
    refine lv_if_ne (tgt := 628) hx hb dL_isStep_611 (by decide) (fun c5 => ?_) (fun c5 => ?_)
    · exact absurd f.2.2.2.1 c5
    refine lv_aload_n hx hb dL_isStep_614 rfl (lv_at hl 4 rfl) ?_
    refine lv_iload hx hb dL_isStep_615 (lv_at hl 3 rfl) ?_
    refine lv_iconst (v := 4) hx hb dL_isStep_617 (by decide) ?_
    refine kE_callV (As := [.int (nI d9), .int 4]) (rest := []) ⟨hx, hb, hml, hown, hts⟩ (kE_L (k_disc l D g tl tm a (owipe S (nI d9)) (nI d9) 4) (WO g b (owipe S' (nI d9)))) hw (cw_isStep_X4_disc hts) ⟨Nat.le_of_ble_eq_true rfl, Nat.le_of_ble_eq_true rfl⟩ (WW_cellL (hasO_WO _ _ _) hK hP hw) hZ hP hD hK hN rfl hl rfl (Nat.le_of_ble_eq_true rfl) dL_isStep_618 ⟨Nat.le_of_ble_eq_true rfl, Nat.le_of_ble_eq_true rfl⟩ hS hA (fun w H locs hw hP hD hS => ?_)
    refine lv_if_ne (tgt := 628) hx hb dL_isStep_621 (by decide) (fun c6 => ?_) (fun c6 => ?_)
    · exact absurd f.2.2.2.2.1 c6
    refine lv_iconst (v := 1) hx hb dL_isStep_624 (by decide) ?_
    refine lv_goto (tgt := 629) hx hb dL_isStep_625 (by decide) ?_
    exact kE_zret hx hb hr (by decide) hlocks ⟨_, _, f.2.2.2.2.2, hw⟩ hP hD hS (Nat.le_of_ble_eq_true rfl) (Nat.le_of_ble_eq_true rfl) rfl dL_isStep_629
  · refine lv_iconst (v := 1) hx hb dL_isStep_525 (by decide) ?_
    exact kE_zret hx hb hr (by decide) hlocks ⟨_, _, h.up, hw⟩ hP hD hS (Nat.le_of_ble_eq_true rfl) (Nat.le_of_ble_eq_true rfl) rfl dL_isStep_526
set_option maxHeartbeats 8000000 in
set_option maxRecDepth 20000 in
theorem st_630 {x y : Int32} (hx : p.tables.exec = Jvm.exec) (hb : c.code = cL_isStep) (hr : meth.sig.returnType = some .boolean) (hml : c.maxLocals = 10) (hts : ∀ w ∈ wsL_isStep, w.before args s = true) (hown : s.vm.findClass RL = some m.cls) (hlocks : meth.locks = false) (hK : va_K D vwCl (jk_T g) s) (hN : jk_N s) (hZ : jk_Z tl tm A s) (hA : ∀ q, s.heap.size ≤ q → A q) (h : rel k0 S S') (hk0 : k0 < 900) (hw : bothW (WO g a S) (WO g b S') w) (hP : va_P D vwCl w H) (hD : va_D A w) (hS : va_S A s.heap H locs) (hl : lv_has ls 10 [(0, .ref (a 0 0)), (1, .ref (b 0 0)), (2, .int x), (3, .int y), (4, .int (x >>> (4 &&& 31)))]) : W p l e ({ frames := 9, cells := 16, slots := 168, locals := 205 }) s m args below meth c H locs 0 0 (MQ below (jk_QC (some (.int 1)) D (fun o : {w // (fun w => ∃ S2 S2', rel (k0 + 1) S2 S2' ∧ bothW (WO g a S2) (WO g b S2') w) w} => o.1) A) args s 16 168 A) (F0 m 630 ls []) := by
  refine lv_aload_n hx hb dL_isStep_630 rfl (lv_at hl 0 rfl) ?_
  refine lv_bipush (v := 14) hx hb dL_isStep_631 (by decide) ?_
  refine kE_callV (As := [.int 14]) (rest := []) ⟨hx, hb, hml, hown, hts⟩ (kE_L (k_count l D g tl tm a S 14) (WO g b S')) hw (cw_isStep_X4_count hts) ⟨Nat.le_of_ble_eq_true rfl, Nat.le_of_ble_eq_true rfl⟩ (WW_cellL (hasO_WO _ _ _) hK hP hw) hZ hP hD hK hN rfl hl rfl (Nat.le_of_ble_eq_true rfl) dL_isStep_633 ⟨Nat.le_of_ble_eq_true rfl, Nat.le_of_ble_eq_true rfl⟩ hS hA (fun w H locs hw hP hD hS => ?_)
  refine lv_if_eq (tgt := 650) hx hb dL_isStep_636 (by decide) (fun c1 => ?_) (fun c1 => ?_)
  · refine lv_iconst (v := 1) hx hb dL_isStep_650 (by decide) ?_
    refine lv_goto (tgt := 655) hx hb dL_isStep_651 (by decide) ?_
    exact kE_zret hx hb hr (by decide) hlocks ⟨_, _, h.up, hw⟩ hP hD hS (Nat.le_of_ble_eq_true rfl) (Nat.le_of_ble_eq_true rfl) rfl dL_isStep_655
  · obtain ⟨M9, e1, e2, f⟩ := h.undo hk0 c1
    have c9 : ¬ jh_sz (oH S') = 0 := by rw [h.2.2.2.2.1]; exact c1
    refine lv_aload_n hx hb dL_isStep_639 rfl (lv_at hl 0 rfl) ?_
    refine kE_callV (As := []) (rest := []) ⟨hx, hb, hml, hown, hts⟩ (kE_L (k_undo l D g tl tm a S c1 e1) (WO g b S')) hw (cw_isStep_X4_undo hts) ⟨Nat.le_of_ble_eq_true rfl, Nat.le_of_ble_eq_true rfl⟩ (WW_cellL (hasO_WO _ _ _) hK hP hw) hZ hP hD hK hN rfl hl rfl (Nat.le_of_ble_eq_true rfl) dL_isStep_640 ⟨Nat.le_of_ble_eq_true rfl, Nat.le_of_ble_eq_true rfl⟩ hS hA (fun w H locs hw hP hD hS => ?_)
    refine lv_aload_n hx hb dL_isStep_643 rfl (lv_at hl 1 rfl) ?_
    refine kE_callV (As := []) (rest := [.int (jh_sz (oH S) - 1)]) ⟨hx, hb, hml, hown, hts⟩ (kE_R (k_undo l D g tl tm b S' c9 e2) (WO g a (M9, oF S, oG S, jh_usz (oH S) (jh_sz (oH S) - 1), oQ S, oP S))) hw (cw_isStep_X4_undo hts) ⟨Nat.le_of_ble_eq_true rfl, Nat.le_of_ble_eq_true rfl⟩ (WW_cellR (hasO_WO _ _ _) hK hP hw) hZ hP hD hK hN rfl hl rfl (Nat.le_of_ble_eq_true rfl) dL_isStep_644 ⟨Nat.le_of_ble_eq_true rfl, Nat.le_of_ble_eq_true rfl⟩ hS hA (fun w H locs hw hP hD hS => ?_)
    refine lv_icmp_ne (tgt := 654) hx hb dL_isStep_647 (by decide) (fun c2 => ?_) (fun c2 => ?_)
    · exact absurd (by rw [h.2.2.2.2.1]) c2
    refine lv_iconst (v := 1) hx hb dL_isStep_650 (by decide) ?_
    refine lv_goto (tgt := 655) hx hb dL_isStep_651 (by decide) ?_
    exact kE_zret hx hb hr (by decide) hlocks ⟨_, _, f, hw⟩ hP hD hS (Nat.le_of_ble_eq_true rfl) (Nat.le_of_ble_eq_true rfl) rfl dL_isStep_655
set_option maxHeartbeats 8000000 in
set_option maxRecDepth 20000 in
theorem st_656 {x y : Int32} (hx : p.tables.exec = Jvm.exec) (hb : c.code = cL_isStep) (hr : meth.sig.returnType = some .boolean) (hml : c.maxLocals = 10) (hts : ∀ w ∈ wsL_isStep, w.before args s = true) (hown : s.vm.findClass RL = some m.cls) (hlocks : meth.locks = false) (hK : va_K D vwCl (jk_T g) s) (hN : jk_N s) (hZ : jk_Z tl tm A s) (hA : ∀ q, s.heap.size ≤ q → A q) (h : rel k0 S S') (hk0 : k0 < 900) (hw : bothW (WO g a S) (WO g b S') w) (hP : va_P D vwCl w H) (hD : va_D A w) (hS : va_S A s.heap H locs) (hl : lv_has ls 10 [(0, .ref (a 0 0)), (1, .ref (b 0 0)), (2, .int x), (3, .int y), (4, .int (x >>> (4 &&& 31)))]) : W p l e ({ frames := 9, cells := 16, slots := 168, locals := 205 }) s m args below meth c H locs 0 0 (MQ below (jk_QC (some (.int 1)) D (fun o : {w // (fun w => ∃ S2 S2', rel (k0 + 1) S2 S2' ∧ bothW (WO g a S2) (WO g b S2') w) w} => o.1) A) args s 16 168 A) (F0 m 656 ls []) := by
  refine lv_iload_n hx hb dL_isStep_656 rfl (lv_at hl 3 rfl) ?_
  refine lv_iconst (v := 2) hx hb dL_isStep_657 (by decide) ?_
  refine kE_callS (As := [.int y, .int 2]) (rest := []) ⟨hx, hb, hml, hown, hts⟩ (e_up l D g tl tm y (n := 2) (by omega) (by omega) _) hw (cw_isStep_L_up hts) ⟨Nat.le_of_ble_eq_true rfl, Nat.le_of_ble_eq_true rfl⟩ hZ hP hD hK hN rfl hl rfl (Nat.le_of_ble_eq_true rfl) dL_isStep_658 ⟨Nat.le_of_ble_eq_true rfl, Nat.le_of_ble_eq_true rfl⟩ hS hA (fun w H locs hw hP hD hS => ?_)
  refine lv_if_ne (tgt := 695) hx hb dL_isStep_661 (by decide) (fun c1 => ?_) (fun c1 => ?_)
  · have hv := upN_lt (x >>> (4 &&& 31)) (show 0 < 2 by omega)
    rcases h.slot (upN (x >>> (4 &&& 31)) 2) with ⟨g1, g2⟩ | ⟨M9, g1, g2, g3⟩
    · refine lv_aload_n hx hb dL_isStep_695 rfl (lv_at hl 0 rfl) ?_
      refine lv_iload hx hb dL_isStep_696 (lv_at hl 4 rfl) ?_
      refine lv_iconst (v := 2) hx hb dL_isStep_698 (by decide) ?_
      refine kE_callS (As := [.int (x >>> (4 &&& 31)), .int 2]) (rest := [.ref (a 0 0)]) ⟨hx, hb, hml, hown, hts⟩ (e_up l D g tl tm (x >>> (4 &&& 31)) (n := 2) (by omega) (by omega) _) hw (cw_isStep_L_up hts) ⟨Nat.le_of_ble_eq_true rfl, Nat.le_of_ble_eq_true rfl⟩ hZ hP hD hK hN rfl hl rfl (Nat.le_of_ble_eq_true rfl) dL_isStep_699 ⟨Nat.le_of_ble_eq_true rfl, Nat.le_of_ble_eq_true rfl⟩ hS hA (fun w H locs hw hP hD hS => ?_)
      refine kE_callV (As := [.int (nI (upN (x >>> (4 &&& 31)) 2))]) (rest := []) ⟨hx, hb, hml, hown, hts⟩ (kE_L (k_restN l D g tl tm a S hv g1) (WO g b S')) hw (cw_isStep_X4_restore hts) ⟨Nat.le_of_ble_eq_true rfl, Nat.le_of_ble_eq_true rfl⟩ (WW_cellL (hasO_WO _ _ _) hK hP hw) hZ hP hD hK hN rfl hl rfl (Nat.le_of_ble_eq_true rfl) dL_isStep_702 ⟨Nat.le_of_ble_eq_true rfl, Nat.le_of_ble_eq_true rfl⟩ hS hA (fun w H locs hw hP hD hS => ?_)
      refine lv_aload_n hx hb dL_isStep_705 rfl (lv_at hl 1 rfl) ?_
      refine lv_iload hx hb dL_isStep_706 (lv_at hl 4 rfl) ?_
      refine lv_iconst (v := 2) hx hb dL_isStep_708 (by decide) ?_
      refine kE_callS (As := [.int (x >>> (4 &&& 31)), .int 2]) (rest := [.ref (b 0 0), .int (-1000005)]) ⟨hx, hb, hml, hown, hts⟩ (e_up l D g tl tm (x >>> (4 &&& 31)) (n := 2) (by omega) (by omega) _) hw (cw_isStep_L_up hts) ⟨Nat.le_of_ble_eq_true rfl, Nat.le_of_ble_eq_true rfl⟩ hZ hP hD hK hN rfl hl rfl (Nat.le_of_ble_eq_true rfl) dL_isStep_709 ⟨Nat.le_of_ble_eq_true rfl, Nat.le_of_ble_eq_true rfl⟩ hS hA (fun w H locs hw hP hD hS => ?_)
      refine kE_callV (As := [.int (nI (upN (x >>> (4 &&& 31)) 2))]) (rest := [.int (-1000005)]) ⟨hx, hb, hml, hown, hts⟩ (kE_R (k_restN l D g tl tm b S' hv g2) (WO g a S)) hw (cw_isStep_X4_restore hts) ⟨Nat.le_of_ble_eq_true rfl, Nat.le_of_ble_eq_true rfl⟩ (WW_cellR (hasO_WO _ _ _) hK hP hw) hZ hP hD hK hN rfl hl rfl (Nat.le_of_ble_eq_true rfl) dL_isStep_712 ⟨Nat.le_of_ble_eq_true rfl, Nat.le_of_ble_eq_true rfl⟩ hS hA (fun w H locs hw hP hD hS => ?_)
      refine lv_icmp_ne (tgt := 722) hx hb dL_isStep_715 (by decide) (fun c2 => ?_) (fun c2 => ?_)
      · exact absurd rfl c2
      refine lv_iconst (v := 1) hx hb dL_isStep_718 (by decide) ?_
      refine lv_goto (tgt := 723) hx hb dL_isStep_719 (by decide) ?_
      exact kE_zret hx hb hr (by decide) hlocks ⟨_, _, h.up, hw⟩ hP hD hS (Nat.le_of_ble_eq_true rfl) (Nat.le_of_ble_eq_true rfl) rfl dL_isStep_723
    · refine lv_aload_n hx hb dL_isStep_695 rfl (lv_at hl 0 rfl) ?_
      refine lv_iload hx hb dL_isStep_696 (lv_at hl 4 rfl) ?_
      refine lv_iconst (v := 2) hx hb dL_isStep_698 (by decide) ?_
      refine kE_callS (As := [.int (x >>> (4 &&& 31)), .int 2]) (rest := [.ref (a 0 0)]) ⟨hx, hb, hml, hown, hts⟩ (e_up l D g tl tm (x >>> (4 &&& 31)) (n := 2) (by omega) (by omega) _) hw (cw_isStep_L_up hts) ⟨Nat.le_of_ble_eq_true rfl, Nat.le_of_ble_eq_true rfl⟩ hZ hP hD hK hN rfl hl rfl (Nat.le_of_ble_eq_true rfl) dL_isStep_699 ⟨Nat.le_of_ble_eq_true rfl, Nat.le_of_ble_eq_true rfl⟩ hS hA (fun w H locs hw hP hD hS => ?_)
      refine kE_callV (As := [.int (nI (upN (x >>> (4 &&& 31)) 2))]) (rest := []) ⟨hx, hb, hml, hown, hts⟩ (kE_L (k_restS l D g tl tm a S hv g1) (WO g b S')) hw (cw_isStep_X4_restore hts) ⟨Nat.le_of_ble_eq_true rfl, Nat.le_of_ble_eq_true rfl⟩ (WW_cellL (hasO_WO _ _ _) hK hP hw) hZ hP hD hK hN rfl hl rfl (Nat.le_of_ble_eq_true rfl) dL_isStep_702 ⟨Nat.le_of_ble_eq_true rfl, Nat.le_of_ble_eq_true rfl⟩ hS hA (fun w H locs hw hP hD hS => ?_)
      refine lv_aload_n hx hb dL_isStep_705 rfl (lv_at hl 1 rfl) ?_
      refine lv_iload hx hb dL_isStep_706 (lv_at hl 4 rfl) ?_
      refine lv_iconst (v := 2) hx hb dL_isStep_708 (by decide) ?_
      refine kE_callS (As := [.int (x >>> (4 &&& 31)), .int 2]) (rest := [.ref (b 0 0), .int (jm_tu M9)]) ⟨hx, hb, hml, hown, hts⟩ (e_up l D g tl tm (x >>> (4 &&& 31)) (n := 2) (by omega) (by omega) _) hw (cw_isStep_L_up hts) ⟨Nat.le_of_ble_eq_true rfl, Nat.le_of_ble_eq_true rfl⟩ hZ hP hD hK hN rfl hl rfl (Nat.le_of_ble_eq_true rfl) dL_isStep_709 ⟨Nat.le_of_ble_eq_true rfl, Nat.le_of_ble_eq_true rfl⟩ hS hA (fun w H locs hw hP hD hS => ?_)
      refine kE_callV (As := [.int (nI (upN (x >>> (4 &&& 31)) 2))]) (rest := [.int (jm_tu M9)]) ⟨hx, hb, hml, hown, hts⟩ (kE_R (k_restS l D g tl tm b S' hv g2) (WO g a (orc S M9))) hw (cw_isStep_X4_restore hts) ⟨Nat.le_of_ble_eq_true rfl, Nat.le_of_ble_eq_true rfl⟩ (WW_cellR (hasO_WO _ _ _) hK hP hw) hZ hP hD hK hN rfl hl rfl (Nat.le_of_ble_eq_true rfl) dL_isStep_712 ⟨Nat.le_of_ble_eq_true rfl, Nat.le_of_ble_eq_true rfl⟩ hS hA (fun w H locs hw hP hD hS => ?_)
      refine lv_icmp_ne (tgt := 722) hx hb dL_isStep_715 (by decide) (fun c3 => ?_) (fun c3 => ?_)
      · exact absurd rfl c3
      refine lv_iconst (v := 1) hx hb dL_isStep_718 (by decide) ?_
      refine lv_goto (tgt := 723) hx hb dL_isStep_719 (by decide) ?_
      exact kE_zret hx hb hr (by decide) hlocks ⟨_, _, (h.recS hk0 g3 rfl), hw⟩ hP hD hS (Nat.le_of_ble_eq_true rfl) (Nat.le_of_ble_eq_true rfl) rfl dL_isStep_723
  · have hv := upN_lt (x >>> (4 &&& 31)) (show 0 < 2 by omega)
    refine lv_aload_n hx hb dL_isStep_664 rfl (lv_at hl 0 rfl) ?_
    refine lv_iload hx hb dL_isStep_665 (lv_at hl 4 rfl) ?_
    refine lv_iconst (v := 2) hx hb dL_isStep_667 (by decide) ?_
    refine kE_callS (As := [.int (x >>> (4 &&& 31)), .int 2]) (rest := [.ref (a 0 0)]) ⟨hx, hb, hml, hown, hts⟩ (e_up l D g tl tm (x >>> (4 &&& 31)) (n := 2) (by omega) (by omega) _) hw (cw_isStep_L_up hts) ⟨Nat.le_of_ble_eq_true rfl, Nat.le_of_ble_eq_true rfl⟩ hZ hP hD hK hN rfl hl rfl (Nat.le_of_ble_eq_true rfl) dL_isStep_668 ⟨Nat.le_of_ble_eq_true rfl, Nat.le_of_ble_eq_true rfl⟩ hS hA (fun w H locs hw hP hD hS => ?_)
    refine kE_callV (As := [.int (nI (upN (x >>> (4 &&& 31)) 2))]) (rest := []) ⟨hx, hb, hml, hown, hts⟩ (kE_L (k_save l D g tl tm a S hv) (WO g b S')) hw (cw_isStep_X4_save hts) ⟨Nat.le_of_ble_eq_true rfl, Nat.le_of_ble_eq_true rfl⟩ (WW_cellL (hasO_WO _ _ _) hK hP hw) hZ hP hD hK hN rfl hl rfl (Nat.le_of_ble_eq_true rfl) dL_isStep_671 ⟨Nat.le_of_ble_eq_true rfl, Nat.le_of_ble_eq_true rfl⟩ hS hA (fun w H locs hw hP hD hS => ?_)
    refine lv_aload_n hx hb dL_isStep_674 rfl (lv_at hl 1 rfl) ?_
    refine lv_iload hx hb dL_isStep_675 (lv_at hl 4 rfl) ?_
    refine lv_iconst (v := 2) hx hb dL_isStep_677 (by decide) ?_
    refine kE_callS (As := [.int (x >>> (4 &&& 31)), .int 2]) (rest := [.ref (b 0 0), .int (jm_tu (oN S))]) ⟨hx, hb, hml, hown, hts⟩ (e_up l D g tl tm (x >>> (4 &&& 31)) (n := 2) (by omega) (by omega) _) hw (cw_isStep_L_up hts) ⟨Nat.le_of_ble_eq_true rfl, Nat.le_of_ble_eq_true rfl⟩ hZ hP hD hK hN rfl hl rfl (Nat.le_of_ble_eq_true rfl) dL_isStep_678 ⟨Nat.le_of_ble_eq_true rfl, Nat.le_of_ble_eq_true rfl⟩ hS hA (fun w H locs hw hP hD hS => ?_)
    refine kE_callV (As := [.int (nI (upN (x >>> (4 &&& 31)) 2))]) (rest := [.int (jm_tu (oN S))]) ⟨hx, hb, hml, hown, hts⟩ (kE_R (k_save l D g tl tm b S' hv) (WO g a (osv S (upN (x >>> (4 &&& 31)) 2)))) hw (cw_isStep_X4_save hts) ⟨Nat.le_of_ble_eq_true rfl, Nat.le_of_ble_eq_true rfl⟩ (WW_cellR (hasO_WO _ _ _) hK hP hw) hZ hP hD hK hN rfl hl rfl (Nat.le_of_ble_eq_true rfl) dL_isStep_681 ⟨Nat.le_of_ble_eq_true rfl, Nat.le_of_ble_eq_true rfl⟩ hS hA (fun w H locs hw hP hD hS => ?_)
    refine lv_icmp_ne (tgt := 691) hx hb dL_isStep_684 (by decide) (fun c4 => ?_) (fun c4 => ?_)
    · exact absurd (by rw [h.2.1]; rfl) c4
    refine lv_iconst (v := 1) hx hb dL_isStep_687 (by decide) ?_
    refine lv_goto (tgt := 723) hx hb dL_isStep_688 (by decide) ?_
    exact kE_zret hx hb hr (by decide) hlocks ⟨_, _, (h.save (upN (x >>> (4 &&& 31)) 2)), hw⟩ hP hD hS (Nat.le_of_ble_eq_true rfl) (Nat.le_of_ble_eq_true rfl) rfl dL_isStep_723
set_option maxHeartbeats 8000000 in
set_option maxRecDepth 20000 in
theorem st_724 {x y : Int32} (hx : p.tables.exec = Jvm.exec) (hb : c.code = cL_isStep) (hr : meth.sig.returnType = some .boolean) (hml : c.maxLocals = 10) (hts : ∀ w ∈ wsL_isStep, w.before args s = true) (hown : s.vm.findClass RL = some m.cls) (hlocks : meth.locks = false) (hK : va_K D vwCl (jk_T g) s) (hN : jk_N s) (hZ : jk_Z tl tm A s) (hA : ∀ q, s.heap.size ≤ q → A q) (h : rel k0 S S') (hk0 : k0 < 900) (hw : bothW (WO g a S) (WO g b S') w) (hP : va_P D vwCl w H) (hD : va_D A w) (hS : va_S A s.heap H locs) (hl : lv_has ls 10 [(0, .ref (a 0 0)), (1, .ref (b 0 0)), (2, .int x), (3, .int y), (4, .int (x >>> (4 &&& 31)))]) : W p l e ({ frames := 9, cells := 16, slots := 168, locals := 205 }) s m args below meth c H locs 0 0 (MQ below (jk_QC (some (.int 1)) D (fun o : {w // (fun w => ∃ S2 S2', rel (k0 + 1) S2 S2' ∧ bothW (WO g a S2) (WO g b S2') w) w} => o.1) A) args s 16 168 A) (F0 m 724 ls []) := by
  have hTb9 : ∃ T9, jm_tu (oN S') = nI T9 ∧ T9 < 1000000 := by obtain ⟨T9, U9, q1, -, q3, -⟩ := h.1.1; exact ⟨T9, by rw [h.2.1]; exact q3, by omega⟩
  obtain ⟨T9, hT9, hTb⟩ := hTb9
  refine lv_iload hx hb dL_isStep_724 (lv_at hl 4 rfl) ?_
  refine lv_iconst (v := 2) hx hb dL_isStep_726 (by decide) ?_
  refine kE_callS (As := [.int (x >>> (4 &&& 31)), .int 2]) (rest := []) ⟨hx, hb, hml, hown, hts⟩ (e_up l D g tl tm (x >>> (4 &&& 31)) (n := 2) (by omega) (by omega) _) hw (cw_isStep_L_up hts) ⟨Nat.le_of_ble_eq_true rfl, Nat.le_of_ble_eq_true rfl⟩ hZ hP hD hK hN rfl hl rfl (Nat.le_of_ble_eq_true rfl) dL_isStep_727 ⟨Nat.le_of_ble_eq_true rfl, Nat.le_of_ble_eq_true rfl⟩ hS hA (fun w H locs hw hP hD hS => ?_)
  have hd := upN_lt (x >>> (4 &&& 31)) (show 0 < 2 by omega)
  generalize upN (x >>> (4 &&& 31)) 2 = d9 at hd ⊢
  refine lv_istore (lv' := [(5, .int (nI d9)), (0, .ref (a 0 0)), (1, .ref (b 0 0)), (2, .int x), (3, .int y), (4, .int (x >>> (4 &&& 31)))]) hx hb dL_isStep_730 hl (by decide) rfl (fun ls hl => ?_)
  refine lv_iload hx hb dL_isStep_732 (lv_at hl 5 rfl) ?_
  refine lv_iconst (v := 2) hx hb dL_isStep_734 (by decide) ?_
  refine lv_ishr hx hb dL_isStep_735 ?_
  refine lv_bipush (v := 12) hx hb dL_isStep_736 (by decide) ?_
  refine kE_callS (As := [.int ((x >>> (4 &&& 31)) >>> (2 &&& 31)), .int 12]) (rest := []) ⟨hx, hb, hml, hown, hts⟩ (e_up l D g tl tm ((x >>> (4 &&& 31)) >>> (2 &&& 31)) (n := 12) (by omega) (by omega) _) hw (cw_isStep_L_up hts) ⟨Nat.le_of_ble_eq_true rfl, Nat.le_of_ble_eq_true rfl⟩ hZ hP hD hK hN rfl hl rfl (Nat.le_of_ble_eq_true rfl) dL_isStep_738 ⟨Nat.le_of_ble_eq_true rfl, Nat.le_of_ble_eq_true rfl⟩ hS hA (fun w H locs hw hP hD hS => ?_)
  have hp := upN_lt ((x >>> (4 &&& 31)) >>> (2 &&& 31)) (show 0 < 12 by omega)
  generalize upN ((x >>> (4 &&& 31)) >>> (2 &&& 31)) 12 = p9 at hp ⊢
  refine lv_istore (lv' := [(6, .int (nI p9)), (5, .int (nI d9)), (0, .ref (a 0 0)), (1, .ref (b 0 0)), (2, .int x), (3, .int y), (4, .int (x >>> (4 &&& 31)))]) hx hb dL_isStep_741 hl (by decide) rfl (fun ls hl => ?_)
  refine lv_iload_n hx hb dL_isStep_743 rfl (lv_at hl 5 rfl) ?_
  refine lv_sipush (v := 199) hx hb dL_isStep_744 (by decide) ?_
  refine kE_callS (As := [.int y, .int 199]) (rest := []) ⟨hx, hb, hml, hown, hts⟩ (e_up l D g tl tm y (n := 199) (by omega) (by omega) _) hw (cw_isStep_L_up hts) ⟨Nat.le_of_ble_eq_true rfl, Nat.le_of_ble_eq_true rfl⟩ hZ hP hD hK hN rfl hl rfl (Nat.le_of_ble_eq_true rfl) dL_isStep_747 ⟨Nat.le_of_ble_eq_true rfl, Nat.le_of_ble_eq_true rfl⟩ hS hA (fun w H locs hw hP hD hS => ?_)
  refine lv_bipush (v := 99) hx hb dL_isStep_750 (by decide) ?_
  refine lv_isub hx hb dL_isStep_752 ?_
  have hv := upN_lt y (show 0 < 199 by omega)
  obtain ⟨hx9, s9, n9, hn9, en9, hs9⟩ := chg_at hv
  have f := st_touch h hk0 hd hp hx9
  generalize nI (upN y 199) - 99 = x9 at f hx9 en9 ⊢
  refine lv_istore (lv' := [(7, .int x9), (6, .int (nI p9)), (5, .int (nI d9)), (0, .ref (a 0 0)), (1, .ref (b 0 0)), (2, .int x), (3, .int y), (4, .int (x >>> (4 &&& 31)))]) hx hb dL_isStep_753 hl (by decide) rfl (fun ls hl => ?_)
  refine lv_aload_n hx hb dL_isStep_755 rfl (lv_at hl 3 rfl) ?_
  refine lv_iload hx hb dL_isStep_756 (lv_at hl 2 rfl) ?_
  refine lv_iload hx hb dL_isStep_758 (lv_at hl 1 rfl) ?_
  refine kE_callV (As := [.int (nI d9), .int (nI p9)]) (rest := []) ⟨hx, hb, hml, hown, hts⟩ (kE_L (k_sector l D g tl tm a S (nI d9) (nI p9)) (WO g b S')) hw (cw_isStep_X4_sector hts) ⟨Nat.le_of_ble_eq_true rfl, Nat.le_of_ble_eq_true rfl⟩ (WW_cellL (hasO_WO _ _ _) hK hP hw) hZ hP hD hK hN rfl hl rfl (Nat.le_of_ble_eq_true rfl) dL_isStep_760 ⟨Nat.le_of_ble_eq_true rfl, Nat.le_of_ble_eq_true rfl⟩ hS hA (fun w H locs hw hP hD hS => ?_)
  refine lv_istore (lv' := [(8, .int (rX4_sector (oN S) (nI d9) (nI p9))), (7, .int x9), (6, .int (nI p9)), (5, .int (nI d9)), (0, .ref (a 0 0)), (1, .ref (b 0 0)), (2, .int x), (3, .int y), (4, .int (x >>> (4 &&& 31)))]) hx hb dL_isStep_763 hl (by decide) rfl (fun ls hl => ?_)
  refine lv_aload_n hx hb dL_isStep_765 rfl (lv_at hl 4 rfl) ?_
  refine lv_bipush (v := 11) hx hb dL_isStep_766 (by decide) ?_
  refine kE_callV (As := [.int 11]) (rest := []) ⟨hx, hb, hml, hown, hts⟩ (kE_L (k_count l D g tl tm a S 11) (WO g b S')) hw (cw_isStep_X4_count hts) ⟨Nat.le_of_ble_eq_true rfl, Nat.le_of_ble_eq_true rfl⟩ (WW_cellL (hasO_WO _ _ _) hK hP hw) hZ hP hD hK hN rfl hl rfl (Nat.le_of_ble_eq_true rfl) dL_isStep_768 ⟨Nat.le_of_ble_eq_true rfl, Nat.le_of_ble_eq_true rfl⟩ hS hA (fun w H locs hw hP hD hS => ?_)
  refine lv_istore (lv' := [(9, .int (rX4_count (oN S) (oH S) (oP S) 11)), (8, .int (rX4_sector (oN S) (nI d9) (nI p9))), (7, .int x9), (6, .int (nI p9)), (5, .int (nI d9)), (0, .ref (a 0 0)), (1, .ref (b 0 0)), (2, .int x), (3, .int y), (4, .int (x >>> (4 &&& 31)))]) hx hb dL_isStep_771 hl (by decide) rfl (fun ls hl => ?_)
  refine lv_aload_n hx hb dL_isStep_773 rfl (lv_at hl 5 rfl) ?_
  refine lv_iload hx hb dL_isStep_774 (lv_at hl 4 rfl) ?_
  refine lv_iload hx hb dL_isStep_776 (lv_at hl 3 rfl) ?_
  refine lv_iload hx hb dL_isStep_778 (lv_at hl 2 rfl) ?_
  refine kE_callV (As := [.int (nI d9), .int (nI p9), .int x9]) (rest := []) ⟨hx, hb, hml, hown, hts⟩ (kE_L (k_touch l D g tl tm a S (nI d9) (nI p9) x9) (WO g b S')) hw (cw_isStep_X4_touch hts) ⟨Nat.le_of_ble_eq_true rfl, Nat.le_of_ble_eq_true rfl⟩ (WW_cellL (hasO_WO _ _ _) hK hP hw) hZ hP hD hK hN rfl hl rfl (Nat.le_of_ble_eq_true rfl) dL_isStep_780 ⟨Nat.le_of_ble_eq_true rfl, Nat.le_of_ble_eq_true rfl⟩ hS hA (fun w H locs hw hP hD hS => ?_)
  refine lv_iload hx hb dL_isStep_783 (lv_at hl 1 rfl) ?_
  refine lv_icmp_ne (tgt := 836) hx hb dL_isStep_785 (by decide) (fun c1 => ?_) (fun c1 => ?_)
  · exact absurd f.1 c1
  refine lv_aload_n hx hb dL_isStep_788 rfl (lv_at hl 6 rfl) ?_
  refine lv_iload hx hb dL_isStep_789 (lv_at hl 4 rfl) ?_
  refine lv_iload hx hb dL_isStep_791 (lv_at hl 3 rfl) ?_
  refine lv_iload hx hb dL_isStep_793 (lv_at hl 2 rfl) ?_
  refine lv_ineg hx hb dL_isStep_795 ?_
  refine kE_callS (As := [.ref (b 0 0), .int (nI d9), .int (nI p9), .int (-x9)]) (rest := []) ⟨hx, hb, hml, hown, hts⟩ (kE_R (e_isTouched l D g tl tm b S' hT9 hTb h.2.2.2.2.2 hd hp hn9 hs9 en9) (WO g a (otouch S (nI d9) (nI p9) x9))) hw (cw_isStep_L_isTouched hts) ⟨Nat.le_of_ble_eq_true rfl, Nat.le_of_ble_eq_true rfl⟩ hZ hP hD hK hN rfl hl rfl (Nat.le_of_ble_eq_true rfl) dL_isStep_796 ⟨Nat.le_of_ble_eq_true rfl, Nat.le_of_ble_eq_true rfl⟩ hS hA (fun w H locs hw hP hD hS => ?_)
  refine lv_if_eq (tgt := 836) hx hb dL_isStep_799 (by decide) (fun c2 => ?_) (fun c2 => ?_)
  · exact absurd c2 (by decide)
  refine lv_aload_n hx hb dL_isStep_802 rfl (lv_at hl 5 rfl) ?_
  refine lv_iload hx hb dL_isStep_803 (lv_at hl 4 rfl) ?_
  refine lv_iload hx hb dL_isStep_805 (lv_at hl 3 rfl) ?_
  refine kE_callV (As := [.int (nI d9), .int (nI p9)]) (rest := []) ⟨hx, hb, hml, hown, hts⟩ (kE_L (k_sector l D g tl tm a (otouch S (nI d9) (nI p9) x9) (nI d9) (nI p9)) (fun w => ∃ Q P, padok P ∧ WO g b (sX2_putCharge (oN S') (nI d9) (nI p9) (-x9), jf_u (oF S') (jh_ix (oH S')).toNatClampNeg (oN S'), oG S', jh_rec (oH S'), Q, P) w)) hw (cw_isStep_X4_sector hts) ⟨Nat.le_of_ble_eq_true rfl, Nat.le_of_ble_eq_true rfl⟩ (WW_cellL (hasO_WO _ _ _) hK hP hw) hZ hP hD hK hN rfl hl rfl (Nat.le_of_ble_eq_true rfl) dL_isStep_807 ⟨Nat.le_of_ble_eq_true rfl, Nat.le_of_ble_eq_true rfl⟩ hS hA (fun w H locs hw hP hD hS => ?_)
  refine lv_iload hx hb dL_isStep_810 (lv_at hl 2 rfl) ?_
  refine lv_icmp_ne (tgt := 836) hx hb dL_isStep_812 (by decide) (fun c3 => ?_) (fun c3 => ?_)
  · exact absurd f.2.1 c3
  refine lv_aload_n hx hb dL_isStep_815 rfl (lv_at hl 5 rfl) ?_
  refine lv_bipush (v := 11) hx hb dL_isStep_816 (by decide) ?_
  refine kE_callV (As := [.int 11]) (rest := []) ⟨hx, hb, hml, hown, hts⟩ (kE_L (k_count l D g tl tm a (otouch S (nI d9) (nI p9) x9) 11) (fun w => ∃ Q P, padok P ∧ WO g b (sX2_putCharge (oN S') (nI d9) (nI p9) (-x9), jf_u (oF S') (jh_ix (oH S')).toNatClampNeg (oN S'), oG S', jh_rec (oH S'), Q, P) w)) hw (cw_isStep_X4_count hts) ⟨Nat.le_of_ble_eq_true rfl, Nat.le_of_ble_eq_true rfl⟩ (WW_cellL (hasO_WO _ _ _) hK hP hw) hZ hP hD hK hN rfl hl rfl (Nat.le_of_ble_eq_true rfl) dL_isStep_818 ⟨Nat.le_of_ble_eq_true rfl, Nat.le_of_ble_eq_true rfl⟩ hS hA (fun w H locs hw hP hD hS => ?_)
  refine lv_iload hx hb dL_isStep_821 (lv_at hl 0 rfl) ?_
  refine lv_iload hx hb dL_isStep_823 (lv_at hl 2 rfl) ?_
  refine lv_iadd hx hb dL_isStep_825 ?_
  refine lv_iload hx hb dL_isStep_826 (lv_at hl 1 rfl) ?_
  refine lv_isub hx hb dL_isStep_828 ?_
  refine lv_icmp_ne (tgt := 836) hx hb dL_isStep_829 (by decide) (fun c4 => ?_) (fun c4 => ?_)
  · exact absurd (f.2.2.1 _ _ _ _) c4
  refine lv_iconst (v := 1) hx hb dL_isStep_832 (by decide) ?_
  refine lv_goto (tgt := 837) hx hb dL_isStep_833 (by decide) ?_
  obtain ⟨w1, w2, rfl, h1, Q9, P9, hp9, h2⟩ := hw
  exact kE_zret hx hb hr (by decide) hlocks ⟨_, _, f.2.2.2 Q9 P9 hp9, w1, w2, rfl, h1, h2⟩ hP hD hS (Nat.le_of_ble_eq_true rfl) (Nat.le_of_ble_eq_true rfl) rfl dL_isStep_837
end STEP
set_option maxHeartbeats 4000000 in
set_option maxRecDepth 20000 in
theorem e_isStep (l : Launch) (D : va_G) (g : jk_G) (tl tm : Nat) (a b : Nat → Nat → Nat) {k0 : Nat} {S S' : oS} (h : rel k0 S S') (hk0 : k0 < 900) (x y : Int32) : kE l D g tl tm yL_isStep wsL_isStep 9 205 16 168 [.ref (a 0 0), .ref (b 0 0), .int x, .int y] (bothW (WO g a S) (WO g b S')) 1 (fun w => ∃ S2 S2', rel (k0 + 1) S2 S2' ∧ bothW (WO g a S2) (WO g b S2') w) := by
  refine kE_of (cc := cL_isStep) (maxL := 10) (ret := (some .boolean)) (by decide +kernel) rfl (Nat.le_of_ble_eq_true rfl) ?_
  intro w hw p e s m args below meth c hx hb hr hml hts hown hlocks hK hN A H locs hZ hP hD hA hS ls hl
  have hown : s.vm.findClass RL = some m.cls := hown
  have hl : lv_has ls 10 [(0, .ref (a 0 0)), (1, .ref (b 0 0)), (2, .int x), (3, .int y)] := hl
  refine lv_iload_n hx hb dL_isStep_0 rfl (lv_at hl 2 rfl) ?_
  refine lv_iconst (v := 4) hx hb dL_isStep_1 (by decide) ?_
  refine lv_ishr hx hb dL_isStep_2 ?_
  refine lv_istore (lv' := [(4, .int (x >>> (4 &&& 31))), (0, .ref (a 0 0)), (1, .ref (b 0 0)), (2, .int x), (3, .int y)]) hx hb dL_isStep_3 hl (by decide) rfl (fun ls hl => ?_)
  refine lv_iload_n hx hb dL_isStep_5 rfl (lv_at hl 3 rfl) ?_
  refine lv_bipush (v := 16) hx hb dL_isStep_6 (by decide) ?_
  refine kE_callS (As := [.int x, .int 16]) (rest := []) ⟨hx, hb, hml, hown, hts⟩ (e_up l D g tl tm x (n := 16) (by omega) (by omega) _) hw (cw_isStep_L_up hts) ⟨Nat.le_of_ble_eq_true rfl, Nat.le_of_ble_eq_true rfl⟩ hZ hP hD hK hN rfl hl rfl (Nat.le_of_ble_eq_true rfl) dL_isStep_8 ⟨Nat.le_of_ble_eq_true rfl, Nat.le_of_ble_eq_true rfl⟩ hS hA (fun w H locs hw hP hD hS => ?_)
  have hu := upN_lt x (show 0 < 16 by omega)
  have K64 : W p l e ({ frames := 9, cells := 16, slots := 168, locals := 205 }) s m args below meth c H locs 0 0 (MQ below (jk_QC (some (.int 1)) D (fun o : {w // (fun w => ∃ S2 S2', rel (k0 + 1) S2 S2' ∧ bothW (WO g a S2) (WO g b S2') w) w} => o.1) A) args s 16 168 A) (F0 m 64 ls []) := st_64 hx hb hr hml hts hown hlocks hK hN hZ hA h hk0 hw hP hD hS (lv_sub hl [1, 2, 3, 4, 0] rfl)
  have K272 : W p l e ({ frames := 9, cells := 16, slots := 168, locals := 205 }) s m args below meth c H locs 0 0 (MQ below (jk_QC (some (.int 1)) D (fun o : {w // (fun w => ∃ S2 S2', rel (k0 + 1) S2 S2' ∧ bothW (WO g a S2) (WO g b S2') w) w} => o.1) A) args s 16 168 A) (F0 m 272 ls []) := st_272 hx hb hr hml hts hown hlocks hK hN hZ hA h hk0 hw hP hD hS (lv_sub hl [1, 2, 3, 4, 0] rfl)
  have K724 : W p l e ({ frames := 9, cells := 16, slots := 168, locals := 205 }) s m args below meth c H locs 0 0 (MQ below (jk_QC (some (.int 1)) D (fun o : {w // (fun w => ∃ S2 S2', rel (k0 + 1) S2 S2' ∧ bothW (WO g a S2) (WO g b S2') w) w} => o.1) A) args s 16 168 A) (F0 m 724 ls []) := st_724 hx hb hr hml hts hown hlocks hK hN hZ hA h hk0 hw hP hD hS (lv_sub hl [1, 2, 3, 4, 0] rfl)
  rcases (show upN x 16 = 0 ∨ upN x 16 = 1 ∨ upN x 16 = 2 ∨ upN x 16 = 3 ∨ upN x 16 = 4 ∨ upN x 16 = 5 ∨ upN x 16 = 6 ∨ upN x 16 = 7 ∨ upN x 16 = 8 ∨ upN x 16 = 9 ∨ 10 ≤ upN x 16 by omega) with q | q | q | q | q | q | q | q | q | q | q
  · rw [q]
    exact lv_tableIn (off := 53) (tgt := 64) hx hb dL_isStep_11 (by decide) (by decide) rfl (by decide) (K64)
  · rw [q]
    exact lv_tableIn (off := 53) (tgt := 64) hx hb dL_isStep_11 (by decide) (by decide) rfl (by decide) (K64)
  · rw [q]
    exact lv_tableIn (off := 261) (tgt := 272) hx hb dL_isStep_11 (by decide) (by decide) rfl (by decide) (K272)
  · rw [q]
    exact lv_tableIn (off := 261) (tgt := 272) hx hb dL_isStep_11 (by decide) (by decide) rfl (by decide) (K272)
  · rw [q]
    exact lv_tableIn (off := 261) (tgt := 272) hx hb dL_isStep_11 (by decide) (by decide) rfl (by decide) (K272)
  · rw [q]
    exact lv_tableIn (off := 364) (tgt := 375) hx hb dL_isStep_11 (by decide) (by decide) rfl (by decide) (st_375 hx hb hr hml hts hown hlocks hK hN hZ hA h hk0 hw hP hD hS (lv_sub hl [1, 2, 3, 4, 0] rfl))
  · rw [q]
    exact lv_tableIn (off := 385) (tgt := 396) hx hb dL_isStep_11 (by decide) (by decide) rfl (by decide) (st_396 hx hb hr hml hts hown hlocks hK hN hZ hA h hk0 hw hP hD hS (lv_sub hl [1, 2, 3, 4, 0] rfl))
  · rw [q]
    exact lv_tableIn (off := 505) (tgt := 516) hx hb dL_isStep_11 (by decide) (by decide) rfl (by decide) (st_516 hx hb hr hml hts hown hlocks hK hN hZ hA h hk0 hw hP hD hS (lv_sub hl [1, 2, 3, 4, 0] rfl))
  · rw [q]
    exact lv_tableIn (off := 619) (tgt := 630) hx hb dL_isStep_11 (by decide) (by decide) rfl (by decide) (st_630 hx hb hr hml hts hown hlocks hK hN hZ hA h hk0 hw hP hD hS (lv_sub hl [1, 2, 3, 4, 0] rfl))
  · rw [q]
    exact lv_tableIn (off := 645) (tgt := 656) hx hb dL_isStep_11 (by decide) (by decide) rfl (by decide) (st_656 hx hb hr hml hts hown hlocks hK hN hZ hA h hk0 hw hP hD hS (lv_sub hl [1, 2, 3, 4, 0] rfl))
  · exact lv_tableOut (tgt := 724) hx hb dL_isStep_11 (Or.inr (by rw [nI_toInt (by omega)]; omega)) (by decide) K724
