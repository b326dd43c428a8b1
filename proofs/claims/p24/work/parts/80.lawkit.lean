/-! ===== for the walks of the law's methods ===== -/
theorem WO_cell {D : va_G} {g : jk_G} {s : State} {H : Heap} {w : va_W} {a : Nat → Nat → Nat} {S : oS} (hK : va_K D vwCl (jk_T g) s) (hP : va_P D vwCl w H) (hw : WO g a S w) : ∃ cell : Cell, H[a 0 0]? = some cell ∧ cell.vm.isStatics = false ∧ s.vm.findClass RX4 = some cell.cls := by
  obtain ⟨fs, h⟩ := WO_rec hw
  exact law_recv (ci := 4) (q := (RX4, TX4, 6)) hK hP rfl h
theorem jk_rightP {D : va_G} {cl : List vw_C} {w1 w2 : va_W} {H : Heap} (h : va_P D cl (w1 ++ w2) H) : va_P D cl w2 H := jk_P.mem.mpr fun x hx => jk_P.mem.mp h x (List.mem_append_right _ hx)
theorem jk_rightD {A : Nat → Prop} {w1 w2 : va_W} (h : va_D A (w1 ++ w2)) : va_D A w2 := jk_D.of (List.pairwise_append.mp (jk_D.pair h).1).2.1 (fun x hx => (jk_D.pair h).2 x (List.mem_append_right _ hx))
/-- an object of which only its place is known -/
def hasO (a : Nat → Nat → Nat) (V : va_W → Prop) : Prop := ∀ w, V w → ∃ fs, (a 0 0, Sum.inr (4, fs)) ∈ w
theorem hasO_WO (g : jk_G) (a : Nat → Nat → Nat) (S : oS) : hasO a (WO g a S) := fun _ h => WO_rec h
theorem WW_cellL {D : va_G} {g : jk_G} {s : State} {H : Heap} {w : va_W} {a : Nat → Nat → Nat} {V U : va_W → Prop} (hV : hasO a V) (hK : va_K D vwCl (jk_T g) s) (hP : va_P D vwCl w H) (hw : bothW V U w) : ∃ cell : Cell, H[a 0 0]? = some cell ∧ cell.vm.isStatics = false ∧ s.vm.findClass RX4 = some cell.cls := by
  obtain ⟨w1, w2, rfl, h1, h2⟩ := hw
  obtain ⟨fs, h⟩ := hV w1 h1
  exact law_recv (ci := 4) (q := (RX4, TX4, 6)) hK (jk_leftP hP) rfl h
theorem WW_cellR {D : va_G} {g : jk_G} {s : State} {H : Heap} {w : va_W} {a : Nat → Nat → Nat} {V U : va_W → Prop} (hU : hasO a U) (hK : va_K D vwCl (jk_T g) s) (hP : va_P D vwCl w H) (hw : bothW V U w) : ∃ cell : Cell, H[a 0 0]? = some cell ∧ cell.vm.isStatics = false ∧ s.vm.findClass RX4 = some cell.cls := by
  obtain ⟨w1, w2, rfl, h1, h2⟩ := hw
  obtain ⟨fs, h⟩ := hU w2 h2
  exact law_recv (ci := 4) (q := (RX4, TX4, 6)) hK (jk_rightP hP) rfl h
/-! numbers -/
def upN (v : Int32) (n : Nat) : Nat := (v &&& 2147483647).toInt.toNat % n
theorem upN_lt (v : Int32) {n : Nat} (h : 0 < n) : upN v n < n := Nat.mod_lt _ h
theorem and_nn (v : Int32) : 0 ≤ (v &&& 2147483647).toInt := by
  have h : (v &&& 2147483647).toBitVec.toNat < 2 ^ 31 := by
    show (v.toBitVec &&& 2147483647#32).toNat < 2 ^ 31
    rw [BitVec.toNat_and]
    exact Nat.lt_of_le_of_lt Nat.and_le_right (by decide)
  have e : (v &&& 2147483647).toInt = ((v &&& 2147483647).toBitVec.toNat : Int) := BitVec.toInt_eq_toNat_of_lt (by omega)
  omega
theorem up_at (v : Int32) {n : Nat} (h : 0 < n) (h2 : n < 100000) : (v &&& 2147483647) - (v &&& 2147483647) / nI n * nI n = nI (upN v n) := by
  have a := and_nn v
  have e : (nI n).toInt = n := nI_toInt (by omega)
  have r := jk_rem_toInt (v &&& 2147483647) (nI n) (by omega)
  have l := upN_lt v h
  refine Int32.toInt_inj.mp ?_
  rw [r, e, nI_toInt (by omega), Int.tmod_eq_emod_of_nonneg a]
  obtain ⟨M, hM⟩ : ∃ M : Nat, (v &&& 2147483647).toInt = M := ⟨(v &&& 2147483647).toInt.toNat, by omega⟩
  unfold upN
  rw [hM, Int.toNat_natCast]
  first | exact (Int.natCast_emod M n).symm | exact (Int.ofNat_emod M n).symm | rfl | simp
theorem up_ne0 {n : Nat} (h : 0 < n) (h2 : n < 100000) : ¬ nI n = 0 := by
  rw [show (0 : Int32) = nI 0 from rfl, nI_eq (by omega) (by omega)]
  omega
theorem k_ne {k c : Nat} (h : ¬ nI k = nI c) : k ≠ c := fun z => h (by rw [z])
theorem k_eq {k c : Nat} (h : nI k = nI c) (hk : k < 100000) (hc : c < 100000) : k = c := (nI_eq (by omega) (by omega)).mp h
theorem pos_nI {n : Nat} (h : 0 < n) (h2 : n < 100000) : 0 < nI n := by
  rw [Int32.lt_iff_toInt_lt, nI_toInt (by omega), Int32.toInt_zero]
  omega
theorem nI_z {n : Nat} (h : nI n ≤ 0) (h2 : n < 100000) : n = 0 := by
  rw [Int32.le_iff_toInt_le, nI_toInt (by omega), Int32.toInt_zero] at h
  omega
theorem lt10 {n : Nat} (h : n < 100000) : nI n < 10 ↔ n < 10 := by
  rw [Int32.lt_iff_toInt_lt, nI_toInt (by omega), show (10 : Int32).toInt = 10 by decide]
  omega
theorem dig_hi : ∀ n, n < 100 → 48 + nI n / 10 = nI (48 + n / 10) := by decide +kernel
theorem dig_lo : ∀ n, n < 100 → 48 + (nI n - nI n / 10 * 10) = nI (48 + n % 10) := by decide +kernel
theorem rem3 : ∀ k, k < 12 → nI k - nI k / 3 * 3 = nI (k % 3) := by decide +kernel
theorem ix11 : ∀ k, k < 12 → nI k + 11 - (nI k + 11) / 12 * 12 = nI ((k + 11) % 12) := by decide +kernel
theorem ix1b : ∀ k, k < 12 → nI k + 1 - (nI k + 1) / 12 * 12 = nI ((k + 1) % 12) := by decide +kernel
theorem km1 {k : Nat} (h : k ≠ 0) : nI k - 1 = nI (k - 1) := by rw [show (1 : Int32) = nI 1 from rfl, pk_sub (by omega)]
theorem spk_ne {x : Int32} (h : 0 < x) : ¬ x = -1000006 := by
  intro z
  subst z
  exact absurd h (by decide)
theorem gap_ge {N : jm_T} (h : 0 ≤ rX4_jar N 0 0 - rX4_jar N 1 0) : rX4_jar N 0 0 - rX4_jar N 1 0 = rX2_difference N := by
  show _ = (if 0 ≤ jm_ja N 0 - jm_ja N 1 then jm_ja N 0 - jm_ja N 1 else 0 - (jm_ja N 0 - jm_ja N 1))
  exact (if_pos h).symm
theorem gap_lt {N : jm_T} (h : ¬ 0 ≤ rX4_jar N 0 0 - rX4_jar N 1 0) : -(rX4_jar N 0 0 - rX4_jar N 1 0) = rX2_difference N := by
  have h2 : ¬ 0 ≤ jm_ja N 0 - jm_ja N 1 := h
  show -(jm_ja N 0 - jm_ja N 1) = (if 0 ≤ jm_ja N 0 - jm_ja N 1 then jm_ja N 0 - jm_ja N 1 else 0 - (jm_ja N 0 - jm_ja N 1))
  rw [if_neg h2, Int32.zero_sub]
theorem cw_gap_X4_jar {R : Room} {s : State} {args : Array Value} (hts : ∀ w ∈ wsL_gap, w.before args s = true) : ∀ rm : Room, rm.frames + 1 ≤ R.frames → 8 + (3 + 11) + rm.locals ≤ R.locals → CallW R s args RL RX4 40 yX4_jar cX4_jar 3 (some .int) wsX4_jar rm rm.cells rm.slots 2 := fun rm h1 h2 => cwV 2 hts gL_gap_X4_jar rfl rfl rfl (by decide +kernel) ⟨h1, h2⟩
theorem cw_number_X4_put {R : Room} {s : State} {args : Array Value} (hts : ∀ w ∈ wsL_number, w.before args s = true) : ∀ rm : Room, rm.frames + 1 ≤ R.frames → 8 + (4 + 11) + rm.locals ≤ R.locals → CallW R s args RL RX4 9 yX4_put cX4_put 4 (some .int) wsX4_put rm rm.cells rm.slots 1 := fun rm h1 h2 => cwV 1 hts gL_number_X4_put rfl rfl rfl (by decide +kernel) ⟨h1, h2⟩
theorem cw_isTouched_X4_wipe {R : Room} {s : State} {args : Array Value} (hts : ∀ w ∈ wsL_isTouched, w.before args s = true) : ∀ rm : Room, rm.frames + 1 ≤ R.frames → 8 + (2 + 11) + rm.locals ≤ R.locals → CallW R s args RL RX4 15 yX4_wipe cX4_wipe 2 (some .int) wsX4_wipe rm rm.cells rm.slots 0 := fun rm h1 h2 => cwV 0 hts gL_isTouched_X4_wipe rfl rfl rfl (by decide +kernel) ⟨h1, h2⟩
theorem cw_isTouched_X4_put {R : Room} {s : State} {args : Array Value} (hts : ∀ w ∈ wsL_isTouched, w.before args s = true) : ∀ rm : Room, rm.frames + 1 ≤ R.frames → 8 + (4 + 11) + rm.locals ≤ R.locals → CallW R s args RL RX4 9 yX4_put cX4_put 4 (some .int) wsX4_put rm rm.cells rm.slots 1 := fun rm h1 h2 => cwV 1 hts gL_isTouched_X4_put rfl rfl rfl (by decide +kernel) ⟨h1, h2⟩
theorem cw_isTouched_L_number {R : Room} {s : State} {args : Array Value} (hts : ∀ w ∈ wsL_isTouched, w.before args s = true) : ∀ rm : Room, rm.frames + 1 ≤ R.frames → 8 + (2 + 11) + rm.locals ≤ R.locals → CallB R s args RL 23 yL_number cL_number 2 (some .boolean) wsL_number rm rm.cells rm.slots 2 ∧ (Cond.static yL_number).before args s = true := fun rm h1 h2 => va_cwS 2 hts gL_isTouched_L_number rfl rfl rfl (by decide +kernel) ⟨h1, h2⟩
theorem cw_isTouched_X4_run {R : Room} {s : State} {args : Array Value} (hts : ∀ w ∈ wsL_isTouched, w.before args s = true) : ∀ rm : Room, rm.frames + 1 ≤ R.frames → 8 + (3 + 11) + rm.locals ≤ R.locals → CallW R s args RL RX4 33 yX4_run cX4_run 3 (some .int) wsX4_run rm rm.cells rm.slots 0 := fun rm h1 h2 => cwV 0 hts gL_isTouched_X4_run rfl rfl rfl (by decide +kernel) ⟨h1, h2⟩
theorem cw_isTouched_X4_sector {R : Room} {s : State} {args : Array Value} (hts : ∀ w ∈ wsL_isTouched, w.before args s = true) : ∀ rm : Room, rm.frames + 1 ≤ R.frames → 8 + (3 + 11) + rm.locals ≤ R.locals → CallW R s args RL RX4 36 yX4_sector cX4_sector 3 (some .int) wsX4_sector rm rm.cells rm.slots 2 := fun rm h1 h2 => cwV 2 hts gL_isTouched_X4_sector rfl rfl rfl (by decide +kernel) ⟨h1, h2⟩
set_option maxHeartbeats 2000000 in
set_option maxRecDepth 20000 in
theorem e_up (l : Launch) (D : va_G) (g : jk_G) (tl tm : Nat) (v : Int32) {n : Nat} (h1 : 0 < n) (h2 : n < 100000) (Wd : va_W → Prop) : kE l D g tl tm yL_up wsL_up 0 0 0 0 [.int v, .int (nI n)] Wd (nI (upN v n)) Wd := by
  refine kE_of (cc := cL_up) (maxL := 2) (ret := (some .int)) (by decide +kernel) rfl (Nat.le_of_ble_eq_true rfl) ?_
  intro w hw p e s m args below meth c hx hb hr hml hts hown hlocks hK hN A H locs hZ hP hD hA hS ls hl
  have hown : s.vm.findClass RL = some m.cls := hown
  have hl : lv_has ls 2 [(0, .int v), (1, .int (nI n))] := hl
  refine lv_iload_n hx hb dL_up_0 rfl (lv_at hl 0 rfl) ?_
  refine lv_ldc hx hb hown (hts (.constant RL 8 2147483647) (by decide +kernel)) dL_up_1 ?_
  refine lv_iand hx hb dL_up_3 ?_
  refine lv_iload_n hx hb dL_up_4 rfl (lv_at hl 1 rfl) ?_
  refine lv_irem hx hb dL_up_5 (up_ne0 h1 h2) ?_
  exact kE_zret hx hb hr rfl hlocks hw hP hD hS (Nat.le_of_ble_eq_true rfl) (Nat.le_of_ble_eq_true rfl) (up_at v h1 h2) dL_up_6

set_option maxHeartbeats 2000000 in
set_option maxRecDepth 20000 in
theorem e_gap (l : Launch) (D : va_G) (g : jk_G) (tl tm : Nat) (a : Nat → Nat → Nat) (S : oS) : kE l D g tl tm yL_gap wsL_gap 1 22 0 0 [.ref (a 0 0)] (WO g a S) (rX2_difference (oN S)) (WO g a S) := by
  refine kE_of (cc := cL_gap) (maxL := 2) (ret := (some .int)) (by decide +kernel) rfl (Nat.le_of_ble_eq_true rfl) ?_
  intro w hw p e s m args below meth c hx hb hr hml hts hown hlocks hK hN A H locs hZ hP hD hA hS ls hl
  have hown : s.vm.findClass RL = some m.cls := hown
  have hl : lv_has ls 2 [(0, .ref (a 0 0))] := hl
  refine lv_aload_n hx hb dL_gap_0 rfl (lv_at hl 0 rfl) ?_
  refine lv_iconst (v := 0) hx hb dL_gap_1 (by decide) ?_
  refine lv_iconst (v := 0) hx hb dL_gap_2 (by decide) ?_
  refine kE_callV (As := [.int 0, .int 0]) (rest := []) ⟨hx, hb, hml, hown, hts⟩ (k_jar l D g tl tm a S 0 0) hw (cw_gap_X4_jar hts) ⟨Nat.le_of_ble_eq_true rfl, Nat.le_of_ble_eq_true rfl⟩ (WO_cell hK hP hw) hZ hP hD hK hN rfl hl rfl (Nat.le_of_ble_eq_true rfl) dL_gap_3 ⟨Nat.le_of_ble_eq_true rfl, Nat.le_of_ble_eq_true rfl⟩ hS hA (fun w H locs hw hP hD hS => ?_)
  refine lv_aload_n hx hb dL_gap_6 rfl (lv_at hl 0 rfl) ?_
  refine lv_iconst (v := 1) hx hb dL_gap_7 (by decide) ?_
  refine lv_iconst (v := 0) hx hb dL_gap_8 (by decide) ?_
  refine kE_callV (As := [.int 1, .int 0]) (rest := [.int (rX4_jar (oN S) 0 0)]) ⟨hx, hb, hml, hown, hts⟩ (k_jar l D g tl tm a S 1 0) hw (cw_gap_X4_jar hts) ⟨Nat.le_of_ble_eq_true rfl, Nat.le_of_ble_eq_true rfl⟩ (WO_cell hK hP hw) hZ hP hD hK hN rfl hl rfl (Nat.le_of_ble_eq_true rfl) dL_gap_9 ⟨Nat.le_of_ble_eq_true rfl, Nat.le_of_ble_eq_true rfl⟩ hS hA (fun w H locs hw hP hD hS => ?_)
  refine lv_isub hx hb dL_gap_12 ?_
  refine lv_istore_n (lv' := [(1, .int ((rX4_jar (oN S) 0 0) - (rX4_jar (oN S) 1 0))), (0, .ref (a 0 0))]) hx hb dL_gap_13 rfl hl (by decide) rfl (fun ls hl => ?_)
  refine lv_iload_n hx hb dL_gap_14 rfl (lv_at hl 0 rfl) ?_
  refine lv_if_ge (tgt := 23) hx hb dL_gap_15 (by decide) (fun c1 => ?_) (fun c1 => ?_)
  · refine lv_iload_n hx hb dL_gap_23 rfl (lv_at hl 0 rfl) ?_
    exact kE_zret hx hb hr rfl hlocks hw hP hD hS (Nat.le_of_ble_eq_true rfl) (Nat.le_of_ble_eq_true rfl) (gap_ge c1) dL_gap_24
  · refine lv_iload_n hx hb dL_gap_18 rfl (lv_at hl 0 rfl) ?_
    refine lv_ineg hx hb dL_gap_19 ?_
    refine lv_goto (tgt := 24) hx hb dL_gap_20 (by decide) ?_
    exact kE_zret hx hb hr rfl hlocks hw hP hD hS (Nat.le_of_ble_eq_true rfl) (Nat.le_of_ble_eq_true rfl) (gap_lt c1) dL_gap_24

set_option maxHeartbeats 2000000 in
set_option maxRecDepth 20000 in
theorem e_number_lo (l : Launch) (D : va_G) (g : jk_G) (tl tm : Nat) (a : Nat → Nat → Nat) (S : oS) {t n : Nat} (ht : jp_ln (oP S) = nI t) (h6 : t ≤ 50) (h100 : n < 100) (hn : n < 10) : kE l D g tl tm yL_number wsL_number 2 49 0 0 [.ref (a 0 0), .int (nI n)] (WO g a S) 1 (WO g a (opad S (addn (oP S) t n))) := by
  refine kE_of (cc := cL_number) (maxL := 2) (ret := (some .boolean)) (by decide +kernel) rfl (Nat.le_of_ble_eq_true rfl) ?_
  intro w hw p e s m args below meth c hx hb hr hml hts hown hlocks hK hN A H locs hZ hP hD hA hS ls hl
  have hown : s.vm.findClass RL = some m.cls := hown
  have hl : lv_has ls 2 [(0, .ref (a 0 0)), (1, .int (nI n))] := hl
  refine lv_iload_n hx hb dL_number_0 rfl (lv_at hl 1 rfl) ?_
  refine lv_bipush (v := 10) hx hb dL_number_1 (by decide) ?_
  refine lv_icmp_lt (tgt := 21) hx hb dL_number_3 (by decide) (fun c1 => ?_) (fun c1 => ?_)
  rotate_left
  · exact absurd ((lt10 (by omega)).mpr hn) c1
  refine lv_aload_n hx hb dL_number_21 rfl (lv_at hl 0 rfl) ?_
  refine lv_bipush (v := 48) hx hb dL_number_22 (by decide) ?_
  refine lv_iload_n hx hb dL_number_24 rfl (lv_at hl 1 rfl) ?_
  refine lv_bipush (v := 10) hx hb dL_number_25 (by decide) ?_
  refine lv_irem hx hb dL_number_27 (by decide) ?_
  refine lv_iadd hx hb dL_number_28 ?_
  refine lv_topi (fun y9 e9 => ?_)
  obtain rfl : y9 = nI (48 + n % 10) := e9.trans (dig_lo n h100)
  refine lv_i2l hx hb dL_number_29 rfl ?_
  refine kE_callV (As := [.long ((nI (48 + n % 10) : Int32).toInt64)]) (rest := []) ⟨hx, hb, hml, hown, hts⟩ (k_put l D g tl tm a S (t := t) (c := 48 + n % 10) ht (by omega) (by omega) (by omega)) hw (cw_number_X4_put hts) ⟨Nat.le_of_ble_eq_true rfl, Nat.le_of_ble_eq_true rfl⟩ (WO_cell hK hP hw) hZ hP hD hK hN rfl hl rfl (Nat.le_of_ble_eq_true rfl) dL_number_30 ⟨Nat.le_of_ble_eq_true rfl, Nat.le_of_ble_eq_true rfl⟩ hS hA (fun w H locs hw hP hD hS => ?_)
  refine lv_if_le (tgt := 40) hx hb dL_number_33 (by decide) (fun c2 => ?_) (fun c2 => ?_)
  · exact absurd c2 (Int32.not_le.mpr (pos_nI (by omega) (by omega)))
  refine lv_iconst (v := 1) hx hb dL_number_36 (by decide) ?_
  refine lv_goto (tgt := 41) hx hb dL_number_37 (by decide) ?_
  exact kE_zret hx hb hr (by decide) hlocks (show WO g a (opad S (addn (oP S) t n)) w from by unfold addn; rw [if_pos hn]; rw [show n % 10 = n by omega] at hw; exact hw) hP hD hS (Nat.le_of_ble_eq_true rfl) (Nat.le_of_ble_eq_true rfl) rfl dL_number_41

set_option maxHeartbeats 2000000 in
set_option maxRecDepth 20000 in
theorem e_number_hi (l : Launch) (D : va_G) (g : jk_G) (tl tm : Nat) (a : Nat → Nat → Nat) (S : oS) {t n : Nat} (ht : jp_ln (oP S) = nI t) (h6 : t ≤ 50) (h100 : n < 100) (hn : ¬ n < 10) : kE l D g tl tm yL_number wsL_number 2 49 0 0 [.ref (a 0 0), .int (nI n)] (WO g a S) 1 (WO g a (opad S (addn (oP S) t n))) := by
  refine kE_of (cc := cL_number) (maxL := 2) (ret := (some .boolean)) (by decide +kernel) rfl (Nat.le_of_ble_eq_true rfl) ?_
  intro w hw p e s m args below meth c hx hb hr hml hts hown hlocks hK hN A H locs hZ hP hD hA hS ls hl
  have hown : s.vm.findClass RL = some m.cls := hown
  have hl : lv_has ls 2 [(0, .ref (a 0 0)), (1, .int (nI n))] := hl
  refine lv_iload_n hx hb dL_number_0 rfl (lv_at hl 1 rfl) ?_
  refine lv_bipush (v := 10) hx hb dL_number_1 (by decide) ?_
  refine lv_icmp_lt (tgt := 21) hx hb dL_number_3 (by decide) (fun c1 => ?_) (fun c1 => ?_)
  · exact absurd c1 (Int32.not_lt.mpr (Int32.not_lt.mp (fun z => hn ((lt10 (by omega)).mp z))))
  refine lv_aload_n hx hb dL_number_6 rfl (lv_at hl 0 rfl) ?_
  refine lv_bipush (v := 48) hx hb dL_number_7 (by decide) ?_
  refine lv_iload_n hx hb dL_number_9 rfl (lv_at hl 1 rfl) ?_
  refine lv_bipush (v := 10) hx hb dL_number_10 (by decide) ?_
  refine lv_idiv hx hb dL_number_12 (by decide) ?_
  refine lv_iadd hx hb dL_number_13 ?_
  refine lv_topi (fun y9 e9 => ?_)
  obtain rfl : y9 = nI (48 + n / 10) := e9.trans (dig_hi n h100)
  refine lv_i2l hx hb dL_number_14 rfl ?_
  refine kE_callV (As := [.long ((nI (48 + n / 10) : Int32).toInt64)]) (rest := []) ⟨hx, hb, hml, hown, hts⟩ (k_put l D g tl tm a S (t := t) (c := 48 + n / 10) ht (by omega) (by omega) (by omega)) hw (cw_number_X4_put hts) ⟨Nat.le_of_ble_eq_true rfl, Nat.le_of_ble_eq_true rfl⟩ (WO_cell hK hP hw) hZ hP hD hK hN rfl hl rfl (Nat.le_of_ble_eq_true rfl) dL_number_15 ⟨Nat.le_of_ble_eq_true rfl, Nat.le_of_ble_eq_true rfl⟩ hS hA (fun w H locs hw hP hD hS => ?_)
  refine lv_if_le (tgt := 40) hx hb dL_number_18 (by decide) (fun c2 => ?_) (fun c2 => ?_)
  · exact absurd c2 (Int32.not_le.mpr (pos_nI (by omega) (by omega)))
  refine lv_aload_n hx hb dL_number_21 rfl (lv_at hl 0 rfl) ?_
  refine lv_bipush (v := 48) hx hb dL_number_22 (by decide) ?_
  refine lv_iload_n hx hb dL_number_24 rfl (lv_at hl 1 rfl) ?_
  refine lv_bipush (v := 10) hx hb dL_number_25 (by decide) ?_
  refine lv_irem hx hb dL_number_27 (by decide) ?_
  refine lv_iadd hx hb dL_number_28 ?_
  refine lv_topi (fun y9 e9 => ?_)
  obtain rfl : y9 = nI (48 + n % 10) := e9.trans (dig_lo n h100)
  refine lv_i2l hx hb dL_number_29 rfl ?_
  refine kE_callV (As := [.long ((nI (48 + n % 10) : Int32).toInt64)]) (rest := []) ⟨hx, hb, hml, hown, hts⟩ (k_put l D g tl tm a (opad S (addc (oP S) t (48 + n / 10))) (t := t + 1) (c := 48 + n % 10) rfl (by omega) (by omega) (by omega)) hw (cw_number_X4_put hts) ⟨Nat.le_of_ble_eq_true rfl, Nat.le_of_ble_eq_true rfl⟩ (WO_cell hK hP hw) hZ hP hD hK hN rfl hl rfl (Nat.le_of_ble_eq_true rfl) dL_number_30 ⟨Nat.le_of_ble_eq_true rfl, Nat.le_of_ble_eq_true rfl⟩ hS hA (fun w H locs hw hP hD hS => ?_)
  refine lv_if_le (tgt := 40) hx hb dL_number_33 (by decide) (fun c3 => ?_) (fun c3 => ?_)
  · exact absurd c3 (Int32.not_le.mpr (pos_nI (by omega) (by omega)))
  refine lv_iconst (v := 1) hx hb dL_number_36 (by decide) ?_
  refine lv_goto (tgt := 41) hx hb dL_number_37 (by decide) ?_
  exact kE_zret hx hb hr (by decide) hlocks (show WO g a (opad S (addn (oP S) t n)) w from by unfold addn; rw [if_neg hn]; exact hw) hP hD hS (Nat.le_of_ble_eq_true rfl) (Nat.le_of_ble_eq_true rfl) rfl dL_number_41

theorem e_number (l : Launch) (D : va_G) (g : jk_G) (tl tm : Nat) (a : Nat → Nat → Nat) (S : oS) {t n : Nat} (ht : jp_ln (oP S) = nI t) (h6 : t ≤ 50) (h100 : n < 100) : kE l D g tl tm yL_number wsL_number 2 49 0 0 [.ref (a 0 0), .int (nI n)] (WO g a S) 1 (WO g a (opad S (addn (oP S) t n))) := by
  by_cases hn : n < 10
  · exact e_number_lo l D g tl tm a S ht h6 h100 hn
  · exact e_number_hi l D g tl tm a S ht h6 h100 hn


