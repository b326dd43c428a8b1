/-! ===== the law itself ===== -/
theorem cw_law_L_cell {R : Room} {s : State} {args : Array Value} (hts : ∀ w ∈ wsL_law, w.before args s = true) : ∀ rm : Room, rm.frames + 1 ≤ R.frames → 8 + (2 + 11) + rm.locals ≤ R.locals → CallB R s args RL 108 yL_cell cL_cell 2 (some .int) wsL_cell rm rm.cells rm.slots 2 ∧ (Cond.static yL_cell).before args s = true := fun rm h1 h2 => va_cwS 2 hts gL_law_L_cell rfl rfl rfl (by decide +kernel) ⟨h1, h2⟩
theorem cw_law_L_isStep {R : Room} {s : State} {args : Array Value} (hts : ∀ w ∈ wsL_law, w.before args s = true) : ∀ rm : Room, rm.frames + 1 ≤ R.frames → 8 + (10 + 11) + rm.locals ≤ R.locals → CallB R s args RL 112 yL_isStep cL_isStep 10 (some .boolean) wsL_isStep rm rm.cells rm.slots 4 ∧ (Cond.static yL_isStep).before args s = true := fun rm h1 h2 => va_cwS 4 hts gL_law_L_isStep rfl rfl rfl (by decide +kernel) ⟨h1, h2⟩
theorem cw_law_L_isWell {R : Room} {s : State} {args : Array Value} (hts : ∀ w ∈ wsL_law, w.before args s = true) : ∀ rm : Room, rm.frames + 1 ≤ R.frames → 8 + (5 + 11) + rm.locals ≤ R.locals → CallB R s args RL 116 yL_isWell cL_isWell 5 (some .boolean) wsL_isWell rm rm.cells rm.slots 1 ∧ (Cond.static yL_isWell).before args s = true := fun rm h1 h2 => va_cwS 1 hts gL_law_L_isWell rfl rfl rfl (by decide +kernel) ⟨h1, h2⟩
theorem cw_law_L_areAlike {R : Room} {s : State} {args : Array Value} (hts : ∀ w ∈ wsL_law, w.before args s = true) : ∀ rm : Room, rm.frames + 1 ≤ R.frames → 8 + (6 + 11) + rm.locals ≤ R.locals → CallB R s args RL 119 yL_areAlike cL_areAlike 6 (some .boolean) wsL_areAlike rm rm.cells rm.slots 3 ∧ (Cond.static yL_areAlike).before args s = true := fun rm h1 h2 => va_cwS 3 hts gL_law_L_areAlike rfl rfl rfl (by decide +kernel) ⟨h1, h2⟩
/-! a number of the script, or one made of its place -/
def zX (sc L : Nat) (xs : Nat → Int32) : (Nat → Prop) → State → Prop := fun A U => va_T .int sc L (fun j => .int (xs j)) A U U.heap
theorem zX.calling {sc L : Nat} {xs : Nat → Int32} (A : Nat → Prop) (U : State) (gg : JFrame) (mk : MethodId) (a : Array Value) (h : zX sc L xs A U) : zX sc L xs A (U.calling gg mk a) := va_T.moved (u := U) (Vm.Alike.refl U.vm) h
theorem zX.sub {sc L : Nat} {xs : Nat → Int32} (A B : Nat → Prop) (U : State) (hAB : ∀ q, A q → B q) (h : zX sc L xs B U) : zX sc L xs A U := va_T.narrow h hAB
def clv (xs : Nat → Int32) (L j : Nat) : Int32 := if L ≤ j then 2143544785 * (nI j + 1381) else xs j
theorem c_L_cell (l : Launch) (D : va_G) (g : jk_G) (sc L : Nat) (xs : Nat → Int32) (hL : L ≤ 260) (j : Nat) (hj : j < 100) : jk_C l D g (zX sc L xs) yL_cell wsL_cell 0 0 0 0 [.ref sc, .int (nI j)] [] (some (.int (clv xs L j))) (fun _ : Unit => []) := by
  refine jk_ofC (cc := cL_cell) (maxL := 2) (ret := (some .int)) (by decide +kernel) rfl (Nat.le_of_ble_eq_true rfl) ?_
  intro p e s m args below meth c hx hb hr hml hts hown hlocks hin hK hN A H locs hZ hsH hP hD hA hS ls hl
  have hown : s.vm.findClass RL = some m.cls := hown
  have hl : lv_has ls 2 [(0, .ref sc), (1, .int (nI j))] := hl
  refine lv_iload_n hx hb dL_cell_0 rfl (lv_at hl 1 rfl) ?_
  refine lv_aload_n hx hb dL_cell_1 rfl (lv_at hl 0 rfl) ?_
  refine va_tlen (v := nI L) hx hb hZ hS rfl dL_cell_2 ?_
  refine lv_icmp_ge (tgt := 12) hx hb dL_cell_3 (by decide) (fun c1 => ?_) (fun c1 => ?_)
  · have h1 : L ≤ j := (nI_leI (by omega) (by omega)).mp c1
    refine lv_ldc hx hb hown (hts (.constant RL 7 2143544785) (by decide +kernel)) dL_cell_12 ?_
    refine lv_iload_n hx hb dL_cell_14 rfl (lv_at hl 1 rfl) ?_
    refine lv_sipush (v := 1381) hx hb dL_cell_15 (by decide) ?_
    refine lv_iadd hx hb dL_cell_18 ?_
    refine lv_imul hx hb dL_cell_19 ?_
    exact jk_iretC () hx hb hr hlocks hP hD hS (Nat.le_refl _) (Nat.le_refl _) (if_pos h1).symm rfl dL_cell_20
  · have h1 : ¬ L ≤ j := fun z => c1 ((nI_leI (by omega) (by omega)).mpr z)
    refine lv_aload_n hx hb dL_cell_6 rfl (lv_at hl 0 rfl) ?_
    refine lv_iload_n hx hb dL_cell_7 rfl (lv_at hl 1 rfl) ?_
    refine va_ti (v := .int (xs j)) hx hb hZ hS (vp_in_nI (by omega) (by omega)) (by rw [jk_cl (by omega)]) dL_cell_8 ?_
    refine lv_goto (tgt := 20) hx hb dL_cell_9 (by decide) ?_
    exact jk_iretC () hx hb hr hlocks hP hD hS (Nat.le_refl _) (Nat.le_refl _) (if_neg h1).symm rfl dL_cell_20
section LAW
variable {p : Program} {l : Launch} {e : Env} {s : State} {m : MethodId} {sc L : Nat} {xs : Nat → Int32} {below : List Frame} {meth : Method} {c : Code} {Qz : State → Prop}
variable {D : va_G} {g : jk_G} {tl tm : Nat} {a b : Nat → Nat → Nat}
theorem cell_call {H : Heap} {locs : List Loc} {cells slots pc j : Nat} {ls : Array Slot} {w : va_W} {rest : List Value} {lv : List (Nat × Value)} (hx : p.tables.exec = Jvm.exec) (hb : c.code = cL_law) (hml : c.maxLocals = 5) (hown : s.vm.findClass RL = some m.cls) (hts : ∀ w ∈ wsL_law, w.before #[.ref sc] s = true) (hT : va_T .int sc L (fun j => .int (xs j)) (lawA s) s s.heap) (hL : L ≤ 260) (hK : va_K D vwCl (jk_T g) s) (hN : jk_N s) (hj : j < 100) (hP : va_P D vwCl w H) (hD : va_D (lawA s) w) (hS : va_S (lawA s) s.heap H locs) (hl : lv_has ls 5 lv) (hW : (rest.map fun v => v.category).sum ≤ 8) (hdg : decode cL_law pc = .ok (.invokestatic 108, 3)) (hcc : cells ≤ 600000 ∧ slots ≤ 7302250)
    (kk : ∀ (H1 : Heap) (locs1 : List Loc), va_P D vwCl w H1 → va_S (lawA s) s.heap H1 locs1 → W p l e room_1 s m #[.ref sc] below meth c H1 locs1 cells slots Qz (F0 m (pc + 3) ls (.int (clv xs L j) :: rest))) : W p l e room_1 s m #[.ref sc] below meth c H locs cells slots Qz (F0 m pc ls (.int (nI j) :: .ref sc :: rest)) := by
  have hA : ∀ q, s.heap.size ≤ q → lawA s q := fun _ h => h
  have hC := jk_frame (wr := w) (W := w) (w' := fun _ : Unit => w) (c_L_cell l D g sc L xs hL j hj) zX.sub (fun o => o) (List.Perm.refl _) (fun _ => List.Perm.refl _)
  refine jk_goC (va_runS (As := [.ref sc, .int (nI j)]) (rest := rest) ⟨hx, hb, hml, hown, hts⟩ (hC H.size) (cw_law_L_cell hts { frames := 0, cells := 0, slots := 0, locals := 0 } (Nat.le_of_ble_eq_true rfl) (Nat.le_of_ble_eq_true rfl)) ⟨jk_blindC (fun A U gg mk a h => zX.calling A U gg mk a h), fun U hU hW2 => ⟨rfl, (jk_pay (av := [.ref sc, .int (nI j)]) hP hK hD hN U hU hW2).2, ?_⟩⟩ rfl rfl hl.1 rfl (lv_room (m := m) (pc := pc) (ls := ls) (rest := .int (nI j) :: .ref sc :: rest) hW) hdg hcc) hS (jk_freeA hD hS hA) (fun _ _ h _ => h) (fun o h => h.weaken (fun _ _ _ hx => jk_freeA hD hS hA _ hx)) (fun o H1 locs1 hP1 hD1 hS1 => kk H1 locs1 hP1 hS1)
  have hk : ∀ a : Nat, a < s.heap.size → ¬ lawA s a → U.heap[a]? = s.heap[a]? := fun a q1 q2 => by rw [hU]; exact hS.2.1 a q1 q2
  exact ((hT.kept hk).narrow (jk_freeA hD hS hA)).moved hW2.alike
def LCtx (p : Program) (s : State) (m : MethodId) (c : Code) (D : va_G) (g : jk_G) (tl tm sc L : Nat) (xs : Nat → Int32) : Prop := p.tables.exec = Jvm.exec ∧ c.code = cL_law ∧ c.maxLocals = 5 ∧ s.vm.findClass RL = some m.cls ∧ (∀ w ∈ wsL_law, w.before #[.ref sc] s = true) ∧ va_T .int sc L (fun j => .int (xs j)) (lawA s) s s.heap ∧ L ≤ 260 ∧ va_K D vwCl (jk_T g) s ∧ jk_N s ∧ jk_Z tl tm (lawA s) s
set_option maxHeartbeats 4000000 in
theorem law_end {H : Heap} {locs : List Loc} {cells slots : Nat} {ls : Array Slot} {w : va_W} {S S' : oS} {kv : Value} (C0 : LCtx p s m c D g tl tm sc L xs) (fin : ∀ (H : Heap) (locs : List Loc) (ls : Array Slot), va_S (lawA s) s.heap H locs → W p l e room_1 s m #[.ref sc] below meth c H locs cells slots Qz (F0 m 98 ls [.int 1])) (hc1 : cells ≤ 2000) (hc2 : slots ≤ 20000) (h : rel 48 S S') (hl : lv_has ls 5 [(4, kv), (3, .int 1), (2, .ref (b 0 0)), (1, .ref (a 0 0)), (0, .ref sc)]) (hw : bothW (WO g a S) (WO g b S') w) (hP : va_P D vwCl w H) (hD : va_D (lawA s) w) (hS : va_S (lawA s) s.heap H locs) : W p l e room_1 s m #[.ref sc] below meth c H locs cells slots Qz (F0 m 75 ls []) := by
  obtain ⟨hx, hb, hml, hown, hts, hT, hL, hK, hN, hZ⟩ := C0
  have hA : ∀ q, s.heap.size ≤ q → lawA s q := fun _ h => h
  refine lv_iload_n hx hb dL_law_75 rfl (lv_at hl 1 rfl) ?_
  refine lv_if_eq (tgt := 97) hx hb dL_law_76 (by decide) (fun c1 => ?_) (fun c1 => ?_)
  · exact absurd c1 (by decide)
  refine lv_aload_n hx hb dL_law_79 rfl (lv_at hl 3 rfl) ?_
  refine lv_aload_n hx hb dL_law_80 rfl (lv_at hl 2 rfl) ?_
  refine lv_aload_n hx hb dL_law_81 rfl (lv_at hl 4 rfl) ?_
  refine lv_bipush (v := nI 48) hx hb dL_law_82 (by decide) ?_
  refine cell_call (rest := [.ref (b 0 0), .ref (a 0 0)]) hx hb hml hown hts hT hL hK hN (j := 48) (by omega) hP hD hS hl (Nat.le_of_ble_eq_true rfl) dL_law_84 ⟨by omega, by omega⟩ (fun H locs hP hS => ?_)
  generalize clv xs L 48 = x
  refine kE_callS (As := [.ref (a 0 0), .ref (b 0 0), .int x]) (rest := []) ⟨hx, hb, hml, hown, hts⟩ (e_areAlike l D g tl tm a b h (by omega) x) hw (cw_law_L_areAlike hts) ⟨Nat.le_of_ble_eq_true rfl, Nat.le_of_ble_eq_true rfl⟩ hZ hP hD hK hN rfl hl rfl (Nat.le_of_ble_eq_true rfl) dL_law_87 ⟨by show cells + 0 ≤ 600000; omega, by show slots + 0 ≤ 7302250; omega⟩ hS hA (fun w H locs hw hP hD hS => ?_)
  refine lv_if_eq (tgt := 97) hx hb dL_law_90 (by decide) (fun c2 => ?_) (fun c2 => ?_)
  · exact absurd c2 (by decide)
  refine lv_iconst (v := 1) hx hb dL_law_93 (by decide) ?_
  refine lv_goto (tgt := 98) hx hb dL_law_94 (by decide) ?_
  exact fin H locs ls hS
set_option maxHeartbeats 4000000 in
theorem law_loop (C0 : LCtx p s m c D g tl tm sc L xs) (fin : ∀ (H : Heap) (locs : List Loc) (cells slots : Nat) (ls : Array Slot), cells ≤ 2000 → slots ≤ 20000 → va_S (lawA s) s.heap H locs → W p l e room_1 s m #[.ref sc] below meth c H locs cells slots Qz (F0 m 98 ls [.int 1])) : ∀ (n k cells slots : Nat) (S S' : oS) (w : va_W) (H : Heap) (locs : List Loc) (ls : Array Slot), k ≤ 48 → 48 < k + n → cells ≤ 100 + 16 * k → slots ≤ 1000 + 168 * k → rel k S S' → lv_has ls 5 [(4, .int (nI k)), (3, .int 1), (2, .ref (b 0 0)), (1, .ref (a 0 0)), (0, .ref sc)] → bothW (WO g a S) (WO g b S') w → va_P D vwCl w H → va_D (lawA s) w → va_S (lawA s) s.heap H locs → W p l e room_1 s m #[.ref sc] below meth c H locs cells slots Qz (F0 m 21 ls [])
  | 0, k, _, _, _, _, _, _, _, _, h1, h2, _, _, _, _, _, _, _, _ => absurd h2 (by omega)
  | n + 1, k, cells, slots, S, S', w, H, locs, ls, h1, h2, hc1, hc2, h, hl, hw, hP, hD, hS => by
    obtain ⟨hx, hb, hml, hown, hts, hT, hL, hK, hN, hZ⟩ := id C0
    have hA : ∀ q, s.heap.size ≤ q → lawA s q := fun _ h => h
    refine lv_iload hx hb dL_law_21 (lv_at hl 0 rfl) ?_
    refine lv_bipush (v := nI 48) hx hb dL_law_23 (by decide) ?_
    refine lv_icmp_ge (tgt := 75) hx hb dL_law_25 (by decide) (fun c1 => ?_) (fun c1 => ?_)
    · have hk : k = 48 := jk_ge (N := 48) (by decide) h1 c1
      subst hk
      exact law_end C0 (fun H locs ls hS => fin H locs cells slots ls (by omega) (by omega) hS) (by omega) (by omega) h hl hw hP hD hS
    have hlt : k < 48 := jk_lt (N := 48) (by decide) h1 c1
    refine lv_iload_n hx hb dL_law_28 rfl (lv_at hl 1 rfl) ?_
    refine lv_if_eq (tgt := 75) hx hb dL_law_29 (by decide) (fun c2 => ?_) (fun c2 => ?_)
    · exact absurd c2 (by decide)
    refine lv_aload_n hx hb dL_law_32 rfl (lv_at hl 3 rfl) ?_
    refine lv_aload_n hx hb dL_law_33 rfl (lv_at hl 2 rfl) ?_
    refine lv_aload_n hx hb dL_law_34 rfl (lv_at hl 4 rfl) ?_
    refine lv_iload hx hb dL_law_35 (lv_at hl 0 rfl) ?_
    refine cell_call (rest := [.ref (b 0 0), .ref (a 0 0)]) hx hb hml hown hts hT hL hK hN (j := k) (by omega) hP hD hS hl (Nat.le_of_ble_eq_true rfl) dL_law_37 ⟨by omega, by omega⟩ (fun H locs hP hS => ?_)
    generalize clv xs L k = x
    refine lv_aload_n hx hb dL_law_40 rfl (lv_at hl 4 rfl) ?_
    refine lv_iload hx hb dL_law_41 (lv_at hl 0 rfl) ?_
    refine lv_iconst (v := nI 1) hx hb dL_law_43 (by decide) ?_
    refine lv_iadd hx hb dL_law_44 ?_
    refine lv_topi (fun y9 e9 => ?_)
    obtain rfl : y9 = nI (k + 1) := e9.trans (nI_add _ _)
    refine cell_call (rest := [.int x, .ref (b 0 0), .ref (a 0 0)]) hx hb hml hown hts hT hL hK hN (j := k + 1) (by omega) hP hD hS hl (Nat.le_of_ble_eq_true rfl) dL_law_45 ⟨by omega, by omega⟩ (fun H locs hP hS => ?_)
    generalize clv xs L (k + 1) = y
    refine lv_iconst (v := 2) hx hb dL_law_48 (by decide) ?_
    refine lv_ishr hx hb dL_law_49 ?_
    generalize y >>> (2 &&& 31) = y2
    refine kE_callS (As := [.ref (a 0 0), .ref (b 0 0), .int x, .int y2]) (rest := []) ⟨hx, hb, hml, hown, hts⟩ (e_isStep l D g tl tm a b h (by omega) x y2) hw (cw_law_L_isStep hts) ⟨Nat.le_of_ble_eq_true rfl, Nat.le_of_ble_eq_true rfl⟩ hZ hP hD hK hN rfl hl rfl (Nat.le_of_ble_eq_true rfl) dL_law_50 ⟨by show cells + 16 ≤ 600000; omega, by show slots + 168 ≤ 7302250; omega⟩ hS hA (fun w H locs hw hP hD hS => ?_)
    obtain ⟨S2, S2', h2', hw⟩ := hw
    refine lv_if_eq (tgt := 67) hx hb dL_law_53 (by decide) (fun c3 => ?_) (fun c3 => ?_)
    · exact absurd c3 (by decide)
    refine lv_aload_n hx hb dL_law_56 rfl (lv_at hl 3 rfl) ?_
    refine kE_callS (As := [.ref (a 0 0)]) (rest := []) ⟨hx, hb, hml, hown, hts⟩ (kE_L (e_isWell l D g tl tm a h2'.1 (by omega)) (WO g b S2')) hw (cw_law_L_isWell hts) ⟨Nat.le_of_ble_eq_true rfl, Nat.le_of_ble_eq_true rfl⟩ hZ hP hD hK hN rfl hl rfl (Nat.le_of_ble_eq_true rfl) dL_law_57 ⟨by show cells + 16 + 0 ≤ 600000; omega, by show slots + 168 + 0 ≤ 7302250; omega⟩ hS hA (fun w H locs hw hP hD hS => ?_)
    refine lv_if_eq (tgt := 67) hx hb dL_law_60 (by decide) (fun c4 => ?_) (fun c4 => ?_)
    · exact absurd c4 (by decide)
    refine lv_iconst (v := 1) hx hb dL_law_63 (by decide) ?_
    refine lv_goto (tgt := 68) hx hb dL_law_64 (by decide) ?_
    refine lv_istore_n (lv' := [(3, .int 1), (4, .int (nI k)), (2, .ref (b 0 0)), (1, .ref (a 0 0)), (0, .ref sc)]) hx hb dL_law_68 rfl hl (by decide) rfl (fun ls hl => ?_)
    refine lv_iinc (v := nI (k + 1)) (lv' := [(4, .int (nI (k + 1))), (3, .int 1), (2, .ref (b 0 0)), (1, .ref (a 0 0)), (0, .ref sc)]) hx hb dL_law_69 hl (k := 1) rfl (nI_1 _) (by decide) rfl (fun ls hl => ?_)
    refine lv_goto (tgt := 21) hx hb dL_law_72 (by decide) ?_
    exact law_loop C0 fin n (k + 1) (cells + 16 + 0) (slots + 168 + 0) S2 S2' w H locs ls (by omega) (by omega) (by omega) (by omega) h2' hl hw hP hD hS
end LAW
section BEGIN
variable {p : Program} {l : Launch} {e : Env} {R : Room} {s : State} {m : MethodId} {args : Array Value} {below : List Frame} {meth : Method} {c : Code} {H : Heap} {locs : List Loc} {cells slots mc ms : Nat} {Q : State → Prop}
variable {cc : ByteArray} {D : va_G} {g : jk_G} {A A0 A1 : Nat → Prop} {w0 wc : va_W} {pc : Nat} {ls : Array Slot} {O : Type} {w1 w' ws1 : O → va_W} {Z : (Nat → Prop) → State → Prop}
variable {y : MethodName} {bytes : ByteArray} {maxL nL n index fr lo b : Nat} {wsy Ts : List Cond} {own : String} {As rest st0 : List Value} {r : Option Value} {H0 : Heap} {lv : List (Nat × Value)}
theorem law_callI (S : CallFix p m c cc nL s args Ts own) (hM : jk_C l D g Z y wsy fr lo mc ms (.ref b :: As) wc r w1) (hZb : ∀ (A : Nat → Prop) (U : State) (gg : JFrame) (mk : MethodId) (a : Array Value), Z A U → Z A (U.calling gg mk a)) (hZ : ∀ U : State, U.heap = H → s.WarmedH U.vm → Z (va_A wc H.size) U) (cw : CallB R s args own index y bytes maxL none wsy ({ frames := fr, cells := mc, slots := ms, locals := lo }) mc ms n ∧ y.name = "<init>" ∧ (Cond.instanceMethod y).before args s = true)
    (hPc : va_P D vwCl wc H) (hDc : va_D A0 wc) (hK : va_K D vwCl (jk_T g) s) (hN : jk_N s) (hn : As.length = n) (hl : lv_has ls nL lv) (hst : st0 = As.reverse ++ .ref b :: rest) (hW : (rest.map fun v => v.category).sum ≤ 8) (hdg : decode cc pc = .ok (.invokespecial index, 3)) (hc : cells + mc ≤ R.cells ∧ slots + ms ≤ R.slots)
    (hS : va_S A0 H0 H locs) (hA : ∀ q, H0.size ≤ q → A0 q) (hj : ∀ (o : O) (H1 : Heap), va_P D vwCl (w1 o) H1 → (∀ q : Nat, q < H.size → ¬ va_A wc H.size q → H1[q]? = H[q]?) → va_P D vwCl (ws1 o) H1) (hjD : ∀ o : O, va_D (va_A wc H.size) (w1 o) → va_D A0 (ws1 o))
    (kk : ∀ (o : O) (H1 : Heap) (locs1 : List Loc), va_P D vwCl (ws1 o) H1 → va_D A0 (ws1 o) → va_S A0 H0 H1 locs1 → W p l e R s m args below meth c H1 locs1 (cells + mc) (slots + ms) Q (F0 m (pc + 3) ls (r.toList ++ rest))) : W p l e R s m args below meth c H locs cells slots Q (F0 m pc ls st0) :=
  jk_goC (va_runI (As := As) (rest := rest) S (hM H.size) cw ⟨jk_blindC hZb, fun U hU hW => ⟨rfl, (jk_pay (av := .ref b :: As) hPc hK hDc hN U hU hW).2, hZ U hU hW⟩⟩ rfl hn hl.1 hst (lv_room (m := m) (pc := pc) (ls := ls) (rest := st0) hW) hdg hc) hS (jk_freeA hDc hS hA) hj hjD kk
end BEGIN
def law_a (q : Nat) (o : Nat → Nat → Nat) : Nat → Nat → Nat := fun k => match k with
  | 0 => fun _ => q
  | k + 1 => o k
theorem beg_WO (g : jk_G) (q : Nat) (o : Nat → Nat → Nat) : WO g (law_a q o) oS_0 (List.flatten [jo_X (fun _ => q) (o 0 0) (o 1 0) (o 2 0) (o 3 0) (o 4 0) (o 5 0), jm_W g (o 0) jm_0, jm_W g (o 1) jm_0, jh_X g (o 2) (fun _ _ => 0) (fun _ => none) jh_0, js_X g (o 3) (fun _ _ => 0) (fun _ => none), jd_X g (o 4) (o 5 0) jd_0, jp_W g (o 5) jp_0]) := by
  refine ⟨fun _ _ => 0, fun _ _ => 0, jm_0, ?_⟩
  unfold zoL
  have e1 : oF oS_0 = fun _ => none := rfl
  have e2 : oG oS_0 = fun _ => none := rfl
  rw [e1, e2]
  simp only [List.flatten_cons, List.flatten_nil, jf_0, List.nil_append, List.append_nil, List.append_assoc]
  rfl
set_option maxHeartbeats 4000000 in
set_option maxRecDepth 100000 in
theorem law_go {p : Program} {e : Env} {s : State} {m : MethodId} {below : List Frame} {meth : Method} {c : Code} (l : Launch) {b L tl tm : Nat} {xs : Nat → Int32} (hL : L ≤ 260) (C0 : lw_At p s m meth c b L xs) (hZ : jk_Z tl tm (lawA s) s) : W p l e room_1 s m #[Value.ref b] below meth c s.heap [] 0 0 (lw_Z below #[Value.ref b] s) (entryFrame m ([Value.ref b] : List Value).toArray 5) := by
  obtain ⟨hx, hb, hr, hml, hown, hts0, hX, hbl, hlocks, -⟩ := C0
  have hb : c.code = cL_law := hb
  have hown : s.vm.findClass RL = some m.cls := hown
  have hts : ∀ w ∈ wsL_law, w.before #[Value.ref b] s = true := fun w h => hts0 w (wsL_law_in w h)
  have hov := law_over hts0
  have hN := law_N hts0
  obtain ⟨D, g, hK⟩ := law_K hts hov
  have hbA : ¬ lawA s b := fun z => absurd (show s.heap.size ≤ b from z) (by omega)
  have hT : va_T .int b L (fun j => .int (xs j)) (lawA s) s s.heap := by
    obtain ⟨scr, x1, x2, x3, x4, x5⟩ := hX
    exact ⟨scr, x1, x2, x3, Nat.le_of_eq x4.symm, by rw [x4], x5, hbA⟩
  have hA : ∀ q, s.heap.size ≤ q → lawA s q := fun _ h => h
  suffices G : ∀ ls : Array Slot, lv_has ls 5 [(0, .ref b)] → W p l e room_1 s m #[Value.ref b] below meth c s.heap [] 0 0 (lw_Z below #[Value.ref b] s) (F0 m 0 ls []) by
    rw [lg_entry_eq]
    exact G _ (lv_entry [.ref b] (Nat.le_of_ble_eq_true rfl))
  intro ls hl
  have hP : va_P D vwCl [] s.heap := jk_P.mem.mpr (fun _ h => absurd h List.not_mem_nil)
  have hD : va_D (lawA s) [] := jk_D.of List.Pairwise.nil (fun _ h => absurd h List.not_mem_nil)
  have hS : va_S (lawA s) s.heap s.heap [] := va_S.rf
  refine va_new (ci := 4) (fs := [.null, .null, .null, .null, .null, .null]) (C := RX4) (T := TX4) (N := 6) hx hb hts (by decide +kernel) tyX4 tyX4_ok hown (hts (.classLink RL 10 RX4) (by decide +kernel)) (hts (.instantiable RX4 6) (by decide +kernel)) (hts (.initialized RX4) (by decide +kernel)) hK hP hD hS hA rfl (fun j hj => by rcases (show j = 0 ∨ j = 1 ∨ j = 2 ∨ j = 3 ∨ j = 4 ∨ j = 5 by omega) with rfl | rfl | rfl | rfl | rfl | rfl <;> rfl) (Nat.le_of_ble_eq_true rfl) (Nat.le_of_ble_eq_true rfl) dL_law_0 (fun q0 H hP hD hS => ?_)
  refine lv_dup hx hb dL_law_3 rfl ?_
  have hP : va_P D vwCl [(q0, .inr (4, [.null, .null, .null, .null, .null, .null]))] H := hP
  have hD : va_D (lawA s) [(q0, .inr (4, [.null, .null, .null, .null, .null, .null]))] := hD
  refine law_callI (As := []) (rest := [.ref q0]) ⟨hx, hb, hml, hown, hts⟩ (c_X4_init l D g q0) (fun _ _ _ _ _ h => va_AO.moved (Vm.Alike.refl _) h) (fun U _ hW => va_AO.moved hW.alike (va_AO.of hov)) (cwI 0 hts gL_law_X4_init rfl rfl rfl (hts (.initialized RX4) (by decide +kernel)) (hts (.methodLink RL 107 yX4_init) (by decide +kernel)) (hts (.instanceMethod yX4_init) (by decide +kernel)) rfl (by decide +kernel) ⟨Nat.le_of_ble_eq_true rfl, Nat.le_of_ble_eq_true rfl⟩) hP hD hK hN rfl hl rfl (Nat.le_of_ble_eq_true rfl) dL_law_4 ⟨Nat.le_of_ble_eq_true rfl, Nat.le_of_ble_eq_true rfl⟩ hS hA (fun _ _ h _ => h) (fun _ h => h.weaken (fun _ _ _ hx => jk_freeA hD hS hA _ hx)) (fun o H locs hP hD hS => ?_)
  refine lv_astore_n (lv' := [(1, .ref q0), (0, .ref b)]) hx hb dL_law_7 rfl hl (by decide) rfl (fun ls hl => ?_)
  have hw1 := beg_WO g q0 o
  generalize List.flatten [jo_X (fun _ => q0) (o 0 0) (o 1 0) (o 2 0) (o 3 0) (o 4 0) (o 5 0), jm_W g (o 0) jm_0, jm_W g (o 1) jm_0, jh_X g (o 2) (fun _ _ => 0) (fun _ => none) jh_0, js_X g (o 3) (fun _ _ => 0) (fun _ => none), jd_X g (o 4) (o 5 0) jd_0, jp_W g (o 5) jp_0] = w1 at hP hD hw1
  refine va_new (ci := 4) (fs := [.null, .null, .null, .null, .null, .null]) (C := RX4) (T := TX4) (N := 6) hx hb hts (by decide +kernel) tyX4 tyX4_ok hown (hts (.classLink RL 10 RX4) (by decide +kernel)) (hts (.instantiable RX4 6) (by decide +kernel)) (hts (.initialized RX4) (by decide +kernel)) hK hP hD hS hA rfl (fun j hj => by rcases (show j = 0 ∨ j = 1 ∨ j = 2 ∨ j = 3 ∨ j = 4 ∨ j = 5 by omega) with rfl | rfl | rfl | rfl | rfl | rfl <;> rfl) (Nat.le_of_ble_eq_true rfl) (Nat.le_of_ble_eq_true rfl) dL_law_8 (fun q1 H hP hD hS => ?_)
  refine lv_dup hx hb dL_law_11 rfl ?_
  have c5 := jk_frame (wr := w1) (W := w1 ++ [(q1, .inr (4, [.null, .null, .null, .null, .null, .null]))]) (w' := fun o' : Nat → Nat → Nat => w1 ++ List.flatten [jo_X (fun _ => q1) (o' 0 0) (o' 1 0) (o' 2 0) (o' 3 0) (o' 4 0) (o' 5 0), jm_W g (o' 0) jm_0, jm_W g (o' 1) jm_0, jh_X g (o' 2) (fun _ _ => 0) (fun _ => none) jh_0, js_X g (o' 3) (fun _ _ => 0) (fun _ => none), jd_X g (o' 4) (o' 5 0) jd_0, jp_W g (o' 5) jp_0]) (c_X4_init l D g q1) (fun _ _ _ _ h => h) (fun o' => o') List.perm_append_comm (fun o' => List.perm_append_comm)
  refine law_callI (As := []) (rest := [.ref q1]) ⟨hx, hb, hml, hown, hts⟩ c5 (fun _ _ _ _ _ h => va_AO.moved (Vm.Alike.refl _) h) (fun U _ hW => va_AO.moved hW.alike (va_AO.of hov)) (cwI 0 hts gL_law_X4_init rfl rfl rfl (hts (.initialized RX4) (by decide +kernel)) (hts (.methodLink RL 107 yX4_init) (by decide +kernel)) (hts (.instanceMethod yX4_init) (by decide +kernel)) rfl (by decide +kernel) ⟨Nat.le_of_ble_eq_true rfl, Nat.le_of_ble_eq_true rfl⟩) hP hD hK hN rfl hl rfl (Nat.le_of_ble_eq_true rfl) dL_law_12 ⟨Nat.le_of_ble_eq_true rfl, Nat.le_of_ble_eq_true rfl⟩ hS hA (fun _ _ h _ => h) (fun _ h => h.weaken (fun _ _ _ hx => jk_freeA hD hS hA _ hx)) (fun o' H locs hP hD hS => ?_)
  refine lv_astore_n (lv' := [(2, .ref q1), (1, .ref q0), (0, .ref b)]) hx hb dL_law_15 rfl hl (by decide) rfl (fun ls hl => ?_)
  have hw : bothW (WO g (law_a q0 o) oS_0) (WO g (law_a q1 o') oS_0) (w1 ++ List.flatten [jo_X (fun _ => q1) (o' 0 0) (o' 1 0) (o' 2 0) (o' 3 0) (o' 4 0) (o' 5 0), jm_W g (o' 0) jm_0, jm_W g (o' 1) jm_0, jh_X g (o' 2) (fun _ _ => 0) (fun _ => none) jh_0, js_X g (o' 3) (fun _ _ => 0) (fun _ => none), jd_X g (o' 4) (o' 5 0) jd_0, jp_W g (o' 5) jp_0]) := ⟨w1, _, rfl, hw1, beg_WO g q1 o'⟩
  generalize w1 ++ List.flatten [jo_X (fun _ => q1) (o' 0 0) (o' 1 0) (o' 2 0) (o' 3 0) (o' 4 0) (o' 5 0), jm_W g (o' 0) jm_0, jm_W g (o' 1) jm_0, jh_X g (o' 2) (fun _ _ => 0) (fun _ => none) jh_0, js_X g (o' 3) (fun _ _ => 0) (fun _ => none), jd_X g (o' 4) (o' 5 0) jd_0, jp_W g (o' 5) jp_0] = w at hP hD hw
  refine lv_iconst (v := 1) hx hb dL_law_16 (by decide) ?_
  refine lv_istore_n (lv' := [(3, .int 1), (2, .ref q1), (1, .ref q0), (0, .ref b)]) hx hb dL_law_17 rfl hl (by decide) rfl (fun ls hl => ?_)
  refine lv_iconst (v := nI 0) hx hb dL_law_18 (by decide) ?_
  refine lv_istore (lv' := [(4, .int (nI 0)), (3, .int 1), (2, .ref q1), (1, .ref q0), (0, .ref b)]) hx hb dL_law_19 hl (by decide) rfl (fun ls hl => ?_)
  refine law_loop (a := law_a q0 o) (b := law_a q1 o') (sc := b) ⟨hx, hb, hml, hown, hts, hT, hL, hK, hN, hZ⟩ (fun H locs cells slots ls hc hs hS => ?_) 49 0 _ _ oS_0 oS_0 w H locs ls (by omega) (by omega) (Nat.le_of_ble_eq_true rfl) (Nat.le_of_ble_eq_true rfl) rel_0 hl hw hP hD hS
  exact W.widen (Nat.le_trans hc (Nat.le_of_ble_eq_true rfl)) (Nat.le_trans hs (Nat.le_of_ble_eq_true rfl)) (W.forget (locs := []) (L := locs) hS.2.2 (lw_ret hx hb hr hlocks dL_law_98))
