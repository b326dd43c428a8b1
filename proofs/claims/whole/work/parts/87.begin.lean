/-! ===== the law begins ===== -/
section BEGIN
variable {p : Program} {l : Launch} {e : Env} {R : Room} {s : State} {m : MethodId} {args : Array Value} {below : List Frame} {meth : Method} {c : Code} {H : Heap} {locs : List Loc} {cells slots mc ms : Nat} {Q : State → Prop}
variable {cc : ByteArray} {D : va_G} {g : jk_G} {A A0 A1 : Nat → Prop} {w0 wc : va_W} {pc : Nat} {ls : Array Slot} {O : Type} {w1 w' ws1 : O → va_W} {Z : (Nat → Prop) → State → Prop}
variable {y : MethodName} {bytes : ByteArray} {maxL nL n index fr lo b : Nat} {wsy Ts : List Cond} {own : String} {As rest st0 : List Value} {r : Option Value} {H0 : Heap} {lv : List (Nat × Value)}
theorem law_callI (S : CallFix p m c cc nL s args Ts own) (hM : jk_C l D g Z y wsy fr lo mc ms (.ref b :: As) wc r w1) (hZb : ∀ (A : Nat → Prop) (U : State) (gg : JFrame) (mk : MethodId) (a : Array Value), Z A U → Z A (U.calling gg mk a)) (hZ : ∀ U : State, U.heap = H → s.WarmedH U.vm → Z (va_A wc H.size) U) (cw : CallB R s args own index y bytes maxL none wsy ({ frames := fr, cells := mc, slots := ms, locals := lo }) mc ms n ∧ y.name = "<init>" ∧ (Cond.instanceMethod y).before args s = true)
    (hPc : va_P D vwCl wc H) (hDc : va_D A0 wc) (hK : va_K D vwCl (jk_T g) s) (hN : jk_N s) (hn : As.length = n) (hl : lv_has ls nL lv) (hst : st0 = As.reverse ++ .ref b :: rest) (hW : (rest.map fun v => v.category).sum ≤ 8) (hdg : decode cc pc = .ok (.invokespecial index, 3)) (hc : cells + mc ≤ R.cells ∧ slots + ms ≤ R.slots)
    (hS : va_S A0 H0 H locs) (hA : ∀ q, H0.size ≤ q → A0 q) (hj : ∀ (o : O) (H1 : Heap), va_P D vwCl (w1 o) H1 → (∀ q : Nat, q < H.size → ¬ va_A wc H.size q → H1[q]? = H[q]?) → va_P D vwCl (ws1 o) H1) (hjD : ∀ o : O, va_D (va_A wc H.size) (w1 o) → va_D A0 (ws1 o))
    (kk : ∀ (o : O) (H1 : Heap) (locs1 : List Loc), va_P D vwCl (ws1 o) H1 → va_D A0 (ws1 o) → va_S A0 H0 H1 locs1 → W p l e R s m args below meth c H1 locs1 (cells + mc) (slots + ms) Q (F0 m (pc + 3) ls (r.toList ++ rest))) : W p l e R s m args below meth c H locs cells slots Q (F0 m pc ls st0) :=
  jk_goC (va_runI (As := As) (rest := rest) S (hM H.size) cw ⟨jk_blindC hZb, fun U hU hW => ⟨rfl, (jk_pay (av := .ref b :: As) hPc hK hDc hN U hU hW).2, hZ U hU hW⟩⟩ rfl hn hl.1 hst (lv_room (m := m) (pc := pc) (ls := ls) (rest := st0) hW) hdg hc) hS (jk_freeA hDc hS hA) hj hjD kk
end BEGIN
def law_a (q : Nat) (o : Nat → Nat → Nat) : Nat → Nat → Nat := fun k => match k with
  | 0 => fun _ => q
  | k + 1 => o k
set_option maxHeartbeats 4000000 in
set_option maxRecDepth 100000 in
theorem law_go {p : Program} {e : Env} {s : State} {m : MethodId} {below : List Frame} {meth : Method} {c : Code} (l : Launch) {b L tl tm : Nat} {xs : Nat → Int32} (hL : L ≤ 2048) (C0 : lw_At p s m meth c b L xs) (hZ : jk_Z tl tm (lawA s) s) : W p l e room_1 s m #[Value.ref b] below meth c s.heap [] 0 0 (lw_Z below #[Value.ref b] s) (entryFrame m ([Value.ref b] : List Value).toArray 4) := by
  obtain ⟨hx, hb, hr, hml, hown, hts0, hX, hbl, hlocks, -⟩ := C0
  have hb : c.code = cL_law := hb
  have hown : s.vm.findClass RL = some m.cls := hown
  have hts : ∀ w ∈ wsL_law, w.before #[Value.ref b] s = true := fun w h => hts0 w (wsL_law_in w h)
  have hov := law_over hts0
  have hN := law_N hts0
  obtain ⟨D, g, hK⟩ := law_K hts hov
  have hbA : ¬ lawA s b := fun z => absurd (show s.heap.size ≤ b from z) (by omega)
  have hA : ∀ q, s.heap.size ≤ q → lawA s q := fun _ h => h
  suffices G : ∀ ls : Array Slot, lv_has ls 4 [(0, .ref b)] → W p l e room_1 s m #[Value.ref b] below meth c s.heap [] 0 0 (lw_Z below #[Value.ref b] s) (F0 m 0 ls []) by
    rw [lg_entry_eq]
    exact G _ (lv_entry [.ref b] (Nat.le_of_ble_eq_true rfl))
  intro ls hl
  have hP : va_P D vwCl [] s.heap := jk_P.mem.mpr (fun _ h => absurd h List.not_mem_nil)
  have hD : va_D (lawA s) [] := jk_D.of List.Pairwise.nil (fun _ h => absurd h List.not_mem_nil)
  have hS : va_S (lawA s) s.heap s.heap [] := va_S.rf
  refine va_new (ci := 4) (fs := [.null, .null, .null, .null, .null, .null]) (C := RX4) (T := TX4) (N := 6) hx hb hts (by decide +kernel) tyX4 tyX4_ok hown (hts (.classLink RL 7 RX4) (by decide +kernel)) (hts (.instantiable RX4 6) (by decide +kernel)) (hts (.initialized RX4) (by decide +kernel)) hK hP hD hS hA rfl (fun j hj => by rcases (show j = 0 ∨ j = 1 ∨ j = 2 ∨ j = 3 ∨ j = 4 ∨ j = 5 by omega) with rfl | rfl | rfl | rfl | rfl | rfl <;> rfl) (Nat.le_of_ble_eq_true rfl) (Nat.le_of_ble_eq_true rfl) dL_law_0 (fun q0 H hP hD hS => ?_)
  refine lv_dup hx hb dL_law_3 rfl ?_
  have hP : va_P D vwCl [(q0, .inr (4, [.null, .null, .null, .null, .null, .null]))] H := hP
  have hD : va_D (lawA s) [(q0, .inr (4, [.null, .null, .null, .null, .null, .null]))] := hD
  refine law_callI (As := []) (rest := [.ref q0]) ⟨hx, hb, hml, hown, hts⟩ (c_X4_init l D g q0) (fun _ _ _ _ _ h => va_AO.moved (Vm.Alike.refl _) h) (fun U _ hW => va_AO.moved hW.alike (va_AO.of hov)) (cwI 0 hts gL_law_X4_init rfl rfl rfl (hts (.initialized RX4) (by decide +kernel)) (hts (.methodLink RL 9 yX4_init) (by decide +kernel)) (hts (.instanceMethod yX4_init) (by decide +kernel)) rfl (by decide +kernel) ⟨Nat.le_of_ble_eq_true rfl, Nat.le_of_ble_eq_true rfl⟩) hP hD hK hN rfl hl rfl (Nat.le_of_ble_eq_true rfl) dL_law_4 ⟨Nat.le_of_ble_eq_true rfl, Nat.le_of_ble_eq_true rfl⟩ hS hA (fun _ _ h _ => h) (fun _ h => h.weaken (fun _ _ _ hx => jk_freeA hD hS hA _ hx)) (fun o H locs hP hD hS => ?_)
  refine lv_astore_n (lv' := [(1, .ref q0), (0, .ref b)]) hx hb dL_law_7 rfl hl (by decide) rfl (fun ls hl => ?_)
  refine va_new (ci := 5) (fs := [.null, .null, .null, .int 0, .null, .null, .null, .int 0, .int 0, .int 0, .int 0, .int 0, .int 0]) (C := RX5) (T := TX5) (N := 13) hx hb hts (by decide +kernel) tyX5 tyX5_ok hown (hts (.classLink RL 10 RX5) (by decide +kernel)) (hts (.instantiable RX5 13) (by decide +kernel)) (hts (.initialized RX5) (by decide +kernel)) hK hP hD hS hA rfl (fun j hj => by rcases (show j = 0 ∨ j = 1 ∨ j = 2 ∨ j = 3 ∨ j = 4 ∨ j = 5 ∨ j = 6 ∨ j = 7 ∨ j = 8 ∨ j = 9 ∨ j = 10 ∨ j = 11 ∨ j = 12 by omega) with rfl | rfl | rfl | rfl | rfl | rfl | rfl | rfl | rfl | rfl | rfl | rfl | rfl <;> rfl) (Nat.le_of_ble_eq_true rfl) (Nat.le_of_ble_eq_true rfl) dL_law_8 (fun q1 H hP hD hS => ?_)
  refine lv_dup hx hb dL_law_11 rfl ?_
  have e0 : ∀ o' : Nat → Nat, (zwL g (law_a q0 o) (fun _ _ => 0) (fun _ _ => 0) (jn_ad q1 o') jm_0 jm_0 (fun _ => none) (fun _ => none) jh_0 jd_0 jp_0 jx_0).flatten = List.flatten [jo_X (fun _ => q0) (o 0 0) (o 1 0) (o 2 0) (o 3 0) (o 4 0) (o 5 0), jm_W g (o 0) jm_0, jm_W g (o 1) jm_0, jh_X g (o 2) (fun _ _ => 0) (fun _ => none) jh_0, js_X g (o 3) (fun _ _ => 0) (fun _ => none), jd_X g (o 4) (o 5 0) jd_0, jp_W g (o 5) jp_0] ++ jx_W g (jn_ad q1 o') jx_0 := by
    intro o'
    unfold zwL
    simp only [List.flatten_cons, List.flatten_nil, jf_0, List.nil_append, List.append_nil, List.append_assoc]
    rfl
  have c5 := jk_frame (w' := fun o' : Nat → Nat => (zwL g (law_a q0 o) (fun _ _ => 0) (fun _ _ => 0) (jn_ad q1 o') jm_0 jm_0 (fun _ => none) (fun _ => none) jh_0 jd_0 jp_0 jx_0).flatten) (c_X5_init l D g q1) jk_noZ.sub (fun o' => o') List.perm_append_comm (fun o' => by rw [e0 o']; exact List.perm_append_comm)
  refine law_callI (As := []) (rest := [.ref q1]) ⟨hx, hb, hml, hown, hts⟩ c5 (fun _ _ _ _ _ h => h) (fun _ _ _ => trivial) (cwI 0 hts gL_law_X5_init rfl rfl rfl (hts (.initialized RX5) (by decide +kernel)) (hts (.methodLink RL 12 yX5_init) (by decide +kernel)) (hts (.instanceMethod yX5_init) (by decide +kernel)) rfl (by decide +kernel) ⟨Nat.le_of_ble_eq_true rfl, Nat.le_of_ble_eq_true rfl⟩) hP hD hK hN rfl hl rfl (Nat.le_of_ble_eq_true rfl) dL_law_12 ⟨Nat.le_of_ble_eq_true rfl, Nat.le_of_ble_eq_true rfl⟩ hS hA (fun _ _ h _ => h) (fun _ h => h.weaken (fun _ _ _ hx => jk_freeA hD hS hA _ hx)) (fun o' H locs hP hD hS => ?_)
  refine lv_astore_n (lv' := [(2, .ref q1), (1, .ref q0), (0, .ref b)]) hx hb dL_law_15 rfl hl (by decide) rfl (fun ls hl => ?_)
  refine lv_iconst (v := nI 0) hx hb dL_law_16 (by decide) ?_
  refine lv_istore_n (lv' := [(3, .int (nI 0)), (2, .ref q1), (1, .ref q0), (0, .ref b)]) hx hb dL_law_17 rfl hl (by decide) rfl (fun ls hl => ?_)
  refine law_loop (a := law_a q0 o) (ax := jn_ad q1 o') hx hb hml hown hts hX hbl hbA hZ hK hN hL (fun H locs cells slots ls hc hs hS => ?_) 2101 0 _ _ (fun _ _ => 0) (fun _ _ => 0) jm_0 jm_0 (fun _ => none) (fun _ => none) jh_0 jd_0 jp_0 jx_0 H locs ls (by omega) (by omega) (Nat.le_of_ble_eq_true rfl) (Nat.le_of_ble_eq_true rfl) hl beg_R hP hD hS
  refine lv_iconst (v := 1) hx hb dL_law_651 (by decide) ?_
  exact W.widen hc hs (W.forget (locs := []) (L := locs) hS.2.2 (lw_ret hx hb hr hlocks dL_law_652))
