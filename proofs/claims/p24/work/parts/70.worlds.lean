/-! ===== contracts in wider worlds, and worlds by what is said of them ===== -/
theorem seg_all (L : List va_W) : L = (List.range L.length).map (fun i => L.getD i []) := by
  apply List.ext_getElem
  · rw [List.length_map, List.length_range]
  · intro i h1 h2
    rw [List.getElem_map, List.getElem_range, List.getD_eq_getElem?_getD, List.getElem?_eq_getElem h1]
    rfl
theorem seg_perm (L : List va_W) {is js : List Nat} (h : (List.range L.length).Perm (is ++ js)) : L.flatten.Perm ((is.map (fun i => L.getD i [])).flatten ++ (js.map (fun i => L.getD i [])).flatten) := by
  have e := (h.map (fun i => L.getD i [])).flatten
  rw [← seg_all L, List.map_append, List.flatten_append] at e
  exact e
theorem jk_wide {l : Launch} {D : va_G} {g : jk_G} {y : MethodName} {ws : List Cond} {fr lo mc ms : Nat} {av : List Value} {wc : va_W} {r : Option Value} {O O' : Type} {w1 : O → va_W} {Z : (Nat → Prop) → State → Prop} {L : List va_W} {L' : O' → List va_W} (hM : jk_C l D g Z y ws fr lo mc ms av wc r w1) (hZ : ∀ (A B : Nat → Prop) (U : State), (∀ q, A q → B q) → Z B U → Z A U) (φ : O → O') (is js : List Nat)
    (h : (List.range L.length).Perm (is ++ js)) (hl : ∀ o, (L' o).length = L.length) (hc : (is.map (fun i => L.getD i [])).flatten = wc) (hw : ∀ o, ((is.map (fun i => (L' (φ o)).getD i [])).flatten) = w1 o) (hj : ∀ o, js.map (fun i => (L' (φ o)).getD i []) = js.map (fun i => L.getD i [])) : jk_C l D g Z y ws fr lo mc ms av L.flatten r (fun o => (L' o).flatten) := by
  refine jk_frame (wr := (js.map (fun i => L.getD i [])).flatten) hM hZ φ ?_ (fun o => ?_)
  · rw [← hc]
    exact seg_perm L h
  · rw [← hw o, ← hj o]
    exact seg_perm (L' (φ o)) (by rw [hl]; exact h)
theorem jk_reord {l : Launch} {D : va_G} {g : jk_G} {y : MethodName} {ws : List Cond} {fr lo mc ms : Nat} {av : List Value} {w W : va_W} {r : Option Value} {O : Type} {w1 w2 : O → va_W} {Z : (Nat → Prop) → State → Prop} (hM : jk_C l D g Z y ws fr lo mc ms av w r w1) (hZ : ∀ (A B : Nat → Prop) (U : State), (∀ q, A q → B q) → Z B U → Z A U) (h : W.Perm w) (h2 : ∀ o, (w2 o).Perm (w1 o)) : jk_C l D g Z y ws fr lo mc ms av W r w2 := by
  refine jk_frame (wr := []) hM hZ (fun o => o) (by rw [List.append_nil]; exact h) (fun o => by rw [List.append_nil]; exact h2 o)
theorem seg_split (L M : List va_W) {A B C : va_W} (h : A.Perm (B ++ C)) : (L ++ A :: M).flatten.Perm (L ++ B :: C :: M).flatten := by
  rw [List.flatten_append, List.flatten_append, List.flatten_cons, List.flatten_cons, List.flatten_cons, ← List.append_assoc B]
  exact (h.append_right _).append_left _
theorem slot_i {v : Nat} (h : v < 2) : ¬ nI v < 0 ∧ nI v < 2 := by
  rw [Int32.lt_iff_toInt_lt, Int32.lt_iff_toInt_lt, Int32.toInt_zero, lt2i, nI_toInt (by omega)]
  omega
theorem law_recv {s : State} {H : Heap} {D : va_G} {g : jk_G} {x ci : Nat} {q : vw_C} {fs : List Value} {ws : va_W} (hK : va_K D vwCl (jk_T g) s) (hP : va_P D vwCl ws H) (hc : vwCl[ci]? = some q) (he : (x, Sum.inr (ci, fs)) ∈ ws) : ∃ cell : Cell, H[x]? = some cell ∧ cell.vm.isStatics = false ∧ s.vm.findClass q.1 = some cell.cls := by
  obtain ⟨i, hi⟩ := List.getElem?_of_mem he
  exact va_recv hK hP hc hi
theorem law_z {s : State} {H : Heap} {locs : List Loc} {tl tm : Nat} {A0 : Nat → Prop} {wc : va_W} (hZ : jk_Z tl tm A0 s) (hD : va_D A0 wc) (hA : ∀ q, s.heap.size ≤ q → A0 q) (hS : va_S A0 s.heap H locs) : ∀ U : State, U.heap = H → s.WarmedH U.vm → jk_Z tl tm (va_A wc H.size) U := fun U hU hW => jk_Z.go hZ ⟨hS.1, hS.2.1, fun _ h => absurd h List.not_mem_nil⟩ (jk_freeA hD hS hA) hU hW.alike
def kE (l : Launch) (D : va_G) (g : jk_G) (tl tm : Nat) (y : MethodName) (ws : List Cond) (FR LO MC MS : Nat) (av : List Value) (Wd : va_W → Prop) (r : Int32) (Wd' : va_W → Prop) : Prop :=
  ∀ w, Wd w → ∃ fr lo mc ms, fr ≤ FR ∧ lo ≤ LO ∧ mc ≤ MC ∧ ms ≤ MS ∧ jk_C l D g (jk_Z tl tm) y ws fr lo mc ms av w (some (.int r)) (fun o : {w // Wd' w} => o.1)
theorem kE_C {l : Launch} {D : va_G} {g : jk_G} {tl tm : Nat} {y : MethodName} {ws : List Cond} {fr lo mc ms : Nat} {av : List Value} {w : va_W} {r : Option Value} {O : Type} {w1 : O → va_W} {Wd' : va_W → Prop} (hM : jk_C l D g (jk_Z tl tm) y ws fr lo mc ms av w r w1) (h : ∀ o, Wd' (w1 o)) : jk_C l D g (jk_Z tl tm) y ws fr lo mc ms av w r (fun o : {w // Wd' w} => o.1) :=
  jk_frame (wr := []) hM jk_Z.sub (fun o => ⟨w1 o, h o⟩) (by rw [List.append_nil]) (fun o => by rw [List.append_nil])
def bothW (V U : va_W → Prop) : va_W → Prop := fun w => ∃ w1 w2, w = w1 ++ w2 ∧ V w1 ∧ U w2
theorem kE_L {l : Launch} {D : va_G} {g : jk_G} {tl tm : Nat} {y : MethodName} {ws : List Cond} {FR LO MC MS : Nat} {av : List Value} {r : Int32} {Wd Wd' : va_W → Prop} (h : kE l D g tl tm y ws FR LO MC MS av Wd r Wd') (V : va_W → Prop) : kE l D g tl tm y ws FR LO MC MS av (bothW Wd V) r (bothW Wd' V) := by
  rintro w ⟨w1, w2, rfl, h1, h2⟩
  obtain ⟨fr, lo, mc, ms, a, b, c, d, hC⟩ := h w1 h1
  exact ⟨fr, lo, mc, ms, a, b, c, d, jk_frame (wr := w2) hC jk_Z.sub (fun o => ⟨o.1 ++ w2, o.1, w2, rfl, o.2, h2⟩) (List.Perm.refl _) (fun _ => List.Perm.refl _)⟩
theorem kE_R {l : Launch} {D : va_G} {g : jk_G} {tl tm : Nat} {y : MethodName} {ws : List Cond} {FR LO MC MS : Nat} {av : List Value} {r : Int32} {Wd Wd' : va_W → Prop} (h : kE l D g tl tm y ws FR LO MC MS av Wd r Wd') (V : va_W → Prop) : kE l D g tl tm y ws FR LO MC MS av (bothW V Wd) r (bothW V Wd') := by
  rintro w ⟨w1, w2, rfl, h1, h2⟩
  obtain ⟨fr, lo, mc, ms, a, b, c, d, hC⟩ := h w2 h2
  exact ⟨fr, lo, mc, ms, a, b, c, d, jk_frame (wr := w1) hC jk_Z.sub (fun o => ⟨w1 ++ o.1, w1, o.1, rfl, h1, o.2⟩) List.perm_append_comm (fun _ => List.perm_append_comm)⟩
/-! a call by such a contract -/
section KE
variable {p : Program} {l : Launch} {e : Env} {R : Room} {s : State} {m : MethodId} {args : Array Value} {below : List Frame} {meth : Method} {c : Code} {H : Heap} {locs : List Loc} {cells slots MC MS FR LO : Nat} {Q : State → Prop}
variable {cc : ByteArray} {D : va_G} {g : jk_G} {A0 : Nat → Prop} {w : va_W} {pc : Nat} {ls : Array Slot} {Wd Wd' : va_W → Prop} {tl tm : Nat}
variable {y : MethodName} {bytes : ByteArray} {maxL nL n index x : Nat} {ret : Option FieldType} {wsy Ts : List Cond} {own C : String} {As rest st0 : List Value} {r : Int32} {lv : List (Nat × Value)}
theorem kE_callV (S : CallFix p m c cc nL s args Ts own) (hM : kE l D g tl tm y wsy FR LO MC MS (.ref x :: As) Wd r Wd') (hw : Wd w) (cw : ∀ rm : Room, rm.frames + 1 ≤ R.frames → 8 + (maxL + 11) + rm.locals ≤ R.locals → CallW R s args own C index y bytes maxL ret wsy rm rm.cells rm.slots n) (hR : FR + 1 ≤ R.frames ∧ 8 + (maxL + 11) + LO ≤ R.locals) (hrec : ∃ cell : Cell, H[x]? = some cell ∧ cell.vm.isStatics = false ∧ s.vm.findClass C = some cell.cls)
    (hZ : jk_Z tl tm A0 s) (hP : va_P D vwCl w H) (hD : va_D A0 w) (hK : va_K D vwCl (jk_T g) s) (hN : jk_N s) (hn : As.length = n) (hl : lv_has ls nL lv) (hst : st0 = As.reverse ++ .ref x :: rest) (hW : (rest.map fun v => v.category).sum ≤ 8) (hdg : decode cc pc = .ok (.invokevirtual index, 3)) (hcc : cells + MC ≤ R.cells ∧ slots + MS ≤ R.slots) (hS : va_S A0 s.heap H locs) (hA : ∀ q, s.heap.size ≤ q → A0 q)
    (kk : ∀ (w1 : va_W) (H1 : Heap) (locs1 : List Loc), Wd' w1 → va_P D vwCl w1 H1 → va_D A0 w1 → va_S A0 s.heap H1 locs1 → W p l e R s m args below meth c H1 locs1 (cells + MC) (slots + MS) Q (F0 m (pc + 3) ls (.int r :: rest))) : W p l e R s m args below meth c H locs cells slots Q (F0 m pc ls st0) := by
  obtain ⟨fr, lo, mc, ms, h1, h2, h3, h4, hC⟩ := hM w hw
  exact jk_callVC (As := As) (rest := rest) (ws1 := fun o : {w // Wd' w} => o.1) S hC (fun _ _ gg mk a h => h.calling gg mk a) (law_z hZ hD hA hS) (cw { frames := fr, cells := mc, slots := ms, locals := lo } (Nat.le_trans (Nat.add_le_add_right h1 1) hR.1) (Nat.le_trans (Nat.add_le_add_left h2 _) hR.2)) hrec hP hD hK hN hn hl hst hW hdg ⟨Nat.le_trans (Nat.add_le_add_left h3 _) hcc.1, Nat.le_trans (Nat.add_le_add_left h4 _) hcc.2⟩ hS hA (fun _ _ h _ => h) (fun o h => h.weaken (fun _ _ _ hx => jk_freeA hD hS hA _ hx)) (fun o H1 locs1 hP1 hD1 hS1 => W.widen (Nat.add_le_add_left h3 _) (Nat.add_le_add_left h4 _) (kk o.1 H1 locs1 o.2 hP1 hD1 hS1))
theorem kE_callS (S : CallFix p m c cc nL s args Ts own) (hM : kE l D g tl tm y wsy FR LO MC MS As Wd r Wd') (hw : Wd w) (cw : ∀ rm : Room, rm.frames + 1 ≤ R.frames → 8 + (maxL + 11) + rm.locals ≤ R.locals → CallB R s args own index y bytes maxL ret wsy rm rm.cells rm.slots n ∧ (Cond.static y).before args s = true) (hR : FR + 1 ≤ R.frames ∧ 8 + (maxL + 11) + LO ≤ R.locals)
    (hZ : jk_Z tl tm A0 s) (hP : va_P D vwCl w H) (hD : va_D A0 w) (hK : va_K D vwCl (jk_T g) s) (hN : jk_N s) (hn : As.length = n) (hl : lv_has ls nL lv) (hst : st0 = As.reverse ++ rest) (hW : (rest.map fun v => v.category).sum ≤ 8) (hdg : decode cc pc = .ok (.invokestatic index, 3)) (hcc : cells + MC ≤ R.cells ∧ slots + MS ≤ R.slots) (hS : va_S A0 s.heap H locs) (hA : ∀ q, s.heap.size ≤ q → A0 q)
    (kk : ∀ (w1 : va_W) (H1 : Heap) (locs1 : List Loc), Wd' w1 → va_P D vwCl w1 H1 → va_D A0 w1 → va_S A0 s.heap H1 locs1 → W p l e R s m args below meth c H1 locs1 (cells + MC) (slots + MS) Q (F0 m (pc + 3) ls (.int r :: rest))) : W p l e R s m args below meth c H locs cells slots Q (F0 m pc ls st0) := by
  obtain ⟨fr, lo, mc, ms, h1, h2, h3, h4, hC⟩ := hM w hw
  exact jk_goC (va_runS (As := As) (rest := rest) S (hC H.size) (cw { frames := fr, cells := mc, slots := ms, locals := lo } (Nat.le_trans (Nat.add_le_add_right h1 1) hR.1) (Nat.le_trans (Nat.add_le_add_left h2 _) hR.2)) ⟨jk_blindC (fun _ _ gg mk a h => h.calling gg mk a), fun U hU hW2 => ⟨rfl, (jk_pay (av := As) hP hK hD hN U hU hW2).2, law_z hZ hD hA hS U hU hW2⟩⟩ rfl hn hl.1 hst (lv_room (m := m) (pc := pc) (ls := ls) (rest := st0) hW) hdg ⟨Nat.le_trans (Nat.add_le_add_left h3 _) hcc.1, Nat.le_trans (Nat.add_le_add_left h4 _) hcc.2⟩) hS (jk_freeA hD hS hA) (fun _ _ h _ => h) (fun o h => h.weaken (fun _ _ _ hx => jk_freeA hD hS hA _ hx)) (fun o H1 locs1 hP1 hD1 hS1 => W.widen (Nat.add_le_add_left h3 _) (Nat.add_le_add_left h4 _) (kk o.1 H1 locs1 o.2 hP1 hD1 hS1))
theorem kE_zret {v v' : Int32} {ty : FieldType} {mc ms : Nat} {A : Nat → Prop} (hx : p.tables.exec = Jvm.exec) (hb : c.code = cc) (hr : meth.sig.returnType = some ty) (hn : narrow ty (.int v) = .int v) (hlocks : meth.locks = false) (hw : Wd' w) (hP : va_P D vwCl w H) (hD : va_D A w) (hS : va_S A s.heap H locs) (h1 : cells ≤ mc) (h2 : slots ≤ ms) (hv : v = v') (hdg : decode cc pc = .ok (.ireturn, 1)) : W p l e R s m args below meth c H locs cells slots (MQ below (jk_QC (some (.int v')) D (fun o : {w // Wd' w} => o.1) A) args s mc ms A) (F0 m pc ls [.int v]) := by
  subst hv
  exact W.widen h1 h2 (W.zret hx hb hr hn (fun t ht hW => ⟨rfl, ⟨⟨w, hw⟩, by rw [ht]; exact hP, hD⟩, hS.F ht⟩) hS.2.2 hdg hlocks)
end KE
/-- a contract of one's own, out of the walk of the body -/
theorem kE_of {l : Launch} {D : va_G} {g : jk_G} {tl tm : Nat} {y : MethodName} {ws ws' : List Cond} {fr lo mc ms : Nat} {av : List Value} {Wd Wd' : va_W → Prop} {r : Int32} {cc : ByteArray} {maxL : Nat} {ret : Option FieldType} (hy : plainFor y = true) (hw : ws = Cond.code y cc maxL ret :: ws') (hav : (lg_sl av).length ≤ maxL)
    (body : ∀ (w : va_W), Wd w → ∀ (p : Program) (e : Env) (s : State) (m : MethodId) (args : Array Value) (below : List Frame) (meth : Method) (c : Code), p.tables.exec = Jvm.exec → c.code = cc → meth.sig.returnType = ret → c.maxLocals = maxL → (∀ w ∈ ws, w.before args s = true) → s.vm.findClass y.cls = some m.cls → meth.locks = false → va_K D vwCl (jk_T g) s → jk_N s →
      ∀ (A : Nat → Prop) (H : Heap) (locs : List Loc), jk_Z tl tm A s → va_P D vwCl w H → va_D A w → (∀ q, s.heap.size ≤ q → A q) → va_S A s.heap H locs → ∀ ls : Array Slot, lv_has ls maxL (lv_args 0 av) →
        W p l e ({ frames := fr, cells := mc, slots := ms, locals := lo }) s m args below meth c H locs 0 0 (MQ below (jk_QC (some (.int r)) D (fun o : {w // Wd' w} => o.1) A) args s mc ms A) (F0 m 0 ls [])) : kE l D g tl tm y ws fr lo mc ms av Wd r Wd' := by
  intro w hWd
  refine ⟨fr, lo, mc, ms, Nat.le_refl _, Nat.le_refl _, Nat.le_refl _, Nat.le_refl _, jk_ofC hy hw hav ?_⟩
  intro p e s m args below meth c h1 h2 h3 h4 h5 h6 h7 _ h9 h10 A H locs h11 _ h13 h14 h15 h16 ls h17
  exact body w hWd p e s m args below meth c h1 h2 h3 h4 h5 h6 h7 h9 h10 A H locs h11 h13 h14 h15 h16 ls h17
