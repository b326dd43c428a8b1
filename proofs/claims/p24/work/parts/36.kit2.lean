/-! ===== worlds of the program itself; contracts that make cells ===== -/
/-- the reader, whose pad is at q -/
def jd_X (g : jk_G) (a : Nat → Nat) (q : Nat) (M : jd_T) : va_W := [(a 0, .inr (0, [.ref q, .int (jd_at M), .int (jd_de M), .int (jd_di M), .int (jd_pl M), .int (jd_am M)]))]
/-- machines, made or not, at addresses by their places -/
abbrev jf_T : Type := Nat → Option jm_T
def jq (ad : Nat → Nat → Nat) (F : jf_T) : Nat → Option Nat := fun i => (F i).map (fun _ => ad i 0)
def jf_1 (g : jk_G) (a : Nat → Nat) : Option jm_T → va_W
  | none => []
  | some M => jm_W g a M
def jf_X (g : jk_G) (n : Nat) (ad : Nat → Nat → Nat) (F : jf_T) : va_W := ((List.range n).map (fun i => jf_1 g (ad i) (F i))).flatten
abbrev jh_T : Type := Int32 × Int32
def jh_ol (M : jh_T) : Int32 := M.1
def jh_sz (M : jh_T) : Int32 := M.2
def jh_uol (M : jh_T) (x : Int32) : jh_T := (x, jh_sz M)
def jh_usz (M : jh_T) (x : Int32) : jh_T := (jh_ol M, x)
def jh_X (g : jk_G) (h : Nat → Nat) (ad : Nat → Nat → Nat) (F : jf_T) (M : jh_T) : va_W := [(h 0, .inr (1, [.ref (h 1), .int (jh_ol M), .int (jh_sz M)])), (h 1, .inl (g.2.2, 6, .inr (.inr (.inr (.inr (jq ad F))))))]
def js_X (g : jk_G) (s : Nat → Nat) (ad : Nat → Nat → Nat) (F : jf_T) : va_W := [(s 0, .inl (g.2.2, 2, .inr (.inr (.inr (.inr (jq ad F))))))]
def jo_X (x : Nat → Nat) (n t h s d p : Nat) : va_W := [(x 0, .inr (4, [.ref n, .ref t, .ref h, .ref s, .ref d, .ref p]))]
def jf_u (F : jf_T) (j : Nat) (M : jm_T) : jf_T := fun i => if i = j then some M else F i
def jf_n (F : jf_T) (j : Nat) : jf_T := fun i => if i = j then none else F i
def ja_u (ad : Nat → Nat → Nat) (j : Nat) (a : Nat → Nat) : Nat → Nat → Nat := fun i => if i = j then a else ad i
theorem jq_some {ad : Nat → Nat → Nat} {F : jf_T} {i : Nat} {M : jm_T} (h : F i = some M) : jq ad F i = some (ad i 0) := by
  unfold jq
  rw [h]
  rfl
theorem jq_none {ad : Nat → Nat → Nat} {F : jf_T} {i : Nat} (h : F i = none) : jq ad F i = none := by
  unfold jq
  rw [h]
  rfl
theorem jq_up (ad : Nat → Nat → Nat) (F : jf_T) (j : Nat) (a : Nat → Nat) (M : jm_T) : va_up (jq ad F) j (some (a 0)) = jq (ja_u ad j a) (jf_u F j M) := by
  funext i
  unfold va_up jq ja_u jf_u
  by_cases c : i = j
  · simp only [if_pos c]
    rfl
  · simp only [if_neg c]
theorem jq_same (ad : Nat → Nat → Nat) (F : jf_T) {j : Nat} {M0 : jm_T} (M : jm_T) (h : F j = some M0) : jq ad (jf_u F j M) = jq ad F := by
  funext i
  unfold jq jf_u
  by_cases c : i = j
  · rw [if_pos c, c, h]
    rfl
  · rw [if_neg c]
/-- worlds in another order -/
theorem jk_permP {D : va_G} {cl : List vw_C} {ws ws' : va_W} {H : Heap} (h : ws.Perm ws') (hP : va_P D cl ws H) : va_P D cl ws' H := jk_P.mem.mpr fun x hx => jk_P.mem.mp hP x (h.mem_iff.mpr hx)
theorem jk_permD {A : Nat → Prop} {ws ws' : va_W} (h : ws.Perm ws') (hD : va_D A ws) : va_D A ws' :=
  jk_D.of ((h.pairwise_iff (fun hab => Ne.symm hab)).mp (jk_D.pair hD).1) (fun x hx => (jk_D.pair hD).2 x (h.mem_iff.mpr hx))
theorem jf_permL {α : Type} (f g : Nat → List α) (j : Nat) (hj : g j = []) (hne : ∀ i, i ≠ j → g i = f i) : ∀ n : Nat, j < n → ((List.range n).map f).flatten.Perm (f j ++ ((List.range n).map g).flatten)
  | 0, h => absurd h (by omega)
  | n + 1, h => by
    rw [List.range_succ, List.map_append, List.map_append, List.flatten_append, List.flatten_append]
    by_cases c : j = n
    · subst c
      have e : (List.range j).map f = (List.range j).map g := List.map_congr_left (fun i hi => (hne i (by have := List.mem_range.mp hi; omega)).symm)
      rw [e]
      simp only [List.map_cons, List.map_nil, List.flatten_cons, List.flatten_nil, List.append_nil, hj]
      exact List.perm_append_comm
    · have ih := jf_permL f g j hj hne n (by omega)
      simp only [List.map_cons, List.map_nil, List.flatten_cons, List.flatten_nil, List.append_nil]
      rw [hne n (fun z => c z.symm), ← List.append_assoc]
      exact ih.append_right _
/-- one machine out of many -/
theorem jf_perm (g : jk_G) {n : Nat} (ad : Nat → Nat → Nat) (F : jf_T) {j : Nat} {M : jm_T} (hj : j < n) (h : F j = some M) : (jf_X g n ad F).Perm (jm_W g (ad j) M ++ jf_X g n ad (jf_n F j)) := by
  have := jf_permL (fun i => jf_1 g (ad i) (F i)) (fun i => jf_1 g (ad i) (jf_n F j i)) j (by show jf_1 g (ad j) (jf_n F j j) = []; unfold jf_n; rw [if_pos rfl]; rfl) (fun i hi => by show jf_1 g (ad i) (jf_n F j i) = _; unfold jf_n; rw [if_neg hi]) n hj
  rw [h] at this
  exact this
theorem jf_none {F : jf_T} {j : Nat} (h : F j = none) : jf_n F j = F := by
  funext i
  unfold jf_n
  by_cases c : i = j
  · rw [if_pos c, c, h]
  · rw [if_neg c]
theorem jf_nu (F : jf_T) (j : Nat) (M : jm_T) : jf_n (jf_u F j M) j = jf_n F j := by
  funext i
  unfold jf_n jf_u
  by_cases c : i = j
  · rw [if_pos c, if_pos c]
  · rw [if_neg c, if_neg c, if_neg c]
theorem jf_uj (F : jf_T) (j : Nat) (M : jm_T) : jf_u F j M j = some M := if_pos rfl
/-- a machine among others, another one made of it -/
theorem jf_permU (g : jk_G) {n : Nat} (ad : Nat → Nat → Nat) (F : jf_T) {j : Nat} (M : jm_T) (hj : j < n) : (jf_X g n ad (jf_u F j M)).Perm (jm_W g (ad j) M ++ jf_X g n ad (jf_n F j)) := by
  have := jf_perm g ad (jf_u F j M) hj (jf_uj F j M)
  rw [jf_nu] at this
  exact this
theorem jf_adn (g : jk_G) (n : Nat) (ad : Nat → Nat → Nat) (F : jf_T) (j : Nat) (a : Nat → Nat) : jf_X g n (ja_u ad j a) (jf_n F j) = jf_X g n ad (jf_n F j) := by
  unfold jf_X
  congr 1
  refine List.map_congr_left (fun i _ => ?_)
  by_cases c : i = j
  · have e : jf_n F j i = none := if_pos c
    rw [e]
    rfl
  · have e : ja_u ad j a i = ad i := if_neg c
    rw [e]
theorem ja_uj (ad : Nat → Nat → Nat) (j : Nat) (a : Nat → Nat) : ja_u ad j a j = a := if_pos rfl
/-- the settings' bounds: two static rows that nobody writes -/
def jz_lo : Nat → Int32 := fun j => if j = 2 then 1 else if j = 4 then 100 else 0
def jz_hi : Nat → Int32 := fun j => if j = 0 then 32 else if j = 2 then 200 else if j = 4 then 2000 else 60
def jk_Z (tl tm : Nat) (A : Nat → Prop) (U : State) : Prop := va_Z "InfluenceJars" "LEAST_SETTING" "[I" (.ref tl) A U U.heap ∧ va_Z "InfluenceJars" "MOST_SETTING" "[I" (.ref tm) A U U.heap ∧ va_T .int tl 5 (fun j => .int (jz_lo j)) A U U.heap ∧ va_T .int tm 5 (fun j => .int (jz_hi j)) A U U.heap
theorem jk_Z.go {tl tm : Nat} {A B : Nat → Prop} {s U : State} {H : Heap} (h : jk_Z tl tm A s) (hS : va_S A s.heap H []) (hAB : ∀ q, B q → A q) (hU : U.heap = H) (hvm : s.vm.Alike U.vm) : jk_Z tl tm B U := by
  obtain ⟨h1, h2, h3, h4⟩ := h
  have hk : ∀ a : Nat, a < s.heap.size → ¬ A a → U.heap[a]? = s.heap[a]? := fun a q1 q2 => by rw [hU]; exact hS.2.1 a q1 q2
  exact ⟨((h1.kept hk).narrow hAB).moved hvm, ((h2.kept hk).narrow hAB).moved hvm, ((h3.kept hk).narrow hAB).moved hvm, ((h4.kept hk).narrow hAB).moved hvm⟩
theorem jk_Z.calling {tl tm : Nat} {A : Nat → Prop} {U : State} (gg : JFrame) (mk : MethodId) (a : Array Value) (h : jk_Z tl tm A U) : jk_Z tl tm A (U.calling gg mk a) := by
  obtain ⟨h1, h2, h3, h4⟩ := h
  have hv : U.vm.Alike (U.calling gg mk a).vm := Vm.Alike.refl U.vm
  exact ⟨va_Z.moved hv h1, va_Z.moved hv h2, va_T.moved hv h3, va_T.moved hv h4⟩
/-- what a contract may ask for beside its world -/
def jk_noZ : (Nat → Prop) → State → Prop := fun _ _ => True
def jk_QC (r : Option Value) (D : va_G) {O : Type} (w' : O → va_W) (A : Nat → Prop) : Array Value → State → Outcome → State → Prop := fun _ st oc t => oc = .returned r ∧ (∃ o : O, va_P D vwCl (w' o) t.heap ∧ va_D A (w' o)) ∧ va_F A st t
/-- in every heap that holds the world w, with the arguments av: the method answers r, makes at most mc cells of ms slots, and the heap then holds w' at some new addresses -/
def jk_C (l : Launch) (D : va_G) (g : jk_G) (Z : (Nat → Prop) → State → Prop) (y : MethodName) (ws : List Cond) (fr lo mc ms : Nat) (av : List Value) (w : va_W) (r : Option Value) {O : Type} (w' : O → va_W) : Prop :=
  ∀ sz : Nat, Met l y ws ({ frames := fr, cells := mc, slots := ms, locals := lo }) (va_Pc av (fun U => jk_B D g w sz U ∧ Z (va_A w sz) U)) (jk_QC r D w' (va_A w sz)) mc ms (va_A w sz)
theorem jk_ofC {l : Launch} {D : va_G} {g : jk_G} {Z : (Nat → Prop) → State → Prop} {y : MethodName} {ws ws' : List Cond} {fr lo mc ms : Nat} {av : List Value} {w : va_W} {r : Option Value} {O : Type} {w' : O → va_W} {cc : ByteArray} {maxL : Nat} {ret : Option FieldType} (hy : plainFor y = true) (hw : ws = Cond.code y cc maxL ret :: ws') (hav : (lg_sl av).length ≤ maxL)
    (body : ∀ (p : Program) (e : Env) (s : State) (m : MethodId) (args : Array Value) (below : List Frame) (meth : Method) (c : Code), p.tables.exec = Jvm.exec → c.code = cc → meth.sig.returnType = ret → c.maxLocals = maxL → (∀ w ∈ ws, w.before args s = true) → s.vm.findClass y.cls = some m.cls → meth.locks = false → (y.name = "<init>" → meth.name = "<init>") → va_K D vwCl (jk_T g) s → jk_N s →
      ∀ (A : Nat → Prop) (H : Heap) (locs : List Loc), Z A s → s.heap = H → va_P D vwCl w H → va_D A w → (∀ q, s.heap.size ≤ q → A q) → va_S A s.heap H locs → ∀ ls : Array Slot, lv_has ls maxL (lv_args 0 av) →
        W p l e ({ frames := fr, cells := mc, slots := ms, locals := lo }) s m args below meth c H locs 0 0 (MQ below (jk_QC r D w' A) args s mc ms A) (F0 m 0 ls [])) : jk_C l D g Z y ws fr lo mc ms av w r w' := by
  intro sz
  refine jk_ofW (cc := cc) (maxL := maxL) (ret := ret) hy hw ?_
  intro p e s m args below meth c s₁ B hml hv
  obtain ⟨rfl, ⟨hsz, hP, hK, hD0, hN⟩, hZ⟩ := hv
  subst hsz
  rw [lg_entry_eq]
  exact body p e s m _ below meth c B.exec B.bytes B.returns hml (atoms_spec (ws := ws) B.pre) (findClass_of_methodNamed B.named) B.notSynchronized (fun h => (name_of_methodNamed B.named B.method).1.trans h) hK hN _ _ _ hZ rfl hP hD0.self (fun q h => Or.inr h) va_S.rf _ (lv_entry av hav)
theorem jk_blindC {D : va_G} {g : jk_G} {w : va_W} {sz : Nat} {av : List Value} {Z : (Nat → Prop) → State → Prop} (hZ : ∀ (A : Nat → Prop) (U : State) (gg : JFrame) (mk : MethodId) (a : Array Value), Z A U → Z A (U.calling gg mk a)) : FrameBlind (va_Pc av (fun U => jk_B D g w sz U ∧ Z (va_A w sz) U)) := fun a U gg mk q => by
  obtain ⟨q0, ⟨q1, qP, qK, qD, qN⟩, qZ⟩ := q
  exact ⟨q0, ⟨q1, qP, va_K.moved (u := U) (U := U.calling gg mk a) (Vm.Alike.refl U.vm) qK, qD, jk_N.same (u := U) (U := U.calling gg mk a) rfl qN⟩, hZ _ _ _ _ _ qZ⟩
section JKC
variable {p : Program} {l : Launch} {e : Env} {R : Room} {s : State} {m : MethodId} {args : Array Value} {below : List Frame} {meth : Method} {c : Code} {H : Heap} {locs : List Loc} {cells slots mc ms : Nat} {Q : State → Prop}
variable {cc : ByteArray} {D : va_G} {g : jk_G} {A A0 A1 : Nat → Prop} {w0 wc : va_W} {pc : Nat} {ls : Array Slot} {O : Type} {w1 w' ws1 : O → va_W} {Z : (Nat → Prop) → State → Prop}
theorem jk_iretC {v v' : Int32} (o : O) (hx : p.tables.exec = Jvm.exec) (hb : c.code = cc) (hr : meth.sig.returnType = some .int) (hlocks : meth.locks = false) (hP : va_P D vwCl w0 H) (hD : va_D A w0) (hS : va_S A s.heap H locs) (h1 : cells ≤ mc) (h2 : slots ≤ ms) (hv : v = v') (hw : w0 = w' o) (hdg : decode cc pc = .ok (.ireturn, 1)) : W p l e R s m args below meth c H locs cells slots (MQ below (jk_QC (some (.int v')) D w' A) args s mc ms A) (F0 m pc ls [.int v]) := by
  subst hv; subst hw
  exact W.widen h1 h2 (W.iret hx hb hr (fun t ht hW => ⟨rfl, ⟨o, by rw [ht]; exact hP, hD⟩, hS.F ht⟩) hS.2.2 hdg hlocks)
theorem jk_vretC (o : O) (hx : p.tables.exec = Jvm.exec) (hb : c.code = cc) (hr : meth.sig.returnType = none) (hlocks : meth.locks = false) (hP : va_P D vwCl w0 H) (hD : va_D A w0) (hS : va_S A s.heap H locs) (h1 : cells ≤ mc) (h2 : slots ≤ ms) (hw : w0 = w' o) (hdg : decode cc pc = .ok (.return_, 1)) : W p l e R s m args below meth c H locs cells slots (MQ below (jk_QC none D w' A) args s mc ms A) (F0 m pc ls []) := by
  subst hw
  exact W.widen h1 h2 (W.vret hx hb hr (fun t ht hW => ⟨rfl, ⟨o, by rw [ht]; exact hP, hD⟩, hS.F ht⟩) hS.2.2 hdg hlocks)
theorem jk_goC {st0 rest : List Value} {a : Array Value} {H0 : Heap} {r : Option Value} (hr : va_Run p l e R s m args below meth c H locs cells slots mc ms (F0 m pc ls st0) rest (jk_QC r D w1 A1 a) A1) (hS : va_S A0 H0 H locs) (hF : ∀ q, A1 q → A0 q)
    (hj : ∀ (o : O) (H1 : Heap), va_P D vwCl (w1 o) H1 → (∀ q : Nat, q < H.size → ¬ A1 q → H1[q]? = H[q]?) → va_P D vwCl (ws1 o) H1) (hjD : ∀ o : O, va_D A1 (w1 o) → va_D A0 (ws1 o))
    (kk : ∀ (o : O) (H1 : Heap) (locs1 : List Loc), va_P D vwCl (ws1 o) H1 → va_D A0 (ws1 o) → va_S A0 H0 H1 locs1 → W p l e R s m args below meth c H1 locs1 (cells + mc) (slots + ms) Q (F0 m (pc + 3) ls (r.toList ++ rest))) : W p l e R s m args below meth c H locs cells slots Q (F0 m pc ls st0) := by
  intro T hT X
  obtain ⟨v, st₀, t, T', L, h0, X', hL, e1, e2, ⟨hv, ⟨o, hp, hd⟩, hz, hk⟩, st⟩ := hr T hT X
  cases hv
  rw [h0] at hz hk
  obtain ⟨t2, a1, b1⟩ := kk o T'.heap (locs ++ L) (hj o _ (by rw [e1]; exact hp) (fun q h1 h2 => by rw [e1]; exact hk q h1 h2)) (hjD o hd)
    ⟨Nat.le_trans hS.1 (by rw [e1]; exact hz), fun q h1 h2 => by rw [e1, hk q (Nat.lt_of_lt_of_le h1 hS.1) (fun z => h2 (hF q z))]; exact hS.2.1 q h1 h2, fun q hq => by
      rcases List.mem_append.mp hq with h | h
      · exact hS.2.2 q h
      · exact hF _ (hL q h)⟩ T' rfl X'
  exact ⟨t2, st t2 a1, b1⟩
variable {y : MethodName} {bytes : ByteArray} {maxL nL n index fr lo b : Nat} {ret : Option FieldType} {wsy Ts : List Cond} {own C host : String} {As rest st0 : List Value} {r : Option Value} {H0 : Heap} {lv : List (Nat × Value)}
theorem jk_callVC (S : CallFix p m c cc nL s args Ts own) (hM : jk_C l D g Z y wsy fr lo mc ms (.ref b :: As) wc r w1) (hZb : ∀ (A : Nat → Prop) (U : State) (gg : JFrame) (mk : MethodId) (a : Array Value), Z A U → Z A (U.calling gg mk a)) (hZ : ∀ U : State, U.heap = H → s.WarmedH U.vm → Z (va_A wc H.size) U) (cw : CallW R s args own C index y bytes maxL ret wsy ({ frames := fr, cells := mc, slots := ms, locals := lo }) mc ms n) (hrec : ∃ cell : Cell, H[b]? = some cell ∧ cell.vm.isStatics = false ∧ s.vm.findClass C = some cell.cls)
    (hPc : va_P D vwCl wc H) (hDc : va_D A0 wc) (hK : va_K D vwCl (jk_T g) s) (hN : jk_N s) (hn : As.length = n) (hl : lv_has ls nL lv) (hst : st0 = As.reverse ++ .ref b :: rest) (hW : (rest.map fun v => v.category).sum ≤ 8) (hdg : decode cc pc = .ok (.invokevirtual index, 3)) (hc : cells + mc ≤ R.cells ∧ slots + ms ≤ R.slots)
    (hS : va_S A0 H0 H locs) (hA : ∀ q, H0.size ≤ q → A0 q) (hj : ∀ (o : O) (H1 : Heap), va_P D vwCl (w1 o) H1 → (∀ q : Nat, q < H.size → ¬ va_A wc H.size q → H1[q]? = H[q]?) → va_P D vwCl (ws1 o) H1) (hjD : ∀ o : O, va_D (va_A wc H.size) (w1 o) → va_D A0 (ws1 o))
    (kk : ∀ (o : O) (H1 : Heap) (locs1 : List Loc), va_P D vwCl (ws1 o) H1 → va_D A0 (ws1 o) → va_S A0 H0 H1 locs1 → W p l e R s m args below meth c H1 locs1 (cells + mc) (slots + ms) Q (F0 m (pc + 3) ls (r.toList ++ rest))) : W p l e R s m args below meth c H locs cells slots Q (F0 m pc ls st0) :=
  jk_goC (va_runV (As := As) (rest := rest) S (hM H.size) cw ⟨jk_blindC hZb, hrec, fun U hU hW => ⟨rfl, (jk_pay (av := .ref b :: As) hPc hK hDc hN U hU hW).2, hZ U hU hW⟩⟩ rfl hn hl.1 hst (lv_room (m := m) (pc := pc) (ls := ls) (rest := st0) hW) hdg hc) hS (jk_freeA hDc hS hA) hj hjD kk
theorem jk_callIC (S : CallFix p m c cc nL s args Ts own) (hM : jk_C l D g jk_noZ y wsy fr lo mc ms (.ref b :: As) wc r w1) (cw : CallB R s args own index y bytes maxL none wsy ({ frames := fr, cells := mc, slots := ms, locals := lo }) mc ms n ∧ y.name = "<init>" ∧ (Cond.instanceMethod y).before args s = true)
    (hPc : va_P D vwCl wc H) (hDc : va_D A0 wc) (hK : va_K D vwCl (jk_T g) s) (hN : jk_N s) (hn : As.length = n) (hl : lv_has ls nL lv) (hst : st0 = As.reverse ++ .ref b :: rest) (hW : (rest.map fun v => v.category).sum ≤ 8) (hdg : decode cc pc = .ok (.invokespecial index, 3)) (hc : cells + mc ≤ R.cells ∧ slots + ms ≤ R.slots)
    (hS : va_S A0 H0 H locs) (hA : ∀ q, H0.size ≤ q → A0 q) (hj : ∀ (o : O) (H1 : Heap), va_P D vwCl (w1 o) H1 → (∀ q : Nat, q < H.size → ¬ va_A wc H.size q → H1[q]? = H[q]?) → va_P D vwCl (ws1 o) H1) (hjD : ∀ o : O, va_D (va_A wc H.size) (w1 o) → va_D A0 (ws1 o))
    (kk : ∀ (o : O) (H1 : Heap) (locs1 : List Loc), va_P D vwCl (ws1 o) H1 → va_D A0 (ws1 o) → va_S A0 H0 H1 locs1 → W p l e R s m args below meth c H1 locs1 (cells + mc) (slots + ms) Q (F0 m (pc + 3) ls (r.toList ++ rest))) : W p l e R s m args below meth c H locs cells slots Q (F0 m pc ls st0) :=
  jk_goC (va_runI (As := As) (rest := rest) S (hM H.size) cw ⟨jk_blindC (fun _ _ _ _ _ h => h), fun U hU hW => ⟨rfl, (jk_pay (av := .ref b :: As) hPc hK hDc hN U hU hW).2, trivial⟩⟩ rfl hn hl.1 hst (lv_room (m := m) (pc := pc) (ls := ls) (rest := st0) hW) hdg hc) hS (jk_freeA hDc hS hA) hj hjD kk
theorem jk_goK {st0 rest : List Value} {a : Array Value} {H0 : Heap} {r : Option Value} (hr : va_Run p l e R s m args below meth c H locs cells slots mc ms (F0 m pc ls st0) rest (jk_QC r D w1 A1 a) A1) (hS : va_S A0 H0 H locs) (hF : ∀ q, A1 q → A0 q)
    (kk : ∀ (o : O) (H1 : Heap) (locs1 : List Loc), va_P D vwCl (w1 o) H1 → va_D A1 (w1 o) → (∀ q : Nat, q < H.size → ¬ A1 q → H1[q]? = H[q]?) → va_S A0 H0 H1 locs1 → W p l e R s m args below meth c H1 locs1 (cells + mc) (slots + ms) Q (F0 m (pc + 3) ls (r.toList ++ rest))) : W p l e R s m args below meth c H locs cells slots Q (F0 m pc ls st0) := by
  intro T hT X
  obtain ⟨v, st₀, t, T', L, h0, X', hL, e1, e2, ⟨hv, ⟨o, hp, hd⟩, hz, hk⟩, st⟩ := hr T hT X
  cases hv
  rw [h0] at hz hk
  obtain ⟨t2, a1, b1⟩ := kk o T'.heap (locs ++ L) (by rw [e1]; exact hp) hd (fun q h1 h2 => by rw [e1]; exact hk q h1 h2)
    ⟨Nat.le_trans hS.1 (by rw [e1]; exact hz), fun q h1 h2 => by rw [e1, hk q (Nat.lt_of_lt_of_le h1 hS.1) (fun z => h2 (hF q z))]; exact hS.2.1 q h1 h2, fun q hq => by
      rcases List.mem_append.mp hq with h | h
      · exact hS.2.2 q h
      · exact hF _ (hL q h)⟩ T' rfl X'
  exact ⟨t2, st t2 a1, b1⟩
theorem jk_callIN (S : CallFix p m c cc nL s args Ts own) (hM : jk_C l D g Z y wsy fr lo mc ms (.ref b :: As) wc r w1) (hZb : ∀ (A : Nat → Prop) (U : State) (gg : JFrame) (mk : MethodId) (a : Array Value), Z A U → Z A (U.calling gg mk a)) (hZ : ∀ U : State, U.heap = H → s.WarmedH U.vm → Z (va_A wc H.size) U) (cw : va_CN R s args own index y host bytes maxL none wsy ({ frames := fr, cells := mc, slots := ms, locals := lo }) mc ms n ∧ y.name = "<init>" ∧ (Cond.instanceMethod y).before args s = true)
    (hPc : va_P D vwCl wc H) (hDc : va_D A0 wc) (hK : va_K D vwCl (jk_T g) s) (hN : jk_N s) (hn : As.length = n) (hl : lv_has ls nL lv) (hst : st0 = As.reverse ++ .ref b :: rest) (hW : (rest.map fun v => v.category).sum ≤ 8) (hdg : decode cc pc = .ok (.invokespecial index, 3)) (hc : cells + mc ≤ R.cells ∧ slots + ms ≤ R.slots)
    (hS : va_S A0 H0 H locs) (hF : ∀ q, va_A wc H.size q → A0 q)
    (kk : ∀ (o : O) (H1 : Heap) (locs1 : List Loc), va_P D vwCl (w1 o) H1 → va_D (va_A wc H.size) (w1 o) → (∀ q : Nat, q < H.size → ¬ va_A wc H.size q → H1[q]? = H[q]?) → va_S A0 H0 H1 locs1 → W p l e R s m args below meth c H1 locs1 (cells + mc) (slots + ms) Q (F0 m (pc + 3) ls (r.toList ++ rest))) : W p l e R s m args below meth c H locs cells slots Q (F0 m pc ls st0) :=
  jk_goK (va_runIN (As := As) (rest := rest) S (hM H.size) cw ⟨jk_blindC hZb, fun U hU hW => ⟨rfl, (jk_pay (av := .ref b :: As) hPc hK hDc hN U hU hW).2, hZ U hU hW⟩⟩ rfl hn hl.1 hst (lv_room (m := m) (pc := pc) (ls := ls) (rest := st0) hW) hdg hc) hS hF kk
theorem jk_callIK (S : CallFix p m c cc nL s args Ts own) (hM : jk_C l D g Z y wsy fr lo mc ms (.ref b :: As) wc r w1) (hZb : ∀ (A : Nat → Prop) (U : State) (gg : JFrame) (mk : MethodId) (a : Array Value), Z A U → Z A (U.calling gg mk a)) (hZ : ∀ U : State, U.heap = H → s.WarmedH U.vm → Z (va_A wc H.size) U) (cw : CallB R s args own index y bytes maxL none wsy ({ frames := fr, cells := mc, slots := ms, locals := lo }) mc ms n ∧ y.name = "<init>" ∧ (Cond.instanceMethod y).before args s = true)
    (hPc : va_P D vwCl wc H) (hDc : va_D A0 wc) (hK : va_K D vwCl (jk_T g) s) (hN : jk_N s) (hn : As.length = n) (hl : lv_has ls nL lv) (hst : st0 = As.reverse ++ .ref b :: rest) (hW : (rest.map fun v => v.category).sum ≤ 8) (hdg : decode cc pc = .ok (.invokespecial index, 3)) (hc : cells + mc ≤ R.cells ∧ slots + ms ≤ R.slots)
    (hS : va_S A0 H0 H locs) (hF : ∀ q, va_A wc H.size q → A0 q)
    (kk : ∀ (o : O) (H1 : Heap) (locs1 : List Loc), va_P D vwCl (w1 o) H1 → va_D (va_A wc H.size) (w1 o) → (∀ q : Nat, q < H.size → ¬ va_A wc H.size q → H1[q]? = H[q]?) → va_S A0 H0 H1 locs1 → W p l e R s m args below meth c H1 locs1 (cells + mc) (slots + ms) Q (F0 m (pc + 3) ls (r.toList ++ rest))) : W p l e R s m args below meth c H locs cells slots Q (F0 m pc ls st0) :=
  jk_goK (va_runI (As := As) (rest := rest) S (hM H.size) cw ⟨jk_blindC hZb, fun U hU hW => ⟨rfl, (jk_pay (av := .ref b :: As) hPc hK hDc hN U hU hW).2, hZ U hU hW⟩⟩ rfl hn hl.1 hst (lv_room (m := m) (pc := pc) (ls := ls) (rest := st0) hW) hdg hc) hS hF kk
/-- new rows -/
theorem jk_newi (hx : p.tables.exec = Jvm.exec) (hb : c.code = cc) (harr : (Cond.arrayClass .int).before args s = true) (hK : va_K D vwCl (jk_T g) s) (hP : va_P D vwCl w0 H) (hD : va_D A w0) {H0 : Heap} (hS : va_S A H0 H locs) (hA : ∀ q, H0.size ≤ q → A q) {n : Int32} {N' : Nat} {rest : List Value} (hn : ¬ n < 0) (hN : n.toNatClampNeg = N') (hbytes : N' * componentBytes .int ≤ 536870912) (hcells : cells + 1 ≤ R.cells) (hslots : slots + N' ≤ R.slots) (hdg : decode cc pc = .ok (.newarray .int, 2))
    (kk : ∀ (q : Nat) (H1 : Heap), va_P D vwCl (w0 ++ [(q, .inl (g.1, N', .inl (fun _ => 0)))]) H1 → va_D A (w0 ++ [(q, .inl (g.1, N', .inl (fun _ => 0)))]) → va_S A H0 H1 locs → W p l e R s m args below meth c H1 locs (cells + 1) (slots + N') Q (F0 m (pc + 2) ls (.ref q :: rest))) : W p l e R s m args below meth c H locs cells slots Q (F0 m pc ls (.int n :: rest)) := by
  refine va_newa (atype := .int) hx hb harr rfl hK hP hD hS hA (a0 := (N', .inl (fun _ => 0))) (fun _ => rfl) hn hN hbytes hcells hslots hdg (fun q cA H1 hK' hP' hD' hS' => ?_)
  have h1 : s.vm.findClass ("[" ++ FieldType.int.toString) = some cA := (hK'.2 3 (cA, .int) rfl).2
  have h2 : s.vm.findClass ("[" ++ FieldType.int.toString) = some g.1 := (hK.2 0 (g.1, .int) rfl).2
  cases h1.symm.trans h2
  exact kk q H1 hP' hD' hS'
theorem jk_newc (hx : p.tables.exec = Jvm.exec) (hb : c.code = cc) (harr : (Cond.arrayClass .char).before args s = true) (hK : va_K D vwCl (jk_T g) s) (hP : va_P D vwCl w0 H) (hD : va_D A w0) {H0 : Heap} (hS : va_S A H0 H locs) (hA : ∀ q, H0.size ≤ q → A q) {n : Int32} {N' : Nat} {rest : List Value} (hn : ¬ n < 0) (hN : n.toNatClampNeg = N') (hbytes : N' * componentBytes .char ≤ 536870912) (hcells : cells + 1 ≤ R.cells) (hslots : slots + N' ≤ R.slots) (hdg : decode cc pc = .ok (.newarray .char, 2))
    (kk : ∀ (q : Nat) (H1 : Heap), va_P D vwCl (w0 ++ [(q, .inl (g.2.1, N', .inl (fun _ => 0)))]) H1 → va_D A (w0 ++ [(q, .inl (g.2.1, N', .inl (fun _ => 0)))]) → va_S A H0 H1 locs → W p l e R s m args below meth c H1 locs (cells + 1) (slots + N') Q (F0 m (pc + 2) ls (.ref q :: rest))) : W p l e R s m args below meth c H locs cells slots Q (F0 m pc ls (.int n :: rest)) := by
  refine va_newa (atype := .char) hx hb harr rfl hK hP hD hS hA (a0 := (N', .inl (fun _ => 0))) (fun _ => rfl) hn hN hbytes hcells hslots hdg (fun q cA H1 hK' hP' hD' hS' => ?_)
  have h1 : s.vm.findClass ("[" ++ FieldType.char.toString) = some cA := (hK'.2 3 (cA, .char) rfl).2
  have h2 : s.vm.findClass ("[" ++ FieldType.char.toString) = some g.2.1 := (hK.2 1 (g.2.1, .char) rfl).2
  cases h1.symm.trans h2
  exact kk q H1 hP' hD' hS'
theorem jk_newq {own : String} (hx : p.tables.exec = Jvm.exec) (hb : c.code = cc) (hown : s.vm.findClass own = some m.cls) (hclink : (Cond.classLink own index RX2).before args s = true) (hover : va_AO RX2 s) (hK : va_K D vwCl (jk_T g) s) (hP : va_P D vwCl w0 H) (hD : va_D A w0) {H0 : Heap} (hS : va_S A H0 H locs) (hA : ∀ q, H0.size ≤ q → A q) {n : Int32} {N' : Nat} {rest : List Value} (hn : ¬ n < 0) (hN : n.toNatClampNeg = N') (hbytes : N' * 4 ≤ 536870912) (hcells : cells + 1 ≤ R.cells) (hslots : slots + N' ≤ R.slots) (hdg : decode cc pc = .ok (.anewarray index, 3))
    (kk : ∀ (q : Nat) (H1 : Heap), va_P D vwCl (w0 ++ [(q, .inl (g.2.2, N', .inr (.inr (.inr (.inr (fun _ => none))))))]) H1 → va_D A (w0 ++ [(q, .inl (g.2.2, N', .inr (.inr (.inr (.inr (fun _ => none))))))]) → va_S A H0 H1 locs → W p l e R s m args below meth c H1 locs (cells + 1) (slots + N') Q (F0 m (pc + 3) ls (.ref q :: rest))) : W p l e R s m args below meth c H locs cells slots Q (F0 m pc ls (.int n :: rest)) := by
  refine va_newq hx hb hown hclink hover hK hP hD hS hA hn hN hbytes hcells hslots hdg (fun q cA H1 hK' hP' hD' hS' => ?_)
  obtain ⟨k1, c1, -, -, -, h1⟩ := (hK'.2 3 (cA, .object RX2) rfl).2
  obtain ⟨k2, c2, -, -, -, h2⟩ := (hK.2 2 (g.2.2, .object RX2) rfl).2
  cases h1.symm.trans h2
  exact kk q H1 hP' hD' hS'
theorem jk_callINC (S : CallFix p m c cc nL s args Ts own) (hM : jk_C l D g Z y wsy fr lo mc ms (.ref b :: As) wc r w1) (hZb : ∀ (A : Nat → Prop) (U : State) (gg : JFrame) (mk : MethodId) (a : Array Value), Z A U → Z A (U.calling gg mk a)) (hZ : ∀ U : State, U.heap = H → s.WarmedH U.vm → Z (va_A wc H.size) U) (cw : va_CN R s args own index y host bytes maxL none wsy ({ frames := fr, cells := mc, slots := ms, locals := lo }) mc ms n ∧ y.name = "<init>" ∧ (Cond.instanceMethod y).before args s = true)
    (hPc : va_P D vwCl wc H) (hDc : va_D A0 wc) (hK : va_K D vwCl (jk_T g) s) (hN : jk_N s) (hn : As.length = n) (hl : lv_has ls nL lv) (hst : st0 = As.reverse ++ .ref b :: rest) (hW : (rest.map fun v => v.category).sum ≤ 8) (hdg : decode cc pc = .ok (.invokespecial index, 3)) (hc : cells + mc ≤ R.cells ∧ slots + ms ≤ R.slots)
    (hS : va_S A0 H0 H locs) (hA : ∀ q, H0.size ≤ q → A0 q) (hj : ∀ (o : O) (H1 : Heap), va_P D vwCl (w1 o) H1 → (∀ q : Nat, q < H.size → ¬ va_A wc H.size q → H1[q]? = H[q]?) → va_P D vwCl (ws1 o) H1) (hjD : ∀ o : O, va_D (va_A wc H.size) (w1 o) → va_D A0 (ws1 o))
    (kk : ∀ (o : O) (H1 : Heap) (locs1 : List Loc), va_P D vwCl (ws1 o) H1 → va_D A0 (ws1 o) → va_S A0 H0 H1 locs1 → W p l e R s m args below meth c H1 locs1 (cells + mc) (slots + ms) Q (F0 m (pc + 3) ls (r.toList ++ rest))) : W p l e R s m args below meth c H locs cells slots Q (F0 m pc ls st0) :=
  jk_goC (va_runIN (As := As) (rest := rest) S (hM H.size) cw ⟨jk_blindC hZb, fun U hU hW => ⟨rfl, (jk_pay (av := .ref b :: As) hPc hK hDc hN U hU hW).2, hZ U hU hW⟩⟩ rfl hn hl.1 hst (lv_room (m := m) (pc := pc) (ls := ls) (rest := st0) hW) hdg hc) hS (jk_freeA hDc hS hA) hj hjD kk
end JKC
/-- behind a call that may have made cells: all is still apart -/
theorem jk_segD {A A1 : Nat → Prop} {D : va_G} {cl : List vw_C} {L L' T : List va_W} {w1 : va_W} {H : Heap} (hP : va_P D cl L.flatten H) (hD : va_D A L.flatten) (isC : List Nat) (cs : List (Bool × Nat)) (h1 : w1 = T.flatten)
    (hc : cs.all (fun c => c.1 || !(isC.contains c.2)) = true) (hn : cs.Nodup) (hL : L' = cs.map (fun c => if c.1 then T.getD c.2 [] else L.getD c.2 [])) (hA1 : ∀ q, A1 q → va_A ((isC.map (fun i => L.getD i [])).flatten) H.size q) (hF : ∀ q, A1 q → A q) :
    va_D A1 w1 → va_D A L'.flatten := by
  intro hD1
  subst h1
  have hmem : ∀ c ∈ cs, ∀ x ∈ (if c.1 then T.getD c.2 [] else L.getD c.2 []), A x.1 := by
    rintro ⟨b, j⟩ hj x hx
    cases b with
    | true =>
      have hx : x ∈ T.getD j [] := hx
      obtain ⟨t, ht, hx⟩ := jk_getD hx
      exact hF _ ((jk_D.pair hD1).2 x (List.mem_flatten.mpr ⟨t, List.mem_of_getElem? ht, hx⟩))
    | false =>
      have hx : x ∈ L.getD j [] := hx
      obtain ⟨t, ht, hx⟩ := jk_getD hx
      exact (jk_D.pair hD).2 x (List.mem_flatten.mpr ⟨t, List.mem_of_getElem? ht, hx⟩)
  have hold : ∀ j, (false, j) ∈ cs → ∀ x ∈ L.getD j [], ¬ A1 x.1 := by
    intro j hj x hx h
    have hb := List.all_eq_true.mp hc _ hj
    have hjC : j ∉ isC := by
      intro q
      simp at hb
      exact hb q
    obtain ⟨t, ht, hx2⟩ := jk_getD hx
    have hat := jk_P.mem.mp hP x (List.mem_flatten.mpr ⟨t, List.mem_of_getElem? ht, hx2⟩)
    rcases hA1 _ h with ⟨k2, e, h⟩ | h
    · obtain ⟨i, hi, hy⟩ := jk_segMem (List.mem_of_getElem? h)
      exact jk_segApart hD (i := i) (j := j) (fun z => hjC (z ▸ hi)) hy hx rfl
    · have := hat.lt
      omega
  have hnew : ∀ j, ∀ x ∈ T.getD j [], A1 x.1 := by
    intro j x hx
    obtain ⟨t, ht, hx⟩ := jk_getD hx
    exact (jk_D.pair hD1).2 x (List.mem_flatten.mpr ⟨t, List.mem_of_getElem? ht, hx⟩)
  rw [hL]
  refine jk_D.of (List.pairwise_flatten.mpr ⟨?_, ?_⟩) ?_
  · intro sgm hs
    obtain ⟨⟨b, j⟩, hj, rfl⟩ := List.mem_map.mp hs
    cases b with
    | true =>
      show (T.getD j []).Pairwise _
      rw [List.getD_eq_getElem?_getD]
      cases ht : T[j]? with
      | none => exact List.Pairwise.nil
      | some t => exact (List.pairwise_flatten.mp (jk_D.pair hD1).1).1 t (List.mem_of_getElem? ht)
    | false =>
      show (L.getD j []).Pairwise _
      rw [List.getD_eq_getElem?_getD]
      cases ht : L[j]? with
      | none => exact List.Pairwise.nil
      | some t => exact (List.pairwise_flatten.mp (jk_D.pair hD).1).1 t (List.mem_of_getElem? ht)
  · rw [List.pairwise_map]
    refine List.Pairwise.imp_of_mem ?_ hn
    rintro ⟨b, i⟩ ⟨b', j⟩ hi hj hne x hx y hy
    cases b with
    | true =>
      have hx : x ∈ T.getD i [] := hx
      cases b' with
      | true =>
        have hy : y ∈ T.getD j [] := hy
        exact jk_segApart hD1 (i := i) (j := j) (fun z => hne (by rw [z])) hx hy
      | false =>
        have hy : y ∈ L.getD j [] := hy
        intro z
        exact hold j hj y hy (z ▸ hnew i x hx)
    | false =>
      have hx : x ∈ L.getD i [] := hx
      cases b' with
      | true =>
        have hy : y ∈ T.getD j [] := hy
        intro z
        exact hold i hi x hx (z ▸ hnew j y hy)
      | false =>
        have hy : y ∈ L.getD j [] := hy
        exact jk_segApart hD (i := i) (j := j) (fun z => hne (by rw [z])) hx hy
  · intro x hx
    obtain ⟨sgm, hs, hx⟩ := List.mem_flatten.mp hx
    obtain ⟨c, hc1, rfl⟩ := List.mem_map.mp hs
    exact hmem c hc1 x hx
theorem jk_cg1 {α δ : Type} (F : α → δ) {a a' : α} (h1 : a = a') : F a = F a' := by subst h1; rfl
theorem jk_cg2 {α β δ : Type} (F : α → β → δ) {a a' : α} {b b' : β} (h1 : a = a') (h2 : b = b') : F a b = F a' b' := by subst h1; subst h2; rfl
theorem jk_cg3 {α β γ δ : Type} (F : α → β → γ → δ) {a a' : α} {b b' : β} {c c' : γ} (h1 : a = a') (h2 : b = b') (h3 : c = c') : F a b c = F a' b' c' := by subst h1; subst h2; subst h3; rfl
theorem jk_cg4 {α β γ ε δ : Type} (F : α → β → γ → ε → δ) {a a' : α} {b b' : β} {c c' : γ} {e e' : ε} (h1 : a = a') (h2 : b = b') (h3 : c = c') (h4 : e = e') : F a b c e = F a' b' c' e' := by subst h1; subst h2; subst h3; subst h4; rfl
theorem jk_cg5 {α β γ ε ζ δ : Type} (F : α → β → γ → ε → ζ → δ) {a a' : α} {b b' : β} {c c' : γ} {e e' : ε} {z z' : ζ} (h1 : a = a') (h2 : b = b') (h3 : c = c') (h4 : e = e') (h5 : z = z') : F a b c e z = F a' b' c' e' z' := by subst h1; subst h2; subst h3; subst h4; subst h5; rfl
/-! ===== the pad and its reader: loops ===== -/
/-- the pad's signs are characters -/
def jp_chs (M : jp_T) : Prop := ∀ j : Nat, narrow .char (.int (jp_sg M j)) = .int (jp_sg M j)
theorem jp_ix_in {v : Int32} (h0 : ¬ v < 0) (h : v < 60) : vp_in v 60 := by
  rw [Int32.lt_iff_toInt_lt, Int32.toInt_zero] at h0
  rw [Int32.lt_iff_toInt_lt, show (60 : Int32).toInt = 60 by decide] at h
  exact vp_in_iff.mpr (by omega)
theorem lc_full {n : Nat} (h : n < 60) : ¬ (60 : Int32) ≤ nI n := nI_ge (b := 60) h (by decide)
theorem lc_dec (x : Int32) (k : Nat) : x - nI k + Int32.ofInt (-1) = x - nI (k + 1) := by
  rw [show (Int32.ofInt (-1)) = -(1 : Int32) by decide, ← Int32.sub_eq_add_neg, Int32.sub_sub, nI_1]
theorem lc_ix {c k : Nat} (hc : c ≤ 60) (hk : k < c) : nI c - 1 - nI k = nI (c - 1 - k) := by
  rw [show (1 : Int32) = nI 1 from rfl, pk_sub (by omega), pk_sub (by omega)]
theorem lc_ex {c k : Nat} {n : Int32} (hn : n = nI c) (hc : c ≤ 60) (hk : k ≤ c) (h : n - 1 - nI k < 0) : c = k := by
  subst hn
  rcases Nat.lt_or_ge k c with q | q
  · rw [lc_ix hc q, Int32.lt_iff_toInt_lt, nI_toInt (by omega), Int32.toInt_zero] at h
    omega
  · omega
theorem lc_in {c k : Nat} {n : Int32} (hn : n = nI c) (hc : c ≤ 60) (hk : k ≤ c) (h : ¬ n - 1 - nI k < 0) : k < c := by
  subst hn
  rcases Nat.lt_or_ge k c with q | q
  · exact q
  · have : k = c := by omega
    subst this
    refine absurd ?_ h
    have ek := nI_toInt (show k < 2 ^ 31 by omega)
    have e1 : (1 : Int32).toInt = 1 := by decide
    have a1 : (nI k - 1).toInt = k - 1 := by rw [jk_subT (by omega) (by omega), ek, e1]
    have a2 : (nI k - 1 - nI k).toInt = -1 := by
      rw [jk_subT (by omega) (by omega), a1, ek]
      omega
    rw [Int32.lt_iff_toInt_lt, a2, Int32.toInt_zero]
    omega
/-- the characters of a number come behind the first t ones -/
def lc_app (f : Nat → Int32) (t : Nat) (v : Int64) (n : Int32) : Nat → Nat → Int32
  | 0 => f
  | k + 1 => upd (lc_app f t v n k) (t + k) (vp_nar .char (((((v.toUInt64 >>> ((8 * (n - 1 - nI k)).toInt64.toUInt64 &&& Int64.toUInt64 63)).toInt64 &&& 255).toInt32).toUInt32 % 65536).toInt32))
/-- how many characters a number holds, n bytes more at most, k are read -/
def lc_ci : Nat → Int64 → Nat → Int32
  | 0, _, k => nI k
  | n + 1, q, k => if lg_cmp q 0 = 0 then nI k else if (q &&& 255).toInt32 < 33 then 0 else if (q &&& 255).toInt32 ≤ 126 then lc_ci n (q.toUInt64 >>> ((8 : Int32).toInt64.toUInt64 &&& Int64.toUInt64 63)).toInt64 (k + 1) else 0
theorem lc_ci_8 {k : Nat} {q : Int64} {X : Int32} (h : k = 8) (hE : lc_ci (8 - k) q k = X) : nI k = X := by
  subst h
  rw [← hE]
  rfl
theorem lc_ci_0 {k : Nat} {q : Int64} {X : Int32} (h : k < 8) (c : lg_cmp q 0 = 0) (hE : lc_ci (8 - k) q k = X) : nI k = X := by
  rw [← hE, show 8 - k = (8 - (k + 1)) + 1 by omega, lc_ci, if_pos c]
theorem lc_ci_a {k : Nat} {q : Int64} {X : Int32} (h : k < 8) (c : ¬ lg_cmp q 0 = 0) (c2 : (q &&& 255).toInt32 < 33) (hE : lc_ci (8 - k) q k = X) : 0 = X := by
  rw [← hE, show 8 - k = (8 - (k + 1)) + 1 by omega, lc_ci, if_neg c, if_pos c2]
theorem lc_ci_b {k : Nat} {q : Int64} {X : Int32} (h : k < 8) (c : ¬ lg_cmp q 0 = 0) (c2 : ¬ (q &&& 255).toInt32 < 33) (c3 : ¬ (q &&& 255).toInt32 ≤ 126) (hE : lc_ci (8 - k) q k = X) : 0 = X := by
  rw [← hE, show 8 - k = (8 - (k + 1)) + 1 by omega, lc_ci, if_neg c, if_neg c2, if_neg c3]
theorem lc_ci_s {k : Nat} {q : Int64} {X : Int32} (h : k < 8) (c : ¬ lg_cmp q 0 = 0) (c2 : ¬ (q &&& 255).toInt32 < 33) (c3 : (q &&& 255).toInt32 ≤ 126) (hE : lc_ci (8 - k) q k = X) : lc_ci (8 - (k + 1)) (q.toUInt64 >>> ((8 : Int32).toInt64.toUInt64 &&& Int64.toUInt64 63)).toInt64 (k + 1) = X := by
  rw [← hE, show 8 - k = (8 - (k + 1)) + 1 by omega, lc_ci, if_neg c, if_neg c2, if_pos c3]
theorem lc_gt61 {k : Nat} (hk : k ≤ 61) (h : (60 : Int32) < nI k) : k = 61 := by
  rw [Int32.lt_iff_toInt_lt, nI_toInt (by omega), show (60 : Int32).toInt = 60 by decide] at h
  omega
theorem lc_ngt61 {k : Nat} (hk : k ≤ 61) (h : ¬ (60 : Int32) < nI k) : k < 61 := by
  rw [Int32.lt_iff_toInt_lt, nI_toInt (by omega), show (60 : Int32).toInt = 60 by decide] at h
  omega
/-! ===== what is new ===== -/
def jn_ad (q : Nat) (o : Nat → Nat) : Nat → Nat := fun k => match k with
  | 0 => q
  | k + 1 => o k
def jn_l (L : List Nat) : Nat → Nat := fun k => L.getD k 0
def jk_AO : (Nat → Prop) → State → Prop := fun _ U => va_AO RX2 U
theorem jk_AO.calling (A : Nat → Prop) (U : State) (gg : JFrame) (mk : MethodId) (a : Array Value) (h : jk_AO A U) : jk_AO A (U.calling gg mk a) := va_AO.moved (u := U) (Vm.Alike.refl U.vm) h
def jm_0 : jm_T := (upd (upd (upd (upd (upd (fun _ => 0) 0 12) 1 2) 2 30) 3 20) 4 1000, fun _ => 0, fun _ => 0, fun _ => 0, fun _ => 0, fun _ => 0, 0, 0, 0, 0, 0, 0, 0)
def jp_0 : jp_T := (fun _ => 0, 0)
def jd_0 : jd_T := (0, 0, 0, 0, 0)
def jh_0 : jh_T := (0, 0)
theorem j2_in {v : Int32} {n : Nat} (h0 : ¬ v < 0) (h : v < Int32.ofNat n) (hn : n < 1000) : vp_in v n := by
  rw [Int32.lt_iff_toInt_lt, Int32.toInt_zero] at h0
  rw [Int32.lt_iff_toInt_lt, show (Int32.ofNat n).toInt = n from nI_toInt (by omega)] at h
  exact vp_in_iff.mpr (by omega)
theorem j2_lg {x w : Int32} (h0 : ¬ w < 0) (h : w < 3) : vp_in (rX2_logIndexOf x + w) 24 := by
  rw [Int32.lt_iff_toInt_lt, Int32.toInt_zero] at h0
  rw [Int32.lt_iff_toInt_lt, show (3 : Int32).toInt = 3 by decide] at h
  have h3 := jk_lg_toInt x
  refine vp_in_iff.mpr ?_
  rw [Int32.toInt_add, Int.bmod_eq_of_le (by omega) (by omega)]
  omega
theorem j2_lt {v : Int32} {n : Nat} (h : ¬ Int32.ofNat n ≤ v) : v < Int32.ofNat n := Int32.not_le.mp h
theorem lc_put60 {P : jp_T} {v : Int64} {t c : Nat} (ht : jp_ln P = nI t) (hc : lc_ci 8 v 0 = nI c) (h6 : t ≤ 60) (h8 : c ≤ 8) (h : jp_ln P + lc_ci 8 v 0 ≤ 60) : t + c ≤ 60 := by
  rw [ht, hc, nI_add, show (60 : Int32) = nI 60 from rfl, nI_leI (by omega) (by omega)] at h
  exact h
