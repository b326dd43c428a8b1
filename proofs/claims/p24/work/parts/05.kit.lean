/-! ===== contracts that say the answer and the new world outright; calls by them ===== -/
abbrev jk_G : Type := ClassId × ClassId × ClassId
abbrev jk_T (g : jk_G) : List (ClassId × FieldType) := [(g.1, .int), (g.2.1, .char), (g.2.2, .object RX2)]
/-- the nest mates' links, which no word list holds -/
def jk_N (U : State) : Prop := va_Nw (.methodLinkNest RX4 9 yX2_init RX4) U ∧ va_Nw (.methodLinkNest RX4 21 yX1_init RX4) U ∧ va_Nw (.methodLinkNest RX4 32 yX0_init RX4) U ∧ va_Nw (.methodLinkNest RX0 11 yX3_init RX4) U ∧ va_Nw (.methodLinkNest RX1 30 yX2_init RX4) U ∧ va_Nw (.methodLinkNest RX2 30 yX4_copyNumbers RX4) U ∧ va_Nw (.methodLinkNest RX2 127 yX4_limited RX4) U
theorem jk_N.warm {s U : State} (hW : s.WarmedH U.vm) (h : jk_N s) : jk_N U := ⟨va_Nw.warmM hW h.1, va_Nw.warmM hW h.2.1, va_Nw.warmM hW h.2.2.1, va_Nw.warmM hW h.2.2.2.1, va_Nw.warmM hW h.2.2.2.2.1, va_Nw.warmM hW h.2.2.2.2.2.1, va_Nw.warmM hW h.2.2.2.2.2.2⟩
theorem jk_N.same {u U : State} (e : u.vm = U.vm) (h : jk_N u) : jk_N U := ⟨va_Nw.same rfl e h.1, va_Nw.same rfl e h.2.1, va_Nw.same rfl e h.2.2.1, va_Nw.same rfl e h.2.2.2.1, va_Nw.same rfl e h.2.2.2.2.1, va_Nw.same rfl e h.2.2.2.2.2.1, va_Nw.same rfl e h.2.2.2.2.2.2⟩
def jk_B (D : va_G) (g : jk_G) (w : va_W) (sz : Nat) (U : State) : Prop := U.heap.size = sz ∧ va_P D vwCl w U.heap ∧ va_K D vwCl (jk_T g) U ∧ va_D (fun _ => True) w ∧ jk_N U
def jk_Q (o : Option Value) (D : va_G) (w' : va_W) (A : Nat → Prop) : Array Value → State → Outcome → State → Prop := fun _ st oc t => oc = .returned o ∧ va_P D vwCl w' t.heap ∧ va_F A st t
/-- in every heap that holds the world w, with the arguments av: the method answers o, and the heap then holds w' -/
def jk_M (l : Launch) (D : va_G) (g : jk_G) (y : MethodName) (ws : List Cond) (fr lo : Nat) (av : List Value) (w : va_W) (o : Option Value) (w' : va_W) : Prop :=
  ∀ sz : Nat, Met l y ws ({ frames := fr, cells := 0, slots := 0, locals := lo }) (va_Pc av (jk_B D g w sz)) (jk_Q o D w' (va_A w sz)) 0 0 (va_A w sz)
theorem jk_blind {D : va_G} {g : jk_G} {w : va_W} {sz : Nat} {av : List Value} : FrameBlind (va_Pc av (jk_B D g w sz)) := fun a U gg mk q => by
  obtain ⟨q0, q1, qP, qK, qD, qN⟩ := q
  exact ⟨q0, q1, qP, va_K.moved (u := U) (U := U.calling gg mk a) (Vm.Alike.refl U.vm) qK, qD, jk_N.same (u := U) (U := U.calling gg mk a) rfl qN⟩
theorem jk_pay {A : Nat → Prop} {s : State} {H : Heap} {D : va_G} {g : jk_G} {w : va_W} {av : List Value} (hP : va_P D vwCl w H) (hK : va_K D vwCl (jk_T g) s) (hD : va_D A w) (hN : jk_N s) : ∀ U : State, U.heap = H → s.WarmedH U.vm → va_Pc av (jk_B D g w H.size) av.toArray U := fun U hU hW => ⟨rfl, by rw [hU], by rw [hU]; exact hP, va_K.moved hW.alike hK, hD.weaken (fun _ _ _ _ => trivial), jk_N.warm hW hN⟩
/-- worlds by their members -/
theorem jk_P.mem {D : va_G} {cl : List vw_C} {ws : va_W} {H : Heap} : va_P D cl ws H ↔ ∀ x ∈ ws, va_at D cl x H := by
  constructor
  · intro h x hx
    obtain ⟨k, hk⟩ := List.getElem?_of_mem hx
    exact h k x hk
  · intro h k q hq
    exact h q (List.mem_of_getElem? hq)
theorem jk_D.pair {A : Nat → Prop} {ws : va_W} (h : va_D A ws) : ws.Pairwise (fun p q => p.1 ≠ q.1) ∧ ∀ x ∈ ws, A x.1 := by
  refine ⟨List.pairwise_iff_getElem.mpr (fun i j hi hj hij e => ?_), fun x hx => ?_⟩
  · have := h.1 i j _ _ (List.getElem?_eq_getElem hi) (List.getElem?_eq_getElem hj) e
    omega
  · obtain ⟨k, hk⟩ := List.getElem?_of_mem hx
    exact h.2 k x hk
theorem jk_D.of {A : Nat → Prop} {ws : va_W} (h1 : ws.Pairwise (fun p q => p.1 ≠ q.1)) (h2 : ∀ x ∈ ws, A x.1) : va_D A ws := by
  refine ⟨fun i j p q hi hj e => ?_, fun k q hk => h2 q (List.mem_of_getElem? hk)⟩
  obtain ⟨hi1, hi2⟩ := List.getElem?_eq_some_iff.mp hi
  obtain ⟨hj1, hj2⟩ := List.getElem?_eq_some_iff.mp hj
  rw [List.pairwise_iff_getElem] at h1
  rcases Nat.lt_trichotomy i j with c | c | c
  · exact absurd (by rw [hi2, hj2]; exact e) (h1 i j hi1 hj1 c)
  · exact c
  · exact absurd (by rw [hi2, hj2]; exact e.symm) (h1 j i hj1 hi1 c)
theorem jk_D.same {A : Nat → Prop} {ws ws1 : va_W} (h : va_D A ws) (e : ws1.map Prod.fst = ws.map Prod.fst) : va_D A ws1 := by
  have key : ∀ (k : Nat) (q : Nat × va_E), ws1[k]? = some q → ∃ q0, ws[k]? = some q0 ∧ q0.1 = q.1 := by
    intro k q hk
    have h1 : (ws1.map Prod.fst)[k]? = some q.1 := by rw [List.getElem?_map, hk]; rfl
    rw [e, List.getElem?_map] at h1
    cases hq : ws[k]? with
    | none => rw [hq] at h1; cases h1
    | some q0 => rw [hq] at h1; exact ⟨q0, rfl, Option.some.inj h1⟩
  refine ⟨fun i j p q hi hj hpq => ?_, fun k q hk => ?_⟩
  · obtain ⟨p0, a1, a2⟩ := key i p hi
    obtain ⟨q0, b1, b2⟩ := key j q hj
    exact h.1 i j p0 q0 a1 b1 (a2.trans (hpq.trans b2.symm))
  · obtain ⟨q0, a1, a2⟩ := key k q hk
    rw [← a2]
    exact h.2 k q0 a1
/-- behind a call that has no world of its own: all stays -/
theorem jk_keep {D : va_G} {cl : List vw_C} {ws : va_W} {H H1 : Heap} (hP : va_P D cl ws H) (hk : ∀ q : Nat, q < H.size → ¬ va_A [] H.size q → H1[q]? = H[q]?) : va_P D cl ws H1 :=
  hP.kept (fun k q hq => hk q.1 (hP k q hq).lt (fun h => by
    rcases h with ⟨k2, e, h⟩ | h
    · simp at h
    · have := (hP k q hq).lt
      omega))
theorem jk_free0 {A0 : Nat → Prop} {H0 H : Heap} {locs : List Loc} (hS : va_S A0 H0 H locs) (hA : ∀ q, H0.size ≤ q → A0 q) : ∀ q, va_A [] H.size q → A0 q := by
  intro q h
  rcases h with ⟨k, e, h⟩ | h
  · simp at h
  · exact hA q (Nat.le_trans hS.1 h)
theorem jk_freeA {A0 : Nat → Prop} {ws : va_W} {H0 H : Heap} {locs : List Loc} (hD : va_D A0 ws) (hS : va_S A0 H0 H locs) (hA : ∀ q, H0.size ≤ q → A0 q) : ∀ q, va_A ws H.size q → A0 q := by
  intro q h
  rcases h with ⟨k, e, h⟩ | h
  · exact hD.2 k _ h
  · exact hA q (Nat.le_trans hS.1 h)
theorem jk_freeM {A0 : Nat → Prop} {ws wc : va_W} {H0 H : Heap} {locs : List Loc} (hD : va_D A0 ws) (hS : va_S A0 H0 H locs) (hA : ∀ q, H0.size ≤ q → A0 q) (hm : ∀ x ∈ wc, x ∈ ws) : ∀ q, va_A wc H.size q → A0 q := by
  intro q h
  rcases h with ⟨k, e, h⟩ | h
  · exact (jk_D.pair hD).2 (q, e) (hm _ (List.mem_of_getElem? h))
  · exact hA q (Nat.le_trans hS.1 h)
theorem jk_nilD {A : Nat → Prop} : va_D A [] := ⟨fun i j p q h => by simp at h, fun k q h => by simp at h⟩
theorem jk_nilP {D : va_G} {cl : List vw_C} {H : Heap} : va_P D cl [] H := fun k q h => by simp at h
/-- a part of a world that lies in segments -/
theorem jk_segMem {L : List va_W} {isC : List Nat} {x : Nat × va_E} (h : x ∈ (isC.map (fun i => L.getD i [])).flatten) : ∃ i ∈ isC, x ∈ L.getD i [] := by
  obtain ⟨s, hs, hx⟩ := List.mem_flatten.mp h
  obtain ⟨i, hi, rfl⟩ := List.mem_map.mp hs
  exact ⟨i, hi, hx⟩
theorem jk_getD {L : List va_W} {i : Nat} {x : Nat × va_E} (h : x ∈ L.getD i []) : ∃ s, L[i]? = some s ∧ x ∈ s := by
  rw [List.getD_eq_getElem?_getD] at h
  cases hs : L[i]? with
  | none => rw [hs] at h; simp at h
  | some s => rw [hs] at h; exact ⟨s, rfl, h⟩
theorem jk_segIn {L : List va_W} {isC : List Nat} : ∀ x ∈ (isC.map (fun i => L.getD i [])).flatten, x ∈ L.flatten := by
  intro x h
  obtain ⟨i, -, hx⟩ := jk_segMem h
  obtain ⟨s, hs, hx⟩ := jk_getD hx
  exact List.mem_flatten.mpr ⟨s, List.mem_of_getElem? hs, hx⟩
theorem jk_segSub {D : va_G} {cl : List vw_C} {L : List va_W} {H : Heap} (hP : va_P D cl L.flatten H) (isC : List Nat) : va_P D cl ((isC.map (fun i => L.getD i [])).flatten) H :=
  jk_P.mem.mpr fun x hx => jk_P.mem.mp hP x (jk_segIn x hx)
theorem jk_segApart {A : Nat → Prop} {L : List va_W} (hD : va_D A L.flatten) {i j : Nat} (hij : i ≠ j) {x y : Nat × va_E} (hx : x ∈ L.getD i []) (hy : y ∈ L.getD j []) : x.1 ≠ y.1 := by
  have h := (List.pairwise_flatten.mp (jk_D.pair hD).1).2
  obtain ⟨s, hs, hx⟩ := jk_getD hx
  obtain ⟨t, ht, hy⟩ := jk_getD hy
  obtain ⟨hi1, hi2⟩ := List.getElem?_eq_some_iff.mp hs
  obtain ⟨hj1, hj2⟩ := List.getElem?_eq_some_iff.mp ht
  rw [List.pairwise_iff_getElem] at h
  rcases Nat.lt_or_gt_of_ne hij with c | c
  · exact h i j hi1 hj1 c x (by rw [hi2]; exact hx) y (by rw [hj2]; exact hy)
  · exact fun e => h j i hj1 hi1 c y (by rw [hj2]; exact hy) x (by rw [hi2]; exact hx) e.symm
theorem jk_segSubD {A : Nat → Prop} {L : List va_W} (hD : va_D A L.flatten) (isC : List Nat) (hn : isC.Nodup) : va_D A ((isC.map (fun i => L.getD i [])).flatten) := by
  refine jk_D.of (List.pairwise_flatten.mpr ⟨fun s hs => ?_, ?_⟩) (fun x hx => (jk_D.pair hD).2 x (jk_segIn x hx))
  · obtain ⟨i, -, rfl⟩ := List.mem_map.mp hs
    rw [List.getD_eq_getElem?_getD]
    cases hs : L[i]? with
    | none => exact List.Pairwise.nil
    | some t => exact (List.pairwise_flatten.mp (jk_D.pair hD).1).1 t (List.mem_of_getElem? hs)
  · rw [List.pairwise_map]
    exact hn.imp (fun hij x hx y hy => jk_segApart hD hij hx hy)
/-- behind a call that had some segments: those as it left them, the rest as it was -/
theorem jk_seg {A : Nat → Prop} {D : va_G} {cl : List vw_C} {L L' T : List va_W} {w1 : va_W} {H : Heap} (hP : va_P D cl L.flatten H) (hD : va_D A L.flatten) (isC : List Nat) (cs : List (Bool × Nat)) (h1 : w1 = T.flatten)
    (hc : cs.all (fun c => c.1 || !(isC.contains c.2)) = true) (hL : L' = cs.map (fun c => if c.1 then T.getD c.2 [] else L.getD c.2 [])) :
    ∀ H1 : Heap, va_P D cl w1 H1 → (∀ q : Nat, q < H.size → ¬ va_A ((isC.map (fun i => L.getD i [])).flatten) H.size q → H1[q]? = H[q]?) → va_P D cl L'.flatten H1 := by
  intro H1 hP1 hk
  subst h1
  refine jk_P.mem.mpr fun x hx => ?_
  obtain ⟨s, hs, hx⟩ := List.mem_flatten.mp hx
  rw [hL] at hs
  obtain ⟨⟨b, j⟩, hj, rfl⟩ := List.mem_map.mp hs
  have hb := List.all_eq_true.mp hc _ hj
  cases b with
  | true =>
    have hx : x ∈ T.getD j [] := hx
    obtain ⟨t, ht, hx⟩ := jk_getD hx
    exact jk_P.mem.mp hP1 x (List.mem_flatten.mpr ⟨t, List.mem_of_getElem? ht, hx⟩)
  | false =>
    have hx : x ∈ L.getD j [] := hx
    have hjC : j ∉ isC := by
      intro q
      simp at hb
      exact hb q
    obtain ⟨t, ht, hx2⟩ := jk_getD hx
    have hat := jk_P.mem.mp hP x (List.mem_flatten.mpr ⟨t, List.mem_of_getElem? ht, hx2⟩)
    refine hat.kept (hk x.1 hat.lt (fun h => ?_))
    rcases h with ⟨k2, e, h⟩ | h
    · obtain ⟨i, hi, hy⟩ := jk_segMem (List.mem_of_getElem? h)
      exact jk_segApart hD (i := i) (j := j) (fun z => hjC (z ▸ hi)) hy hx rfl
    · have := hat.lt
      omega
theorem jk_one {D : va_G} {cl : List vw_C} {w : va_W} {H : Heap} : va_P D cl (List.flatten [w]) H ↔ va_P D cl w H := by simp
theorem jk_oneD {A : Nat → Prop} {w : va_W} : va_D A (List.flatten [w]) ↔ va_D A w := by simp
theorem jk_seg1 {A : Nat → Prop} {D : va_G} {cl : List vw_C} {L L' : List va_W} {T : va_W} {H : Heap} (hP : va_P D cl L.flatten H) (hD : va_D A L.flatten) (i : Nat) (cs : List (Bool × Nat))
    (hc : cs.all (fun c => c.1 || !(c.2 == i)) = true) (hL : L' = cs.map (fun c => if c.1 then T else L.getD c.2 [])) :
    ∀ H1 : Heap, va_P D cl T H1 → (∀ q : Nat, q < H.size → ¬ va_A (L.getD i []) H.size q → H1[q]? = H[q]?) → va_P D cl L'.flatten H1 := by
  intro H1 hP1 hk
  refine jk_P.mem.mpr fun x hx => ?_
  obtain ⟨s, hs, hx⟩ := List.mem_flatten.mp hx
  rw [hL] at hs
  obtain ⟨⟨b, j⟩, hj, rfl⟩ := List.mem_map.mp hs
  have hb := List.all_eq_true.mp hc _ hj
  cases b with
  | true => exact jk_P.mem.mp hP1 x hx
  | false =>
    have hx : x ∈ L.getD j [] := hx
    have hji : j ≠ i := by
      intro q
      simp at hb
      exact hb q
    obtain ⟨t, ht, hx2⟩ := jk_getD hx
    have hat := jk_P.mem.mp hP x (List.mem_flatten.mpr ⟨t, List.mem_of_getElem? ht, hx2⟩)
    refine hat.kept (hk x.1 hat.lt (fun h => ?_))
    rcases h with ⟨k2, e, h⟩ | h
    · exact jk_segApart hD hji hx (List.mem_of_getElem? h) rfl
    · have := hat.lt
      omega
theorem jk_inC {i : Int32} {n : Nat} (h : decide (¬ (i < 0 ∨ n ≤ i.toNatClampNeg)) = true) : vp_in i n := by unfold vp_in; exact of_decide_eq_true h
theorem jk_ofW {l : Launch} {y : MethodName} {ws ws' : List Cond} {rm : Room} {Pc : Array Value → State → Prop} {Qc : Array Value → State → Outcome → State → Prop} {mc ms : Nat} {free : Addr → Prop} {cc : ByteArray} {maxL : Nat} {ret : Option FieldType}
    (hy : plainFor y = true) (hw : ws = Cond.code y cc maxL ret :: ws')
    (body : ∀ p e s m args below meth c s₁, BodyLoose p l y (headSpec ws rm) cc maxL ret e s m args below meth c s₁ → c.maxLocals = maxL → Pc args s →
      W p l e (headSpec ws rm).room s m args below meth c s.heap [] 0 0 (MQ below Qc args s mc ms free) (entryFrame m args maxL)) : Met l y ws rm Pc Qc mc ms free := by
  refine MetFree.of_bodySF (code := cc) (maxLocals := maxL) (ret := ret) hy ?_ ?_
  · intro args s m h hn
    obtain ⟨meth, c, h1, h2, h3, h4, h5, h6, -, -⟩ := Cond.code_spec hn (atoms_spec (ws := ws) h _ (by rw [hw]; exact List.mem_cons_self))
    exact ⟨meth, c, h1, h2, h3, h4, h5, h6⟩
  · intro p e s m args below meth c s₁ B hml hP _
    have hh0 : s₁.heap = s.heap := by rw [B.state]; rfl
    obtain ⟨t, a1, o, b1, b2, b3⟩ := body p e s m args below meth c s₁ B hml hP s₁ hh0 (Stand.of_body B)
    exact ⟨t, o, a1, b1, b2, ⟨b3.1, b3.2⟩⟩
theorem jk_of {l : Launch} {D : va_G} {g : jk_G} {y : MethodName} {ws ws' : List Cond} {fr lo : Nat} {av : List Value} {w : va_W} {o : Option Value} {w' : va_W} {cc : ByteArray} {maxL : Nat} {ret : Option FieldType} (hy : plainFor y = true) (hw : ws = Cond.code y cc maxL ret :: ws') (hav : (lg_sl av).length ≤ maxL)
    (body : ∀ (p : Program) (e : Env) (s : State) (m : MethodId) (args : Array Value) (below : List Frame) (meth : Method) (c : Code), p.tables.exec = Jvm.exec → c.code = cc → meth.sig.returnType = ret → c.maxLocals = maxL → (∀ w ∈ ws, w.before args s = true) → s.vm.findClass y.cls = some m.cls → meth.locks = false → va_K D vwCl (jk_T g) s → jk_N s →
      ∀ (A : Nat → Prop) (H : Heap) (locs : List Loc), va_P D vwCl w H → va_D A w → (∀ q, s.heap.size ≤ q → A q) → va_S A s.heap H locs → ∀ ls : Array Slot, lv_has ls maxL (lv_args 0 av) →
        W p l e ({ frames := fr, cells := 0, slots := 0, locals := lo }) s m args below meth c H locs 0 0 (MQ below (jk_Q o D w' A) args s 0 0 A) (F0 m 0 ls [])) : jk_M l D g y ws fr lo av w o w' := by
  intro sz
  refine jk_ofW (cc := cc) (maxL := maxL) (ret := ret) hy hw ?_
  intro p e s m args below meth c s₁ B hml hv
  obtain ⟨rfl, hsz, hP, hK, hD0, hN⟩ := hv
  subst hsz
  rw [lg_entry_eq]
  exact body p e s m _ below meth c B.exec B.bytes B.returns hml (atoms_spec (ws := ws) B.pre) (findClass_of_methodNamed B.named) B.notSynchronized hK hN _ _ _ hP hD0.self (fun q h => Or.inr h) va_S.rf _ (lv_entry av hav)
section JKR
variable {p : Program} {l : Launch} {e : Env} {R : Room} {s : State} {m : MethodId} {args : Array Value} {below : List Frame} {meth : Method} {c : Code} {H : Heap} {locs : List Loc} {cells slots : Nat} {Q : State → Prop}
variable {cc : ByteArray} {D : va_G} {g : jk_G} {A A0 A1 : Nat → Prop} {w1 w' ws ws1 wc : va_W} {pc : Nat} {ls : Array Slot}
theorem jk_iret {v v' : Int32} (hx : p.tables.exec = Jvm.exec) (hb : c.code = cc) (hr : meth.sig.returnType = some .int) (hlocks : meth.locks = false) (hP : va_P D vwCl w1 H) (hS : va_S A s.heap H locs) (hv : v = v') (hw : w1 = w') (hdg : decode cc pc = .ok (.ireturn, 1)) : W p l e R s m args below meth c H locs cells slots (MQ below (jk_Q (some (.int v')) D w' A) args s cells slots A) (F0 m pc ls [.int v]) := by
  subst hv; subst hw
  exact W.iret hx hb hr (fun t ht hW => ⟨rfl, by rw [ht]; exact hP, hS.F ht⟩) hS.2.2 hdg hlocks
theorem jk_zret {v v' : Int32} {ty : FieldType} (hx : p.tables.exec = Jvm.exec) (hb : c.code = cc) (hr : meth.sig.returnType = some ty) (hn : narrow ty (.int v) = .int v) (hlocks : meth.locks = false) (hP : va_P D vwCl w1 H) (hS : va_S A s.heap H locs) (hv : v = v') (hw : w1 = w') (hdg : decode cc pc = .ok (.ireturn, 1)) : W p l e R s m args below meth c H locs cells slots (MQ below (jk_Q (some (.int v')) D w' A) args s cells slots A) (F0 m pc ls [.int v]) := by
  subst hv; subst hw
  exact W.zret hx hb hr hn (fun t ht hW => ⟨rfl, by rw [ht]; exact hP, hS.F ht⟩) hS.2.2 hdg hlocks
theorem jk_vret (hx : p.tables.exec = Jvm.exec) (hb : c.code = cc) (hr : meth.sig.returnType = none) (hlocks : meth.locks = false) (hP : va_P D vwCl w1 H) (hS : va_S A s.heap H locs) (hw : w1 = w') (hdg : decode cc pc = .ok (.return_, 1)) : W p l e R s m args below meth c H locs cells slots (MQ below (jk_Q none D w' A) args s cells slots A) (F0 m pc ls []) := by
  subst hw
  exact W.vret hx hb hr (fun t ht hW => ⟨rfl, by rw [ht]; exact hP, hS.F ht⟩) hS.2.2 hdg hlocks
theorem jk_go {st0 rest : List Value} {a : Array Value} {H0 : Heap} {o : Option Value} (hr : va_Run p l e R s m args below meth c H locs cells slots 0 0 (F0 m pc ls st0) rest (jk_Q o D w1 A1 a) A1) (hS : va_S A0 H0 H locs) (hF : ∀ q, A1 q → A0 q)
    (hj : ∀ H1 : Heap, va_P D vwCl w1 H1 → (∀ q : Nat, q < H.size → ¬ A1 q → H1[q]? = H[q]?) → va_P D vwCl ws1 H1)
    (kk : ∀ (H1 : Heap) (locs1 : List Loc), va_P D vwCl ws1 H1 → va_S A0 H0 H1 locs1 → W p l e R s m args below meth c H1 locs1 cells slots Q (F0 m (pc + 3) ls (o.toList ++ rest))) : W p l e R s m args below meth c H locs cells slots Q (F0 m pc ls st0) := by
  intro T hT X
  obtain ⟨v, st₀, t, T', L, h0, X', hL, e1, e2, ⟨hv, hp, hz, hk⟩, st⟩ := hr T hT X
  cases hv
  rw [h0] at hz hk
  obtain ⟨t2, a1, b1⟩ := kk T'.heap (locs ++ L) (hj _ (by rw [e1]; exact hp) (fun q h1 h2 => by rw [e1]; exact hk q h1 h2))
    ⟨Nat.le_trans hS.1 (by rw [e1]; exact hz), fun q h1 h2 => by rw [e1, hk q (Nat.lt_of_lt_of_le h1 hS.1) (fun z => h2 (hF q z))]; exact hS.2.1 q h1 h2, fun q hq => by
      rcases List.mem_append.mp hq with h | h
      · exact hS.2.2 q h
      · exact hF _ (hL q h)⟩ T' rfl X'
  exact ⟨t2, st t2 a1, b1⟩
variable {y : MethodName} {bytes : ByteArray} {maxL nL n index fr lo b : Nat} {ret : Option FieldType} {wsy Ts : List Cond} {own C host : String} {As rest st0 : List Value} {o : Option Value} {H0 : Heap} {lv : List (Nat × Value)}
theorem jk_callV (S : CallFix p m c cc nL s args Ts own) (hM : jk_M l D g y wsy fr lo (.ref b :: As) wc o w1) (cw : CallW R s args own C index y bytes maxL ret wsy ({ frames := fr, cells := 0, slots := 0, locals := lo }) 0 0 n) (hrec : ∃ cell : Cell, H[b]? = some cell ∧ cell.vm.isStatics = false ∧ s.vm.findClass C = some cell.cls)
    (hPc : va_P D vwCl wc H) (hDc : va_D A0 wc) (hK : va_K D vwCl (jk_T g) s) (hN : jk_N s) (hn : As.length = n) (hl : lv_has ls nL lv) (hst : st0 = As.reverse ++ .ref b :: rest) (hW : (rest.map fun v => v.category).sum ≤ 8) (hdg : decode cc pc = .ok (.invokevirtual index, 3)) (hc : cells ≤ R.cells ∧ slots ≤ R.slots)
    (hS : va_S A0 H0 H locs) (hA : ∀ q, H0.size ≤ q → A0 q) (hj : ∀ H1 : Heap, va_P D vwCl w1 H1 → (∀ q : Nat, q < H.size → ¬ va_A wc H.size q → H1[q]? = H[q]?) → va_P D vwCl ws1 H1)
    (kk : ∀ (H1 : Heap) (locs1 : List Loc), va_P D vwCl ws1 H1 → va_S A0 H0 H1 locs1 → W p l e R s m args below meth c H1 locs1 cells slots Q (F0 m (pc + 3) ls (o.toList ++ rest))) : W p l e R s m args below meth c H locs cells slots Q (F0 m pc ls st0) :=
  jk_go (va_runV (As := As) (rest := rest) S (hM H.size) cw ⟨jk_blind, hrec, jk_pay hPc hK hDc hN⟩ rfl hn hl.1 hst (lv_room (m := m) (pc := pc) (ls := ls) (rest := st0) hW) hdg ⟨hc.1, hc.2⟩) hS (jk_freeA hDc hS hA) hj kk
theorem jk_callVN (S : CallFix p m c cc nL s args Ts own) (hM : jk_M l D g y wsy fr lo (.ref b :: As) wc o w1) (cw : va_CN R s args own index y host bytes maxL ret wsy ({ frames := fr, cells := 0, slots := 0, locals := lo }) 0 0 n ∧ (Cond.instanceMethod y).before args s = true ∧ (Cond.selects C y y).before args s = true) (hrec : ∃ cell : Cell, H[b]? = some cell ∧ cell.vm.isStatics = false ∧ s.vm.findClass C = some cell.cls)
    (hPc : va_P D vwCl wc H) (hDc : va_D A0 wc) (hK : va_K D vwCl (jk_T g) s) (hN : jk_N s) (hn : As.length = n) (hl : lv_has ls nL lv) (hst : st0 = As.reverse ++ .ref b :: rest) (hW : (rest.map fun v => v.category).sum ≤ 8) (hdg : decode cc pc = .ok (.invokevirtual index, 3)) (hc : cells ≤ R.cells ∧ slots ≤ R.slots)
    (hS : va_S A0 H0 H locs) (hA : ∀ q, H0.size ≤ q → A0 q) (hj : ∀ H1 : Heap, va_P D vwCl w1 H1 → (∀ q : Nat, q < H.size → ¬ va_A wc H.size q → H1[q]? = H[q]?) → va_P D vwCl ws1 H1)
    (kk : ∀ (H1 : Heap) (locs1 : List Loc), va_P D vwCl ws1 H1 → va_S A0 H0 H1 locs1 → W p l e R s m args below meth c H1 locs1 cells slots Q (F0 m (pc + 3) ls (o.toList ++ rest))) : W p l e R s m args below meth c H locs cells slots Q (F0 m pc ls st0) :=
  jk_go (va_runVN (As := As) (rest := rest) S (hM H.size) cw ⟨jk_blind, hrec, jk_pay hPc hK hDc hN⟩ rfl hn hl.1 hst (lv_room (m := m) (pc := pc) (ls := ls) (rest := st0) hW) hdg ⟨hc.1, hc.2⟩) hS (jk_freeA hDc hS hA) hj kk
theorem jk_callS (S : CallFix p m c cc nL s args Ts own) (hM : jk_M l D g y wsy fr lo As wc o w1) (cw : CallB R s args own index y bytes maxL ret wsy ({ frames := fr, cells := 0, slots := 0, locals := lo }) 0 0 n ∧ (Cond.static y).before args s = true)
    (hPc : va_P D vwCl wc H) (hDc : va_D A0 wc) (hK : va_K D vwCl (jk_T g) s) (hN : jk_N s) (hn : As.length = n) (hl : lv_has ls nL lv) (hst : st0 = As.reverse ++ rest) (hW : (rest.map fun v => v.category).sum ≤ 8) (hdg : decode cc pc = .ok (.invokestatic index, 3)) (hc : cells ≤ R.cells ∧ slots ≤ R.slots)
    (hS : va_S A0 H0 H locs) (hA : ∀ q, H0.size ≤ q → A0 q) (hj : ∀ H1 : Heap, va_P D vwCl w1 H1 → (∀ q : Nat, q < H.size → ¬ va_A wc H.size q → H1[q]? = H[q]?) → va_P D vwCl ws1 H1)
    (kk : ∀ (H1 : Heap) (locs1 : List Loc), va_P D vwCl ws1 H1 → va_S A0 H0 H1 locs1 → W p l e R s m args below meth c H1 locs1 cells slots Q (F0 m (pc + 3) ls (o.toList ++ rest))) : W p l e R s m args below meth c H locs cells slots Q (F0 m pc ls st0) :=
  jk_go (va_runS (As := As) (rest := rest) S (hM H.size) cw ⟨jk_blind, jk_pay hPc hK hDc hN⟩ rfl hn hl.1 hst (lv_room (m := m) (pc := pc) (ls := ls) (rest := st0) hW) hdg ⟨hc.1, hc.2⟩) hS (jk_freeA hDc hS hA) hj kk
theorem jk_callSN (S : CallFix p m c cc nL s args Ts own) (hM : jk_M l D g y wsy fr lo As wc o w1) (cw : va_CN R s args own index y host bytes maxL ret wsy ({ frames := fr, cells := 0, slots := 0, locals := lo }) 0 0 n ∧ (Cond.static y).before args s = true ∧ True)
    (hPc : va_P D vwCl wc H) (hDc : va_D A0 wc) (hK : va_K D vwCl (jk_T g) s) (hN : jk_N s) (hn : As.length = n) (hl : lv_has ls nL lv) (hst : st0 = As.reverse ++ rest) (hW : (rest.map fun v => v.category).sum ≤ 8) (hdg : decode cc pc = .ok (.invokestatic index, 3)) (hc : cells ≤ R.cells ∧ slots ≤ R.slots)
    (hS : va_S A0 H0 H locs) (hA : ∀ q, H0.size ≤ q → A0 q) (hj : ∀ H1 : Heap, va_P D vwCl w1 H1 → (∀ q : Nat, q < H.size → ¬ va_A wc H.size q → H1[q]? = H[q]?) → va_P D vwCl ws1 H1)
    (kk : ∀ (H1 : Heap) (locs1 : List Loc), va_P D vwCl ws1 H1 → va_S A0 H0 H1 locs1 → W p l e R s m args below meth c H1 locs1 cells slots Q (F0 m (pc + 3) ls (o.toList ++ rest))) : W p l e R s m args below meth c H locs cells slots Q (F0 m pc ls st0) :=
  jk_go (va_runSN (As := As) (rest := rest) S (hM H.size) cw ⟨jk_blind, jk_pay hPc hK hDc hN⟩ rfl hn hl.1 hst (lv_room (m := m) (pc := pc) (ls := ls) (rest := st0) hW) hdg ⟨hc.1, hc.2⟩) hS (jk_freeA hDc hS hA) hj kk
end JKR
