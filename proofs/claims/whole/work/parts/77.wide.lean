/-! ===== how both states begin ===== -/
theorem beg_mr : mrB jm_0 (jx_al jx_0) := by
  have f0 : ∀ j, 5 ≤ j → jx_al jx_0 j = 0 := by
    intro j hj
    show upd (upd (upd (upd (upd (fun _ => 0) 0 12) 1 2) 2 30) 3 20) 4 1000 j = 0
    rw [pk_un (by omega), pk_un (by omega), pk_un (by omega), pk_un (by omega), pk_un (by omega)]
  refine ⟨0, 0, by omega, ⟨⟨rfl, rfl, Nat.le_refl _⟩, fun i hi => rfl, ⟨f0 5 (by omega), f0 6 (by omega), f0 9 (by omega), f0 10 (by omega), f0 11 (by omega)⟩, fun c hc => f0 _ (by omega), fun j hj => ⟨f0 _ (by omega), f0 _ (by omega), f0 _ (by omega)⟩, ⟨f0 12 (by omega), fun k hk => absurd hk (by omega)⟩, ?_, ?_, ?_⟩, f0 7 (by omega), f0 8 (by omega)⟩
  · exact ⟨by decide, by decide, by decide, by decide, by decide⟩
  · intro i hi
    show -99 ≤ (0 : Int32).toInt ∧ (0 : Int32).toInt ≤ 99
    rw [Int32.toInt_zero]
    omega
  · intro j hj
    have e4 : (jm_se jm_0 4).toInt = 1000 := by decide
    show -(jm_se jm_0 4).toInt ≤ (0 : Int32).toInt ∧ (0 : Int32).toInt ≤ (jm_se jm_0 4).toInt
    rw [Int32.toInt_zero, e4]
    omega
theorem beg_rlh : rlh 0 0 jh_0 (fun _ => none) jx_0 := ⟨by omega, rfl, rfl, rfl, fun i hi => absurd hi (by omega)⟩
theorem beg_rls : rls (fun _ => none) jx_0 := fun _ _ => Or.inl ⟨rfl, rfl⟩
theorem nar_0 : narrow .char (.int 0) = .int 0 := by decide +kernel
theorem beg_rlp : rlp jp_0 jx_0 := ⟨0, by omega, rfl, rfl, fun j hj => absurd hj (by omega), fun _ => nar_0⟩
/-! ===== segments ===== -/
theorem seg_all (L : List va_W) : L = (List.range L.length).map (fun i => L.getD i []) := by
  apply List.ext_getElem
  · rw [List.length_map, List.length_range]
  · intro i h1 h2
    rw [List.getElem_map, List.getElem_range, List.getD_eq_getElem?_getD, List.getElem?_eq_getElem h1]
    rfl
theorem seg_perm (L : List va_W) {is js : List Nat} (h : (List.range L.length).Perm (is ++ js)) : L.flatten.Perm ((is.map (fun i => L.getD i [])).flatten ++ (js.map (fun i => L.getD i [])).flatten) := by
  have e := (h.map (fun i => L.getD i [])).flatten
  rw [← seg_all L, List.map_append, List.flatten_append] at e
  exact e
theorem jk_wide {l : Launch} {D : va_G} {g : jk_G} {y : MethodName} {ws : List Cond} {fr lo mc ms : Nat} {av : List Value} {wc : va_W} {r : Option Value} {O O' : Type} {w1 : O → va_W} {Z : (Nat → Prop) → State → Prop} {L : List va_W} {L' : O' → List va_W} (hM : jk_C l D g Z y ws fr lo mc ms av wc r w1) (hZ : ∀ (A B : Nat → Prop) (U : State), (∀ q, A q → B q) → Z B U → Z A U) (φ : O → O') (is js : List Nat)
    (h : (List.range L.length).Perm (is ++ js)) (hl : ∀ o, (L' o).length = L.length) (hc : (is.map (fun i => L.getD i [])).flatten = wc) (hw : ∀ o, ((is.map (fun i => (L' (φ o)).getD i [])).flatten) = w1 o) (hj : ∀ o, js.map (fun i => (L' (φ o)).getD i []) = js.map (fun i => L.getD i [])) : jk_C l D g Z y ws fr lo mc ms av L.flatten r (fun o => (L' o).flatten) := by
  refine jk_frame (wr := (js.map (fun i => L.getD i [])).flatten) hM hZ φ ?_ (fun o => ?_)
  · rw [← hc]
    exact seg_perm L h
  · rw [← hw o, ← hj o]
    exact seg_perm (L' (φ o)) (by rw [hl]; exact h)
theorem jk_reord {l : Launch} {D : va_G} {g : jk_G} {y : MethodName} {ws : List Cond} {fr lo mc ms : Nat} {av : List Value} {w W : va_W} {r : Option Value} {O : Type} {w1 w2 : O → va_W} {Z : (Nat → Prop) → State → Prop} (hM : jk_C l D g Z y ws fr lo mc ms av w r w1) (hZ : ∀ (A B : Nat → Prop) (U : State), (∀ q, A q → B q) → Z B U → Z A U) (h : W.Perm w) (h2 : ∀ o, (w2 o).Perm (w1 o)) : jk_C l D g Z y ws fr lo mc ms av W r w2 := by
  refine jk_frame (wr := []) hM hZ (fun o => o) (by rw [List.append_nil]; exact h) (fun o => by rw [List.append_nil]; exact h2 o)
