/-! ===== contracts in wider worlds ===== -/
theorem jk_leftP {D : va_G} {cl : List vw_C} {w1 w2 : va_W} {H : Heap} (h : va_P D cl (w1 ++ w2) H) : va_P D cl w1 H := jk_P.mem.mpr fun x hx => jk_P.mem.mp h x (List.mem_append_left _ hx)
theorem jk_leftD {A : Nat → Prop} {w1 w2 : va_W} (h : va_D A (w1 ++ w2)) : va_D A w1 := jk_D.of (List.pairwise_append.mp (jk_D.pair h).1).1 (fun x hx => (jk_D.pair h).2 x (List.mem_append_left _ hx))
theorem jk_inA {ws : va_W} {sz : Nat} {x : Nat × va_E} (h : x ∈ ws) : va_A ws sz x.1 := by
  obtain ⟨k, hk⟩ := List.getElem?_of_mem h
  exact Or.inl ⟨k, x.2, hk⟩
theorem jk_frame {l : Launch} {D : va_G} {g : jk_G} {y : MethodName} {ws : List Cond} {fr lo mc ms : Nat} {av : List Value} {wc wr W : va_W} {r : Option Value} {O O' : Type} {w1 : O → va_W} {w' : O' → va_W} {Z : (Nat → Prop) → State → Prop}
    (hM : jk_C l D g Z y ws fr lo mc ms av wc r w1) (hZ : ∀ (A B : Nat → Prop) (U : State), (∀ q, A q → B q) → Z B U → Z A U) (φ : O → O') (hperm : W.Perm (wc ++ wr)) (hw : ∀ o, (w' (φ o)).Perm (w1 o ++ wr)) : jk_C l D g Z y ws fr lo mc ms av W r w' := by
  intro sz
  have sub : ∀ q, va_A wc sz q → va_A W sz q := by
    intro q h
    rcases h with ⟨k, e, h⟩ | h
    · exact jk_inA (x := (q, e)) (hperm.mem_iff.mpr (List.mem_append_left _ (List.mem_of_getElem? h)))
    · exact Or.inr h
  refine MetFree.mono (hM sz) ?_ (fun _ _ _ _ _ h => h) ?_
  · rintro a st ⟨ha, ⟨hsz, hP, hK, hD, hN⟩, hz⟩
    exact ⟨ha, ⟨hsz, jk_leftP (jk_permP hperm hP), hK, jk_leftD (jk_permD hperm hD), hN⟩, hZ _ _ _ sub hz⟩
  · rintro a st o t ⟨ha, ⟨hsz, hP, hK, hD, hN⟩, hz⟩ ⟨⟨ho, ⟨o1, p1, d1⟩, f1, f2⟩, L, hL, hf⟩
    have hD' := (jk_D.pair (jk_permD hperm hD)).1
    have hP' := jk_P.mem.mp (jk_permP hperm hP)
    have hapart : ∀ x ∈ wr, ¬ va_A wc sz x.1 := by
      intro x hx h
      rcases h with ⟨k, e, h⟩ | h
      · exact (List.pairwise_append.mp hD').2.2 _ (List.mem_of_getElem? h) x hx rfl
      · have := (hP' x (List.mem_append_right _ hx)).lt
        omega
    refine ⟨⟨ho, ⟨φ o1, jk_permP (hw o1).symm (jk_P.mem.mpr fun x hx => ?_), jk_permD (hw o1).symm (jk_D.of (List.pairwise_append.mpr ⟨(jk_D.pair d1).1, (List.pairwise_append.mp hD').2.1, fun x hx y hy e => hapart y hy (e ▸ (jk_D.pair d1).2 x hx)⟩) (fun x hx => ?_))⟩, f1, fun q h1 h2 => f2 q h1 (fun z => h2 (sub q z))⟩, L, hL, fun q hq => sub _ (hf q hq)⟩
    · rcases List.mem_append.mp hx with hx | hx
      · exact jk_P.mem.mp p1 x hx
      · have hat := hP' x (List.mem_append_right _ hx)
        exact hat.kept (f2 x.1 hat.lt (hapart x hx))
    · rcases List.mem_append.mp hx with hx | hx
      · exact sub _ ((jk_D.pair d1).2 x hx)
      · exact jk_inA (hperm.mem_iff.mpr (List.mem_append_right _ hx))
theorem jk_noZ.sub (A B : Nat → Prop) (U : State) (_ : ∀ q, A q → B q) (h : jk_noZ B U) : jk_noZ A U := h
theorem jk_Z.sub {tl tm : Nat} (A B : Nat → Prop) (U : State) (hAB : ∀ q, A q → B q) (h : jk_Z tl tm B U) : jk_Z tl tm A U := ⟨h.1.narrow hAB, h.2.1.narrow hAB, h.2.2.1.narrow hAB, h.2.2.2.narrow hAB⟩
/-- one that makes no cells -/
theorem jk_MC {l : Launch} {D : va_G} {g : jk_G} {y : MethodName} {ws : List Cond} {fr lo : Nat} {av : List Value} {w w' : va_W} {r : Option Value} (Z : (Nat → Prop) → State → Prop) (hM : jk_M l D g y ws fr lo av w r w') (e : w'.map Prod.fst = w.map Prod.fst) : jk_C l D g Z y ws fr lo 0 0 av w r (fun _ : Unit => w') := by
  intro sz
  refine MetFree.mono (hM sz) ?_ (fun _ _ _ _ _ h => h) ?_
  · rintro a st ⟨ha, hB, hz⟩
    exact ⟨ha, hB⟩
  · rintro a st o t ⟨ha, ⟨hsz, hP, hK, hD, hN⟩, hz⟩ ⟨⟨ho, hp, hf⟩, hL⟩
    exact ⟨⟨ho, ⟨(), hp, jk_D.same hD.self e⟩, hf⟩, hL⟩
theorem jk_CZ {l : Launch} {D : va_G} {g : jk_G} {y : MethodName} {ws : List Cond} {fr lo mc ms : Nat} {av : List Value} {w : va_W} {r : Option Value} {O : Type} {w' : O → va_W} (Z : (Nat → Prop) → State → Prop) (hM : jk_C l D g jk_noZ y ws fr lo mc ms av w r w') : jk_C l D g Z y ws fr lo mc ms av w r w' := by
  intro sz
  refine MetFree.mono (hM sz) ?_ (fun _ _ _ _ _ h => h) (fun _ _ _ _ _ h => h)
  rintro a st ⟨ha, hB, hz⟩
  exact ⟨ha, hB, trivial⟩
/-! ===== the history records, whichever row it takes ===== -/
theorem jh_same (g : jk_G) (h : Nat → Nat) (p : Nat → Nat → Nat) (F : jf_T) {j : Nat} {M0 : jm_T} (N : jm_T) (M : jh_T) (hF : F j = some M0) : jh_X g h p (jf_u F j N) M = jh_X g h p F M := by
  unfold jh_X
  rw [jq_same p F N hF]
theorem c_X1_record (l : Launch) (D : va_G) (g : jk_G) (h : Nat → Nat) (p : Nat → Nat → Nat) (F : jf_T) (Hs : jh_T) (n : Nat → Nat) (N : jm_T) : jk_C l D g jk_noZ yX1_record wsX1_record 3 102 7 72 [.ref (h 0), .ref (n 0)] (List.flatten [(jh_X g h p F Hs), (jm_W g n N), (jf_X g 6 p F)]) none (fun o : Nat → Nat → Nat => List.flatten [(jh_X g h o (jf_u F (jh_ix Hs).toNatClampNeg N) (jh_rec Hs)), (jm_W g n N), (jf_X g 6 o (jf_u F (jh_ix Hs).toNatClampNeg N))]) := by
  have hlt := jh_ix_lt Hs
  cases hF : F (jh_ix Hs).toNatClampNeg with
  | some Mj =>
    refine jk_frame (wr := jf_X g 6 p (jf_n F (jh_ix Hs).toNatClampNeg)) (c_X1_record_s l D g h p F Hs n N Mj hF) jk_noZ.sub (fun _ => p) ?_ (fun _ => ?_)
    · simp only [List.flatten_cons, List.flatten_nil, List.append_nil, List.append_assoc]
      exact ((jf_perm g p F hlt hF).append_left _).append_left _
    · simp only [List.flatten_cons, List.flatten_nil, List.append_nil, List.append_assoc]
      rw [jh_same g h p F N (jh_rec Hs) hF]
      exact ((jf_permU g p F N hlt).append_left _).append_left _
  | none =>
    refine jk_frame (wr := jf_X g 6 p F) (c_X1_record_n l D g h p F Hs n N hF) jk_noZ.sub (fun o => ja_u p (jh_ix Hs).toNatClampNeg o) ?_ (fun o => ?_)
    · simp only [List.flatten_cons, List.flatten_nil, List.append_nil, List.append_assoc]
      exact List.Perm.refl _
    · simp only [List.flatten_cons, List.flatten_nil, List.append_nil, List.append_assoc]
      have e := jf_permU g (ja_u p (jh_ix Hs).toNatClampNeg o) F N hlt
      rw [ja_uj, jf_adn, jf_none hF] at e
      exact (e.append_left _).append_left _
