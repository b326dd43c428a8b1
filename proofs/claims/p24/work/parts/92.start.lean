/-! ===== the two tables of the settings; the law's beginning ===== -/
theorem law_Z {s : State} {b : Nat} (h : (Jvm.Cond.and given_1 narrow_1).before #[Value.ref b] s = true) (hts : ∀ w ∈ lw_tbl, w.before #[Value.ref b] s = true) : ∃ tl tm, jk_Z tl tm (lawA s) s := by
  have hs := flat_of_before _ h
  have hA : ∀ a : Nat, a < s.heap.size → ¬ lawA s a := fun a h1 h2 => absurd (show s.heap.size ≤ a from h2) (by omega)
  obtain ⟨tl, a1, a2⟩ := va_Tof (tm := Term.static "InfluenceJars" "LEAST_SETTING" "[I") (ty := .int) (N := 5) (f := fun j => .int (jz_lo j)) (A := lawA s) (by omega) (hs _ (by decide +kernel)) (va_eqt (z := 5) (hs _ (by decide +kernel))) (fun j hj => by
    rcases (show j = 0 ∨ j = 1 ∨ j = 2 ∨ j = 3 ∨ j = 4 by omega) with q | q | q | q | q <;> subst q
    · exact va_eqt (z := 0) (hs (Cond.eq (Term.elem (Term.static "InfluenceJars" "LEAST_SETTING" "[I") (Term.int 0)) (Term.int 0)) (by decide +kernel))
    · exact va_eqt (z := 0) (hs (Cond.eq (Term.elem (Term.static "InfluenceJars" "LEAST_SETTING" "[I") (Term.int 1)) (Term.int 0)) (by decide +kernel))
    · exact va_eqt (z := 1) (hs (Cond.eq (Term.elem (Term.static "InfluenceJars" "LEAST_SETTING" "[I") (Term.int 2)) (Term.int 1)) (by decide +kernel))
    · exact va_eqt (z := 0) (hs (Cond.eq (Term.elem (Term.static "InfluenceJars" "LEAST_SETTING" "[I") (Term.int 3)) (Term.int 0)) (by decide +kernel))
    · exact va_eqt (z := 100) (hs (Cond.eq (Term.elem (Term.static "InfluenceJars" "LEAST_SETTING" "[I") (Term.int 4)) (Term.int 100)) (by decide +kernel))) hA
  obtain ⟨tm, b1, b2⟩ := va_Tof (tm := Term.static "InfluenceJars" "MOST_SETTING" "[I") (ty := .int) (N := 5) (f := fun j => .int (jz_hi j)) (A := lawA s) (by omega) (hs _ (by decide +kernel)) (va_eqt (z := 5) (hs _ (by decide +kernel))) (fun j hj => by
    rcases (show j = 0 ∨ j = 1 ∨ j = 2 ∨ j = 3 ∨ j = 4 by omega) with q | q | q | q | q <;> subst q
    · exact va_eqt (z := 32) (hs (Cond.eq (Term.elem (Term.static "InfluenceJars" "MOST_SETTING" "[I") (Term.int 0)) (Term.int 32)) (by decide +kernel))
    · exact va_eqt (z := 60) (hs (Cond.eq (Term.elem (Term.static "InfluenceJars" "MOST_SETTING" "[I") (Term.int 1)) (Term.int 60)) (by decide +kernel))
    · exact va_eqt (z := 200) (hs (Cond.eq (Term.elem (Term.static "InfluenceJars" "MOST_SETTING" "[I") (Term.int 2)) (Term.int 200)) (by decide +kernel))
    · exact va_eqt (z := 60) (hs (Cond.eq (Term.elem (Term.static "InfluenceJars" "MOST_SETTING" "[I") (Term.int 3)) (Term.int 60)) (by decide +kernel))
    · exact va_eqt (z := 2000) (hs (Cond.eq (Term.elem (Term.static "InfluenceJars" "MOST_SETTING" "[I") (Term.int 4)) (Term.int 2000)) (by decide +kernel))) hA
  exact ⟨tl, tm, va_Zof (hts (.laysStatic "InfluenceJars" "LEAST_SETTING" "[I") (by decide +kernel)) (hts (.initialized "InfluenceJars") (by decide +kernel)) a1 hA, va_Zof (hts (.laysStatic "InfluenceJars" "MOST_SETTING" "[I") (by decide +kernel)) (hts (.initialized "InfluenceJars") (by decide +kernel)) b1 hA, a2, b2⟩
theorem whole_start {p : Program} {e : Env} {s : State} {m : MethodId} {below : List Frame} {meth : Method} {c : Code} (l : Launch) (hflags : l.flags = flags0) {b L : Nat} {xs : Nat → Int32} (hL : L ≤ 260) (C0 : lw_At p s m meth c b L xs) : W p l e room_1 s m #[Value.ref b] below meth c s.heap [] 0 0 (lw_Z below #[Value.ref b] s) (entryFrame m ([Value.ref b] : List Value).toArray 5) := by
  obtain ⟨tl, tm, hZ⟩ := law_Z C0.2.2.2.2.2.2.2.2.2 C0.2.2.2.2.2.1
  exact law_go l hL C0 hZ
