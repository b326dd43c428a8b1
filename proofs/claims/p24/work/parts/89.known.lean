/-! ===== what the law's tables tell of the classes ===== -/
def lawA (s : State) : Nat → Prop := fun q => s.heap.size ≤ q
theorem law_arr {s : State} {args : Array Value} {ty : FieldType} (h : (Cond.arrayClass ty).before args s = true) (hty : ty = .int ∨ ty = .char) : ∃ cA, ArrOfT s cA ty ∧ va_RA s cA ty := by
  obtain ⟨cA, kA, comp, h1, h2, h3⟩ := Cond.arrayClass_spec h
  rcases hty with e | e <;> subst e
  · exact ⟨cA, fun n z => ⟨fun k h => (by cases h), kA, h2, comp, h3⟩, h1⟩
  · exact ⟨cA, fun n z => ⟨fun k h => (by cases h), kA, h2, comp, h3⟩, h1⟩
theorem law_K {s : State} {args : Array Value} (hts : ∀ w ∈ wsL_law, w.before args s = true) (hov : (Cond.arrayOver (.object RX2)).before args s = true) : ∃ (D : va_G) (g : jk_G), va_K D vwCl (jk_T g) s := by
  obtain ⟨c0, i0, k0⟩ := u_known (C := RX0) (T := TX0) (N := 6) hts (by decide +kernel) (hts (.instantiable RX0 6) (by decide +kernel))
  obtain ⟨c1, i1, k1⟩ := u_known (C := RX1) (T := TX1) (N := 3) hts (by decide +kernel) (hts (.instantiable RX1 3) (by decide +kernel))
  obtain ⟨c2, i2, k2⟩ := u_known (C := RX2) (T := TX2) (N := 13) hts (by decide +kernel) (hts (.instantiable RX2 13) (by decide +kernel))
  obtain ⟨c3, i3, k3⟩ := u_known (C := RX3) (T := TX3) (N := 2) hts (by decide +kernel) (hts (.instantiable RX3 2) (by decide +kernel))
  obtain ⟨c4, i4, k4⟩ := u_known (C := RX4) (T := TX4) (N := 6) hts (by decide +kernel) (hts (.instantiable RX4 6) (by decide +kernel))
  obtain ⟨a1, r1⟩ := law_arr (hts (.arrayClass .int) (by decide +kernel)) (Or.inl rfl)
  obtain ⟨a2, r2⟩ := law_arr (hts (.arrayClass .char) (by decide +kernel)) (Or.inr rfl)
  obtain ⟨comp, a3, kA, f1, f2, f3, f4, f5⟩ := Cond.arrayOver_spec hov
  refine ⟨(fun k => [c0, c1, c2, c3, c4].getD k c0, fun k => [i0, i1, i2, i3, i4].getD k i0), (a1, a2, a3), fun c q hq => ?_, fun k q hk => ?_⟩
  · match c, hq with
    | 0, hq => cases hq; exact k0
    | 1, hq => cases hq; exact k1
    | 2, hq => cases hq; exact k2
    | 3, hq => cases hq; exact k3
    | 4, hq => cases hq; exact k4
    | n + 5, hq => cases hq
  · match k, hk with
    | 0, hk => cases hk; exact r1
    | 1, hk => cases hk; exact r2
    | 2, hk => cases hk; exact ⟨fun N z => ⟨(fun k h => by cases h), kA, f3, comp, f4⟩, kA, comp, f3, f4, f1, f5⟩
    | n + 3, hk => cases hk
theorem law_N {s : State} {args : Array Value} (hts : ∀ w ∈ lw_tbl, w.before args s = true) : jk_N s := ⟨va_Nw.of rfl (hts _ (by decide +kernel)), va_Nw.of rfl (hts _ (by decide +kernel)), va_Nw.of rfl (hts _ (by decide +kernel)), va_Nw.of rfl (hts _ (by decide +kernel)), va_Nw.of rfl (hts _ (by decide +kernel)), va_Nw.of rfl (hts _ (by decide +kernel)), va_Nw.of rfl (hts _ (by decide +kernel))⟩
theorem law_over {s : State} {args : Array Value} (hts : ∀ w ∈ lw_tbl, w.before args s = true) : (Cond.arrayOver (.object RX2)).before args s = true := hts _ (by decide +kernel)
theorem jf_0 (g : jk_G) (p : Nat → Nat → Nat) (n : Nat) : jf_X g n p (fun _ => none) = [] := by
  unfold jf_X
  rw [List.flatten_eq_nil_iff]
  intro l hl
  obtain ⟨i, -, e⟩ := List.mem_map.mp hl
  rw [← e]
  rfl
