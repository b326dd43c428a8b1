/-! ===== the nest mates, and the machines' array class ===== -/
theorem law_N {s : State} {args : Array Value} (hts : ∀ w ∈ lw_tbl, w.before args s = true) : jk_N s := ⟨va_Nw.of rfl (hts _ (by decide +kernel)), va_Nw.of rfl (hts _ (by decide +kernel)), va_Nw.of rfl (hts _ (by decide +kernel)), va_Nw.of rfl (hts _ (by decide +kernel)), va_Nw.of rfl (hts _ (by decide +kernel)), va_Nw.of rfl (hts _ (by decide +kernel)), va_Nw.of rfl (hts _ (by decide +kernel))⟩
theorem law_over {s : State} {args : Array Value} (hts : ∀ w ∈ lw_tbl, w.before args s = true) : (Cond.arrayOver (.object RX2)).before args s = true := hts _ (by decide +kernel)
theorem jf_0 (g : jk_G) (p : Nat → Nat → Nat) (n : Nat) : jf_X g n p (fun _ => none) = [] := by
  unfold jf_X
  rw [List.flatten_eq_nil_iff]
  intro l hl
  obtain ⟨i, -, e⟩ := List.mem_map.mp hl
  rw [← e]
  rfl
theorem beg_R : zwR 0 jm_0 (fun _ => none) (fun _ => none) jh_0 jp_0 jx_0 := ⟨0, 0, Nat.le_refl _, beg_mr, beg_rlh, beg_rls, beg_rlp⟩
