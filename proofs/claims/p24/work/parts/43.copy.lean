/-! ===== a row is copied over another one ===== -/
theorem lx_cpy (f g : Nat → Int32) {n : Nat} (hn : n < 2 ^ 31) : va_cpy f g (0 : Int32).toNatClampNeg (0 : Int32).toNatClampNeg (nI n).toNatClampNeg = lx_cp f g n := by
  rw [jk_cl hn]
  funext k
  show (if 0 ≤ k ∧ k < 0 + n then f (0 + (k - 0)) else g k) = (if k < n then f k else g k)
  by_cases c : k < n
  · rw [if_pos c, if_pos ⟨Nat.zero_le _, by omega⟩, Nat.zero_add, Nat.sub_zero]
  · rw [if_neg c, if_neg (by omega)]
set_option maxHeartbeats 1000000 in
set_option maxRecDepth 100000 in
theorem c_X4_copyNumbers (l : Launch) (D : va_G) (g : jk_G) (b0 b1 n : Nat) (hn : n < 2 ^ 31) (f f2 : Nat → Int32) : jk_M l D g yX4_copyNumbers wsX4_copyNumbers 1 60 [.ref b0, .ref b1] (List.flatten [[(b0, .inl (g.1, n, .inl f))], [(b1, .inl (g.1, n, .inl f2))]]) none (List.flatten [[(b0, .inl (g.1, n, .inl f))], [(b1, .inl (g.1, n, .inl (lx_cp f f2 n)))]]) := by
  refine jk_of (cc := cX4_copyNumbers) (maxL := 2) (ret := none) (by decide +kernel) rfl (Nat.le_of_ble_eq_true rfl) ?_
  intro p e s m args below meth c hx hb hr hml hts hown hlocks hK hN A H locs hP hD hA hS ls hl
  have hown : s.vm.findClass RX4 = some m.cls := hown
  have hl : lv_has ls 2 [(0, .ref b0), (1, .ref b1)] := hl
  have hn0 : ¬ nI n < 0 := by
    rw [Int32.lt_iff_toInt_lt, nI_toInt hn, Int32.toInt_zero]
    omega
  refine lv_aload_n hx hb dX4_copyNumbers_0 rfl (lv_at hl 0 rfl) ?_
  refine lv_iconst (v := 0) hx hb dX4_copyNumbers_1 (by decide) ?_
  refine lv_aload_n hx hb dX4_copyNumbers_2 rfl (lv_at hl 1 rfl) ?_
  refine lv_iconst (v := 0) hx hb dX4_copyNumbers_3 (by decide) ?_
  refine lv_aload_n hx hb dX4_copyNumbers_4 rfl (lv_at hl 0 rfl) ?_
  refine va_alen (v := nI n) hx hb hK hP 0 0 rfl rfl rfl dX4_copyNumbers_5 ?_
  refine lv_aload_n hx hb dX4_copyNumbers_6 rfl (lv_at hl 1 rfl) ?_
  refine va_alen (v := nI n) hx hb hK hP 1 0 rfl rfl rfl dX4_copyNumbers_7 ?_
  refine va_mmin hx hb (by rw [hml]; exact hl.1.symm) hown (hts (.methodLink RX4 209 Lib.Math.min.name) (by decide +kernel)) (hts (.static Lib.Math.min.name) (by decide +kernel)) (hts (.initialized "java/lang/Math") (by decide +kernel)) (hts (.code Lib.Math.min.name Lib.Math.min.code 2 (some .int)) (by exact List.mem_of_getElem? (i := 4) rfl)) (Nat.le_of_ble_eq_true rfl) (Nat.le_of_ble_eq_true rfl) (Nat.zero_le _) (Nat.zero_le _) dX4_copyNumbers_8 ?_
  refine W.eq (g2 := F0 m 11 ls [.int (nI n), .int 0, .ref b1, .int 0, .ref b0]) (by rw [ite_self]) ?_
  refine va_copyi hx hb (by rw [hml]; exact hl.1.symm) hown (hts (.methodLink RX4 226 arraycopyName) (by decide +kernel)) (hts (.native arraycopyName) (by decide +kernel)) (hts (.static arraycopyName) (by decide +kernel)) (hts (.initialized "java/lang/System") (by decide +kernel)) hK hP hD hS 0 1 0 0 rfl rfl rfl rfl rfl (by decide) (by decide) hn0 (by rw [jk_cl hn]; show 0 + n ≤ n; omega) (by rw [jk_cl hn]; show 0 + n ≤ n; omega) (fun _ _ => rfl) (Nat.le_of_ble_eq_true rfl) (Nat.le_of_ble_eq_true rfl) dX4_copyNumbers_11 (fun H locs hP hD hS => ?_)
  rw [lx_cpy _ _ hn] at hP
  exact jk_vret hx hb hr hlocks hP hS rfl dX4_copyNumbers_14
theorem jk_arr (cA : ClassId) (n : Nat) (f f' : Nat → Int32) (h : ∀ j, j < n → f j = f' j) : vp_cell cA (n, .inl f) = vp_cell cA (n, .inl f') := by
  rw [vp_cell_i, vp_cell_i]
  unfold arrV
  congr 2
  funext j
  exact congrArg Value.int (h j.val j.isLt)
theorem jk_cpN {D : va_G} {cl : List vw_C} {q : Nat} {cA : ClassId} {n : Nat} {f f2 : Nat → Int32} {H : Heap} (h : va_at D cl (q, .inl (cA, n, .inl (lx_cp f f2 n))) H) : va_at D cl (q, .inl (cA, n, .inl f)) H := by
  show H[q]? = some (vp_cell cA (n, .inl f))
  rw [jk_arr cA n f (lx_cp f f2 n) (fun j hj => (if_pos hj).symm)]
  exact h
/-- a machine that became another one, as if it were made of its numbers -/
theorem jm_norm {D : va_G} {g : jk_G} {a : Nat → Nat} {M N : jm_T} {X : va_W} {H : Heap}
    (h : va_P D vwCl (List.flatten [jm_W g a (lx_cp (jm_se N) (jm_se M) 5, lx_cp (jm_ch N) (jm_ch M) 24, lx_cp (jm_ja N) (jm_ja M) 2, lx_cp (jm_tk N) (jm_tk M) 2, lx_cp (jm_lj N) (jm_lj M) 2, lx_cp (jm_lo N) (jm_lo M) 24, jm_tu N, jm_sp N, jm_rv N, jm_ls N, jm_lk N, jm_po N, jm_to N), X]) H) : va_P D vwCl (List.flatten [jm_W g a N, X]) H := by
  refine jk_P.mem.mpr fun x hx => ?_
  have hm := jk_P.mem.mp h
  rcases List.mem_append.mp hx with hx | hx
  · rcases List.mem_cons.mp hx with rfl | hx
    · exact h 0 _ rfl
    rcases List.mem_cons.mp hx with rfl | hx
    · exact jk_cpN (f2 := jm_se M) (h 1 _ rfl)
    rcases List.mem_cons.mp hx with rfl | hx
    · exact jk_cpN (f2 := jm_ch M) (h 2 _ rfl)
    rcases List.mem_cons.mp hx with rfl | hx
    · exact jk_cpN (f2 := jm_ja M) (h 3 _ rfl)
    rcases List.mem_cons.mp hx with rfl | hx
    · exact jk_cpN (f2 := jm_tk M) (h 4 _ rfl)
    rcases List.mem_cons.mp hx with rfl | hx
    · exact jk_cpN (f2 := jm_lj M) (h 5 _ rfl)
    rcases List.mem_cons.mp hx with rfl | hx
    · exact jk_cpN (f2 := jm_lo M) (h 6 _ rfl)
    · cases hx
  · exact hm x (List.mem_append_right _ hx)
