/-! ===== isTurned ===== -/
theorem arr_step {f v : Nat → Int32} {k : Nat} (h : ∀ j, j < k → f j = v j) (hk : k < 1000) : ∀ j, j < k + 1 → upd f (nI k).toNatClampNeg (v k) j = v j := by
  intro j hj
  rw [jk_cl (by omega)]
  by_cases c : j = k
  · rw [c, pk_us]
  · rw [pk_un c]
    exact h j (by omega)
theorem cw_isTurned_X4_count {R : Room} {s : State} {args : Array Value} (hts : ∀ w ∈ wsL_isTurned, w.before args s = true) : ∀ rm : Room, rm.frames + 1 ≤ R.frames → 8 + (2 + 11) + rm.locals ≤ R.locals → CallW R s args RL RX4 46 yX4_count cX4_count 2 (some .int) wsX4_count rm rm.cells rm.slots 1 := fun rm h1 h2 => cwV 1 hts gL_isTurned_X4_count rfl rfl rfl (by decide +kernel) ⟨h1, h2⟩
theorem cw_isTurned_X4_jar {R : Room} {s : State} {args : Array Value} (hts : ∀ w ∈ wsL_isTurned, w.before args s = true) : ∀ rm : Room, rm.frames + 1 ≤ R.frames → 8 + (3 + 11) + rm.locals ≤ R.locals → CallW R s args RL RX4 40 yX4_jar cX4_jar 3 (some .int) wsX4_jar rm rm.cells rm.slots 2 := fun rm h1 h2 => cwV 2 hts gL_isTurned_X4_jar rfl rfl rfl (by decide +kernel) ⟨h1, h2⟩
theorem cw_isTurned_X4_turn {R : Room} {s : State} {args : Array Value} (hts : ∀ w ∈ wsL_isTurned, w.before args s = true) : ∀ rm : Room, rm.frames + 1 ≤ R.frames → 8 + (2 + 11) + rm.locals ≤ R.locals → CallW R s args RL RX4 57 yX4_turn cX4_turn 2 (some .int) wsX4_turn rm rm.cells rm.slots 1 := fun rm h1 h2 => cwV 1 hts gL_isTurned_X4_turn rfl rfl rfl (by decide +kernel) ⟨h1, h2⟩
theorem cw_isTurned_X4_sector {R : Room} {s : State} {args : Array Value} (hts : ∀ w ∈ wsL_isTurned, w.before args s = true) : ∀ rm : Room, rm.frames + 1 ≤ R.frames → 8 + (3 + 11) + rm.locals ≤ R.locals → CallW R s args RL RX4 36 yX4_sector cX4_sector 3 (some .int) wsX4_sector rm rm.cells rm.slots 2 := fun rm h1 h2 => cwV 2 hts gL_isTurned_X4_sector rfl rfl rfl (by decide +kernel) ⟨h1, h2⟩
set_option maxHeartbeats 8000000 in
set_option maxRecDepth 20000 in
theorem e_isTurned (l : Launch) (D : va_G) (g : jk_G) (tl tm : Nat) (a : Nat → Nat → Nat) {K : Nat} {S : oS} (h : Tst K (oN S)) (hK0 : K < 99000) : kE l D g tl tm yL_isTurned wsL_isTurned 7 161 9 96 [.ref (a 0 0)] (WO g a S) 1 (WO g a (oturn S 1)) := by
  obtain ⟨o1, o2, o3, o4, o5⟩ := st_once h (by omega)
  obtain ⟨a1, a2, a3, a4⟩ := turn_at (Hs := oH S) (F := oF S) h (by omega) (Nat.le_refl 1) (show 1 ≤ 99 by omega)
  have eN : oN (oturn S 1) = sX2_turnOnce (oN S) := a2
  have ht0 : 0 ≤ rX4_turn (oN S) (oH S) (oF S) 1 := by rw [show rX4_turn (oN S) (oH S) (oF S) 1 = jm_sp (lp_turn (oN S) 1) - jm_sp (oN S) from a1]; exact o5
  have fs0 : ∀ k, k < 12 → k ≠ 0 → k ≠ 6 → k ≠ 2 → k ≠ 8 → rX4_sector (oN (oturn S 1)) 0 (nI k) = rX4_sector (oN S) 0 (nI ((k + 11) % 12)) - rX4_sector (oN S) 0 (nI ((k + 11) % 12)) * rX4_count (oN (oturn S 1)) (oH (oturn S 1)) (oP (oturn S 1)) 1 / 100 := by rw [eN]; intro k b0 b1 b2 b3 b4; rw [o2]; exact o3 k b0 b1 b2 b3 b4
  have fs1 : ∀ k, k < 12 → k ≠ 0 → k ≠ 6 → k ≠ 4 → k ≠ 10 → rX4_sector (oN (oturn S 1)) 1 (nI k) = rX4_sector (oN S) 1 (nI ((k + 1) % 12)) - rX4_sector (oN S) 1 (nI ((k + 1) % 12)) * rX4_count (oN (oturn S 1)) (oH (oturn S 1)) (oP (oturn S 1)) 1 / 100 := by rw [eN]; intro k b0 b1 b2 b3 b4; rw [o2]; exact o4 k b0 b1 b2 b3 b4
  have fsum := st_sums h (by omega) (oH (oturn S 1)) (oH S) (oP (oturn S 1)) (oP S)
  rw [← eN] at fsum
  refine kE_of (cc := cL_isTurned) (maxL := 13) (ret := (some .boolean)) (by decide +kernel) rfl (Nat.le_of_ble_eq_true rfl) ?_
  intro w hw p e s m args below meth c hx hb hr hml hts hown hlocks hK hN A H locs hZ hP hD hA hS ls hl
  have hown : s.vm.findClass RL = some m.cls := hown
  have hl : lv_has ls 13 [(0, .ref (a 0 0))] := hl
  refine lv_bipush (v := 12) hx hb dL_isTurned_0 (by decide) ?_
  refine jk_newi hx hb (hts (.arrayClass .int) (by decide +kernel)) hK hP hD hS hA (by decide) (N' := 12) (by decide) (Nat.le_of_ble_eq_true rfl) (Nat.le_of_ble_eq_true rfl) (Nat.le_of_ble_eq_true rfl) dL_isTurned_2 (fun q1 H hP hD hS => ?_)
  refine lv_astore_n (lv' := [(1, .ref q1), (0, .ref (a 0 0))]) hx hb dL_isTurned_4 rfl hl (by decide) rfl (fun ls hl => ?_)
  refine lv_bipush (v := 12) hx hb dL_isTurned_5 (by decide) ?_
  refine jk_newi hx hb (hts (.arrayClass .int) (by decide +kernel)) hK hP hD hS hA (by decide) (N' := 12) (by decide) (Nat.le_of_ble_eq_true rfl) (Nat.le_of_ble_eq_true rfl) (Nat.le_of_ble_eq_true rfl) dL_isTurned_7 (fun q2 H hP hD hS => ?_)
  refine lv_astore_n (lv' := [(2, .ref q2), (1, .ref q1), (0, .ref (a 0 0))]) hx hb dL_isTurned_9 rfl hl (by decide) rfl (fun ls hl => ?_)
  have hpm : (w ++ ([(q1, .inl (g.1, 12, .inl (fun _ => 0)))] : va_W) ++ ([(q2, .inl (g.1, 12, .inl (fun _ => 0)))] : va_W)).Perm (([(q1, .inl (g.1, 12, .inl (fun _ => 0))), (q2, .inl (g.1, 12, .inl (fun _ => 0)))] : va_W) ++ w) := by rw [List.append_assoc]; exact List.perm_append_comm
  have hP := jk_permP hpm hP
  have hD := jk_permD hpm hD
  have hw : bothW (fun z => z = ([(q1, .inl (g.1, 12, .inl (fun _ => 0))), (q2, .inl (g.1, 12, .inl (fun _ => 0)))] : va_W)) (WO g a S) (([(q1, .inl (g.1, 12, .inl (fun _ => 0))), (q2, .inl (g.1, 12, .inl (fun _ => 0)))] : va_W) ++ w) := ⟨_, _, rfl, rfl, hw⟩
  generalize ([(q1, .inl (g.1, 12, .inl (fun _ => 0))), (q2, .inl (g.1, 12, .inl (fun _ => 0)))] : va_W) ++ w = w at hP hD hw
  refine lv_aload_n hx hb dL_isTurned_10 rfl (lv_at hl 2 rfl) ?_
  refine lv_bipush (v := 9) hx hb dL_isTurned_11 (by decide) ?_
  refine kE_callV (As := [.int 9]) (rest := []) ⟨hx, hb, hml, hown, hts⟩ (kE_R (k_count l D g tl tm a S 9) (fun z => z = ([(q1, .inl (g.1, 12, .inl (fun _ => 0))), (q2, .inl (g.1, 12, .inl (fun _ => 0)))] : va_W))) hw (cw_isTurned_X4_count hts) ⟨Nat.le_of_ble_eq_true rfl, Nat.le_of_ble_eq_true rfl⟩ (WW_cellR (hasO_WO _ _ _) hK hP hw) hZ hP hD hK hN rfl hl rfl (Nat.le_of_ble_eq_true rfl) dL_isTurned_13 ⟨Nat.le_of_ble_eq_true rfl, Nat.le_of_ble_eq_true rfl⟩ hS hA (fun w H locs hw hP hD hS => ?_)
  refine lv_istore_n (lv' := [(3, .int (rX4_count (oN S) (oH S) (oP S) 9)), (2, .ref q2), (1, .ref q1), (0, .ref (a 0 0))]) hx hb dL_isTurned_16 rfl hl (by decide) rfl (fun ls hl => ?_)
  refine lv_aload_n hx hb dL_isTurned_17 rfl (lv_at hl 3 rfl) ?_
  refine lv_bipush (v := 10) hx hb dL_isTurned_18 (by decide) ?_
  refine kE_callV (As := [.int 10]) (rest := []) ⟨hx, hb, hml, hown, hts⟩ (kE_R (k_count l D g tl tm a S 10) (fun z => z = ([(q1, .inl (g.1, 12, .inl (fun _ => 0))), (q2, .inl (g.1, 12, .inl (fun _ => 0)))] : va_W))) hw (cw_isTurned_X4_count hts) ⟨Nat.le_of_ble_eq_true rfl, Nat.le_of_ble_eq_true rfl⟩ (WW_cellR (hasO_WO _ _ _) hK hP hw) hZ hP hD hK hN rfl hl rfl (Nat.le_of_ble_eq_true rfl) dL_isTurned_20 ⟨Nat.le_of_ble_eq_true rfl, Nat.le_of_ble_eq_true rfl⟩ hS hA (fun w H locs hw hP hD hS => ?_)
  refine lv_istore (lv' := [(4, .int (rX4_count (oN S) (oH S) (oP S) 10)), (3, .int (rX4_count (oN S) (oH S) (oP S) 9)), (2, .ref q2), (1, .ref q1), (0, .ref (a 0 0))]) hx hb dL_isTurned_23 hl (by decide) rfl (fun ls hl => ?_)
  refine lv_aload_n hx hb dL_isTurned_25 rfl (lv_at hl 4 rfl) ?_
  refine lv_iconst (v := 0) hx hb dL_isTurned_26 (by decide) ?_
  refine lv_iconst (v := 1) hx hb dL_isTurned_27 (by decide) ?_
  refine kE_callV (As := [.int 0, .int 1]) (rest := []) ⟨hx, hb, hml, hown, hts⟩ (kE_R (k_jar l D g tl tm a S 0 1) (fun z => z = ([(q1, .inl (g.1, 12, .inl (fun _ => 0))), (q2, .inl (g.1, 12, .inl (fun _ => 0)))] : va_W))) hw (cw_isTurned_X4_jar hts) ⟨Nat.le_of_ble_eq_true rfl, Nat.le_of_ble_eq_true rfl⟩ (WW_cellR (hasO_WO _ _ _) hK hP hw) hZ hP hD hK hN rfl hl rfl (Nat.le_of_ble_eq_true rfl) dL_isTurned_28 ⟨Nat.le_of_ble_eq_true rfl, Nat.le_of_ble_eq_true rfl⟩ hS hA (fun w H locs hw hP hD hS => ?_)
  refine lv_aload_n hx hb dL_isTurned_31 rfl (lv_at hl 4 rfl) ?_
  refine lv_iconst (v := 1) hx hb dL_isTurned_32 (by decide) ?_
  refine lv_iconst (v := 1) hx hb dL_isTurned_33 (by decide) ?_
  refine kE_callV (As := [.int 1, .int 1]) (rest := [.int (rX4_jar (oN S) 0 1)]) ⟨hx, hb, hml, hown, hts⟩ (kE_R (k_jar l D g tl tm a S 1 1) (fun z => z = ([(q1, .inl (g.1, 12, .inl (fun _ => 0))), (q2, .inl (g.1, 12, .inl (fun _ => 0)))] : va_W))) hw (cw_isTurned_X4_jar hts) ⟨Nat.le_of_ble_eq_true rfl, Nat.le_of_ble_eq_true rfl⟩ (WW_cellR (hasO_WO _ _ _) hK hP hw) hZ hP hD hK hN rfl hl rfl (Nat.le_of_ble_eq_true rfl) dL_isTurned_34 ⟨Nat.le_of_ble_eq_true rfl, Nat.le_of_ble_eq_true rfl⟩ hS hA (fun w H locs hw hP hD hS => ?_)
  refine lv_iadd hx hb dL_isTurned_37 ?_
  refine lv_istore (lv' := [(5, .int ((rX4_jar (oN S) 0 1) + (rX4_jar (oN S) 1 1))), (4, .int (rX4_count (oN S) (oH S) (oP S) 10)), (3, .int (rX4_count (oN S) (oH S) (oP S) 9)), (2, .ref q2), (1, .ref q1), (0, .ref (a 0 0))]) hx hb dL_isTurned_38 hl (by decide) rfl (fun ls hl => ?_)
  refine lv_aload_n hx hb dL_isTurned_40 rfl (lv_at hl 5 rfl) ?_
  refine lv_iconst (v := 0) hx hb dL_isTurned_41 (by decide) ?_
  refine lv_iconst (v := 2) hx hb dL_isTurned_42 (by decide) ?_
  refine kE_callV (As := [.int 0, .int 2]) (rest := []) ⟨hx, hb, hml, hown, hts⟩ (kE_R (k_jar l D g tl tm a S 0 2) (fun z => z = ([(q1, .inl (g.1, 12, .inl (fun _ => 0))), (q2, .inl (g.1, 12, .inl (fun _ => 0)))] : va_W))) hw (cw_isTurned_X4_jar hts) ⟨Nat.le_of_ble_eq_true rfl, Nat.le_of_ble_eq_true rfl⟩ (WW_cellR (hasO_WO _ _ _) hK hP hw) hZ hP hD hK hN rfl hl rfl (Nat.le_of_ble_eq_true rfl) dL_isTurned_43 ⟨Nat.le_of_ble_eq_true rfl, Nat.le_of_ble_eq_true rfl⟩ hS hA (fun w H locs hw hP hD hS => ?_)
  refine lv_aload_n hx hb dL_isTurned_46 rfl (lv_at hl 5 rfl) ?_
  refine lv_iconst (v := 1) hx hb dL_isTurned_47 (by decide) ?_
  refine lv_iconst (v := 2) hx hb dL_isTurned_48 (by decide) ?_
  refine kE_callV (As := [.int 1, .int 2]) (rest := [.int (rX4_jar (oN S) 0 2)]) ⟨hx, hb, hml, hown, hts⟩ (kE_R (k_jar l D g tl tm a S 1 2) (fun z => z = ([(q1, .inl (g.1, 12, .inl (fun _ => 0))), (q2, .inl (g.1, 12, .inl (fun _ => 0)))] : va_W))) hw (cw_isTurned_X4_jar hts) ⟨Nat.le_of_ble_eq_true rfl, Nat.le_of_ble_eq_true rfl⟩ (WW_cellR (hasO_WO _ _ _) hK hP hw) hZ hP hD hK hN rfl hl rfl (Nat.le_of_ble_eq_true rfl) dL_isTurned_49 ⟨Nat.le_of_ble_eq_true rfl, Nat.le_of_ble_eq_true rfl⟩ hS hA (fun w H locs hw hP hD hS => ?_)
  refine lv_iadd hx hb dL_isTurned_52 ?_
  refine lv_istore (lv' := [(6, .int ((rX4_jar (oN S) 0 2) + (rX4_jar (oN S) 1 2))), (5, .int ((rX4_jar (oN S) 0 1) + (rX4_jar (oN S) 1 1))), (4, .int (rX4_count (oN S) (oH S) (oP S) 10)), (3, .int (rX4_count (oN S) (oH S) (oP S) 9)), (2, .ref q2), (1, .ref q1), (0, .ref (a 0 0))]) hx hb dL_isTurned_53 hl (by decide) rfl (fun ls hl => ?_)
  refine lv_aload_n hx hb dL_isTurned_55 rfl (lv_at hl 6 rfl) ?_
  refine lv_iconst (v := 0) hx hb dL_isTurned_56 (by decide) ?_
  refine lv_iconst (v := 0) hx hb dL_isTurned_57 (by decide) ?_
  refine kE_callV (As := [.int 0, .int 0]) (rest := []) ⟨hx, hb, hml, hown, hts⟩ (kE_R (k_jar l D g tl tm a S 0 0) (fun z => z = ([(q1, .inl (g.1, 12, .inl (fun _ => 0))), (q2, .inl (g.1, 12, .inl (fun _ => 0)))] : va_W))) hw (cw_isTurned_X4_jar hts) ⟨Nat.le_of_ble_eq_true rfl, Nat.le_of_ble_eq_true rfl⟩ (WW_cellR (hasO_WO _ _ _) hK hP hw) hZ hP hD hK hN rfl hl rfl (Nat.le_of_ble_eq_true rfl) dL_isTurned_58 ⟨Nat.le_of_ble_eq_true rfl, Nat.le_of_ble_eq_true rfl⟩ hS hA (fun w H locs hw hP hD hS => ?_)
  refine lv_aload_n hx hb dL_isTurned_61 rfl (lv_at hl 6 rfl) ?_
  refine lv_iconst (v := 1) hx hb dL_isTurned_62 (by decide) ?_
  refine lv_iconst (v := 0) hx hb dL_isTurned_63 (by decide) ?_
  refine kE_callV (As := [.int 1, .int 0]) (rest := [.int (rX4_jar (oN S) 0 0)]) ⟨hx, hb, hml, hown, hts⟩ (kE_R (k_jar l D g tl tm a S 1 0) (fun z => z = ([(q1, .inl (g.1, 12, .inl (fun _ => 0))), (q2, .inl (g.1, 12, .inl (fun _ => 0)))] : va_W))) hw (cw_isTurned_X4_jar hts) ⟨Nat.le_of_ble_eq_true rfl, Nat.le_of_ble_eq_true rfl⟩ (WW_cellR (hasO_WO _ _ _) hK hP hw) hZ hP hD hK hN rfl hl rfl (Nat.le_of_ble_eq_true rfl) dL_isTurned_64 ⟨Nat.le_of_ble_eq_true rfl, Nat.le_of_ble_eq_true rfl⟩ hS hA (fun w H locs hw hP hD hS => ?_)
  refine lv_iadd hx hb dL_isTurned_67 ?_
  refine lv_istore (lv' := [(7, .int ((rX4_jar (oN S) 0 0) + (rX4_jar (oN S) 1 0))), (6, .int ((rX4_jar (oN S) 0 2) + (rX4_jar (oN S) 1 2))), (5, .int ((rX4_jar (oN S) 0 1) + (rX4_jar (oN S) 1 1))), (4, .int (rX4_count (oN S) (oH S) (oP S) 10)), (3, .int (rX4_count (oN S) (oH S) (oP S) 9)), (2, .ref q2), (1, .ref q1), (0, .ref (a 0 0))]) hx hb dL_isTurned_68 hl (by decide) rfl (fun ls hl => ?_)
  refine lv_iconst (v := 0) hx hb dL_isTurned_70 (by decide) ?_
  refine lv_istore (lv' := [(8, .int 0), (7, .int ((rX4_jar (oN S) 0 0) + (rX4_jar (oN S) 1 0))), (6, .int ((rX4_jar (oN S) 0 2) + (rX4_jar (oN S) 1 2))), (5, .int ((rX4_jar (oN S) 0 1) + (rX4_jar (oN S) 1 1))), (4, .int (rX4_count (oN S) (oH S) (oP S) 10)), (3, .int (rX4_count (oN S) (oH S) (oP S) 9)), (2, .ref q2), (1, .ref q1), (0, .ref (a 0 0))]) hx hb dL_isTurned_71 hl (by decide) rfl (fun ls hl => ?_)
  have hlp73 : ∀ (nn73 k : Nat) (f : Nat → Int32) (h : Nat → Int32), k ≤ 12 → 12 < k + nn73 → (∀ j, j < k → f j = rX4_sector (oN S) 0 (nI j)) → (∀ j, j < k → h j = rX4_sector (oN S) 1 (nI j)) → ∀ (w : va_W) (H : Heap) (locs : List Loc) (ls : Array Slot), (bothW (fun z => z = ([(q1, .inl (g.1, 12, .inl f)), (q2, .inl (g.1, 12, .inl h))] : va_W)) (WO g a S)) w → va_P D vwCl w H → va_D A w → va_S A s.heap H locs → lv_has ls 13 [(8, .int (nI k)), (7, .int ((rX4_jar (oN S) 0 0) + (rX4_jar (oN S) 1 0))), (6, .int ((rX4_jar (oN S) 0 2) + (rX4_jar (oN S) 1 2))), (5, .int ((rX4_jar (oN S) 0 1) + (rX4_jar (oN S) 1 1))), (4, .int (rX4_count (oN S) (oH S) (oP S) 10)), (3, .int (rX4_count (oN S) (oH S) (oP S) 9)), (2, .ref q2), (1, .ref q1), (0, .ref (a 0 0))] → W p l e ({ frames := 7, cells := 9, slots := 96, locals := 161 }) s m args below meth c H locs ((0 + 1) + 1) ((0 + 12) + 12) (MQ below (jk_QC (some (.int 1)) D (fun o : {w // (WO g a (oturn S 1)) w} => o.1) A) args s 9 96 A) (F0 m 73 ls []) := by
    intro nn73
    induction nn73 with
    | zero => intro k f h hk1 hk2; exact absurd hk2 (by omega)
    | succ nn73 ih73 =>
      intro k f h hk73 hkn73 hf hh w H locs ls hw hP hD hS hl
      refine lv_iload hx hb dL_isTurned_73 (lv_at hl 0 rfl) ?_
      refine lv_bipush (v := 12) hx hb dL_isTurned_75 (by decide) ?_
      refine lv_icmp_ge (tgt := 108) hx hb dL_isTurned_77 (by decide) (fun c1 => ?_) (fun c1 => ?_)
      · have hk9 : k = 12 := jk_ge (N := 12) (by decide) hk73 c1
        subst hk9
        refine lv_aload_n hx hb dL_isTurned_108 rfl (lv_at hl 8 rfl) ?_
        refine lv_iconst (v := 1) hx hb dL_isTurned_109 (by decide) ?_
        refine kE_callV (As := [.int 1]) (rest := []) ⟨hx, hb, hml, hown, hts⟩ (kE_R (k_turn l D g tl tm a S 1) (fun z => z = ([(q1, .inl (g.1, 12, .inl f)), (q2, .inl (g.1, 12, .inl h))] : va_W))) hw (cw_isTurned_X4_turn hts) ⟨Nat.le_of_ble_eq_true rfl, Nat.le_of_ble_eq_true rfl⟩ (WW_cellR (hasO_WO _ _ _) hK hP hw) hZ hP hD hK hN rfl hl rfl (Nat.le_of_ble_eq_true rfl) dL_isTurned_110 ⟨Nat.le_of_ble_eq_true rfl, Nat.le_of_ble_eq_true rfl⟩ hS hA (fun w H locs hw hP hD hS => ?_)
        refine lv_if_lt (tgt := 120) hx hb dL_isTurned_113 (by decide) (fun c2 => ?_) (fun c2 => ?_)
        · exact absurd c2 (Int32.not_lt.mpr ht0)
        refine lv_iconst (v := 1) hx hb dL_isTurned_116 (by decide) ?_
        refine lv_goto (tgt := 121) hx hb dL_isTurned_117 (by decide) ?_
        refine lv_istore (lv' := [(8, .int 1), (7, .int ((rX4_jar (oN S) 0 0) + (rX4_jar (oN S) 1 0))), (6, .int ((rX4_jar (oN S) 0 2) + (rX4_jar (oN S) 1 2))), (5, .int ((rX4_jar (oN S) 0 1) + (rX4_jar (oN S) 1 1))), (4, .int (rX4_count (oN S) (oH S) (oP S) 10)), (3, .int (rX4_count (oN S) (oH S) (oP S) 9)), (2, .ref q2), (1, .ref q1), (0, .ref (a 0 0))]) hx hb dL_isTurned_121 hl (by decide) rfl (fun ls hl => ?_)
        refine lv_iconst (v := 0) hx hb dL_isTurned_123 (by decide) ?_
        refine lv_istore (lv' := [(9, .int 0), (8, .int 1), (7, .int ((rX4_jar (oN S) 0 0) + (rX4_jar (oN S) 1 0))), (6, .int ((rX4_jar (oN S) 0 2) + (rX4_jar (oN S) 1 2))), (5, .int ((rX4_jar (oN S) 0 1) + (rX4_jar (oN S) 1 1))), (4, .int (rX4_count (oN S) (oH S) (oP S) 10)), (3, .int (rX4_count (oN S) (oH S) (oP S) 9)), (2, .ref q2), (1, .ref q1), (0, .ref (a 0 0))]) hx hb dL_isTurned_124 hl (by decide) rfl (fun ls hl => ?_)
        have hlp126 : ∀ (nn126 k : Nat), k ≤ 12 → 12 < k + nn126 → ∀ (w : va_W) (H : Heap) (locs : List Loc) (ls : Array Slot), (bothW (fun z => z = ([(q1, .inl (g.1, 12, .inl f)), (q2, .inl (g.1, 12, .inl h))] : va_W)) (WO g a (oturn S 1))) w → va_P D vwCl w H → va_D A w → va_S A s.heap H locs → lv_has ls 13 [(9, .int (nI k)), (8, .int 1), (7, .int ((rX4_jar (oN S) 0 0) + (rX4_jar (oN S) 1 0))), (6, .int ((rX4_jar (oN S) 0 2) + (rX4_jar (oN S) 1 2))), (5, .int ((rX4_jar (oN S) 0 1) + (rX4_jar (oN S) 1 1))), (4, .int (rX4_count (oN S) (oH S) (oP S) 10)), (3, .int (rX4_count (oN S) (oH S) (oP S) 9)), (2, .ref q2), (1, .ref q1), (0, .ref (a 0 0))] → W p l e ({ frames := 7, cells := 9, slots := 96, locals := 161 }) s m args below meth c H locs (((0 + 1) + 1) + 7) (((0 + 12) + 12) + 72) (MQ below (jk_QC (some (.int 1)) D (fun o : {w // (WO g a (oturn S 1)) w} => o.1) A) args s 9 96 A) (F0 m 126 ls []) := by
          intro nn126
          induction nn126 with
          | zero => intro k  hk1 hk2; exact absurd hk2 (by omega)
          | succ nn126 ih126 =>
            intro k  hk126 hkn126  w H locs ls hw hP hD hS hl
            refine lv_iload hx hb dL_isTurned_126 (lv_at hl 0 rfl) ?_
            refine lv_bipush (v := 12) hx hb dL_isTurned_128 (by decide) ?_
            refine lv_icmp_ge (tgt := 277) hx hb dL_isTurned_130 (by decide) (fun c3 => ?_) (fun c3 => ?_)
            · have hk9 : k = 12 := jk_ge (N := 12) (by decide) hk126 c3
              refine lv_iload hx hb dL_isTurned_277 (lv_at hl 1 rfl) ?_
              refine lv_if_eq (tgt := 358) hx hb dL_isTurned_279 (by decide) (fun c4 => ?_) (fun c4 => ?_)
              · exact absurd c4 (by decide)
              refine lv_aload_n hx hb dL_isTurned_282 rfl (lv_at hl 9 rfl) ?_
              refine lv_bipush (v := 9) hx hb dL_isTurned_283 (by decide) ?_
              refine kE_callV (As := [.int 9]) (rest := []) ⟨hx, hb, hml, hown, hts⟩ (kE_R (k_count l D g tl tm a (oturn S 1) 9) (fun z => z = ([(q1, .inl (g.1, 12, .inl f)), (q2, .inl (g.1, 12, .inl h))] : va_W))) hw (cw_isTurned_X4_count hts) ⟨Nat.le_of_ble_eq_true rfl, Nat.le_of_ble_eq_true rfl⟩ (WW_cellR (hasO_WO _ _ _) hK hP hw) hZ hP hD hK hN rfl hl rfl (Nat.le_of_ble_eq_true rfl) dL_isTurned_285 ⟨Nat.le_of_ble_eq_true rfl, Nat.le_of_ble_eq_true rfl⟩ hS hA (fun w H locs hw hP hD hS => ?_)
              refine lv_iload_n hx hb dL_isTurned_288 rfl (lv_at hl 6 rfl) ?_
              refine lv_aload_n hx hb dL_isTurned_289 rfl (lv_at hl 9 rfl) ?_
              refine lv_bipush (v := 10) hx hb dL_isTurned_290 (by decide) ?_
              refine kE_callV (As := [.int 10]) (rest := [.int (rX4_count (oN S) (oH S) (oP S) 9), .int (rX4_count (oN (oturn S 1)) (oH (oturn S 1)) (oP (oturn S 1)) 9)]) ⟨hx, hb, hml, hown, hts⟩ (kE_R (k_count l D g tl tm a (oturn S 1) 10) (fun z => z = ([(q1, .inl (g.1, 12, .inl f)), (q2, .inl (g.1, 12, .inl h))] : va_W))) hw (cw_isTurned_X4_count hts) ⟨Nat.le_of_ble_eq_true rfl, Nat.le_of_ble_eq_true rfl⟩ (WW_cellR (hasO_WO _ _ _) hK hP hw) hZ hP hD hK hN rfl hl rfl (Nat.le_of_ble_eq_true rfl) dL_isTurned_292 ⟨Nat.le_of_ble_eq_true rfl, Nat.le_of_ble_eq_true rfl⟩ hS hA (fun w H locs hw hP hD hS => ?_)
              refine lv_isub hx hb dL_isTurned_295 ?_
              refine lv_iload hx hb dL_isTurned_296 (lv_at hl 5 rfl) ?_
              refine lv_iadd hx hb dL_isTurned_298 ?_
              refine lv_icmp_ne (tgt := 358) hx hb dL_isTurned_299 (by decide) (fun c5 => ?_) (fun c5 => ?_)
              · exact absurd fsum.1 c5
              refine lv_aload_n hx hb dL_isTurned_302 rfl (lv_at hl 9 rfl) ?_
              refine lv_iconst (v := 0) hx hb dL_isTurned_303 (by decide) ?_
              refine lv_iconst (v := 0) hx hb dL_isTurned_304 (by decide) ?_
              refine kE_callV (As := [.int 0, .int 0]) (rest := []) ⟨hx, hb, hml, hown, hts⟩ (kE_R (k_jar l D g tl tm a (oturn S 1) 0 0) (fun z => z = ([(q1, .inl (g.1, 12, .inl f)), (q2, .inl (g.1, 12, .inl h))] : va_W))) hw (cw_isTurned_X4_jar hts) ⟨Nat.le_of_ble_eq_true rfl, Nat.le_of_ble_eq_true rfl⟩ (WW_cellR (hasO_WO _ _ _) hK hP hw) hZ hP hD hK hN rfl hl rfl (Nat.le_of_ble_eq_true rfl) dL_isTurned_305 ⟨Nat.le_of_ble_eq_true rfl, Nat.le_of_ble_eq_true rfl⟩ hS hA (fun w H locs hw hP hD hS => ?_)
              refine lv_aload_n hx hb dL_isTurned_308 rfl (lv_at hl 9 rfl) ?_
              refine lv_iconst (v := 1) hx hb dL_isTurned_309 (by decide) ?_
              refine lv_iconst (v := 0) hx hb dL_isTurned_310 (by decide) ?_
              refine kE_callV (As := [.int 1, .int 0]) (rest := [.int (rX4_jar (oN (oturn S 1)) 0 0)]) ⟨hx, hb, hml, hown, hts⟩ (kE_R (k_jar l D g tl tm a (oturn S 1) 1 0) (fun z => z = ([(q1, .inl (g.1, 12, .inl f)), (q2, .inl (g.1, 12, .inl h))] : va_W))) hw (cw_isTurned_X4_jar hts) ⟨Nat.le_of_ble_eq_true rfl, Nat.le_of_ble_eq_true rfl⟩ (WW_cellR (hasO_WO _ _ _) hK hP hw) hZ hP hD hK hN rfl hl rfl (Nat.le_of_ble_eq_true rfl) dL_isTurned_311 ⟨Nat.le_of_ble_eq_true rfl, Nat.le_of_ble_eq_true rfl⟩ hS hA (fun w H locs hw hP hD hS => ?_)
              refine lv_iadd hx hb dL_isTurned_314 ?_
              refine lv_iload hx hb dL_isTurned_315 (lv_at hl 2 rfl) ?_
              refine lv_aload_n hx hb dL_isTurned_317 rfl (lv_at hl 9 rfl) ?_
              refine lv_iconst (v := 0) hx hb dL_isTurned_318 (by decide) ?_
              refine lv_iconst (v := 1) hx hb dL_isTurned_319 (by decide) ?_
              refine kE_callV (As := [.int 0, .int 1]) (rest := [.int ((rX4_jar (oN S) 0 0) + (rX4_jar (oN S) 1 0)), .int ((rX4_jar (oN (oturn S 1)) 0 0) + (rX4_jar (oN (oturn S 1)) 1 0))]) ⟨hx, hb, hml, hown, hts⟩ (kE_R (k_jar l D g tl tm a (oturn S 1) 0 1) (fun z => z = ([(q1, .inl (g.1, 12, .inl f)), (q2, .inl (g.1, 12, .inl h))] : va_W))) hw (cw_isTurned_X4_jar hts) ⟨Nat.le_of_ble_eq_true rfl, Nat.le_of_ble_eq_true rfl⟩ (WW_cellR (hasO_WO _ _ _) hK hP hw) hZ hP hD hK hN rfl hl rfl (Nat.le_of_ble_eq_true rfl) dL_isTurned_320 ⟨Nat.le_of_ble_eq_true rfl, Nat.le_of_ble_eq_true rfl⟩ hS hA (fun w H locs hw hP hD hS => ?_)
              refine lv_iadd hx hb dL_isTurned_323 ?_
              refine lv_aload_n hx hb dL_isTurned_324 rfl (lv_at hl 9 rfl) ?_
              refine lv_iconst (v := 1) hx hb dL_isTurned_325 (by decide) ?_
              refine lv_iconst (v := 1) hx hb dL_isTurned_326 (by decide) ?_
              refine kE_callV (As := [.int 1, .int 1]) (rest := [.int (((rX4_jar (oN S) 0 0) + (rX4_jar (oN S) 1 0)) + (rX4_jar (oN (oturn S 1)) 0 1)), .int ((rX4_jar (oN (oturn S 1)) 0 0) + (rX4_jar (oN (oturn S 1)) 1 0))]) ⟨hx, hb, hml, hown, hts⟩ (kE_R (k_jar l D g tl tm a (oturn S 1) 1 1) (fun z => z = ([(q1, .inl (g.1, 12, .inl f)), (q2, .inl (g.1, 12, .inl h))] : va_W))) hw (cw_isTurned_X4_jar hts) ⟨Nat.le_of_ble_eq_true rfl, Nat.le_of_ble_eq_true rfl⟩ (WW_cellR (hasO_WO _ _ _) hK hP hw) hZ hP hD hK hN rfl hl rfl (Nat.le_of_ble_eq_true rfl) dL_isTurned_327 ⟨Nat.le_of_ble_eq_true rfl, Nat.le_of_ble_eq_true rfl⟩ hS hA (fun w H locs hw hP hD hS => ?_)
              refine lv_iadd hx hb dL_isTurned_330 ?_
              refine lv_iload hx hb dL_isTurned_331 (lv_at hl 4 rfl) ?_
              refine lv_isub hx hb dL_isTurned_333 ?_
              refine lv_aload_n hx hb dL_isTurned_334 rfl (lv_at hl 9 rfl) ?_
              refine lv_iconst (v := 0) hx hb dL_isTurned_335 (by decide) ?_
              refine lv_iconst (v := 2) hx hb dL_isTurned_336 (by decide) ?_
              refine kE_callV (As := [.int 0, .int 2]) (rest := [.int (((((rX4_jar (oN S) 0 0) + (rX4_jar (oN S) 1 0)) + (rX4_jar (oN (oturn S 1)) 0 1)) + (rX4_jar (oN (oturn S 1)) 1 1)) - ((rX4_jar (oN S) 0 1) + (rX4_jar (oN S) 1 1))), .int ((rX4_jar (oN (oturn S 1)) 0 0) + (rX4_jar (oN (oturn S 1)) 1 0))]) ⟨hx, hb, hml, hown, hts⟩ (kE_R (k_jar l D g tl tm a (oturn S 1) 0 2) (fun z => z = ([(q1, .inl (g.1, 12, .inl f)), (q2, .inl (g.1, 12, .inl h))] : va_W))) hw (cw_isTurned_X4_jar hts) ⟨Nat.le_of_ble_eq_true rfl, Nat.le_of_ble_eq_true rfl⟩ (WW_cellR (hasO_WO _ _ _) hK hP hw) hZ hP hD hK hN rfl hl rfl (Nat.le_of_ble_eq_true rfl) dL_isTurned_337 ⟨Nat.le_of_ble_eq_true rfl, Nat.le_of_ble_eq_true rfl⟩ hS hA (fun w H locs hw hP hD hS => ?_)
              refine lv_isub hx hb dL_isTurned_340 ?_
              refine lv_aload_n hx hb dL_isTurned_341 rfl (lv_at hl 9 rfl) ?_
              refine lv_iconst (v := 1) hx hb dL_isTurned_342 (by decide) ?_
              refine lv_iconst (v := 2) hx hb dL_isTurned_343 (by decide) ?_
              refine kE_callV (As := [.int 1, .int 2]) (rest := [.int ((((((rX4_jar (oN S) 0 0) + (rX4_jar (oN S) 1 0)) + (rX4_jar (oN (oturn S 1)) 0 1)) + (rX4_jar (oN (oturn S 1)) 1 1)) - ((rX4_jar (oN S) 0 1) + (rX4_jar (oN S) 1 1))) - (rX4_jar (oN (oturn S 1)) 0 2)), .int ((rX4_jar (oN (oturn S 1)) 0 0) + (rX4_jar (oN (oturn S 1)) 1 0))]) ⟨hx, hb, hml, hown, hts⟩ (kE_R (k_jar l D g tl tm a (oturn S 1) 1 2) (fun z => z = ([(q1, .inl (g.1, 12, .inl f)), (q2, .inl (g.1, 12, .inl h))] : va_W))) hw (cw_isTurned_X4_jar hts) ⟨Nat.le_of_ble_eq_true rfl, Nat.le_of_ble_eq_true rfl⟩ (WW_cellR (hasO_WO _ _ _) hK hP hw) hZ hP hD hK hN rfl hl rfl (Nat.le_of_ble_eq_true rfl) dL_isTurned_344 ⟨Nat.le_of_ble_eq_true rfl, Nat.le_of_ble_eq_true rfl⟩ hS hA (fun w H locs hw hP hD hS => ?_)
              refine lv_isub hx hb dL_isTurned_347 ?_
              refine lv_iload hx hb dL_isTurned_348 (lv_at hl 3 rfl) ?_
              refine lv_iadd hx hb dL_isTurned_350 ?_
              refine lv_icmp_ne (tgt := 358) hx hb dL_isTurned_351 (by decide) (fun c6 => ?_) (fun c6 => ?_)
              · exact absurd fsum.2 c6
              refine lv_iconst (v := 1) hx hb dL_isTurned_354 (by decide) ?_
              refine lv_goto (tgt := 359) hx hb dL_isTurned_355 (by decide) ?_
              obtain ⟨w1, w2, rfl, -, hw⟩ := hw
              have hP := jk_rightP hP
              have hD := jk_rightD hD
              exact kE_zret hx hb hr (by decide) hlocks hw hP hD hS (Nat.le_of_ble_eq_true rfl) (Nat.le_of_ble_eq_true rfl) rfl dL_isTurned_359
            · have hlt : k < 12 := jk_lt (N := 12) (by decide) hk126 c3
              refine lv_aload_n hx hb dL_isTurned_133 rfl (lv_at hl 8 rfl) ?_
              refine lv_iload hx hb dL_isTurned_134 (lv_at hl 0 rfl) ?_
              refine lv_bipush (v := 11) hx hb dL_isTurned_136 (by decide) ?_
              refine lv_iadd hx hb dL_isTurned_138 ?_
              refine lv_bipush (v := 12) hx hb dL_isTurned_139 (by decide) ?_
              refine lv_irem hx hb dL_isTurned_141 (by decide) ?_
              refine lv_topi (fun y9 e9 => ?_)
              obtain rfl : y9 = nI ((k + 11) % 12) := e9.trans (ix11 k hlt)
              obtain ⟨_, w1, rfl, rfl, hw1⟩ := hw
              refine va_iald (f := f) hx hb hK hP 0 0 rfl rfl (vp_in_nI (by omega) (by decide)) dL_isTurned_142 ?_
              have hw : bothW (fun z => z = ([(q1, .inl (g.1, 12, .inl f)), (q2, .inl (g.1, 12, .inl h))] : va_W)) (WO g a (oturn S 1)) (([(q1, .inl (g.1, 12, .inl f)), (q2, .inl (g.1, 12, .inl h))] : va_W) ++ w1) := ⟨_, _, rfl, rfl, hw1⟩
              generalize ([(q1, .inl (g.1, 12, .inl f)), (q2, .inl (g.1, 12, .inl h))] : va_W) ++ w1 = w at hP hD hw
              refine lv_topi (fun y9 e9 => ?_)
              obtain rfl : y9 = rX4_sector (oN S) 0 (nI ((k + 11) % 12)) := e9.trans (by rw [jk_cl (by omega)]; exact hf _ (by omega))
              refine lv_istore (lv' := [(10, .int (rX4_sector (oN S) 0 (nI ((k + 11) % 12)))), (9, .int (nI k)), (8, .int 1), (7, .int ((rX4_jar (oN S) 0 0) + (rX4_jar (oN S) 1 0))), (6, .int ((rX4_jar (oN S) 0 2) + (rX4_jar (oN S) 1 2))), (5, .int ((rX4_jar (oN S) 0 1) + (rX4_jar (oN S) 1 1))), (4, .int (rX4_count (oN S) (oH S) (oP S) 10)), (3, .int (rX4_count (oN S) (oH S) (oP S) 9)), (2, .ref q2), (1, .ref q1), (0, .ref (a 0 0))]) hx hb dL_isTurned_143 hl (by decide) rfl (fun ls hl => ?_)
              refine lv_aload_n hx hb dL_isTurned_145 rfl (lv_at hl 8 rfl) ?_
              refine lv_iload hx hb dL_isTurned_146 (lv_at hl 1 rfl) ?_
              refine lv_iconst (v := 1) hx hb dL_isTurned_148 (by decide) ?_
              refine lv_iadd hx hb dL_isTurned_149 ?_
              refine lv_bipush (v := 12) hx hb dL_isTurned_150 (by decide) ?_
              refine lv_irem hx hb dL_isTurned_152 (by decide) ?_
              refine lv_topi (fun y9 e9 => ?_)
              obtain rfl : y9 = nI ((k + 1) % 12) := e9.trans (ix1b k hlt)
              obtain ⟨_, w1, rfl, rfl, hw1⟩ := hw
              refine va_iald (f := h) hx hb hK hP 1 0 rfl rfl (vp_in_nI (by omega) (by decide)) dL_isTurned_153 ?_
              have hw : bothW (fun z => z = ([(q1, .inl (g.1, 12, .inl f)), (q2, .inl (g.1, 12, .inl h))] : va_W)) (WO g a (oturn S 1)) (([(q1, .inl (g.1, 12, .inl f)), (q2, .inl (g.1, 12, .inl h))] : va_W) ++ w1) := ⟨_, _, rfl, rfl, hw1⟩
              generalize ([(q1, .inl (g.1, 12, .inl f)), (q2, .inl (g.1, 12, .inl h))] : va_W) ++ w1 = w at hP hD hw
              refine lv_topi (fun y9 e9 => ?_)
              obtain rfl : y9 = rX4_sector (oN S) 1 (nI ((k + 1) % 12)) := e9.trans (by rw [jk_cl (by omega)]; exact hh _ (by omega))
              refine lv_istore (lv' := [(11, .int (rX4_sector (oN S) 1 (nI ((k + 1) % 12)))), (10, .int (rX4_sector (oN S) 0 (nI ((k + 11) % 12)))), (9, .int (nI k)), (8, .int 1), (7, .int ((rX4_jar (oN S) 0 0) + (rX4_jar (oN S) 1 0))), (6, .int ((rX4_jar (oN S) 0 2) + (rX4_jar (oN S) 1 2))), (5, .int ((rX4_jar (oN S) 0 1) + (rX4_jar (oN S) 1 1))), (4, .int (rX4_count (oN S) (oH S) (oP S) 10)), (3, .int (rX4_count (oN S) (oH S) (oP S) 9)), (2, .ref q2), (1, .ref q1), (0, .ref (a 0 0))]) hx hb dL_isTurned_154 hl (by decide) rfl (fun ls hl => ?_)
              refine lv_iload hx hb dL_isTurned_156 (lv_at hl 2 rfl) ?_
              refine lv_if_eq (tgt := 168) hx hb dL_isTurned_158 (by decide) (fun c7 => ?_) (fun c7 => ?_)
              · refine lv_iconst (v := 1) hx hb dL_isTurned_168 (by decide) ?_
                refine lv_goto (tgt := 173) hx hb dL_isTurned_169 (by decide) ?_
                refine lv_istore (lv' := [(12, .int 1), (11, .int (rX4_sector (oN S) 1 (nI ((k + 1) % 12)))), (10, .int (rX4_sector (oN S) 0 (nI ((k + 11) % 12)))), (9, .int (nI k)), (8, .int 1), (7, .int ((rX4_jar (oN S) 0 0) + (rX4_jar (oN S) 1 0))), (6, .int ((rX4_jar (oN S) 0 2) + (rX4_jar (oN S) 1 2))), (5, .int ((rX4_jar (oN S) 0 1) + (rX4_jar (oN S) 1 1))), (4, .int (rX4_count (oN S) (oH S) (oP S) 10)), (3, .int (rX4_count (oN S) (oH S) (oP S) 9)), (2, .ref q2), (1, .ref q1), (0, .ref (a 0 0))]) hx hb dL_isTurned_173 hl (by decide) rfl (fun ls hl => ?_)
                refine lv_iload hx hb dL_isTurned_175 (lv_at hl 4 rfl) ?_
                refine lv_if_eq (tgt := 268) hx hb dL_isTurned_177 (by decide) (fun c8 => ?_) (fun c8 => ?_)
                · exact absurd c8 (by decide)
                refine lv_iload hx hb dL_isTurned_180 (lv_at hl 0 rfl) ?_
                refine lv_if_ne (tgt := 222) hx hb dL_isTurned_182 (by decide) (fun c9 => ?_) (fun c9 => ?_)
                rotate_left
                · exact absurd c9 (by decide)
                refine lv_iload hx hb dL_isTurned_222 (lv_at hl 0 rfl) ?_
                refine lv_if_ne (tgt := 264) hx hb dL_isTurned_224 (by decide) (fun c10 => ?_) (fun c10 => ?_)
                rotate_left
                · exact absurd c10 (by decide)
                refine lv_iconst (v := 1) hx hb dL_isTurned_264 (by decide) ?_
                refine lv_goto (tgt := 269) hx hb dL_isTurned_265 (by decide) ?_
                refine lv_istore (lv' := [(8, .int 1), (12, .int 1), (11, .int (rX4_sector (oN S) 1 (nI ((k + 1) % 12)))), (10, .int (rX4_sector (oN S) 0 (nI ((k + 11) % 12)))), (9, .int (nI k)), (7, .int ((rX4_jar (oN S) 0 0) + (rX4_jar (oN S) 1 0))), (6, .int ((rX4_jar (oN S) 0 2) + (rX4_jar (oN S) 1 2))), (5, .int ((rX4_jar (oN S) 0 1) + (rX4_jar (oN S) 1 1))), (4, .int (rX4_count (oN S) (oH S) (oP S) 10)), (3, .int (rX4_count (oN S) (oH S) (oP S) 9)), (2, .ref q2), (1, .ref q1), (0, .ref (a 0 0))]) hx hb dL_isTurned_269 hl (by decide) rfl (fun ls hl => ?_)
                refine lv_iinc (v := nI (k + 1)) (lv' := [(9, .int (nI (k + 1))), (8, .int 1), (12, .int 1), (11, .int (rX4_sector (oN S) 1 (nI ((k + 1) % 12)))), (10, .int (rX4_sector (oN S) 0 (nI ((k + 11) % 12)))), (7, .int ((rX4_jar (oN S) 0 0) + (rX4_jar (oN S) 1 0))), (6, .int ((rX4_jar (oN S) 0 2) + (rX4_jar (oN S) 1 2))), (5, .int ((rX4_jar (oN S) 0 1) + (rX4_jar (oN S) 1 1))), (4, .int (rX4_count (oN S) (oH S) (oP S) 10)), (3, .int (rX4_count (oN S) (oH S) (oP S) 9)), (2, .ref q2), (1, .ref q1), (0, .ref (a 0 0))]) hx hb dL_isTurned_271 hl (k := 4) rfl (nI_1 _) (by decide) rfl (fun ls hl => ?_)
                refine lv_goto (tgt := 126) hx hb dL_isTurned_274 (by decide) ?_
                exact ih126 (k + 1)  (by omega) (by omega)  w H locs ls hw hP hD hS (lv_sub hl [0, 1, 5, 6, 7, 8, 9, 10, 11, 12] rfl)
              · refine lv_iload hx hb dL_isTurned_161 (lv_at hl 2 rfl) ?_
                refine lv_bipush (v := 6) hx hb dL_isTurned_163 (by decide) ?_
                refine lv_icmp_ne (tgt := 172) hx hb dL_isTurned_165 (by decide) (fun c11 => ?_) (fun c11 => ?_)
                · refine lv_iconst (v := 0) hx hb dL_isTurned_172 (by decide) ?_
                  refine lv_istore (lv' := [(12, .int 0), (11, .int (rX4_sector (oN S) 1 (nI ((k + 1) % 12)))), (10, .int (rX4_sector (oN S) 0 (nI ((k + 11) % 12)))), (9, .int (nI k)), (8, .int 1), (7, .int ((rX4_jar (oN S) 0 0) + (rX4_jar (oN S) 1 0))), (6, .int ((rX4_jar (oN S) 0 2) + (rX4_jar (oN S) 1 2))), (5, .int ((rX4_jar (oN S) 0 1) + (rX4_jar (oN S) 1 1))), (4, .int (rX4_count (oN S) (oH S) (oP S) 10)), (3, .int (rX4_count (oN S) (oH S) (oP S) 9)), (2, .ref q2), (1, .ref q1), (0, .ref (a 0 0))]) hx hb dL_isTurned_173 hl (by decide) rfl (fun ls hl => ?_)
                  refine lv_iload hx hb dL_isTurned_175 (lv_at hl 4 rfl) ?_
                  refine lv_if_eq (tgt := 268) hx hb dL_isTurned_177 (by decide) (fun c12 => ?_) (fun c12 => ?_)
                  · exact absurd c12 (by decide)
                  have K264_12 : ∀ (w : va_W) (H : Heap) (locs : List Loc) (ls : Array Slot), (bothW (fun z => z = ([(q1, .inl (g.1, 12, .inl f)), (q2, .inl (g.1, 12, .inl h))] : va_W)) (WO g a (oturn S 1))) w → va_P D vwCl w H → va_D A w → va_S A s.heap H locs → lv_has ls 13 [(12, .int 0), (11, .int (rX4_sector (oN S) 1 (nI ((k + 1) % 12)))), (10, .int (rX4_sector (oN S) 0 (nI ((k + 11) % 12)))), (9, .int (nI k)), (8, .int 1), (7, .int ((rX4_jar (oN S) 0 0) + (rX4_jar (oN S) 1 0))), (6, .int ((rX4_jar (oN S) 0 2) + (rX4_jar (oN S) 1 2))), (5, .int ((rX4_jar (oN S) 0 1) + (rX4_jar (oN S) 1 1))), (4, .int (rX4_count (oN S) (oH S) (oP S) 10)), (3, .int (rX4_count (oN S) (oH S) (oP S) 9)), (2, .ref q2), (1, .ref q1), (0, .ref (a 0 0))] → W p l e ({ frames := 7, cells := 9, slots := 96, locals := 161 }) s m args below meth c H locs (((0 + 1) + 1) + 7) (((0 + 12) + 12) + 72) (MQ below (jk_QC (some (.int 1)) D (fun o : {w // (WO g a (oturn S 1)) w} => o.1) A) args s 9 96 A) (F0 m 264 ls []) := by
                    intro w H locs ls hw hP hD hS hl
                    refine lv_iconst (v := 1) hx hb dL_isTurned_264 (by decide) ?_
                    refine lv_goto (tgt := 269) hx hb dL_isTurned_265 (by decide) ?_
                    refine lv_istore (lv' := [(8, .int 1), (12, .int 0), (11, .int (rX4_sector (oN S) 1 (nI ((k + 1) % 12)))), (10, .int (rX4_sector (oN S) 0 (nI ((k + 11) % 12)))), (9, .int (nI k)), (7, .int ((rX4_jar (oN S) 0 0) + (rX4_jar (oN S) 1 0))), (6, .int ((rX4_jar (oN S) 0 2) + (rX4_jar (oN S) 1 2))), (5, .int ((rX4_jar (oN S) 0 1) + (rX4_jar (oN S) 1 1))), (4, .int (rX4_count (oN S) (oH S) (oP S) 10)), (3, .int (rX4_count (oN S) (oH S) (oP S) 9)), (2, .ref q2), (1, .ref q1), (0, .ref (a 0 0))]) hx hb dL_isTurned_269 hl (by decide) rfl (fun ls hl => ?_)
                    refine lv_iinc (v := nI (k + 1)) (lv' := [(9, .int (nI (k + 1))), (8, .int 1), (12, .int 0), (11, .int (rX4_sector (oN S) 1 (nI ((k + 1) % 12)))), (10, .int (rX4_sector (oN S) 0 (nI ((k + 11) % 12)))), (7, .int ((rX4_jar (oN S) 0 0) + (rX4_jar (oN S) 1 0))), (6, .int ((rX4_jar (oN S) 0 2) + (rX4_jar (oN S) 1 2))), (5, .int ((rX4_jar (oN S) 0 1) + (rX4_jar (oN S) 1 1))), (4, .int (rX4_count (oN S) (oH S) (oP S) 10)), (3, .int (rX4_count (oN S) (oH S) (oP S) 9)), (2, .ref q2), (1, .ref q1), (0, .ref (a 0 0))]) hx hb dL_isTurned_271 hl (k := 4) rfl (nI_1 _) (by decide) rfl (fun ls hl => ?_)
                    refine lv_goto (tgt := 126) hx hb dL_isTurned_274 (by decide) ?_
                    exact ih126 (k + 1)  (by omega) (by omega)  w H locs ls hw hP hD hS (lv_sub hl [0, 1, 5, 6, 7, 8, 9, 10, 11, 12] rfl)
                  have K222_13 : ∀ (w : va_W) (H : Heap) (locs : List Loc) (ls : Array Slot), (bothW (fun z => z = ([(q1, .inl (g.1, 12, .inl f)), (q2, .inl (g.1, 12, .inl h))] : va_W)) (WO g a (oturn S 1))) w → va_P D vwCl w H → va_D A w → va_S A s.heap H locs → lv_has ls 13 [(12, .int 0), (11, .int (rX4_sector (oN S) 1 (nI ((k + 1) % 12)))), (10, .int (rX4_sector (oN S) 0 (nI ((k + 11) % 12)))), (9, .int (nI k)), (8, .int 1), (7, .int ((rX4_jar (oN S) 0 0) + (rX4_jar (oN S) 1 0))), (6, .int ((rX4_jar (oN S) 0 2) + (rX4_jar (oN S) 1 2))), (5, .int ((rX4_jar (oN S) 0 1) + (rX4_jar (oN S) 1 1))), (4, .int (rX4_count (oN S) (oH S) (oP S) 10)), (3, .int (rX4_count (oN S) (oH S) (oP S) 9)), (2, .ref q2), (1, .ref q1), (0, .ref (a 0 0))] → W p l e ({ frames := 7, cells := 9, slots := 96, locals := 161 }) s m args below meth c H locs (((0 + 1) + 1) + 7) (((0 + 12) + 12) + 72) (MQ below (jk_QC (some (.int 1)) D (fun o : {w // (WO g a (oturn S 1)) w} => o.1) A) args s 9 96 A) (F0 m 222 ls []) := by
                    intro w H locs ls hw hP hD hS hl
                    refine lv_iload hx hb dL_isTurned_222 (lv_at hl 0 rfl) ?_
                    refine lv_if_ne (tgt := 264) hx hb dL_isTurned_224 (by decide) (fun c15 => ?_) (fun c15 => ?_)
                    · exact absurd (by decide) c15
                    refine lv_iload hx hb dL_isTurned_227 (lv_at hl 3 rfl) ?_
                    refine lv_iconst (v := 4) hx hb dL_isTurned_229 (by decide) ?_
                    refine lv_icmp_eq (tgt := 264) hx hb dL_isTurned_230 (by decide) (fun c16 => ?_) (fun c16 => ?_)
                    · exact K264_12 w H locs ls hw hP hD hS (lv_sub hl [0, 1, 2, 3, 4, 5, 6, 7, 8, 9, 10, 11, 12] rfl)
                    · refine lv_iload hx hb dL_isTurned_233 (lv_at hl 3 rfl) ?_
                      refine lv_bipush (v := 10) hx hb dL_isTurned_235 (by decide) ?_
                      refine lv_icmp_eq (tgt := 264) hx hb dL_isTurned_237 (by decide) (fun c17 => ?_) (fun c17 => ?_)
                      · exact K264_12 w H locs ls hw hP hD hS (lv_sub hl [0, 1, 2, 3, 4, 5, 6, 7, 8, 9, 10, 11, 12] rfl)
                      · refine lv_aload_n hx hb dL_isTurned_240 rfl (lv_at hl 12 rfl) ?_
                        refine lv_iconst (v := 1) hx hb dL_isTurned_241 (by decide) ?_
                        refine lv_iload hx hb dL_isTurned_242 (lv_at hl 3 rfl) ?_
                        refine kE_callV (As := [.int 1, .int (nI k)]) (rest := []) ⟨hx, hb, hml, hown, hts⟩ (kE_R (k_sector l D g tl tm a (oturn S 1) 1 (nI k)) (fun z => z = ([(q1, .inl (g.1, 12, .inl f)), (q2, .inl (g.1, 12, .inl h))] : va_W))) hw (cw_isTurned_X4_sector hts) ⟨Nat.le_of_ble_eq_true rfl, Nat.le_of_ble_eq_true rfl⟩ (WW_cellR (hasO_WO _ _ _) hK hP hw) hZ hP hD hK hN rfl hl rfl (Nat.le_of_ble_eq_true rfl) dL_isTurned_244 ⟨Nat.le_of_ble_eq_true rfl, Nat.le_of_ble_eq_true rfl⟩ hS hA (fun w H locs hw hP hD hS => ?_)
                        refine lv_iload hx hb dL_isTurned_247 (lv_at hl 1 rfl) ?_
                        refine lv_iload hx hb dL_isTurned_249 (lv_at hl 1 rfl) ?_
                        refine lv_aload_n hx hb dL_isTurned_251 rfl (lv_at hl 12 rfl) ?_
                        refine lv_iconst (v := 1) hx hb dL_isTurned_252 (by decide) ?_
                        refine kE_callV (As := [.int 1]) (rest := [.int (rX4_sector (oN S) 1 (nI ((k + 1) % 12))), .int (rX4_sector (oN S) 1 (nI ((k + 1) % 12))), .int (rX4_sector (oN (oturn S 1)) 1 (nI k))]) ⟨hx, hb, hml, hown, hts⟩ (kE_R (k_count l D g tl tm a (oturn S 1) 1) (fun z => z = ([(q1, .inl (g.1, 12, .inl f)), (q2, .inl (g.1, 12, .inl h))] : va_W))) hw (cw_isTurned_X4_count hts) ⟨Nat.le_of_ble_eq_true rfl, Nat.le_of_ble_eq_true rfl⟩ (WW_cellR (hasO_WO _ _ _) hK hP hw) hZ hP hD hK hN rfl hl rfl (Nat.le_of_ble_eq_true rfl) dL_isTurned_253 ⟨Nat.le_of_ble_eq_true rfl, Nat.le_of_ble_eq_true rfl⟩ hS hA (fun w H locs hw hP hD hS => ?_)
                        refine lv_imul hx hb dL_isTurned_256 ?_
                        refine lv_bipush (v := 100) hx hb dL_isTurned_257 (by decide) ?_
                        refine lv_idiv hx hb dL_isTurned_259 (by decide) ?_
                        refine lv_isub hx hb dL_isTurned_260 ?_
                        refine lv_icmp_ne (tgt := 268) hx hb dL_isTurned_261 (by decide) (fun c18 => ?_) (fun c18 => ?_)
                        · exact absurd (fs1 k hlt (k_ne (c := 0) c7) (k_ne (c := 6) c11) (k_ne (c := 4) c16) (k_ne (c := 10) c17)) c18
                        exact K264_12 w H locs ls hw hP hD hS (lv_sub hl [0, 1, 2, 3, 4, 5, 6, 7, 8, 9, 10, 11, 12] rfl)
                  refine lv_iload hx hb dL_isTurned_180 (lv_at hl 0 rfl) ?_
                  refine lv_if_ne (tgt := 222) hx hb dL_isTurned_182 (by decide) (fun c19 => ?_) (fun c19 => ?_)
                  · exact absurd (by decide) c19
                  refine lv_iload hx hb dL_isTurned_185 (lv_at hl 3 rfl) ?_
                  refine lv_iconst (v := 2) hx hb dL_isTurned_187 (by decide) ?_
                  refine lv_icmp_eq (tgt := 222) hx hb dL_isTurned_188 (by decide) (fun c20 => ?_) (fun c20 => ?_)
                  · exact K222_13 w H locs ls hw hP hD hS (lv_sub hl [0, 1, 2, 3, 4, 5, 6, 7, 8, 9, 10, 11, 12] rfl)
                  · refine lv_iload hx hb dL_isTurned_191 (lv_at hl 3 rfl) ?_
                    refine lv_bipush (v := 8) hx hb dL_isTurned_193 (by decide) ?_
                    refine lv_icmp_eq (tgt := 222) hx hb dL_isTurned_195 (by decide) (fun c21 => ?_) (fun c21 => ?_)
                    · exact K222_13 w H locs ls hw hP hD hS (lv_sub hl [0, 1, 2, 3, 4, 5, 6, 7, 8, 9, 10, 11, 12] rfl)
                    · refine lv_aload_n hx hb dL_isTurned_198 rfl (lv_at hl 12 rfl) ?_
                      refine lv_iconst (v := 0) hx hb dL_isTurned_199 (by decide) ?_
                      refine lv_iload hx hb dL_isTurned_200 (lv_at hl 3 rfl) ?_
                      refine kE_callV (As := [.int 0, .int (nI k)]) (rest := []) ⟨hx, hb, hml, hown, hts⟩ (kE_R (k_sector l D g tl tm a (oturn S 1) 0 (nI k)) (fun z => z = ([(q1, .inl (g.1, 12, .inl f)), (q2, .inl (g.1, 12, .inl h))] : va_W))) hw (cw_isTurned_X4_sector hts) ⟨Nat.le_of_ble_eq_true rfl, Nat.le_of_ble_eq_true rfl⟩ (WW_cellR (hasO_WO _ _ _) hK hP hw) hZ hP hD hK hN rfl hl rfl (Nat.le_of_ble_eq_true rfl) dL_isTurned_202 ⟨Nat.le_of_ble_eq_true rfl, Nat.le_of_ble_eq_true rfl⟩ hS hA (fun w H locs hw hP hD hS => ?_)
                      refine lv_iload hx hb dL_isTurned_205 (lv_at hl 2 rfl) ?_
                      refine lv_iload hx hb dL_isTurned_207 (lv_at hl 2 rfl) ?_
                      refine lv_aload_n hx hb dL_isTurned_209 rfl (lv_at hl 12 rfl) ?_
                      refine lv_iconst (v := 1) hx hb dL_isTurned_210 (by decide) ?_
                      refine kE_callV (As := [.int 1]) (rest := [.int (rX4_sector (oN S) 0 (nI ((k + 11) % 12))), .int (rX4_sector (oN S) 0 (nI ((k + 11) % 12))), .int (rX4_sector (oN (oturn S 1)) 0 (nI k))]) ⟨hx, hb, hml, hown, hts⟩ (kE_R (k_count l D g tl tm a (oturn S 1) 1) (fun z => z = ([(q1, .inl (g.1, 12, .inl f)), (q2, .inl (g.1, 12, .inl h))] : va_W))) hw (cw_isTurned_X4_count hts) ⟨Nat.le_of_ble_eq_true rfl, Nat.le_of_ble_eq_true rfl⟩ (WW_cellR (hasO_WO _ _ _) hK hP hw) hZ hP hD hK hN rfl hl rfl (Nat.le_of_ble_eq_true rfl) dL_isTurned_211 ⟨Nat.le_of_ble_eq_true rfl, Nat.le_of_ble_eq_true rfl⟩ hS hA (fun w H locs hw hP hD hS => ?_)
                      refine lv_imul hx hb dL_isTurned_214 ?_
                      refine lv_bipush (v := 100) hx hb dL_isTurned_215 (by decide) ?_
                      refine lv_idiv hx hb dL_isTurned_217 (by decide) ?_
                      refine lv_isub hx hb dL_isTurned_218 ?_
                      refine lv_icmp_ne (tgt := 268) hx hb dL_isTurned_219 (by decide) (fun c22 => ?_) (fun c22 => ?_)
                      · exact absurd (fs0 k hlt (k_ne (c := 0) c7) (k_ne (c := 6) c11) (k_ne (c := 2) c20) (k_ne (c := 8) c21)) c22
                      exact K222_13 w H locs ls hw hP hD hS (lv_sub hl [0, 1, 2, 3, 4, 5, 6, 7, 8, 9, 10, 11, 12] rfl)
                · refine lv_iconst (v := 1) hx hb dL_isTurned_168 (by decide) ?_
                  refine lv_goto (tgt := 173) hx hb dL_isTurned_169 (by decide) ?_
                  refine lv_istore (lv' := [(12, .int 1), (11, .int (rX4_sector (oN S) 1 (nI ((k + 1) % 12)))), (10, .int (rX4_sector (oN S) 0 (nI ((k + 11) % 12)))), (9, .int (nI k)), (8, .int 1), (7, .int ((rX4_jar (oN S) 0 0) + (rX4_jar (oN S) 1 0))), (6, .int ((rX4_jar (oN S) 0 2) + (rX4_jar (oN S) 1 2))), (5, .int ((rX4_jar (oN S) 0 1) + (rX4_jar (oN S) 1 1))), (4, .int (rX4_count (oN S) (oH S) (oP S) 10)), (3, .int (rX4_count (oN S) (oH S) (oP S) 9)), (2, .ref q2), (1, .ref q1), (0, .ref (a 0 0))]) hx hb dL_isTurned_173 hl (by decide) rfl (fun ls hl => ?_)
                  refine lv_iload hx hb dL_isTurned_175 (lv_at hl 4 rfl) ?_
                  refine lv_if_eq (tgt := 268) hx hb dL_isTurned_177 (by decide) (fun c23 => ?_) (fun c23 => ?_)
                  · exact absurd c23 (by decide)
                  refine lv_iload hx hb dL_isTurned_180 (lv_at hl 0 rfl) ?_
                  refine lv_if_ne (tgt := 222) hx hb dL_isTurned_182 (by decide) (fun c24 => ?_) (fun c24 => ?_)
                  rotate_left
                  · exact absurd c24 (by decide)
                  refine lv_iload hx hb dL_isTurned_222 (lv_at hl 0 rfl) ?_
                  refine lv_if_ne (tgt := 264) hx hb dL_isTurned_224 (by decide) (fun c25 => ?_) (fun c25 => ?_)
                  rotate_left
                  · exact absurd c25 (by decide)
                  refine lv_iconst (v := 1) hx hb dL_isTurned_264 (by decide) ?_
                  refine lv_goto (tgt := 269) hx hb dL_isTurned_265 (by decide) ?_
                  refine lv_istore (lv' := [(8, .int 1), (12, .int 1), (11, .int (rX4_sector (oN S) 1 (nI ((k + 1) % 12)))), (10, .int (rX4_sector (oN S) 0 (nI ((k + 11) % 12)))), (9, .int (nI k)), (7, .int ((rX4_jar (oN S) 0 0) + (rX4_jar (oN S) 1 0))), (6, .int ((rX4_jar (oN S) 0 2) + (rX4_jar (oN S) 1 2))), (5, .int ((rX4_jar (oN S) 0 1) + (rX4_jar (oN S) 1 1))), (4, .int (rX4_count (oN S) (oH S) (oP S) 10)), (3, .int (rX4_count (oN S) (oH S) (oP S) 9)), (2, .ref q2), (1, .ref q1), (0, .ref (a 0 0))]) hx hb dL_isTurned_269 hl (by decide) rfl (fun ls hl => ?_)
                  refine lv_iinc (v := nI (k + 1)) (lv' := [(9, .int (nI (k + 1))), (8, .int 1), (12, .int 1), (11, .int (rX4_sector (oN S) 1 (nI ((k + 1) % 12)))), (10, .int (rX4_sector (oN S) 0 (nI ((k + 11) % 12)))), (7, .int ((rX4_jar (oN S) 0 0) + (rX4_jar (oN S) 1 0))), (6, .int ((rX4_jar (oN S) 0 2) + (rX4_jar (oN S) 1 2))), (5, .int ((rX4_jar (oN S) 0 1) + (rX4_jar (oN S) 1 1))), (4, .int (rX4_count (oN S) (oH S) (oP S) 10)), (3, .int (rX4_count (oN S) (oH S) (oP S) 9)), (2, .ref q2), (1, .ref q1), (0, .ref (a 0 0))]) hx hb dL_isTurned_271 hl (k := 4) rfl (nI_1 _) (by decide) rfl (fun ls hl => ?_)
                  refine lv_goto (tgt := 126) hx hb dL_isTurned_274 (by decide) ?_
                  exact ih126 (k + 1)  (by omega) (by omega)  w H locs ls hw hP hD hS (lv_sub hl [0, 1, 5, 6, 7, 8, 9, 10, 11, 12] rfl)
        exact hlp126 (12 + 1) 0  (by omega) (by omega)  w H locs ls hw hP hD hS (lv_sub hl [0, 1, 2, 3, 4, 5, 6, 7, 8, 9] rfl)
      · have hlt : k < 12 := jk_lt (N := 12) (by decide) hk73 c1
        refine lv_aload_n hx hb dL_isTurned_80 rfl (lv_at hl 7 rfl) ?_
        refine lv_iload hx hb dL_isTurned_81 (lv_at hl 0 rfl) ?_
        refine lv_aload_n hx hb dL_isTurned_83 rfl (lv_at hl 8 rfl) ?_
        refine lv_iconst (v := 0) hx hb dL_isTurned_84 (by decide) ?_
        refine lv_iload hx hb dL_isTurned_85 (lv_at hl 0 rfl) ?_
        refine kE_callV (As := [.int 0, .int (nI k)]) (rest := [.int (nI k), .ref q1]) ⟨hx, hb, hml, hown, hts⟩ (kE_R (k_sector l D g tl tm a S 0 (nI k)) (fun z => z = ([(q1, .inl (g.1, 12, .inl f)), (q2, .inl (g.1, 12, .inl h))] : va_W))) hw (cw_isTurned_X4_sector hts) ⟨Nat.le_of_ble_eq_true rfl, Nat.le_of_ble_eq_true rfl⟩ (WW_cellR (hasO_WO _ _ _) hK hP hw) hZ hP hD hK hN rfl hl rfl (Nat.le_of_ble_eq_true rfl) dL_isTurned_87 ⟨Nat.le_of_ble_eq_true rfl, Nat.le_of_ble_eq_true rfl⟩ hS hA (fun w H locs hw hP hD hS => ?_)
        obtain ⟨_, w1, rfl, rfl, hw1⟩ := hw
        refine va_iast (f := f) hx hb hK hP hD hS 0 0 rfl rfl (vp_in_nI (by omega) (by decide)) dL_isTurned_90 (fun H locs hP hD hS => ?_)
        have hP : va_P D vwCl (([(q1, .inl (g.1, 12, .inl (upd f (nI k).toNatClampNeg (rX4_sector (oN S) 0 (nI k))))), (q2, .inl (g.1, 12, .inl h))] : va_W) ++ w1) H := hP
        have hD : va_D A (([(q1, .inl (g.1, 12, .inl (upd f (nI k).toNatClampNeg (rX4_sector (oN S) 0 (nI k))))), (q2, .inl (g.1, 12, .inl h))] : va_W) ++ w1) := hD
        have hw : bothW (fun z => z = ([(q1, .inl (g.1, 12, .inl (upd f (nI k).toNatClampNeg (rX4_sector (oN S) 0 (nI k))))), (q2, .inl (g.1, 12, .inl h))] : va_W)) (WO g a S) (([(q1, .inl (g.1, 12, .inl (upd f (nI k).toNatClampNeg (rX4_sector (oN S) 0 (nI k))))), (q2, .inl (g.1, 12, .inl h))] : va_W) ++ w1) := ⟨_, _, rfl, rfl, hw1⟩
        generalize ([(q1, .inl (g.1, 12, .inl (upd f (nI k).toNatClampNeg (rX4_sector (oN S) 0 (nI k))))), (q2, .inl (g.1, 12, .inl h))] : va_W) ++ w1 = w at hP hD hw
        refine lv_aload_n hx hb dL_isTurned_91 rfl (lv_at hl 6 rfl) ?_
        refine lv_iload hx hb dL_isTurned_92 (lv_at hl 0 rfl) ?_
        refine lv_aload_n hx hb dL_isTurned_94 rfl (lv_at hl 8 rfl) ?_
        refine lv_iconst (v := 1) hx hb dL_isTurned_95 (by decide) ?_
        refine lv_iload hx hb dL_isTurned_96 (lv_at hl 0 rfl) ?_
        refine kE_callV (As := [.int 1, .int (nI k)]) (rest := [.int (nI k), .ref q2]) ⟨hx, hb, hml, hown, hts⟩ (kE_R (k_sector l D g tl tm a S 1 (nI k)) (fun z => z = ([(q1, .inl (g.1, 12, .inl (upd f (nI k).toNatClampNeg (rX4_sector (oN S) 0 (nI k))))), (q2, .inl (g.1, 12, .inl h))] : va_W))) hw (cw_isTurned_X4_sector hts) ⟨Nat.le_of_ble_eq_true rfl, Nat.le_of_ble_eq_true rfl⟩ (WW_cellR (hasO_WO _ _ _) hK hP hw) hZ hP hD hK hN rfl hl rfl (Nat.le_of_ble_eq_true rfl) dL_isTurned_98 ⟨Nat.le_of_ble_eq_true rfl, Nat.le_of_ble_eq_true rfl⟩ hS hA (fun w H locs hw hP hD hS => ?_)
        obtain ⟨_, w1, rfl, rfl, hw1⟩ := hw
        refine va_iast (f := h) hx hb hK hP hD hS 1 0 rfl rfl (vp_in_nI (by omega) (by decide)) dL_isTurned_101 (fun H locs hP hD hS => ?_)
        have hP : va_P D vwCl (([(q1, .inl (g.1, 12, .inl (upd f (nI k).toNatClampNeg (rX4_sector (oN S) 0 (nI k))))), (q2, .inl (g.1, 12, .inl (upd h (nI k).toNatClampNeg (rX4_sector (oN S) 1 (nI k)))))] : va_W) ++ w1) H := hP
        have hD : va_D A (([(q1, .inl (g.1, 12, .inl (upd f (nI k).toNatClampNeg (rX4_sector (oN S) 0 (nI k))))), (q2, .inl (g.1, 12, .inl (upd h (nI k).toNatClampNeg (rX4_sector (oN S) 1 (nI k)))))] : va_W) ++ w1) := hD
        have hw : bothW (fun z => z = ([(q1, .inl (g.1, 12, .inl (upd f (nI k).toNatClampNeg (rX4_sector (oN S) 0 (nI k))))), (q2, .inl (g.1, 12, .inl (upd h (nI k).toNatClampNeg (rX4_sector (oN S) 1 (nI k)))))] : va_W)) (WO g a S) (([(q1, .inl (g.1, 12, .inl (upd f (nI k).toNatClampNeg (rX4_sector (oN S) 0 (nI k))))), (q2, .inl (g.1, 12, .inl (upd h (nI k).toNatClampNeg (rX4_sector (oN S) 1 (nI k)))))] : va_W) ++ w1) := ⟨_, _, rfl, rfl, hw1⟩
        generalize ([(q1, .inl (g.1, 12, .inl (upd f (nI k).toNatClampNeg (rX4_sector (oN S) 0 (nI k))))), (q2, .inl (g.1, 12, .inl (upd h (nI k).toNatClampNeg (rX4_sector (oN S) 1 (nI k)))))] : va_W) ++ w1 = w at hP hD hw
        refine lv_iinc (v := nI (k + 1)) (lv' := [(8, .int (nI (k + 1))), (7, .int ((rX4_jar (oN S) 0 0) + (rX4_jar (oN S) 1 0))), (6, .int ((rX4_jar (oN S) 0 2) + (rX4_jar (oN S) 1 2))), (5, .int ((rX4_jar (oN S) 0 1) + (rX4_jar (oN S) 1 1))), (4, .int (rX4_count (oN S) (oH S) (oP S) 10)), (3, .int (rX4_count (oN S) (oH S) (oP S) 9)), (2, .ref q2), (1, .ref q1), (0, .ref (a 0 0))]) hx hb dL_isTurned_102 hl (k := 0) rfl (nI_1 _) (by decide) rfl (fun ls hl => ?_)
        refine lv_goto (tgt := 73) hx hb dL_isTurned_105 (by decide) ?_
        exact ih73 (k + 1) (upd f (nI k).toNatClampNeg (rX4_sector (oN S) 0 (nI k))) (upd h (nI k).toNatClampNeg (rX4_sector (oN S) 1 (nI k))) (by omega) (by omega) (arr_step (v := fun j => rX4_sector (oN S) 0 (nI j)) hf (by omega)) (arr_step (v := fun j => rX4_sector (oN S) 1 (nI j)) hh (by omega)) w H locs ls hw hP hD hS (lv_sub hl [0, 1, 2, 3, 4, 5, 6, 7, 8] rfl)
  exact hlp73 (12 + 1) 0 (fun _ => 0) (fun _ => 0) (by omega) (by omega) (fun j hj => absurd hj (by omega)) (fun j hj => absurd hj (by omega)) w H locs ls hw hP hD hS (lv_sub hl [0, 1, 2, 3, 4, 5, 6, 7, 8] rfl)
