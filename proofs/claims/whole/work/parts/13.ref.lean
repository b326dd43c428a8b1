def rX5_in (vv : Int64) (lo : Int64) (hi : Int64) : Int32 := if (lg_cmp vv lo) < 0 then (0) else (if 0 < (lg_cmp vv hi) then (0) else (1))
set_option maxHeartbeats 4000000 in
set_option maxRecDepth 100000 in
theorem c_X5_in (l : Launch) (D : va_G) (g : jk_G) (vv : Int64) (lo : Int64) (hi : Int64)  : jk_M l D g yX5_in wsX5_in 0 0 [.long vv, .long lo, .long hi] [] (some (.int (rX5_in vv lo hi))) [] := by
  refine jk_of (cc := cX5_in) (maxL := 6) (ret := (some .boolean)) (by decide +kernel) rfl (Nat.le_of_ble_eq_true rfl) ?_
  intro p e s m args below meth c hx hb hr hml hts hown hlocks hK hN A H locs hP hD hA hS ls hl
  have hown : s.vm.findClass RX5 = some m.cls := hown
  have hl : lv_has ls 6 [(0, .long vv), (2, .long lo), (4, .long hi)] := hl
  refine lv_lload_n hx hb dX5_in_0 rfl (lv_at hl 0 rfl) ?_
  refine lv_lload_n hx hb dX5_in_1 rfl (lv_at hl 1 rfl) ?_
  refine W.lcmp hx hb dX5_in_2 ?_
  refine lv_if_lt (tgt := 17) hx hb dX5_in_3 (by decide) (fun c1 => ?_) (fun c1 => ?_)
  · refine lv_iconst (v := 0) hx hb dX5_in_17 (by decide) ?_
    exact jk_zret hx hb hr rfl hlocks hP hS ((if_pos c1).trans (rfl)).symm rfl dX5_in_18
  · refine lv_lload_n hx hb dX5_in_6 rfl (lv_at hl 0 rfl) ?_
    refine lv_lload hx hb dX5_in_7 (lv_at hl 2 rfl) ?_
    refine W.lcmp hx hb dX5_in_9 ?_
    refine lv_if_gt (tgt := 17) hx hb dX5_in_10 (by decide) (fun c2 => ?_) (fun c2 => ?_)
    · refine lv_iconst (v := 0) hx hb dX5_in_17 (by decide) ?_
      exact jk_zret hx hb hr rfl hlocks hP hS ((if_neg c1).trans ((if_pos c2).trans (rfl))).symm rfl dX5_in_18
    · refine lv_iconst (v := 1) hx hb dX5_in_13 (by decide) ?_
      refine lv_goto (tgt := 18) hx hb dX5_in_14 (by decide) ?_
      exact jk_zret hx hb hr rfl hlocks hP hS ((if_neg c1).trans ((if_neg c2).trans (rfl))).symm rfl dX5_in_18

def rX5_isDisc (vd : Int32) : Int32 := if vd = 0 then (1) else (if vd = 1 then (1) else (0))
set_option maxHeartbeats 4000000 in
set_option maxRecDepth 100000 in
theorem c_X5_isDisc (l : Launch) (D : va_G) (g : jk_G) (vd : Int32)  : jk_M l D g yX5_isDisc wsX5_isDisc 0 0 [.int vd] [] (some (.int (rX5_isDisc vd))) [] := by
  refine jk_of (cc := cX5_isDisc) (maxL := 1) (ret := (some .boolean)) (by decide +kernel) rfl (Nat.le_of_ble_eq_true rfl) ?_
  intro p e s m args below meth c hx hb hr hml hts hown hlocks hK hN A H locs hP hD hA hS ls hl
  have hown : s.vm.findClass RX5 = some m.cls := hown
  have hl : lv_has ls 1 [(0, .int vd)] := hl
  refine lv_iload_n hx hb dX5_isDisc_0 rfl (lv_at hl 0 rfl) ?_
  refine lv_if_eq (tgt := 9) hx hb dX5_isDisc_1 (by decide) (fun c1 => ?_) (fun c1 => ?_)
  · refine lv_iconst (v := 1) hx hb dX5_isDisc_9 (by decide) ?_
    refine lv_goto (tgt := 14) hx hb dX5_isDisc_10 (by decide) ?_
    exact jk_zret hx hb hr rfl hlocks hP hS ((if_pos c1).trans (rfl)).symm rfl dX5_isDisc_14
  · refine lv_iload_n hx hb dX5_isDisc_4 rfl (lv_at hl 0 rfl) ?_
    refine lv_iconst (v := 1) hx hb dX5_isDisc_5 (by decide) ?_
    refine lv_icmp_ne (tgt := 13) hx hb dX5_isDisc_6 (by decide) (fun c2 => ?_) (fun c2 => ?_)
    · refine lv_iconst (v := 0) hx hb dX5_isDisc_13 (by decide) ?_
      exact jk_zret hx hb hr rfl hlocks hP hS ((if_neg c1).trans ((if_neg c2).trans (rfl))).symm rfl dX5_isDisc_14
    · refine lv_iconst (v := 1) hx hb dX5_isDisc_9 (by decide) ?_
      refine lv_goto (tgt := 14) hx hb dX5_isDisc_10 (by decide) ?_
      exact jk_zret hx hb hr rfl hlocks hP hS ((if_neg c1).trans ((if_pos c2).trans (rfl))).symm rfl dX5_isDisc_14

def rX5_cell (vd : Int32) (vq : Int32) : Int32 := (13 + (12 * vd)) + vq
set_option maxHeartbeats 4000000 in
set_option maxRecDepth 100000 in
theorem c_X5_cell (l : Launch) (D : va_G) (g : jk_G) (vd : Int32) (vq : Int32)  : jk_M l D g yX5_cell wsX5_cell 0 0 [.int vd, .int vq] [] (some (.int (rX5_cell vd vq))) [] := by
  refine jk_of (cc := cX5_cell) (maxL := 2) (ret := (some .int)) (by decide +kernel) rfl (Nat.le_of_ble_eq_true rfl) ?_
  intro p e s m args below meth c hx hb hr hml hts hown hlocks hK hN A H locs hP hD hA hS ls hl
  have hown : s.vm.findClass RX5 = some m.cls := hown
  have hl : lv_has ls 2 [(0, .int vd), (1, .int vq)] := hl
  refine lv_bipush (v := 13) hx hb dX5_cell_0 (by decide) ?_
  refine lv_bipush (v := 12) hx hb dX5_cell_2 (by decide) ?_
  refine lv_iload_n hx hb dX5_cell_4 rfl (lv_at hl 0 rfl) ?_
  refine lv_imul hx hb dX5_cell_5 ?_
  refine lv_iadd hx hb dX5_cell_6 ?_
  refine lv_iload_n hx hb dX5_cell_7 rfl (lv_at hl 1 rfl) ?_
  refine lv_iadd hx hb dX5_cell_8 ?_
  exact jk_iret hx hb hr hlocks hP hS (rfl).symm rfl dX5_cell_9

def rX5_cut (vv : Int32) (lo : Int32) (hi : Int32) : Int32 := if lo ≤ vv then (if vv ≤ hi then (vv) else (hi)) else (lo)
set_option maxHeartbeats 4000000 in
set_option maxRecDepth 100000 in
theorem c_X5_cut (l : Launch) (D : va_G) (g : jk_G) (vv : Int32) (lo : Int32) (hi : Int32)  : jk_M l D g yX5_cut wsX5_cut 0 0 [.int vv, .int lo, .int hi] [] (some (.int (rX5_cut vv lo hi))) [] := by
  refine jk_of (cc := cX5_cut) (maxL := 3) (ret := (some .int)) (by decide +kernel) rfl (Nat.le_of_ble_eq_true rfl) ?_
  intro p e s m args below meth c hx hb hr hml hts hown hlocks hK hN A H locs hP hD hA hS ls hl
  have hown : s.vm.findClass RX5 = some m.cls := hown
  have hl : lv_has ls 3 [(0, .int vv), (1, .int lo), (2, .int hi)] := hl
  refine lv_iload_n hx hb dX5_cut_0 rfl (lv_at hl 0 rfl) ?_
  refine lv_iload_n hx hb dX5_cut_1 rfl (lv_at hl 1 rfl) ?_
  refine lv_icmp_ge (tgt := 9) hx hb dX5_cut_2 (by decide) (fun c1 => ?_) (fun c1 => ?_)
  · refine lv_iload_n hx hb dX5_cut_9 rfl (lv_at hl 0 rfl) ?_
    refine lv_iload_n hx hb dX5_cut_10 rfl (lv_at hl 2 rfl) ?_
    refine lv_icmp_le (tgt := 18) hx hb dX5_cut_11 (by decide) (fun c2 => ?_) (fun c2 => ?_)
    · refine lv_iload_n hx hb dX5_cut_18 rfl (lv_at hl 0 rfl) ?_
      exact jk_iret hx hb hr hlocks hP hS ((if_pos c1).trans ((if_pos c2).trans (rfl))).symm rfl dX5_cut_19
    · refine lv_iload_n hx hb dX5_cut_14 rfl (lv_at hl 2 rfl) ?_
      refine lv_goto (tgt := 19) hx hb dX5_cut_15 (by decide) ?_
      exact jk_iret hx hb hr hlocks hP hS ((if_pos c1).trans ((if_neg c2).trans (rfl))).symm rfl dX5_cut_19
  · refine lv_iload_n hx hb dX5_cut_5 rfl (lv_at hl 1 rfl) ?_
    refine lv_goto (tgt := 19) hx hb dX5_cut_6 (by decide) ?_
    exact jk_iret hx hb hr hlocks hP hS ((if_neg c1).trans (rfl)).symm rfl dX5_cut_19

def rX5_isPlace (vq : Int32) : Int32 := let x1 : Int32 := rX5_in ((vq : Int32).toInt64) (0 : Int64) (11 : Int64); x1
set_option maxHeartbeats 4000000 in
set_option maxRecDepth 100000 in
theorem c_X5_isPlace (l : Launch) (D : va_G) (g : jk_G) (vq : Int32)  : jk_M l D g yX5_isPlace wsX5_isPlace 1 25 [.int vq] [] (some (.int (rX5_isPlace vq))) [] := by
  refine jk_of (cc := cX5_isPlace) (maxL := 1) (ret := (some .boolean)) (by decide +kernel) rfl (Nat.le_of_ble_eq_true rfl) ?_
  intro p e s m args below meth c hx hb hr hml hts hown hlocks hK hN A H locs hP hD hA hS ls hl
  have hown : s.vm.findClass RX5 = some m.cls := hown
  have hl : lv_has ls 1 [(0, .int vq)] := hl
  have hk_96 := hts (.constantLong RX5 96 11) (by decide +kernel)
  refine lv_iload_n hx hb dX5_isPlace_0 rfl (lv_at hl 0 rfl) ?_
  refine lv_i2l hx hb dX5_isPlace_1 rfl ?_
  refine lv_lconst (v := 0) hx hb dX5_isPlace_2 (by decide) ?_
  refine lv_ldc2 hx hb hown hk_96 dX5_isPlace_3 ?_
  refine jk_callS (As := [.long ((vq : Int32).toInt64), .long 0, .long 11]) (rest := []) (ws1 := []) ⟨hx, hb, hml, hown, hts⟩ (c_X5_in l D g ((vq : Int32).toInt64) (0 : Int64) (11 : Int64)) (va_cwS 3 hts gX5_isPlace_X5_in rfl rfl rfl (by decide +kernel) ⟨Nat.le_of_ble_eq_true rfl, Nat.le_of_ble_eq_true rfl⟩) jk_nilP (jk_nilD (A := A)) hK hN rfl hl rfl (Nat.le_of_ble_eq_true rfl) dX5_isPlace_6 ⟨Nat.zero_le _, Nat.zero_le _⟩ hS hA (fun _ _ hk => jk_keep hP hk) (fun H locs hP hS => ?_)
  refine W.eq (g2 := F0 m 9 ls [.int (rX5_in ((vq : Int32).toInt64) (0 : Int64) (11 : Int64))]) rfl ?_
  refine lv_topi (fun x1 ex1 => ?_)
  subst ex1
  exact jk_zret hx hb hr (by unfold rX5_in; repeat (first | rfl | split)) hlocks hP hS (rfl).symm rfl dX5_isPlace_9

def rX5_isSetting (M : jx_T) (vi : Int32) (vv : Int32) : Int32 := if vi = 0 then (let x2 : Int32 := rX5_in ((vv : Int32).toInt64) (0 : Int64) (32 : Int64); x2) else (if vi = 1 then (let x4 : Int32 := rX5_in ((vv : Int32).toInt64) (0 : Int64) (60 : Int64); x4) else (if vi = 2 then (let x6 : Int32 := rX5_in ((vv : Int32).toInt64) (1 : Int64) (200 : Int64); x6) else (if vi = 3 then (let x8 : Int32 := rX5_in ((vv : Int32).toInt64) (0 : Int64) (60 : Int64); x8) else (if vi = 4 then (let x10 : Int32 := rX5_in ((vv : Int32).toInt64) (100 : Int64) (2000 : Int64); x10) else (0)))))
set_option maxHeartbeats 4000000 in
set_option maxRecDepth 100000 in
theorem c_X5_isSetting (l : Launch) (D : va_G) (g : jk_G) (a : Nat → Nat) (M : jx_T) (vi : Int32) (vv : Int32)  : jk_M l D g yX5_isSetting wsX5_isSetting 1 25 [.ref (a 0), .int vi, .int vv] (jx_W g a M) (some (.int (rX5_isSetting M vi vv))) (jx_W g a M) := by
  refine jk_of (cc := cX5_isSetting) (maxL := 3) (ret := (some .boolean)) (by decide +kernel) rfl (Nat.le_of_ble_eq_true rfl) ?_
  intro p e s m args below meth c hx hb hr hml hts hown hlocks hK hN A H locs hP hD hA hS ls hl
  have hown : s.vm.findClass RX5 = some m.cls := hown
  have hl : lv_has ls 3 [(0, .ref (a 0)), (1, .int vi), (2, .int vv)] := hl
  have hk_73 := hts (.constantLong RX5 73 32) (by decide +kernel)
  have hk_79 := hts (.constantLong RX5 79 60) (by decide +kernel)
  have hk_81 := hts (.constantLong RX5 81 200) (by decide +kernel)
  have hk_83 := hts (.constantLong RX5 83 100) (by decide +kernel)
  have hk_85 := hts (.constantLong RX5 85 2000) (by decide +kernel)
  refine lv_iload_n hx hb dX5_isSetting_0 rfl (lv_at hl 1 rfl) ?_
  by_cases c1 : vi = 0
  · refine lv_tableIn (off := 35) (tgt := 36) hx hb dX5_isSetting_1 (by rw [c1]; decide) (by rw [c1]; decide) (by rw [c1]; rfl) (by decide) ?_
    refine lv_iload_n hx hb dX5_isSetting_36 rfl (lv_at hl 2 rfl) ?_
    refine lv_i2l hx hb dX5_isSetting_37 rfl ?_
    refine lv_lconst (v := 0) hx hb dX5_isSetting_38 (by decide) ?_
    refine lv_ldc2 hx hb hown hk_73 dX5_isSetting_39 ?_
    refine jk_callS (As := [.long ((vv : Int32).toInt64), .long 0, .long 32]) (rest := []) (ws1 := (jx_W g a M)) ⟨hx, hb, hml, hown, hts⟩ (c_X5_in l D g ((vv : Int32).toInt64) (0 : Int64) (32 : Int64)) (va_cwS 3 hts gX5_isSetting_X5_in rfl rfl rfl (by decide +kernel) ⟨Nat.le_of_ble_eq_true rfl, Nat.le_of_ble_eq_true rfl⟩) jk_nilP (jk_nilD (A := A)) hK hN rfl hl rfl (Nat.le_of_ble_eq_true rfl) dX5_isSetting_42 ⟨Nat.zero_le _, Nat.zero_le _⟩ hS hA (fun _ _ hk => jk_keep hP hk) (fun H locs hP hS => ?_)
    refine W.eq (g2 := F0 m 45 ls [.int (rX5_in ((vv : Int32).toInt64) (0 : Int64) (32 : Int64))]) rfl ?_
    refine lv_topi (fun x2 ex2 => ?_)
    subst ex2
    exact jk_zret hx hb hr (by unfold rX5_in; repeat (first | rfl | split)) hlocks hP hS ((if_pos c1).trans (rfl)).symm rfl dX5_isSetting_45
  · by_cases c3 : vi = 1
    · refine lv_tableIn (off := 45) (tgt := 46) hx hb dX5_isSetting_1 (by rw [c3]; decide) (by rw [c3]; decide) (by rw [c3]; rfl) (by decide) ?_
      refine lv_iload_n hx hb dX5_isSetting_46 rfl (lv_at hl 2 rfl) ?_
      refine lv_i2l hx hb dX5_isSetting_47 rfl ?_
      refine lv_lconst (v := 0) hx hb dX5_isSetting_48 (by decide) ?_
      refine lv_ldc2 hx hb hown hk_79 dX5_isSetting_49 ?_
      refine jk_callS (As := [.long ((vv : Int32).toInt64), .long 0, .long 60]) (rest := []) (ws1 := (jx_W g a M)) ⟨hx, hb, hml, hown, hts⟩ (c_X5_in l D g ((vv : Int32).toInt64) (0 : Int64) (60 : Int64)) (va_cwS 3 hts gX5_isSetting_X5_in rfl rfl rfl (by decide +kernel) ⟨Nat.le_of_ble_eq_true rfl, Nat.le_of_ble_eq_true rfl⟩) jk_nilP (jk_nilD (A := A)) hK hN rfl hl rfl (Nat.le_of_ble_eq_true rfl) dX5_isSetting_52 ⟨Nat.zero_le _, Nat.zero_le _⟩ hS hA (fun _ _ hk => jk_keep hP hk) (fun H locs hP hS => ?_)
      refine W.eq (g2 := F0 m 55 ls [.int (rX5_in ((vv : Int32).toInt64) (0 : Int64) (60 : Int64))]) rfl ?_
      refine lv_topi (fun x4 ex4 => ?_)
      subst ex4
      exact jk_zret hx hb hr (by unfold rX5_in; repeat (first | rfl | split)) hlocks hP hS ((if_neg c1).trans ((if_pos c3).trans (rfl))).symm rfl dX5_isSetting_55
    · by_cases c5 : vi = 2
      · refine lv_tableIn (off := 55) (tgt := 56) hx hb dX5_isSetting_1 (by rw [c5]; decide) (by rw [c5]; decide) (by rw [c5]; rfl) (by decide) ?_
        refine lv_iload_n hx hb dX5_isSetting_56 rfl (lv_at hl 2 rfl) ?_
        refine lv_i2l hx hb dX5_isSetting_57 rfl ?_
        refine lv_lconst (v := 1) hx hb dX5_isSetting_58 (by decide) ?_
        refine lv_ldc2 hx hb hown hk_81 dX5_isSetting_59 ?_
        refine jk_callS (As := [.long ((vv : Int32).toInt64), .long 1, .long 200]) (rest := []) (ws1 := (jx_W g a M)) ⟨hx, hb, hml, hown, hts⟩ (c_X5_in l D g ((vv : Int32).toInt64) (1 : Int64) (200 : Int64)) (va_cwS 3 hts gX5_isSetting_X5_in rfl rfl rfl (by decide +kernel) ⟨Nat.le_of_ble_eq_true rfl, Nat.le_of_ble_eq_true rfl⟩) jk_nilP (jk_nilD (A := A)) hK hN rfl hl rfl (Nat.le_of_ble_eq_true rfl) dX5_isSetting_62 ⟨Nat.zero_le _, Nat.zero_le _⟩ hS hA (fun _ _ hk => jk_keep hP hk) (fun H locs hP hS => ?_)
        refine W.eq (g2 := F0 m 65 ls [.int (rX5_in ((vv : Int32).toInt64) (1 : Int64) (200 : Int64))]) rfl ?_
        refine lv_topi (fun x6 ex6 => ?_)
        subst ex6
        exact jk_zret hx hb hr (by unfold rX5_in; repeat (first | rfl | split)) hlocks hP hS ((if_neg c1).trans ((if_neg c3).trans ((if_pos c5).trans (rfl)))).symm rfl dX5_isSetting_65
      · by_cases c7 : vi = 3
        · refine lv_tableIn (off := 45) (tgt := 46) hx hb dX5_isSetting_1 (by rw [c7]; decide) (by rw [c7]; decide) (by rw [c7]; rfl) (by decide) ?_
          refine lv_iload_n hx hb dX5_isSetting_46 rfl (lv_at hl 2 rfl) ?_
          refine lv_i2l hx hb dX5_isSetting_47 rfl ?_
          refine lv_lconst (v := 0) hx hb dX5_isSetting_48 (by decide) ?_
          refine lv_ldc2 hx hb hown hk_79 dX5_isSetting_49 ?_
          refine jk_callS (As := [.long ((vv : Int32).toInt64), .long 0, .long 60]) (rest := []) (ws1 := (jx_W g a M)) ⟨hx, hb, hml, hown, hts⟩ (c_X5_in l D g ((vv : Int32).toInt64) (0 : Int64) (60 : Int64)) (va_cwS 3 hts gX5_isSetting_X5_in rfl rfl rfl (by decide +kernel) ⟨Nat.le_of_ble_eq_true rfl, Nat.le_of_ble_eq_true rfl⟩) jk_nilP (jk_nilD (A := A)) hK hN rfl hl rfl (Nat.le_of_ble_eq_true rfl) dX5_isSetting_52 ⟨Nat.zero_le _, Nat.zero_le _⟩ hS hA (fun _ _ hk => jk_keep hP hk) (fun H locs hP hS => ?_)
          refine W.eq (g2 := F0 m 55 ls [.int (rX5_in ((vv : Int32).toInt64) (0 : Int64) (60 : Int64))]) rfl ?_
          refine lv_topi (fun x8 ex8 => ?_)
          subst ex8
          exact jk_zret hx hb hr (by unfold rX5_in; repeat (first | rfl | split)) hlocks hP hS ((if_neg c1).trans ((if_neg c3).trans ((if_neg c5).trans ((if_pos c7).trans (rfl))))).symm rfl dX5_isSetting_55
        · by_cases c9 : vi = 4
          · refine lv_tableIn (off := 65) (tgt := 66) hx hb dX5_isSetting_1 (by rw [c9]; decide) (by rw [c9]; decide) (by rw [c9]; rfl) (by decide) ?_
            refine lv_iload_n hx hb dX5_isSetting_66 rfl (lv_at hl 2 rfl) ?_
            refine lv_i2l hx hb dX5_isSetting_67 rfl ?_
            refine lv_ldc2 hx hb hown hk_83 dX5_isSetting_68 ?_
            refine lv_ldc2 hx hb hown hk_85 dX5_isSetting_71 ?_
            refine jk_callS (As := [.long ((vv : Int32).toInt64), .long 100, .long 2000]) (rest := []) (ws1 := (jx_W g a M)) ⟨hx, hb, hml, hown, hts⟩ (c_X5_in l D g ((vv : Int32).toInt64) (100 : Int64) (2000 : Int64)) (va_cwS 3 hts gX5_isSetting_X5_in rfl rfl rfl (by decide +kernel) ⟨Nat.le_of_ble_eq_true rfl, Nat.le_of_ble_eq_true rfl⟩) jk_nilP (jk_nilD (A := A)) hK hN rfl hl rfl (Nat.le_of_ble_eq_true rfl) dX5_isSetting_74 ⟨Nat.zero_le _, Nat.zero_le _⟩ hS hA (fun _ _ hk => jk_keep hP hk) (fun H locs hP hS => ?_)
            refine W.eq (g2 := F0 m 77 ls [.int (rX5_in ((vv : Int32).toInt64) (100 : Int64) (2000 : Int64))]) rfl ?_
            refine lv_topi (fun x10 ex10 => ?_)
            subst ex10
            exact jk_zret hx hb hr (by unfold rX5_in; repeat (first | rfl | split)) hlocks hP hS ((if_neg c1).trans ((if_neg c3).trans ((if_neg c5).trans ((if_neg c7).trans ((if_pos c9).trans (rfl)))))).symm rfl dX5_isSetting_77
          · refine lv_tableOut (tgt := 78) hx hb dX5_isSetting_1 (by have q0 := lv_neT (a := 0) c1 (by decide); have q1 := lv_neT (a := 1) c3 (by decide); have q2 := lv_neT (a := 2) c5 (by decide); have q3 := lv_neT (a := 3) c7 (by decide); have q4 := lv_neT (a := 4) c9 (by decide); omega) (by decide) ?_
            refine lv_iconst (v := 0) hx hb dX5_isSetting_78 (by decide) ?_
            exact jk_zret hx hb hr rfl hlocks hP hS ((if_neg c1).trans ((if_neg c3).trans ((if_neg c5).trans ((if_neg c7).trans ((if_neg c9).trans (rfl)))))).symm rfl dX5_isSetting_79

def sX5_keeps (M : jx_T) : jx_T := (jx_ukp M (lx_cp (jx_al M) (jx_kp M) 67))
set_option maxHeartbeats 4000000 in
set_option maxRecDepth 100000 in
theorem c_X5_keeps (l : Launch) (D : va_G) (g : jk_G) (a : Nat → Nat) (M : jx_T)  : jk_M l D g yX5_keeps wsX5_keeps 0 0 [.ref (a 0)] (jx_W g a M) none (jx_W g a (sX5_keeps M)) := by
  refine jk_of (cc := cX5_keeps) (maxL := 2) (ret := none) (by decide +kernel) rfl (Nat.le_of_ble_eq_true rfl) ?_
  intro p e s m args below meth c hx hb hr hml hts hown hlocks hK hN A H locs hP hD hA hS ls hl
  have hown : s.vm.findClass RX5 = some m.cls := hown
  have hl : lv_has ls 2 [(0, .ref (a 0))] := hl
  have hf_13 := hts (.fieldLink RX5 13 "InfluenceJarsModel" "kept" "[I") (by decide +kernel)
  have hi_5 : ∀ w ∈ u_ws RX5 TX5 13, w ∈ wsX5_keeps := by decide +kernel
  have hf_7 := hts (.fieldLink RX5 7 "InfluenceJarsModel" "all" "[I") (by decide +kernel)
  refine lv_iconst (v := 0) hx hb dX5_keeps_0 (by decide) ?_
  refine lv_istore_n (lv' := [(1, .int 0), (0, .ref (a 0))]) hx hb dX5_keeps_1 rfl hl (by decide) rfl (fun ls hl => ?_)
  have hlp : ∀ (n k : Nat), k ≤ 67 → 67 < k + n → ∀ (H : Heap) (locs : List Loc), va_P D vwCl (jx_W g a (jx_ukp M (lx_cp (jx_al M) (jx_kp M) k))) H → va_S A s.heap H locs → ∀ ls : Array Slot, lv_has ls 2 [(0, .ref (a 0)), (1, .int (nI k))] → W p l e ({ frames := 0, cells := 0, slots := 0, locals := 0 }) s m args below meth c H locs 0 0 (MQ below (jk_Q none D (jx_W g a (sX5_keeps M)) A) args s 0 0 A) (F0 m 2 ls []) := by
    intro n
    induction n with
    | zero => intro k  hk1 hk2; exact absurd hk2 (by omega)
    | succ n ih =>
      intro k  hk hkn  H locs hP hS ls hl
      have hD : va_D A (jx_W g a (jx_ukp M (lx_cp (jx_al M) (jx_kp M) k))) := jk_D.same hD rfl
      refine lv_iload_n hx hb dX5_keeps_2 rfl (lv_at hl 1 rfl) ?_
      refine lv_bipush (v := 67) hx hb dX5_keeps_3 (by decide) ?_
      refine lv_icmp_ge (tgt := 26) hx hb dX5_keeps_5 (by decide) (fun c1 => ?_) (fun c1 => ?_)
      · have hk9 : k = 67 := jk_ge (N := 67) (by decide) hk c1
        subst hk9
        exact jk_vret hx hb hr hlocks hP hS (congrArg (fun z => (jx_W g a z)) ((rfl).symm)) dX5_keeps_26
      · have hlt : k < 67 := jk_lt (N := 67) (by decide) hk c1
        refine lv_aload_n hx hb dX5_keeps_8 rfl (lv_at hl 0 rfl) ?_
        refine va_get (D := D) (ci := 5) (v := .ref (a 2)) (C := RX5) (T := TX5) (N := 13) hx hb hts hi_5 hown hK hP 0 rfl rfl 1 (by decide) hf_13 (fun _ h9 => h9) rfl dX5_keeps_9 ?_
        refine lv_iload_n hx hb dX5_keeps_12 rfl (lv_at hl 1 rfl) ?_
        refine lv_aload_n hx hb dX5_keeps_13 rfl (lv_at hl 0 rfl) ?_
        refine va_get (D := D) (ci := 5) (v := .ref (a 1)) (C := RX5) (T := TX5) (N := 13) hx hb hts hi_5 hown hK hP 0 rfl rfl 0 (by decide) hf_7 (fun _ h9 => h9) rfl dX5_keeps_14 ?_
        refine lv_iload_n hx hb dX5_keeps_17 rfl (lv_at hl 1 rfl) ?_
        refine va_iald (f := (jx_al M)) hx hb hK hP 1 0 rfl rfl (vp_in_nI (by omega) (by decide)) dX5_keeps_18 ?_
        refine lv_topi (fun x2 ex2 => ?_)
        refine va_iast (f := (lx_cp (jx_al M) (jx_kp M) k)) hx hb hK hP hD hS 2 0 rfl rfl (vp_in_nI (by omega) (by decide)) dX5_keeps_19 (fun H locs hP hD hS => ?_)
        obtain ⟨f3, ef3⟩ : ∃ z : Nat → Int32, z = (upd (lx_cp (jx_al M) (jx_kp M) k) (nI k).toNatClampNeg x2) := ⟨_, rfl⟩
        rw [← ef3] at hP hD
        have hP : va_P D vwCl (jx_W g a (jx_ukp M f3)) H := hP
        have hD : va_D A (jx_W g a (jx_ukp M f3)) := hD
        refine lv_iinc (v := nI (k + 1)) (lv' := [(1, .int (nI (k + 1))), (0, .ref (a 0))]) hx hb dX5_keeps_20 hl (k := 1) rfl (nI_1 _) (by decide) rfl (fun ls hl => ?_)
        refine lv_goto (tgt := 2) hx hb dX5_keeps_23 (by decide) ?_
        subst ef3
        subst ex2
        rw [lx_cp_s _ _ (by omega)] at hP
        exact ih (k + 1)  (by omega) (by omega)  H locs hP hS ls (lv_sub hl [1, 0] rfl)
  exact hlp (67 + 1) 0  (Nat.zero_le _) (by omega)  H locs (by rw [lx_cp_0]; exact hP) hS ls (lv_sub hl [1, 0] rfl)

def sX5_comesBack (M : jx_T) : jx_T := (jx_ual M (lx_cp (jx_kp M) (jx_al M) 67))
set_option maxHeartbeats 4000000 in
set_option maxRecDepth 100000 in
theorem c_X5_comesBack (l : Launch) (D : va_G) (g : jk_G) (a : Nat → Nat) (M : jx_T)  : jk_M l D g yX5_comesBack wsX5_comesBack 0 0 [.ref (a 0)] (jx_W g a M) none (jx_W g a (sX5_comesBack M)) := by
  refine jk_of (cc := cX5_comesBack) (maxL := 2) (ret := none) (by decide +kernel) rfl (Nat.le_of_ble_eq_true rfl) ?_
  intro p e s m args below meth c hx hb hr hml hts hown hlocks hK hN A H locs hP hD hA hS ls hl
  have hown : s.vm.findClass RX5 = some m.cls := hown
  have hl : lv_has ls 2 [(0, .ref (a 0))] := hl
  have hf_7 := hts (.fieldLink RX5 7 "InfluenceJarsModel" "all" "[I") (by decide +kernel)
  have hi_5 : ∀ w ∈ u_ws RX5 TX5 13, w ∈ wsX5_comesBack := by decide +kernel
  have hf_13 := hts (.fieldLink RX5 13 "InfluenceJarsModel" "kept" "[I") (by decide +kernel)
  refine lv_iconst (v := 0) hx hb dX5_comesBack_0 (by decide) ?_
  refine lv_istore_n (lv' := [(1, .int 0), (0, .ref (a 0))]) hx hb dX5_comesBack_1 rfl hl (by decide) rfl (fun ls hl => ?_)
  have hlp : ∀ (n k : Nat), k ≤ 67 → 67 < k + n → ∀ (H : Heap) (locs : List Loc), va_P D vwCl (jx_W g a (jx_ual M (lx_cp (jx_kp M) (jx_al M) k))) H → va_S A s.heap H locs → ∀ ls : Array Slot, lv_has ls 2 [(0, .ref (a 0)), (1, .int (nI k))] → W p l e ({ frames := 0, cells := 0, slots := 0, locals := 0 }) s m args below meth c H locs 0 0 (MQ below (jk_Q none D (jx_W g a (sX5_comesBack M)) A) args s 0 0 A) (F0 m 2 ls []) := by
    intro n
    induction n with
    | zero => intro k  hk1 hk2; exact absurd hk2 (by omega)
    | succ n ih =>
      intro k  hk hkn  H locs hP hS ls hl
      have hD : va_D A (jx_W g a (jx_ual M (lx_cp (jx_kp M) (jx_al M) k))) := jk_D.same hD rfl
      refine lv_iload_n hx hb dX5_comesBack_2 rfl (lv_at hl 1 rfl) ?_
      refine lv_bipush (v := 67) hx hb dX5_comesBack_3 (by decide) ?_
      refine lv_icmp_ge (tgt := 26) hx hb dX5_comesBack_5 (by decide) (fun c1 => ?_) (fun c1 => ?_)
      · have hk9 : k = 67 := jk_ge (N := 67) (by decide) hk c1
        subst hk9
        exact jk_vret hx hb hr hlocks hP hS (congrArg (fun z => (jx_W g a z)) ((rfl).symm)) dX5_comesBack_26
      · have hlt : k < 67 := jk_lt (N := 67) (by decide) hk c1
        refine lv_aload_n hx hb dX5_comesBack_8 rfl (lv_at hl 0 rfl) ?_
        refine va_get (D := D) (ci := 5) (v := .ref (a 1)) (C := RX5) (T := TX5) (N := 13) hx hb hts hi_5 hown hK hP 0 rfl rfl 0 (by decide) hf_7 (fun _ h9 => h9) rfl dX5_comesBack_9 ?_
        refine lv_iload_n hx hb dX5_comesBack_12 rfl (lv_at hl 1 rfl) ?_
        refine lv_aload_n hx hb dX5_comesBack_13 rfl (lv_at hl 0 rfl) ?_
        refine va_get (D := D) (ci := 5) (v := .ref (a 2)) (C := RX5) (T := TX5) (N := 13) hx hb hts hi_5 hown hK hP 0 rfl rfl 1 (by decide) hf_13 (fun _ h9 => h9) rfl dX5_comesBack_14 ?_
        refine lv_iload_n hx hb dX5_comesBack_17 rfl (lv_at hl 1 rfl) ?_
        refine va_iald (f := (jx_kp M)) hx hb hK hP 2 0 rfl rfl (vp_in_nI (by omega) (by decide)) dX5_comesBack_18 ?_
        refine lv_topi (fun x2 ex2 => ?_)
        refine va_iast (f := (lx_cp (jx_kp M) (jx_al M) k)) hx hb hK hP hD hS 1 0 rfl rfl (vp_in_nI (by omega) (by decide)) dX5_comesBack_19 (fun H locs hP hD hS => ?_)
        obtain ⟨f3, ef3⟩ : ∃ z : Nat → Int32, z = (upd (lx_cp (jx_kp M) (jx_al M) k) (nI k).toNatClampNeg x2) := ⟨_, rfl⟩
        rw [← ef3] at hP hD
        have hP : va_P D vwCl (jx_W g a (jx_ual M f3)) H := hP
        have hD : va_D A (jx_W g a (jx_ual M f3)) := hD
        refine lv_iinc (v := nI (k + 1)) (lv' := [(1, .int (nI (k + 1))), (0, .ref (a 0))]) hx hb dX5_comesBack_20 hl (k := 1) rfl (nI_1 _) (by decide) rfl (fun ls hl => ?_)
        refine lv_goto (tgt := 2) hx hb dX5_comesBack_23 (by decide) ?_
        subst ef3
        subst ex2
        rw [lx_cp_s _ _ (by omega)] at hP
        exact ih (k + 1)  (by omega) (by omega)  H locs hP hS ls (lv_sub hl [1, 0] rfl)
  exact hlp (67 + 1) 0  (Nat.zero_le _) (by omega)  H locs (by rw [lx_cp_0]; exact hP) hS ls (lv_sub hl [1, 0] rfl)

def sX5_discsTurn (M : jx_T) : jx_T := (jx_ual M (upd (upd (upd (upd (upd (upd (upd (upd (upd (upd (upd (upd (upd (upd (upd (upd (upd (upd (upd (upd (upd (upd (upd (upd (jx_al M) 24 ((jx_al M) 23)) 23 ((jx_al M) 22)) 22 ((jx_al M) 21)) 21 ((jx_al M) 20)) 20 ((jx_al M) 19)) 19 ((jx_al M) 18)) 18 ((jx_al M) 17)) 17 ((jx_al M) 16)) 16 ((jx_al M) 15)) 15 ((jx_al M) 14)) 14 ((jx_al M) 13)) 13 ((jx_al M) 24)) 25 ((jx_al M) 26)) 26 ((jx_al M) 27)) 27 ((jx_al M) 28)) 28 ((jx_al M) 29)) 29 ((jx_al M) 30)) 30 ((jx_al M) 31)) 31 ((jx_al M) 32)) 32 ((jx_al M) 33)) 33 ((jx_al M) 34)) 34 ((jx_al M) 35)) 35 ((jx_al M) 36)) 36 ((jx_al M) 25)))
set_option maxHeartbeats 4000000 in
set_option maxRecDepth 100000 in
theorem c_X5_discsTurn (l : Launch) (D : va_G) (g : jk_G) (a : Nat → Nat) (M : jx_T)  : jk_M l D g yX5_discsTurn wsX5_discsTurn 1 21 [.ref (a 0)] (jx_W g a M) none (jx_W g a (sX5_discsTurn M)) := by
  refine jk_of (cc := cX5_discsTurn) (maxL := 4) (ret := none) (by decide +kernel) rfl (Nat.le_of_ble_eq_true rfl) ?_
  intro p e s m args below meth c hx hb hr hml hts hown hlocks hK hN A H locs hP hD hA hS ls hl
  have hown : s.vm.findClass RX5 = some m.cls := hown
  have hl : lv_has ls 4 [(0, .ref (a 0))] := hl
  have hf_7 := hts (.fieldLink RX5 7 "InfluenceJarsModel" "all" "[I") (by decide +kernel)
  have hi_5 : ∀ w ∈ u_ws RX5 TX5 13, w ∈ wsX5_discsTurn := by decide +kernel
  refine lv_aload_n hx hb dX5_discsTurn_0 rfl (lv_at hl 0 rfl) ?_
  refine va_get (D := D) (ci := 5) (v := .ref (a 1)) (C := RX5) (T := TX5) (N := 13) hx hb hts hi_5 hown hK hP 0 rfl rfl 0 (by decide) hf_7 (fun _ h9 => h9) rfl dX5_discsTurn_1 ?_
  refine lv_iconst (v := 0) hx hb dX5_discsTurn_4 (by decide) ?_
  refine lv_bipush (v := 11) hx hb dX5_discsTurn_5 (by decide) ?_
  refine jk_callS (As := [.int 0, .int 11]) (rest := [.ref (a 1)]) (ws1 := (jx_W g a M)) ⟨hx, hb, hml, hown, hts⟩ (c_X5_cell l D g (0 : Int32) (11 : Int32)) (va_cwS 2 hts gX5_discsTurn_X5_cell rfl rfl rfl (by decide +kernel) ⟨Nat.le_of_ble_eq_true rfl, Nat.le_of_ble_eq_true rfl⟩) jk_nilP (jk_nilD (A := A)) hK hN rfl hl rfl (Nat.le_of_ble_eq_true rfl) dX5_discsTurn_7 ⟨Nat.zero_le _, Nat.zero_le _⟩ hS hA (fun _ _ hk => jk_keep hP hk) (fun H locs hP hS => ?_)
  refine W.eq (g2 := F0 m 10 ls [.int 24, .ref (a 1)]) rfl ?_
  refine va_iald (f := (jx_al M)) hx hb hK hP 1 0 rfl rfl (jk_inC (by decide +kernel)) dX5_discsTurn_10 ?_
  refine W.eq (g2 := F0 m 11 ls [.int ((jx_al M) 24)]) rfl ?_
  refine lv_istore_n (lv' := [(1, .int ((jx_al M) 24)), (0, .ref (a 0))]) hx hb dX5_discsTurn_11 rfl hl (by decide) rfl (fun ls hl => ?_)
  refine lv_bipush (v := 11) hx hb dX5_discsTurn_12 (by decide) ?_
  refine lv_istore_n (lv' := [(2, .int 11), (1, .int ((jx_al M) 24)), (0, .ref (a 0))]) hx hb dX5_discsTurn_14 rfl hl (by decide) rfl (fun ls hl => ?_)
  refine lv_iload_n hx hb dX5_discsTurn_15 rfl (lv_at hl 0 rfl) ?_
  refine lv_if_le (tgt := 47) hx hb dX5_discsTurn_16 (by decide) (fun c1 => ?_) (fun c1 => ?_)
  · exact absurd c1 (by decide)
  · refine lv_aload_n hx hb dX5_discsTurn_19 rfl (lv_at hl 2 rfl) ?_
    refine va_get (D := D) (ci := 5) (v := .ref (a 1)) (C := RX5) (T := TX5) (N := 13) hx hb hts hi_5 hown hK hP 0 rfl rfl 0 (by decide) hf_7 (fun _ h9 => h9) rfl dX5_discsTurn_20 ?_
    refine lv_iconst (v := 0) hx hb dX5_discsTurn_23 (by decide) ?_
    refine lv_iload_n hx hb dX5_discsTurn_24 rfl (lv_at hl 0 rfl) ?_
    refine jk_callS (As := [.int 0, .int 11]) (rest := [.ref (a 1)]) (ws1 := (jx_W g a M)) ⟨hx, hb, hml, hown, hts⟩ (c_X5_cell l D g (0 : Int32) (11 : Int32)) (va_cwS 2 hts gX5_discsTurn_X5_cell rfl rfl rfl (by decide +kernel) ⟨Nat.le_of_ble_eq_true rfl, Nat.le_of_ble_eq_true rfl⟩) jk_nilP (jk_nilD (A := A)) hK hN rfl hl rfl (Nat.le_of_ble_eq_true rfl) dX5_discsTurn_25 ⟨Nat.zero_le _, Nat.zero_le _⟩ hS hA (fun _ _ hk => jk_keep hP hk) (fun H locs hP hS => ?_)
    refine W.eq (g2 := F0 m 28 ls [.int 24, .ref (a 1)]) rfl ?_
    refine lv_aload_n hx hb dX5_discsTurn_28 rfl (lv_at hl 2 rfl) ?_
    refine va_get (D := D) (ci := 5) (v := .ref (a 1)) (C := RX5) (T := TX5) (N := 13) hx hb hts hi_5 hown hK hP 0 rfl rfl 0 (by decide) hf_7 (fun _ h9 => h9) rfl dX5_discsTurn_29 ?_
    refine lv_iconst (v := 0) hx hb dX5_discsTurn_32 (by decide) ?_
    refine lv_iload_n hx hb dX5_discsTurn_33 rfl (lv_at hl 0 rfl) ?_
    refine lv_iconst (v := 1) hx hb dX5_discsTurn_34 (by decide) ?_
    refine lv_isub hx hb dX5_discsTurn_35 ?_
    refine W.eq (g2 := F0 m 36 ls [.int 10, .int 0, .ref (a 1), .int 24, .ref (a 1)]) rfl ?_
    refine jk_callS (As := [.int 0, .int 10]) (rest := [.ref (a 1), .int 24, .ref (a 1)]) (ws1 := (jx_W g a M)) ⟨hx, hb, hml, hown, hts⟩ (c_X5_cell l D g (0 : Int32) (10 : Int32)) (va_cwS 2 hts gX5_discsTurn_X5_cell rfl rfl rfl (by decide +kernel) ⟨Nat.le_of_ble_eq_true rfl, Nat.le_of_ble_eq_true rfl⟩) jk_nilP (jk_nilD (A := A)) hK hN rfl hl rfl (Nat.le_of_ble_eq_true rfl) dX5_discsTurn_36 ⟨Nat.zero_le _, Nat.zero_le _⟩ hS hA (fun _ _ hk => jk_keep hP hk) (fun H locs hP hS => ?_)
    refine W.eq (g2 := F0 m 39 ls [.int 23, .ref (a 1), .int 24, .ref (a 1)]) rfl ?_
    refine va_iald (f := (jx_al M)) hx hb hK hP 1 0 rfl rfl (jk_inC (by decide +kernel)) dX5_discsTurn_39 ?_
    refine W.eq (g2 := F0 m 40 ls [.int ((jx_al M) 23), .int 24, .ref (a 1)]) rfl ?_
    refine va_iast (f := (jx_al M)) hx hb hK hP hD hS 1 0 rfl rfl (jk_inC (by decide +kernel)) dX5_discsTurn_40 (fun H locs hP hD hS => ?_)
    have hP : va_P D vwCl (jx_W g a (jx_ual M (upd (jx_al M) 24 ((jx_al M) 23)))) H := hP
    have hD : va_D A (jx_W g a (jx_ual M (upd (jx_al M) 24 ((jx_al M) 23)))) := hD
    refine lv_iinc (v := 10) (lv' := [(2, .int 10), (1, .int ((jx_al M) 24)), (0, .ref (a 0))]) hx hb dX5_discsTurn_41 hl (k := 0) rfl (by decide) (by decide) rfl (fun ls hl => ?_)
    refine lv_goto (tgt := 15) hx hb dX5_discsTurn_44 (by decide) ?_
    refine lv_iload_n hx hb dX5_discsTurn_15 rfl (lv_at hl 0 rfl) ?_
    refine lv_if_le (tgt := 47) hx hb dX5_discsTurn_16 (by decide) (fun c2 => ?_) (fun c2 => ?_)
    · exact absurd c2 (by decide)
    · refine lv_aload_n hx hb dX5_discsTurn_19 rfl (lv_at hl 2 rfl) ?_
      refine va_get (D := D) (ci := 5) (v := .ref (a 1)) (C := RX5) (T := TX5) (N := 13) hx hb hts hi_5 hown hK hP 0 rfl rfl 0 (by decide) hf_7 (fun _ h9 => h9) rfl dX5_discsTurn_20 ?_
      refine lv_iconst (v := 0) hx hb dX5_discsTurn_23 (by decide) ?_
      refine lv_iload_n hx hb dX5_discsTurn_24 rfl (lv_at hl 0 rfl) ?_
      refine jk_callS (As := [.int 0, .int 10]) (rest := [.ref (a 1)]) (ws1 := (jx_W g a (jx_ual M (upd (jx_al M) 24 ((jx_al M) 23))))) ⟨hx, hb, hml, hown, hts⟩ (c_X5_cell l D g (0 : Int32) (10 : Int32)) (va_cwS 2 hts gX5_discsTurn_X5_cell rfl rfl rfl (by decide +kernel) ⟨Nat.le_of_ble_eq_true rfl, Nat.le_of_ble_eq_true rfl⟩) jk_nilP (jk_nilD (A := A)) hK hN rfl hl rfl (Nat.le_of_ble_eq_true rfl) dX5_discsTurn_25 ⟨Nat.zero_le _, Nat.zero_le _⟩ hS hA (fun _ _ hk => jk_keep hP hk) (fun H locs hP hS => ?_)
      refine W.eq (g2 := F0 m 28 ls [.int 23, .ref (a 1)]) rfl ?_
      refine lv_aload_n hx hb dX5_discsTurn_28 rfl (lv_at hl 2 rfl) ?_
      refine va_get (D := D) (ci := 5) (v := .ref (a 1)) (C := RX5) (T := TX5) (N := 13) hx hb hts hi_5 hown hK hP 0 rfl rfl 0 (by decide) hf_7 (fun _ h9 => h9) rfl dX5_discsTurn_29 ?_
      refine lv_iconst (v := 0) hx hb dX5_discsTurn_32 (by decide) ?_
      refine lv_iload_n hx hb dX5_discsTurn_33 rfl (lv_at hl 0 rfl) ?_
      refine lv_iconst (v := 1) hx hb dX5_discsTurn_34 (by decide) ?_
      refine lv_isub hx hb dX5_discsTurn_35 ?_
      refine W.eq (g2 := F0 m 36 ls [.int 9, .int 0, .ref (a 1), .int 23, .ref (a 1)]) rfl ?_
      refine jk_callS (As := [.int 0, .int 9]) (rest := [.ref (a 1), .int 23, .ref (a 1)]) (ws1 := (jx_W g a (jx_ual M (upd (jx_al M) 24 ((jx_al M) 23))))) ⟨hx, hb, hml, hown, hts⟩ (c_X5_cell l D g (0 : Int32) (9 : Int32)) (va_cwS 2 hts gX5_discsTurn_X5_cell rfl rfl rfl (by decide +kernel) ⟨Nat.le_of_ble_eq_true rfl, Nat.le_of_ble_eq_true rfl⟩) jk_nilP (jk_nilD (A := A)) hK hN rfl hl rfl (Nat.le_of_ble_eq_true rfl) dX5_discsTurn_36 ⟨Nat.zero_le _, Nat.zero_le _⟩ hS hA (fun _ _ hk => jk_keep hP hk) (fun H locs hP hS => ?_)
      refine W.eq (g2 := F0 m 39 ls [.int 22, .ref (a 1), .int 23, .ref (a 1)]) rfl ?_
      refine va_iald (f := (upd (jx_al M) 24 ((jx_al M) 23))) hx hb hK hP 1 0 rfl rfl (jk_inC (by decide +kernel)) dX5_discsTurn_39 ?_
      refine W.eq (g2 := F0 m 40 ls [.int ((jx_al M) 22), .int 23, .ref (a 1)]) rfl ?_
      refine va_iast (f := (upd (jx_al M) 24 ((jx_al M) 23))) hx hb hK hP hD hS 1 0 rfl rfl (jk_inC (by decide +kernel)) dX5_discsTurn_40 (fun H locs hP hD hS => ?_)
      have hP : va_P D vwCl (jx_W g a (jx_ual M (upd (upd (jx_al M) 24 ((jx_al M) 23)) 23 ((jx_al M) 22)))) H := hP
      have hD : va_D A (jx_W g a (jx_ual M (upd (upd (jx_al M) 24 ((jx_al M) 23)) 23 ((jx_al M) 22)))) := hD
      refine lv_iinc (v := 9) (lv' := [(2, .int 9), (1, .int ((jx_al M) 24)), (0, .ref (a 0))]) hx hb dX5_discsTurn_41 hl (k := 0) rfl (by decide) (by decide) rfl (fun ls hl => ?_)
      refine lv_goto (tgt := 15) hx hb dX5_discsTurn_44 (by decide) ?_
      refine lv_iload_n hx hb dX5_discsTurn_15 rfl (lv_at hl 0 rfl) ?_
      refine lv_if_le (tgt := 47) hx hb dX5_discsTurn_16 (by decide) (fun c3 => ?_) (fun c3 => ?_)
      · exact absurd c3 (by decide)
      · refine lv_aload_n hx hb dX5_discsTurn_19 rfl (lv_at hl 2 rfl) ?_
        refine va_get (D := D) (ci := 5) (v := .ref (a 1)) (C := RX5) (T := TX5) (N := 13) hx hb hts hi_5 hown hK hP 0 rfl rfl 0 (by decide) hf_7 (fun _ h9 => h9) rfl dX5_discsTurn_20 ?_
        refine lv_iconst (v := 0) hx hb dX5_discsTurn_23 (by decide) ?_
        refine lv_iload_n hx hb dX5_discsTurn_24 rfl (lv_at hl 0 rfl) ?_
        refine jk_callS (As := [.int 0, .int 9]) (rest := [.ref (a 1)]) (ws1 := (jx_W g a (jx_ual M (upd (upd (jx_al M) 24 ((jx_al M) 23)) 23 ((jx_al M) 22))))) ⟨hx, hb, hml, hown, hts⟩ (c_X5_cell l D g (0 : Int32) (9 : Int32)) (va_cwS 2 hts gX5_discsTurn_X5_cell rfl rfl rfl (by decide +kernel) ⟨Nat.le_of_ble_eq_true rfl, Nat.le_of_ble_eq_true rfl⟩) jk_nilP (jk_nilD (A := A)) hK hN rfl hl rfl (Nat.le_of_ble_eq_true rfl) dX5_discsTurn_25 ⟨Nat.zero_le _, Nat.zero_le _⟩ hS hA (fun _ _ hk => jk_keep hP hk) (fun H locs hP hS => ?_)
        refine W.eq (g2 := F0 m 28 ls [.int 22, .ref (a 1)]) rfl ?_
        refine lv_aload_n hx hb dX5_discsTurn_28 rfl (lv_at hl 2 rfl) ?_
        refine va_get (D := D) (ci := 5) (v := .ref (a 1)) (C := RX5) (T := TX5) (N := 13) hx hb hts hi_5 hown hK hP 0 rfl rfl 0 (by decide) hf_7 (fun _ h9 => h9) rfl dX5_discsTurn_29 ?_
        refine lv_iconst (v := 0) hx hb dX5_discsTurn_32 (by decide) ?_
        refine lv_iload_n hx hb dX5_discsTurn_33 rfl (lv_at hl 0 rfl) ?_
        refine lv_iconst (v := 1) hx hb dX5_discsTurn_34 (by decide) ?_
        refine lv_isub hx hb dX5_discsTurn_35 ?_
        refine W.eq (g2 := F0 m 36 ls [.int 8, .int 0, .ref (a 1), .int 22, .ref (a 1)]) rfl ?_
        refine jk_callS (As := [.int 0, .int 8]) (rest := [.ref (a 1), .int 22, .ref (a 1)]) (ws1 := (jx_W g a (jx_ual M (upd (upd (jx_al M) 24 ((jx_al M) 23)) 23 ((jx_al M) 22))))) ⟨hx, hb, hml, hown, hts⟩ (c_X5_cell l D g (0 : Int32) (8 : Int32)) (va_cwS 2 hts gX5_discsTurn_X5_cell rfl rfl rfl (by decide +kernel) ⟨Nat.le_of_ble_eq_true rfl, Nat.le_of_ble_eq_true rfl⟩) jk_nilP (jk_nilD (A := A)) hK hN rfl hl rfl (Nat.le_of_ble_eq_true rfl) dX5_discsTurn_36 ⟨Nat.zero_le _, Nat.zero_le _⟩ hS hA (fun _ _ hk => jk_keep hP hk) (fun H locs hP hS => ?_)
        refine W.eq (g2 := F0 m 39 ls [.int 21, .ref (a 1), .int 22, .ref (a 1)]) rfl ?_
        refine va_iald (f := (upd (upd (jx_al M) 24 ((jx_al M) 23)) 23 ((jx_al M) 22))) hx hb hK hP 1 0 rfl rfl (jk_inC (by decide +kernel)) dX5_discsTurn_39 ?_
        refine W.eq (g2 := F0 m 40 ls [.int ((jx_al M) 21), .int 22, .ref (a 1)]) rfl ?_
        refine va_iast (f := (upd (upd (jx_al M) 24 ((jx_al M) 23)) 23 ((jx_al M) 22))) hx hb hK hP hD hS 1 0 rfl rfl (jk_inC (by decide +kernel)) dX5_discsTurn_40 (fun H locs hP hD hS => ?_)
        have hP : va_P D vwCl (jx_W g a (jx_ual M (upd (upd (upd (jx_al M) 24 ((jx_al M) 23)) 23 ((jx_al M) 22)) 22 ((jx_al M) 21)))) H := hP
        have hD : va_D A (jx_W g a (jx_ual M (upd (upd (upd (jx_al M) 24 ((jx_al M) 23)) 23 ((jx_al M) 22)) 22 ((jx_al M) 21)))) := hD
        refine lv_iinc (v := 8) (lv' := [(2, .int 8), (1, .int ((jx_al M) 24)), (0, .ref (a 0))]) hx hb dX5_discsTurn_41 hl (k := 0) rfl (by decide) (by decide) rfl (fun ls hl => ?_)
        refine lv_goto (tgt := 15) hx hb dX5_discsTurn_44 (by decide) ?_
        refine lv_iload_n hx hb dX5_discsTurn_15 rfl (lv_at hl 0 rfl) ?_
        refine lv_if_le (tgt := 47) hx hb dX5_discsTurn_16 (by decide) (fun c4 => ?_) (fun c4 => ?_)
        · exact absurd c4 (by decide)
        · refine lv_aload_n hx hb dX5_discsTurn_19 rfl (lv_at hl 2 rfl) ?_
          refine va_get (D := D) (ci := 5) (v := .ref (a 1)) (C := RX5) (T := TX5) (N := 13) hx hb hts hi_5 hown hK hP 0 rfl rfl 0 (by decide) hf_7 (fun _ h9 => h9) rfl dX5_discsTurn_20 ?_
          refine lv_iconst (v := 0) hx hb dX5_discsTurn_23 (by decide) ?_
          refine lv_iload_n hx hb dX5_discsTurn_24 rfl (lv_at hl 0 rfl) ?_
          refine jk_callS (As := [.int 0, .int 8]) (rest := [.ref (a 1)]) (ws1 := (jx_W g a (jx_ual M (upd (upd (upd (jx_al M) 24 ((jx_al M) 23)) 23 ((jx_al M) 22)) 22 ((jx_al M) 21))))) ⟨hx, hb, hml, hown, hts⟩ (c_X5_cell l D g (0 : Int32) (8 : Int32)) (va_cwS 2 hts gX5_discsTurn_X5_cell rfl rfl rfl (by decide +kernel) ⟨Nat.le_of_ble_eq_true rfl, Nat.le_of_ble_eq_true rfl⟩) jk_nilP (jk_nilD (A := A)) hK hN rfl hl rfl (Nat.le_of_ble_eq_true rfl) dX5_discsTurn_25 ⟨Nat.zero_le _, Nat.zero_le _⟩ hS hA (fun _ _ hk => jk_keep hP hk) (fun H locs hP hS => ?_)
          refine W.eq (g2 := F0 m 28 ls [.int 21, .ref (a 1)]) rfl ?_
          refine lv_aload_n hx hb dX5_discsTurn_28 rfl (lv_at hl 2 rfl) ?_
          refine va_get (D := D) (ci := 5) (v := .ref (a 1)) (C := RX5) (T := TX5) (N := 13) hx hb hts hi_5 hown hK hP 0 rfl rfl 0 (by decide) hf_7 (fun _ h9 => h9) rfl dX5_discsTurn_29 ?_
          refine lv_iconst (v := 0) hx hb dX5_discsTurn_32 (by decide) ?_
          refine lv_iload_n hx hb dX5_discsTurn_33 rfl (lv_at hl 0 rfl) ?_
          refine lv_iconst (v := 1) hx hb dX5_discsTurn_34 (by decide) ?_
          refine lv_isub hx hb dX5_discsTurn_35 ?_
          refine W.eq (g2 := F0 m 36 ls [.int 7, .int 0, .ref (a 1), .int 21, .ref (a 1)]) rfl ?_
          refine jk_callS (As := [.int 0, .int 7]) (rest := [.ref (a 1), .int 21, .ref (a 1)]) (ws1 := (jx_W g a (jx_ual M (upd (upd (upd (jx_al M) 24 ((jx_al M) 23)) 23 ((jx_al M) 22)) 22 ((jx_al M) 21))))) ⟨hx, hb, hml, hown, hts⟩ (c_X5_cell l D g (0 : Int32) (7 : Int32)) (va_cwS 2 hts gX5_discsTurn_X5_cell rfl rfl rfl (by decide +kernel) ⟨Nat.le_of_ble_eq_true rfl, Nat.le_of_ble_eq_true rfl⟩) jk_nilP (jk_nilD (A := A)) hK hN rfl hl rfl (Nat.le_of_ble_eq_true rfl) dX5_discsTurn_36 ⟨Nat.zero_le _, Nat.zero_le _⟩ hS hA (fun _ _ hk => jk_keep hP hk) (fun H locs hP hS => ?_)
          refine W.eq (g2 := F0 m 39 ls [.int 20, .ref (a 1), .int 21, .ref (a 1)]) rfl ?_
          refine va_iald (f := (upd (upd (upd (jx_al M) 24 ((jx_al M) 23)) 23 ((jx_al M) 22)) 22 ((jx_al M) 21))) hx hb hK hP 1 0 rfl rfl (jk_inC (by decide +kernel)) dX5_discsTurn_39 ?_
          refine W.eq (g2 := F0 m 40 ls [.int ((jx_al M) 20), .int 21, .ref (a 1)]) rfl ?_
          refine va_iast (f := (upd (upd (upd (jx_al M) 24 ((jx_al M) 23)) 23 ((jx_al M) 22)) 22 ((jx_al M) 21))) hx hb hK hP hD hS 1 0 rfl rfl (jk_inC (by decide +kernel)) dX5_discsTurn_40 (fun H locs hP hD hS => ?_)
          have hP : va_P D vwCl (jx_W g a (jx_ual M (upd (upd (upd (upd (jx_al M) 24 ((jx_al M) 23)) 23 ((jx_al M) 22)) 22 ((jx_al M) 21)) 21 ((jx_al M) 20)))) H := hP
          have hD : va_D A (jx_W g a (jx_ual M (upd (upd (upd (upd (jx_al M) 24 ((jx_al M) 23)) 23 ((jx_al M) 22)) 22 ((jx_al M) 21)) 21 ((jx_al M) 20)))) := hD
          refine lv_iinc (v := 7) (lv' := [(2, .int 7), (1, .int ((jx_al M) 24)), (0, .ref (a 0))]) hx hb dX5_discsTurn_41 hl (k := 0) rfl (by decide) (by decide) rfl (fun ls hl => ?_)
          refine lv_goto (tgt := 15) hx hb dX5_discsTurn_44 (by decide) ?_
          refine lv_iload_n hx hb dX5_discsTurn_15 rfl (lv_at hl 0 rfl) ?_
          refine lv_if_le (tgt := 47) hx hb dX5_discsTurn_16 (by decide) (fun c5 => ?_) (fun c5 => ?_)
          · exact absurd c5 (by decide)
          · refine lv_aload_n hx hb dX5_discsTurn_19 rfl (lv_at hl 2 rfl) ?_
            refine va_get (D := D) (ci := 5) (v := .ref (a 1)) (C := RX5) (T := TX5) (N := 13) hx hb hts hi_5 hown hK hP 0 rfl rfl 0 (by decide) hf_7 (fun _ h9 => h9) rfl dX5_discsTurn_20 ?_
            refine lv_iconst (v := 0) hx hb dX5_discsTurn_23 (by decide) ?_
            refine lv_iload_n hx hb dX5_discsTurn_24 rfl (lv_at hl 0 rfl) ?_
            refine jk_callS (As := [.int 0, .int 7]) (rest := [.ref (a 1)]) (ws1 := (jx_W g a (jx_ual M (upd (upd (upd (upd (jx_al M) 24 ((jx_al M) 23)) 23 ((jx_al M) 22)) 22 ((jx_al M) 21)) 21 ((jx_al M) 20))))) ⟨hx, hb, hml, hown, hts⟩ (c_X5_cell l D g (0 : Int32) (7 : Int32)) (va_cwS 2 hts gX5_discsTurn_X5_cell rfl rfl rfl (by decide +kernel) ⟨Nat.le_of_ble_eq_true rfl, Nat.le_of_ble_eq_true rfl⟩) jk_nilP (jk_nilD (A := A)) hK hN rfl hl rfl (Nat.le_of_ble_eq_true rfl) dX5_discsTurn_25 ⟨Nat.zero_le _, Nat.zero_le _⟩ hS hA (fun _ _ hk => jk_keep hP hk) (fun H locs hP hS => ?_)
            refine W.eq (g2 := F0 m 28 ls [.int 20, .ref (a 1)]) rfl ?_
            refine lv_aload_n hx hb dX5_discsTurn_28 rfl (lv_at hl 2 rfl) ?_
            refine va_get (D := D) (ci := 5) (v := .ref (a 1)) (C := RX5) (T := TX5) (N := 13) hx hb hts hi_5 hown hK hP 0 rfl rfl 0 (by decide) hf_7 (fun _ h9 => h9) rfl dX5_discsTurn_29 ?_
            refine lv_iconst (v := 0) hx hb dX5_discsTurn_32 (by decide) ?_
            refine lv_iload_n hx hb dX5_discsTurn_33 rfl (lv_at hl 0 rfl) ?_
            refine lv_iconst (v := 1) hx hb dX5_discsTurn_34 (by decide) ?_
            refine lv_isub hx hb dX5_discsTurn_35 ?_
            refine W.eq (g2 := F0 m 36 ls [.int 6, .int 0, .ref (a 1), .int 20, .ref (a 1)]) rfl ?_
            refine jk_callS (As := [.int 0, .int 6]) (rest := [.ref (a 1), .int 20, .ref (a 1)]) (ws1 := (jx_W g a (jx_ual M (upd (upd (upd (upd (jx_al M) 24 ((jx_al M) 23)) 23 ((jx_al M) 22)) 22 ((jx_al M) 21)) 21 ((jx_al M) 20))))) ⟨hx, hb, hml, hown, hts⟩ (c_X5_cell l D g (0 : Int32) (6 : Int32)) (va_cwS 2 hts gX5_discsTurn_X5_cell rfl rfl rfl (by decide +kernel) ⟨Nat.le_of_ble_eq_true rfl, Nat.le_of_ble_eq_true rfl⟩) jk_nilP (jk_nilD (A := A)) hK hN rfl hl rfl (Nat.le_of_ble_eq_true rfl) dX5_discsTurn_36 ⟨Nat.zero_le _, Nat.zero_le _⟩ hS hA (fun _ _ hk => jk_keep hP hk) (fun H locs hP hS => ?_)
            refine W.eq (g2 := F0 m 39 ls [.int 19, .ref (a 1), .int 20, .ref (a 1)]) rfl ?_
            refine va_iald (f := (upd (upd (upd (upd (jx_al M) 24 ((jx_al M) 23)) 23 ((jx_al M) 22)) 22 ((jx_al M) 21)) 21 ((jx_al M) 20))) hx hb hK hP 1 0 rfl rfl (jk_inC (by decide +kernel)) dX5_discsTurn_39 ?_
            refine W.eq (g2 := F0 m 40 ls [.int ((jx_al M) 19), .int 20, .ref (a 1)]) rfl ?_
            refine va_iast (f := (upd (upd (upd (upd (jx_al M) 24 ((jx_al M) 23)) 23 ((jx_al M) 22)) 22 ((jx_al M) 21)) 21 ((jx_al M) 20))) hx hb hK hP hD hS 1 0 rfl rfl (jk_inC (by decide +kernel)) dX5_discsTurn_40 (fun H locs hP hD hS => ?_)
            have hP : va_P D vwCl (jx_W g a (jx_ual M (upd (upd (upd (upd (upd (jx_al M) 24 ((jx_al M) 23)) 23 ((jx_al M) 22)) 22 ((jx_al M) 21)) 21 ((jx_al M) 20)) 20 ((jx_al M) 19)))) H := hP
            have hD : va_D A (jx_W g a (jx_ual M (upd (upd (upd (upd (upd (jx_al M) 24 ((jx_al M) 23)) 23 ((jx_al M) 22)) 22 ((jx_al M) 21)) 21 ((jx_al M) 20)) 20 ((jx_al M) 19)))) := hD
            refine lv_iinc (v := 6) (lv' := [(2, .int 6), (1, .int ((jx_al M) 24)), (0, .ref (a 0))]) hx hb dX5_discsTurn_41 hl (k := 0) rfl (by decide) (by decide) rfl (fun ls hl => ?_)
            refine lv_goto (tgt := 15) hx hb dX5_discsTurn_44 (by decide) ?_
            refine lv_iload_n hx hb dX5_discsTurn_15 rfl (lv_at hl 0 rfl) ?_
            refine lv_if_le (tgt := 47) hx hb dX5_discsTurn_16 (by decide) (fun c6 => ?_) (fun c6 => ?_)
            · exact absurd c6 (by decide)
            · refine lv_aload_n hx hb dX5_discsTurn_19 rfl (lv_at hl 2 rfl) ?_
              refine va_get (D := D) (ci := 5) (v := .ref (a 1)) (C := RX5) (T := TX5) (N := 13) hx hb hts hi_5 hown hK hP 0 rfl rfl 0 (by decide) hf_7 (fun _ h9 => h9) rfl dX5_discsTurn_20 ?_
              refine lv_iconst (v := 0) hx hb dX5_discsTurn_23 (by decide) ?_
              refine lv_iload_n hx hb dX5_discsTurn_24 rfl (lv_at hl 0 rfl) ?_
              refine jk_callS (As := [.int 0, .int 6]) (rest := [.ref (a 1)]) (ws1 := (jx_W g a (jx_ual M (upd (upd (upd (upd (upd (jx_al M) 24 ((jx_al M) 23)) 23 ((jx_al M) 22)) 22 ((jx_al M) 21)) 21 ((jx_al M) 20)) 20 ((jx_al M) 19))))) ⟨hx, hb, hml, hown, hts⟩ (c_X5_cell l D g (0 : Int32) (6 : Int32)) (va_cwS 2 hts gX5_discsTurn_X5_cell rfl rfl rfl (by decide +kernel) ⟨Nat.le_of_ble_eq_true rfl, Nat.le_of_ble_eq_true rfl⟩) jk_nilP (jk_nilD (A := A)) hK hN rfl hl rfl (Nat.le_of_ble_eq_true rfl) dX5_discsTurn_25 ⟨Nat.zero_le _, Nat.zero_le _⟩ hS hA (fun _ _ hk => jk_keep hP hk) (fun H locs hP hS => ?_)
              refine W.eq (g2 := F0 m 28 ls [.int 19, .ref (a 1)]) rfl ?_
              refine lv_aload_n hx hb dX5_discsTurn_28 rfl (lv_at hl 2 rfl) ?_
              refine va_get (D := D) (ci := 5) (v := .ref (a 1)) (C := RX5) (T := TX5) (N := 13) hx hb hts hi_5 hown hK hP 0 rfl rfl 0 (by decide) hf_7 (fun _ h9 => h9) rfl dX5_discsTurn_29 ?_
              refine lv_iconst (v := 0) hx hb dX5_discsTurn_32 (by decide) ?_
              refine lv_iload_n hx hb dX5_discsTurn_33 rfl (lv_at hl 0 rfl) ?_
              refine lv_iconst (v := 1) hx hb dX5_discsTurn_34 (by decide) ?_
              refine lv_isub hx hb dX5_discsTurn_35 ?_
              refine W.eq (g2 := F0 m 36 ls [.int 5, .int 0, .ref (a 1), .int 19, .ref (a 1)]) rfl ?_
              refine jk_callS (As := [.int 0, .int 5]) (rest := [.ref (a 1), .int 19, .ref (a 1)]) (ws1 := (jx_W g a (jx_ual M (upd (upd (upd (upd (upd (jx_al M) 24 ((jx_al M) 23)) 23 ((jx_al M) 22)) 22 ((jx_al M) 21)) 21 ((jx_al M) 20)) 20 ((jx_al M) 19))))) ⟨hx, hb, hml, hown, hts⟩ (c_X5_cell l D g (0 : Int32) (5 : Int32)) (va_cwS 2 hts gX5_discsTurn_X5_cell rfl rfl rfl (by decide +kernel) ⟨Nat.le_of_ble_eq_true rfl, Nat.le_of_ble_eq_true rfl⟩) jk_nilP (jk_nilD (A := A)) hK hN rfl hl rfl (Nat.le_of_ble_eq_true rfl) dX5_discsTurn_36 ⟨Nat.zero_le _, Nat.zero_le _⟩ hS hA (fun _ _ hk => jk_keep hP hk) (fun H locs hP hS => ?_)
              refine W.eq (g2 := F0 m 39 ls [.int 18, .ref (a 1), .int 19, .ref (a 1)]) rfl ?_
              refine va_iald (f := (upd (upd (upd (upd (upd (jx_al M) 24 ((jx_al M) 23)) 23 ((jx_al M) 22)) 22 ((jx_al M) 21)) 21 ((jx_al M) 20)) 20 ((jx_al M) 19))) hx hb hK hP 1 0 rfl rfl (jk_inC (by decide +kernel)) dX5_discsTurn_39 ?_
              refine W.eq (g2 := F0 m 40 ls [.int ((jx_al M) 18), .int 19, .ref (a 1)]) rfl ?_
              refine va_iast (f := (upd (upd (upd (upd (upd (jx_al M) 24 ((jx_al M) 23)) 23 ((jx_al M) 22)) 22 ((jx_al M) 21)) 21 ((jx_al M) 20)) 20 ((jx_al M) 19))) hx hb hK hP hD hS 1 0 rfl rfl (jk_inC (by decide +kernel)) dX5_discsTurn_40 (fun H locs hP hD hS => ?_)
              have hP : va_P D vwCl (jx_W g a (jx_ual M (upd (upd (upd (upd (upd (upd (jx_al M) 24 ((jx_al M) 23)) 23 ((jx_al M) 22)) 22 ((jx_al M) 21)) 21 ((jx_al M) 20)) 20 ((jx_al M) 19)) 19 ((jx_al M) 18)))) H := hP
              have hD : va_D A (jx_W g a (jx_ual M (upd (upd (upd (upd (upd (upd (jx_al M) 24 ((jx_al M) 23)) 23 ((jx_al M) 22)) 22 ((jx_al M) 21)) 21 ((jx_al M) 20)) 20 ((jx_al M) 19)) 19 ((jx_al M) 18)))) := hD
              refine lv_iinc (v := 5) (lv' := [(2, .int 5), (1, .int ((jx_al M) 24)), (0, .ref (a 0))]) hx hb dX5_discsTurn_41 hl (k := 0) rfl (by decide) (by decide) rfl (fun ls hl => ?_)
              refine lv_goto (tgt := 15) hx hb dX5_discsTurn_44 (by decide) ?_
              refine lv_iload_n hx hb dX5_discsTurn_15 rfl (lv_at hl 0 rfl) ?_
              refine lv_if_le (tgt := 47) hx hb dX5_discsTurn_16 (by decide) (fun c7 => ?_) (fun c7 => ?_)
              · exact absurd c7 (by decide)
              · refine lv_aload_n hx hb dX5_discsTurn_19 rfl (lv_at hl 2 rfl) ?_
                refine va_get (D := D) (ci := 5) (v := .ref (a 1)) (C := RX5) (T := TX5) (N := 13) hx hb hts hi_5 hown hK hP 0 rfl rfl 0 (by decide) hf_7 (fun _ h9 => h9) rfl dX5_discsTurn_20 ?_
                refine lv_iconst (v := 0) hx hb dX5_discsTurn_23 (by decide) ?_
                refine lv_iload_n hx hb dX5_discsTurn_24 rfl (lv_at hl 0 rfl) ?_
                refine jk_callS (As := [.int 0, .int 5]) (rest := [.ref (a 1)]) (ws1 := (jx_W g a (jx_ual M (upd (upd (upd (upd (upd (upd (jx_al M) 24 ((jx_al M) 23)) 23 ((jx_al M) 22)) 22 ((jx_al M) 21)) 21 ((jx_al M) 20)) 20 ((jx_al M) 19)) 19 ((jx_al M) 18))))) ⟨hx, hb, hml, hown, hts⟩ (c_X5_cell l D g (0 : Int32) (5 : Int32)) (va_cwS 2 hts gX5_discsTurn_X5_cell rfl rfl rfl (by decide +kernel) ⟨Nat.le_of_ble_eq_true rfl, Nat.le_of_ble_eq_true rfl⟩) jk_nilP (jk_nilD (A := A)) hK hN rfl hl rfl (Nat.le_of_ble_eq_true rfl) dX5_discsTurn_25 ⟨Nat.zero_le _, Nat.zero_le _⟩ hS hA (fun _ _ hk => jk_keep hP hk) (fun H locs hP hS => ?_)
                refine W.eq (g2 := F0 m 28 ls [.int 18, .ref (a 1)]) rfl ?_
                refine lv_aload_n hx hb dX5_discsTurn_28 rfl (lv_at hl 2 rfl) ?_
                refine va_get (D := D) (ci := 5) (v := .ref (a 1)) (C := RX5) (T := TX5) (N := 13) hx hb hts hi_5 hown hK hP 0 rfl rfl 0 (by decide) hf_7 (fun _ h9 => h9) rfl dX5_discsTurn_29 ?_
                refine lv_iconst (v := 0) hx hb dX5_discsTurn_32 (by decide) ?_
                refine lv_iload_n hx hb dX5_discsTurn_33 rfl (lv_at hl 0 rfl) ?_
                refine lv_iconst (v := 1) hx hb dX5_discsTurn_34 (by decide) ?_
                refine lv_isub hx hb dX5_discsTurn_35 ?_
                refine W.eq (g2 := F0 m 36 ls [.int 4, .int 0, .ref (a 1), .int 18, .ref (a 1)]) rfl ?_
                refine jk_callS (As := [.int 0, .int 4]) (rest := [.ref (a 1), .int 18, .ref (a 1)]) (ws1 := (jx_W g a (jx_ual M (upd (upd (upd (upd (upd (upd (jx_al M) 24 ((jx_al M) 23)) 23 ((jx_al M) 22)) 22 ((jx_al M) 21)) 21 ((jx_al M) 20)) 20 ((jx_al M) 19)) 19 ((jx_al M) 18))))) ⟨hx, hb, hml, hown, hts⟩ (c_X5_cell l D g (0 : Int32) (4 : Int32)) (va_cwS 2 hts gX5_discsTurn_X5_cell rfl rfl rfl (by decide +kernel) ⟨Nat.le_of_ble_eq_true rfl, Nat.le_of_ble_eq_true rfl⟩) jk_nilP (jk_nilD (A := A)) hK hN rfl hl rfl (Nat.le_of_ble_eq_true rfl) dX5_discsTurn_36 ⟨Nat.zero_le _, Nat.zero_le _⟩ hS hA (fun _ _ hk => jk_keep hP hk) (fun H locs hP hS => ?_)
                refine W.eq (g2 := F0 m 39 ls [.int 17, .ref (a 1), .int 18, .ref (a 1)]) rfl ?_
                refine va_iald (f := (upd (upd (upd (upd (upd (upd (jx_al M) 24 ((jx_al M) 23)) 23 ((jx_al M) 22)) 22 ((jx_al M) 21)) 21 ((jx_al M) 20)) 20 ((jx_al M) 19)) 19 ((jx_al M) 18))) hx hb hK hP 1 0 rfl rfl (jk_inC (by decide +kernel)) dX5_discsTurn_39 ?_
                refine W.eq (g2 := F0 m 40 ls [.int ((jx_al M) 17), .int 18, .ref (a 1)]) rfl ?_
                refine va_iast (f := (upd (upd (upd (upd (upd (upd (jx_al M) 24 ((jx_al M) 23)) 23 ((jx_al M) 22)) 22 ((jx_al M) 21)) 21 ((jx_al M) 20)) 20 ((jx_al M) 19)) 19 ((jx_al M) 18))) hx hb hK hP hD hS 1 0 rfl rfl (jk_inC (by decide +kernel)) dX5_discsTurn_40 (fun H locs hP hD hS => ?_)
                have hP : va_P D vwCl (jx_W g a (jx_ual M (upd (upd (upd (upd (upd (upd (upd (jx_al M) 24 ((jx_al M) 23)) 23 ((jx_al M) 22)) 22 ((jx_al M) 21)) 21 ((jx_al M) 20)) 20 ((jx_al M) 19)) 19 ((jx_al M) 18)) 18 ((jx_al M) 17)))) H := hP
                have hD : va_D A (jx_W g a (jx_ual M (upd (upd (upd (upd (upd (upd (upd (jx_al M) 24 ((jx_al M) 23)) 23 ((jx_al M) 22)) 22 ((jx_al M) 21)) 21 ((jx_al M) 20)) 20 ((jx_al M) 19)) 19 ((jx_al M) 18)) 18 ((jx_al M) 17)))) := hD
                refine lv_iinc (v := 4) (lv' := [(2, .int 4), (1, .int ((jx_al M) 24)), (0, .ref (a 0))]) hx hb dX5_discsTurn_41 hl (k := 0) rfl (by decide) (by decide) rfl (fun ls hl => ?_)
                refine lv_goto (tgt := 15) hx hb dX5_discsTurn_44 (by decide) ?_
                refine lv_iload_n hx hb dX5_discsTurn_15 rfl (lv_at hl 0 rfl) ?_
                refine lv_if_le (tgt := 47) hx hb dX5_discsTurn_16 (by decide) (fun c8 => ?_) (fun c8 => ?_)
                · exact absurd c8 (by decide)
                · refine lv_aload_n hx hb dX5_discsTurn_19 rfl (lv_at hl 2 rfl) ?_
                  refine va_get (D := D) (ci := 5) (v := .ref (a 1)) (C := RX5) (T := TX5) (N := 13) hx hb hts hi_5 hown hK hP 0 rfl rfl 0 (by decide) hf_7 (fun _ h9 => h9) rfl dX5_discsTurn_20 ?_
                  refine lv_iconst (v := 0) hx hb dX5_discsTurn_23 (by decide) ?_
                  refine lv_iload_n hx hb dX5_discsTurn_24 rfl (lv_at hl 0 rfl) ?_
                  refine jk_callS (As := [.int 0, .int 4]) (rest := [.ref (a 1)]) (ws1 := (jx_W g a (jx_ual M (upd (upd (upd (upd (upd (upd (upd (jx_al M) 24 ((jx_al M) 23)) 23 ((jx_al M) 22)) 22 ((jx_al M) 21)) 21 ((jx_al M) 20)) 20 ((jx_al M) 19)) 19 ((jx_al M) 18)) 18 ((jx_al M) 17))))) ⟨hx, hb, hml, hown, hts⟩ (c_X5_cell l D g (0 : Int32) (4 : Int32)) (va_cwS 2 hts gX5_discsTurn_X5_cell rfl rfl rfl (by decide +kernel) ⟨Nat.le_of_ble_eq_true rfl, Nat.le_of_ble_eq_true rfl⟩) jk_nilP (jk_nilD (A := A)) hK hN rfl hl rfl (Nat.le_of_ble_eq_true rfl) dX5_discsTurn_25 ⟨Nat.zero_le _, Nat.zero_le _⟩ hS hA (fun _ _ hk => jk_keep hP hk) (fun H locs hP hS => ?_)
                  refine W.eq (g2 := F0 m 28 ls [.int 17, .ref (a 1)]) rfl ?_
                  refine lv_aload_n hx hb dX5_discsTurn_28 rfl (lv_at hl 2 rfl) ?_
                  refine va_get (D := D) (ci := 5) (v := .ref (a 1)) (C := RX5) (T := TX5) (N := 13) hx hb hts hi_5 hown hK hP 0 rfl rfl 0 (by decide) hf_7 (fun _ h9 => h9) rfl dX5_discsTurn_29 ?_
                  refine lv_iconst (v := 0) hx hb dX5_discsTurn_32 (by decide) ?_
                  refine lv_iload_n hx hb dX5_discsTurn_33 rfl (lv_at hl 0 rfl) ?_
                  refine lv_iconst (v := 1) hx hb dX5_discsTurn_34 (by decide) ?_
                  refine lv_isub hx hb dX5_discsTurn_35 ?_
                  refine W.eq (g2 := F0 m 36 ls [.int 3, .int 0, .ref (a 1), .int 17, .ref (a 1)]) rfl ?_
                  refine jk_callS (As := [.int 0, .int 3]) (rest := [.ref (a 1), .int 17, .ref (a 1)]) (ws1 := (jx_W g a (jx_ual M (upd (upd (upd (upd (upd (upd (upd (jx_al M) 24 ((jx_al M) 23)) 23 ((jx_al M) 22)) 22 ((jx_al M) 21)) 21 ((jx_al M) 20)) 20 ((jx_al M) 19)) 19 ((jx_al M) 18)) 18 ((jx_al M) 17))))) ⟨hx, hb, hml, hown, hts⟩ (c_X5_cell l D g (0 : Int32) (3 : Int32)) (va_cwS 2 hts gX5_discsTurn_X5_cell rfl rfl rfl (by decide +kernel) ⟨Nat.le_of_ble_eq_true rfl, Nat.le_of_ble_eq_true rfl⟩) jk_nilP (jk_nilD (A := A)) hK hN rfl hl rfl (Nat.le_of_ble_eq_true rfl) dX5_discsTurn_36 ⟨Nat.zero_le _, Nat.zero_le _⟩ hS hA (fun _ _ hk => jk_keep hP hk) (fun H locs hP hS => ?_)
                  refine W.eq (g2 := F0 m 39 ls [.int 16, .ref (a 1), .int 17, .ref (a 1)]) rfl ?_
                  refine va_iald (f := (upd (upd (upd (upd (upd (upd (upd (jx_al M) 24 ((jx_al M) 23)) 23 ((jx_al M) 22)) 22 ((jx_al M) 21)) 21 ((jx_al M) 20)) 20 ((jx_al M) 19)) 19 ((jx_al M) 18)) 18 ((jx_al M) 17))) hx hb hK hP 1 0 rfl rfl (jk_inC (by decide +kernel)) dX5_discsTurn_39 ?_
                  refine W.eq (g2 := F0 m 40 ls [.int ((jx_al M) 16), .int 17, .ref (a 1)]) rfl ?_
                  refine va_iast (f := (upd (upd (upd (upd (upd (upd (upd (jx_al M) 24 ((jx_al M) 23)) 23 ((jx_al M) 22)) 22 ((jx_al M) 21)) 21 ((jx_al M) 20)) 20 ((jx_al M) 19)) 19 ((jx_al M) 18)) 18 ((jx_al M) 17))) hx hb hK hP hD hS 1 0 rfl rfl (jk_inC (by decide +kernel)) dX5_discsTurn_40 (fun H locs hP hD hS => ?_)
                  have hP : va_P D vwCl (jx_W g a (jx_ual M (upd (upd (upd (upd (upd (upd (upd (upd (jx_al M) 24 ((jx_al M) 23)) 23 ((jx_al M) 22)) 22 ((jx_al M) 21)) 21 ((jx_al M) 20)) 20 ((jx_al M) 19)) 19 ((jx_al M) 18)) 18 ((jx_al M) 17)) 17 ((jx_al M) 16)))) H := hP
                  have hD : va_D A (jx_W g a (jx_ual M (upd (upd (upd (upd (upd (upd (upd (upd (jx_al M) 24 ((jx_al M) 23)) 23 ((jx_al M) 22)) 22 ((jx_al M) 21)) 21 ((jx_al M) 20)) 20 ((jx_al M) 19)) 19 ((jx_al M) 18)) 18 ((jx_al M) 17)) 17 ((jx_al M) 16)))) := hD
                  refine lv_iinc (v := 3) (lv' := [(2, .int 3), (1, .int ((jx_al M) 24)), (0, .ref (a 0))]) hx hb dX5_discsTurn_41 hl (k := 0) rfl (by decide) (by decide) rfl (fun ls hl => ?_)
                  refine lv_goto (tgt := 15) hx hb dX5_discsTurn_44 (by decide) ?_
                  refine lv_iload_n hx hb dX5_discsTurn_15 rfl (lv_at hl 0 rfl) ?_
                  refine lv_if_le (tgt := 47) hx hb dX5_discsTurn_16 (by decide) (fun c9 => ?_) (fun c9 => ?_)
                  · exact absurd c9 (by decide)
                  · refine lv_aload_n hx hb dX5_discsTurn_19 rfl (lv_at hl 2 rfl) ?_
                    refine va_get (D := D) (ci := 5) (v := .ref (a 1)) (C := RX5) (T := TX5) (N := 13) hx hb hts hi_5 hown hK hP 0 rfl rfl 0 (by decide) hf_7 (fun _ h9 => h9) rfl dX5_discsTurn_20 ?_
                    refine lv_iconst (v := 0) hx hb dX5_discsTurn_23 (by decide) ?_
                    refine lv_iload_n hx hb dX5_discsTurn_24 rfl (lv_at hl 0 rfl) ?_
                    refine jk_callS (As := [.int 0, .int 3]) (rest := [.ref (a 1)]) (ws1 := (jx_W g a (jx_ual M (upd (upd (upd (upd (upd (upd (upd (upd (jx_al M) 24 ((jx_al M) 23)) 23 ((jx_al M) 22)) 22 ((jx_al M) 21)) 21 ((jx_al M) 20)) 20 ((jx_al M) 19)) 19 ((jx_al M) 18)) 18 ((jx_al M) 17)) 17 ((jx_al M) 16))))) ⟨hx, hb, hml, hown, hts⟩ (c_X5_cell l D g (0 : Int32) (3 : Int32)) (va_cwS 2 hts gX5_discsTurn_X5_cell rfl rfl rfl (by decide +kernel) ⟨Nat.le_of_ble_eq_true rfl, Nat.le_of_ble_eq_true rfl⟩) jk_nilP (jk_nilD (A := A)) hK hN rfl hl rfl (Nat.le_of_ble_eq_true rfl) dX5_discsTurn_25 ⟨Nat.zero_le _, Nat.zero_le _⟩ hS hA (fun _ _ hk => jk_keep hP hk) (fun H locs hP hS => ?_)
                    refine W.eq (g2 := F0 m 28 ls [.int 16, .ref (a 1)]) rfl ?_
                    refine lv_aload_n hx hb dX5_discsTurn_28 rfl (lv_at hl 2 rfl) ?_
                    refine va_get (D := D) (ci := 5) (v := .ref (a 1)) (C := RX5) (T := TX5) (N := 13) hx hb hts hi_5 hown hK hP 0 rfl rfl 0 (by decide) hf_7 (fun _ h9 => h9) rfl dX5_discsTurn_29 ?_
                    refine lv_iconst (v := 0) hx hb dX5_discsTurn_32 (by decide) ?_
                    refine lv_iload_n hx hb dX5_discsTurn_33 rfl (lv_at hl 0 rfl) ?_
                    refine lv_iconst (v := 1) hx hb dX5_discsTurn_34 (by decide) ?_
                    refine lv_isub hx hb dX5_discsTurn_35 ?_
                    refine W.eq (g2 := F0 m 36 ls [.int 2, .int 0, .ref (a 1), .int 16, .ref (a 1)]) rfl ?_
                    refine jk_callS (As := [.int 0, .int 2]) (rest := [.ref (a 1), .int 16, .ref (a 1)]) (ws1 := (jx_W g a (jx_ual M (upd (upd (upd (upd (upd (upd (upd (upd (jx_al M) 24 ((jx_al M) 23)) 23 ((jx_al M) 22)) 22 ((jx_al M) 21)) 21 ((jx_al M) 20)) 20 ((jx_al M) 19)) 19 ((jx_al M) 18)) 18 ((jx_al M) 17)) 17 ((jx_al M) 16))))) ⟨hx, hb, hml, hown, hts⟩ (c_X5_cell l D g (0 : Int32) (2 : Int32)) (va_cwS 2 hts gX5_discsTurn_X5_cell rfl rfl rfl (by decide +kernel) ⟨Nat.le_of_ble_eq_true rfl, Nat.le_of_ble_eq_true rfl⟩) jk_nilP (jk_nilD (A := A)) hK hN rfl hl rfl (Nat.le_of_ble_eq_true rfl) dX5_discsTurn_36 ⟨Nat.zero_le _, Nat.zero_le _⟩ hS hA (fun _ _ hk => jk_keep hP hk) (fun H locs hP hS => ?_)
                    refine W.eq (g2 := F0 m 39 ls [.int 15, .ref (a 1), .int 16, .ref (a 1)]) rfl ?_
                    refine va_iald (f := (upd (upd (upd (upd (upd (upd (upd (upd (jx_al M) 24 ((jx_al M) 23)) 23 ((jx_al M) 22)) 22 ((jx_al M) 21)) 21 ((jx_al M) 20)) 20 ((jx_al M) 19)) 19 ((jx_al M) 18)) 18 ((jx_al M) 17)) 17 ((jx_al M) 16))) hx hb hK hP 1 0 rfl rfl (jk_inC (by decide +kernel)) dX5_discsTurn_39 ?_
                    refine W.eq (g2 := F0 m 40 ls [.int ((jx_al M) 15), .int 16, .ref (a 1)]) rfl ?_
                    refine va_iast (f := (upd (upd (upd (upd (upd (upd (upd (upd (jx_al M) 24 ((jx_al M) 23)) 23 ((jx_al M) 22)) 22 ((jx_al M) 21)) 21 ((jx_al M) 20)) 20 ((jx_al M) 19)) 19 ((jx_al M) 18)) 18 ((jx_al M) 17)) 17 ((jx_al M) 16))) hx hb hK hP hD hS 1 0 rfl rfl (jk_inC (by decide +kernel)) dX5_discsTurn_40 (fun H locs hP hD hS => ?_)
                    have hP : va_P D vwCl (jx_W g a (jx_ual M (upd (upd (upd (upd (upd (upd (upd (upd (upd (jx_al M) 24 ((jx_al M) 23)) 23 ((jx_al M) 22)) 22 ((jx_al M) 21)) 21 ((jx_al M) 20)) 20 ((jx_al M) 19)) 19 ((jx_al M) 18)) 18 ((jx_al M) 17)) 17 ((jx_al M) 16)) 16 ((jx_al M) 15)))) H := hP
                    have hD : va_D A (jx_W g a (jx_ual M (upd (upd (upd (upd (upd (upd (upd (upd (upd (jx_al M) 24 ((jx_al M) 23)) 23 ((jx_al M) 22)) 22 ((jx_al M) 21)) 21 ((jx_al M) 20)) 20 ((jx_al M) 19)) 19 ((jx_al M) 18)) 18 ((jx_al M) 17)) 17 ((jx_al M) 16)) 16 ((jx_al M) 15)))) := hD
                    refine lv_iinc (v := 2) (lv' := [(2, .int 2), (1, .int ((jx_al M) 24)), (0, .ref (a 0))]) hx hb dX5_discsTurn_41 hl (k := 0) rfl (by decide) (by decide) rfl (fun ls hl => ?_)
                    refine lv_goto (tgt := 15) hx hb dX5_discsTurn_44 (by decide) ?_
                    refine lv_iload_n hx hb dX5_discsTurn_15 rfl (lv_at hl 0 rfl) ?_
                    refine lv_if_le (tgt := 47) hx hb dX5_discsTurn_16 (by decide) (fun c10 => ?_) (fun c10 => ?_)
                    · exact absurd c10 (by decide)
                    · refine lv_aload_n hx hb dX5_discsTurn_19 rfl (lv_at hl 2 rfl) ?_
                      refine va_get (D := D) (ci := 5) (v := .ref (a 1)) (C := RX5) (T := TX5) (N := 13) hx hb hts hi_5 hown hK hP 0 rfl rfl 0 (by decide) hf_7 (fun _ h9 => h9) rfl dX5_discsTurn_20 ?_
                      refine lv_iconst (v := 0) hx hb dX5_discsTurn_23 (by decide) ?_
                      refine lv_iload_n hx hb dX5_discsTurn_24 rfl (lv_at hl 0 rfl) ?_
                      refine jk_callS (As := [.int 0, .int 2]) (rest := [.ref (a 1)]) (ws1 := (jx_W g a (jx_ual M (upd (upd (upd (upd (upd (upd (upd (upd (upd (jx_al M) 24 ((jx_al M) 23)) 23 ((jx_al M) 22)) 22 ((jx_al M) 21)) 21 ((jx_al M) 20)) 20 ((jx_al M) 19)) 19 ((jx_al M) 18)) 18 ((jx_al M) 17)) 17 ((jx_al M) 16)) 16 ((jx_al M) 15))))) ⟨hx, hb, hml, hown, hts⟩ (c_X5_cell l D g (0 : Int32) (2 : Int32)) (va_cwS 2 hts gX5_discsTurn_X5_cell rfl rfl rfl (by decide +kernel) ⟨Nat.le_of_ble_eq_true rfl, Nat.le_of_ble_eq_true rfl⟩) jk_nilP (jk_nilD (A := A)) hK hN rfl hl rfl (Nat.le_of_ble_eq_true rfl) dX5_discsTurn_25 ⟨Nat.zero_le _, Nat.zero_le _⟩ hS hA (fun _ _ hk => jk_keep hP hk) (fun H locs hP hS => ?_)
                      refine W.eq (g2 := F0 m 28 ls [.int 15, .ref (a 1)]) rfl ?_
                      refine lv_aload_n hx hb dX5_discsTurn_28 rfl (lv_at hl 2 rfl) ?_
                      refine va_get (D := D) (ci := 5) (v := .ref (a 1)) (C := RX5) (T := TX5) (N := 13) hx hb hts hi_5 hown hK hP 0 rfl rfl 0 (by decide) hf_7 (fun _ h9 => h9) rfl dX5_discsTurn_29 ?_
                      refine lv_iconst (v := 0) hx hb dX5_discsTurn_32 (by decide) ?_
                      refine lv_iload_n hx hb dX5_discsTurn_33 rfl (lv_at hl 0 rfl) ?_
                      refine lv_iconst (v := 1) hx hb dX5_discsTurn_34 (by decide) ?_
                      refine lv_isub hx hb dX5_discsTurn_35 ?_
                      refine W.eq (g2 := F0 m 36 ls [.int 1, .int 0, .ref (a 1), .int 15, .ref (a 1)]) rfl ?_
                      refine jk_callS (As := [.int 0, .int 1]) (rest := [.ref (a 1), .int 15, .ref (a 1)]) (ws1 := (jx_W g a (jx_ual M (upd (upd (upd (upd (upd (upd (upd (upd (upd (jx_al M) 24 ((jx_al M) 23)) 23 ((jx_al M) 22)) 22 ((jx_al M) 21)) 21 ((jx_al M) 20)) 20 ((jx_al M) 19)) 19 ((jx_al M) 18)) 18 ((jx_al M) 17)) 17 ((jx_al M) 16)) 16 ((jx_al M) 15))))) ⟨hx, hb, hml, hown, hts⟩ (c_X5_cell l D g (0 : Int32) (1 : Int32)) (va_cwS 2 hts gX5_discsTurn_X5_cell rfl rfl rfl (by decide +kernel) ⟨Nat.le_of_ble_eq_true rfl, Nat.le_of_ble_eq_true rfl⟩) jk_nilP (jk_nilD (A := A)) hK hN rfl hl rfl (Nat.le_of_ble_eq_true rfl) dX5_discsTurn_36 ⟨Nat.zero_le _, Nat.zero_le _⟩ hS hA (fun _ _ hk => jk_keep hP hk) (fun H locs hP hS => ?_)
                      refine W.eq (g2 := F0 m 39 ls [.int 14, .ref (a 1), .int 15, .ref (a 1)]) rfl ?_
                      refine va_iald (f := (upd (upd (upd (upd (upd (upd (upd (upd (upd (jx_al M) 24 ((jx_al M) 23)) 23 ((jx_al M) 22)) 22 ((jx_al M) 21)) 21 ((jx_al M) 20)) 20 ((jx_al M) 19)) 19 ((jx_al M) 18)) 18 ((jx_al M) 17)) 17 ((jx_al M) 16)) 16 ((jx_al M) 15))) hx hb hK hP 1 0 rfl rfl (jk_inC (by decide +kernel)) dX5_discsTurn_39 ?_
                      refine W.eq (g2 := F0 m 40 ls [.int ((jx_al M) 14), .int 15, .ref (a 1)]) rfl ?_
                      refine va_iast (f := (upd (upd (upd (upd (upd (upd (upd (upd (upd (jx_al M) 24 ((jx_al M) 23)) 23 ((jx_al M) 22)) 22 ((jx_al M) 21)) 21 ((jx_al M) 20)) 20 ((jx_al M) 19)) 19 ((jx_al M) 18)) 18 ((jx_al M) 17)) 17 ((jx_al M) 16)) 16 ((jx_al M) 15))) hx hb hK hP hD hS 1 0 rfl rfl (jk_inC (by decide +kernel)) dX5_discsTurn_40 (fun H locs hP hD hS => ?_)
                      have hP : va_P D vwCl (jx_W g a (jx_ual M (upd (upd (upd (upd (upd (upd (upd (upd (upd (upd (jx_al M) 24 ((jx_al M) 23)) 23 ((jx_al M) 22)) 22 ((jx_al M) 21)) 21 ((jx_al M) 20)) 20 ((jx_al M) 19)) 19 ((jx_al M) 18)) 18 ((jx_al M) 17)) 17 ((jx_al M) 16)) 16 ((jx_al M) 15)) 15 ((jx_al M) 14)))) H := hP
                      have hD : va_D A (jx_W g a (jx_ual M (upd (upd (upd (upd (upd (upd (upd (upd (upd (upd (jx_al M) 24 ((jx_al M) 23)) 23 ((jx_al M) 22)) 22 ((jx_al M) 21)) 21 ((jx_al M) 20)) 20 ((jx_al M) 19)) 19 ((jx_al M) 18)) 18 ((jx_al M) 17)) 17 ((jx_al M) 16)) 16 ((jx_al M) 15)) 15 ((jx_al M) 14)))) := hD
                      refine lv_iinc (v := 1) (lv' := [(2, .int 1), (1, .int ((jx_al M) 24)), (0, .ref (a 0))]) hx hb dX5_discsTurn_41 hl (k := 0) rfl (by decide) (by decide) rfl (fun ls hl => ?_)
                      refine lv_goto (tgt := 15) hx hb dX5_discsTurn_44 (by decide) ?_
                      refine lv_iload_n hx hb dX5_discsTurn_15 rfl (lv_at hl 0 rfl) ?_
                      refine lv_if_le (tgt := 47) hx hb dX5_discsTurn_16 (by decide) (fun c11 => ?_) (fun c11 => ?_)
                      · exact absurd c11 (by decide)
                      · refine lv_aload_n hx hb dX5_discsTurn_19 rfl (lv_at hl 2 rfl) ?_
                        refine va_get (D := D) (ci := 5) (v := .ref (a 1)) (C := RX5) (T := TX5) (N := 13) hx hb hts hi_5 hown hK hP 0 rfl rfl 0 (by decide) hf_7 (fun _ h9 => h9) rfl dX5_discsTurn_20 ?_
                        refine lv_iconst (v := 0) hx hb dX5_discsTurn_23 (by decide) ?_
                        refine lv_iload_n hx hb dX5_discsTurn_24 rfl (lv_at hl 0 rfl) ?_
                        refine jk_callS (As := [.int 0, .int 1]) (rest := [.ref (a 1)]) (ws1 := (jx_W g a (jx_ual M (upd (upd (upd (upd (upd (upd (upd (upd (upd (upd (jx_al M) 24 ((jx_al M) 23)) 23 ((jx_al M) 22)) 22 ((jx_al M) 21)) 21 ((jx_al M) 20)) 20 ((jx_al M) 19)) 19 ((jx_al M) 18)) 18 ((jx_al M) 17)) 17 ((jx_al M) 16)) 16 ((jx_al M) 15)) 15 ((jx_al M) 14))))) ⟨hx, hb, hml, hown, hts⟩ (c_X5_cell l D g (0 : Int32) (1 : Int32)) (va_cwS 2 hts gX5_discsTurn_X5_cell rfl rfl rfl (by decide +kernel) ⟨Nat.le_of_ble_eq_true rfl, Nat.le_of_ble_eq_true rfl⟩) jk_nilP (jk_nilD (A := A)) hK hN rfl hl rfl (Nat.le_of_ble_eq_true rfl) dX5_discsTurn_25 ⟨Nat.zero_le _, Nat.zero_le _⟩ hS hA (fun _ _ hk => jk_keep hP hk) (fun H locs hP hS => ?_)
                        refine W.eq (g2 := F0 m 28 ls [.int 14, .ref (a 1)]) rfl ?_
                        refine lv_aload_n hx hb dX5_discsTurn_28 rfl (lv_at hl 2 rfl) ?_
                        refine va_get (D := D) (ci := 5) (v := .ref (a 1)) (C := RX5) (T := TX5) (N := 13) hx hb hts hi_5 hown hK hP 0 rfl rfl 0 (by decide) hf_7 (fun _ h9 => h9) rfl dX5_discsTurn_29 ?_
                        refine lv_iconst (v := 0) hx hb dX5_discsTurn_32 (by decide) ?_
                        refine lv_iload_n hx hb dX5_discsTurn_33 rfl (lv_at hl 0 rfl) ?_
                        refine lv_iconst (v := 1) hx hb dX5_discsTurn_34 (by decide) ?_
                        refine lv_isub hx hb dX5_discsTurn_35 ?_
                        refine W.eq (g2 := F0 m 36 ls [.int 0, .int 0, .ref (a 1), .int 14, .ref (a 1)]) rfl ?_
                        refine jk_callS (As := [.int 0, .int 0]) (rest := [.ref (a 1), .int 14, .ref (a 1)]) (ws1 := (jx_W g a (jx_ual M (upd (upd (upd (upd (upd (upd (upd (upd (upd (upd (jx_al M) 24 ((jx_al M) 23)) 23 ((jx_al M) 22)) 22 ((jx_al M) 21)) 21 ((jx_al M) 20)) 20 ((jx_al M) 19)) 19 ((jx_al M) 18)) 18 ((jx_al M) 17)) 17 ((jx_al M) 16)) 16 ((jx_al M) 15)) 15 ((jx_al M) 14))))) ⟨hx, hb, hml, hown, hts⟩ (c_X5_cell l D g (0 : Int32) (0 : Int32)) (va_cwS 2 hts gX5_discsTurn_X5_cell rfl rfl rfl (by decide +kernel) ⟨Nat.le_of_ble_eq_true rfl, Nat.le_of_ble_eq_true rfl⟩) jk_nilP (jk_nilD (A := A)) hK hN rfl hl rfl (Nat.le_of_ble_eq_true rfl) dX5_discsTurn_36 ⟨Nat.zero_le _, Nat.zero_le _⟩ hS hA (fun _ _ hk => jk_keep hP hk) (fun H locs hP hS => ?_)
                        refine W.eq (g2 := F0 m 39 ls [.int 13, .ref (a 1), .int 14, .ref (a 1)]) rfl ?_
                        refine va_iald (f := (upd (upd (upd (upd (upd (upd (upd (upd (upd (upd (jx_al M) 24 ((jx_al M) 23)) 23 ((jx_al M) 22)) 22 ((jx_al M) 21)) 21 ((jx_al M) 20)) 20 ((jx_al M) 19)) 19 ((jx_al M) 18)) 18 ((jx_al M) 17)) 17 ((jx_al M) 16)) 16 ((jx_al M) 15)) 15 ((jx_al M) 14))) hx hb hK hP 1 0 rfl rfl (jk_inC (by decide +kernel)) dX5_discsTurn_39 ?_
                        refine W.eq (g2 := F0 m 40 ls [.int ((jx_al M) 13), .int 14, .ref (a 1)]) rfl ?_
                        refine va_iast (f := (upd (upd (upd (upd (upd (upd (upd (upd (upd (upd (jx_al M) 24 ((jx_al M) 23)) 23 ((jx_al M) 22)) 22 ((jx_al M) 21)) 21 ((jx_al M) 20)) 20 ((jx_al M) 19)) 19 ((jx_al M) 18)) 18 ((jx_al M) 17)) 17 ((jx_al M) 16)) 16 ((jx_al M) 15)) 15 ((jx_al M) 14))) hx hb hK hP hD hS 1 0 rfl rfl (jk_inC (by decide +kernel)) dX5_discsTurn_40 (fun H locs hP hD hS => ?_)
                        have hP : va_P D vwCl (jx_W g a (jx_ual M (upd (upd (upd (upd (upd (upd (upd (upd (upd (upd (upd (jx_al M) 24 ((jx_al M) 23)) 23 ((jx_al M) 22)) 22 ((jx_al M) 21)) 21 ((jx_al M) 20)) 20 ((jx_al M) 19)) 19 ((jx_al M) 18)) 18 ((jx_al M) 17)) 17 ((jx_al M) 16)) 16 ((jx_al M) 15)) 15 ((jx_al M) 14)) 14 ((jx_al M) 13)))) H := hP
                        have hD : va_D A (jx_W g a (jx_ual M (upd (upd (upd (upd (upd (upd (upd (upd (upd (upd (upd (jx_al M) 24 ((jx_al M) 23)) 23 ((jx_al M) 22)) 22 ((jx_al M) 21)) 21 ((jx_al M) 20)) 20 ((jx_al M) 19)) 19 ((jx_al M) 18)) 18 ((jx_al M) 17)) 17 ((jx_al M) 16)) 16 ((jx_al M) 15)) 15 ((jx_al M) 14)) 14 ((jx_al M) 13)))) := hD
                        refine lv_iinc (v := 0) (lv' := [(2, .int 0), (1, .int ((jx_al M) 24)), (0, .ref (a 0))]) hx hb dX5_discsTurn_41 hl (k := 0) rfl (by decide) (by decide) rfl (fun ls hl => ?_)
                        refine lv_goto (tgt := 15) hx hb dX5_discsTurn_44 (by decide) ?_
                        refine lv_iload_n hx hb dX5_discsTurn_15 rfl (lv_at hl 0 rfl) ?_
                        refine lv_if_le (tgt := 47) hx hb dX5_discsTurn_16 (by decide) (fun c12 => ?_) (fun c12 => ?_)
                        · refine lv_aload_n hx hb dX5_discsTurn_47 rfl (lv_at hl 2 rfl) ?_
                          refine va_get (D := D) (ci := 5) (v := .ref (a 1)) (C := RX5) (T := TX5) (N := 13) hx hb hts hi_5 hown hK hP 0 rfl rfl 0 (by decide) hf_7 (fun _ h9 => h9) rfl dX5_discsTurn_48 ?_
                          refine lv_iconst (v := 0) hx hb dX5_discsTurn_51 (by decide) ?_
                          refine lv_iconst (v := 0) hx hb dX5_discsTurn_52 (by decide) ?_
                          refine jk_callS (As := [.int 0, .int 0]) (rest := [.ref (a 1)]) (ws1 := (jx_W g a (jx_ual M (upd (upd (upd (upd (upd (upd (upd (upd (upd (upd (upd (jx_al M) 24 ((jx_al M) 23)) 23 ((jx_al M) 22)) 22 ((jx_al M) 21)) 21 ((jx_al M) 20)) 20 ((jx_al M) 19)) 19 ((jx_al M) 18)) 18 ((jx_al M) 17)) 17 ((jx_al M) 16)) 16 ((jx_al M) 15)) 15 ((jx_al M) 14)) 14 ((jx_al M) 13))))) ⟨hx, hb, hml, hown, hts⟩ (c_X5_cell l D g (0 : Int32) (0 : Int32)) (va_cwS 2 hts gX5_discsTurn_X5_cell rfl rfl rfl (by decide +kernel) ⟨Nat.le_of_ble_eq_true rfl, Nat.le_of_ble_eq_true rfl⟩) jk_nilP (jk_nilD (A := A)) hK hN rfl hl rfl (Nat.le_of_ble_eq_true rfl) dX5_discsTurn_53 ⟨Nat.zero_le _, Nat.zero_le _⟩ hS hA (fun _ _ hk => jk_keep hP hk) (fun H locs hP hS => ?_)
                          refine W.eq (g2 := F0 m 56 ls [.int 13, .ref (a 1)]) rfl ?_
                          refine lv_iload_n hx hb dX5_discsTurn_56 rfl (lv_at hl 1 rfl) ?_
                          refine va_iast (f := (upd (upd (upd (upd (upd (upd (upd (upd (upd (upd (upd (jx_al M) 24 ((jx_al M) 23)) 23 ((jx_al M) 22)) 22 ((jx_al M) 21)) 21 ((jx_al M) 20)) 20 ((jx_al M) 19)) 19 ((jx_al M) 18)) 18 ((jx_al M) 17)) 17 ((jx_al M) 16)) 16 ((jx_al M) 15)) 15 ((jx_al M) 14)) 14 ((jx_al M) 13))) hx hb hK hP hD hS 1 0 rfl rfl (jk_inC (by decide +kernel)) dX5_discsTurn_57 (fun H locs hP hD hS => ?_)
                          have hP : va_P D vwCl (jx_W g a (jx_ual M (upd (upd (upd (upd (upd (upd (upd (upd (upd (upd (upd (upd (jx_al M) 24 ((jx_al M) 23)) 23 ((jx_al M) 22)) 22 ((jx_al M) 21)) 21 ((jx_al M) 20)) 20 ((jx_al M) 19)) 19 ((jx_al M) 18)) 18 ((jx_al M) 17)) 17 ((jx_al M) 16)) 16 ((jx_al M) 15)) 15 ((jx_al M) 14)) 14 ((jx_al M) 13)) 13 ((jx_al M) 24)))) H := hP
                          have hD : va_D A (jx_W g a (jx_ual M (upd (upd (upd (upd (upd (upd (upd (upd (upd (upd (upd (upd (jx_al M) 24 ((jx_al M) 23)) 23 ((jx_al M) 22)) 22 ((jx_al M) 21)) 21 ((jx_al M) 20)) 20 ((jx_al M) 19)) 19 ((jx_al M) 18)) 18 ((jx_al M) 17)) 17 ((jx_al M) 16)) 16 ((jx_al M) 15)) 15 ((jx_al M) 14)) 14 ((jx_al M) 13)) 13 ((jx_al M) 24)))) := hD
                          refine lv_aload_n hx hb dX5_discsTurn_58 rfl (lv_at hl 2 rfl) ?_
                          refine va_get (D := D) (ci := 5) (v := .ref (a 1)) (C := RX5) (T := TX5) (N := 13) hx hb hts hi_5 hown hK hP 0 rfl rfl 0 (by decide) hf_7 (fun _ h9 => h9) rfl dX5_discsTurn_59 ?_
                          refine lv_iconst (v := 1) hx hb dX5_discsTurn_62 (by decide) ?_
                          refine lv_iconst (v := 0) hx hb dX5_discsTurn_63 (by decide) ?_
                          refine jk_callS (As := [.int 1, .int 0]) (rest := [.ref (a 1)]) (ws1 := (jx_W g a (jx_ual M (upd (upd (upd (upd (upd (upd (upd (upd (upd (upd (upd (upd (jx_al M) 24 ((jx_al M) 23)) 23 ((jx_al M) 22)) 22 ((jx_al M) 21)) 21 ((jx_al M) 20)) 20 ((jx_al M) 19)) 19 ((jx_al M) 18)) 18 ((jx_al M) 17)) 17 ((jx_al M) 16)) 16 ((jx_al M) 15)) 15 ((jx_al M) 14)) 14 ((jx_al M) 13)) 13 ((jx_al M) 24))))) ⟨hx, hb, hml, hown, hts⟩ (c_X5_cell l D g (1 : Int32) (0 : Int32)) (va_cwS 2 hts gX5_discsTurn_X5_cell rfl rfl rfl (by decide +kernel) ⟨Nat.le_of_ble_eq_true rfl, Nat.le_of_ble_eq_true rfl⟩) jk_nilP (jk_nilD (A := A)) hK hN rfl hl rfl (Nat.le_of_ble_eq_true rfl) dX5_discsTurn_64 ⟨Nat.zero_le _, Nat.zero_le _⟩ hS hA (fun _ _ hk => jk_keep hP hk) (fun H locs hP hS => ?_)
                          refine W.eq (g2 := F0 m 67 ls [.int 25, .ref (a 1)]) rfl ?_
                          refine va_iald (f := (upd (upd (upd (upd (upd (upd (upd (upd (upd (upd (upd (upd (jx_al M) 24 ((jx_al M) 23)) 23 ((jx_al M) 22)) 22 ((jx_al M) 21)) 21 ((jx_al M) 20)) 20 ((jx_al M) 19)) 19 ((jx_al M) 18)) 18 ((jx_al M) 17)) 17 ((jx_al M) 16)) 16 ((jx_al M) 15)) 15 ((jx_al M) 14)) 14 ((jx_al M) 13)) 13 ((jx_al M) 24))) hx hb hK hP 1 0 rfl rfl (jk_inC (by decide +kernel)) dX5_discsTurn_67 ?_
                          refine W.eq (g2 := F0 m 68 ls [.int ((jx_al M) 25)]) rfl ?_
                          refine lv_istore_n (lv' := [(2, .int ((jx_al M) 25)), (1, .int ((jx_al M) 24)), (0, .ref (a 0))]) hx hb dX5_discsTurn_68 rfl hl (by decide) rfl (fun ls hl => ?_)
                          refine lv_iconst (v := 0) hx hb dX5_discsTurn_69 (by decide) ?_
                          refine lv_istore_n (lv' := [(3, .int 0), (2, .int ((jx_al M) 25)), (1, .int ((jx_al M) 24)), (0, .ref (a 0))]) hx hb dX5_discsTurn_70 rfl hl (by decide) rfl (fun ls hl => ?_)
                          refine lv_iload_n hx hb dX5_discsTurn_71 rfl (lv_at hl 0 rfl) ?_
                          refine lv_bipush (v := 11) hx hb dX5_discsTurn_72 (by decide) ?_
                          refine lv_icmp_ge (tgt := 105) hx hb dX5_discsTurn_74 (by decide) (fun c13 => ?_) (fun c13 => ?_)
                          · exact absurd c13 (by decide)
                          · refine lv_aload_n hx hb dX5_discsTurn_77 rfl (lv_at hl 3 rfl) ?_
                            refine va_get (D := D) (ci := 5) (v := .ref (a 1)) (C := RX5) (T := TX5) (N := 13) hx hb hts hi_5 hown hK hP 0 rfl rfl 0 (by decide) hf_7 (fun _ h9 => h9) rfl dX5_discsTurn_78 ?_
                            refine lv_iconst (v := 1) hx hb dX5_discsTurn_81 (by decide) ?_
                            refine lv_iload_n hx hb dX5_discsTurn_82 rfl (lv_at hl 0 rfl) ?_
                            refine jk_callS (As := [.int 1, .int 0]) (rest := [.ref (a 1)]) (ws1 := (jx_W g a (jx_ual M (upd (upd (upd (upd (upd (upd (upd (upd (upd (upd (upd (upd (jx_al M) 24 ((jx_al M) 23)) 23 ((jx_al M) 22)) 22 ((jx_al M) 21)) 21 ((jx_al M) 20)) 20 ((jx_al M) 19)) 19 ((jx_al M) 18)) 18 ((jx_al M) 17)) 17 ((jx_al M) 16)) 16 ((jx_al M) 15)) 15 ((jx_al M) 14)) 14 ((jx_al M) 13)) 13 ((jx_al M) 24))))) ⟨hx, hb, hml, hown, hts⟩ (c_X5_cell l D g (1 : Int32) (0 : Int32)) (va_cwS 2 hts gX5_discsTurn_X5_cell rfl rfl rfl (by decide +kernel) ⟨Nat.le_of_ble_eq_true rfl, Nat.le_of_ble_eq_true rfl⟩) jk_nilP (jk_nilD (A := A)) hK hN rfl hl rfl (Nat.le_of_ble_eq_true rfl) dX5_discsTurn_83 ⟨Nat.zero_le _, Nat.zero_le _⟩ hS hA (fun _ _ hk => jk_keep hP hk) (fun H locs hP hS => ?_)
                            refine W.eq (g2 := F0 m 86 ls [.int 25, .ref (a 1)]) rfl ?_
                            refine lv_aload_n hx hb dX5_discsTurn_86 rfl (lv_at hl 3 rfl) ?_
                            refine va_get (D := D) (ci := 5) (v := .ref (a 1)) (C := RX5) (T := TX5) (N := 13) hx hb hts hi_5 hown hK hP 0 rfl rfl 0 (by decide) hf_7 (fun _ h9 => h9) rfl dX5_discsTurn_87 ?_
                            refine lv_iconst (v := 1) hx hb dX5_discsTurn_90 (by decide) ?_
                            refine lv_iload_n hx hb dX5_discsTurn_91 rfl (lv_at hl 0 rfl) ?_
                            refine lv_iconst (v := 1) hx hb dX5_discsTurn_92 (by decide) ?_
                            refine lv_iadd hx hb dX5_discsTurn_93 ?_
                            refine W.eq (g2 := F0 m 94 ls [.int 1, .int 1, .ref (a 1), .int 25, .ref (a 1)]) rfl ?_
                            refine jk_callS (As := [.int 1, .int 1]) (rest := [.ref (a 1), .int 25, .ref (a 1)]) (ws1 := (jx_W g a (jx_ual M (upd (upd (upd (upd (upd (upd (upd (upd (upd (upd (upd (upd (jx_al M) 24 ((jx_al M) 23)) 23 ((jx_al M) 22)) 22 ((jx_al M) 21)) 21 ((jx_al M) 20)) 20 ((jx_al M) 19)) 19 ((jx_al M) 18)) 18 ((jx_al M) 17)) 17 ((jx_al M) 16)) 16 ((jx_al M) 15)) 15 ((jx_al M) 14)) 14 ((jx_al M) 13)) 13 ((jx_al M) 24))))) ⟨hx, hb, hml, hown, hts⟩ (c_X5_cell l D g (1 : Int32) (1 : Int32)) (va_cwS 2 hts gX5_discsTurn_X5_cell rfl rfl rfl (by decide +kernel) ⟨Nat.le_of_ble_eq_true rfl, Nat.le_of_ble_eq_true rfl⟩) jk_nilP (jk_nilD (A := A)) hK hN rfl hl rfl (Nat.le_of_ble_eq_true rfl) dX5_discsTurn_94 ⟨Nat.zero_le _, Nat.zero_le _⟩ hS hA (fun _ _ hk => jk_keep hP hk) (fun H locs hP hS => ?_)
                            refine W.eq (g2 := F0 m 97 ls [.int 26, .ref (a 1), .int 25, .ref (a 1)]) rfl ?_
                            refine va_iald (f := (upd (upd (upd (upd (upd (upd (upd (upd (upd (upd (upd (upd (jx_al M) 24 ((jx_al M) 23)) 23 ((jx_al M) 22)) 22 ((jx_al M) 21)) 21 ((jx_al M) 20)) 20 ((jx_al M) 19)) 19 ((jx_al M) 18)) 18 ((jx_al M) 17)) 17 ((jx_al M) 16)) 16 ((jx_al M) 15)) 15 ((jx_al M) 14)) 14 ((jx_al M) 13)) 13 ((jx_al M) 24))) hx hb hK hP 1 0 rfl rfl (jk_inC (by decide +kernel)) dX5_discsTurn_97 ?_
                            refine W.eq (g2 := F0 m 98 ls [.int ((jx_al M) 26), .int 25, .ref (a 1)]) rfl ?_
                            refine va_iast (f := (upd (upd (upd (upd (upd (upd (upd (upd (upd (upd (upd (upd (jx_al M) 24 ((jx_al M) 23)) 23 ((jx_al M) 22)) 22 ((jx_al M) 21)) 21 ((jx_al M) 20)) 20 ((jx_al M) 19)) 19 ((jx_al M) 18)) 18 ((jx_al M) 17)) 17 ((jx_al M) 16)) 16 ((jx_al M) 15)) 15 ((jx_al M) 14)) 14 ((jx_al M) 13)) 13 ((jx_al M) 24))) hx hb hK hP hD hS 1 0 rfl rfl (jk_inC (by decide +kernel)) dX5_discsTurn_98 (fun H locs hP hD hS => ?_)
                            have hP : va_P D vwCl (jx_W g a (jx_ual M (upd (upd (upd (upd (upd (upd (upd (upd (upd (upd (upd (upd (upd (jx_al M) 24 ((jx_al M) 23)) 23 ((jx_al M) 22)) 22 ((jx_al M) 21)) 21 ((jx_al M) 20)) 20 ((jx_al M) 19)) 19 ((jx_al M) 18)) 18 ((jx_al M) 17)) 17 ((jx_al M) 16)) 16 ((jx_al M) 15)) 15 ((jx_al M) 14)) 14 ((jx_al M) 13)) 13 ((jx_al M) 24)) 25 ((jx_al M) 26)))) H := hP
                            have hD : va_D A (jx_W g a (jx_ual M (upd (upd (upd (upd (upd (upd (upd (upd (upd (upd (upd (upd (upd (jx_al M) 24 ((jx_al M) 23)) 23 ((jx_al M) 22)) 22 ((jx_al M) 21)) 21 ((jx_al M) 20)) 20 ((jx_al M) 19)) 19 ((jx_al M) 18)) 18 ((jx_al M) 17)) 17 ((jx_al M) 16)) 16 ((jx_al M) 15)) 15 ((jx_al M) 14)) 14 ((jx_al M) 13)) 13 ((jx_al M) 24)) 25 ((jx_al M) 26)))) := hD
                            refine lv_iinc (v := 1) (lv' := [(3, .int 1), (2, .int ((jx_al M) 25)), (1, .int ((jx_al M) 24)), (0, .ref (a 0))]) hx hb dX5_discsTurn_99 hl (k := 0) rfl (by decide) (by decide) rfl (fun ls hl => ?_)
                            refine lv_goto (tgt := 71) hx hb dX5_discsTurn_102 (by decide) ?_
                            refine lv_iload_n hx hb dX5_discsTurn_71 rfl (lv_at hl 0 rfl) ?_
                            refine lv_bipush (v := 11) hx hb dX5_discsTurn_72 (by decide) ?_
                            refine lv_icmp_ge (tgt := 105) hx hb dX5_discsTurn_74 (by decide) (fun c14 => ?_) (fun c14 => ?_)
                            · exact absurd c14 (by decide)
                            · refine lv_aload_n hx hb dX5_discsTurn_77 rfl (lv_at hl 3 rfl) ?_
                              refine va_get (D := D) (ci := 5) (v := .ref (a 1)) (C := RX5) (T := TX5) (N := 13) hx hb hts hi_5 hown hK hP 0 rfl rfl 0 (by decide) hf_7 (fun _ h9 => h9) rfl dX5_discsTurn_78 ?_
                              refine lv_iconst (v := 1) hx hb dX5_discsTurn_81 (by decide) ?_
                              refine lv_iload_n hx hb dX5_discsTurn_82 rfl (lv_at hl 0 rfl) ?_
                              refine jk_callS (As := [.int 1, .int 1]) (rest := [.ref (a 1)]) (ws1 := (jx_W g a (jx_ual M (upd (upd (upd (upd (upd (upd (upd (upd (upd (upd (upd (upd (upd (jx_al M) 24 ((jx_al M) 23)) 23 ((jx_al M) 22)) 22 ((jx_al M) 21)) 21 ((jx_al M) 20)) 20 ((jx_al M) 19)) 19 ((jx_al M) 18)) 18 ((jx_al M) 17)) 17 ((jx_al M) 16)) 16 ((jx_al M) 15)) 15 ((jx_al M) 14)) 14 ((jx_al M) 13)) 13 ((jx_al M) 24)) 25 ((jx_al M) 26))))) ⟨hx, hb, hml, hown, hts⟩ (c_X5_cell l D g (1 : Int32) (1 : Int32)) (va_cwS 2 hts gX5_discsTurn_X5_cell rfl rfl rfl (by decide +kernel) ⟨Nat.le_of_ble_eq_true rfl, Nat.le_of_ble_eq_true rfl⟩) jk_nilP (jk_nilD (A := A)) hK hN rfl hl rfl (Nat.le_of_ble_eq_true rfl) dX5_discsTurn_83 ⟨Nat.zero_le _, Nat.zero_le _⟩ hS hA (fun _ _ hk => jk_keep hP hk) (fun H locs hP hS => ?_)
                              refine W.eq (g2 := F0 m 86 ls [.int 26, .ref (a 1)]) rfl ?_
                              refine lv_aload_n hx hb dX5_discsTurn_86 rfl (lv_at hl 3 rfl) ?_
                              refine va_get (D := D) (ci := 5) (v := .ref (a 1)) (C := RX5) (T := TX5) (N := 13) hx hb hts hi_5 hown hK hP 0 rfl rfl 0 (by decide) hf_7 (fun _ h9 => h9) rfl dX5_discsTurn_87 ?_
                              refine lv_iconst (v := 1) hx hb dX5_discsTurn_90 (by decide) ?_
                              refine lv_iload_n hx hb dX5_discsTurn_91 rfl (lv_at hl 0 rfl) ?_
                              refine lv_iconst (v := 1) hx hb dX5_discsTurn_92 (by decide) ?_
                              refine lv_iadd hx hb dX5_discsTurn_93 ?_
                              refine W.eq (g2 := F0 m 94 ls [.int 2, .int 1, .ref (a 1), .int 26, .ref (a 1)]) rfl ?_
                              refine jk_callS (As := [.int 1, .int 2]) (rest := [.ref (a 1), .int 26, .ref (a 1)]) (ws1 := (jx_W g a (jx_ual M (upd (upd (upd (upd (upd (upd (upd (upd (upd (upd (upd (upd (upd (jx_al M) 24 ((jx_al M) 23)) 23 ((jx_al M) 22)) 22 ((jx_al M) 21)) 21 ((jx_al M) 20)) 20 ((jx_al M) 19)) 19 ((jx_al M) 18)) 18 ((jx_al M) 17)) 17 ((jx_al M) 16)) 16 ((jx_al M) 15)) 15 ((jx_al M) 14)) 14 ((jx_al M) 13)) 13 ((jx_al M) 24)) 25 ((jx_al M) 26))))) ⟨hx, hb, hml, hown, hts⟩ (c_X5_cell l D g (1 : Int32) (2 : Int32)) (va_cwS 2 hts gX5_discsTurn_X5_cell rfl rfl rfl (by decide +kernel) ⟨Nat.le_of_ble_eq_true rfl, Nat.le_of_ble_eq_true rfl⟩) jk_nilP (jk_nilD (A := A)) hK hN rfl hl rfl (Nat.le_of_ble_eq_true rfl) dX5_discsTurn_94 ⟨Nat.zero_le _, Nat.zero_le _⟩ hS hA (fun _ _ hk => jk_keep hP hk) (fun H locs hP hS => ?_)
                              refine W.eq (g2 := F0 m 97 ls [.int 27, .ref (a 1), .int 26, .ref (a 1)]) rfl ?_
                              refine va_iald (f := (upd (upd (upd (upd (upd (upd (upd (upd (upd (upd (upd (upd (upd (jx_al M) 24 ((jx_al M) 23)) 23 ((jx_al M) 22)) 22 ((jx_al M) 21)) 21 ((jx_al M) 20)) 20 ((jx_al M) 19)) 19 ((jx_al M) 18)) 18 ((jx_al M) 17)) 17 ((jx_al M) 16)) 16 ((jx_al M) 15)) 15 ((jx_al M) 14)) 14 ((jx_al M) 13)) 13 ((jx_al M) 24)) 25 ((jx_al M) 26))) hx hb hK hP 1 0 rfl rfl (jk_inC (by decide +kernel)) dX5_discsTurn_97 ?_
                              refine W.eq (g2 := F0 m 98 ls [.int ((jx_al M) 27), .int 26, .ref (a 1)]) rfl ?_
                              refine va_iast (f := (upd (upd (upd (upd (upd (upd (upd (upd (upd (upd (upd (upd (upd (jx_al M) 24 ((jx_al M) 23)) 23 ((jx_al M) 22)) 22 ((jx_al M) 21)) 21 ((jx_al M) 20)) 20 ((jx_al M) 19)) 19 ((jx_al M) 18)) 18 ((jx_al M) 17)) 17 ((jx_al M) 16)) 16 ((jx_al M) 15)) 15 ((jx_al M) 14)) 14 ((jx_al M) 13)) 13 ((jx_al M) 24)) 25 ((jx_al M) 26))) hx hb hK hP hD hS 1 0 rfl rfl (jk_inC (by decide +kernel)) dX5_discsTurn_98 (fun H locs hP hD hS => ?_)
                              have hP : va_P D vwCl (jx_W g a (jx_ual M (upd (upd (upd (upd (upd (upd (upd (upd (upd (upd (upd (upd (upd (upd (jx_al M) 24 ((jx_al M) 23)) 23 ((jx_al M) 22)) 22 ((jx_al M) 21)) 21 ((jx_al M) 20)) 20 ((jx_al M) 19)) 19 ((jx_al M) 18)) 18 ((jx_al M) 17)) 17 ((jx_al M) 16)) 16 ((jx_al M) 15)) 15 ((jx_al M) 14)) 14 ((jx_al M) 13)) 13 ((jx_al M) 24)) 25 ((jx_al M) 26)) 26 ((jx_al M) 27)))) H := hP
                              have hD : va_D A (jx_W g a (jx_ual M (upd (upd (upd (upd (upd (upd (upd (upd (upd (upd (upd (upd (upd (upd (jx_al M) 24 ((jx_al M) 23)) 23 ((jx_al M) 22)) 22 ((jx_al M) 21)) 21 ((jx_al M) 20)) 20 ((jx_al M) 19)) 19 ((jx_al M) 18)) 18 ((jx_al M) 17)) 17 ((jx_al M) 16)) 16 ((jx_al M) 15)) 15 ((jx_al M) 14)) 14 ((jx_al M) 13)) 13 ((jx_al M) 24)) 25 ((jx_al M) 26)) 26 ((jx_al M) 27)))) := hD
                              refine lv_iinc (v := 2) (lv' := [(3, .int 2), (2, .int ((jx_al M) 25)), (1, .int ((jx_al M) 24)), (0, .ref (a 0))]) hx hb dX5_discsTurn_99 hl (k := 0) rfl (by decide) (by decide) rfl (fun ls hl => ?_)
                              refine lv_goto (tgt := 71) hx hb dX5_discsTurn_102 (by decide) ?_
                              refine lv_iload_n hx hb dX5_discsTurn_71 rfl (lv_at hl 0 rfl) ?_
                              refine lv_bipush (v := 11) hx hb dX5_discsTurn_72 (by decide) ?_
                              refine lv_icmp_ge (tgt := 105) hx hb dX5_discsTurn_74 (by decide) (fun c15 => ?_) (fun c15 => ?_)
                              · exact absurd c15 (by decide)
                              · refine lv_aload_n hx hb dX5_discsTurn_77 rfl (lv_at hl 3 rfl) ?_
                                refine va_get (D := D) (ci := 5) (v := .ref (a 1)) (C := RX5) (T := TX5) (N := 13) hx hb hts hi_5 hown hK hP 0 rfl rfl 0 (by decide) hf_7 (fun _ h9 => h9) rfl dX5_discsTurn_78 ?_
                                refine lv_iconst (v := 1) hx hb dX5_discsTurn_81 (by decide) ?_
                                refine lv_iload_n hx hb dX5_discsTurn_82 rfl (lv_at hl 0 rfl) ?_
                                refine jk_callS (As := [.int 1, .int 2]) (rest := [.ref (a 1)]) (ws1 := (jx_W g a (jx_ual M (upd (upd (upd (upd (upd (upd (upd (upd (upd (upd (upd (upd (upd (upd (jx_al M) 24 ((jx_al M) 23)) 23 ((jx_al M) 22)) 22 ((jx_al M) 21)) 21 ((jx_al M) 20)) 20 ((jx_al M) 19)) 19 ((jx_al M) 18)) 18 ((jx_al M) 17)) 17 ((jx_al M) 16)) 16 ((jx_al M) 15)) 15 ((jx_al M) 14)) 14 ((jx_al M) 13)) 13 ((jx_al M) 24)) 25 ((jx_al M) 26)) 26 ((jx_al M) 27))))) ⟨hx, hb, hml, hown, hts⟩ (c_X5_cell l D g (1 : Int32) (2 : Int32)) (va_cwS 2 hts gX5_discsTurn_X5_cell rfl rfl rfl (by decide +kernel) ⟨Nat.le_of_ble_eq_true rfl, Nat.le_of_ble_eq_true rfl⟩) jk_nilP (jk_nilD (A := A)) hK hN rfl hl rfl (Nat.le_of_ble_eq_true rfl) dX5_discsTurn_83 ⟨Nat.zero_le _, Nat.zero_le _⟩ hS hA (fun _ _ hk => jk_keep hP hk) (fun H locs hP hS => ?_)
                                refine W.eq (g2 := F0 m 86 ls [.int 27, .ref (a 1)]) rfl ?_
                                refine lv_aload_n hx hb dX5_discsTurn_86 rfl (lv_at hl 3 rfl) ?_
                                refine va_get (D := D) (ci := 5) (v := .ref (a 1)) (C := RX5) (T := TX5) (N := 13) hx hb hts hi_5 hown hK hP 0 rfl rfl 0 (by decide) hf_7 (fun _ h9 => h9) rfl dX5_discsTurn_87 ?_
                                refine lv_iconst (v := 1) hx hb dX5_discsTurn_90 (by decide) ?_
                                refine lv_iload_n hx hb dX5_discsTurn_91 rfl (lv_at hl 0 rfl) ?_
                                refine lv_iconst (v := 1) hx hb dX5_discsTurn_92 (by decide) ?_
                                refine lv_iadd hx hb dX5_discsTurn_93 ?_
                                refine W.eq (g2 := F0 m 94 ls [.int 3, .int 1, .ref (a 1), .int 27, .ref (a 1)]) rfl ?_
                                refine jk_callS (As := [.int 1, .int 3]) (rest := [.ref (a 1), .int 27, .ref (a 1)]) (ws1 := (jx_W g a (jx_ual M (upd (upd (upd (upd (upd (upd (upd (upd (upd (upd (upd (upd (upd (upd (jx_al M) 24 ((jx_al M) 23)) 23 ((jx_al M) 22)) 22 ((jx_al M) 21)) 21 ((jx_al M) 20)) 20 ((jx_al M) 19)) 19 ((jx_al M) 18)) 18 ((jx_al M) 17)) 17 ((jx_al M) 16)) 16 ((jx_al M) 15)) 15 ((jx_al M) 14)) 14 ((jx_al M) 13)) 13 ((jx_al M) 24)) 25 ((jx_al M) 26)) 26 ((jx_al M) 27))))) ⟨hx, hb, hml, hown, hts⟩ (c_X5_cell l D g (1 : Int32) (3 : Int32)) (va_cwS 2 hts gX5_discsTurn_X5_cell rfl rfl rfl (by decide +kernel) ⟨Nat.le_of_ble_eq_true rfl, Nat.le_of_ble_eq_true rfl⟩) jk_nilP (jk_nilD (A := A)) hK hN rfl hl rfl (Nat.le_of_ble_eq_true rfl) dX5_discsTurn_94 ⟨Nat.zero_le _, Nat.zero_le _⟩ hS hA (fun _ _ hk => jk_keep hP hk) (fun H locs hP hS => ?_)
                                refine W.eq (g2 := F0 m 97 ls [.int 28, .ref (a 1), .int 27, .ref (a 1)]) rfl ?_
                                refine va_iald (f := (upd (upd (upd (upd (upd (upd (upd (upd (upd (upd (upd (upd (upd (upd (jx_al M) 24 ((jx_al M) 23)) 23 ((jx_al M) 22)) 22 ((jx_al M) 21)) 21 ((jx_al M) 20)) 20 ((jx_al M) 19)) 19 ((jx_al M) 18)) 18 ((jx_al M) 17)) 17 ((jx_al M) 16)) 16 ((jx_al M) 15)) 15 ((jx_al M) 14)) 14 ((jx_al M) 13)) 13 ((jx_al M) 24)) 25 ((jx_al M) 26)) 26 ((jx_al M) 27))) hx hb hK hP 1 0 rfl rfl (jk_inC (by decide +kernel)) dX5_discsTurn_97 ?_
                                refine W.eq (g2 := F0 m 98 ls [.int ((jx_al M) 28), .int 27, .ref (a 1)]) rfl ?_
                                refine va_iast (f := (upd (upd (upd (upd (upd (upd (upd (upd (upd (upd (upd (upd (upd (upd (jx_al M) 24 ((jx_al M) 23)) 23 ((jx_al M) 22)) 22 ((jx_al M) 21)) 21 ((jx_al M) 20)) 20 ((jx_al M) 19)) 19 ((jx_al M) 18)) 18 ((jx_al M) 17)) 17 ((jx_al M) 16)) 16 ((jx_al M) 15)) 15 ((jx_al M) 14)) 14 ((jx_al M) 13)) 13 ((jx_al M) 24)) 25 ((jx_al M) 26)) 26 ((jx_al M) 27))) hx hb hK hP hD hS 1 0 rfl rfl (jk_inC (by decide +kernel)) dX5_discsTurn_98 (fun H locs hP hD hS => ?_)
                                have hP : va_P D vwCl (jx_W g a (jx_ual M (upd (upd (upd (upd (upd (upd (upd (upd (upd (upd (upd (upd (upd (upd (upd (jx_al M) 24 ((jx_al M) 23)) 23 ((jx_al M) 22)) 22 ((jx_al M) 21)) 21 ((jx_al M) 20)) 20 ((jx_al M) 19)) 19 ((jx_al M) 18)) 18 ((jx_al M) 17)) 17 ((jx_al M) 16)) 16 ((jx_al M) 15)) 15 ((jx_al M) 14)) 14 ((jx_al M) 13)) 13 ((jx_al M) 24)) 25 ((jx_al M) 26)) 26 ((jx_al M) 27)) 27 ((jx_al M) 28)))) H := hP
                                have hD : va_D A (jx_W g a (jx_ual M (upd (upd (upd (upd (upd (upd (upd (upd (upd (upd (upd (upd (upd (upd (upd (jx_al M) 24 ((jx_al M) 23)) 23 ((jx_al M) 22)) 22 ((jx_al M) 21)) 21 ((jx_al M) 20)) 20 ((jx_al M) 19)) 19 ((jx_al M) 18)) 18 ((jx_al M) 17)) 17 ((jx_al M) 16)) 16 ((jx_al M) 15)) 15 ((jx_al M) 14)) 14 ((jx_al M) 13)) 13 ((jx_al M) 24)) 25 ((jx_al M) 26)) 26 ((jx_al M) 27)) 27 ((jx_al M) 28)))) := hD
                                refine lv_iinc (v := 3) (lv' := [(3, .int 3), (2, .int ((jx_al M) 25)), (1, .int ((jx_al M) 24)), (0, .ref (a 0))]) hx hb dX5_discsTurn_99 hl (k := 0) rfl (by decide) (by decide) rfl (fun ls hl => ?_)
                                refine lv_goto (tgt := 71) hx hb dX5_discsTurn_102 (by decide) ?_
                                refine lv_iload_n hx hb dX5_discsTurn_71 rfl (lv_at hl 0 rfl) ?_
                                refine lv_bipush (v := 11) hx hb dX5_discsTurn_72 (by decide) ?_
                                refine lv_icmp_ge (tgt := 105) hx hb dX5_discsTurn_74 (by decide) (fun c16 => ?_) (fun c16 => ?_)
                                · exact absurd c16 (by decide)
                                · refine lv_aload_n hx hb dX5_discsTurn_77 rfl (lv_at hl 3 rfl) ?_
                                  refine va_get (D := D) (ci := 5) (v := .ref (a 1)) (C := RX5) (T := TX5) (N := 13) hx hb hts hi_5 hown hK hP 0 rfl rfl 0 (by decide) hf_7 (fun _ h9 => h9) rfl dX5_discsTurn_78 ?_
                                  refine lv_iconst (v := 1) hx hb dX5_discsTurn_81 (by decide) ?_
                                  refine lv_iload_n hx hb dX5_discsTurn_82 rfl (lv_at hl 0 rfl) ?_
                                  refine jk_callS (As := [.int 1, .int 3]) (rest := [.ref (a 1)]) (ws1 := (jx_W g a (jx_ual M (upd (upd (upd (upd (upd (upd (upd (upd (upd (upd (upd (upd (upd (upd (upd (jx_al M) 24 ((jx_al M) 23)) 23 ((jx_al M) 22)) 22 ((jx_al M) 21)) 21 ((jx_al M) 20)) 20 ((jx_al M) 19)) 19 ((jx_al M) 18)) 18 ((jx_al M) 17)) 17 ((jx_al M) 16)) 16 ((jx_al M) 15)) 15 ((jx_al M) 14)) 14 ((jx_al M) 13)) 13 ((jx_al M) 24)) 25 ((jx_al M) 26)) 26 ((jx_al M) 27)) 27 ((jx_al M) 28))))) ⟨hx, hb, hml, hown, hts⟩ (c_X5_cell l D g (1 : Int32) (3 : Int32)) (va_cwS 2 hts gX5_discsTurn_X5_cell rfl rfl rfl (by decide +kernel) ⟨Nat.le_of_ble_eq_true rfl, Nat.le_of_ble_eq_true rfl⟩) jk_nilP (jk_nilD (A := A)) hK hN rfl hl rfl (Nat.le_of_ble_eq_true rfl) dX5_discsTurn_83 ⟨Nat.zero_le _, Nat.zero_le _⟩ hS hA (fun _ _ hk => jk_keep hP hk) (fun H locs hP hS => ?_)
                                  refine W.eq (g2 := F0 m 86 ls [.int 28, .ref (a 1)]) rfl ?_
                                  refine lv_aload_n hx hb dX5_discsTurn_86 rfl (lv_at hl 3 rfl) ?_
                                  refine va_get (D := D) (ci := 5) (v := .ref (a 1)) (C := RX5) (T := TX5) (N := 13) hx hb hts hi_5 hown hK hP 0 rfl rfl 0 (by decide) hf_7 (fun _ h9 => h9) rfl dX5_discsTurn_87 ?_
                                  refine lv_iconst (v := 1) hx hb dX5_discsTurn_90 (by decide) ?_
                                  refine lv_iload_n hx hb dX5_discsTurn_91 rfl (lv_at hl 0 rfl) ?_
                                  refine lv_iconst (v := 1) hx hb dX5_discsTurn_92 (by decide) ?_
                                  refine lv_iadd hx hb dX5_discsTurn_93 ?_
                                  refine W.eq (g2 := F0 m 94 ls [.int 4, .int 1, .ref (a 1), .int 28, .ref (a 1)]) rfl ?_
                                  refine jk_callS (As := [.int 1, .int 4]) (rest := [.ref (a 1), .int 28, .ref (a 1)]) (ws1 := (jx_W g a (jx_ual M (upd (upd (upd (upd (upd (upd (upd (upd (upd (upd (upd (upd (upd (upd (upd (jx_al M) 24 ((jx_al M) 23)) 23 ((jx_al M) 22)) 22 ((jx_al M) 21)) 21 ((jx_al M) 20)) 20 ((jx_al M) 19)) 19 ((jx_al M) 18)) 18 ((jx_al M) 17)) 17 ((jx_al M) 16)) 16 ((jx_al M) 15)) 15 ((jx_al M) 14)) 14 ((jx_al M) 13)) 13 ((jx_al M) 24)) 25 ((jx_al M) 26)) 26 ((jx_al M) 27)) 27 ((jx_al M) 28))))) ⟨hx, hb, hml, hown, hts⟩ (c_X5_cell l D g (1 : Int32) (4 : Int32)) (va_cwS 2 hts gX5_discsTurn_X5_cell rfl rfl rfl (by decide +kernel) ⟨Nat.le_of_ble_eq_true rfl, Nat.le_of_ble_eq_true rfl⟩) jk_nilP (jk_nilD (A := A)) hK hN rfl hl rfl (Nat.le_of_ble_eq_true rfl) dX5_discsTurn_94 ⟨Nat.zero_le _, Nat.zero_le _⟩ hS hA (fun _ _ hk => jk_keep hP hk) (fun H locs hP hS => ?_)
                                  refine W.eq (g2 := F0 m 97 ls [.int 29, .ref (a 1), .int 28, .ref (a 1)]) rfl ?_
                                  refine va_iald (f := (upd (upd (upd (upd (upd (upd (upd (upd (upd (upd (upd (upd (upd (upd (upd (jx_al M) 24 ((jx_al M) 23)) 23 ((jx_al M) 22)) 22 ((jx_al M) 21)) 21 ((jx_al M) 20)) 20 ((jx_al M) 19)) 19 ((jx_al M) 18)) 18 ((jx_al M) 17)) 17 ((jx_al M) 16)) 16 ((jx_al M) 15)) 15 ((jx_al M) 14)) 14 ((jx_al M) 13)) 13 ((jx_al M) 24)) 25 ((jx_al M) 26)) 26 ((jx_al M) 27)) 27 ((jx_al M) 28))) hx hb hK hP 1 0 rfl rfl (jk_inC (by decide +kernel)) dX5_discsTurn_97 ?_
                                  refine W.eq (g2 := F0 m 98 ls [.int ((jx_al M) 29), .int 28, .ref (a 1)]) rfl ?_
                                  refine va_iast (f := (upd (upd (upd (upd (upd (upd (upd (upd (upd (upd (upd (upd (upd (upd (upd (jx_al M) 24 ((jx_al M) 23)) 23 ((jx_al M) 22)) 22 ((jx_al M) 21)) 21 ((jx_al M) 20)) 20 ((jx_al M) 19)) 19 ((jx_al M) 18)) 18 ((jx_al M) 17)) 17 ((jx_al M) 16)) 16 ((jx_al M) 15)) 15 ((jx_al M) 14)) 14 ((jx_al M) 13)) 13 ((jx_al M) 24)) 25 ((jx_al M) 26)) 26 ((jx_al M) 27)) 27 ((jx_al M) 28))) hx hb hK hP hD hS 1 0 rfl rfl (jk_inC (by decide +kernel)) dX5_discsTurn_98 (fun H locs hP hD hS => ?_)
                                  have hP : va_P D vwCl (jx_W g a (jx_ual M (upd (upd (upd (upd (upd (upd (upd (upd (upd (upd (upd (upd (upd (upd (upd (upd (jx_al M) 24 ((jx_al M) 23)) 23 ((jx_al M) 22)) 22 ((jx_al M) 21)) 21 ((jx_al M) 20)) 20 ((jx_al M) 19)) 19 ((jx_al M) 18)) 18 ((jx_al M) 17)) 17 ((jx_al M) 16)) 16 ((jx_al M) 15)) 15 ((jx_al M) 14)) 14 ((jx_al M) 13)) 13 ((jx_al M) 24)) 25 ((jx_al M) 26)) 26 ((jx_al M) 27)) 27 ((jx_al M) 28)) 28 ((jx_al M) 29)))) H := hP
                                  have hD : va_D A (jx_W g a (jx_ual M (upd (upd (upd (upd (upd (upd (upd (upd (upd (upd (upd (upd (upd (upd (upd (upd (jx_al M) 24 ((jx_al M) 23)) 23 ((jx_al M) 22)) 22 ((jx_al M) 21)) 21 ((jx_al M) 20)) 20 ((jx_al M) 19)) 19 ((jx_al M) 18)) 18 ((jx_al M) 17)) 17 ((jx_al M) 16)) 16 ((jx_al M) 15)) 15 ((jx_al M) 14)) 14 ((jx_al M) 13)) 13 ((jx_al M) 24)) 25 ((jx_al M) 26)) 26 ((jx_al M) 27)) 27 ((jx_al M) 28)) 28 ((jx_al M) 29)))) := hD
                                  refine lv_iinc (v := 4) (lv' := [(3, .int 4), (2, .int ((jx_al M) 25)), (1, .int ((jx_al M) 24)), (0, .ref (a 0))]) hx hb dX5_discsTurn_99 hl (k := 0) rfl (by decide) (by decide) rfl (fun ls hl => ?_)
                                  refine lv_goto (tgt := 71) hx hb dX5_discsTurn_102 (by decide) ?_
                                  refine lv_iload_n hx hb dX5_discsTurn_71 rfl (lv_at hl 0 rfl) ?_
                                  refine lv_bipush (v := 11) hx hb dX5_discsTurn_72 (by decide) ?_
                                  refine lv_icmp_ge (tgt := 105) hx hb dX5_discsTurn_74 (by decide) (fun c17 => ?_) (fun c17 => ?_)
                                  · exact absurd c17 (by decide)
                                  · refine lv_aload_n hx hb dX5_discsTurn_77 rfl (lv_at hl 3 rfl) ?_
                                    refine va_get (D := D) (ci := 5) (v := .ref (a 1)) (C := RX5) (T := TX5) (N := 13) hx hb hts hi_5 hown hK hP 0 rfl rfl 0 (by decide) hf_7 (fun _ h9 => h9) rfl dX5_discsTurn_78 ?_
                                    refine lv_iconst (v := 1) hx hb dX5_discsTurn_81 (by decide) ?_
                                    refine lv_iload_n hx hb dX5_discsTurn_82 rfl (lv_at hl 0 rfl) ?_
                                    refine jk_callS (As := [.int 1, .int 4]) (rest := [.ref (a 1)]) (ws1 := (jx_W g a (jx_ual M (upd (upd (upd (upd (upd (upd (upd (upd (upd (upd (upd (upd (upd (upd (upd (upd (jx_al M) 24 ((jx_al M) 23)) 23 ((jx_al M) 22)) 22 ((jx_al M) 21)) 21 ((jx_al M) 20)) 20 ((jx_al M) 19)) 19 ((jx_al M) 18)) 18 ((jx_al M) 17)) 17 ((jx_al M) 16)) 16 ((jx_al M) 15)) 15 ((jx_al M) 14)) 14 ((jx_al M) 13)) 13 ((jx_al M) 24)) 25 ((jx_al M) 26)) 26 ((jx_al M) 27)) 27 ((jx_al M) 28)) 28 ((jx_al M) 29))))) ⟨hx, hb, hml, hown, hts⟩ (c_X5_cell l D g (1 : Int32) (4 : Int32)) (va_cwS 2 hts gX5_discsTurn_X5_cell rfl rfl rfl (by decide +kernel) ⟨Nat.le_of_ble_eq_true rfl, Nat.le_of_ble_eq_true rfl⟩) jk_nilP (jk_nilD (A := A)) hK hN rfl hl rfl (Nat.le_of_ble_eq_true rfl) dX5_discsTurn_83 ⟨Nat.zero_le _, Nat.zero_le _⟩ hS hA (fun _ _ hk => jk_keep hP hk) (fun H locs hP hS => ?_)
                                    refine W.eq (g2 := F0 m 86 ls [.int 29, .ref (a 1)]) rfl ?_
                                    refine lv_aload_n hx hb dX5_discsTurn_86 rfl (lv_at hl 3 rfl) ?_
                                    refine va_get (D := D) (ci := 5) (v := .ref (a 1)) (C := RX5) (T := TX5) (N := 13) hx hb hts hi_5 hown hK hP 0 rfl rfl 0 (by decide) hf_7 (fun _ h9 => h9) rfl dX5_discsTurn_87 ?_
                                    refine lv_iconst (v := 1) hx hb dX5_discsTurn_90 (by decide) ?_
                                    refine lv_iload_n hx hb dX5_discsTurn_91 rfl (lv_at hl 0 rfl) ?_
                                    refine lv_iconst (v := 1) hx hb dX5_discsTurn_92 (by decide) ?_
                                    refine lv_iadd hx hb dX5_discsTurn_93 ?_
                                    refine W.eq (g2 := F0 m 94 ls [.int 5, .int 1, .ref (a 1), .int 29, .ref (a 1)]) rfl ?_
                                    refine jk_callS (As := [.int 1, .int 5]) (rest := [.ref (a 1), .int 29, .ref (a 1)]) (ws1 := (jx_W g a (jx_ual M (upd (upd (upd (upd (upd (upd (upd (upd (upd (upd (upd (upd (upd (upd (upd (upd (jx_al M) 24 ((jx_al M) 23)) 23 ((jx_al M) 22)) 22 ((jx_al M) 21)) 21 ((jx_al M) 20)) 20 ((jx_al M) 19)) 19 ((jx_al M) 18)) 18 ((jx_al M) 17)) 17 ((jx_al M) 16)) 16 ((jx_al M) 15)) 15 ((jx_al M) 14)) 14 ((jx_al M) 13)) 13 ((jx_al M) 24)) 25 ((jx_al M) 26)) 26 ((jx_al M) 27)) 27 ((jx_al M) 28)) 28 ((jx_al M) 29))))) ⟨hx, hb, hml, hown, hts⟩ (c_X5_cell l D g (1 : Int32) (5 : Int32)) (va_cwS 2 hts gX5_discsTurn_X5_cell rfl rfl rfl (by decide +kernel) ⟨Nat.le_of_ble_eq_true rfl, Nat.le_of_ble_eq_true rfl⟩) jk_nilP (jk_nilD (A := A)) hK hN rfl hl rfl (Nat.le_of_ble_eq_true rfl) dX5_discsTurn_94 ⟨Nat.zero_le _, Nat.zero_le _⟩ hS hA (fun _ _ hk => jk_keep hP hk) (fun H locs hP hS => ?_)
                                    refine W.eq (g2 := F0 m 97 ls [.int 30, .ref (a 1), .int 29, .ref (a 1)]) rfl ?_
                                    refine va_iald (f := (upd (upd (upd (upd (upd (upd (upd (upd (upd (upd (upd (upd (upd (upd (upd (upd (jx_al M) 24 ((jx_al M) 23)) 23 ((jx_al M) 22)) 22 ((jx_al M) 21)) 21 ((jx_al M) 20)) 20 ((jx_al M) 19)) 19 ((jx_al M) 18)) 18 ((jx_al M) 17)) 17 ((jx_al M) 16)) 16 ((jx_al M) 15)) 15 ((jx_al M) 14)) 14 ((jx_al M) 13)) 13 ((jx_al M) 24)) 25 ((jx_al M) 26)) 26 ((jx_al M) 27)) 27 ((jx_al M) 28)) 28 ((jx_al M) 29))) hx hb hK hP 1 0 rfl rfl (jk_inC (by decide +kernel)) dX5_discsTurn_97 ?_
                                    refine W.eq (g2 := F0 m 98 ls [.int ((jx_al M) 30), .int 29, .ref (a 1)]) rfl ?_
                                    refine va_iast (f := (upd (upd (upd (upd (upd (upd (upd (upd (upd (upd (upd (upd (upd (upd (upd (upd (jx_al M) 24 ((jx_al M) 23)) 23 ((jx_al M) 22)) 22 ((jx_al M) 21)) 21 ((jx_al M) 20)) 20 ((jx_al M) 19)) 19 ((jx_al M) 18)) 18 ((jx_al M) 17)) 17 ((jx_al M) 16)) 16 ((jx_al M) 15)) 15 ((jx_al M) 14)) 14 ((jx_al M) 13)) 13 ((jx_al M) 24)) 25 ((jx_al M) 26)) 26 ((jx_al M) 27)) 27 ((jx_al M) 28)) 28 ((jx_al M) 29))) hx hb hK hP hD hS 1 0 rfl rfl (jk_inC (by decide +kernel)) dX5_discsTurn_98 (fun H locs hP hD hS => ?_)
                                    have hP : va_P D vwCl (jx_W g a (jx_ual M (upd (upd (upd (upd (upd (upd (upd (upd (upd (upd (upd (upd (upd (upd (upd (upd (upd (jx_al M) 24 ((jx_al M) 23)) 23 ((jx_al M) 22)) 22 ((jx_al M) 21)) 21 ((jx_al M) 20)) 20 ((jx_al M) 19)) 19 ((jx_al M) 18)) 18 ((jx_al M) 17)) 17 ((jx_al M) 16)) 16 ((jx_al M) 15)) 15 ((jx_al M) 14)) 14 ((jx_al M) 13)) 13 ((jx_al M) 24)) 25 ((jx_al M) 26)) 26 ((jx_al M) 27)) 27 ((jx_al M) 28)) 28 ((jx_al M) 29)) 29 ((jx_al M) 30)))) H := hP
                                    have hD : va_D A (jx_W g a (jx_ual M (upd (upd (upd (upd (upd (upd (upd (upd (upd (upd (upd (upd (upd (upd (upd (upd (upd (jx_al M) 24 ((jx_al M) 23)) 23 ((jx_al M) 22)) 22 ((jx_al M) 21)) 21 ((jx_al M) 20)) 20 ((jx_al M) 19)) 19 ((jx_al M) 18)) 18 ((jx_al M) 17)) 17 ((jx_al M) 16)) 16 ((jx_al M) 15)) 15 ((jx_al M) 14)) 14 ((jx_al M) 13)) 13 ((jx_al M) 24)) 25 ((jx_al M) 26)) 26 ((jx_al M) 27)) 27 ((jx_al M) 28)) 28 ((jx_al M) 29)) 29 ((jx_al M) 30)))) := hD
                                    refine lv_iinc (v := 5) (lv' := [(3, .int 5), (2, .int ((jx_al M) 25)), (1, .int ((jx_al M) 24)), (0, .ref (a 0))]) hx hb dX5_discsTurn_99 hl (k := 0) rfl (by decide) (by decide) rfl (fun ls hl => ?_)
                                    refine lv_goto (tgt := 71) hx hb dX5_discsTurn_102 (by decide) ?_
                                    refine lv_iload_n hx hb dX5_discsTurn_71 rfl (lv_at hl 0 rfl) ?_
                                    refine lv_bipush (v := 11) hx hb dX5_discsTurn_72 (by decide) ?_
                                    refine lv_icmp_ge (tgt := 105) hx hb dX5_discsTurn_74 (by decide) (fun c18 => ?_) (fun c18 => ?_)
                                    · exact absurd c18 (by decide)
                                    · refine lv_aload_n hx hb dX5_discsTurn_77 rfl (lv_at hl 3 rfl) ?_
                                      refine va_get (D := D) (ci := 5) (v := .ref (a 1)) (C := RX5) (T := TX5) (N := 13) hx hb hts hi_5 hown hK hP 0 rfl rfl 0 (by decide) hf_7 (fun _ h9 => h9) rfl dX5_discsTurn_78 ?_
                                      refine lv_iconst (v := 1) hx hb dX5_discsTurn_81 (by decide) ?_
                                      refine lv_iload_n hx hb dX5_discsTurn_82 rfl (lv_at hl 0 rfl) ?_
                                      refine jk_callS (As := [.int 1, .int 5]) (rest := [.ref (a 1)]) (ws1 := (jx_W g a (jx_ual M (upd (upd (upd (upd (upd (upd (upd (upd (upd (upd (upd (upd (upd (upd (upd (upd (upd (jx_al M) 24 ((jx_al M) 23)) 23 ((jx_al M) 22)) 22 ((jx_al M) 21)) 21 ((jx_al M) 20)) 20 ((jx_al M) 19)) 19 ((jx_al M) 18)) 18 ((jx_al M) 17)) 17 ((jx_al M) 16)) 16 ((jx_al M) 15)) 15 ((jx_al M) 14)) 14 ((jx_al M) 13)) 13 ((jx_al M) 24)) 25 ((jx_al M) 26)) 26 ((jx_al M) 27)) 27 ((jx_al M) 28)) 28 ((jx_al M) 29)) 29 ((jx_al M) 30))))) ⟨hx, hb, hml, hown, hts⟩ (c_X5_cell l D g (1 : Int32) (5 : Int32)) (va_cwS 2 hts gX5_discsTurn_X5_cell rfl rfl rfl (by decide +kernel) ⟨Nat.le_of_ble_eq_true rfl, Nat.le_of_ble_eq_true rfl⟩) jk_nilP (jk_nilD (A := A)) hK hN rfl hl rfl (Nat.le_of_ble_eq_true rfl) dX5_discsTurn_83 ⟨Nat.zero_le _, Nat.zero_le _⟩ hS hA (fun _ _ hk => jk_keep hP hk) (fun H locs hP hS => ?_)
                                      refine W.eq (g2 := F0 m 86 ls [.int 30, .ref (a 1)]) rfl ?_
                                      refine lv_aload_n hx hb dX5_discsTurn_86 rfl (lv_at hl 3 rfl) ?_
                                      refine va_get (D := D) (ci := 5) (v := .ref (a 1)) (C := RX5) (T := TX5) (N := 13) hx hb hts hi_5 hown hK hP 0 rfl rfl 0 (by decide) hf_7 (fun _ h9 => h9) rfl dX5_discsTurn_87 ?_
                                      refine lv_iconst (v := 1) hx hb dX5_discsTurn_90 (by decide) ?_
                                      refine lv_iload_n hx hb dX5_discsTurn_91 rfl (lv_at hl 0 rfl) ?_
                                      refine lv_iconst (v := 1) hx hb dX5_discsTurn_92 (by decide) ?_
                                      refine lv_iadd hx hb dX5_discsTurn_93 ?_
                                      refine W.eq (g2 := F0 m 94 ls [.int 6, .int 1, .ref (a 1), .int 30, .ref (a 1)]) rfl ?_
                                      refine jk_callS (As := [.int 1, .int 6]) (rest := [.ref (a 1), .int 30, .ref (a 1)]) (ws1 := (jx_W g a (jx_ual M (upd (upd (upd (upd (upd (upd (upd (upd (upd (upd (upd (upd (upd (upd (upd (upd (upd (jx_al M) 24 ((jx_al M) 23)) 23 ((jx_al M) 22)) 22 ((jx_al M) 21)) 21 ((jx_al M) 20)) 20 ((jx_al M) 19)) 19 ((jx_al M) 18)) 18 ((jx_al M) 17)) 17 ((jx_al M) 16)) 16 ((jx_al M) 15)) 15 ((jx_al M) 14)) 14 ((jx_al M) 13)) 13 ((jx_al M) 24)) 25 ((jx_al M) 26)) 26 ((jx_al M) 27)) 27 ((jx_al M) 28)) 28 ((jx_al M) 29)) 29 ((jx_al M) 30))))) ⟨hx, hb, hml, hown, hts⟩ (c_X5_cell l D g (1 : Int32) (6 : Int32)) (va_cwS 2 hts gX5_discsTurn_X5_cell rfl rfl rfl (by decide +kernel) ⟨Nat.le_of_ble_eq_true rfl, Nat.le_of_ble_eq_true rfl⟩) jk_nilP (jk_nilD (A := A)) hK hN rfl hl rfl (Nat.le_of_ble_eq_true rfl) dX5_discsTurn_94 ⟨Nat.zero_le _, Nat.zero_le _⟩ hS hA (fun _ _ hk => jk_keep hP hk) (fun H locs hP hS => ?_)
                                      refine W.eq (g2 := F0 m 97 ls [.int 31, .ref (a 1), .int 30, .ref (a 1)]) rfl ?_
                                      refine va_iald (f := (upd (upd (upd (upd (upd (upd (upd (upd (upd (upd (upd (upd (upd (upd (upd (upd (upd (jx_al M) 24 ((jx_al M) 23)) 23 ((jx_al M) 22)) 22 ((jx_al M) 21)) 21 ((jx_al M) 20)) 20 ((jx_al M) 19)) 19 ((jx_al M) 18)) 18 ((jx_al M) 17)) 17 ((jx_al M) 16)) 16 ((jx_al M) 15)) 15 ((jx_al M) 14)) 14 ((jx_al M) 13)) 13 ((jx_al M) 24)) 25 ((jx_al M) 26)) 26 ((jx_al M) 27)) 27 ((jx_al M) 28)) 28 ((jx_al M) 29)) 29 ((jx_al M) 30))) hx hb hK hP 1 0 rfl rfl (jk_inC (by decide +kernel)) dX5_discsTurn_97 ?_
                                      refine W.eq (g2 := F0 m 98 ls [.int ((jx_al M) 31), .int 30, .ref (a 1)]) rfl ?_
                                      refine va_iast (f := (upd (upd (upd (upd (upd (upd (upd (upd (upd (upd (upd (upd (upd (upd (upd (upd (upd (jx_al M) 24 ((jx_al M) 23)) 23 ((jx_al M) 22)) 22 ((jx_al M) 21)) 21 ((jx_al M) 20)) 20 ((jx_al M) 19)) 19 ((jx_al M) 18)) 18 ((jx_al M) 17)) 17 ((jx_al M) 16)) 16 ((jx_al M) 15)) 15 ((jx_al M) 14)) 14 ((jx_al M) 13)) 13 ((jx_al M) 24)) 25 ((jx_al M) 26)) 26 ((jx_al M) 27)) 27 ((jx_al M) 28)) 28 ((jx_al M) 29)) 29 ((jx_al M) 30))) hx hb hK hP hD hS 1 0 rfl rfl (jk_inC (by decide +kernel)) dX5_discsTurn_98 (fun H locs hP hD hS => ?_)
                                      have hP : va_P D vwCl (jx_W g a (jx_ual M (upd (upd (upd (upd (upd (upd (upd (upd (upd (upd (upd (upd (upd (upd (upd (upd (upd (upd (jx_al M) 24 ((jx_al M) 23)) 23 ((jx_al M) 22)) 22 ((jx_al M) 21)) 21 ((jx_al M) 20)) 20 ((jx_al M) 19)) 19 ((jx_al M) 18)) 18 ((jx_al M) 17)) 17 ((jx_al M) 16)) 16 ((jx_al M) 15)) 15 ((jx_al M) 14)) 14 ((jx_al M) 13)) 13 ((jx_al M) 24)) 25 ((jx_al M) 26)) 26 ((jx_al M) 27)) 27 ((jx_al M) 28)) 28 ((jx_al M) 29)) 29 ((jx_al M) 30)) 30 ((jx_al M) 31)))) H := hP
                                      have hD : va_D A (jx_W g a (jx_ual M (upd (upd (upd (upd (upd (upd (upd (upd (upd (upd (upd (upd (upd (upd (upd (upd (upd (upd (jx_al M) 24 ((jx_al M) 23)) 23 ((jx_al M) 22)) 22 ((jx_al M) 21)) 21 ((jx_al M) 20)) 20 ((jx_al M) 19)) 19 ((jx_al M) 18)) 18 ((jx_al M) 17)) 17 ((jx_al M) 16)) 16 ((jx_al M) 15)) 15 ((jx_al M) 14)) 14 ((jx_al M) 13)) 13 ((jx_al M) 24)) 25 ((jx_al M) 26)) 26 ((jx_al M) 27)) 27 ((jx_al M) 28)) 28 ((jx_al M) 29)) 29 ((jx_al M) 30)) 30 ((jx_al M) 31)))) := hD
                                      refine lv_iinc (v := 6) (lv' := [(3, .int 6), (2, .int ((jx_al M) 25)), (1, .int ((jx_al M) 24)), (0, .ref (a 0))]) hx hb dX5_discsTurn_99 hl (k := 0) rfl (by decide) (by decide) rfl (fun ls hl => ?_)
                                      refine lv_goto (tgt := 71) hx hb dX5_discsTurn_102 (by decide) ?_
                                      refine lv_iload_n hx hb dX5_discsTurn_71 rfl (lv_at hl 0 rfl) ?_
                                      refine lv_bipush (v := 11) hx hb dX5_discsTurn_72 (by decide) ?_
                                      refine lv_icmp_ge (tgt := 105) hx hb dX5_discsTurn_74 (by decide) (fun c19 => ?_) (fun c19 => ?_)
                                      · exact absurd c19 (by decide)
                                      · refine lv_aload_n hx hb dX5_discsTurn_77 rfl (lv_at hl 3 rfl) ?_
                                        refine va_get (D := D) (ci := 5) (v := .ref (a 1)) (C := RX5) (T := TX5) (N := 13) hx hb hts hi_5 hown hK hP 0 rfl rfl 0 (by decide) hf_7 (fun _ h9 => h9) rfl dX5_discsTurn_78 ?_
                                        refine lv_iconst (v := 1) hx hb dX5_discsTurn_81 (by decide) ?_
                                        refine lv_iload_n hx hb dX5_discsTurn_82 rfl (lv_at hl 0 rfl) ?_
                                        refine jk_callS (As := [.int 1, .int 6]) (rest := [.ref (a 1)]) (ws1 := (jx_W g a (jx_ual M (upd (upd (upd (upd (upd (upd (upd (upd (upd (upd (upd (upd (upd (upd (upd (upd (upd (upd (jx_al M) 24 ((jx_al M) 23)) 23 ((jx_al M) 22)) 22 ((jx_al M) 21)) 21 ((jx_al M) 20)) 20 ((jx_al M) 19)) 19 ((jx_al M) 18)) 18 ((jx_al M) 17)) 17 ((jx_al M) 16)) 16 ((jx_al M) 15)) 15 ((jx_al M) 14)) 14 ((jx_al M) 13)) 13 ((jx_al M) 24)) 25 ((jx_al M) 26)) 26 ((jx_al M) 27)) 27 ((jx_al M) 28)) 28 ((jx_al M) 29)) 29 ((jx_al M) 30)) 30 ((jx_al M) 31))))) ⟨hx, hb, hml, hown, hts⟩ (c_X5_cell l D g (1 : Int32) (6 : Int32)) (va_cwS 2 hts gX5_discsTurn_X5_cell rfl rfl rfl (by decide +kernel) ⟨Nat.le_of_ble_eq_true rfl, Nat.le_of_ble_eq_true rfl⟩) jk_nilP (jk_nilD (A := A)) hK hN rfl hl rfl (Nat.le_of_ble_eq_true rfl) dX5_discsTurn_83 ⟨Nat.zero_le _, Nat.zero_le _⟩ hS hA (fun _ _ hk => jk_keep hP hk) (fun H locs hP hS => ?_)
                                        refine W.eq (g2 := F0 m 86 ls [.int 31, .ref (a 1)]) rfl ?_
                                        refine lv_aload_n hx hb dX5_discsTurn_86 rfl (lv_at hl 3 rfl) ?_
                                        refine va_get (D := D) (ci := 5) (v := .ref (a 1)) (C := RX5) (T := TX5) (N := 13) hx hb hts hi_5 hown hK hP 0 rfl rfl 0 (by decide) hf_7 (fun _ h9 => h9) rfl dX5_discsTurn_87 ?_
                                        refine lv_iconst (v := 1) hx hb dX5_discsTurn_90 (by decide) ?_
                                        refine lv_iload_n hx hb dX5_discsTurn_91 rfl (lv_at hl 0 rfl) ?_
                                        refine lv_iconst (v := 1) hx hb dX5_discsTurn_92 (by decide) ?_
                                        refine lv_iadd hx hb dX5_discsTurn_93 ?_
                                        refine W.eq (g2 := F0 m 94 ls [.int 7, .int 1, .ref (a 1), .int 31, .ref (a 1)]) rfl ?_
                                        refine jk_callS (As := [.int 1, .int 7]) (rest := [.ref (a 1), .int 31, .ref (a 1)]) (ws1 := (jx_W g a (jx_ual M (upd (upd (upd (upd (upd (upd (upd (upd (upd (upd (upd (upd (upd (upd (upd (upd (upd (upd (jx_al M) 24 ((jx_al M) 23)) 23 ((jx_al M) 22)) 22 ((jx_al M) 21)) 21 ((jx_al M) 20)) 20 ((jx_al M) 19)) 19 ((jx_al M) 18)) 18 ((jx_al M) 17)) 17 ((jx_al M) 16)) 16 ((jx_al M) 15)) 15 ((jx_al M) 14)) 14 ((jx_al M) 13)) 13 ((jx_al M) 24)) 25 ((jx_al M) 26)) 26 ((jx_al M) 27)) 27 ((jx_al M) 28)) 28 ((jx_al M) 29)) 29 ((jx_al M) 30)) 30 ((jx_al M) 31))))) ⟨hx, hb, hml, hown, hts⟩ (c_X5_cell l D g (1 : Int32) (7 : Int32)) (va_cwS 2 hts gX5_discsTurn_X5_cell rfl rfl rfl (by decide +kernel) ⟨Nat.le_of_ble_eq_true rfl, Nat.le_of_ble_eq_true rfl⟩) jk_nilP (jk_nilD (A := A)) hK hN rfl hl rfl (Nat.le_of_ble_eq_true rfl) dX5_discsTurn_94 ⟨Nat.zero_le _, Nat.zero_le _⟩ hS hA (fun _ _ hk => jk_keep hP hk) (fun H locs hP hS => ?_)
                                        refine W.eq (g2 := F0 m 97 ls [.int 32, .ref (a 1), .int 31, .ref (a 1)]) rfl ?_
                                        refine va_iald (f := (upd (upd (upd (upd (upd (upd (upd (upd (upd (upd (upd (upd (upd (upd (upd (upd (upd (upd (jx_al M) 24 ((jx_al M) 23)) 23 ((jx_al M) 22)) 22 ((jx_al M) 21)) 21 ((jx_al M) 20)) 20 ((jx_al M) 19)) 19 ((jx_al M) 18)) 18 ((jx_al M) 17)) 17 ((jx_al M) 16)) 16 ((jx_al M) 15)) 15 ((jx_al M) 14)) 14 ((jx_al M) 13)) 13 ((jx_al M) 24)) 25 ((jx_al M) 26)) 26 ((jx_al M) 27)) 27 ((jx_al M) 28)) 28 ((jx_al M) 29)) 29 ((jx_al M) 30)) 30 ((jx_al M) 31))) hx hb hK hP 1 0 rfl rfl (jk_inC (by decide +kernel)) dX5_discsTurn_97 ?_
                                        refine W.eq (g2 := F0 m 98 ls [.int ((jx_al M) 32), .int 31, .ref (a 1)]) rfl ?_
                                        refine va_iast (f := (upd (upd (upd (upd (upd (upd (upd (upd (upd (upd (upd (upd (upd (upd (upd (upd (upd (upd (jx_al M) 24 ((jx_al M) 23)) 23 ((jx_al M) 22)) 22 ((jx_al M) 21)) 21 ((jx_al M) 20)) 20 ((jx_al M) 19)) 19 ((jx_al M) 18)) 18 ((jx_al M) 17)) 17 ((jx_al M) 16)) 16 ((jx_al M) 15)) 15 ((jx_al M) 14)) 14 ((jx_al M) 13)) 13 ((jx_al M) 24)) 25 ((jx_al M) 26)) 26 ((jx_al M) 27)) 27 ((jx_al M) 28)) 28 ((jx_al M) 29)) 29 ((jx_al M) 30)) 30 ((jx_al M) 31))) hx hb hK hP hD hS 1 0 rfl rfl (jk_inC (by decide +kernel)) dX5_discsTurn_98 (fun H locs hP hD hS => ?_)
                                        have hP : va_P D vwCl (jx_W g a (jx_ual M (upd (upd (upd (upd (upd (upd (upd (upd (upd (upd (upd (upd (upd (upd (upd (upd (upd (upd (upd (jx_al M) 24 ((jx_al M) 23)) 23 ((jx_al M) 22)) 22 ((jx_al M) 21)) 21 ((jx_al M) 20)) 20 ((jx_al M) 19)) 19 ((jx_al M) 18)) 18 ((jx_al M) 17)) 17 ((jx_al M) 16)) 16 ((jx_al M) 15)) 15 ((jx_al M) 14)) 14 ((jx_al M) 13)) 13 ((jx_al M) 24)) 25 ((jx_al M) 26)) 26 ((jx_al M) 27)) 27 ((jx_al M) 28)) 28 ((jx_al M) 29)) 29 ((jx_al M) 30)) 30 ((jx_al M) 31)) 31 ((jx_al M) 32)))) H := hP
                                        have hD : va_D A (jx_W g a (jx_ual M (upd (upd (upd (upd (upd (upd (upd (upd (upd (upd (upd (upd (upd (upd (upd (upd (upd (upd (upd (jx_al M) 24 ((jx_al M) 23)) 23 ((jx_al M) 22)) 22 ((jx_al M) 21)) 21 ((jx_al M) 20)) 20 ((jx_al M) 19)) 19 ((jx_al M) 18)) 18 ((jx_al M) 17)) 17 ((jx_al M) 16)) 16 ((jx_al M) 15)) 15 ((jx_al M) 14)) 14 ((jx_al M) 13)) 13 ((jx_al M) 24)) 25 ((jx_al M) 26)) 26 ((jx_al M) 27)) 27 ((jx_al M) 28)) 28 ((jx_al M) 29)) 29 ((jx_al M) 30)) 30 ((jx_al M) 31)) 31 ((jx_al M) 32)))) := hD
                                        refine lv_iinc (v := 7) (lv' := [(3, .int 7), (2, .int ((jx_al M) 25)), (1, .int ((jx_al M) 24)), (0, .ref (a 0))]) hx hb dX5_discsTurn_99 hl (k := 0) rfl (by decide) (by decide) rfl (fun ls hl => ?_)
                                        refine lv_goto (tgt := 71) hx hb dX5_discsTurn_102 (by decide) ?_
                                        refine lv_iload_n hx hb dX5_discsTurn_71 rfl (lv_at hl 0 rfl) ?_
                                        refine lv_bipush (v := 11) hx hb dX5_discsTurn_72 (by decide) ?_
                                        refine lv_icmp_ge (tgt := 105) hx hb dX5_discsTurn_74 (by decide) (fun c20 => ?_) (fun c20 => ?_)
                                        · exact absurd c20 (by decide)
                                        · refine lv_aload_n hx hb dX5_discsTurn_77 rfl (lv_at hl 3 rfl) ?_
                                          refine va_get (D := D) (ci := 5) (v := .ref (a 1)) (C := RX5) (T := TX5) (N := 13) hx hb hts hi_5 hown hK hP 0 rfl rfl 0 (by decide) hf_7 (fun _ h9 => h9) rfl dX5_discsTurn_78 ?_
                                          refine lv_iconst (v := 1) hx hb dX5_discsTurn_81 (by decide) ?_
                                          refine lv_iload_n hx hb dX5_discsTurn_82 rfl (lv_at hl 0 rfl) ?_
                                          refine jk_callS (As := [.int 1, .int 7]) (rest := [.ref (a 1)]) (ws1 := (jx_W g a (jx_ual M (upd (upd (upd (upd (upd (upd (upd (upd (upd (upd (upd (upd (upd (upd (upd (upd (upd (upd (upd (jx_al M) 24 ((jx_al M) 23)) 23 ((jx_al M) 22)) 22 ((jx_al M) 21)) 21 ((jx_al M) 20)) 20 ((jx_al M) 19)) 19 ((jx_al M) 18)) 18 ((jx_al M) 17)) 17 ((jx_al M) 16)) 16 ((jx_al M) 15)) 15 ((jx_al M) 14)) 14 ((jx_al M) 13)) 13 ((jx_al M) 24)) 25 ((jx_al M) 26)) 26 ((jx_al M) 27)) 27 ((jx_al M) 28)) 28 ((jx_al M) 29)) 29 ((jx_al M) 30)) 30 ((jx_al M) 31)) 31 ((jx_al M) 32))))) ⟨hx, hb, hml, hown, hts⟩ (c_X5_cell l D g (1 : Int32) (7 : Int32)) (va_cwS 2 hts gX5_discsTurn_X5_cell rfl rfl rfl (by decide +kernel) ⟨Nat.le_of_ble_eq_true rfl, Nat.le_of_ble_eq_true rfl⟩) jk_nilP (jk_nilD (A := A)) hK hN rfl hl rfl (Nat.le_of_ble_eq_true rfl) dX5_discsTurn_83 ⟨Nat.zero_le _, Nat.zero_le _⟩ hS hA (fun _ _ hk => jk_keep hP hk) (fun H locs hP hS => ?_)
                                          refine W.eq (g2 := F0 m 86 ls [.int 32, .ref (a 1)]) rfl ?_
                                          refine lv_aload_n hx hb dX5_discsTurn_86 rfl (lv_at hl 3 rfl) ?_
                                          refine va_get (D := D) (ci := 5) (v := .ref (a 1)) (C := RX5) (T := TX5) (N := 13) hx hb hts hi_5 hown hK hP 0 rfl rfl 0 (by decide) hf_7 (fun _ h9 => h9) rfl dX5_discsTurn_87 ?_
                                          refine lv_iconst (v := 1) hx hb dX5_discsTurn_90 (by decide) ?_
                                          refine lv_iload_n hx hb dX5_discsTurn_91 rfl (lv_at hl 0 rfl) ?_
                                          refine lv_iconst (v := 1) hx hb dX5_discsTurn_92 (by decide) ?_
                                          refine lv_iadd hx hb dX5_discsTurn_93 ?_
                                          refine W.eq (g2 := F0 m 94 ls [.int 8, .int 1, .ref (a 1), .int 32, .ref (a 1)]) rfl ?_
                                          refine jk_callS (As := [.int 1, .int 8]) (rest := [.ref (a 1), .int 32, .ref (a 1)]) (ws1 := (jx_W g a (jx_ual M (upd (upd (upd (upd (upd (upd (upd (upd (upd (upd (upd (upd (upd (upd (upd (upd (upd (upd (upd (jx_al M) 24 ((jx_al M) 23)) 23 ((jx_al M) 22)) 22 ((jx_al M) 21)) 21 ((jx_al M) 20)) 20 ((jx_al M) 19)) 19 ((jx_al M) 18)) 18 ((jx_al M) 17)) 17 ((jx_al M) 16)) 16 ((jx_al M) 15)) 15 ((jx_al M) 14)) 14 ((jx_al M) 13)) 13 ((jx_al M) 24)) 25 ((jx_al M) 26)) 26 ((jx_al M) 27)) 27 ((jx_al M) 28)) 28 ((jx_al M) 29)) 29 ((jx_al M) 30)) 30 ((jx_al M) 31)) 31 ((jx_al M) 32))))) ⟨hx, hb, hml, hown, hts⟩ (c_X5_cell l D g (1 : Int32) (8 : Int32)) (va_cwS 2 hts gX5_discsTurn_X5_cell rfl rfl rfl (by decide +kernel) ⟨Nat.le_of_ble_eq_true rfl, Nat.le_of_ble_eq_true rfl⟩) jk_nilP (jk_nilD (A := A)) hK hN rfl hl rfl (Nat.le_of_ble_eq_true rfl) dX5_discsTurn_94 ⟨Nat.zero_le _, Nat.zero_le _⟩ hS hA (fun _ _ hk => jk_keep hP hk) (fun H locs hP hS => ?_)
                                          refine W.eq (g2 := F0 m 97 ls [.int 33, .ref (a 1), .int 32, .ref (a 1)]) rfl ?_
                                          refine va_iald (f := (upd (upd (upd (upd (upd (upd (upd (upd (upd (upd (upd (upd (upd (upd (upd (upd (upd (upd (upd (jx_al M) 24 ((jx_al M) 23)) 23 ((jx_al M) 22)) 22 ((jx_al M) 21)) 21 ((jx_al M) 20)) 20 ((jx_al M) 19)) 19 ((jx_al M) 18)) 18 ((jx_al M) 17)) 17 ((jx_al M) 16)) 16 ((jx_al M) 15)) 15 ((jx_al M) 14)) 14 ((jx_al M) 13)) 13 ((jx_al M) 24)) 25 ((jx_al M) 26)) 26 ((jx_al M) 27)) 27 ((jx_al M) 28)) 28 ((jx_al M) 29)) 29 ((jx_al M) 30)) 30 ((jx_al M) 31)) 31 ((jx_al M) 32))) hx hb hK hP 1 0 rfl rfl (jk_inC (by decide +kernel)) dX5_discsTurn_97 ?_
                                          refine W.eq (g2 := F0 m 98 ls [.int ((jx_al M) 33), .int 32, .ref (a 1)]) rfl ?_
                                          refine va_iast (f := (upd (upd (upd (upd (upd (upd (upd (upd (upd (upd (upd (upd (upd (upd (upd (upd (upd (upd (upd (jx_al M) 24 ((jx_al M) 23)) 23 ((jx_al M) 22)) 22 ((jx_al M) 21)) 21 ((jx_al M) 20)) 20 ((jx_al M) 19)) 19 ((jx_al M) 18)) 18 ((jx_al M) 17)) 17 ((jx_al M) 16)) 16 ((jx_al M) 15)) 15 ((jx_al M) 14)) 14 ((jx_al M) 13)) 13 ((jx_al M) 24)) 25 ((jx_al M) 26)) 26 ((jx_al M) 27)) 27 ((jx_al M) 28)) 28 ((jx_al M) 29)) 29 ((jx_al M) 30)) 30 ((jx_al M) 31)) 31 ((jx_al M) 32))) hx hb hK hP hD hS 1 0 rfl rfl (jk_inC (by decide +kernel)) dX5_discsTurn_98 (fun H locs hP hD hS => ?_)
                                          have hP : va_P D vwCl (jx_W g a (jx_ual M (upd (upd (upd (upd (upd (upd (upd (upd (upd (upd (upd (upd (upd (upd (upd (upd (upd (upd (upd (upd (jx_al M) 24 ((jx_al M) 23)) 23 ((jx_al M) 22)) 22 ((jx_al M) 21)) 21 ((jx_al M) 20)) 20 ((jx_al M) 19)) 19 ((jx_al M) 18)) 18 ((jx_al M) 17)) 17 ((jx_al M) 16)) 16 ((jx_al M) 15)) 15 ((jx_al M) 14)) 14 ((jx_al M) 13)) 13 ((jx_al M) 24)) 25 ((jx_al M) 26)) 26 ((jx_al M) 27)) 27 ((jx_al M) 28)) 28 ((jx_al M) 29)) 29 ((jx_al M) 30)) 30 ((jx_al M) 31)) 31 ((jx_al M) 32)) 32 ((jx_al M) 33)))) H := hP
                                          have hD : va_D A (jx_W g a (jx_ual M (upd (upd (upd (upd (upd (upd (upd (upd (upd (upd (upd (upd (upd (upd (upd (upd (upd (upd (upd (upd (jx_al M) 24 ((jx_al M) 23)) 23 ((jx_al M) 22)) 22 ((jx_al M) 21)) 21 ((jx_al M) 20)) 20 ((jx_al M) 19)) 19 ((jx_al M) 18)) 18 ((jx_al M) 17)) 17 ((jx_al M) 16)) 16 ((jx_al M) 15)) 15 ((jx_al M) 14)) 14 ((jx_al M) 13)) 13 ((jx_al M) 24)) 25 ((jx_al M) 26)) 26 ((jx_al M) 27)) 27 ((jx_al M) 28)) 28 ((jx_al M) 29)) 29 ((jx_al M) 30)) 30 ((jx_al M) 31)) 31 ((jx_al M) 32)) 32 ((jx_al M) 33)))) := hD
                                          refine lv_iinc (v := 8) (lv' := [(3, .int 8), (2, .int ((jx_al M) 25)), (1, .int ((jx_al M) 24)), (0, .ref (a 0))]) hx hb dX5_discsTurn_99 hl (k := 0) rfl (by decide) (by decide) rfl (fun ls hl => ?_)
                                          refine lv_goto (tgt := 71) hx hb dX5_discsTurn_102 (by decide) ?_
                                          refine lv_iload_n hx hb dX5_discsTurn_71 rfl (lv_at hl 0 rfl) ?_
                                          refine lv_bipush (v := 11) hx hb dX5_discsTurn_72 (by decide) ?_
                                          refine lv_icmp_ge (tgt := 105) hx hb dX5_discsTurn_74 (by decide) (fun c21 => ?_) (fun c21 => ?_)
                                          · exact absurd c21 (by decide)
                                          · refine lv_aload_n hx hb dX5_discsTurn_77 rfl (lv_at hl 3 rfl) ?_
                                            refine va_get (D := D) (ci := 5) (v := .ref (a 1)) (C := RX5) (T := TX5) (N := 13) hx hb hts hi_5 hown hK hP 0 rfl rfl 0 (by decide) hf_7 (fun _ h9 => h9) rfl dX5_discsTurn_78 ?_
                                            refine lv_iconst (v := 1) hx hb dX5_discsTurn_81 (by decide) ?_
                                            refine lv_iload_n hx hb dX5_discsTurn_82 rfl (lv_at hl 0 rfl) ?_
                                            refine jk_callS (As := [.int 1, .int 8]) (rest := [.ref (a 1)]) (ws1 := (jx_W g a (jx_ual M (upd (upd (upd (upd (upd (upd (upd (upd (upd (upd (upd (upd (upd (upd (upd (upd (upd (upd (upd (upd (jx_al M) 24 ((jx_al M) 23)) 23 ((jx_al M) 22)) 22 ((jx_al M) 21)) 21 ((jx_al M) 20)) 20 ((jx_al M) 19)) 19 ((jx_al M) 18)) 18 ((jx_al M) 17)) 17 ((jx_al M) 16)) 16 ((jx_al M) 15)) 15 ((jx_al M) 14)) 14 ((jx_al M) 13)) 13 ((jx_al M) 24)) 25 ((jx_al M) 26)) 26 ((jx_al M) 27)) 27 ((jx_al M) 28)) 28 ((jx_al M) 29)) 29 ((jx_al M) 30)) 30 ((jx_al M) 31)) 31 ((jx_al M) 32)) 32 ((jx_al M) 33))))) ⟨hx, hb, hml, hown, hts⟩ (c_X5_cell l D g (1 : Int32) (8 : Int32)) (va_cwS 2 hts gX5_discsTurn_X5_cell rfl rfl rfl (by decide +kernel) ⟨Nat.le_of_ble_eq_true rfl, Nat.le_of_ble_eq_true rfl⟩) jk_nilP (jk_nilD (A := A)) hK hN rfl hl rfl (Nat.le_of_ble_eq_true rfl) dX5_discsTurn_83 ⟨Nat.zero_le _, Nat.zero_le _⟩ hS hA (fun _ _ hk => jk_keep hP hk) (fun H locs hP hS => ?_)
                                            refine W.eq (g2 := F0 m 86 ls [.int 33, .ref (a 1)]) rfl ?_
                                            refine lv_aload_n hx hb dX5_discsTurn_86 rfl (lv_at hl 3 rfl) ?_
                                            refine va_get (D := D) (ci := 5) (v := .ref (a 1)) (C := RX5) (T := TX5) (N := 13) hx hb hts hi_5 hown hK hP 0 rfl rfl 0 (by decide) hf_7 (fun _ h9 => h9) rfl dX5_discsTurn_87 ?_
                                            refine lv_iconst (v := 1) hx hb dX5_discsTurn_90 (by decide) ?_
                                            refine lv_iload_n hx hb dX5_discsTurn_91 rfl (lv_at hl 0 rfl) ?_
                                            refine lv_iconst (v := 1) hx hb dX5_discsTurn_92 (by decide) ?_
                                            refine lv_iadd hx hb dX5_discsTurn_93 ?_
                                            refine W.eq (g2 := F0 m 94 ls [.int 9, .int 1, .ref (a 1), .int 33, .ref (a 1)]) rfl ?_
                                            refine jk_callS (As := [.int 1, .int 9]) (rest := [.ref (a 1), .int 33, .ref (a 1)]) (ws1 := (jx_W g a (jx_ual M (upd (upd (upd (upd (upd (upd (upd (upd (upd (upd (upd (upd (upd (upd (upd (upd (upd (upd (upd (upd (jx_al M) 24 ((jx_al M) 23)) 23 ((jx_al M) 22)) 22 ((jx_al M) 21)) 21 ((jx_al M) 20)) 20 ((jx_al M) 19)) 19 ((jx_al M) 18)) 18 ((jx_al M) 17)) 17 ((jx_al M) 16)) 16 ((jx_al M) 15)) 15 ((jx_al M) 14)) 14 ((jx_al M) 13)) 13 ((jx_al M) 24)) 25 ((jx_al M) 26)) 26 ((jx_al M) 27)) 27 ((jx_al M) 28)) 28 ((jx_al M) 29)) 29 ((jx_al M) 30)) 30 ((jx_al M) 31)) 31 ((jx_al M) 32)) 32 ((jx_al M) 33))))) ⟨hx, hb, hml, hown, hts⟩ (c_X5_cell l D g (1 : Int32) (9 : Int32)) (va_cwS 2 hts gX5_discsTurn_X5_cell rfl rfl rfl (by decide +kernel) ⟨Nat.le_of_ble_eq_true rfl, Nat.le_of_ble_eq_true rfl⟩) jk_nilP (jk_nilD (A := A)) hK hN rfl hl rfl (Nat.le_of_ble_eq_true rfl) dX5_discsTurn_94 ⟨Nat.zero_le _, Nat.zero_le _⟩ hS hA (fun _ _ hk => jk_keep hP hk) (fun H locs hP hS => ?_)
                                            refine W.eq (g2 := F0 m 97 ls [.int 34, .ref (a 1), .int 33, .ref (a 1)]) rfl ?_
                                            refine va_iald (f := (upd (upd (upd (upd (upd (upd (upd (upd (upd (upd (upd (upd (upd (upd (upd (upd (upd (upd (upd (upd (jx_al M) 24 ((jx_al M) 23)) 23 ((jx_al M) 22)) 22 ((jx_al M) 21)) 21 ((jx_al M) 20)) 20 ((jx_al M) 19)) 19 ((jx_al M) 18)) 18 ((jx_al M) 17)) 17 ((jx_al M) 16)) 16 ((jx_al M) 15)) 15 ((jx_al M) 14)) 14 ((jx_al M) 13)) 13 ((jx_al M) 24)) 25 ((jx_al M) 26)) 26 ((jx_al M) 27)) 27 ((jx_al M) 28)) 28 ((jx_al M) 29)) 29 ((jx_al M) 30)) 30 ((jx_al M) 31)) 31 ((jx_al M) 32)) 32 ((jx_al M) 33))) hx hb hK hP 1 0 rfl rfl (jk_inC (by decide +kernel)) dX5_discsTurn_97 ?_
                                            refine W.eq (g2 := F0 m 98 ls [.int ((jx_al M) 34), .int 33, .ref (a 1)]) rfl ?_
                                            refine va_iast (f := (upd (upd (upd (upd (upd (upd (upd (upd (upd (upd (upd (upd (upd (upd (upd (upd (upd (upd (upd (upd (jx_al M) 24 ((jx_al M) 23)) 23 ((jx_al M) 22)) 22 ((jx_al M) 21)) 21 ((jx_al M) 20)) 20 ((jx_al M) 19)) 19 ((jx_al M) 18)) 18 ((jx_al M) 17)) 17 ((jx_al M) 16)) 16 ((jx_al M) 15)) 15 ((jx_al M) 14)) 14 ((jx_al M) 13)) 13 ((jx_al M) 24)) 25 ((jx_al M) 26)) 26 ((jx_al M) 27)) 27 ((jx_al M) 28)) 28 ((jx_al M) 29)) 29 ((jx_al M) 30)) 30 ((jx_al M) 31)) 31 ((jx_al M) 32)) 32 ((jx_al M) 33))) hx hb hK hP hD hS 1 0 rfl rfl (jk_inC (by decide +kernel)) dX5_discsTurn_98 (fun H locs hP hD hS => ?_)
                                            have hP : va_P D vwCl (jx_W g a (jx_ual M (upd (upd (upd (upd (upd (upd (upd (upd (upd (upd (upd (upd (upd (upd (upd (upd (upd (upd (upd (upd (upd (jx_al M) 24 ((jx_al M) 23)) 23 ((jx_al M) 22)) 22 ((jx_al M) 21)) 21 ((jx_al M) 20)) 20 ((jx_al M) 19)) 19 ((jx_al M) 18)) 18 ((jx_al M) 17)) 17 ((jx_al M) 16)) 16 ((jx_al M) 15)) 15 ((jx_al M) 14)) 14 ((jx_al M) 13)) 13 ((jx_al M) 24)) 25 ((jx_al M) 26)) 26 ((jx_al M) 27)) 27 ((jx_al M) 28)) 28 ((jx_al M) 29)) 29 ((jx_al M) 30)) 30 ((jx_al M) 31)) 31 ((jx_al M) 32)) 32 ((jx_al M) 33)) 33 ((jx_al M) 34)))) H := hP
                                            have hD : va_D A (jx_W g a (jx_ual M (upd (upd (upd (upd (upd (upd (upd (upd (upd (upd (upd (upd (upd (upd (upd (upd (upd (upd (upd (upd (upd (jx_al M) 24 ((jx_al M) 23)) 23 ((jx_al M) 22)) 22 ((jx_al M) 21)) 21 ((jx_al M) 20)) 20 ((jx_al M) 19)) 19 ((jx_al M) 18)) 18 ((jx_al M) 17)) 17 ((jx_al M) 16)) 16 ((jx_al M) 15)) 15 ((jx_al M) 14)) 14 ((jx_al M) 13)) 13 ((jx_al M) 24)) 25 ((jx_al M) 26)) 26 ((jx_al M) 27)) 27 ((jx_al M) 28)) 28 ((jx_al M) 29)) 29 ((jx_al M) 30)) 30 ((jx_al M) 31)) 31 ((jx_al M) 32)) 32 ((jx_al M) 33)) 33 ((jx_al M) 34)))) := hD
                                            refine lv_iinc (v := 9) (lv' := [(3, .int 9), (2, .int ((jx_al M) 25)), (1, .int ((jx_al M) 24)), (0, .ref (a 0))]) hx hb dX5_discsTurn_99 hl (k := 0) rfl (by decide) (by decide) rfl (fun ls hl => ?_)
                                            refine lv_goto (tgt := 71) hx hb dX5_discsTurn_102 (by decide) ?_
                                            refine lv_iload_n hx hb dX5_discsTurn_71 rfl (lv_at hl 0 rfl) ?_
                                            refine lv_bipush (v := 11) hx hb dX5_discsTurn_72 (by decide) ?_
                                            refine lv_icmp_ge (tgt := 105) hx hb dX5_discsTurn_74 (by decide) (fun c22 => ?_) (fun c22 => ?_)
                                            · exact absurd c22 (by decide)
                                            · refine lv_aload_n hx hb dX5_discsTurn_77 rfl (lv_at hl 3 rfl) ?_
                                              refine va_get (D := D) (ci := 5) (v := .ref (a 1)) (C := RX5) (T := TX5) (N := 13) hx hb hts hi_5 hown hK hP 0 rfl rfl 0 (by decide) hf_7 (fun _ h9 => h9) rfl dX5_discsTurn_78 ?_
                                              refine lv_iconst (v := 1) hx hb dX5_discsTurn_81 (by decide) ?_
                                              refine lv_iload_n hx hb dX5_discsTurn_82 rfl (lv_at hl 0 rfl) ?_
                                              refine jk_callS (As := [.int 1, .int 9]) (rest := [.ref (a 1)]) (ws1 := (jx_W g a (jx_ual M (upd (upd (upd (upd (upd (upd (upd (upd (upd (upd (upd (upd (upd (upd (upd (upd (upd (upd (upd (upd (upd (jx_al M) 24 ((jx_al M) 23)) 23 ((jx_al M) 22)) 22 ((jx_al M) 21)) 21 ((jx_al M) 20)) 20 ((jx_al M) 19)) 19 ((jx_al M) 18)) 18 ((jx_al M) 17)) 17 ((jx_al M) 16)) 16 ((jx_al M) 15)) 15 ((jx_al M) 14)) 14 ((jx_al M) 13)) 13 ((jx_al M) 24)) 25 ((jx_al M) 26)) 26 ((jx_al M) 27)) 27 ((jx_al M) 28)) 28 ((jx_al M) 29)) 29 ((jx_al M) 30)) 30 ((jx_al M) 31)) 31 ((jx_al M) 32)) 32 ((jx_al M) 33)) 33 ((jx_al M) 34))))) ⟨hx, hb, hml, hown, hts⟩ (c_X5_cell l D g (1 : Int32) (9 : Int32)) (va_cwS 2 hts gX5_discsTurn_X5_cell rfl rfl rfl (by decide +kernel) ⟨Nat.le_of_ble_eq_true rfl, Nat.le_of_ble_eq_true rfl⟩) jk_nilP (jk_nilD (A := A)) hK hN rfl hl rfl (Nat.le_of_ble_eq_true rfl) dX5_discsTurn_83 ⟨Nat.zero_le _, Nat.zero_le _⟩ hS hA (fun _ _ hk => jk_keep hP hk) (fun H locs hP hS => ?_)
                                              refine W.eq (g2 := F0 m 86 ls [.int 34, .ref (a 1)]) rfl ?_
                                              refine lv_aload_n hx hb dX5_discsTurn_86 rfl (lv_at hl 3 rfl) ?_
                                              refine va_get (D := D) (ci := 5) (v := .ref (a 1)) (C := RX5) (T := TX5) (N := 13) hx hb hts hi_5 hown hK hP 0 rfl rfl 0 (by decide) hf_7 (fun _ h9 => h9) rfl dX5_discsTurn_87 ?_
                                              refine lv_iconst (v := 1) hx hb dX5_discsTurn_90 (by decide) ?_
                                              refine lv_iload_n hx hb dX5_discsTurn_91 rfl (lv_at hl 0 rfl) ?_
                                              refine lv_iconst (v := 1) hx hb dX5_discsTurn_92 (by decide) ?_
                                              refine lv_iadd hx hb dX5_discsTurn_93 ?_
                                              refine W.eq (g2 := F0 m 94 ls [.int 10, .int 1, .ref (a 1), .int 34, .ref (a 1)]) rfl ?_
                                              refine jk_callS (As := [.int 1, .int 10]) (rest := [.ref (a 1), .int 34, .ref (a 1)]) (ws1 := (jx_W g a (jx_ual M (upd (upd (upd (upd (upd (upd (upd (upd (upd (upd (upd (upd (upd (upd (upd (upd (upd (upd (upd (upd (upd (jx_al M) 24 ((jx_al M) 23)) 23 ((jx_al M) 22)) 22 ((jx_al M) 21)) 21 ((jx_al M) 20)) 20 ((jx_al M) 19)) 19 ((jx_al M) 18)) 18 ((jx_al M) 17)) 17 ((jx_al M) 16)) 16 ((jx_al M) 15)) 15 ((jx_al M) 14)) 14 ((jx_al M) 13)) 13 ((jx_al M) 24)) 25 ((jx_al M) 26)) 26 ((jx_al M) 27)) 27 ((jx_al M) 28)) 28 ((jx_al M) 29)) 29 ((jx_al M) 30)) 30 ((jx_al M) 31)) 31 ((jx_al M) 32)) 32 ((jx_al M) 33)) 33 ((jx_al M) 34))))) ⟨hx, hb, hml, hown, hts⟩ (c_X5_cell l D g (1 : Int32) (10 : Int32)) (va_cwS 2 hts gX5_discsTurn_X5_cell rfl rfl rfl (by decide +kernel) ⟨Nat.le_of_ble_eq_true rfl, Nat.le_of_ble_eq_true rfl⟩) jk_nilP (jk_nilD (A := A)) hK hN rfl hl rfl (Nat.le_of_ble_eq_true rfl) dX5_discsTurn_94 ⟨Nat.zero_le _, Nat.zero_le _⟩ hS hA (fun _ _ hk => jk_keep hP hk) (fun H locs hP hS => ?_)
                                              refine W.eq (g2 := F0 m 97 ls [.int 35, .ref (a 1), .int 34, .ref (a 1)]) rfl ?_
                                              refine va_iald (f := (upd (upd (upd (upd (upd (upd (upd (upd (upd (upd (upd (upd (upd (upd (upd (upd (upd (upd (upd (upd (upd (jx_al M) 24 ((jx_al M) 23)) 23 ((jx_al M) 22)) 22 ((jx_al M) 21)) 21 ((jx_al M) 20)) 20 ((jx_al M) 19)) 19 ((jx_al M) 18)) 18 ((jx_al M) 17)) 17 ((jx_al M) 16)) 16 ((jx_al M) 15)) 15 ((jx_al M) 14)) 14 ((jx_al M) 13)) 13 ((jx_al M) 24)) 25 ((jx_al M) 26)) 26 ((jx_al M) 27)) 27 ((jx_al M) 28)) 28 ((jx_al M) 29)) 29 ((jx_al M) 30)) 30 ((jx_al M) 31)) 31 ((jx_al M) 32)) 32 ((jx_al M) 33)) 33 ((jx_al M) 34))) hx hb hK hP 1 0 rfl rfl (jk_inC (by decide +kernel)) dX5_discsTurn_97 ?_
                                              refine W.eq (g2 := F0 m 98 ls [.int ((jx_al M) 35), .int 34, .ref (a 1)]) rfl ?_
                                              refine va_iast (f := (upd (upd (upd (upd (upd (upd (upd (upd (upd (upd (upd (upd (upd (upd (upd (upd (upd (upd (upd (upd (upd (jx_al M) 24 ((jx_al M) 23)) 23 ((jx_al M) 22)) 22 ((jx_al M) 21)) 21 ((jx_al M) 20)) 20 ((jx_al M) 19)) 19 ((jx_al M) 18)) 18 ((jx_al M) 17)) 17 ((jx_al M) 16)) 16 ((jx_al M) 15)) 15 ((jx_al M) 14)) 14 ((jx_al M) 13)) 13 ((jx_al M) 24)) 25 ((jx_al M) 26)) 26 ((jx_al M) 27)) 27 ((jx_al M) 28)) 28 ((jx_al M) 29)) 29 ((jx_al M) 30)) 30 ((jx_al M) 31)) 31 ((jx_al M) 32)) 32 ((jx_al M) 33)) 33 ((jx_al M) 34))) hx hb hK hP hD hS 1 0 rfl rfl (jk_inC (by decide +kernel)) dX5_discsTurn_98 (fun H locs hP hD hS => ?_)
                                              have hP : va_P D vwCl (jx_W g a (jx_ual M (upd (upd (upd (upd (upd (upd (upd (upd (upd (upd (upd (upd (upd (upd (upd (upd (upd (upd (upd (upd (upd (upd (jx_al M) 24 ((jx_al M) 23)) 23 ((jx_al M) 22)) 22 ((jx_al M) 21)) 21 ((jx_al M) 20)) 20 ((jx_al M) 19)) 19 ((jx_al M) 18)) 18 ((jx_al M) 17)) 17 ((jx_al M) 16)) 16 ((jx_al M) 15)) 15 ((jx_al M) 14)) 14 ((jx_al M) 13)) 13 ((jx_al M) 24)) 25 ((jx_al M) 26)) 26 ((jx_al M) 27)) 27 ((jx_al M) 28)) 28 ((jx_al M) 29)) 29 ((jx_al M) 30)) 30 ((jx_al M) 31)) 31 ((jx_al M) 32)) 32 ((jx_al M) 33)) 33 ((jx_al M) 34)) 34 ((jx_al M) 35)))) H := hP
                                              have hD : va_D A (jx_W g a (jx_ual M (upd (upd (upd (upd (upd (upd (upd (upd (upd (upd (upd (upd (upd (upd (upd (upd (upd (upd (upd (upd (upd (upd (jx_al M) 24 ((jx_al M) 23)) 23 ((jx_al M) 22)) 22 ((jx_al M) 21)) 21 ((jx_al M) 20)) 20 ((jx_al M) 19)) 19 ((jx_al M) 18)) 18 ((jx_al M) 17)) 17 ((jx_al M) 16)) 16 ((jx_al M) 15)) 15 ((jx_al M) 14)) 14 ((jx_al M) 13)) 13 ((jx_al M) 24)) 25 ((jx_al M) 26)) 26 ((jx_al M) 27)) 27 ((jx_al M) 28)) 28 ((jx_al M) 29)) 29 ((jx_al M) 30)) 30 ((jx_al M) 31)) 31 ((jx_al M) 32)) 32 ((jx_al M) 33)) 33 ((jx_al M) 34)) 34 ((jx_al M) 35)))) := hD
                                              refine lv_iinc (v := 10) (lv' := [(3, .int 10), (2, .int ((jx_al M) 25)), (1, .int ((jx_al M) 24)), (0, .ref (a 0))]) hx hb dX5_discsTurn_99 hl (k := 0) rfl (by decide) (by decide) rfl (fun ls hl => ?_)
                                              refine lv_goto (tgt := 71) hx hb dX5_discsTurn_102 (by decide) ?_
                                              refine lv_iload_n hx hb dX5_discsTurn_71 rfl (lv_at hl 0 rfl) ?_
                                              refine lv_bipush (v := 11) hx hb dX5_discsTurn_72 (by decide) ?_
                                              refine lv_icmp_ge (tgt := 105) hx hb dX5_discsTurn_74 (by decide) (fun c23 => ?_) (fun c23 => ?_)
                                              · exact absurd c23 (by decide)
                                              · refine lv_aload_n hx hb dX5_discsTurn_77 rfl (lv_at hl 3 rfl) ?_
                                                refine va_get (D := D) (ci := 5) (v := .ref (a 1)) (C := RX5) (T := TX5) (N := 13) hx hb hts hi_5 hown hK hP 0 rfl rfl 0 (by decide) hf_7 (fun _ h9 => h9) rfl dX5_discsTurn_78 ?_
                                                refine lv_iconst (v := 1) hx hb dX5_discsTurn_81 (by decide) ?_
                                                refine lv_iload_n hx hb dX5_discsTurn_82 rfl (lv_at hl 0 rfl) ?_
                                                refine jk_callS (As := [.int 1, .int 10]) (rest := [.ref (a 1)]) (ws1 := (jx_W g a (jx_ual M (upd (upd (upd (upd (upd (upd (upd (upd (upd (upd (upd (upd (upd (upd (upd (upd (upd (upd (upd (upd (upd (upd (jx_al M) 24 ((jx_al M) 23)) 23 ((jx_al M) 22)) 22 ((jx_al M) 21)) 21 ((jx_al M) 20)) 20 ((jx_al M) 19)) 19 ((jx_al M) 18)) 18 ((jx_al M) 17)) 17 ((jx_al M) 16)) 16 ((jx_al M) 15)) 15 ((jx_al M) 14)) 14 ((jx_al M) 13)) 13 ((jx_al M) 24)) 25 ((jx_al M) 26)) 26 ((jx_al M) 27)) 27 ((jx_al M) 28)) 28 ((jx_al M) 29)) 29 ((jx_al M) 30)) 30 ((jx_al M) 31)) 31 ((jx_al M) 32)) 32 ((jx_al M) 33)) 33 ((jx_al M) 34)) 34 ((jx_al M) 35))))) ⟨hx, hb, hml, hown, hts⟩ (c_X5_cell l D g (1 : Int32) (10 : Int32)) (va_cwS 2 hts gX5_discsTurn_X5_cell rfl rfl rfl (by decide +kernel) ⟨Nat.le_of_ble_eq_true rfl, Nat.le_of_ble_eq_true rfl⟩) jk_nilP (jk_nilD (A := A)) hK hN rfl hl rfl (Nat.le_of_ble_eq_true rfl) dX5_discsTurn_83 ⟨Nat.zero_le _, Nat.zero_le _⟩ hS hA (fun _ _ hk => jk_keep hP hk) (fun H locs hP hS => ?_)
                                                refine W.eq (g2 := F0 m 86 ls [.int 35, .ref (a 1)]) rfl ?_
                                                refine lv_aload_n hx hb dX5_discsTurn_86 rfl (lv_at hl 3 rfl) ?_
                                                refine va_get (D := D) (ci := 5) (v := .ref (a 1)) (C := RX5) (T := TX5) (N := 13) hx hb hts hi_5 hown hK hP 0 rfl rfl 0 (by decide) hf_7 (fun _ h9 => h9) rfl dX5_discsTurn_87 ?_
                                                refine lv_iconst (v := 1) hx hb dX5_discsTurn_90 (by decide) ?_
                                                refine lv_iload_n hx hb dX5_discsTurn_91 rfl (lv_at hl 0 rfl) ?_
                                                refine lv_iconst (v := 1) hx hb dX5_discsTurn_92 (by decide) ?_
                                                refine lv_iadd hx hb dX5_discsTurn_93 ?_
                                                refine W.eq (g2 := F0 m 94 ls [.int 11, .int 1, .ref (a 1), .int 35, .ref (a 1)]) rfl ?_
                                                refine jk_callS (As := [.int 1, .int 11]) (rest := [.ref (a 1), .int 35, .ref (a 1)]) (ws1 := (jx_W g a (jx_ual M (upd (upd (upd (upd (upd (upd (upd (upd (upd (upd (upd (upd (upd (upd (upd (upd (upd (upd (upd (upd (upd (upd (jx_al M) 24 ((jx_al M) 23)) 23 ((jx_al M) 22)) 22 ((jx_al M) 21)) 21 ((jx_al M) 20)) 20 ((jx_al M) 19)) 19 ((jx_al M) 18)) 18 ((jx_al M) 17)) 17 ((jx_al M) 16)) 16 ((jx_al M) 15)) 15 ((jx_al M) 14)) 14 ((jx_al M) 13)) 13 ((jx_al M) 24)) 25 ((jx_al M) 26)) 26 ((jx_al M) 27)) 27 ((jx_al M) 28)) 28 ((jx_al M) 29)) 29 ((jx_al M) 30)) 30 ((jx_al M) 31)) 31 ((jx_al M) 32)) 32 ((jx_al M) 33)) 33 ((jx_al M) 34)) 34 ((jx_al M) 35))))) ⟨hx, hb, hml, hown, hts⟩ (c_X5_cell l D g (1 : Int32) (11 : Int32)) (va_cwS 2 hts gX5_discsTurn_X5_cell rfl rfl rfl (by decide +kernel) ⟨Nat.le_of_ble_eq_true rfl, Nat.le_of_ble_eq_true rfl⟩) jk_nilP (jk_nilD (A := A)) hK hN rfl hl rfl (Nat.le_of_ble_eq_true rfl) dX5_discsTurn_94 ⟨Nat.zero_le _, Nat.zero_le _⟩ hS hA (fun _ _ hk => jk_keep hP hk) (fun H locs hP hS => ?_)
                                                refine W.eq (g2 := F0 m 97 ls [.int 36, .ref (a 1), .int 35, .ref (a 1)]) rfl ?_
                                                refine va_iald (f := (upd (upd (upd (upd (upd (upd (upd (upd (upd (upd (upd (upd (upd (upd (upd (upd (upd (upd (upd (upd (upd (upd (jx_al M) 24 ((jx_al M) 23)) 23 ((jx_al M) 22)) 22 ((jx_al M) 21)) 21 ((jx_al M) 20)) 20 ((jx_al M) 19)) 19 ((jx_al M) 18)) 18 ((jx_al M) 17)) 17 ((jx_al M) 16)) 16 ((jx_al M) 15)) 15 ((jx_al M) 14)) 14 ((jx_al M) 13)) 13 ((jx_al M) 24)) 25 ((jx_al M) 26)) 26 ((jx_al M) 27)) 27 ((jx_al M) 28)) 28 ((jx_al M) 29)) 29 ((jx_al M) 30)) 30 ((jx_al M) 31)) 31 ((jx_al M) 32)) 32 ((jx_al M) 33)) 33 ((jx_al M) 34)) 34 ((jx_al M) 35))) hx hb hK hP 1 0 rfl rfl (jk_inC (by decide +kernel)) dX5_discsTurn_97 ?_
                                                refine W.eq (g2 := F0 m 98 ls [.int ((jx_al M) 36), .int 35, .ref (a 1)]) rfl ?_
                                                refine va_iast (f := (upd (upd (upd (upd (upd (upd (upd (upd (upd (upd (upd (upd (upd (upd (upd (upd (upd (upd (upd (upd (upd (upd (jx_al M) 24 ((jx_al M) 23)) 23 ((jx_al M) 22)) 22 ((jx_al M) 21)) 21 ((jx_al M) 20)) 20 ((jx_al M) 19)) 19 ((jx_al M) 18)) 18 ((jx_al M) 17)) 17 ((jx_al M) 16)) 16 ((jx_al M) 15)) 15 ((jx_al M) 14)) 14 ((jx_al M) 13)) 13 ((jx_al M) 24)) 25 ((jx_al M) 26)) 26 ((jx_al M) 27)) 27 ((jx_al M) 28)) 28 ((jx_al M) 29)) 29 ((jx_al M) 30)) 30 ((jx_al M) 31)) 31 ((jx_al M) 32)) 32 ((jx_al M) 33)) 33 ((jx_al M) 34)) 34 ((jx_al M) 35))) hx hb hK hP hD hS 1 0 rfl rfl (jk_inC (by decide +kernel)) dX5_discsTurn_98 (fun H locs hP hD hS => ?_)
                                                have hP : va_P D vwCl (jx_W g a (jx_ual M (upd (upd (upd (upd (upd (upd (upd (upd (upd (upd (upd (upd (upd (upd (upd (upd (upd (upd (upd (upd (upd (upd (upd (jx_al M) 24 ((jx_al M) 23)) 23 ((jx_al M) 22)) 22 ((jx_al M) 21)) 21 ((jx_al M) 20)) 20 ((jx_al M) 19)) 19 ((jx_al M) 18)) 18 ((jx_al M) 17)) 17 ((jx_al M) 16)) 16 ((jx_al M) 15)) 15 ((jx_al M) 14)) 14 ((jx_al M) 13)) 13 ((jx_al M) 24)) 25 ((jx_al M) 26)) 26 ((jx_al M) 27)) 27 ((jx_al M) 28)) 28 ((jx_al M) 29)) 29 ((jx_al M) 30)) 30 ((jx_al M) 31)) 31 ((jx_al M) 32)) 32 ((jx_al M) 33)) 33 ((jx_al M) 34)) 34 ((jx_al M) 35)) 35 ((jx_al M) 36)))) H := hP
                                                have hD : va_D A (jx_W g a (jx_ual M (upd (upd (upd (upd (upd (upd (upd (upd (upd (upd (upd (upd (upd (upd (upd (upd (upd (upd (upd (upd (upd (upd (upd (jx_al M) 24 ((jx_al M) 23)) 23 ((jx_al M) 22)) 22 ((jx_al M) 21)) 21 ((jx_al M) 20)) 20 ((jx_al M) 19)) 19 ((jx_al M) 18)) 18 ((jx_al M) 17)) 17 ((jx_al M) 16)) 16 ((jx_al M) 15)) 15 ((jx_al M) 14)) 14 ((jx_al M) 13)) 13 ((jx_al M) 24)) 25 ((jx_al M) 26)) 26 ((jx_al M) 27)) 27 ((jx_al M) 28)) 28 ((jx_al M) 29)) 29 ((jx_al M) 30)) 30 ((jx_al M) 31)) 31 ((jx_al M) 32)) 32 ((jx_al M) 33)) 33 ((jx_al M) 34)) 34 ((jx_al M) 35)) 35 ((jx_al M) 36)))) := hD
                                                refine lv_iinc (v := 11) (lv' := [(3, .int 11), (2, .int ((jx_al M) 25)), (1, .int ((jx_al M) 24)), (0, .ref (a 0))]) hx hb dX5_discsTurn_99 hl (k := 0) rfl (by decide) (by decide) rfl (fun ls hl => ?_)
                                                refine lv_goto (tgt := 71) hx hb dX5_discsTurn_102 (by decide) ?_
                                                refine lv_iload_n hx hb dX5_discsTurn_71 rfl (lv_at hl 0 rfl) ?_
                                                refine lv_bipush (v := 11) hx hb dX5_discsTurn_72 (by decide) ?_
                                                refine lv_icmp_ge (tgt := 105) hx hb dX5_discsTurn_74 (by decide) (fun c24 => ?_) (fun c24 => ?_)
                                                · refine lv_aload_n hx hb dX5_discsTurn_105 rfl (lv_at hl 3 rfl) ?_
                                                  refine va_get (D := D) (ci := 5) (v := .ref (a 1)) (C := RX5) (T := TX5) (N := 13) hx hb hts hi_5 hown hK hP 0 rfl rfl 0 (by decide) hf_7 (fun _ h9 => h9) rfl dX5_discsTurn_106 ?_
                                                  refine lv_iconst (v := 1) hx hb dX5_discsTurn_109 (by decide) ?_
                                                  refine lv_bipush (v := 11) hx hb dX5_discsTurn_110 (by decide) ?_
                                                  refine jk_callS (As := [.int 1, .int 11]) (rest := [.ref (a 1)]) (ws1 := (jx_W g a (jx_ual M (upd (upd (upd (upd (upd (upd (upd (upd (upd (upd (upd (upd (upd (upd (upd (upd (upd (upd (upd (upd (upd (upd (upd (jx_al M) 24 ((jx_al M) 23)) 23 ((jx_al M) 22)) 22 ((jx_al M) 21)) 21 ((jx_al M) 20)) 20 ((jx_al M) 19)) 19 ((jx_al M) 18)) 18 ((jx_al M) 17)) 17 ((jx_al M) 16)) 16 ((jx_al M) 15)) 15 ((jx_al M) 14)) 14 ((jx_al M) 13)) 13 ((jx_al M) 24)) 25 ((jx_al M) 26)) 26 ((jx_al M) 27)) 27 ((jx_al M) 28)) 28 ((jx_al M) 29)) 29 ((jx_al M) 30)) 30 ((jx_al M) 31)) 31 ((jx_al M) 32)) 32 ((jx_al M) 33)) 33 ((jx_al M) 34)) 34 ((jx_al M) 35)) 35 ((jx_al M) 36))))) ⟨hx, hb, hml, hown, hts⟩ (c_X5_cell l D g (1 : Int32) (11 : Int32)) (va_cwS 2 hts gX5_discsTurn_X5_cell rfl rfl rfl (by decide +kernel) ⟨Nat.le_of_ble_eq_true rfl, Nat.le_of_ble_eq_true rfl⟩) jk_nilP (jk_nilD (A := A)) hK hN rfl hl rfl (Nat.le_of_ble_eq_true rfl) dX5_discsTurn_112 ⟨Nat.zero_le _, Nat.zero_le _⟩ hS hA (fun _ _ hk => jk_keep hP hk) (fun H locs hP hS => ?_)
                                                  refine W.eq (g2 := F0 m 115 ls [.int 36, .ref (a 1)]) rfl ?_
                                                  refine lv_iload_n hx hb dX5_discsTurn_115 rfl (lv_at hl 1 rfl) ?_
                                                  refine va_iast (f := (upd (upd (upd (upd (upd (upd (upd (upd (upd (upd (upd (upd (upd (upd (upd (upd (upd (upd (upd (upd (upd (upd (upd (jx_al M) 24 ((jx_al M) 23)) 23 ((jx_al M) 22)) 22 ((jx_al M) 21)) 21 ((jx_al M) 20)) 20 ((jx_al M) 19)) 19 ((jx_al M) 18)) 18 ((jx_al M) 17)) 17 ((jx_al M) 16)) 16 ((jx_al M) 15)) 15 ((jx_al M) 14)) 14 ((jx_al M) 13)) 13 ((jx_al M) 24)) 25 ((jx_al M) 26)) 26 ((jx_al M) 27)) 27 ((jx_al M) 28)) 28 ((jx_al M) 29)) 29 ((jx_al M) 30)) 30 ((jx_al M) 31)) 31 ((jx_al M) 32)) 32 ((jx_al M) 33)) 33 ((jx_al M) 34)) 34 ((jx_al M) 35)) 35 ((jx_al M) 36))) hx hb hK hP hD hS 1 0 rfl rfl (jk_inC (by decide +kernel)) dX5_discsTurn_116 (fun H locs hP hD hS => ?_)
                                                  have hP : va_P D vwCl (jx_W g a (jx_ual M (upd (upd (upd (upd (upd (upd (upd (upd (upd (upd (upd (upd (upd (upd (upd (upd (upd (upd (upd (upd (upd (upd (upd (upd (jx_al M) 24 ((jx_al M) 23)) 23 ((jx_al M) 22)) 22 ((jx_al M) 21)) 21 ((jx_al M) 20)) 20 ((jx_al M) 19)) 19 ((jx_al M) 18)) 18 ((jx_al M) 17)) 17 ((jx_al M) 16)) 16 ((jx_al M) 15)) 15 ((jx_al M) 14)) 14 ((jx_al M) 13)) 13 ((jx_al M) 24)) 25 ((jx_al M) 26)) 26 ((jx_al M) 27)) 27 ((jx_al M) 28)) 28 ((jx_al M) 29)) 29 ((jx_al M) 30)) 30 ((jx_al M) 31)) 31 ((jx_al M) 32)) 32 ((jx_al M) 33)) 33 ((jx_al M) 34)) 34 ((jx_al M) 35)) 35 ((jx_al M) 36)) 36 ((jx_al M) 25)))) H := hP
                                                  have hD : va_D A (jx_W g a (jx_ual M (upd (upd (upd (upd (upd (upd (upd (upd (upd (upd (upd (upd (upd (upd (upd (upd (upd (upd (upd (upd (upd (upd (upd (upd (jx_al M) 24 ((jx_al M) 23)) 23 ((jx_al M) 22)) 22 ((jx_al M) 21)) 21 ((jx_al M) 20)) 20 ((jx_al M) 19)) 19 ((jx_al M) 18)) 18 ((jx_al M) 17)) 17 ((jx_al M) 16)) 16 ((jx_al M) 15)) 15 ((jx_al M) 14)) 14 ((jx_al M) 13)) 13 ((jx_al M) 24)) 25 ((jx_al M) 26)) 26 ((jx_al M) 27)) 27 ((jx_al M) 28)) 28 ((jx_al M) 29)) 29 ((jx_al M) 30)) 30 ((jx_al M) 31)) 31 ((jx_al M) 32)) 32 ((jx_al M) 33)) 33 ((jx_al M) 34)) 34 ((jx_al M) 35)) 35 ((jx_al M) 36)) 36 ((jx_al M) 25)))) := hD
                                                  exact jk_vret hx hb hr hlocks hP hS (congrArg (fun z => (jx_W g a z)) ((rfl).symm)) dX5_discsTurn_117
                                                · exact absurd c24 (by decide)
                        · exact absurd c12 (by decide)

def sX5_joins_0 (M : jx_T) : jx_T := let x1 : Int32 := ((jx_al M) 15) + ((jx_al M) 21); let x2 : Int32 := ((jx_al M) 33) - ((jx_al M) 27); let x3 : Int32 := (x1 / 2) + ((x2 * ((jx_al M) 0)) / 32); let x4 : Int32 := rX5_cut (x3 - ((jx_al M) 15)) ((-99) - ((jx_al M) 15)) (99 - ((jx_al M) 15)); let x5 : Int32 := rX5_cut x4 (((jx_al M) 21) - 99) (((jx_al M) 21) + 99); (jx_ual M (upd (upd (jx_al M) 15 (((jx_al M) 15) + x5)) 21 (((jx_al M) 21) - x5)))
set_option maxHeartbeats 4000000 in
set_option maxRecDepth 100000 in
theorem c_X5_joins_0 (l : Launch) (D : va_G) (g : jk_G) (a : Nat → Nat) (M : jx_T)  : jk_M l D g yX5_joins wsX5_joins 1 22 [.ref (a 0), .int 0, .int 2, .int 8] (jx_W g a M) none (jx_W g a (sX5_joins_0 M)) := by
  refine jk_of (cc := cX5_joins) (maxL := 8) (ret := none) (by decide +kernel) rfl (Nat.le_of_ble_eq_true rfl) ?_
  intro p e s m args below meth c hx hb hr hml hts hown hlocks hK hN A H locs hP hD hA hS ls hl
  have hown : s.vm.findClass RX5 = some m.cls := hown
  have hl : lv_has ls 8 [(0, .ref (a 0)), (1, .int 0), (2, .int 2), (3, .int 8)] := hl
  have hf_7 := hts (.fieldLink RX5 7 "InfluenceJarsModel" "all" "[I") (by decide +kernel)
  have hi_5 : ∀ w ∈ u_ws RX5 TX5 13, w ∈ wsX5_joins := by decide +kernel
  refine lv_aload_n hx hb dX5_joins_0 rfl (lv_at hl 0 rfl) ?_
  refine va_get (D := D) (ci := 5) (v := .ref (a 1)) (C := RX5) (T := TX5) (N := 13) hx hb hts hi_5 hown hK hP 0 rfl rfl 0 (by decide) hf_7 (fun _ h9 => h9) rfl dX5_joins_1 ?_
  refine lv_iload_n hx hb dX5_joins_4 rfl (lv_at hl 1 rfl) ?_
  refine lv_iload_n hx hb dX5_joins_5 rfl (lv_at hl 2 rfl) ?_
  refine jk_callS (As := [.int 0, .int 2]) (rest := [.ref (a 1)]) (ws1 := (jx_W g a M)) ⟨hx, hb, hml, hown, hts⟩ (c_X5_cell l D g (0 : Int32) (2 : Int32)) (va_cwS 2 hts gX5_joins_X5_cell rfl rfl rfl (by decide +kernel) ⟨Nat.le_of_ble_eq_true rfl, Nat.le_of_ble_eq_true rfl⟩) jk_nilP (jk_nilD (A := A)) hK hN rfl hl rfl (Nat.le_of_ble_eq_true rfl) dX5_joins_6 ⟨Nat.zero_le _, Nat.zero_le _⟩ hS hA (fun _ _ hk => jk_keep hP hk) (fun H locs hP hS => ?_)
  refine W.eq (g2 := F0 m 9 ls [.int 15, .ref (a 1)]) rfl ?_
  refine va_iald (f := (jx_al M)) hx hb hK hP 1 0 rfl rfl (jk_inC (by decide +kernel)) dX5_joins_9 ?_
  refine W.eq (g2 := F0 m 10 ls [.int ((jx_al M) 15)]) rfl ?_
  refine lv_istore (lv' := [(4, .int ((jx_al M) 15)), (0, .ref (a 0)), (1, .int 0), (2, .int 2), (3, .int 8)]) hx hb dX5_joins_10 hl (by decide) rfl (fun ls hl => ?_)
  refine lv_aload_n hx hb dX5_joins_12 rfl (lv_at hl 1 rfl) ?_
  refine va_get (D := D) (ci := 5) (v := .ref (a 1)) (C := RX5) (T := TX5) (N := 13) hx hb hts hi_5 hown hK hP 0 rfl rfl 0 (by decide) hf_7 (fun _ h9 => h9) rfl dX5_joins_13 ?_
  refine lv_iload_n hx hb dX5_joins_16 rfl (lv_at hl 2 rfl) ?_
  refine lv_iload_n hx hb dX5_joins_17 rfl (lv_at hl 4 rfl) ?_
  refine jk_callS (As := [.int 0, .int 8]) (rest := [.ref (a 1)]) (ws1 := (jx_W g a M)) ⟨hx, hb, hml, hown, hts⟩ (c_X5_cell l D g (0 : Int32) (8 : Int32)) (va_cwS 2 hts gX5_joins_X5_cell rfl rfl rfl (by decide +kernel) ⟨Nat.le_of_ble_eq_true rfl, Nat.le_of_ble_eq_true rfl⟩) jk_nilP (jk_nilD (A := A)) hK hN rfl hl rfl (Nat.le_of_ble_eq_true rfl) dX5_joins_18 ⟨Nat.zero_le _, Nat.zero_le _⟩ hS hA (fun _ _ hk => jk_keep hP hk) (fun H locs hP hS => ?_)
  refine W.eq (g2 := F0 m 21 ls [.int 21, .ref (a 1)]) rfl ?_
  refine va_iald (f := (jx_al M)) hx hb hK hP 1 0 rfl rfl (jk_inC (by decide +kernel)) dX5_joins_21 ?_
  refine W.eq (g2 := F0 m 22 ls [.int ((jx_al M) 21)]) rfl ?_
  refine lv_istore (lv' := [(5, .int ((jx_al M) 21)), (4, .int ((jx_al M) 15)), (0, .ref (a 0)), (1, .int 0), (2, .int 2), (3, .int 8)]) hx hb dX5_joins_22 hl (by decide) rfl (fun ls hl => ?_)
  refine lv_iload hx hb dX5_joins_24 (lv_at hl 1 rfl) ?_
  refine lv_iload hx hb dX5_joins_26 (lv_at hl 0 rfl) ?_
  refine lv_iadd hx hb dX5_joins_28 ?_
  refine lv_topi (fun x1 ex1 => ?_)
  refine lv_iconst (v := 2) hx hb dX5_joins_29 (by decide) ?_
  refine lv_idiv hx hb dX5_joins_30 (by decide) ?_
  refine lv_aload_n hx hb dX5_joins_31 rfl (lv_at hl 2 rfl) ?_
  refine va_get (D := D) (ci := 5) (v := .ref (a 1)) (C := RX5) (T := TX5) (N := 13) hx hb hts hi_5 hown hK hP 0 rfl rfl 0 (by decide) hf_7 (fun _ h9 => h9) rfl dX5_joins_32 ?_
  refine lv_iconst (v := 1) hx hb dX5_joins_35 (by decide) ?_
  refine lv_iload_n hx hb dX5_joins_36 rfl (lv_at hl 3 rfl) ?_
  refine lv_isub hx hb dX5_joins_37 ?_
  refine W.eq (g2 := F0 m 38 ls [.int 1, .ref (a 1), .int (x1 / 2)]) rfl ?_
  refine lv_iload_n hx hb dX5_joins_38 rfl (lv_at hl 5 rfl) ?_
  refine jk_callS (As := [.int 1, .int 8]) (rest := [.ref (a 1), .int (x1 / 2)]) (ws1 := (jx_W g a M)) ⟨hx, hb, hml, hown, hts⟩ (c_X5_cell l D g (1 : Int32) (8 : Int32)) (va_cwS 2 hts gX5_joins_X5_cell rfl rfl rfl (by decide +kernel) ⟨Nat.le_of_ble_eq_true rfl, Nat.le_of_ble_eq_true rfl⟩) jk_nilP (jk_nilD (A := A)) hK hN rfl hl rfl (Nat.le_of_ble_eq_true rfl) dX5_joins_39 ⟨Nat.zero_le _, Nat.zero_le _⟩ hS hA (fun _ _ hk => jk_keep hP hk) (fun H locs hP hS => ?_)
  refine W.eq (g2 := F0 m 42 ls [.int 33, .ref (a 1), .int (x1 / 2)]) rfl ?_
  refine va_iald (f := (jx_al M)) hx hb hK hP 1 0 rfl rfl (jk_inC (by decide +kernel)) dX5_joins_42 ?_
  refine W.eq (g2 := F0 m 43 ls [.int ((jx_al M) 33), .int (x1 / 2)]) rfl ?_
  refine lv_aload_n hx hb dX5_joins_43 rfl (lv_at hl 2 rfl) ?_
  refine va_get (D := D) (ci := 5) (v := .ref (a 1)) (C := RX5) (T := TX5) (N := 13) hx hb hts hi_5 hown hK hP 0 rfl rfl 0 (by decide) hf_7 (fun _ h9 => h9) rfl dX5_joins_44 ?_
  refine lv_iconst (v := 1) hx hb dX5_joins_47 (by decide) ?_
  refine lv_iload_n hx hb dX5_joins_48 rfl (lv_at hl 3 rfl) ?_
  refine lv_isub hx hb dX5_joins_49 ?_
  refine W.eq (g2 := F0 m 50 ls [.int 1, .ref (a 1), .int ((jx_al M) 33), .int (x1 / 2)]) rfl ?_
  refine lv_iload_n hx hb dX5_joins_50 rfl (lv_at hl 4 rfl) ?_
  refine jk_callS (As := [.int 1, .int 2]) (rest := [.ref (a 1), .int ((jx_al M) 33), .int (x1 / 2)]) (ws1 := (jx_W g a M)) ⟨hx, hb, hml, hown, hts⟩ (c_X5_cell l D g (1 : Int32) (2 : Int32)) (va_cwS 2 hts gX5_joins_X5_cell rfl rfl rfl (by decide +kernel) ⟨Nat.le_of_ble_eq_true rfl, Nat.le_of_ble_eq_true rfl⟩) jk_nilP (jk_nilD (A := A)) hK hN rfl hl rfl (Nat.le_of_ble_eq_true rfl) dX5_joins_51 ⟨Nat.zero_le _, Nat.zero_le _⟩ hS hA (fun _ _ hk => jk_keep hP hk) (fun H locs hP hS => ?_)
  refine W.eq (g2 := F0 m 54 ls [.int 27, .ref (a 1), .int ((jx_al M) 33), .int (x1 / 2)]) rfl ?_
  refine va_iald (f := (jx_al M)) hx hb hK hP 1 0 rfl rfl (jk_inC (by decide +kernel)) dX5_joins_54 ?_
  refine W.eq (g2 := F0 m 55 ls [.int ((jx_al M) 27), .int ((jx_al M) 33), .int (x1 / 2)]) rfl ?_
  refine lv_isub hx hb dX5_joins_55 ?_
  refine lv_topi (fun x2 ex2 => ?_)
  refine lv_aload_n hx hb dX5_joins_56 rfl (lv_at hl 2 rfl) ?_
  refine va_get (D := D) (ci := 5) (v := .ref (a 1)) (C := RX5) (T := TX5) (N := 13) hx hb hts hi_5 hown hK hP 0 rfl rfl 0 (by decide) hf_7 (fun _ h9 => h9) rfl dX5_joins_57 ?_
  refine lv_iconst (v := 0) hx hb dX5_joins_60 (by decide) ?_
  refine va_iald (f := (jx_al M)) hx hb hK hP 1 0 rfl rfl (jk_inC (by decide +kernel)) dX5_joins_61 ?_
  refine W.eq (g2 := F0 m 62 ls [.int ((jx_al M) 0), .int x2, .int (x1 / 2)]) rfl ?_
  refine lv_imul hx hb dX5_joins_62 ?_
  refine lv_bipush (v := 32) hx hb dX5_joins_63 (by decide) ?_
  refine lv_idiv hx hb dX5_joins_65 (by decide) ?_
  refine lv_iadd hx hb dX5_joins_66 ?_
  refine lv_topi (fun x3 ex3 => ?_)
  refine lv_istore (lv' := [(6, .int x3), (5, .int ((jx_al M) 21)), (4, .int ((jx_al M) 15)), (0, .ref (a 0)), (1, .int 0), (2, .int 2), (3, .int 8)]) hx hb dX5_joins_67 hl (by decide) rfl (fun ls hl => ?_)
  refine lv_iload hx hb dX5_joins_69 (lv_at hl 0 rfl) ?_
  refine lv_iload hx hb dX5_joins_71 (lv_at hl 2 rfl) ?_
  refine lv_isub hx hb dX5_joins_73 ?_
  refine lv_bipush (v := (-99)) hx hb dX5_joins_74 (by decide) ?_
  refine lv_iload hx hb dX5_joins_76 (lv_at hl 2 rfl) ?_
  refine lv_isub hx hb dX5_joins_78 ?_
  refine lv_bipush (v := 99) hx hb dX5_joins_79 (by decide) ?_
  refine lv_iload hx hb dX5_joins_81 (lv_at hl 2 rfl) ?_
  refine lv_isub hx hb dX5_joins_83 ?_
  refine jk_callS (As := [.int (x3 - ((jx_al M) 15)), .int ((-99) - ((jx_al M) 15)), .int (99 - ((jx_al M) 15))]) (rest := []) (ws1 := (jx_W g a M)) ⟨hx, hb, hml, hown, hts⟩ (c_X5_cut l D g (x3 - ((jx_al M) 15)) ((-99) - ((jx_al M) 15)) (99 - ((jx_al M) 15))) (va_cwS 3 hts gX5_joins_X5_cut rfl rfl rfl (by decide +kernel) ⟨Nat.le_of_ble_eq_true rfl, Nat.le_of_ble_eq_true rfl⟩) jk_nilP (jk_nilD (A := A)) hK hN rfl hl rfl (Nat.le_of_ble_eq_true rfl) dX5_joins_84 ⟨Nat.zero_le _, Nat.zero_le _⟩ hS hA (fun _ _ hk => jk_keep hP hk) (fun H locs hP hS => ?_)
  refine W.eq (g2 := F0 m 87 ls [.int (rX5_cut (x3 - ((jx_al M) 15)) ((-99) - ((jx_al M) 15)) (99 - ((jx_al M) 15)))]) rfl ?_
  refine lv_topi (fun x4 ex4 => ?_)
  refine lv_iload hx hb dX5_joins_87 (lv_at hl 1 rfl) ?_
  refine lv_bipush (v := 99) hx hb dX5_joins_89 (by decide) ?_
  refine lv_isub hx hb dX5_joins_91 ?_
  refine lv_iload hx hb dX5_joins_92 (lv_at hl 1 rfl) ?_
  refine lv_bipush (v := 99) hx hb dX5_joins_94 (by decide) ?_
  refine lv_iadd hx hb dX5_joins_96 ?_
  refine jk_callS (As := [.int x4, .int (((jx_al M) 21) - 99), .int (((jx_al M) 21) + 99)]) (rest := []) (ws1 := (jx_W g a M)) ⟨hx, hb, hml, hown, hts⟩ (c_X5_cut l D g x4 (((jx_al M) 21) - 99) (((jx_al M) 21) + 99)) (va_cwS 3 hts gX5_joins_X5_cut rfl rfl rfl (by decide +kernel) ⟨Nat.le_of_ble_eq_true rfl, Nat.le_of_ble_eq_true rfl⟩) jk_nilP (jk_nilD (A := A)) hK hN rfl hl rfl (Nat.le_of_ble_eq_true rfl) dX5_joins_97 ⟨Nat.zero_le _, Nat.zero_le _⟩ hS hA (fun _ _ hk => jk_keep hP hk) (fun H locs hP hS => ?_)
  refine W.eq (g2 := F0 m 100 ls [.int (rX5_cut x4 (((jx_al M) 21) - 99) (((jx_al M) 21) + 99))]) rfl ?_
  refine lv_topi (fun x5 ex5 => ?_)
  refine lv_istore (lv' := [(7, .int x5), (6, .int x3), (5, .int ((jx_al M) 21)), (4, .int ((jx_al M) 15)), (0, .ref (a 0)), (1, .int 0), (2, .int 2), (3, .int 8)]) hx hb dX5_joins_100 hl (by decide) rfl (fun ls hl => ?_)
  refine lv_aload_n hx hb dX5_joins_102 rfl (lv_at hl 4 rfl) ?_
  refine va_get (D := D) (ci := 5) (v := .ref (a 1)) (C := RX5) (T := TX5) (N := 13) hx hb hts hi_5 hown hK hP 0 rfl rfl 0 (by decide) hf_7 (fun _ h9 => h9) rfl dX5_joins_103 ?_
  refine lv_iload_n hx hb dX5_joins_106 rfl (lv_at hl 5 rfl) ?_
  refine lv_iload_n hx hb dX5_joins_107 rfl (lv_at hl 6 rfl) ?_
  refine jk_callS (As := [.int 0, .int 2]) (rest := [.ref (a 1)]) (ws1 := (jx_W g a M)) ⟨hx, hb, hml, hown, hts⟩ (c_X5_cell l D g (0 : Int32) (2 : Int32)) (va_cwS 2 hts gX5_joins_X5_cell rfl rfl rfl (by decide +kernel) ⟨Nat.le_of_ble_eq_true rfl, Nat.le_of_ble_eq_true rfl⟩) jk_nilP (jk_nilD (A := A)) hK hN rfl hl rfl (Nat.le_of_ble_eq_true rfl) dX5_joins_108 ⟨Nat.zero_le _, Nat.zero_le _⟩ hS hA (fun _ _ hk => jk_keep hP hk) (fun H locs hP hS => ?_)
  refine W.eq (g2 := F0 m 111 ls [.int 15, .ref (a 1)]) rfl ?_
  refine lv_dup2_11 hx hb dX5_joins_111 rfl rfl ?_
  refine va_iald (f := (jx_al M)) hx hb hK hP 1 0 rfl rfl (jk_inC (by decide +kernel)) dX5_joins_112 ?_
  refine W.eq (g2 := F0 m 113 ls [.int ((jx_al M) 15), .int 15, .ref (a 1)]) rfl ?_
  refine lv_iload hx hb dX5_joins_113 (lv_at hl 0 rfl) ?_
  refine lv_iadd hx hb dX5_joins_115 ?_
  refine va_iast (f := (jx_al M)) hx hb hK hP hD hS 1 0 rfl rfl (jk_inC (by decide +kernel)) dX5_joins_116 (fun H locs hP hD hS => ?_)
  have hP : va_P D vwCl (jx_W g a (jx_ual M (upd (jx_al M) 15 (((jx_al M) 15) + x5)))) H := hP
  have hD : va_D A (jx_W g a (jx_ual M (upd (jx_al M) 15 (((jx_al M) 15) + x5)))) := hD
  refine lv_aload_n hx hb dX5_joins_117 rfl (lv_at hl 4 rfl) ?_
  refine va_get (D := D) (ci := 5) (v := .ref (a 1)) (C := RX5) (T := TX5) (N := 13) hx hb hts hi_5 hown hK hP 0 rfl rfl 0 (by decide) hf_7 (fun _ h9 => h9) rfl dX5_joins_118 ?_
  refine lv_iload_n hx hb dX5_joins_121 rfl (lv_at hl 5 rfl) ?_
  refine lv_iload_n hx hb dX5_joins_122 rfl (lv_at hl 7 rfl) ?_
  refine jk_callS (As := [.int 0, .int 8]) (rest := [.ref (a 1)]) (ws1 := (jx_W g a (jx_ual M (upd (jx_al M) 15 (((jx_al M) 15) + x5))))) ⟨hx, hb, hml, hown, hts⟩ (c_X5_cell l D g (0 : Int32) (8 : Int32)) (va_cwS 2 hts gX5_joins_X5_cell rfl rfl rfl (by decide +kernel) ⟨Nat.le_of_ble_eq_true rfl, Nat.le_of_ble_eq_true rfl⟩) jk_nilP (jk_nilD (A := A)) hK hN rfl hl rfl (Nat.le_of_ble_eq_true rfl) dX5_joins_123 ⟨Nat.zero_le _, Nat.zero_le _⟩ hS hA (fun _ _ hk => jk_keep hP hk) (fun H locs hP hS => ?_)
  refine W.eq (g2 := F0 m 126 ls [.int 21, .ref (a 1)]) rfl ?_
  refine lv_dup2_11 hx hb dX5_joins_126 rfl rfl ?_
  refine va_iald (f := (upd (jx_al M) 15 (((jx_al M) 15) + x5))) hx hb hK hP 1 0 rfl rfl (jk_inC (by decide +kernel)) dX5_joins_127 ?_
  refine W.eq (g2 := F0 m 128 ls [.int ((jx_al M) 21), .int 21, .ref (a 1)]) rfl ?_
  refine lv_iload hx hb dX5_joins_128 (lv_at hl 0 rfl) ?_
  refine lv_isub hx hb dX5_joins_130 ?_
  refine va_iast (f := (upd (jx_al M) 15 (((jx_al M) 15) + x5))) hx hb hK hP hD hS 1 0 rfl rfl (jk_inC (by decide +kernel)) dX5_joins_131 (fun H locs hP hD hS => ?_)
  have hP : va_P D vwCl (jx_W g a (jx_ual M (upd (upd (jx_al M) 15 (((jx_al M) 15) + x5)) 21 (((jx_al M) 21) - x5)))) H := hP
  have hD : va_D A (jx_W g a (jx_ual M (upd (upd (jx_al M) 15 (((jx_al M) 15) + x5)) 21 (((jx_al M) 21) - x5)))) := hD
  subst ex5
  subst ex4
  subst ex3
  subst ex2
  subst ex1
  exact jk_vret hx hb hr hlocks hP hS (congrArg (fun z => (jx_W g a z)) ((rfl).symm)) dX5_joins_132

def sX5_joins_1 (M : jx_T) : jx_T := let x1 : Int32 := ((jx_al M) 29) + ((jx_al M) 35); let x2 : Int32 := ((jx_al M) 23) - ((jx_al M) 17); let x3 : Int32 := (x1 / 2) + ((x2 * ((jx_al M) 0)) / 32); let x4 : Int32 := rX5_cut (x3 - ((jx_al M) 29)) ((-99) - ((jx_al M) 29)) (99 - ((jx_al M) 29)); let x5 : Int32 := rX5_cut x4 (((jx_al M) 35) - 99) (((jx_al M) 35) + 99); (jx_ual M (upd (upd (jx_al M) 29 (((jx_al M) 29) + x5)) 35 (((jx_al M) 35) - x5)))
set_option maxHeartbeats 4000000 in
set_option maxRecDepth 100000 in
theorem c_X5_joins_1 (l : Launch) (D : va_G) (g : jk_G) (a : Nat → Nat) (M : jx_T)  : jk_M l D g yX5_joins wsX5_joins 1 22 [.ref (a 0), .int 1, .int 4, .int 10] (jx_W g a M) none (jx_W g a (sX5_joins_1 M)) := by
  refine jk_of (cc := cX5_joins) (maxL := 8) (ret := none) (by decide +kernel) rfl (Nat.le_of_ble_eq_true rfl) ?_
  intro p e s m args below meth c hx hb hr hml hts hown hlocks hK hN A H locs hP hD hA hS ls hl
  have hown : s.vm.findClass RX5 = some m.cls := hown
  have hl : lv_has ls 8 [(0, .ref (a 0)), (1, .int 1), (2, .int 4), (3, .int 10)] := hl
  have hf_7 := hts (.fieldLink RX5 7 "InfluenceJarsModel" "all" "[I") (by decide +kernel)
  have hi_5 : ∀ w ∈ u_ws RX5 TX5 13, w ∈ wsX5_joins := by decide +kernel
  refine lv_aload_n hx hb dX5_joins_0 rfl (lv_at hl 0 rfl) ?_
  refine va_get (D := D) (ci := 5) (v := .ref (a 1)) (C := RX5) (T := TX5) (N := 13) hx hb hts hi_5 hown hK hP 0 rfl rfl 0 (by decide) hf_7 (fun _ h9 => h9) rfl dX5_joins_1 ?_
  refine lv_iload_n hx hb dX5_joins_4 rfl (lv_at hl 1 rfl) ?_
  refine lv_iload_n hx hb dX5_joins_5 rfl (lv_at hl 2 rfl) ?_
  refine jk_callS (As := [.int 1, .int 4]) (rest := [.ref (a 1)]) (ws1 := (jx_W g a M)) ⟨hx, hb, hml, hown, hts⟩ (c_X5_cell l D g (1 : Int32) (4 : Int32)) (va_cwS 2 hts gX5_joins_X5_cell rfl rfl rfl (by decide +kernel) ⟨Nat.le_of_ble_eq_true rfl, Nat.le_of_ble_eq_true rfl⟩) jk_nilP (jk_nilD (A := A)) hK hN rfl hl rfl (Nat.le_of_ble_eq_true rfl) dX5_joins_6 ⟨Nat.zero_le _, Nat.zero_le _⟩ hS hA (fun _ _ hk => jk_keep hP hk) (fun H locs hP hS => ?_)
  refine W.eq (g2 := F0 m 9 ls [.int 29, .ref (a 1)]) rfl ?_
  refine va_iald (f := (jx_al M)) hx hb hK hP 1 0 rfl rfl (jk_inC (by decide +kernel)) dX5_joins_9 ?_
  refine W.eq (g2 := F0 m 10 ls [.int ((jx_al M) 29)]) rfl ?_
  refine lv_istore (lv' := [(4, .int ((jx_al M) 29)), (0, .ref (a 0)), (1, .int 1), (2, .int 4), (3, .int 10)]) hx hb dX5_joins_10 hl (by decide) rfl (fun ls hl => ?_)
  refine lv_aload_n hx hb dX5_joins_12 rfl (lv_at hl 1 rfl) ?_
  refine va_get (D := D) (ci := 5) (v := .ref (a 1)) (C := RX5) (T := TX5) (N := 13) hx hb hts hi_5 hown hK hP 0 rfl rfl 0 (by decide) hf_7 (fun _ h9 => h9) rfl dX5_joins_13 ?_
  refine lv_iload_n hx hb dX5_joins_16 rfl (lv_at hl 2 rfl) ?_
  refine lv_iload_n hx hb dX5_joins_17 rfl (lv_at hl 4 rfl) ?_
  refine jk_callS (As := [.int 1, .int 10]) (rest := [.ref (a 1)]) (ws1 := (jx_W g a M)) ⟨hx, hb, hml, hown, hts⟩ (c_X5_cell l D g (1 : Int32) (10 : Int32)) (va_cwS 2 hts gX5_joins_X5_cell rfl rfl rfl (by decide +kernel) ⟨Nat.le_of_ble_eq_true rfl, Nat.le_of_ble_eq_true rfl⟩) jk_nilP (jk_nilD (A := A)) hK hN rfl hl rfl (Nat.le_of_ble_eq_true rfl) dX5_joins_18 ⟨Nat.zero_le _, Nat.zero_le _⟩ hS hA (fun _ _ hk => jk_keep hP hk) (fun H locs hP hS => ?_)
  refine W.eq (g2 := F0 m 21 ls [.int 35, .ref (a 1)]) rfl ?_
  refine va_iald (f := (jx_al M)) hx hb hK hP 1 0 rfl rfl (jk_inC (by decide +kernel)) dX5_joins_21 ?_
  refine W.eq (g2 := F0 m 22 ls [.int ((jx_al M) 35)]) rfl ?_
  refine lv_istore (lv' := [(5, .int ((jx_al M) 35)), (4, .int ((jx_al M) 29)), (0, .ref (a 0)), (1, .int 1), (2, .int 4), (3, .int 10)]) hx hb dX5_joins_22 hl (by decide) rfl (fun ls hl => ?_)
  refine lv_iload hx hb dX5_joins_24 (lv_at hl 1 rfl) ?_
  refine lv_iload hx hb dX5_joins_26 (lv_at hl 0 rfl) ?_
  refine lv_iadd hx hb dX5_joins_28 ?_
  refine lv_topi (fun x1 ex1 => ?_)
  refine lv_iconst (v := 2) hx hb dX5_joins_29 (by decide) ?_
  refine lv_idiv hx hb dX5_joins_30 (by decide) ?_
  refine lv_aload_n hx hb dX5_joins_31 rfl (lv_at hl 2 rfl) ?_
  refine va_get (D := D) (ci := 5) (v := .ref (a 1)) (C := RX5) (T := TX5) (N := 13) hx hb hts hi_5 hown hK hP 0 rfl rfl 0 (by decide) hf_7 (fun _ h9 => h9) rfl dX5_joins_32 ?_
  refine lv_iconst (v := 1) hx hb dX5_joins_35 (by decide) ?_
  refine lv_iload_n hx hb dX5_joins_36 rfl (lv_at hl 3 rfl) ?_
  refine lv_isub hx hb dX5_joins_37 ?_
  refine W.eq (g2 := F0 m 38 ls [.int 0, .ref (a 1), .int (x1 / 2)]) rfl ?_
  refine lv_iload_n hx hb dX5_joins_38 rfl (lv_at hl 5 rfl) ?_
  refine jk_callS (As := [.int 0, .int 10]) (rest := [.ref (a 1), .int (x1 / 2)]) (ws1 := (jx_W g a M)) ⟨hx, hb, hml, hown, hts⟩ (c_X5_cell l D g (0 : Int32) (10 : Int32)) (va_cwS 2 hts gX5_joins_X5_cell rfl rfl rfl (by decide +kernel) ⟨Nat.le_of_ble_eq_true rfl, Nat.le_of_ble_eq_true rfl⟩) jk_nilP (jk_nilD (A := A)) hK hN rfl hl rfl (Nat.le_of_ble_eq_true rfl) dX5_joins_39 ⟨Nat.zero_le _, Nat.zero_le _⟩ hS hA (fun _ _ hk => jk_keep hP hk) (fun H locs hP hS => ?_)
  refine W.eq (g2 := F0 m 42 ls [.int 23, .ref (a 1), .int (x1 / 2)]) rfl ?_
  refine va_iald (f := (jx_al M)) hx hb hK hP 1 0 rfl rfl (jk_inC (by decide +kernel)) dX5_joins_42 ?_
  refine W.eq (g2 := F0 m 43 ls [.int ((jx_al M) 23), .int (x1 / 2)]) rfl ?_
  refine lv_aload_n hx hb dX5_joins_43 rfl (lv_at hl 2 rfl) ?_
  refine va_get (D := D) (ci := 5) (v := .ref (a 1)) (C := RX5) (T := TX5) (N := 13) hx hb hts hi_5 hown hK hP 0 rfl rfl 0 (by decide) hf_7 (fun _ h9 => h9) rfl dX5_joins_44 ?_
  refine lv_iconst (v := 1) hx hb dX5_joins_47 (by decide) ?_
  refine lv_iload_n hx hb dX5_joins_48 rfl (lv_at hl 3 rfl) ?_
  refine lv_isub hx hb dX5_joins_49 ?_
  refine W.eq (g2 := F0 m 50 ls [.int 0, .ref (a 1), .int ((jx_al M) 23), .int (x1 / 2)]) rfl ?_
  refine lv_iload_n hx hb dX5_joins_50 rfl (lv_at hl 4 rfl) ?_
  refine jk_callS (As := [.int 0, .int 4]) (rest := [.ref (a 1), .int ((jx_al M) 23), .int (x1 / 2)]) (ws1 := (jx_W g a M)) ⟨hx, hb, hml, hown, hts⟩ (c_X5_cell l D g (0 : Int32) (4 : Int32)) (va_cwS 2 hts gX5_joins_X5_cell rfl rfl rfl (by decide +kernel) ⟨Nat.le_of_ble_eq_true rfl, Nat.le_of_ble_eq_true rfl⟩) jk_nilP (jk_nilD (A := A)) hK hN rfl hl rfl (Nat.le_of_ble_eq_true rfl) dX5_joins_51 ⟨Nat.zero_le _, Nat.zero_le _⟩ hS hA (fun _ _ hk => jk_keep hP hk) (fun H locs hP hS => ?_)
  refine W.eq (g2 := F0 m 54 ls [.int 17, .ref (a 1), .int ((jx_al M) 23), .int (x1 / 2)]) rfl ?_
  refine va_iald (f := (jx_al M)) hx hb hK hP 1 0 rfl rfl (jk_inC (by decide +kernel)) dX5_joins_54 ?_
  refine W.eq (g2 := F0 m 55 ls [.int ((jx_al M) 17), .int ((jx_al M) 23), .int (x1 / 2)]) rfl ?_
  refine lv_isub hx hb dX5_joins_55 ?_
  refine lv_topi (fun x2 ex2 => ?_)
  refine lv_aload_n hx hb dX5_joins_56 rfl (lv_at hl 2 rfl) ?_
  refine va_get (D := D) (ci := 5) (v := .ref (a 1)) (C := RX5) (T := TX5) (N := 13) hx hb hts hi_5 hown hK hP 0 rfl rfl 0 (by decide) hf_7 (fun _ h9 => h9) rfl dX5_joins_57 ?_
  refine lv_iconst (v := 0) hx hb dX5_joins_60 (by decide) ?_
  refine va_iald (f := (jx_al M)) hx hb hK hP 1 0 rfl rfl (jk_inC (by decide +kernel)) dX5_joins_61 ?_
  refine W.eq (g2 := F0 m 62 ls [.int ((jx_al M) 0), .int x2, .int (x1 / 2)]) rfl ?_
  refine lv_imul hx hb dX5_joins_62 ?_
  refine lv_bipush (v := 32) hx hb dX5_joins_63 (by decide) ?_
  refine lv_idiv hx hb dX5_joins_65 (by decide) ?_
  refine lv_iadd hx hb dX5_joins_66 ?_
  refine lv_topi (fun x3 ex3 => ?_)
  refine lv_istore (lv' := [(6, .int x3), (5, .int ((jx_al M) 35)), (4, .int ((jx_al M) 29)), (0, .ref (a 0)), (1, .int 1), (2, .int 4), (3, .int 10)]) hx hb dX5_joins_67 hl (by decide) rfl (fun ls hl => ?_)
  refine lv_iload hx hb dX5_joins_69 (lv_at hl 0 rfl) ?_
  refine lv_iload hx hb dX5_joins_71 (lv_at hl 2 rfl) ?_
  refine lv_isub hx hb dX5_joins_73 ?_
  refine lv_bipush (v := (-99)) hx hb dX5_joins_74 (by decide) ?_
  refine lv_iload hx hb dX5_joins_76 (lv_at hl 2 rfl) ?_
  refine lv_isub hx hb dX5_joins_78 ?_
  refine lv_bipush (v := 99) hx hb dX5_joins_79 (by decide) ?_
  refine lv_iload hx hb dX5_joins_81 (lv_at hl 2 rfl) ?_
  refine lv_isub hx hb dX5_joins_83 ?_
  refine jk_callS (As := [.int (x3 - ((jx_al M) 29)), .int ((-99) - ((jx_al M) 29)), .int (99 - ((jx_al M) 29))]) (rest := []) (ws1 := (jx_W g a M)) ⟨hx, hb, hml, hown, hts⟩ (c_X5_cut l D g (x3 - ((jx_al M) 29)) ((-99) - ((jx_al M) 29)) (99 - ((jx_al M) 29))) (va_cwS 3 hts gX5_joins_X5_cut rfl rfl rfl (by decide +kernel) ⟨Nat.le_of_ble_eq_true rfl, Nat.le_of_ble_eq_true rfl⟩) jk_nilP (jk_nilD (A := A)) hK hN rfl hl rfl (Nat.le_of_ble_eq_true rfl) dX5_joins_84 ⟨Nat.zero_le _, Nat.zero_le _⟩ hS hA (fun _ _ hk => jk_keep hP hk) (fun H locs hP hS => ?_)
  refine W.eq (g2 := F0 m 87 ls [.int (rX5_cut (x3 - ((jx_al M) 29)) ((-99) - ((jx_al M) 29)) (99 - ((jx_al M) 29)))]) rfl ?_
  refine lv_topi (fun x4 ex4 => ?_)
  refine lv_iload hx hb dX5_joins_87 (lv_at hl 1 rfl) ?_
  refine lv_bipush (v := 99) hx hb dX5_joins_89 (by decide) ?_
  refine lv_isub hx hb dX5_joins_91 ?_
  refine lv_iload hx hb dX5_joins_92 (lv_at hl 1 rfl) ?_
  refine lv_bipush (v := 99) hx hb dX5_joins_94 (by decide) ?_
  refine lv_iadd hx hb dX5_joins_96 ?_
  refine jk_callS (As := [.int x4, .int (((jx_al M) 35) - 99), .int (((jx_al M) 35) + 99)]) (rest := []) (ws1 := (jx_W g a M)) ⟨hx, hb, hml, hown, hts⟩ (c_X5_cut l D g x4 (((jx_al M) 35) - 99) (((jx_al M) 35) + 99)) (va_cwS 3 hts gX5_joins_X5_cut rfl rfl rfl (by decide +kernel) ⟨Nat.le_of_ble_eq_true rfl, Nat.le_of_ble_eq_true rfl⟩) jk_nilP (jk_nilD (A := A)) hK hN rfl hl rfl (Nat.le_of_ble_eq_true rfl) dX5_joins_97 ⟨Nat.zero_le _, Nat.zero_le _⟩ hS hA (fun _ _ hk => jk_keep hP hk) (fun H locs hP hS => ?_)
  refine W.eq (g2 := F0 m 100 ls [.int (rX5_cut x4 (((jx_al M) 35) - 99) (((jx_al M) 35) + 99))]) rfl ?_
  refine lv_topi (fun x5 ex5 => ?_)
  refine lv_istore (lv' := [(7, .int x5), (6, .int x3), (5, .int ((jx_al M) 35)), (4, .int ((jx_al M) 29)), (0, .ref (a 0)), (1, .int 1), (2, .int 4), (3, .int 10)]) hx hb dX5_joins_100 hl (by decide) rfl (fun ls hl => ?_)
  refine lv_aload_n hx hb dX5_joins_102 rfl (lv_at hl 4 rfl) ?_
  refine va_get (D := D) (ci := 5) (v := .ref (a 1)) (C := RX5) (T := TX5) (N := 13) hx hb hts hi_5 hown hK hP 0 rfl rfl 0 (by decide) hf_7 (fun _ h9 => h9) rfl dX5_joins_103 ?_
  refine lv_iload_n hx hb dX5_joins_106 rfl (lv_at hl 5 rfl) ?_
  refine lv_iload_n hx hb dX5_joins_107 rfl (lv_at hl 6 rfl) ?_
  refine jk_callS (As := [.int 1, .int 4]) (rest := [.ref (a 1)]) (ws1 := (jx_W g a M)) ⟨hx, hb, hml, hown, hts⟩ (c_X5_cell l D g (1 : Int32) (4 : Int32)) (va_cwS 2 hts gX5_joins_X5_cell rfl rfl rfl (by decide +kernel) ⟨Nat.le_of_ble_eq_true rfl, Nat.le_of_ble_eq_true rfl⟩) jk_nilP (jk_nilD (A := A)) hK hN rfl hl rfl (Nat.le_of_ble_eq_true rfl) dX5_joins_108 ⟨Nat.zero_le _, Nat.zero_le _⟩ hS hA (fun _ _ hk => jk_keep hP hk) (fun H locs hP hS => ?_)
  refine W.eq (g2 := F0 m 111 ls [.int 29, .ref (a 1)]) rfl ?_
  refine lv_dup2_11 hx hb dX5_joins_111 rfl rfl ?_
  refine va_iald (f := (jx_al M)) hx hb hK hP 1 0 rfl rfl (jk_inC (by decide +kernel)) dX5_joins_112 ?_
  refine W.eq (g2 := F0 m 113 ls [.int ((jx_al M) 29), .int 29, .ref (a 1)]) rfl ?_
  refine lv_iload hx hb dX5_joins_113 (lv_at hl 0 rfl) ?_
  refine lv_iadd hx hb dX5_joins_115 ?_
  refine va_iast (f := (jx_al M)) hx hb hK hP hD hS 1 0 rfl rfl (jk_inC (by decide +kernel)) dX5_joins_116 (fun H locs hP hD hS => ?_)
  have hP : va_P D vwCl (jx_W g a (jx_ual M (upd (jx_al M) 29 (((jx_al M) 29) + x5)))) H := hP
  have hD : va_D A (jx_W g a (jx_ual M (upd (jx_al M) 29 (((jx_al M) 29) + x5)))) := hD
  refine lv_aload_n hx hb dX5_joins_117 rfl (lv_at hl 4 rfl) ?_
  refine va_get (D := D) (ci := 5) (v := .ref (a 1)) (C := RX5) (T := TX5) (N := 13) hx hb hts hi_5 hown hK hP 0 rfl rfl 0 (by decide) hf_7 (fun _ h9 => h9) rfl dX5_joins_118 ?_
  refine lv_iload_n hx hb dX5_joins_121 rfl (lv_at hl 5 rfl) ?_
  refine lv_iload_n hx hb dX5_joins_122 rfl (lv_at hl 7 rfl) ?_
  refine jk_callS (As := [.int 1, .int 10]) (rest := [.ref (a 1)]) (ws1 := (jx_W g a (jx_ual M (upd (jx_al M) 29 (((jx_al M) 29) + x5))))) ⟨hx, hb, hml, hown, hts⟩ (c_X5_cell l D g (1 : Int32) (10 : Int32)) (va_cwS 2 hts gX5_joins_X5_cell rfl rfl rfl (by decide +kernel) ⟨Nat.le_of_ble_eq_true rfl, Nat.le_of_ble_eq_true rfl⟩) jk_nilP (jk_nilD (A := A)) hK hN rfl hl rfl (Nat.le_of_ble_eq_true rfl) dX5_joins_123 ⟨Nat.zero_le _, Nat.zero_le _⟩ hS hA (fun _ _ hk => jk_keep hP hk) (fun H locs hP hS => ?_)
  refine W.eq (g2 := F0 m 126 ls [.int 35, .ref (a 1)]) rfl ?_
  refine lv_dup2_11 hx hb dX5_joins_126 rfl rfl ?_
  refine va_iald (f := (upd (jx_al M) 29 (((jx_al M) 29) + x5))) hx hb hK hP 1 0 rfl rfl (jk_inC (by decide +kernel)) dX5_joins_127 ?_
  refine W.eq (g2 := F0 m 128 ls [.int ((jx_al M) 35), .int 35, .ref (a 1)]) rfl ?_
  refine lv_iload hx hb dX5_joins_128 (lv_at hl 0 rfl) ?_
  refine lv_isub hx hb dX5_joins_130 ?_
  refine va_iast (f := (upd (jx_al M) 29 (((jx_al M) 29) + x5))) hx hb hK hP hD hS 1 0 rfl rfl (jk_inC (by decide +kernel)) dX5_joins_131 (fun H locs hP hD hS => ?_)
  have hP : va_P D vwCl (jx_W g a (jx_ual M (upd (upd (jx_al M) 29 (((jx_al M) 29) + x5)) 35 (((jx_al M) 35) - x5)))) H := hP
  have hD : va_D A (jx_W g a (jx_ual M (upd (upd (jx_al M) 29 (((jx_al M) 29) + x5)) 35 (((jx_al M) 35) - x5)))) := hD
  subst ex5
  subst ex4
  subst ex3
  subst ex2
  subst ex1
  exact jk_vret hx hb hr hlocks hP hS (congrArg (fun z => (jx_W g a z)) ((rfl).symm)) dX5_joins_132

def sX5_takes_00 (M : jx_T) : jx_T := let x1 : Int32 := (-((jx_al M) 4)) - ((jx_al M) 37); let x2 : Int32 := ((jx_al M) 4) - ((jx_al M) 37); let x3 : Int32 := rX5_cut ((jx_al M) 13) x1 x2; (jx_ual M (upd (upd (upd (jx_al M) 13 (((jx_al M) 13) - x3)) 37 (((jx_al M) 37) + x3)) 39 (((jx_al M) 39) + x3)))
set_option maxHeartbeats 4000000 in
set_option maxRecDepth 100000 in
theorem c_X5_takes_00 (l : Launch) (D : va_G) (g : jk_G) (a : Nat → Nat) (M : jx_T)  : jk_M l D g yX5_takes wsX5_takes 1 22 [.ref (a 0), .int 0, .int 0] (jx_W g a M) none (jx_W g a (sX5_takes_00 M)) := by
  refine jk_of (cc := cX5_takes) (maxL := 5) (ret := none) (by decide +kernel) rfl (Nat.le_of_ble_eq_true rfl) ?_
  intro p e s m args below meth c hx hb hr hml hts hown hlocks hK hN A H locs hP hD hA hS ls hl
  have hown : s.vm.findClass RX5 = some m.cls := hown
  have hl : lv_has ls 5 [(0, .ref (a 0)), (1, .int 0), (2, .int 0)] := hl
  have hf_7 := hts (.fieldLink RX5 7 "InfluenceJarsModel" "all" "[I") (by decide +kernel)
  have hi_5 : ∀ w ∈ u_ws RX5 TX5 13, w ∈ wsX5_takes := by decide +kernel
  refine lv_iload_n hx hb dX5_takes_0 rfl (lv_at hl 2 rfl) ?_
  refine lv_bipush (v := 6) hx hb dX5_takes_1 (by decide) ?_
  refine lv_iload_n hx hb dX5_takes_3 rfl (lv_at hl 1 rfl) ?_
  refine lv_imul hx hb dX5_takes_4 ?_
  refine W.eq (g2 := F0 m 5 ls [.int 0, .int 0]) rfl ?_
  refine jk_callS (As := [.int 0, .int 0]) (rest := []) (ws1 := (jx_W g a M)) ⟨hx, hb, hml, hown, hts⟩ (c_X5_cell l D g (0 : Int32) (0 : Int32)) (va_cwS 2 hts gX5_takes_X5_cell rfl rfl rfl (by decide +kernel) ⟨Nat.le_of_ble_eq_true rfl, Nat.le_of_ble_eq_true rfl⟩) jk_nilP (jk_nilD (A := A)) hK hN rfl hl rfl (Nat.le_of_ble_eq_true rfl) dX5_takes_5 ⟨Nat.zero_le _, Nat.zero_le _⟩ hS hA (fun _ _ hk => jk_keep hP hk) (fun H locs hP hS => ?_)
  refine W.eq (g2 := F0 m 8 ls [.int 13]) rfl ?_
  refine lv_istore_n (lv' := [(3, .int 13), (0, .ref (a 0)), (1, .int 0), (2, .int 0)]) hx hb dX5_takes_8 rfl hl (by decide) rfl (fun ls hl => ?_)
  refine lv_aload_n hx hb dX5_takes_9 rfl (lv_at hl 1 rfl) ?_
  refine va_get (D := D) (ci := 5) (v := .ref (a 1)) (C := RX5) (T := TX5) (N := 13) hx hb hts hi_5 hown hK hP 0 rfl rfl 0 (by decide) hf_7 (fun _ h9 => h9) rfl dX5_takes_10 ?_
  refine lv_iload_n hx hb dX5_takes_13 rfl (lv_at hl 0 rfl) ?_
  refine va_iald (f := (jx_al M)) hx hb hK hP 1 0 rfl rfl (jk_inC (by decide +kernel)) dX5_takes_14 ?_
  refine W.eq (g2 := F0 m 15 ls [.int ((jx_al M) 13)]) rfl ?_
  refine lv_aload_n hx hb dX5_takes_15 rfl (lv_at hl 1 rfl) ?_
  refine va_get (D := D) (ci := 5) (v := .ref (a 1)) (C := RX5) (T := TX5) (N := 13) hx hb hts hi_5 hown hK hP 0 rfl rfl 0 (by decide) hf_7 (fun _ h9 => h9) rfl dX5_takes_16 ?_
  refine lv_iconst (v := 4) hx hb dX5_takes_19 (by decide) ?_
  refine va_iald (f := (jx_al M)) hx hb hK hP 1 0 rfl rfl (jk_inC (by decide +kernel)) dX5_takes_20 ?_
  refine W.eq (g2 := F0 m 21 ls [.int ((jx_al M) 4), .int ((jx_al M) 13)]) rfl ?_
  refine lv_ineg hx hb dX5_takes_21 ?_
  refine lv_aload_n hx hb dX5_takes_22 rfl (lv_at hl 1 rfl) ?_
  refine va_get (D := D) (ci := 5) (v := .ref (a 1)) (C := RX5) (T := TX5) (N := 13) hx hb hts hi_5 hown hK hP 0 rfl rfl 0 (by decide) hf_7 (fun _ h9 => h9) rfl dX5_takes_23 ?_
  refine lv_bipush (v := 37) hx hb dX5_takes_26 (by decide) ?_
  refine lv_iload_n hx hb dX5_takes_28 rfl (lv_at hl 2 rfl) ?_
  refine lv_iadd hx hb dX5_takes_29 ?_
  refine W.eq (g2 := F0 m 30 ls [.int 37, .ref (a 1), .int (-((jx_al M) 4)), .int ((jx_al M) 13)]) rfl ?_
  refine va_iald (f := (jx_al M)) hx hb hK hP 1 0 rfl rfl (jk_inC (by decide +kernel)) dX5_takes_30 ?_
  refine W.eq (g2 := F0 m 31 ls [.int ((jx_al M) 37), .int (-((jx_al M) 4)), .int ((jx_al M) 13)]) rfl ?_
  refine lv_isub hx hb dX5_takes_31 ?_
  refine lv_topi (fun x1 ex1 => ?_)
  refine lv_aload_n hx hb dX5_takes_32 rfl (lv_at hl 1 rfl) ?_
  refine va_get (D := D) (ci := 5) (v := .ref (a 1)) (C := RX5) (T := TX5) (N := 13) hx hb hts hi_5 hown hK hP 0 rfl rfl 0 (by decide) hf_7 (fun _ h9 => h9) rfl dX5_takes_33 ?_
  refine lv_iconst (v := 4) hx hb dX5_takes_36 (by decide) ?_
  refine va_iald (f := (jx_al M)) hx hb hK hP 1 0 rfl rfl (jk_inC (by decide +kernel)) dX5_takes_37 ?_
  refine W.eq (g2 := F0 m 38 ls [.int ((jx_al M) 4), .int x1, .int ((jx_al M) 13)]) rfl ?_
  refine lv_aload_n hx hb dX5_takes_38 rfl (lv_at hl 1 rfl) ?_
  refine va_get (D := D) (ci := 5) (v := .ref (a 1)) (C := RX5) (T := TX5) (N := 13) hx hb hts hi_5 hown hK hP 0 rfl rfl 0 (by decide) hf_7 (fun _ h9 => h9) rfl dX5_takes_39 ?_
  refine lv_bipush (v := 37) hx hb dX5_takes_42 (by decide) ?_
  refine lv_iload_n hx hb dX5_takes_44 rfl (lv_at hl 2 rfl) ?_
  refine lv_iadd hx hb dX5_takes_45 ?_
  refine W.eq (g2 := F0 m 46 ls [.int 37, .ref (a 1), .int ((jx_al M) 4), .int x1, .int ((jx_al M) 13)]) rfl ?_
  refine va_iald (f := (jx_al M)) hx hb hK hP 1 0 rfl rfl (jk_inC (by decide +kernel)) dX5_takes_46 ?_
  refine W.eq (g2 := F0 m 47 ls [.int ((jx_al M) 37), .int ((jx_al M) 4), .int x1, .int ((jx_al M) 13)]) rfl ?_
  refine lv_isub hx hb dX5_takes_47 ?_
  refine lv_topi (fun x2 ex2 => ?_)
  refine jk_callS (As := [.int ((jx_al M) 13), .int x1, .int x2]) (rest := []) (ws1 := (jx_W g a M)) ⟨hx, hb, hml, hown, hts⟩ (c_X5_cut l D g ((jx_al M) 13) x1 x2) (va_cwS 3 hts gX5_takes_X5_cut rfl rfl rfl (by decide +kernel) ⟨Nat.le_of_ble_eq_true rfl, Nat.le_of_ble_eq_true rfl⟩) jk_nilP (jk_nilD (A := A)) hK hN rfl hl rfl (Nat.le_of_ble_eq_true rfl) dX5_takes_48 ⟨Nat.zero_le _, Nat.zero_le _⟩ hS hA (fun _ _ hk => jk_keep hP hk) (fun H locs hP hS => ?_)
  refine W.eq (g2 := F0 m 51 ls [.int (rX5_cut ((jx_al M) 13) x1 x2)]) rfl ?_
  refine lv_topi (fun x3 ex3 => ?_)
  refine lv_istore (lv' := [(4, .int x3), (3, .int 13), (0, .ref (a 0)), (1, .int 0), (2, .int 0)]) hx hb dX5_takes_51 hl (by decide) rfl (fun ls hl => ?_)
  refine lv_aload_n hx hb dX5_takes_53 rfl (lv_at hl 2 rfl) ?_
  refine va_get (D := D) (ci := 5) (v := .ref (a 1)) (C := RX5) (T := TX5) (N := 13) hx hb hts hi_5 hown hK hP 0 rfl rfl 0 (by decide) hf_7 (fun _ h9 => h9) rfl dX5_takes_54 ?_
  refine lv_iload_n hx hb dX5_takes_57 rfl (lv_at hl 1 rfl) ?_
  refine lv_dup2_11 hx hb dX5_takes_58 rfl rfl ?_
  refine va_iald (f := (jx_al M)) hx hb hK hP 1 0 rfl rfl (jk_inC (by decide +kernel)) dX5_takes_59 ?_
  refine W.eq (g2 := F0 m 60 ls [.int ((jx_al M) 13), .int 13, .ref (a 1)]) rfl ?_
  refine lv_iload hx hb dX5_takes_60 (lv_at hl 0 rfl) ?_
  refine lv_isub hx hb dX5_takes_62 ?_
  refine va_iast (f := (jx_al M)) hx hb hK hP hD hS 1 0 rfl rfl (jk_inC (by decide +kernel)) dX5_takes_63 (fun H locs hP hD hS => ?_)
  have hP : va_P D vwCl (jx_W g a (jx_ual M (upd (jx_al M) 13 (((jx_al M) 13) - x3)))) H := hP
  have hD : va_D A (jx_W g a (jx_ual M (upd (jx_al M) 13 (((jx_al M) 13) - x3)))) := hD
  refine lv_aload_n hx hb dX5_takes_64 rfl (lv_at hl 2 rfl) ?_
  refine va_get (D := D) (ci := 5) (v := .ref (a 1)) (C := RX5) (T := TX5) (N := 13) hx hb hts hi_5 hown hK hP 0 rfl rfl 0 (by decide) hf_7 (fun _ h9 => h9) rfl dX5_takes_65 ?_
  refine lv_bipush (v := 37) hx hb dX5_takes_68 (by decide) ?_
  refine lv_iload_n hx hb dX5_takes_70 rfl (lv_at hl 3 rfl) ?_
  refine lv_iadd hx hb dX5_takes_71 ?_
  refine W.eq (g2 := F0 m 72 ls [.int 37, .ref (a 1)]) rfl ?_
  refine lv_dup2_11 hx hb dX5_takes_72 rfl rfl ?_
  refine va_iald (f := (upd (jx_al M) 13 (((jx_al M) 13) - x3))) hx hb hK hP 1 0 rfl rfl (jk_inC (by decide +kernel)) dX5_takes_73 ?_
  refine W.eq (g2 := F0 m 74 ls [.int ((jx_al M) 37), .int 37, .ref (a 1)]) rfl ?_
  refine lv_iload hx hb dX5_takes_74 (lv_at hl 0 rfl) ?_
  refine lv_iadd hx hb dX5_takes_76 ?_
  refine va_iast (f := (upd (jx_al M) 13 (((jx_al M) 13) - x3))) hx hb hK hP hD hS 1 0 rfl rfl (jk_inC (by decide +kernel)) dX5_takes_77 (fun H locs hP hD hS => ?_)
  have hP : va_P D vwCl (jx_W g a (jx_ual M (upd (upd (jx_al M) 13 (((jx_al M) 13) - x3)) 37 (((jx_al M) 37) + x3)))) H := hP
  have hD : va_D A (jx_W g a (jx_ual M (upd (upd (jx_al M) 13 (((jx_al M) 13) - x3)) 37 (((jx_al M) 37) + x3)))) := hD
  refine lv_aload_n hx hb dX5_takes_78 rfl (lv_at hl 2 rfl) ?_
  refine va_get (D := D) (ci := 5) (v := .ref (a 1)) (C := RX5) (T := TX5) (N := 13) hx hb hts hi_5 hown hK hP 0 rfl rfl 0 (by decide) hf_7 (fun _ h9 => h9) rfl dX5_takes_79 ?_
  refine lv_bipush (v := 39) hx hb dX5_takes_82 (by decide) ?_
  refine lv_iload_n hx hb dX5_takes_84 rfl (lv_at hl 3 rfl) ?_
  refine lv_iadd hx hb dX5_takes_85 ?_
  refine W.eq (g2 := F0 m 86 ls [.int 39, .ref (a 1)]) rfl ?_
  refine lv_dup2_11 hx hb dX5_takes_86 rfl rfl ?_
  refine va_iald (f := (upd (upd (jx_al M) 13 (((jx_al M) 13) - x3)) 37 (((jx_al M) 37) + x3))) hx hb hK hP 1 0 rfl rfl (jk_inC (by decide +kernel)) dX5_takes_87 ?_
  refine W.eq (g2 := F0 m 88 ls [.int ((jx_al M) 39), .int 39, .ref (a 1)]) rfl ?_
  refine lv_iload hx hb dX5_takes_88 (lv_at hl 0 rfl) ?_
  refine lv_iadd hx hb dX5_takes_90 ?_
  refine va_iast (f := (upd (upd (jx_al M) 13 (((jx_al M) 13) - x3)) 37 (((jx_al M) 37) + x3))) hx hb hK hP hD hS 1 0 rfl rfl (jk_inC (by decide +kernel)) dX5_takes_91 (fun H locs hP hD hS => ?_)
  have hP : va_P D vwCl (jx_W g a (jx_ual M (upd (upd (upd (jx_al M) 13 (((jx_al M) 13) - x3)) 37 (((jx_al M) 37) + x3)) 39 (((jx_al M) 39) + x3)))) H := hP
  have hD : va_D A (jx_W g a (jx_ual M (upd (upd (upd (jx_al M) 13 (((jx_al M) 13) - x3)) 37 (((jx_al M) 37) + x3)) 39 (((jx_al M) 39) + x3)))) := hD
  subst ex3
  subst ex2
  subst ex1
  exact jk_vret hx hb hr hlocks hP hS (congrArg (fun z => (jx_W g a z)) ((rfl).symm)) dX5_takes_92

def sX5_takes_01 (M : jx_T) : jx_T := let x1 : Int32 := (-((jx_al M) 4)) - ((jx_al M) 37); let x2 : Int32 := ((jx_al M) 4) - ((jx_al M) 37); let x3 : Int32 := rX5_cut ((jx_al M) 25) x1 x2; (jx_ual M (upd (upd (upd (jx_al M) 25 (((jx_al M) 25) - x3)) 37 (((jx_al M) 37) + x3)) 39 (((jx_al M) 39) + x3)))
set_option maxHeartbeats 4000000 in
set_option maxRecDepth 100000 in
theorem c_X5_takes_01 (l : Launch) (D : va_G) (g : jk_G) (a : Nat → Nat) (M : jx_T)  : jk_M l D g yX5_takes wsX5_takes 1 22 [.ref (a 0), .int 0, .int 1] (jx_W g a M) none (jx_W g a (sX5_takes_01 M)) := by
  refine jk_of (cc := cX5_takes) (maxL := 5) (ret := none) (by decide +kernel) rfl (Nat.le_of_ble_eq_true rfl) ?_
  intro p e s m args below meth c hx hb hr hml hts hown hlocks hK hN A H locs hP hD hA hS ls hl
  have hown : s.vm.findClass RX5 = some m.cls := hown
  have hl : lv_has ls 5 [(0, .ref (a 0)), (1, .int 0), (2, .int 1)] := hl
  have hf_7 := hts (.fieldLink RX5 7 "InfluenceJarsModel" "all" "[I") (by decide +kernel)
  have hi_5 : ∀ w ∈ u_ws RX5 TX5 13, w ∈ wsX5_takes := by decide +kernel
  refine lv_iload_n hx hb dX5_takes_0 rfl (lv_at hl 2 rfl) ?_
  refine lv_bipush (v := 6) hx hb dX5_takes_1 (by decide) ?_
  refine lv_iload_n hx hb dX5_takes_3 rfl (lv_at hl 1 rfl) ?_
  refine lv_imul hx hb dX5_takes_4 ?_
  refine W.eq (g2 := F0 m 5 ls [.int 0, .int 1]) rfl ?_
  refine jk_callS (As := [.int 1, .int 0]) (rest := []) (ws1 := (jx_W g a M)) ⟨hx, hb, hml, hown, hts⟩ (c_X5_cell l D g (1 : Int32) (0 : Int32)) (va_cwS 2 hts gX5_takes_X5_cell rfl rfl rfl (by decide +kernel) ⟨Nat.le_of_ble_eq_true rfl, Nat.le_of_ble_eq_true rfl⟩) jk_nilP (jk_nilD (A := A)) hK hN rfl hl rfl (Nat.le_of_ble_eq_true rfl) dX5_takes_5 ⟨Nat.zero_le _, Nat.zero_le _⟩ hS hA (fun _ _ hk => jk_keep hP hk) (fun H locs hP hS => ?_)
  refine W.eq (g2 := F0 m 8 ls [.int 25]) rfl ?_
  refine lv_istore_n (lv' := [(3, .int 25), (0, .ref (a 0)), (1, .int 0), (2, .int 1)]) hx hb dX5_takes_8 rfl hl (by decide) rfl (fun ls hl => ?_)
  refine lv_aload_n hx hb dX5_takes_9 rfl (lv_at hl 1 rfl) ?_
  refine va_get (D := D) (ci := 5) (v := .ref (a 1)) (C := RX5) (T := TX5) (N := 13) hx hb hts hi_5 hown hK hP 0 rfl rfl 0 (by decide) hf_7 (fun _ h9 => h9) rfl dX5_takes_10 ?_
  refine lv_iload_n hx hb dX5_takes_13 rfl (lv_at hl 0 rfl) ?_
  refine va_iald (f := (jx_al M)) hx hb hK hP 1 0 rfl rfl (jk_inC (by decide +kernel)) dX5_takes_14 ?_
  refine W.eq (g2 := F0 m 15 ls [.int ((jx_al M) 25)]) rfl ?_
  refine lv_aload_n hx hb dX5_takes_15 rfl (lv_at hl 1 rfl) ?_
  refine va_get (D := D) (ci := 5) (v := .ref (a 1)) (C := RX5) (T := TX5) (N := 13) hx hb hts hi_5 hown hK hP 0 rfl rfl 0 (by decide) hf_7 (fun _ h9 => h9) rfl dX5_takes_16 ?_
  refine lv_iconst (v := 4) hx hb dX5_takes_19 (by decide) ?_
  refine va_iald (f := (jx_al M)) hx hb hK hP 1 0 rfl rfl (jk_inC (by decide +kernel)) dX5_takes_20 ?_
  refine W.eq (g2 := F0 m 21 ls [.int ((jx_al M) 4), .int ((jx_al M) 25)]) rfl ?_
  refine lv_ineg hx hb dX5_takes_21 ?_
  refine lv_aload_n hx hb dX5_takes_22 rfl (lv_at hl 1 rfl) ?_
  refine va_get (D := D) (ci := 5) (v := .ref (a 1)) (C := RX5) (T := TX5) (N := 13) hx hb hts hi_5 hown hK hP 0 rfl rfl 0 (by decide) hf_7 (fun _ h9 => h9) rfl dX5_takes_23 ?_
  refine lv_bipush (v := 37) hx hb dX5_takes_26 (by decide) ?_
  refine lv_iload_n hx hb dX5_takes_28 rfl (lv_at hl 2 rfl) ?_
  refine lv_iadd hx hb dX5_takes_29 ?_
  refine W.eq (g2 := F0 m 30 ls [.int 37, .ref (a 1), .int (-((jx_al M) 4)), .int ((jx_al M) 25)]) rfl ?_
  refine va_iald (f := (jx_al M)) hx hb hK hP 1 0 rfl rfl (jk_inC (by decide +kernel)) dX5_takes_30 ?_
  refine W.eq (g2 := F0 m 31 ls [.int ((jx_al M) 37), .int (-((jx_al M) 4)), .int ((jx_al M) 25)]) rfl ?_
  refine lv_isub hx hb dX5_takes_31 ?_
  refine lv_topi (fun x1 ex1 => ?_)
  refine lv_aload_n hx hb dX5_takes_32 rfl (lv_at hl 1 rfl) ?_
  refine va_get (D := D) (ci := 5) (v := .ref (a 1)) (C := RX5) (T := TX5) (N := 13) hx hb hts hi_5 hown hK hP 0 rfl rfl 0 (by decide) hf_7 (fun _ h9 => h9) rfl dX5_takes_33 ?_
  refine lv_iconst (v := 4) hx hb dX5_takes_36 (by decide) ?_
  refine va_iald (f := (jx_al M)) hx hb hK hP 1 0 rfl rfl (jk_inC (by decide +kernel)) dX5_takes_37 ?_
  refine W.eq (g2 := F0 m 38 ls [.int ((jx_al M) 4), .int x1, .int ((jx_al M) 25)]) rfl ?_
  refine lv_aload_n hx hb dX5_takes_38 rfl (lv_at hl 1 rfl) ?_
  refine va_get (D := D) (ci := 5) (v := .ref (a 1)) (C := RX5) (T := TX5) (N := 13) hx hb hts hi_5 hown hK hP 0 rfl rfl 0 (by decide) hf_7 (fun _ h9 => h9) rfl dX5_takes_39 ?_
  refine lv_bipush (v := 37) hx hb dX5_takes_42 (by decide) ?_
  refine lv_iload_n hx hb dX5_takes_44 rfl (lv_at hl 2 rfl) ?_
  refine lv_iadd hx hb dX5_takes_45 ?_
  refine W.eq (g2 := F0 m 46 ls [.int 37, .ref (a 1), .int ((jx_al M) 4), .int x1, .int ((jx_al M) 25)]) rfl ?_
  refine va_iald (f := (jx_al M)) hx hb hK hP 1 0 rfl rfl (jk_inC (by decide +kernel)) dX5_takes_46 ?_
  refine W.eq (g2 := F0 m 47 ls [.int ((jx_al M) 37), .int ((jx_al M) 4), .int x1, .int ((jx_al M) 25)]) rfl ?_
  refine lv_isub hx hb dX5_takes_47 ?_
  refine lv_topi (fun x2 ex2 => ?_)
  refine jk_callS (As := [.int ((jx_al M) 25), .int x1, .int x2]) (rest := []) (ws1 := (jx_W g a M)) ⟨hx, hb, hml, hown, hts⟩ (c_X5_cut l D g ((jx_al M) 25) x1 x2) (va_cwS 3 hts gX5_takes_X5_cut rfl rfl rfl (by decide +kernel) ⟨Nat.le_of_ble_eq_true rfl, Nat.le_of_ble_eq_true rfl⟩) jk_nilP (jk_nilD (A := A)) hK hN rfl hl rfl (Nat.le_of_ble_eq_true rfl) dX5_takes_48 ⟨Nat.zero_le _, Nat.zero_le _⟩ hS hA (fun _ _ hk => jk_keep hP hk) (fun H locs hP hS => ?_)
  refine W.eq (g2 := F0 m 51 ls [.int (rX5_cut ((jx_al M) 25) x1 x2)]) rfl ?_
  refine lv_topi (fun x3 ex3 => ?_)
  refine lv_istore (lv' := [(4, .int x3), (3, .int 25), (0, .ref (a 0)), (1, .int 0), (2, .int 1)]) hx hb dX5_takes_51 hl (by decide) rfl (fun ls hl => ?_)
  refine lv_aload_n hx hb dX5_takes_53 rfl (lv_at hl 2 rfl) ?_
  refine va_get (D := D) (ci := 5) (v := .ref (a 1)) (C := RX5) (T := TX5) (N := 13) hx hb hts hi_5 hown hK hP 0 rfl rfl 0 (by decide) hf_7 (fun _ h9 => h9) rfl dX5_takes_54 ?_
  refine lv_iload_n hx hb dX5_takes_57 rfl (lv_at hl 1 rfl) ?_
  refine lv_dup2_11 hx hb dX5_takes_58 rfl rfl ?_
  refine va_iald (f := (jx_al M)) hx hb hK hP 1 0 rfl rfl (jk_inC (by decide +kernel)) dX5_takes_59 ?_
  refine W.eq (g2 := F0 m 60 ls [.int ((jx_al M) 25), .int 25, .ref (a 1)]) rfl ?_
  refine lv_iload hx hb dX5_takes_60 (lv_at hl 0 rfl) ?_
  refine lv_isub hx hb dX5_takes_62 ?_
  refine va_iast (f := (jx_al M)) hx hb hK hP hD hS 1 0 rfl rfl (jk_inC (by decide +kernel)) dX5_takes_63 (fun H locs hP hD hS => ?_)
  have hP : va_P D vwCl (jx_W g a (jx_ual M (upd (jx_al M) 25 (((jx_al M) 25) - x3)))) H := hP
  have hD : va_D A (jx_W g a (jx_ual M (upd (jx_al M) 25 (((jx_al M) 25) - x3)))) := hD
  refine lv_aload_n hx hb dX5_takes_64 rfl (lv_at hl 2 rfl) ?_
  refine va_get (D := D) (ci := 5) (v := .ref (a 1)) (C := RX5) (T := TX5) (N := 13) hx hb hts hi_5 hown hK hP 0 rfl rfl 0 (by decide) hf_7 (fun _ h9 => h9) rfl dX5_takes_65 ?_
  refine lv_bipush (v := 37) hx hb dX5_takes_68 (by decide) ?_
  refine lv_iload_n hx hb dX5_takes_70 rfl (lv_at hl 3 rfl) ?_
  refine lv_iadd hx hb dX5_takes_71 ?_
  refine W.eq (g2 := F0 m 72 ls [.int 37, .ref (a 1)]) rfl ?_
  refine lv_dup2_11 hx hb dX5_takes_72 rfl rfl ?_
  refine va_iald (f := (upd (jx_al M) 25 (((jx_al M) 25) - x3))) hx hb hK hP 1 0 rfl rfl (jk_inC (by decide +kernel)) dX5_takes_73 ?_
  refine W.eq (g2 := F0 m 74 ls [.int ((jx_al M) 37), .int 37, .ref (a 1)]) rfl ?_
  refine lv_iload hx hb dX5_takes_74 (lv_at hl 0 rfl) ?_
  refine lv_iadd hx hb dX5_takes_76 ?_
  refine va_iast (f := (upd (jx_al M) 25 (((jx_al M) 25) - x3))) hx hb hK hP hD hS 1 0 rfl rfl (jk_inC (by decide +kernel)) dX5_takes_77 (fun H locs hP hD hS => ?_)
  have hP : va_P D vwCl (jx_W g a (jx_ual M (upd (upd (jx_al M) 25 (((jx_al M) 25) - x3)) 37 (((jx_al M) 37) + x3)))) H := hP
  have hD : va_D A (jx_W g a (jx_ual M (upd (upd (jx_al M) 25 (((jx_al M) 25) - x3)) 37 (((jx_al M) 37) + x3)))) := hD
  refine lv_aload_n hx hb dX5_takes_78 rfl (lv_at hl 2 rfl) ?_
  refine va_get (D := D) (ci := 5) (v := .ref (a 1)) (C := RX5) (T := TX5) (N := 13) hx hb hts hi_5 hown hK hP 0 rfl rfl 0 (by decide) hf_7 (fun _ h9 => h9) rfl dX5_takes_79 ?_
  refine lv_bipush (v := 39) hx hb dX5_takes_82 (by decide) ?_
  refine lv_iload_n hx hb dX5_takes_84 rfl (lv_at hl 3 rfl) ?_
  refine lv_iadd hx hb dX5_takes_85 ?_
  refine W.eq (g2 := F0 m 86 ls [.int 39, .ref (a 1)]) rfl ?_
  refine lv_dup2_11 hx hb dX5_takes_86 rfl rfl ?_
  refine va_iald (f := (upd (upd (jx_al M) 25 (((jx_al M) 25) - x3)) 37 (((jx_al M) 37) + x3))) hx hb hK hP 1 0 rfl rfl (jk_inC (by decide +kernel)) dX5_takes_87 ?_
  refine W.eq (g2 := F0 m 88 ls [.int ((jx_al M) 39), .int 39, .ref (a 1)]) rfl ?_
  refine lv_iload hx hb dX5_takes_88 (lv_at hl 0 rfl) ?_
  refine lv_iadd hx hb dX5_takes_90 ?_
  refine va_iast (f := (upd (upd (jx_al M) 25 (((jx_al M) 25) - x3)) 37 (((jx_al M) 37) + x3))) hx hb hK hP hD hS 1 0 rfl rfl (jk_inC (by decide +kernel)) dX5_takes_91 (fun H locs hP hD hS => ?_)
  have hP : va_P D vwCl (jx_W g a (jx_ual M (upd (upd (upd (jx_al M) 25 (((jx_al M) 25) - x3)) 37 (((jx_al M) 37) + x3)) 39 (((jx_al M) 39) + x3)))) H := hP
  have hD : va_D A (jx_W g a (jx_ual M (upd (upd (upd (jx_al M) 25 (((jx_al M) 25) - x3)) 37 (((jx_al M) 37) + x3)) 39 (((jx_al M) 39) + x3)))) := hD
  subst ex3
  subst ex2
  subst ex1
  exact jk_vret hx hb hr hlocks hP hS (congrArg (fun z => (jx_W g a z)) ((rfl).symm)) dX5_takes_92

def sX5_takes_10 (M : jx_T) : jx_T := let x1 : Int32 := (-((jx_al M) 4)) - ((jx_al M) 38); let x2 : Int32 := ((jx_al M) 4) - ((jx_al M) 38); let x3 : Int32 := rX5_cut ((jx_al M) 19) x1 x2; (jx_ual M (upd (upd (upd (jx_al M) 19 (((jx_al M) 19) - x3)) 38 (((jx_al M) 38) + x3)) 40 (((jx_al M) 40) + x3)))
set_option maxHeartbeats 4000000 in
set_option maxRecDepth 100000 in
theorem c_X5_takes_10 (l : Launch) (D : va_G) (g : jk_G) (a : Nat → Nat) (M : jx_T)  : jk_M l D g yX5_takes wsX5_takes 1 22 [.ref (a 0), .int 1, .int 0] (jx_W g a M) none (jx_W g a (sX5_takes_10 M)) := by
  refine jk_of (cc := cX5_takes) (maxL := 5) (ret := none) (by decide +kernel) rfl (Nat.le_of_ble_eq_true rfl) ?_
  intro p e s m args below meth c hx hb hr hml hts hown hlocks hK hN A H locs hP hD hA hS ls hl
  have hown : s.vm.findClass RX5 = some m.cls := hown
  have hl : lv_has ls 5 [(0, .ref (a 0)), (1, .int 1), (2, .int 0)] := hl
  have hf_7 := hts (.fieldLink RX5 7 "InfluenceJarsModel" "all" "[I") (by decide +kernel)
  have hi_5 : ∀ w ∈ u_ws RX5 TX5 13, w ∈ wsX5_takes := by decide +kernel
  refine lv_iload_n hx hb dX5_takes_0 rfl (lv_at hl 2 rfl) ?_
  refine lv_bipush (v := 6) hx hb dX5_takes_1 (by decide) ?_
  refine lv_iload_n hx hb dX5_takes_3 rfl (lv_at hl 1 rfl) ?_
  refine lv_imul hx hb dX5_takes_4 ?_
  refine W.eq (g2 := F0 m 5 ls [.int 6, .int 0]) rfl ?_
  refine jk_callS (As := [.int 0, .int 6]) (rest := []) (ws1 := (jx_W g a M)) ⟨hx, hb, hml, hown, hts⟩ (c_X5_cell l D g (0 : Int32) (6 : Int32)) (va_cwS 2 hts gX5_takes_X5_cell rfl rfl rfl (by decide +kernel) ⟨Nat.le_of_ble_eq_true rfl, Nat.le_of_ble_eq_true rfl⟩) jk_nilP (jk_nilD (A := A)) hK hN rfl hl rfl (Nat.le_of_ble_eq_true rfl) dX5_takes_5 ⟨Nat.zero_le _, Nat.zero_le _⟩ hS hA (fun _ _ hk => jk_keep hP hk) (fun H locs hP hS => ?_)
  refine W.eq (g2 := F0 m 8 ls [.int 19]) rfl ?_
  refine lv_istore_n (lv' := [(3, .int 19), (0, .ref (a 0)), (1, .int 1), (2, .int 0)]) hx hb dX5_takes_8 rfl hl (by decide) rfl (fun ls hl => ?_)
  refine lv_aload_n hx hb dX5_takes_9 rfl (lv_at hl 1 rfl) ?_
  refine va_get (D := D) (ci := 5) (v := .ref (a 1)) (C := RX5) (T := TX5) (N := 13) hx hb hts hi_5 hown hK hP 0 rfl rfl 0 (by decide) hf_7 (fun _ h9 => h9) rfl dX5_takes_10 ?_
  refine lv_iload_n hx hb dX5_takes_13 rfl (lv_at hl 0 rfl) ?_
  refine va_iald (f := (jx_al M)) hx hb hK hP 1 0 rfl rfl (jk_inC (by decide +kernel)) dX5_takes_14 ?_
  refine W.eq (g2 := F0 m 15 ls [.int ((jx_al M) 19)]) rfl ?_
  refine lv_aload_n hx hb dX5_takes_15 rfl (lv_at hl 1 rfl) ?_
  refine va_get (D := D) (ci := 5) (v := .ref (a 1)) (C := RX5) (T := TX5) (N := 13) hx hb hts hi_5 hown hK hP 0 rfl rfl 0 (by decide) hf_7 (fun _ h9 => h9) rfl dX5_takes_16 ?_
  refine lv_iconst (v := 4) hx hb dX5_takes_19 (by decide) ?_
  refine va_iald (f := (jx_al M)) hx hb hK hP 1 0 rfl rfl (jk_inC (by decide +kernel)) dX5_takes_20 ?_
  refine W.eq (g2 := F0 m 21 ls [.int ((jx_al M) 4), .int ((jx_al M) 19)]) rfl ?_
  refine lv_ineg hx hb dX5_takes_21 ?_
  refine lv_aload_n hx hb dX5_takes_22 rfl (lv_at hl 1 rfl) ?_
  refine va_get (D := D) (ci := 5) (v := .ref (a 1)) (C := RX5) (T := TX5) (N := 13) hx hb hts hi_5 hown hK hP 0 rfl rfl 0 (by decide) hf_7 (fun _ h9 => h9) rfl dX5_takes_23 ?_
  refine lv_bipush (v := 37) hx hb dX5_takes_26 (by decide) ?_
  refine lv_iload_n hx hb dX5_takes_28 rfl (lv_at hl 2 rfl) ?_
  refine lv_iadd hx hb dX5_takes_29 ?_
  refine W.eq (g2 := F0 m 30 ls [.int 38, .ref (a 1), .int (-((jx_al M) 4)), .int ((jx_al M) 19)]) rfl ?_
  refine va_iald (f := (jx_al M)) hx hb hK hP 1 0 rfl rfl (jk_inC (by decide +kernel)) dX5_takes_30 ?_
  refine W.eq (g2 := F0 m 31 ls [.int ((jx_al M) 38), .int (-((jx_al M) 4)), .int ((jx_al M) 19)]) rfl ?_
  refine lv_isub hx hb dX5_takes_31 ?_
  refine lv_topi (fun x1 ex1 => ?_)
  refine lv_aload_n hx hb dX5_takes_32 rfl (lv_at hl 1 rfl) ?_
  refine va_get (D := D) (ci := 5) (v := .ref (a 1)) (C := RX5) (T := TX5) (N := 13) hx hb hts hi_5 hown hK hP 0 rfl rfl 0 (by decide) hf_7 (fun _ h9 => h9) rfl dX5_takes_33 ?_
  refine lv_iconst (v := 4) hx hb dX5_takes_36 (by decide) ?_
  refine va_iald (f := (jx_al M)) hx hb hK hP 1 0 rfl rfl (jk_inC (by decide +kernel)) dX5_takes_37 ?_
  refine W.eq (g2 := F0 m 38 ls [.int ((jx_al M) 4), .int x1, .int ((jx_al M) 19)]) rfl ?_
  refine lv_aload_n hx hb dX5_takes_38 rfl (lv_at hl 1 rfl) ?_
  refine va_get (D := D) (ci := 5) (v := .ref (a 1)) (C := RX5) (T := TX5) (N := 13) hx hb hts hi_5 hown hK hP 0 rfl rfl 0 (by decide) hf_7 (fun _ h9 => h9) rfl dX5_takes_39 ?_
  refine lv_bipush (v := 37) hx hb dX5_takes_42 (by decide) ?_
  refine lv_iload_n hx hb dX5_takes_44 rfl (lv_at hl 2 rfl) ?_
  refine lv_iadd hx hb dX5_takes_45 ?_
  refine W.eq (g2 := F0 m 46 ls [.int 38, .ref (a 1), .int ((jx_al M) 4), .int x1, .int ((jx_al M) 19)]) rfl ?_
  refine va_iald (f := (jx_al M)) hx hb hK hP 1 0 rfl rfl (jk_inC (by decide +kernel)) dX5_takes_46 ?_
  refine W.eq (g2 := F0 m 47 ls [.int ((jx_al M) 38), .int ((jx_al M) 4), .int x1, .int ((jx_al M) 19)]) rfl ?_
  refine lv_isub hx hb dX5_takes_47 ?_
  refine lv_topi (fun x2 ex2 => ?_)
  refine jk_callS (As := [.int ((jx_al M) 19), .int x1, .int x2]) (rest := []) (ws1 := (jx_W g a M)) ⟨hx, hb, hml, hown, hts⟩ (c_X5_cut l D g ((jx_al M) 19) x1 x2) (va_cwS 3 hts gX5_takes_X5_cut rfl rfl rfl (by decide +kernel) ⟨Nat.le_of_ble_eq_true rfl, Nat.le_of_ble_eq_true rfl⟩) jk_nilP (jk_nilD (A := A)) hK hN rfl hl rfl (Nat.le_of_ble_eq_true rfl) dX5_takes_48 ⟨Nat.zero_le _, Nat.zero_le _⟩ hS hA (fun _ _ hk => jk_keep hP hk) (fun H locs hP hS => ?_)
  refine W.eq (g2 := F0 m 51 ls [.int (rX5_cut ((jx_al M) 19) x1 x2)]) rfl ?_
  refine lv_topi (fun x3 ex3 => ?_)
  refine lv_istore (lv' := [(4, .int x3), (3, .int 19), (0, .ref (a 0)), (1, .int 1), (2, .int 0)]) hx hb dX5_takes_51 hl (by decide) rfl (fun ls hl => ?_)
  refine lv_aload_n hx hb dX5_takes_53 rfl (lv_at hl 2 rfl) ?_
  refine va_get (D := D) (ci := 5) (v := .ref (a 1)) (C := RX5) (T := TX5) (N := 13) hx hb hts hi_5 hown hK hP 0 rfl rfl 0 (by decide) hf_7 (fun _ h9 => h9) rfl dX5_takes_54 ?_
  refine lv_iload_n hx hb dX5_takes_57 rfl (lv_at hl 1 rfl) ?_
  refine lv_dup2_11 hx hb dX5_takes_58 rfl rfl ?_
  refine va_iald (f := (jx_al M)) hx hb hK hP 1 0 rfl rfl (jk_inC (by decide +kernel)) dX5_takes_59 ?_
  refine W.eq (g2 := F0 m 60 ls [.int ((jx_al M) 19), .int 19, .ref (a 1)]) rfl ?_
  refine lv_iload hx hb dX5_takes_60 (lv_at hl 0 rfl) ?_
  refine lv_isub hx hb dX5_takes_62 ?_
  refine va_iast (f := (jx_al M)) hx hb hK hP hD hS 1 0 rfl rfl (jk_inC (by decide +kernel)) dX5_takes_63 (fun H locs hP hD hS => ?_)
  have hP : va_P D vwCl (jx_W g a (jx_ual M (upd (jx_al M) 19 (((jx_al M) 19) - x3)))) H := hP
  have hD : va_D A (jx_W g a (jx_ual M (upd (jx_al M) 19 (((jx_al M) 19) - x3)))) := hD
  refine lv_aload_n hx hb dX5_takes_64 rfl (lv_at hl 2 rfl) ?_
  refine va_get (D := D) (ci := 5) (v := .ref (a 1)) (C := RX5) (T := TX5) (N := 13) hx hb hts hi_5 hown hK hP 0 rfl rfl 0 (by decide) hf_7 (fun _ h9 => h9) rfl dX5_takes_65 ?_
  refine lv_bipush (v := 37) hx hb dX5_takes_68 (by decide) ?_
  refine lv_iload_n hx hb dX5_takes_70 rfl (lv_at hl 3 rfl) ?_
  refine lv_iadd hx hb dX5_takes_71 ?_
  refine W.eq (g2 := F0 m 72 ls [.int 38, .ref (a 1)]) rfl ?_
  refine lv_dup2_11 hx hb dX5_takes_72 rfl rfl ?_
  refine va_iald (f := (upd (jx_al M) 19 (((jx_al M) 19) - x3))) hx hb hK hP 1 0 rfl rfl (jk_inC (by decide +kernel)) dX5_takes_73 ?_
  refine W.eq (g2 := F0 m 74 ls [.int ((jx_al M) 38), .int 38, .ref (a 1)]) rfl ?_
  refine lv_iload hx hb dX5_takes_74 (lv_at hl 0 rfl) ?_
  refine lv_iadd hx hb dX5_takes_76 ?_
  refine va_iast (f := (upd (jx_al M) 19 (((jx_al M) 19) - x3))) hx hb hK hP hD hS 1 0 rfl rfl (jk_inC (by decide +kernel)) dX5_takes_77 (fun H locs hP hD hS => ?_)
  have hP : va_P D vwCl (jx_W g a (jx_ual M (upd (upd (jx_al M) 19 (((jx_al M) 19) - x3)) 38 (((jx_al M) 38) + x3)))) H := hP
  have hD : va_D A (jx_W g a (jx_ual M (upd (upd (jx_al M) 19 (((jx_al M) 19) - x3)) 38 (((jx_al M) 38) + x3)))) := hD
  refine lv_aload_n hx hb dX5_takes_78 rfl (lv_at hl 2 rfl) ?_
  refine va_get (D := D) (ci := 5) (v := .ref (a 1)) (C := RX5) (T := TX5) (N := 13) hx hb hts hi_5 hown hK hP 0 rfl rfl 0 (by decide) hf_7 (fun _ h9 => h9) rfl dX5_takes_79 ?_
  refine lv_bipush (v := 39) hx hb dX5_takes_82 (by decide) ?_
  refine lv_iload_n hx hb dX5_takes_84 rfl (lv_at hl 3 rfl) ?_
  refine lv_iadd hx hb dX5_takes_85 ?_
  refine W.eq (g2 := F0 m 86 ls [.int 40, .ref (a 1)]) rfl ?_
  refine lv_dup2_11 hx hb dX5_takes_86 rfl rfl ?_
  refine va_iald (f := (upd (upd (jx_al M) 19 (((jx_al M) 19) - x3)) 38 (((jx_al M) 38) + x3))) hx hb hK hP 1 0 rfl rfl (jk_inC (by decide +kernel)) dX5_takes_87 ?_
  refine W.eq (g2 := F0 m 88 ls [.int ((jx_al M) 40), .int 40, .ref (a 1)]) rfl ?_
  refine lv_iload hx hb dX5_takes_88 (lv_at hl 0 rfl) ?_
  refine lv_iadd hx hb dX5_takes_90 ?_
  refine va_iast (f := (upd (upd (jx_al M) 19 (((jx_al M) 19) - x3)) 38 (((jx_al M) 38) + x3))) hx hb hK hP hD hS 1 0 rfl rfl (jk_inC (by decide +kernel)) dX5_takes_91 (fun H locs hP hD hS => ?_)
  have hP : va_P D vwCl (jx_W g a (jx_ual M (upd (upd (upd (jx_al M) 19 (((jx_al M) 19) - x3)) 38 (((jx_al M) 38) + x3)) 40 (((jx_al M) 40) + x3)))) H := hP
  have hD : va_D A (jx_W g a (jx_ual M (upd (upd (upd (jx_al M) 19 (((jx_al M) 19) - x3)) 38 (((jx_al M) 38) + x3)) 40 (((jx_al M) 40) + x3)))) := hD
  subst ex3
  subst ex2
  subst ex1
  exact jk_vret hx hb hr hlocks hP hS (congrArg (fun z => (jx_W g a z)) ((rfl).symm)) dX5_takes_92

def sX5_takes_11 (M : jx_T) : jx_T := let x1 : Int32 := (-((jx_al M) 4)) - ((jx_al M) 38); let x2 : Int32 := ((jx_al M) 4) - ((jx_al M) 38); let x3 : Int32 := rX5_cut ((jx_al M) 31) x1 x2; (jx_ual M (upd (upd (upd (jx_al M) 31 (((jx_al M) 31) - x3)) 38 (((jx_al M) 38) + x3)) 40 (((jx_al M) 40) + x3)))
set_option maxHeartbeats 4000000 in
set_option maxRecDepth 100000 in
theorem c_X5_takes_11 (l : Launch) (D : va_G) (g : jk_G) (a : Nat → Nat) (M : jx_T)  : jk_M l D g yX5_takes wsX5_takes 1 22 [.ref (a 0), .int 1, .int 1] (jx_W g a M) none (jx_W g a (sX5_takes_11 M)) := by
  refine jk_of (cc := cX5_takes) (maxL := 5) (ret := none) (by decide +kernel) rfl (Nat.le_of_ble_eq_true rfl) ?_
  intro p e s m args below meth c hx hb hr hml hts hown hlocks hK hN A H locs hP hD hA hS ls hl
  have hown : s.vm.findClass RX5 = some m.cls := hown
  have hl : lv_has ls 5 [(0, .ref (a 0)), (1, .int 1), (2, .int 1)] := hl
  have hf_7 := hts (.fieldLink RX5 7 "InfluenceJarsModel" "all" "[I") (by decide +kernel)
  have hi_5 : ∀ w ∈ u_ws RX5 TX5 13, w ∈ wsX5_takes := by decide +kernel
  refine lv_iload_n hx hb dX5_takes_0 rfl (lv_at hl 2 rfl) ?_
  refine lv_bipush (v := 6) hx hb dX5_takes_1 (by decide) ?_
  refine lv_iload_n hx hb dX5_takes_3 rfl (lv_at hl 1 rfl) ?_
  refine lv_imul hx hb dX5_takes_4 ?_
  refine W.eq (g2 := F0 m 5 ls [.int 6, .int 1]) rfl ?_
  refine jk_callS (As := [.int 1, .int 6]) (rest := []) (ws1 := (jx_W g a M)) ⟨hx, hb, hml, hown, hts⟩ (c_X5_cell l D g (1 : Int32) (6 : Int32)) (va_cwS 2 hts gX5_takes_X5_cell rfl rfl rfl (by decide +kernel) ⟨Nat.le_of_ble_eq_true rfl, Nat.le_of_ble_eq_true rfl⟩) jk_nilP (jk_nilD (A := A)) hK hN rfl hl rfl (Nat.le_of_ble_eq_true rfl) dX5_takes_5 ⟨Nat.zero_le _, Nat.zero_le _⟩ hS hA (fun _ _ hk => jk_keep hP hk) (fun H locs hP hS => ?_)
  refine W.eq (g2 := F0 m 8 ls [.int 31]) rfl ?_
  refine lv_istore_n (lv' := [(3, .int 31), (0, .ref (a 0)), (1, .int 1), (2, .int 1)]) hx hb dX5_takes_8 rfl hl (by decide) rfl (fun ls hl => ?_)
  refine lv_aload_n hx hb dX5_takes_9 rfl (lv_at hl 1 rfl) ?_
  refine va_get (D := D) (ci := 5) (v := .ref (a 1)) (C := RX5) (T := TX5) (N := 13) hx hb hts hi_5 hown hK hP 0 rfl rfl 0 (by decide) hf_7 (fun _ h9 => h9) rfl dX5_takes_10 ?_
  refine lv_iload_n hx hb dX5_takes_13 rfl (lv_at hl 0 rfl) ?_
  refine va_iald (f := (jx_al M)) hx hb hK hP 1 0 rfl rfl (jk_inC (by decide +kernel)) dX5_takes_14 ?_
  refine W.eq (g2 := F0 m 15 ls [.int ((jx_al M) 31)]) rfl ?_
  refine lv_aload_n hx hb dX5_takes_15 rfl (lv_at hl 1 rfl) ?_
  refine va_get (D := D) (ci := 5) (v := .ref (a 1)) (C := RX5) (T := TX5) (N := 13) hx hb hts hi_5 hown hK hP 0 rfl rfl 0 (by decide) hf_7 (fun _ h9 => h9) rfl dX5_takes_16 ?_
  refine lv_iconst (v := 4) hx hb dX5_takes_19 (by decide) ?_
  refine va_iald (f := (jx_al M)) hx hb hK hP 1 0 rfl rfl (jk_inC (by decide +kernel)) dX5_takes_20 ?_
  refine W.eq (g2 := F0 m 21 ls [.int ((jx_al M) 4), .int ((jx_al M) 31)]) rfl ?_
  refine lv_ineg hx hb dX5_takes_21 ?_
  refine lv_aload_n hx hb dX5_takes_22 rfl (lv_at hl 1 rfl) ?_
  refine va_get (D := D) (ci := 5) (v := .ref (a 1)) (C := RX5) (T := TX5) (N := 13) hx hb hts hi_5 hown hK hP 0 rfl rfl 0 (by decide) hf_7 (fun _ h9 => h9) rfl dX5_takes_23 ?_
  refine lv_bipush (v := 37) hx hb dX5_takes_26 (by decide) ?_
  refine lv_iload_n hx hb dX5_takes_28 rfl (lv_at hl 2 rfl) ?_
  refine lv_iadd hx hb dX5_takes_29 ?_
  refine W.eq (g2 := F0 m 30 ls [.int 38, .ref (a 1), .int (-((jx_al M) 4)), .int ((jx_al M) 31)]) rfl ?_
  refine va_iald (f := (jx_al M)) hx hb hK hP 1 0 rfl rfl (jk_inC (by decide +kernel)) dX5_takes_30 ?_
  refine W.eq (g2 := F0 m 31 ls [.int ((jx_al M) 38), .int (-((jx_al M) 4)), .int ((jx_al M) 31)]) rfl ?_
  refine lv_isub hx hb dX5_takes_31 ?_
  refine lv_topi (fun x1 ex1 => ?_)
  refine lv_aload_n hx hb dX5_takes_32 rfl (lv_at hl 1 rfl) ?_
  refine va_get (D := D) (ci := 5) (v := .ref (a 1)) (C := RX5) (T := TX5) (N := 13) hx hb hts hi_5 hown hK hP 0 rfl rfl 0 (by decide) hf_7 (fun _ h9 => h9) rfl dX5_takes_33 ?_
  refine lv_iconst (v := 4) hx hb dX5_takes_36 (by decide) ?_
  refine va_iald (f := (jx_al M)) hx hb hK hP 1 0 rfl rfl (jk_inC (by decide +kernel)) dX5_takes_37 ?_
  refine W.eq (g2 := F0 m 38 ls [.int ((jx_al M) 4), .int x1, .int ((jx_al M) 31)]) rfl ?_
  refine lv_aload_n hx hb dX5_takes_38 rfl (lv_at hl 1 rfl) ?_
  refine va_get (D := D) (ci := 5) (v := .ref (a 1)) (C := RX5) (T := TX5) (N := 13) hx hb hts hi_5 hown hK hP 0 rfl rfl 0 (by decide) hf_7 (fun _ h9 => h9) rfl dX5_takes_39 ?_
  refine lv_bipush (v := 37) hx hb dX5_takes_42 (by decide) ?_
  refine lv_iload_n hx hb dX5_takes_44 rfl (lv_at hl 2 rfl) ?_
  refine lv_iadd hx hb dX5_takes_45 ?_
  refine W.eq (g2 := F0 m 46 ls [.int 38, .ref (a 1), .int ((jx_al M) 4), .int x1, .int ((jx_al M) 31)]) rfl ?_
  refine va_iald (f := (jx_al M)) hx hb hK hP 1 0 rfl rfl (jk_inC (by decide +kernel)) dX5_takes_46 ?_
  refine W.eq (g2 := F0 m 47 ls [.int ((jx_al M) 38), .int ((jx_al M) 4), .int x1, .int ((jx_al M) 31)]) rfl ?_
  refine lv_isub hx hb dX5_takes_47 ?_
  refine lv_topi (fun x2 ex2 => ?_)
  refine jk_callS (As := [.int ((jx_al M) 31), .int x1, .int x2]) (rest := []) (ws1 := (jx_W g a M)) ⟨hx, hb, hml, hown, hts⟩ (c_X5_cut l D g ((jx_al M) 31) x1 x2) (va_cwS 3 hts gX5_takes_X5_cut rfl rfl rfl (by decide +kernel) ⟨Nat.le_of_ble_eq_true rfl, Nat.le_of_ble_eq_true rfl⟩) jk_nilP (jk_nilD (A := A)) hK hN rfl hl rfl (Nat.le_of_ble_eq_true rfl) dX5_takes_48 ⟨Nat.zero_le _, Nat.zero_le _⟩ hS hA (fun _ _ hk => jk_keep hP hk) (fun H locs hP hS => ?_)
  refine W.eq (g2 := F0 m 51 ls [.int (rX5_cut ((jx_al M) 31) x1 x2)]) rfl ?_
  refine lv_topi (fun x3 ex3 => ?_)
  refine lv_istore (lv' := [(4, .int x3), (3, .int 31), (0, .ref (a 0)), (1, .int 1), (2, .int 1)]) hx hb dX5_takes_51 hl (by decide) rfl (fun ls hl => ?_)
  refine lv_aload_n hx hb dX5_takes_53 rfl (lv_at hl 2 rfl) ?_
  refine va_get (D := D) (ci := 5) (v := .ref (a 1)) (C := RX5) (T := TX5) (N := 13) hx hb hts hi_5 hown hK hP 0 rfl rfl 0 (by decide) hf_7 (fun _ h9 => h9) rfl dX5_takes_54 ?_
  refine lv_iload_n hx hb dX5_takes_57 rfl (lv_at hl 1 rfl) ?_
  refine lv_dup2_11 hx hb dX5_takes_58 rfl rfl ?_
  refine va_iald (f := (jx_al M)) hx hb hK hP 1 0 rfl rfl (jk_inC (by decide +kernel)) dX5_takes_59 ?_
  refine W.eq (g2 := F0 m 60 ls [.int ((jx_al M) 31), .int 31, .ref (a 1)]) rfl ?_
  refine lv_iload hx hb dX5_takes_60 (lv_at hl 0 rfl) ?_
  refine lv_isub hx hb dX5_takes_62 ?_
  refine va_iast (f := (jx_al M)) hx hb hK hP hD hS 1 0 rfl rfl (jk_inC (by decide +kernel)) dX5_takes_63 (fun H locs hP hD hS => ?_)
  have hP : va_P D vwCl (jx_W g a (jx_ual M (upd (jx_al M) 31 (((jx_al M) 31) - x3)))) H := hP
  have hD : va_D A (jx_W g a (jx_ual M (upd (jx_al M) 31 (((jx_al M) 31) - x3)))) := hD
  refine lv_aload_n hx hb dX5_takes_64 rfl (lv_at hl 2 rfl) ?_
  refine va_get (D := D) (ci := 5) (v := .ref (a 1)) (C := RX5) (T := TX5) (N := 13) hx hb hts hi_5 hown hK hP 0 rfl rfl 0 (by decide) hf_7 (fun _ h9 => h9) rfl dX5_takes_65 ?_
  refine lv_bipush (v := 37) hx hb dX5_takes_68 (by decide) ?_
  refine lv_iload_n hx hb dX5_takes_70 rfl (lv_at hl 3 rfl) ?_
  refine lv_iadd hx hb dX5_takes_71 ?_
  refine W.eq (g2 := F0 m 72 ls [.int 38, .ref (a 1)]) rfl ?_
  refine lv_dup2_11 hx hb dX5_takes_72 rfl rfl ?_
  refine va_iald (f := (upd (jx_al M) 31 (((jx_al M) 31) - x3))) hx hb hK hP 1 0 rfl rfl (jk_inC (by decide +kernel)) dX5_takes_73 ?_
  refine W.eq (g2 := F0 m 74 ls [.int ((jx_al M) 38), .int 38, .ref (a 1)]) rfl ?_
  refine lv_iload hx hb dX5_takes_74 (lv_at hl 0 rfl) ?_
  refine lv_iadd hx hb dX5_takes_76 ?_
  refine va_iast (f := (upd (jx_al M) 31 (((jx_al M) 31) - x3))) hx hb hK hP hD hS 1 0 rfl rfl (jk_inC (by decide +kernel)) dX5_takes_77 (fun H locs hP hD hS => ?_)
  have hP : va_P D vwCl (jx_W g a (jx_ual M (upd (upd (jx_al M) 31 (((jx_al M) 31) - x3)) 38 (((jx_al M) 38) + x3)))) H := hP
  have hD : va_D A (jx_W g a (jx_ual M (upd (upd (jx_al M) 31 (((jx_al M) 31) - x3)) 38 (((jx_al M) 38) + x3)))) := hD
  refine lv_aload_n hx hb dX5_takes_78 rfl (lv_at hl 2 rfl) ?_
  refine va_get (D := D) (ci := 5) (v := .ref (a 1)) (C := RX5) (T := TX5) (N := 13) hx hb hts hi_5 hown hK hP 0 rfl rfl 0 (by decide) hf_7 (fun _ h9 => h9) rfl dX5_takes_79 ?_
  refine lv_bipush (v := 39) hx hb dX5_takes_82 (by decide) ?_
  refine lv_iload_n hx hb dX5_takes_84 rfl (lv_at hl 3 rfl) ?_
  refine lv_iadd hx hb dX5_takes_85 ?_
  refine W.eq (g2 := F0 m 86 ls [.int 40, .ref (a 1)]) rfl ?_
  refine lv_dup2_11 hx hb dX5_takes_86 rfl rfl ?_
  refine va_iald (f := (upd (upd (jx_al M) 31 (((jx_al M) 31) - x3)) 38 (((jx_al M) 38) + x3))) hx hb hK hP 1 0 rfl rfl (jk_inC (by decide +kernel)) dX5_takes_87 ?_
  refine W.eq (g2 := F0 m 88 ls [.int ((jx_al M) 40), .int 40, .ref (a 1)]) rfl ?_
  refine lv_iload hx hb dX5_takes_88 (lv_at hl 0 rfl) ?_
  refine lv_iadd hx hb dX5_takes_90 ?_
  refine va_iast (f := (upd (upd (jx_al M) 31 (((jx_al M) 31) - x3)) 38 (((jx_al M) 38) + x3))) hx hb hK hP hD hS 1 0 rfl rfl (jk_inC (by decide +kernel)) dX5_takes_91 (fun H locs hP hD hS => ?_)
  have hP : va_P D vwCl (jx_W g a (jx_ual M (upd (upd (upd (jx_al M) 31 (((jx_al M) 31) - x3)) 38 (((jx_al M) 38) + x3)) 40 (((jx_al M) 40) + x3)))) H := hP
  have hD : va_D A (jx_W g a (jx_ual M (upd (upd (upd (jx_al M) 31 (((jx_al M) 31) - x3)) 38 (((jx_al M) 38) + x3)) 40 (((jx_al M) 40) + x3)))) := hD
  subst ex3
  subst ex2
  subst ex1
  exact jk_vret hx hb hr hlocks hP hS (congrArg (fun z => (jx_W g a z)) ((rfl).symm)) dX5_takes_92

def sX5_leaks (M : jx_T) : jx_T := let f2 : (Nat → Int32) := (lx_lk (jx_al M) 24); let x4 : Int32 := (f2 37) - (((f2 37) * (f2 1)) / 200); let x5 : Int32 := (f2 41) + (((f2 37) * (f2 1)) / 200); let x6 : Int32 := (f2 9) + (((f2 37) * (f2 1)) / 200); let x8 : Int32 := (f2 38) - (((f2 38) * (f2 1)) / 200); let x9 : Int32 := (f2 42) + (((f2 38) * (f2 1)) / 200); let x10 : Int32 := x6 + (((f2 38) * (f2 1)) / 200); (jx_ual M (upd (upd (upd (upd (upd (upd f2 37 x4) 41 x5) 9 x6) 38 x8) 42 x9) 9 x10))
set_option maxHeartbeats 4000000 in
set_option maxRecDepth 100000 in
theorem c_X5_leaks (l : Launch) (D : va_G) (g : jk_G) (a : Nat → Nat) (M : jx_T)  : jk_M l D g yX5_leaks wsX5_leaks 0 0 [.ref (a 0)] (jx_W g a M) none (jx_W g a (sX5_leaks M)) := by
  refine jk_of (cc := cX5_leaks) (maxL := 3) (ret := none) (by decide +kernel) rfl (Nat.le_of_ble_eq_true rfl) ?_
  intro p e s m args below meth c hx hb hr hml hts hown hlocks hK hN A H locs hP hD hA hS ls hl
  have hown : s.vm.findClass RX5 = some m.cls := hown
  have hl : lv_has ls 3 [(0, .ref (a 0))] := hl
  have hf_7 := hts (.fieldLink RX5 7 "InfluenceJarsModel" "all" "[I") (by decide +kernel)
  have hi_5 : ∀ w ∈ u_ws RX5 TX5 13, w ∈ wsX5_leaks := by decide +kernel
  refine lv_bipush (v := 13) hx hb dX5_leaks_0 (by decide) ?_
  refine lv_istore_n (lv' := [(1, .int 13), (0, .ref (a 0))]) hx hb dX5_leaks_2 rfl hl (by decide) rfl (fun ls hl => ?_)
  have hlp : ∀ (n k : Nat), k ≤ 24 → 24 < k + n → ∀ (H : Heap) (locs : List Loc), va_P D vwCl (jx_W g a (jx_ual M (lx_lk (jx_al M) k))) H → va_S A s.heap H locs → ∀ ls : Array Slot, lv_has ls 3 [(0, .ref (a 0)), (1, .int (nI (13 + k)))] → W p l e ({ frames := 0, cells := 0, slots := 0, locals := 0 }) s m args below meth c H locs 0 0 (MQ below (jk_Q none D (jx_W g a (sX5_leaks M)) A) args s 0 0 A) (F0 m 3 ls []) := by
    intro n
    induction n with
    | zero => intro k  hk1 hk2; exact absurd hk2 (by omega)
    | succ n ih =>
      intro k  hk hkn  H locs hP hS ls hl
      have hD : va_D A (jx_W g a (jx_ual M (lx_lk (jx_al M) k))) := jk_D.same hD rfl
      refine lv_iload_n hx hb dX5_leaks_3 rfl (lv_at hl 1 rfl) ?_
      refine lv_bipush (v := 37) hx hb dX5_leaks_4 (by decide) ?_
      refine lv_icmp_ge (tgt := 53) hx hb dX5_leaks_6 (by decide) (fun c1 => ?_) (fun c1 => ?_)
      · have hk9 : k = 24 := jk_ge13 hk c1
        subst hk9
        obtain ⟨f2, ef2⟩ : ∃ z : Nat → Int32, z = (lx_lk (jx_al M) 24) := ⟨_, rfl⟩
        rw [← ef2] at hP hD
        refine lv_iconst (v := 0) hx hb dX5_leaks_53 (by decide) ?_
        refine lv_istore_n (lv' := [(1, .int 0), (0, .ref (a 0))]) hx hb dX5_leaks_54 rfl hl (by decide) rfl (fun ls hl => ?_)
        refine lv_iload_n hx hb dX5_leaks_55 rfl (lv_at hl 0 rfl) ?_
        refine lv_iconst (v := 2) hx hb dX5_leaks_56 (by decide) ?_
        refine lv_icmp_ge (tgt := 124) hx hb dX5_leaks_57 (by decide) (fun c3 => ?_) (fun c3 => ?_)
        · exact absurd c3 (by decide)
        · refine lv_aload_n hx hb dX5_leaks_60 rfl (lv_at hl 1 rfl) ?_
          refine va_get (D := D) (ci := 5) (v := .ref (a 1)) (C := RX5) (T := TX5) (N := 13) hx hb hts hi_5 hown hK hP 0 rfl rfl 0 (by decide) hf_7 (fun _ h9 => h9) rfl dX5_leaks_61 ?_
          refine lv_bipush (v := 37) hx hb dX5_leaks_64 (by decide) ?_
          refine lv_iload_n hx hb dX5_leaks_66 rfl (lv_at hl 0 rfl) ?_
          refine lv_iadd hx hb dX5_leaks_67 ?_
          refine W.eq (g2 := F0 m 68 ls [.int 37, .ref (a 1)]) rfl ?_
          refine va_iald (f := f2) hx hb hK hP 1 0 rfl rfl (jk_inC (by decide +kernel)) dX5_leaks_68 ?_
          refine W.eq (g2 := F0 m 69 ls [.int (f2 37)]) rfl ?_
          refine lv_aload_n hx hb dX5_leaks_69 rfl (lv_at hl 1 rfl) ?_
          refine va_get (D := D) (ci := 5) (v := .ref (a 1)) (C := RX5) (T := TX5) (N := 13) hx hb hts hi_5 hown hK hP 0 rfl rfl 0 (by decide) hf_7 (fun _ h9 => h9) rfl dX5_leaks_70 ?_
          refine lv_iconst (v := 1) hx hb dX5_leaks_73 (by decide) ?_
          refine va_iald (f := f2) hx hb hK hP 1 0 rfl rfl (jk_inC (by decide +kernel)) dX5_leaks_74 ?_
          refine W.eq (g2 := F0 m 75 ls [.int (f2 1), .int (f2 37)]) rfl ?_
          refine lv_imul hx hb dX5_leaks_75 ?_
          refine lv_sipush (v := 200) hx hb dX5_leaks_76 (by decide) ?_
          refine lv_idiv hx hb dX5_leaks_79 (by decide) ?_
          refine lv_istore_n (lv' := [(2, .int (((f2 37) * (f2 1)) / 200)), (1, .int 0), (0, .ref (a 0))]) hx hb dX5_leaks_80 rfl hl (by decide) rfl (fun ls hl => ?_)
          refine lv_aload_n hx hb dX5_leaks_81 rfl (lv_at hl 2 rfl) ?_
          refine va_get (D := D) (ci := 5) (v := .ref (a 1)) (C := RX5) (T := TX5) (N := 13) hx hb hts hi_5 hown hK hP 0 rfl rfl 0 (by decide) hf_7 (fun _ h9 => h9) rfl dX5_leaks_82 ?_
          refine lv_bipush (v := 37) hx hb dX5_leaks_85 (by decide) ?_
          refine lv_iload_n hx hb dX5_leaks_87 rfl (lv_at hl 1 rfl) ?_
          refine lv_iadd hx hb dX5_leaks_88 ?_
          refine W.eq (g2 := F0 m 89 ls [.int 37, .ref (a 1)]) rfl ?_
          refine lv_dup2_11 hx hb dX5_leaks_89 rfl rfl ?_
          refine va_iald (f := f2) hx hb hK hP 1 0 rfl rfl (jk_inC (by decide +kernel)) dX5_leaks_90 ?_
          refine W.eq (g2 := F0 m 91 ls [.int (f2 37), .int 37, .ref (a 1)]) rfl ?_
          refine lv_iload_n hx hb dX5_leaks_91 rfl (lv_at hl 0 rfl) ?_
          refine lv_isub hx hb dX5_leaks_92 ?_
          refine lv_topi (fun x4 ex4 => ?_)
          refine va_iast (f := f2) hx hb hK hP hD hS 1 0 rfl rfl (jk_inC (by decide +kernel)) dX5_leaks_93 (fun H locs hP hD hS => ?_)
          have hP : va_P D vwCl (jx_W g a (jx_ual M (upd f2 37 x4))) H := hP
          have hD : va_D A (jx_W g a (jx_ual M (upd f2 37 x4))) := hD
          refine lv_aload_n hx hb dX5_leaks_94 rfl (lv_at hl 2 rfl) ?_
          refine va_get (D := D) (ci := 5) (v := .ref (a 1)) (C := RX5) (T := TX5) (N := 13) hx hb hts hi_5 hown hK hP 0 rfl rfl 0 (by decide) hf_7 (fun _ h9 => h9) rfl dX5_leaks_95 ?_
          refine lv_bipush (v := 41) hx hb dX5_leaks_98 (by decide) ?_
          refine lv_iload_n hx hb dX5_leaks_100 rfl (lv_at hl 1 rfl) ?_
          refine lv_iadd hx hb dX5_leaks_101 ?_
          refine W.eq (g2 := F0 m 102 ls [.int 41, .ref (a 1)]) rfl ?_
          refine lv_dup2_11 hx hb dX5_leaks_102 rfl rfl ?_
          refine va_iald (f := (upd f2 37 x4)) hx hb hK hP 1 0 rfl rfl (jk_inC (by decide +kernel)) dX5_leaks_103 ?_
          refine W.eq (g2 := F0 m 104 ls [.int (f2 41), .int 41, .ref (a 1)]) rfl ?_
          refine lv_iload_n hx hb dX5_leaks_104 rfl (lv_at hl 0 rfl) ?_
          refine lv_iadd hx hb dX5_leaks_105 ?_
          refine lv_topi (fun x5 ex5 => ?_)
          refine va_iast (f := (upd f2 37 x4)) hx hb hK hP hD hS 1 0 rfl rfl (jk_inC (by decide +kernel)) dX5_leaks_106 (fun H locs hP hD hS => ?_)
          have hP : va_P D vwCl (jx_W g a (jx_ual M (upd (upd f2 37 x4) 41 x5))) H := hP
          have hD : va_D A (jx_W g a (jx_ual M (upd (upd f2 37 x4) 41 x5))) := hD
          refine lv_aload_n hx hb dX5_leaks_107 rfl (lv_at hl 2 rfl) ?_
          refine va_get (D := D) (ci := 5) (v := .ref (a 1)) (C := RX5) (T := TX5) (N := 13) hx hb hts hi_5 hown hK hP 0 rfl rfl 0 (by decide) hf_7 (fun _ h9 => h9) rfl dX5_leaks_108 ?_
          refine lv_bipush (v := 9) hx hb dX5_leaks_111 (by decide) ?_
          refine lv_dup2_11 hx hb dX5_leaks_113 rfl rfl ?_
          refine va_iald (f := (upd (upd f2 37 x4) 41 x5)) hx hb hK hP 1 0 rfl rfl (jk_inC (by decide +kernel)) dX5_leaks_114 ?_
          refine W.eq (g2 := F0 m 115 ls [.int (f2 9), .int 9, .ref (a 1)]) rfl ?_
          refine lv_iload_n hx hb dX5_leaks_115 rfl (lv_at hl 0 rfl) ?_
          refine lv_iadd hx hb dX5_leaks_116 ?_
          refine lv_topi (fun x6 ex6 => ?_)
          refine va_iast (f := (upd (upd f2 37 x4) 41 x5)) hx hb hK hP hD hS 1 0 rfl rfl (jk_inC (by decide +kernel)) dX5_leaks_117 (fun H locs hP hD hS => ?_)
          have hP : va_P D vwCl (jx_W g a (jx_ual M (upd (upd (upd f2 37 x4) 41 x5) 9 x6))) H := hP
          have hD : va_D A (jx_W g a (jx_ual M (upd (upd (upd f2 37 x4) 41 x5) 9 x6))) := hD
          refine lv_iinc (v := 1) (lv' := [(1, .int 1), (2, .int (((f2 37) * (f2 1)) / 200)), (0, .ref (a 0))]) hx hb dX5_leaks_118 hl (k := 1) rfl (by decide) (by decide) rfl (fun ls hl => ?_)
          refine lv_goto (tgt := 55) hx hb dX5_leaks_121 (by decide) ?_
          refine lv_iload_n hx hb dX5_leaks_55 rfl (lv_at hl 0 rfl) ?_
          refine lv_iconst (v := 2) hx hb dX5_leaks_56 (by decide) ?_
          refine lv_icmp_ge (tgt := 124) hx hb dX5_leaks_57 (by decide) (fun c7 => ?_) (fun c7 => ?_)
          · exact absurd c7 (by decide)
          · refine lv_aload_n hx hb dX5_leaks_60 rfl (lv_at hl 2 rfl) ?_
            refine va_get (D := D) (ci := 5) (v := .ref (a 1)) (C := RX5) (T := TX5) (N := 13) hx hb hts hi_5 hown hK hP 0 rfl rfl 0 (by decide) hf_7 (fun _ h9 => h9) rfl dX5_leaks_61 ?_
            refine lv_bipush (v := 37) hx hb dX5_leaks_64 (by decide) ?_
            refine lv_iload_n hx hb dX5_leaks_66 rfl (lv_at hl 0 rfl) ?_
            refine lv_iadd hx hb dX5_leaks_67 ?_
            refine W.eq (g2 := F0 m 68 ls [.int 38, .ref (a 1)]) rfl ?_
            refine va_iald (f := (upd (upd (upd f2 37 x4) 41 x5) 9 x6)) hx hb hK hP 1 0 rfl rfl (jk_inC (by decide +kernel)) dX5_leaks_68 ?_
            refine W.eq (g2 := F0 m 69 ls [.int (f2 38)]) rfl ?_
            refine lv_aload_n hx hb dX5_leaks_69 rfl (lv_at hl 2 rfl) ?_
            refine va_get (D := D) (ci := 5) (v := .ref (a 1)) (C := RX5) (T := TX5) (N := 13) hx hb hts hi_5 hown hK hP 0 rfl rfl 0 (by decide) hf_7 (fun _ h9 => h9) rfl dX5_leaks_70 ?_
            refine lv_iconst (v := 1) hx hb dX5_leaks_73 (by decide) ?_
            refine va_iald (f := (upd (upd (upd f2 37 x4) 41 x5) 9 x6)) hx hb hK hP 1 0 rfl rfl (jk_inC (by decide +kernel)) dX5_leaks_74 ?_
            refine W.eq (g2 := F0 m 75 ls [.int (f2 1), .int (f2 38)]) rfl ?_
            refine lv_imul hx hb dX5_leaks_75 ?_
            refine lv_sipush (v := 200) hx hb dX5_leaks_76 (by decide) ?_
            refine lv_idiv hx hb dX5_leaks_79 (by decide) ?_
            refine lv_istore_n (lv' := [(2, .int (((f2 38) * (f2 1)) / 200)), (1, .int 1), (0, .ref (a 0))]) hx hb dX5_leaks_80 rfl hl (by decide) rfl (fun ls hl => ?_)
            refine lv_aload_n hx hb dX5_leaks_81 rfl (lv_at hl 2 rfl) ?_
            refine va_get (D := D) (ci := 5) (v := .ref (a 1)) (C := RX5) (T := TX5) (N := 13) hx hb hts hi_5 hown hK hP 0 rfl rfl 0 (by decide) hf_7 (fun _ h9 => h9) rfl dX5_leaks_82 ?_
            refine lv_bipush (v := 37) hx hb dX5_leaks_85 (by decide) ?_
            refine lv_iload_n hx hb dX5_leaks_87 rfl (lv_at hl 1 rfl) ?_
            refine lv_iadd hx hb dX5_leaks_88 ?_
            refine W.eq (g2 := F0 m 89 ls [.int 38, .ref (a 1)]) rfl ?_
            refine lv_dup2_11 hx hb dX5_leaks_89 rfl rfl ?_
            refine va_iald (f := (upd (upd (upd f2 37 x4) 41 x5) 9 x6)) hx hb hK hP 1 0 rfl rfl (jk_inC (by decide +kernel)) dX5_leaks_90 ?_
            refine W.eq (g2 := F0 m 91 ls [.int (f2 38), .int 38, .ref (a 1)]) rfl ?_
            refine lv_iload_n hx hb dX5_leaks_91 rfl (lv_at hl 0 rfl) ?_
            refine lv_isub hx hb dX5_leaks_92 ?_
            refine lv_topi (fun x8 ex8 => ?_)
            refine va_iast (f := (upd (upd (upd f2 37 x4) 41 x5) 9 x6)) hx hb hK hP hD hS 1 0 rfl rfl (jk_inC (by decide +kernel)) dX5_leaks_93 (fun H locs hP hD hS => ?_)
            have hP : va_P D vwCl (jx_W g a (jx_ual M (upd (upd (upd (upd f2 37 x4) 41 x5) 9 x6) 38 x8))) H := hP
            have hD : va_D A (jx_W g a (jx_ual M (upd (upd (upd (upd f2 37 x4) 41 x5) 9 x6) 38 x8))) := hD
            refine lv_aload_n hx hb dX5_leaks_94 rfl (lv_at hl 2 rfl) ?_
            refine va_get (D := D) (ci := 5) (v := .ref (a 1)) (C := RX5) (T := TX5) (N := 13) hx hb hts hi_5 hown hK hP 0 rfl rfl 0 (by decide) hf_7 (fun _ h9 => h9) rfl dX5_leaks_95 ?_
            refine lv_bipush (v := 41) hx hb dX5_leaks_98 (by decide) ?_
            refine lv_iload_n hx hb dX5_leaks_100 rfl (lv_at hl 1 rfl) ?_
            refine lv_iadd hx hb dX5_leaks_101 ?_
            refine W.eq (g2 := F0 m 102 ls [.int 42, .ref (a 1)]) rfl ?_
            refine lv_dup2_11 hx hb dX5_leaks_102 rfl rfl ?_
            refine va_iald (f := (upd (upd (upd (upd f2 37 x4) 41 x5) 9 x6) 38 x8)) hx hb hK hP 1 0 rfl rfl (jk_inC (by decide +kernel)) dX5_leaks_103 ?_
            refine W.eq (g2 := F0 m 104 ls [.int (f2 42), .int 42, .ref (a 1)]) rfl ?_
            refine lv_iload_n hx hb dX5_leaks_104 rfl (lv_at hl 0 rfl) ?_
            refine lv_iadd hx hb dX5_leaks_105 ?_
            refine lv_topi (fun x9 ex9 => ?_)
            refine va_iast (f := (upd (upd (upd (upd f2 37 x4) 41 x5) 9 x6) 38 x8)) hx hb hK hP hD hS 1 0 rfl rfl (jk_inC (by decide +kernel)) dX5_leaks_106 (fun H locs hP hD hS => ?_)
            have hP : va_P D vwCl (jx_W g a (jx_ual M (upd (upd (upd (upd (upd f2 37 x4) 41 x5) 9 x6) 38 x8) 42 x9))) H := hP
            have hD : va_D A (jx_W g a (jx_ual M (upd (upd (upd (upd (upd f2 37 x4) 41 x5) 9 x6) 38 x8) 42 x9))) := hD
            refine lv_aload_n hx hb dX5_leaks_107 rfl (lv_at hl 2 rfl) ?_
            refine va_get (D := D) (ci := 5) (v := .ref (a 1)) (C := RX5) (T := TX5) (N := 13) hx hb hts hi_5 hown hK hP 0 rfl rfl 0 (by decide) hf_7 (fun _ h9 => h9) rfl dX5_leaks_108 ?_
            refine lv_bipush (v := 9) hx hb dX5_leaks_111 (by decide) ?_
            refine lv_dup2_11 hx hb dX5_leaks_113 rfl rfl ?_
            refine va_iald (f := (upd (upd (upd (upd (upd f2 37 x4) 41 x5) 9 x6) 38 x8) 42 x9)) hx hb hK hP 1 0 rfl rfl (jk_inC (by decide +kernel)) dX5_leaks_114 ?_
            refine W.eq (g2 := F0 m 115 ls [.int x6, .int 9, .ref (a 1)]) rfl ?_
            refine lv_iload_n hx hb dX5_leaks_115 rfl (lv_at hl 0 rfl) ?_
            refine lv_iadd hx hb dX5_leaks_116 ?_
            refine lv_topi (fun x10 ex10 => ?_)
            refine va_iast (f := (upd (upd (upd (upd (upd f2 37 x4) 41 x5) 9 x6) 38 x8) 42 x9)) hx hb hK hP hD hS 1 0 rfl rfl (jk_inC (by decide +kernel)) dX5_leaks_117 (fun H locs hP hD hS => ?_)
            have hP : va_P D vwCl (jx_W g a (jx_ual M (upd (upd (upd (upd (upd (upd f2 37 x4) 41 x5) 9 x6) 38 x8) 42 x9) 9 x10))) H := hP
            have hD : va_D A (jx_W g a (jx_ual M (upd (upd (upd (upd (upd (upd f2 37 x4) 41 x5) 9 x6) 38 x8) 42 x9) 9 x10))) := hD
            refine lv_iinc (v := 2) (lv' := [(1, .int 2), (2, .int (((f2 38) * (f2 1)) / 200)), (0, .ref (a 0))]) hx hb dX5_leaks_118 hl (k := 1) rfl (by decide) (by decide) rfl (fun ls hl => ?_)
            refine lv_goto (tgt := 55) hx hb dX5_leaks_121 (by decide) ?_
            refine lv_iload_n hx hb dX5_leaks_55 rfl (lv_at hl 0 rfl) ?_
            refine lv_iconst (v := 2) hx hb dX5_leaks_56 (by decide) ?_
            refine lv_icmp_ge (tgt := 124) hx hb dX5_leaks_57 (by decide) (fun c11 => ?_) (fun c11 => ?_)
            · subst ex10
              subst ex9
              subst ex8
              subst ex6
              subst ex5
              subst ex4
              subst ef2
              exact jk_vret hx hb hr hlocks hP hS (congrArg (fun z => (jx_W g a z)) ((rfl).symm)) dX5_leaks_124
            · exact absurd c11 (by decide)
      · have hlt : k < 24 := jk_lt13 hk c1
        refine lv_aload_n hx hb dX5_leaks_9 rfl (lv_at hl 0 rfl) ?_
        refine va_get (D := D) (ci := 5) (v := .ref (a 1)) (C := RX5) (T := TX5) (N := 13) hx hb hts hi_5 hown hK hP 0 rfl rfl 0 (by decide) hf_7 (fun _ h9 => h9) rfl dX5_leaks_10 ?_
        refine lv_iload_n hx hb dX5_leaks_13 rfl (lv_at hl 1 rfl) ?_
        refine va_iald (f := (lx_lk (jx_al M) k)) hx hb hK hP 1 0 rfl rfl (vp_in_nI (by omega) (by decide)) dX5_leaks_14 ?_
        refine lv_topi (fun x12 ex12 => ?_)
        refine lv_aload_n hx hb dX5_leaks_15 rfl (lv_at hl 0 rfl) ?_
        refine va_get (D := D) (ci := 5) (v := .ref (a 1)) (C := RX5) (T := TX5) (N := 13) hx hb hts hi_5 hown hK hP 0 rfl rfl 0 (by decide) hf_7 (fun _ h9 => h9) rfl dX5_leaks_16 ?_
        refine lv_iconst (v := 1) hx hb dX5_leaks_19 (by decide) ?_
        refine va_iald (f := (lx_lk (jx_al M) k)) hx hb hK hP 1 0 rfl rfl (jk_inC (by decide +kernel)) dX5_leaks_20 ?_
        refine W.eq (g2 := F0 m 21 ls [.int ((lx_lk (jx_al M) k) 1), .int x12]) rfl ?_
        refine lv_imul hx hb dX5_leaks_21 ?_
        refine lv_topi (fun x13 ex13 => ?_)
        refine lv_bipush (v := 100) hx hb dX5_leaks_22 (by decide) ?_
        refine lv_idiv hx hb dX5_leaks_24 (by decide) ?_
        refine lv_istore_n (lv' := [(2, .int (x13 / 100)), (0, .ref (a 0)), (1, .int (nI (13 + k)))]) hx hb dX5_leaks_25 rfl hl (by decide) rfl (fun ls hl => ?_)
        refine lv_aload_n hx hb dX5_leaks_26 rfl (lv_at hl 1 rfl) ?_
        refine va_get (D := D) (ci := 5) (v := .ref (a 1)) (C := RX5) (T := TX5) (N := 13) hx hb hts hi_5 hown hK hP 0 rfl rfl 0 (by decide) hf_7 (fun _ h9 => h9) rfl dX5_leaks_27 ?_
        refine lv_iload_n hx hb dX5_leaks_30 rfl (lv_at hl 2 rfl) ?_
        refine lv_dup2_11 hx hb dX5_leaks_31 rfl rfl ?_
        refine va_iald (f := (lx_lk (jx_al M) k)) hx hb hK hP 1 0 rfl rfl (vp_in_nI (by omega) (by decide)) dX5_leaks_32 ?_
        refine lv_topi (fun x14 ex14 => ?_)
        refine lv_iload_n hx hb dX5_leaks_33 rfl (lv_at hl 0 rfl) ?_
        refine lv_isub hx hb dX5_leaks_34 ?_
        refine va_iast (f := (lx_lk (jx_al M) k)) hx hb hK hP hD hS 1 0 rfl rfl (vp_in_nI (by omega) (by decide)) dX5_leaks_35 (fun H locs hP hD hS => ?_)
        obtain ⟨f15, ef15⟩ : ∃ z : Nat → Int32, z = (upd (lx_lk (jx_al M) k) (nI (13 + k)).toNatClampNeg (x14 - (x13 / 100))) := ⟨_, rfl⟩
        rw [← ef15] at hP hD
        have hP : va_P D vwCl (jx_W g a (jx_ual M f15)) H := hP
        have hD : va_D A (jx_W g a (jx_ual M f15)) := hD
        refine lv_aload_n hx hb dX5_leaks_36 rfl (lv_at hl 1 rfl) ?_
        refine va_get (D := D) (ci := 5) (v := .ref (a 1)) (C := RX5) (T := TX5) (N := 13) hx hb hts hi_5 hown hK hP 0 rfl rfl 0 (by decide) hf_7 (fun _ h9 => h9) rfl dX5_leaks_37 ?_
        refine lv_bipush (v := 9) hx hb dX5_leaks_40 (by decide) ?_
        refine lv_dup2_11 hx hb dX5_leaks_42 rfl rfl ?_
        refine va_iald (f := f15) hx hb hK hP 1 0 rfl rfl (jk_inC (by decide +kernel)) dX5_leaks_43 ?_
        refine W.eq (g2 := F0 m 44 ls [.int (f15 9), .int 9, .ref (a 1)]) rfl ?_
        refine lv_iload_n hx hb dX5_leaks_44 rfl (lv_at hl 0 rfl) ?_
        refine lv_iadd hx hb dX5_leaks_45 ?_
        refine va_iast (f := f15) hx hb hK hP hD hS 1 0 rfl rfl (jk_inC (by decide +kernel)) dX5_leaks_46 (fun H locs hP hD hS => ?_)
        have hP : va_P D vwCl (jx_W g a (jx_ual M (upd f15 9 ((f15 9) + (x13 / 100))))) H := hP
        have hD : va_D A (jx_W g a (jx_ual M (upd f15 9 ((f15 9) + (x13 / 100))))) := hD
        refine lv_iinc (v := nI ((13 + k) + 1)) (lv' := [(1, .int (nI ((13 + k) + 1))), (2, .int (x13 / 100)), (0, .ref (a 0))]) hx hb dX5_leaks_47 hl (k := 2) rfl (nI_1 _) (by decide) rfl (fun ls hl => ?_)
        refine lv_goto (tgt := 3) hx hb dX5_leaks_50 (by decide) ?_
        subst ef15
        subst ex14
        subst ex13
        subst ex12
        exact ih (k + 1)  (by omega) (by omega)  H locs hP hS ls (lv_sub hl [2, 0] rfl)
  exact hlp (24 + 1) 0  (Nat.zero_le _) (by omega)  H locs hP hS ls (lv_sub hl [1, 0] rfl)

def rX5_difference (M : jx_T) : Int32 := let x1 : Int32 := ((jx_al M) 37) - ((jx_al M) 38); if 0 ≤ x1 then (x1) else (-x1)
set_option maxHeartbeats 4000000 in
set_option maxRecDepth 100000 in
theorem c_X5_difference (l : Launch) (D : va_G) (g : jk_G) (a : Nat → Nat) (M : jx_T)  : jk_M l D g yX5_difference wsX5_difference 0 0 [.ref (a 0)] (jx_W g a M) (some (.int (rX5_difference M))) (jx_W g a M) := by
  refine jk_of (cc := cX5_difference) (maxL := 2) (ret := (some .int)) (by decide +kernel) rfl (Nat.le_of_ble_eq_true rfl) ?_
  intro p e s m args below meth c hx hb hr hml hts hown hlocks hK hN A H locs hP hD hA hS ls hl
  have hown : s.vm.findClass RX5 = some m.cls := hown
  have hl : lv_has ls 2 [(0, .ref (a 0))] := hl
  have hf_7 := hts (.fieldLink RX5 7 "InfluenceJarsModel" "all" "[I") (by decide +kernel)
  have hi_5 : ∀ w ∈ u_ws RX5 TX5 13, w ∈ wsX5_difference := by decide +kernel
  refine lv_aload_n hx hb dX5_difference_0 rfl (lv_at hl 0 rfl) ?_
  refine va_get (D := D) (ci := 5) (v := .ref (a 1)) (C := RX5) (T := TX5) (N := 13) hx hb hts hi_5 hown hK hP 0 rfl rfl 0 (by decide) hf_7 (fun _ h9 => h9) rfl dX5_difference_1 ?_
  refine lv_bipush (v := 37) hx hb dX5_difference_4 (by decide) ?_
  refine va_iald (f := (jx_al M)) hx hb hK hP 1 0 rfl rfl (jk_inC (by decide +kernel)) dX5_difference_6 ?_
  refine W.eq (g2 := F0 m 7 ls [.int ((jx_al M) 37)]) rfl ?_
  refine lv_aload_n hx hb dX5_difference_7 rfl (lv_at hl 0 rfl) ?_
  refine va_get (D := D) (ci := 5) (v := .ref (a 1)) (C := RX5) (T := TX5) (N := 13) hx hb hts hi_5 hown hK hP 0 rfl rfl 0 (by decide) hf_7 (fun _ h9 => h9) rfl dX5_difference_8 ?_
  refine lv_bipush (v := 38) hx hb dX5_difference_11 (by decide) ?_
  refine va_iald (f := (jx_al M)) hx hb hK hP 1 0 rfl rfl (jk_inC (by decide +kernel)) dX5_difference_13 ?_
  refine W.eq (g2 := F0 m 14 ls [.int ((jx_al M) 38), .int ((jx_al M) 37)]) rfl ?_
  refine lv_isub hx hb dX5_difference_14 ?_
  refine lv_topi (fun x1 ex1 => ?_)
  refine lv_istore_n (lv' := [(1, .int x1), (0, .ref (a 0))]) hx hb dX5_difference_15 rfl hl (by decide) rfl (fun ls hl => ?_)
  refine lv_iload_n hx hb dX5_difference_16 rfl (lv_at hl 0 rfl) ?_
  refine lv_if_ge (tgt := 25) hx hb dX5_difference_17 (by decide) (fun c2 => ?_) (fun c2 => ?_)
  · refine lv_iload_n hx hb dX5_difference_25 rfl (lv_at hl 0 rfl) ?_
    subst ex1
    exact jk_iret hx hb hr hlocks hP hS ((if_pos c2).trans (rfl)).symm rfl dX5_difference_26
  · refine lv_iload_n hx hb dX5_difference_20 rfl (lv_at hl 0 rfl) ?_
    refine lv_ineg hx hb dX5_difference_21 ?_
    refine lv_goto (tgt := 26) hx hb dX5_difference_22 (by decide) ?_
    subst ex1
    exact jk_iret hx hb hr hlocks hP hS ((if_neg c2).trans (rfl)).symm rfl dX5_difference_26

def sX5_logs (M : jx_T) : jx_T := if ((jx_al M) 12) = 8 then (let x8 : Int32 := ((lx_lg (jx_al M) 21) 12) - 1; let f9 : (Nat → Int32) := upd (upd (lx_lg (jx_al M) 21) 12 x8) (43 + (3 * x8)).toNatClampNeg ((lx_lg (jx_al M) 21) 5); let f10 : (Nat → Int32) := upd f9 ((43 + (3 * x8)) + 1).toNatClampNeg (f9 37); let f11 : (Nat → Int32) := upd f10 ((43 + (3 * x8)) + 2).toNatClampNeg (f10 38); (jx_ual M (upd f11 12 ((f11 12) + 1)))) else (let f2 : (Nat → Int32) := upd (jx_al M) (43 + (3 * ((jx_al M) 12))).toNatClampNeg ((jx_al M) 5); let x3 : Int32 := (43 + (3 * ((jx_al M) 12))) + 1; let f4 : (Nat → Int32) := upd f2 x3.toNatClampNeg (f2 37); let x5 : Int32 := (43 + (3 * ((jx_al M) 12))) + 2; let f6 : (Nat → Int32) := upd f4 x5.toNatClampNeg (f4 38); (jx_ual M (upd f6 12 ((f6 12) + 1))))
set_option maxHeartbeats 4000000 in
set_option maxRecDepth 100000 in
theorem c_X5_logs (l : Launch) (D : va_G) (g : jk_G) (a : Nat → Nat) (M : jx_T) (hk0 : jx_ok (jx_al M)) : jk_M l D g yX5_logs wsX5_logs 0 0 [.ref (a 0)] (jx_W g a M) none (jx_W g a (sX5_logs M)) := by
  refine jk_of (cc := cX5_logs) (maxL := 2) (ret := none) (by decide +kernel) rfl (Nat.le_of_ble_eq_true rfl) ?_
  intro p e s m args below meth c hx hb hr hml hts hown hlocks hK hN A H locs hP hD hA hS ls hl
  have hown : s.vm.findClass RX5 = some m.cls := hown
  have hl : lv_has ls 2 [(0, .ref (a 0))] := hl
  have hf_7 := hts (.fieldLink RX5 7 "InfluenceJarsModel" "all" "[I") (by decide +kernel)
  have hi_5 : ∀ w ∈ u_ws RX5 TX5 13, w ∈ wsX5_logs := by decide +kernel
  refine lv_aload_n hx hb dX5_logs_0 rfl (lv_at hl 0 rfl) ?_
  refine va_get (D := D) (ci := 5) (v := .ref (a 1)) (C := RX5) (T := TX5) (N := 13) hx hb hts hi_5 hown hK hP 0 rfl rfl 0 (by decide) hf_7 (fun _ h9 => h9) rfl dX5_logs_1 ?_
  refine lv_bipush (v := 12) hx hb dX5_logs_4 (by decide) ?_
  refine va_iald (f := (jx_al M)) hx hb hK hP 1 0 rfl rfl (jk_inC (by decide +kernel)) dX5_logs_6 ?_
  refine W.eq (g2 := F0 m 7 ls [.int ((jx_al M) 12)]) rfl ?_
  refine lv_bipush (v := 8) hx hb dX5_logs_7 (by decide) ?_
  refine lv_icmp_ne (tgt := 57) hx hb dX5_logs_9 (by decide) (fun c1 => ?_) (fun c1 => ?_)
  · refine lv_bipush (v := 43) hx hb dX5_logs_57 (by decide) ?_
    refine lv_iconst (v := 3) hx hb dX5_logs_59 (by decide) ?_
    refine lv_aload_n hx hb dX5_logs_60 rfl (lv_at hl 0 rfl) ?_
    refine va_get (D := D) (ci := 5) (v := .ref (a 1)) (C := RX5) (T := TX5) (N := 13) hx hb hts hi_5 hown hK hP 0 rfl rfl 0 (by decide) hf_7 (fun _ h9 => h9) rfl dX5_logs_61 ?_
    refine lv_bipush (v := 12) hx hb dX5_logs_64 (by decide) ?_
    refine va_iald (f := (jx_al M)) hx hb hK hP 1 0 rfl rfl (jk_inC (by decide +kernel)) dX5_logs_66 ?_
    refine W.eq (g2 := F0 m 67 ls [.int ((jx_al M) 12), .int 3, .int 43]) rfl ?_
    refine lv_imul hx hb dX5_logs_67 ?_
    refine lv_iadd hx hb dX5_logs_68 ?_
    refine lv_istore_n (lv' := [(1, .int (43 + (3 * ((jx_al M) 12)))), (0, .ref (a 0))]) hx hb dX5_logs_69 rfl hl (by decide) rfl (fun ls hl => ?_)
    refine lv_aload_n hx hb dX5_logs_70 rfl (lv_at hl 1 rfl) ?_
    refine va_get (D := D) (ci := 5) (v := .ref (a 1)) (C := RX5) (T := TX5) (N := 13) hx hb hts hi_5 hown hK hP 0 rfl rfl 0 (by decide) hf_7 (fun _ h9 => h9) rfl dX5_logs_71 ?_
    refine lv_iload_n hx hb dX5_logs_74 rfl (lv_at hl 0 rfl) ?_
    refine lv_aload_n hx hb dX5_logs_75 rfl (lv_at hl 1 rfl) ?_
    refine va_get (D := D) (ci := 5) (v := .ref (a 1)) (C := RX5) (T := TX5) (N := 13) hx hb hts hi_5 hown hK hP 0 rfl rfl 0 (by decide) hf_7 (fun _ h9 => h9) rfl dX5_logs_76 ?_
    refine lv_iconst (v := 5) hx hb dX5_logs_79 (by decide) ?_
    refine va_iald (f := (jx_al M)) hx hb hK hP 1 0 rfl rfl (jk_inC (by decide +kernel)) dX5_logs_80 ?_
    refine W.eq (g2 := F0 m 81 ls [.int ((jx_al M) 5), .int (43 + (3 * ((jx_al M) 12))), .ref (a 1)]) rfl ?_
    refine va_iast (f := (jx_al M)) hx hb hK hP hD hS 1 0 rfl rfl (by subst_vars; first | exact (lx_ix hk0 c1).1 | (rw [lx_at8 c1]; exact jk_inC (by decide +kernel))) dX5_logs_81 (fun H locs hP hD hS => ?_)
    obtain ⟨f2, ef2⟩ : ∃ z : Nat → Int32, z = (upd (jx_al M) (43 + (3 * ((jx_al M) 12))).toNatClampNeg ((jx_al M) 5)) := ⟨_, rfl⟩
    rw [← ef2] at hP hD
    have hP : va_P D vwCl (jx_W g a (jx_ual M f2)) H := hP
    have hD : va_D A (jx_W g a (jx_ual M f2)) := hD
    refine lv_aload_n hx hb dX5_logs_82 rfl (lv_at hl 1 rfl) ?_
    refine va_get (D := D) (ci := 5) (v := .ref (a 1)) (C := RX5) (T := TX5) (N := 13) hx hb hts hi_5 hown hK hP 0 rfl rfl 0 (by decide) hf_7 (fun _ h9 => h9) rfl dX5_logs_83 ?_
    refine lv_iload_n hx hb dX5_logs_86 rfl (lv_at hl 0 rfl) ?_
    refine lv_iconst (v := 1) hx hb dX5_logs_87 (by decide) ?_
    refine lv_iadd hx hb dX5_logs_88 ?_
    refine lv_topi (fun x3 ex3 => ?_)
    refine lv_aload_n hx hb dX5_logs_89 rfl (lv_at hl 1 rfl) ?_
    refine va_get (D := D) (ci := 5) (v := .ref (a 1)) (C := RX5) (T := TX5) (N := 13) hx hb hts hi_5 hown hK hP 0 rfl rfl 0 (by decide) hf_7 (fun _ h9 => h9) rfl dX5_logs_90 ?_
    refine lv_bipush (v := 37) hx hb dX5_logs_93 (by decide) ?_
    refine va_iald (f := f2) hx hb hK hP 1 0 rfl rfl (jk_inC (by decide +kernel)) dX5_logs_95 ?_
    refine W.eq (g2 := F0 m 96 ls [.int (f2 37), .int x3, .ref (a 1)]) rfl ?_
    refine va_iast (f := f2) hx hb hK hP hD hS 1 0 rfl rfl (by subst_vars; first | exact (lx_ix hk0 c1).2.1 | (rw [lx_at8 c1]; exact jk_inC (by decide +kernel))) dX5_logs_96 (fun H locs hP hD hS => ?_)
    obtain ⟨f4, ef4⟩ : ∃ z : Nat → Int32, z = (upd f2 x3.toNatClampNeg (f2 37)) := ⟨_, rfl⟩
    rw [← ef4] at hP hD
    have hP : va_P D vwCl (jx_W g a (jx_ual M f4)) H := hP
    have hD : va_D A (jx_W g a (jx_ual M f4)) := hD
    refine lv_aload_n hx hb dX5_logs_97 rfl (lv_at hl 1 rfl) ?_
    refine va_get (D := D) (ci := 5) (v := .ref (a 1)) (C := RX5) (T := TX5) (N := 13) hx hb hts hi_5 hown hK hP 0 rfl rfl 0 (by decide) hf_7 (fun _ h9 => h9) rfl dX5_logs_98 ?_
    refine lv_iload_n hx hb dX5_logs_101 rfl (lv_at hl 0 rfl) ?_
    refine lv_iconst (v := 2) hx hb dX5_logs_102 (by decide) ?_
    refine lv_iadd hx hb dX5_logs_103 ?_
    refine lv_topi (fun x5 ex5 => ?_)
    refine lv_aload_n hx hb dX5_logs_104 rfl (lv_at hl 1 rfl) ?_
    refine va_get (D := D) (ci := 5) (v := .ref (a 1)) (C := RX5) (T := TX5) (N := 13) hx hb hts hi_5 hown hK hP 0 rfl rfl 0 (by decide) hf_7 (fun _ h9 => h9) rfl dX5_logs_105 ?_
    refine lv_bipush (v := 38) hx hb dX5_logs_108 (by decide) ?_
    refine va_iald (f := f4) hx hb hK hP 1 0 rfl rfl (jk_inC (by decide +kernel)) dX5_logs_110 ?_
    refine W.eq (g2 := F0 m 111 ls [.int (f4 38), .int x5, .ref (a 1)]) rfl ?_
    refine va_iast (f := f4) hx hb hK hP hD hS 1 0 rfl rfl (by subst_vars; first | exact (lx_ix hk0 c1).2.2 | (rw [lx_at8 c1]; exact jk_inC (by decide +kernel))) dX5_logs_111 (fun H locs hP hD hS => ?_)
    obtain ⟨f6, ef6⟩ : ∃ z : Nat → Int32, z = (upd f4 x5.toNatClampNeg (f4 38)) := ⟨_, rfl⟩
    rw [← ef6] at hP hD
    have hP : va_P D vwCl (jx_W g a (jx_ual M f6)) H := hP
    have hD : va_D A (jx_W g a (jx_ual M f6)) := hD
    refine lv_aload_n hx hb dX5_logs_112 rfl (lv_at hl 1 rfl) ?_
    refine va_get (D := D) (ci := 5) (v := .ref (a 1)) (C := RX5) (T := TX5) (N := 13) hx hb hts hi_5 hown hK hP 0 rfl rfl 0 (by decide) hf_7 (fun _ h9 => h9) rfl dX5_logs_113 ?_
    refine lv_bipush (v := 12) hx hb dX5_logs_116 (by decide) ?_
    refine lv_dup2_11 hx hb dX5_logs_118 rfl rfl ?_
    refine va_iald (f := f6) hx hb hK hP 1 0 rfl rfl (jk_inC (by decide +kernel)) dX5_logs_119 ?_
    refine W.eq (g2 := F0 m 120 ls [.int (f6 12), .int 12, .ref (a 1)]) rfl ?_
    refine lv_iconst (v := 1) hx hb dX5_logs_120 (by decide) ?_
    refine lv_iadd hx hb dX5_logs_121 ?_
    refine va_iast (f := f6) hx hb hK hP hD hS 1 0 rfl rfl (jk_inC (by decide +kernel)) dX5_logs_122 (fun H locs hP hD hS => ?_)
    have hP : va_P D vwCl (jx_W g a (jx_ual M (upd f6 12 ((f6 12) + 1)))) H := hP
    have hD : va_D A (jx_W g a (jx_ual M (upd f6 12 ((f6 12) + 1)))) := hD
    subst ef6
    subst ex5
    subst ef4
    subst ex3
    subst ef2
    exact jk_vret hx hb hr hlocks hP hS (congrArg (fun z => (jx_W g a z)) (((if_neg c1).trans (rfl)).symm)) dX5_logs_123
  · refine lv_iconst (v := 0) hx hb dX5_logs_12 (by decide) ?_
    refine lv_istore_n (lv' := [(1, .int 0), (0, .ref (a 0))]) hx hb dX5_logs_13 rfl hl (by decide) rfl (fun ls hl => ?_)
    have hlp : ∀ (n k : Nat), k ≤ 21 → 21 < k + n → ∀ (H : Heap) (locs : List Loc), va_P D vwCl (jx_W g a (jx_ual M (lx_lg (jx_al M) k))) H → va_S A s.heap H locs → ∀ ls : Array Slot, lv_has ls 2 [(0, .ref (a 0)), (1, .int (nI k))] → W p l e ({ frames := 0, cells := 0, slots := 0, locals := 0 }) s m args below meth c H locs 0 0 (MQ below (jk_Q none D (jx_W g a (sX5_logs M)) A) args s 0 0 A) (F0 m 14 ls []) := by
      intro n
      induction n with
      | zero => intro k  hk1 hk2; exact absurd hk2 (by omega)
      | succ n ih =>
        intro k  hk hkn  H locs hP hS ls hl
        have hD : va_D A (jx_W g a (jx_ual M (lx_lg (jx_al M) k))) := jk_D.same hD rfl
        refine lv_iload_n hx hb dX5_logs_14 rfl (lv_at hl 1 rfl) ?_
        refine lv_bipush (v := 21) hx hb dX5_logs_15 (by decide) ?_
        refine lv_icmp_ge (tgt := 46) hx hb dX5_logs_17 (by decide) (fun c7 => ?_) (fun c7 => ?_)
        · have hk9 : k = 21 := jk_ge (N := 21) (by decide) hk c7
          subst hk9
          refine lv_aload_n hx hb dX5_logs_46 rfl (lv_at hl 0 rfl) ?_
          refine va_get (D := D) (ci := 5) (v := .ref (a 1)) (C := RX5) (T := TX5) (N := 13) hx hb hts hi_5 hown hK hP 0 rfl rfl 0 (by decide) hf_7 (fun _ h9 => h9) rfl dX5_logs_47 ?_
          refine lv_bipush (v := 12) hx hb dX5_logs_50 (by decide) ?_
          refine lv_dup2_11 hx hb dX5_logs_52 rfl rfl ?_
          refine va_iald (f := (lx_lg (jx_al M) 21)) hx hb hK hP 1 0 rfl rfl (jk_inC (by decide +kernel)) dX5_logs_53 ?_
          refine W.eq (g2 := F0 m 54 ls [.int ((lx_lg (jx_al M) 21) 12), .int 12, .ref (a 1)]) rfl ?_
          refine lv_iconst (v := 1) hx hb dX5_logs_54 (by decide) ?_
          refine lv_isub hx hb dX5_logs_55 ?_
          refine lv_topi (fun x8 ex8 => ?_)
          refine va_iast (f := (lx_lg (jx_al M) 21)) hx hb hK hP hD hS 1 0 rfl rfl (jk_inC (by decide +kernel)) dX5_logs_56 (fun H locs hP hD hS => ?_)
          have hP : va_P D vwCl (jx_W g a (jx_ual M (upd (lx_lg (jx_al M) 21) 12 x8))) H := hP
          have hD : va_D A (jx_W g a (jx_ual M (upd (lx_lg (jx_al M) 21) 12 x8))) := hD
          refine lv_bipush (v := 43) hx hb dX5_logs_57 (by decide) ?_
          refine lv_iconst (v := 3) hx hb dX5_logs_59 (by decide) ?_
          refine lv_aload_n hx hb dX5_logs_60 rfl (lv_at hl 0 rfl) ?_
          refine va_get (D := D) (ci := 5) (v := .ref (a 1)) (C := RX5) (T := TX5) (N := 13) hx hb hts hi_5 hown hK hP 0 rfl rfl 0 (by decide) hf_7 (fun _ h9 => h9) rfl dX5_logs_61 ?_
          refine lv_bipush (v := 12) hx hb dX5_logs_64 (by decide) ?_
          refine va_iald (f := (upd (lx_lg (jx_al M) 21) 12 x8)) hx hb hK hP 1 0 rfl rfl (jk_inC (by decide +kernel)) dX5_logs_66 ?_
          refine W.eq (g2 := F0 m 67 ls [.int x8, .int 3, .int 43]) rfl ?_
          refine lv_imul hx hb dX5_logs_67 ?_
          refine lv_iadd hx hb dX5_logs_68 ?_
          refine lv_istore_n (lv' := [(1, .int (43 + (3 * x8))), (0, .ref (a 0))]) hx hb dX5_logs_69 rfl hl (by decide) rfl (fun ls hl => ?_)
          refine lv_aload_n hx hb dX5_logs_70 rfl (lv_at hl 1 rfl) ?_
          refine va_get (D := D) (ci := 5) (v := .ref (a 1)) (C := RX5) (T := TX5) (N := 13) hx hb hts hi_5 hown hK hP 0 rfl rfl 0 (by decide) hf_7 (fun _ h9 => h9) rfl dX5_logs_71 ?_
          refine lv_iload_n hx hb dX5_logs_74 rfl (lv_at hl 0 rfl) ?_
          refine lv_aload_n hx hb dX5_logs_75 rfl (lv_at hl 1 rfl) ?_
          refine va_get (D := D) (ci := 5) (v := .ref (a 1)) (C := RX5) (T := TX5) (N := 13) hx hb hts hi_5 hown hK hP 0 rfl rfl 0 (by decide) hf_7 (fun _ h9 => h9) rfl dX5_logs_76 ?_
          refine lv_iconst (v := 5) hx hb dX5_logs_79 (by decide) ?_
          refine va_iald (f := (upd (lx_lg (jx_al M) 21) 12 x8)) hx hb hK hP 1 0 rfl rfl (jk_inC (by decide +kernel)) dX5_logs_80 ?_
          refine W.eq (g2 := F0 m 81 ls [.int ((lx_lg (jx_al M) 21) 5), .int (43 + (3 * x8)), .ref (a 1)]) rfl ?_
          refine va_iast (f := (upd (lx_lg (jx_al M) 21) 12 x8)) hx hb hK hP hD hS 1 0 rfl rfl (by subst_vars; first | exact (lx_ix hk0 c1).1 | (rw [lx_at8 c1]; exact jk_inC (by decide +kernel))) dX5_logs_81 (fun H locs hP hD hS => ?_)
          obtain ⟨f9, ef9⟩ : ∃ z : Nat → Int32, z = (upd (upd (lx_lg (jx_al M) 21) 12 x8) (43 + (3 * x8)).toNatClampNeg ((lx_lg (jx_al M) 21) 5)) := ⟨_, rfl⟩
          rw [← ef9] at hP hD
          have hP : va_P D vwCl (jx_W g a (jx_ual M f9)) H := hP
          have hD : va_D A (jx_W g a (jx_ual M f9)) := hD
          refine lv_aload_n hx hb dX5_logs_82 rfl (lv_at hl 1 rfl) ?_
          refine va_get (D := D) (ci := 5) (v := .ref (a 1)) (C := RX5) (T := TX5) (N := 13) hx hb hts hi_5 hown hK hP 0 rfl rfl 0 (by decide) hf_7 (fun _ h9 => h9) rfl dX5_logs_83 ?_
          refine lv_iload_n hx hb dX5_logs_86 rfl (lv_at hl 0 rfl) ?_
          refine lv_iconst (v := 1) hx hb dX5_logs_87 (by decide) ?_
          refine lv_iadd hx hb dX5_logs_88 ?_
          refine lv_aload_n hx hb dX5_logs_89 rfl (lv_at hl 1 rfl) ?_
          refine va_get (D := D) (ci := 5) (v := .ref (a 1)) (C := RX5) (T := TX5) (N := 13) hx hb hts hi_5 hown hK hP 0 rfl rfl 0 (by decide) hf_7 (fun _ h9 => h9) rfl dX5_logs_90 ?_
          refine lv_bipush (v := 37) hx hb dX5_logs_93 (by decide) ?_
          refine va_iald (f := f9) hx hb hK hP 1 0 rfl rfl (jk_inC (by decide +kernel)) dX5_logs_95 ?_
          refine W.eq (g2 := F0 m 96 ls [.int (f9 37), .int ((43 + (3 * x8)) + 1), .ref (a 1)]) rfl ?_
          refine va_iast (f := f9) hx hb hK hP hD hS 1 0 rfl rfl (by subst_vars; first | exact (lx_ix hk0 c1).2.1 | (rw [lx_at8 c1]; exact jk_inC (by decide +kernel))) dX5_logs_96 (fun H locs hP hD hS => ?_)
          obtain ⟨f10, ef10⟩ : ∃ z : Nat → Int32, z = (upd f9 ((43 + (3 * x8)) + 1).toNatClampNeg (f9 37)) := ⟨_, rfl⟩
          rw [← ef10] at hP hD
          have hP : va_P D vwCl (jx_W g a (jx_ual M f10)) H := hP
          have hD : va_D A (jx_W g a (jx_ual M f10)) := hD
          refine lv_aload_n hx hb dX5_logs_97 rfl (lv_at hl 1 rfl) ?_
          refine va_get (D := D) (ci := 5) (v := .ref (a 1)) (C := RX5) (T := TX5) (N := 13) hx hb hts hi_5 hown hK hP 0 rfl rfl 0 (by decide) hf_7 (fun _ h9 => h9) rfl dX5_logs_98 ?_
          refine lv_iload_n hx hb dX5_logs_101 rfl (lv_at hl 0 rfl) ?_
          refine lv_iconst (v := 2) hx hb dX5_logs_102 (by decide) ?_
          refine lv_iadd hx hb dX5_logs_103 ?_
          refine lv_aload_n hx hb dX5_logs_104 rfl (lv_at hl 1 rfl) ?_
          refine va_get (D := D) (ci := 5) (v := .ref (a 1)) (C := RX5) (T := TX5) (N := 13) hx hb hts hi_5 hown hK hP 0 rfl rfl 0 (by decide) hf_7 (fun _ h9 => h9) rfl dX5_logs_105 ?_
          refine lv_bipush (v := 38) hx hb dX5_logs_108 (by decide) ?_
          refine va_iald (f := f10) hx hb hK hP 1 0 rfl rfl (jk_inC (by decide +kernel)) dX5_logs_110 ?_
          refine W.eq (g2 := F0 m 111 ls [.int (f10 38), .int ((43 + (3 * x8)) + 2), .ref (a 1)]) rfl ?_
          refine va_iast (f := f10) hx hb hK hP hD hS 1 0 rfl rfl (by subst_vars; first | exact (lx_ix hk0 c1).2.2 | (rw [lx_at8 c1]; exact jk_inC (by decide +kernel))) dX5_logs_111 (fun H locs hP hD hS => ?_)
          obtain ⟨f11, ef11⟩ : ∃ z : Nat → Int32, z = (upd f10 ((43 + (3 * x8)) + 2).toNatClampNeg (f10 38)) := ⟨_, rfl⟩
          rw [← ef11] at hP hD
          have hP : va_P D vwCl (jx_W g a (jx_ual M f11)) H := hP
          have hD : va_D A (jx_W g a (jx_ual M f11)) := hD
          refine lv_aload_n hx hb dX5_logs_112 rfl (lv_at hl 1 rfl) ?_
          refine va_get (D := D) (ci := 5) (v := .ref (a 1)) (C := RX5) (T := TX5) (N := 13) hx hb hts hi_5 hown hK hP 0 rfl rfl 0 (by decide) hf_7 (fun _ h9 => h9) rfl dX5_logs_113 ?_
          refine lv_bipush (v := 12) hx hb dX5_logs_116 (by decide) ?_
          refine lv_dup2_11 hx hb dX5_logs_118 rfl rfl ?_
          refine va_iald (f := f11) hx hb hK hP 1 0 rfl rfl (jk_inC (by decide +kernel)) dX5_logs_119 ?_
          refine W.eq (g2 := F0 m 120 ls [.int (f11 12), .int 12, .ref (a 1)]) rfl ?_
          refine lv_iconst (v := 1) hx hb dX5_logs_120 (by decide) ?_
          refine lv_iadd hx hb dX5_logs_121 ?_
          refine va_iast (f := f11) hx hb hK hP hD hS 1 0 rfl rfl (jk_inC (by decide +kernel)) dX5_logs_122 (fun H locs hP hD hS => ?_)
          have hP : va_P D vwCl (jx_W g a (jx_ual M (upd f11 12 ((f11 12) + 1)))) H := hP
          have hD : va_D A (jx_W g a (jx_ual M (upd f11 12 ((f11 12) + 1)))) := hD
          subst ef11
          subst ef10
          subst ef9
          subst ex8
          exact jk_vret hx hb hr hlocks hP hS (congrArg (fun z => (jx_W g a z)) (((if_pos c1).trans (rfl)).symm)) dX5_logs_123
        · have hlt : k < 21 := jk_lt (N := 21) (by decide) hk c7
          refine lv_aload_n hx hb dX5_logs_20 rfl (lv_at hl 0 rfl) ?_
          refine va_get (D := D) (ci := 5) (v := .ref (a 1)) (C := RX5) (T := TX5) (N := 13) hx hb hts hi_5 hown hK hP 0 rfl rfl 0 (by decide) hf_7 (fun _ h9 => h9) rfl dX5_logs_21 ?_
          refine lv_bipush (v := 43) hx hb dX5_logs_24 (by decide) ?_
          refine lv_iload_n hx hb dX5_logs_26 rfl (lv_at hl 1 rfl) ?_
          refine lv_iadd hx hb dX5_logs_27 ?_
          refine lv_aload_n hx hb dX5_logs_28 rfl (lv_at hl 0 rfl) ?_
          refine va_get (D := D) (ci := 5) (v := .ref (a 1)) (C := RX5) (T := TX5) (N := 13) hx hb hts hi_5 hown hK hP 0 rfl rfl 0 (by decide) hf_7 (fun _ h9 => h9) rfl dX5_logs_29 ?_
          refine lv_bipush (v := 43) hx hb dX5_logs_32 (by decide) ?_
          refine lv_iload_n hx hb dX5_logs_34 rfl (lv_at hl 1 rfl) ?_
          refine lv_iadd hx hb dX5_logs_35 ?_
          refine lv_iconst (v := 3) hx hb dX5_logs_36 (by decide) ?_
          refine lv_iadd hx hb dX5_logs_37 ?_
          refine va_iald (f := (lx_lg (jx_al M) k)) hx hb hK hP 1 0 rfl rfl (by subst_vars; exact lx_lg_in3 hlt) dX5_logs_38 ?_
          refine lv_topi (fun x12 ex12 => ?_)
          refine va_iast (f := (lx_lg (jx_al M) k)) hx hb hK hP hD hS 1 0 rfl rfl (by subst_vars; exact lx_lg_in hlt) dX5_logs_39 (fun H locs hP hD hS => ?_)
          obtain ⟨f13, ef13⟩ : ∃ z : Nat → Int32, z = (upd (lx_lg (jx_al M) k) (43 + (nI k)).toNatClampNeg x12) := ⟨_, rfl⟩
          rw [← ef13] at hP hD
          have hP : va_P D vwCl (jx_W g a (jx_ual M f13)) H := hP
          have hD : va_D A (jx_W g a (jx_ual M f13)) := hD
          refine lv_iinc (v := nI (k + 1)) (lv' := [(1, .int (nI (k + 1))), (0, .ref (a 0))]) hx hb dX5_logs_40 hl (k := 1) rfl (nI_1 _) (by decide) rfl (fun ls hl => ?_)
          refine lv_goto (tgt := 14) hx hb dX5_logs_43 (by decide) ?_
          subst ef13
          subst ex12
          rw [lx_lg_s _ (by omega)] at hP
          exact ih (k + 1)  (by omega) (by omega)  H locs hP hS ls (lv_sub hl [1, 0] rfl)
    exact hlp (21 + 1) 0  (Nat.zero_le _) (by omega)  H locs (by rw [lx_lg_0]; exact hP) hS ls (lv_sub hl [1, 0] rfl)

def sX5_sparks (M : jx_T) : jx_T := let x1 : Int32 := rX5_difference M; if (10 * ((jx_al M) 2)) ≤ x1 then (let S3 : jx_T := sX5_logs M; let x4 : Int32 := ((jx_al S3) 37) + ((jx_al S3) 38); let x5 : Int32 := (((jx_al S3) 37) - (x4 / 2)) * ((jx_al S3) 3); let x6 : Int32 := x4 - ((x4 / 2) - (x5 / 100)); (jx_ual S3 (upd (upd (upd (jx_al S3) 6 (((jx_al S3) 6) + 1)) 37 ((x4 / 2) - (x5 / 100))) 38 x6))) else (M)
set_option maxHeartbeats 4000000 in
set_option maxRecDepth 100000 in
theorem c_X5_sparks (l : Launch) (D : va_G) (g : jk_G) (a : Nat → Nat) (M : jx_T) (hk0 : jx_ok (jx_al M)) : jk_M l D g yX5_sparks wsX5_sparks 1 21 [.ref (a 0)] (jx_W g a M) none (jx_W g a (sX5_sparks M)) := by
  refine jk_of (cc := cX5_sparks) (maxL := 3) (ret := none) (by decide +kernel) rfl (Nat.le_of_ble_eq_true rfl) ?_
  intro p e s m args below meth c hx hb hr hml hts hown hlocks hK hN A H locs hP hD hA hS ls hl
  have hown : s.vm.findClass RX5 = some m.cls := hown
  have hl : lv_has ls 3 [(0, .ref (a 0))] := hl
  have hf_7 := hts (.fieldLink RX5 7 "InfluenceJarsModel" "all" "[I") (by decide +kernel)
  have hi_5 : ∀ w ∈ u_ws RX5 TX5 13, w ∈ wsX5_sparks := by decide +kernel
  refine lv_aload_n hx hb dX5_sparks_0 rfl (lv_at hl 0 rfl) ?_
  refine jk_callV (As := []) (rest := []) (ws1 := (jx_W g a M)) ⟨hx, hb, hml, hown, hts⟩ (c_X5_difference l D g a M) (cwV 0 hts gX5_sparks_X5_difference rfl rfl rfl (by decide +kernel) ⟨Nat.le_of_ble_eq_true rfl, Nat.le_of_ble_eq_true rfl⟩) (va_recv hK hP (ci := 5) (q0 := 0) rfl rfl) hP hD hK hN rfl hl rfl (Nat.le_of_ble_eq_true rfl) dX5_sparks_1 ⟨Nat.zero_le _, Nat.zero_le _⟩ hS hA (fun _ h _ => h) (fun H locs hP hS => ?_)
  refine W.eq (g2 := F0 m 4 ls [.int (rX5_difference M)]) rfl ?_
  refine lv_topi (fun x1 ex1 => ?_)
  refine lv_bipush (v := 10) hx hb dX5_sparks_4 (by decide) ?_
  refine lv_aload_n hx hb dX5_sparks_6 rfl (lv_at hl 0 rfl) ?_
  refine va_get (D := D) (ci := 5) (v := .ref (a 1)) (C := RX5) (T := TX5) (N := 13) hx hb hts hi_5 hown hK hP 0 rfl rfl 0 (by decide) hf_7 (fun _ h9 => h9) rfl dX5_sparks_7 ?_
  refine lv_iconst (v := 2) hx hb dX5_sparks_10 (by decide) ?_
  refine va_iald (f := (jx_al M)) hx hb hK hP 1 0 rfl rfl (jk_inC (by decide +kernel)) dX5_sparks_11 ?_
  refine W.eq (g2 := F0 m 12 ls [.int ((jx_al M) 2), .int 10, .int x1]) rfl ?_
  refine lv_imul hx hb dX5_sparks_12 ?_
  refine lv_icmp_ge (tgt := 17) hx hb dX5_sparks_13 (by decide) (fun c2 => ?_) (fun c2 => ?_)
  · refine lv_aload_n hx hb dX5_sparks_17 rfl (lv_at hl 0 rfl) ?_
    obtain ⟨S3, eS3⟩ : ∃ z : jx_T, z = sX5_logs M := ⟨_, rfl⟩
    refine jk_callV (As := []) (rest := []) (ws1 := (jx_W g a S3)) ⟨hx, hb, hml, hown, hts⟩ (c_X5_logs l D g a M hk0) (cwV 0 hts gX5_sparks_X5_logs rfl rfl rfl (by decide +kernel) ⟨Nat.le_of_ble_eq_true rfl, Nat.le_of_ble_eq_true rfl⟩) (va_recv hK hP (ci := 5) (q0 := 0) rfl rfl) hP hD hK hN rfl hl rfl (Nat.le_of_ble_eq_true rfl) dX5_sparks_18 ⟨Nat.zero_le _, Nat.zero_le _⟩ hS hA (fun _ h _ => by rw [eS3]; exact h) (fun H locs hP hS => ?_)
    refine W.eq (g2 := F0 m 21 ls []) rfl ?_
    have hD : va_D A (jx_W g a S3) := jk_D.same hD rfl
    refine lv_aload_n hx hb dX5_sparks_21 rfl (lv_at hl 0 rfl) ?_
    refine va_get (D := D) (ci := 5) (v := .ref (a 1)) (C := RX5) (T := TX5) (N := 13) hx hb hts hi_5 hown hK hP 0 rfl rfl 0 (by decide) hf_7 (fun _ h9 => h9) rfl dX5_sparks_22 ?_
    refine lv_bipush (v := 6) hx hb dX5_sparks_25 (by decide) ?_
    refine lv_dup2_11 hx hb dX5_sparks_27 rfl rfl ?_
    refine va_iald (f := (jx_al S3)) hx hb hK hP 1 0 rfl rfl (jk_inC (by decide +kernel)) dX5_sparks_28 ?_
    refine W.eq (g2 := F0 m 29 ls [.int ((jx_al S3) 6), .int 6, .ref (a 1)]) rfl ?_
    refine lv_iconst (v := 1) hx hb dX5_sparks_29 (by decide) ?_
    refine lv_iadd hx hb dX5_sparks_30 ?_
    refine va_iast (f := (jx_al S3)) hx hb hK hP hD hS 1 0 rfl rfl (jk_inC (by decide +kernel)) dX5_sparks_31 (fun H locs hP hD hS => ?_)
    have hP : va_P D vwCl (jx_W g a (jx_ual S3 (upd (jx_al S3) 6 (((jx_al S3) 6) + 1)))) H := hP
    have hD : va_D A (jx_W g a (jx_ual S3 (upd (jx_al S3) 6 (((jx_al S3) 6) + 1)))) := hD
    refine lv_aload_n hx hb dX5_sparks_32 rfl (lv_at hl 0 rfl) ?_
    refine va_get (D := D) (ci := 5) (v := .ref (a 1)) (C := RX5) (T := TX5) (N := 13) hx hb hts hi_5 hown hK hP 0 rfl rfl 0 (by decide) hf_7 (fun _ h9 => h9) rfl dX5_sparks_33 ?_
    refine lv_bipush (v := 37) hx hb dX5_sparks_36 (by decide) ?_
    refine va_iald (f := (upd (jx_al S3) 6 (((jx_al S3) 6) + 1))) hx hb hK hP 1 0 rfl rfl (jk_inC (by decide +kernel)) dX5_sparks_38 ?_
    refine W.eq (g2 := F0 m 39 ls [.int ((jx_al S3) 37)]) rfl ?_
    refine lv_aload_n hx hb dX5_sparks_39 rfl (lv_at hl 0 rfl) ?_
    refine va_get (D := D) (ci := 5) (v := .ref (a 1)) (C := RX5) (T := TX5) (N := 13) hx hb hts hi_5 hown hK hP 0 rfl rfl 0 (by decide) hf_7 (fun _ h9 => h9) rfl dX5_sparks_40 ?_
    refine lv_bipush (v := 38) hx hb dX5_sparks_43 (by decide) ?_
    refine va_iald (f := (upd (jx_al S3) 6 (((jx_al S3) 6) + 1))) hx hb hK hP 1 0 rfl rfl (jk_inC (by decide +kernel)) dX5_sparks_45 ?_
    refine W.eq (g2 := F0 m 46 ls [.int ((jx_al S3) 38), .int ((jx_al S3) 37)]) rfl ?_
    refine lv_iadd hx hb dX5_sparks_46 ?_
    refine lv_topi (fun x4 ex4 => ?_)
    refine lv_istore_n (lv' := [(1, .int x4), (0, .ref (a 0))]) hx hb dX5_sparks_47 rfl hl (by decide) rfl (fun ls hl => ?_)
    refine lv_iload_n hx hb dX5_sparks_48 rfl (lv_at hl 0 rfl) ?_
    refine lv_iconst (v := 2) hx hb dX5_sparks_49 (by decide) ?_
    refine lv_idiv hx hb dX5_sparks_50 (by decide) ?_
    refine lv_istore_n (lv' := [(2, .int (x4 / 2)), (1, .int x4), (0, .ref (a 0))]) hx hb dX5_sparks_51 rfl hl (by decide) rfl (fun ls hl => ?_)
    refine lv_aload_n hx hb dX5_sparks_52 rfl (lv_at hl 2 rfl) ?_
    refine va_get (D := D) (ci := 5) (v := .ref (a 1)) (C := RX5) (T := TX5) (N := 13) hx hb hts hi_5 hown hK hP 0 rfl rfl 0 (by decide) hf_7 (fun _ h9 => h9) rfl dX5_sparks_53 ?_
    refine lv_bipush (v := 37) hx hb dX5_sparks_56 (by decide) ?_
    refine lv_iload_n hx hb dX5_sparks_58 rfl (lv_at hl 0 rfl) ?_
    refine lv_aload_n hx hb dX5_sparks_59 rfl (lv_at hl 2 rfl) ?_
    refine va_get (D := D) (ci := 5) (v := .ref (a 1)) (C := RX5) (T := TX5) (N := 13) hx hb hts hi_5 hown hK hP 0 rfl rfl 0 (by decide) hf_7 (fun _ h9 => h9) rfl dX5_sparks_60 ?_
    refine lv_bipush (v := 37) hx hb dX5_sparks_63 (by decide) ?_
    refine va_iald (f := (upd (jx_al S3) 6 (((jx_al S3) 6) + 1))) hx hb hK hP 1 0 rfl rfl (jk_inC (by decide +kernel)) dX5_sparks_65 ?_
    refine W.eq (g2 := F0 m 66 ls [.int ((jx_al S3) 37), .int (x4 / 2), .int 37, .ref (a 1)]) rfl ?_
    refine lv_iload_n hx hb dX5_sparks_66 rfl (lv_at hl 0 rfl) ?_
    refine lv_isub hx hb dX5_sparks_67 ?_
    refine lv_aload_n hx hb dX5_sparks_68 rfl (lv_at hl 2 rfl) ?_
    refine va_get (D := D) (ci := 5) (v := .ref (a 1)) (C := RX5) (T := TX5) (N := 13) hx hb hts hi_5 hown hK hP 0 rfl rfl 0 (by decide) hf_7 (fun _ h9 => h9) rfl dX5_sparks_69 ?_
    refine lv_iconst (v := 3) hx hb dX5_sparks_72 (by decide) ?_
    refine va_iald (f := (upd (jx_al S3) 6 (((jx_al S3) 6) + 1))) hx hb hK hP 1 0 rfl rfl (jk_inC (by decide +kernel)) dX5_sparks_73 ?_
    refine W.eq (g2 := F0 m 74 ls [.int ((jx_al S3) 3), .int (((jx_al S3) 37) - (x4 / 2)), .int (x4 / 2), .int 37, .ref (a 1)]) rfl ?_
    refine lv_imul hx hb dX5_sparks_74 ?_
    refine lv_topi (fun x5 ex5 => ?_)
    refine lv_bipush (v := 100) hx hb dX5_sparks_75 (by decide) ?_
    refine lv_idiv hx hb dX5_sparks_77 (by decide) ?_
    refine lv_isub hx hb dX5_sparks_78 ?_
    refine va_iast (f := (upd (jx_al S3) 6 (((jx_al S3) 6) + 1))) hx hb hK hP hD hS 1 0 rfl rfl (jk_inC (by decide +kernel)) dX5_sparks_79 (fun H locs hP hD hS => ?_)
    have hP : va_P D vwCl (jx_W g a (jx_ual S3 (upd (upd (jx_al S3) 6 (((jx_al S3) 6) + 1)) 37 ((x4 / 2) - (x5 / 100))))) H := hP
    have hD : va_D A (jx_W g a (jx_ual S3 (upd (upd (jx_al S3) 6 (((jx_al S3) 6) + 1)) 37 ((x4 / 2) - (x5 / 100))))) := hD
    refine lv_aload_n hx hb dX5_sparks_80 rfl (lv_at hl 2 rfl) ?_
    refine va_get (D := D) (ci := 5) (v := .ref (a 1)) (C := RX5) (T := TX5) (N := 13) hx hb hts hi_5 hown hK hP 0 rfl rfl 0 (by decide) hf_7 (fun _ h9 => h9) rfl dX5_sparks_81 ?_
    refine lv_bipush (v := 38) hx hb dX5_sparks_84 (by decide) ?_
    refine lv_iload_n hx hb dX5_sparks_86 rfl (lv_at hl 1 rfl) ?_
    refine lv_aload_n hx hb dX5_sparks_87 rfl (lv_at hl 2 rfl) ?_
    refine va_get (D := D) (ci := 5) (v := .ref (a 1)) (C := RX5) (T := TX5) (N := 13) hx hb hts hi_5 hown hK hP 0 rfl rfl 0 (by decide) hf_7 (fun _ h9 => h9) rfl dX5_sparks_88 ?_
    refine lv_bipush (v := 37) hx hb dX5_sparks_91 (by decide) ?_
    refine va_iald (f := (upd (upd (jx_al S3) 6 (((jx_al S3) 6) + 1)) 37 ((x4 / 2) - (x5 / 100)))) hx hb hK hP 1 0 rfl rfl (jk_inC (by decide +kernel)) dX5_sparks_93 ?_
    refine W.eq (g2 := F0 m 94 ls [.int ((x4 / 2) - (x5 / 100)), .int x4, .int 38, .ref (a 1)]) rfl ?_
    refine lv_isub hx hb dX5_sparks_94 ?_
    refine lv_topi (fun x6 ex6 => ?_)
    refine va_iast (f := (upd (upd (jx_al S3) 6 (((jx_al S3) 6) + 1)) 37 ((x4 / 2) - (x5 / 100)))) hx hb hK hP hD hS 1 0 rfl rfl (jk_inC (by decide +kernel)) dX5_sparks_95 (fun H locs hP hD hS => ?_)
    have hP : va_P D vwCl (jx_W g a (jx_ual S3 (upd (upd (upd (jx_al S3) 6 (((jx_al S3) 6) + 1)) 37 ((x4 / 2) - (x5 / 100))) 38 x6))) H := hP
    have hD : va_D A (jx_W g a (jx_ual S3 (upd (upd (upd (jx_al S3) 6 (((jx_al S3) 6) + 1)) 37 ((x4 / 2) - (x5 / 100))) 38 x6))) := hD
    subst ex6
    subst ex5
    subst ex4
    subst eS3
    subst ex1
    exact jk_vret hx hb hr hlocks hP hS (congrArg (fun z => (jx_W g a z)) (((if_pos c2).trans (rfl)).symm)) dX5_sparks_96
  · subst ex1
    exact jk_vret hx hb hr hlocks hP hS (congrArg (fun z => (jx_W g a z)) (((if_neg c2).trans (rfl)).symm)) dX5_sparks_16

def rX5_sign (M : jx_T) : Int32 := if ((jx_al M) 37) ≤ ((jx_al M) 38) then (if ((jx_al M) 38) ≤ ((jx_al M) 37) then (0) else ((-1))) else (1)
set_option maxHeartbeats 4000000 in
set_option maxRecDepth 100000 in
theorem c_X5_sign (l : Launch) (D : va_G) (g : jk_G) (a : Nat → Nat) (M : jx_T)  : jk_M l D g yX5_sign wsX5_sign 0 0 [.ref (a 0)] (jx_W g a M) (some (.int (rX5_sign M))) (jx_W g a M) := by
  refine jk_of (cc := cX5_sign) (maxL := 1) (ret := (some .int)) (by decide +kernel) rfl (Nat.le_of_ble_eq_true rfl) ?_
  intro p e s m args below meth c hx hb hr hml hts hown hlocks hK hN A H locs hP hD hA hS ls hl
  have hown : s.vm.findClass RX5 = some m.cls := hown
  have hl : lv_has ls 1 [(0, .ref (a 0))] := hl
  have hf_7 := hts (.fieldLink RX5 7 "InfluenceJarsModel" "all" "[I") (by decide +kernel)
  have hi_5 : ∀ w ∈ u_ws RX5 TX5 13, w ∈ wsX5_sign := by decide +kernel
  refine lv_aload_n hx hb dX5_sign_0 rfl (lv_at hl 0 rfl) ?_
  refine va_get (D := D) (ci := 5) (v := .ref (a 1)) (C := RX5) (T := TX5) (N := 13) hx hb hts hi_5 hown hK hP 0 rfl rfl 0 (by decide) hf_7 (fun _ h9 => h9) rfl dX5_sign_1 ?_
  refine lv_bipush (v := 37) hx hb dX5_sign_4 (by decide) ?_
  refine va_iald (f := (jx_al M)) hx hb hK hP 1 0 rfl rfl (jk_inC (by decide +kernel)) dX5_sign_6 ?_
  refine W.eq (g2 := F0 m 7 ls [.int ((jx_al M) 37)]) rfl ?_
  refine lv_aload_n hx hb dX5_sign_7 rfl (lv_at hl 0 rfl) ?_
  refine va_get (D := D) (ci := 5) (v := .ref (a 1)) (C := RX5) (T := TX5) (N := 13) hx hb hts hi_5 hown hK hP 0 rfl rfl 0 (by decide) hf_7 (fun _ h9 => h9) rfl dX5_sign_8 ?_
  refine lv_bipush (v := 38) hx hb dX5_sign_11 (by decide) ?_
  refine va_iald (f := (jx_al M)) hx hb hK hP 1 0 rfl rfl (jk_inC (by decide +kernel)) dX5_sign_13 ?_
  refine W.eq (g2 := F0 m 14 ls [.int ((jx_al M) 38), .int ((jx_al M) 37)]) rfl ?_
  refine lv_icmp_le (tgt := 21) hx hb dX5_sign_14 (by decide) (fun c1 => ?_) (fun c1 => ?_)
  · refine lv_aload_n hx hb dX5_sign_21 rfl (lv_at hl 0 rfl) ?_
    refine va_get (D := D) (ci := 5) (v := .ref (a 1)) (C := RX5) (T := TX5) (N := 13) hx hb hts hi_5 hown hK hP 0 rfl rfl 0 (by decide) hf_7 (fun _ h9 => h9) rfl dX5_sign_22 ?_
    refine lv_bipush (v := 37) hx hb dX5_sign_25 (by decide) ?_
    refine va_iald (f := (jx_al M)) hx hb hK hP 1 0 rfl rfl (jk_inC (by decide +kernel)) dX5_sign_27 ?_
    refine W.eq (g2 := F0 m 28 ls [.int ((jx_al M) 37)]) rfl ?_
    refine lv_aload_n hx hb dX5_sign_28 rfl (lv_at hl 0 rfl) ?_
    refine va_get (D := D) (ci := 5) (v := .ref (a 1)) (C := RX5) (T := TX5) (N := 13) hx hb hts hi_5 hown hK hP 0 rfl rfl 0 (by decide) hf_7 (fun _ h9 => h9) rfl dX5_sign_29 ?_
    refine lv_bipush (v := 38) hx hb dX5_sign_32 (by decide) ?_
    refine va_iald (f := (jx_al M)) hx hb hK hP 1 0 rfl rfl (jk_inC (by decide +kernel)) dX5_sign_34 ?_
    refine W.eq (g2 := F0 m 35 ls [.int ((jx_al M) 38), .int ((jx_al M) 37)]) rfl ?_
    refine lv_icmp_ge (tgt := 42) hx hb dX5_sign_35 (by decide) (fun c2 => ?_) (fun c2 => ?_)
    · refine lv_iconst (v := 0) hx hb dX5_sign_42 (by decide) ?_
      exact jk_iret hx hb hr hlocks hP hS ((if_pos c1).trans ((if_pos c2).trans (rfl))).symm rfl dX5_sign_43
    · refine lv_iconst (v := (-1)) hx hb dX5_sign_38 (by decide) ?_
      refine lv_goto (tgt := 43) hx hb dX5_sign_39 (by decide) ?_
      exact jk_iret hx hb hr hlocks hP hS ((if_pos c1).trans ((if_neg c2).trans (rfl))).symm rfl dX5_sign_43
  · refine lv_iconst (v := 1) hx hb dX5_sign_17 (by decide) ?_
    refine lv_goto (tgt := 43) hx hb dX5_sign_18 (by decide) ?_
    exact jk_iret hx hb hr hlocks hP hS ((if_neg c1).trans (rfl)).symm rfl dX5_sign_43

def sX5_charges (M : jx_T) : jx_T := let S1 : jx_T := sX5_discsTurn (jx_ual M (upd (jx_al M) 5 (((jx_al M) 5) + 1))); let S2 : jx_T := sX5_joins_0 S1; let S3 : jx_T := sX5_joins_1 S2; let S4 : jx_T := sX5_takes_00 S3; let S5 : jx_T := sX5_takes_01 S4; let S6 : jx_T := sX5_takes_10 S5; let S7 : jx_T := sX5_takes_11 S6; let S8 : jx_T := sX5_leaks S7; S8
set_option maxHeartbeats 4000000 in
set_option maxRecDepth 100000 in
theorem c_X5_charges (l : Launch) (D : va_G) (g : jk_G) (a : Nat → Nat) (M : jx_T)  : jk_M l D g yX5_charges wsX5_charges 2 49 [.ref (a 0)] (jx_W g a M) none (jx_W g a (sX5_charges M)) := by
  refine jk_of (cc := cX5_charges) (maxL := 1) (ret := none) (by decide +kernel) rfl (Nat.le_of_ble_eq_true rfl) ?_
  intro p e s m args below meth c hx hb hr hml hts hown hlocks hK hN A H locs hP hD hA hS ls hl
  have hown : s.vm.findClass RX5 = some m.cls := hown
  have hl : lv_has ls 1 [(0, .ref (a 0))] := hl
  have hf_7 := hts (.fieldLink RX5 7 "InfluenceJarsModel" "all" "[I") (by decide +kernel)
  have hi_5 : ∀ w ∈ u_ws RX5 TX5 13, w ∈ wsX5_charges := by decide +kernel
  refine lv_aload_n hx hb dX5_charges_0 rfl (lv_at hl 0 rfl) ?_
  refine va_get (D := D) (ci := 5) (v := .ref (a 1)) (C := RX5) (T := TX5) (N := 13) hx hb hts hi_5 hown hK hP 0 rfl rfl 0 (by decide) hf_7 (fun _ h9 => h9) rfl dX5_charges_1 ?_
  refine lv_iconst (v := 5) hx hb dX5_charges_4 (by decide) ?_
  refine lv_dup2_11 hx hb dX5_charges_5 rfl rfl ?_
  refine va_iald (f := (jx_al M)) hx hb hK hP 1 0 rfl rfl (jk_inC (by decide +kernel)) dX5_charges_6 ?_
  refine W.eq (g2 := F0 m 7 ls [.int ((jx_al M) 5), .int 5, .ref (a 1)]) rfl ?_
  refine lv_iconst (v := 1) hx hb dX5_charges_7 (by decide) ?_
  refine lv_iadd hx hb dX5_charges_8 ?_
  refine va_iast (f := (jx_al M)) hx hb hK hP hD hS 1 0 rfl rfl (jk_inC (by decide +kernel)) dX5_charges_9 (fun H locs hP hD hS => ?_)
  have hP : va_P D vwCl (jx_W g a (jx_ual M (upd (jx_al M) 5 (((jx_al M) 5) + 1)))) H := hP
  have hD : va_D A (jx_W g a (jx_ual M (upd (jx_al M) 5 (((jx_al M) 5) + 1)))) := hD
  refine lv_aload_n hx hb dX5_charges_10 rfl (lv_at hl 0 rfl) ?_
  obtain ⟨S1, eS1⟩ : ∃ z : jx_T, z = sX5_discsTurn (jx_ual M (upd (jx_al M) 5 (((jx_al M) 5) + 1))) := ⟨_, rfl⟩
  refine jk_callV (As := []) (rest := []) (ws1 := (jx_W g a S1)) ⟨hx, hb, hml, hown, hts⟩ (c_X5_discsTurn l D g a (jx_ual M (upd (jx_al M) 5 (((jx_al M) 5) + 1)))) (cwV 0 hts gX5_charges_X5_discsTurn rfl rfl rfl (by decide +kernel) ⟨Nat.le_of_ble_eq_true rfl, Nat.le_of_ble_eq_true rfl⟩) (va_recv hK hP (ci := 5) (q0 := 0) rfl rfl) hP hD hK hN rfl hl rfl (Nat.le_of_ble_eq_true rfl) dX5_charges_11 ⟨Nat.zero_le _, Nat.zero_le _⟩ hS hA (fun _ h _ => by rw [eS1]; exact h) (fun H locs hP hS => ?_)
  refine W.eq (g2 := F0 m 14 ls []) rfl ?_
  have hD : va_D A (jx_W g a S1) := jk_D.same hD rfl
  refine lv_aload_n hx hb dX5_charges_14 rfl (lv_at hl 0 rfl) ?_
  refine lv_iconst (v := 0) hx hb dX5_charges_15 (by decide) ?_
  refine lv_iconst (v := 2) hx hb dX5_charges_16 (by decide) ?_
  refine lv_bipush (v := 8) hx hb dX5_charges_17 (by decide) ?_
  obtain ⟨S2, eS2⟩ : ∃ z : jx_T, z = sX5_joins_0 S1 := ⟨_, rfl⟩
  refine jk_callV (As := [.int 0, .int 2, .int 8]) (rest := []) (ws1 := (jx_W g a S2)) ⟨hx, hb, hml, hown, hts⟩ (c_X5_joins_0 l D g a S1) (cwV 3 hts gX5_charges_X5_joins rfl rfl rfl (by decide +kernel) ⟨Nat.le_of_ble_eq_true rfl, Nat.le_of_ble_eq_true rfl⟩) (va_recv hK hP (ci := 5) (q0 := 0) rfl rfl) hP hD hK hN rfl hl rfl (Nat.le_of_ble_eq_true rfl) dX5_charges_19 ⟨Nat.zero_le _, Nat.zero_le _⟩ hS hA (fun _ h _ => by rw [eS2]; exact h) (fun H locs hP hS => ?_)
  refine W.eq (g2 := F0 m 22 ls []) rfl ?_
  have hD : va_D A (jx_W g a S2) := jk_D.same hD rfl
  refine lv_aload_n hx hb dX5_charges_22 rfl (lv_at hl 0 rfl) ?_
  refine lv_iconst (v := 1) hx hb dX5_charges_23 (by decide) ?_
  refine lv_iconst (v := 4) hx hb dX5_charges_24 (by decide) ?_
  refine lv_bipush (v := 10) hx hb dX5_charges_25 (by decide) ?_
  obtain ⟨S3, eS3⟩ : ∃ z : jx_T, z = sX5_joins_1 S2 := ⟨_, rfl⟩
  refine jk_callV (As := [.int 1, .int 4, .int 10]) (rest := []) (ws1 := (jx_W g a S3)) ⟨hx, hb, hml, hown, hts⟩ (c_X5_joins_1 l D g a S2) (cwV 3 hts gX5_charges_X5_joins rfl rfl rfl (by decide +kernel) ⟨Nat.le_of_ble_eq_true rfl, Nat.le_of_ble_eq_true rfl⟩) (va_recv hK hP (ci := 5) (q0 := 0) rfl rfl) hP hD hK hN rfl hl rfl (Nat.le_of_ble_eq_true rfl) dX5_charges_27 ⟨Nat.zero_le _, Nat.zero_le _⟩ hS hA (fun _ h _ => by rw [eS3]; exact h) (fun H locs hP hS => ?_)
  refine W.eq (g2 := F0 m 30 ls []) rfl ?_
  have hD : va_D A (jx_W g a S3) := jk_D.same hD rfl
  refine lv_aload_n hx hb dX5_charges_30 rfl (lv_at hl 0 rfl) ?_
  refine lv_iconst (v := 0) hx hb dX5_charges_31 (by decide) ?_
  refine lv_iconst (v := 0) hx hb dX5_charges_32 (by decide) ?_
  obtain ⟨S4, eS4⟩ : ∃ z : jx_T, z = sX5_takes_00 S3 := ⟨_, rfl⟩
  refine jk_callV (As := [.int 0, .int 0]) (rest := []) (ws1 := (jx_W g a S4)) ⟨hx, hb, hml, hown, hts⟩ (c_X5_takes_00 l D g a S3) (cwV 2 hts gX5_charges_X5_takes rfl rfl rfl (by decide +kernel) ⟨Nat.le_of_ble_eq_true rfl, Nat.le_of_ble_eq_true rfl⟩) (va_recv hK hP (ci := 5) (q0 := 0) rfl rfl) hP hD hK hN rfl hl rfl (Nat.le_of_ble_eq_true rfl) dX5_charges_33 ⟨Nat.zero_le _, Nat.zero_le _⟩ hS hA (fun _ h _ => by rw [eS4]; exact h) (fun H locs hP hS => ?_)
  refine W.eq (g2 := F0 m 36 ls []) rfl ?_
  have hD : va_D A (jx_W g a S4) := jk_D.same hD rfl
  refine lv_aload_n hx hb dX5_charges_36 rfl (lv_at hl 0 rfl) ?_
  refine lv_iconst (v := 0) hx hb dX5_charges_37 (by decide) ?_
  refine lv_iconst (v := 1) hx hb dX5_charges_38 (by decide) ?_
  obtain ⟨S5, eS5⟩ : ∃ z : jx_T, z = sX5_takes_01 S4 := ⟨_, rfl⟩
  refine jk_callV (As := [.int 0, .int 1]) (rest := []) (ws1 := (jx_W g a S5)) ⟨hx, hb, hml, hown, hts⟩ (c_X5_takes_01 l D g a S4) (cwV 2 hts gX5_charges_X5_takes rfl rfl rfl (by decide +kernel) ⟨Nat.le_of_ble_eq_true rfl, Nat.le_of_ble_eq_true rfl⟩) (va_recv hK hP (ci := 5) (q0 := 0) rfl rfl) hP hD hK hN rfl hl rfl (Nat.le_of_ble_eq_true rfl) dX5_charges_39 ⟨Nat.zero_le _, Nat.zero_le _⟩ hS hA (fun _ h _ => by rw [eS5]; exact h) (fun H locs hP hS => ?_)
  refine W.eq (g2 := F0 m 42 ls []) rfl ?_
  have hD : va_D A (jx_W g a S5) := jk_D.same hD rfl
  refine lv_aload_n hx hb dX5_charges_42 rfl (lv_at hl 0 rfl) ?_
  refine lv_iconst (v := 1) hx hb dX5_charges_43 (by decide) ?_
  refine lv_iconst (v := 0) hx hb dX5_charges_44 (by decide) ?_
  obtain ⟨S6, eS6⟩ : ∃ z : jx_T, z = sX5_takes_10 S5 := ⟨_, rfl⟩
  refine jk_callV (As := [.int 1, .int 0]) (rest := []) (ws1 := (jx_W g a S6)) ⟨hx, hb, hml, hown, hts⟩ (c_X5_takes_10 l D g a S5) (cwV 2 hts gX5_charges_X5_takes rfl rfl rfl (by decide +kernel) ⟨Nat.le_of_ble_eq_true rfl, Nat.le_of_ble_eq_true rfl⟩) (va_recv hK hP (ci := 5) (q0 := 0) rfl rfl) hP hD hK hN rfl hl rfl (Nat.le_of_ble_eq_true rfl) dX5_charges_45 ⟨Nat.zero_le _, Nat.zero_le _⟩ hS hA (fun _ h _ => by rw [eS6]; exact h) (fun H locs hP hS => ?_)
  refine W.eq (g2 := F0 m 48 ls []) rfl ?_
  have hD : va_D A (jx_W g a S6) := jk_D.same hD rfl
  refine lv_aload_n hx hb dX5_charges_48 rfl (lv_at hl 0 rfl) ?_
  refine lv_iconst (v := 1) hx hb dX5_charges_49 (by decide) ?_
  refine lv_iconst (v := 1) hx hb dX5_charges_50 (by decide) ?_
  obtain ⟨S7, eS7⟩ : ∃ z : jx_T, z = sX5_takes_11 S6 := ⟨_, rfl⟩
  refine jk_callV (As := [.int 1, .int 1]) (rest := []) (ws1 := (jx_W g a S7)) ⟨hx, hb, hml, hown, hts⟩ (c_X5_takes_11 l D g a S6) (cwV 2 hts gX5_charges_X5_takes rfl rfl rfl (by decide +kernel) ⟨Nat.le_of_ble_eq_true rfl, Nat.le_of_ble_eq_true rfl⟩) (va_recv hK hP (ci := 5) (q0 := 0) rfl rfl) hP hD hK hN rfl hl rfl (Nat.le_of_ble_eq_true rfl) dX5_charges_51 ⟨Nat.zero_le _, Nat.zero_le _⟩ hS hA (fun _ h _ => by rw [eS7]; exact h) (fun H locs hP hS => ?_)
  refine W.eq (g2 := F0 m 54 ls []) rfl ?_
  have hD : va_D A (jx_W g a S7) := jk_D.same hD rfl
  refine lv_aload_n hx hb dX5_charges_54 rfl (lv_at hl 0 rfl) ?_
  obtain ⟨S8, eS8⟩ : ∃ z : jx_T, z = sX5_leaks S7 := ⟨_, rfl⟩
  refine jk_callV (As := []) (rest := []) (ws1 := (jx_W g a S8)) ⟨hx, hb, hml, hown, hts⟩ (c_X5_leaks l D g a S7) (cwV 0 hts gX5_charges_X5_leaks rfl rfl rfl (by decide +kernel) ⟨Nat.le_of_ble_eq_true rfl, Nat.le_of_ble_eq_true rfl⟩) (va_recv hK hP (ci := 5) (q0 := 0) rfl rfl) hP hD hK hN rfl hl rfl (Nat.le_of_ble_eq_true rfl) dX5_charges_55 ⟨Nat.zero_le _, Nat.zero_le _⟩ hS hA (fun _ h _ => by rw [eS8]; exact h) (fun H locs hP hS => ?_)
  refine W.eq (g2 := F0 m 58 ls []) rfl ?_
  have hD : va_D A (jx_W g a S8) := jk_D.same hD rfl
  subst eS8
  subst eS7
  subst eS6
  subst eS5
  subst eS4
  subst eS3
  subst eS2
  subst eS1
  exact jk_vret hx hb hr hlocks hP hS (congrArg (fun z => (jx_W g a z)) ((rfl).symm)) dX5_charges_58

def rX5_allCharge (M : jx_T) : Int32 := lx_sum (jx_al M) ((jx_al M) 37 + (jx_al M) 38) 24
set_option maxHeartbeats 4000000 in
set_option maxRecDepth 100000 in
theorem c_X5_allCharge (l : Launch) (D : va_G) (g : jk_G) (a : Nat → Nat) (M : jx_T)  : jk_M l D g yX5_allCharge wsX5_allCharge 0 0 [.ref (a 0)] (jx_W g a M) (some (.int (rX5_allCharge M))) (jx_W g a M) := by
  refine jk_of (cc := cX5_allCharge) (maxL := 3) (ret := (some .int)) (by decide +kernel) rfl (Nat.le_of_ble_eq_true rfl) ?_
  intro p e s m args below meth c hx hb hr hml hts hown hlocks hK hN A H locs hP hD hA hS ls hl
  have hown : s.vm.findClass RX5 = some m.cls := hown
  have hl : lv_has ls 3 [(0, .ref (a 0))] := hl
  have hf_7 := hts (.fieldLink RX5 7 "InfluenceJarsModel" "all" "[I") (by decide +kernel)
  have hi_5 : ∀ w ∈ u_ws RX5 TX5 13, w ∈ wsX5_allCharge := by decide +kernel
  refine lv_aload_n hx hb dX5_allCharge_0 rfl (lv_at hl 0 rfl) ?_
  refine va_get (D := D) (ci := 5) (v := .ref (a 1)) (C := RX5) (T := TX5) (N := 13) hx hb hts hi_5 hown hK hP 0 rfl rfl 0 (by decide) hf_7 (fun _ h9 => h9) rfl dX5_allCharge_1 ?_
  refine lv_bipush (v := 37) hx hb dX5_allCharge_4 (by decide) ?_
  refine va_iald (f := (jx_al M)) hx hb hK hP 1 0 rfl rfl (jk_inC (by decide +kernel)) dX5_allCharge_6 ?_
  refine W.eq (g2 := F0 m 7 ls [.int ((jx_al M) 37)]) rfl ?_
  refine lv_aload_n hx hb dX5_allCharge_7 rfl (lv_at hl 0 rfl) ?_
  refine va_get (D := D) (ci := 5) (v := .ref (a 1)) (C := RX5) (T := TX5) (N := 13) hx hb hts hi_5 hown hK hP 0 rfl rfl 0 (by decide) hf_7 (fun _ h9 => h9) rfl dX5_allCharge_8 ?_
  refine lv_bipush (v := 38) hx hb dX5_allCharge_11 (by decide) ?_
  refine va_iald (f := (jx_al M)) hx hb hK hP 1 0 rfl rfl (jk_inC (by decide +kernel)) dX5_allCharge_13 ?_
  refine W.eq (g2 := F0 m 14 ls [.int ((jx_al M) 38), .int ((jx_al M) 37)]) rfl ?_
  refine lv_iadd hx hb dX5_allCharge_14 ?_
  refine lv_topi (fun x1 ex1 => ?_)
  refine lv_istore_n (lv' := [(1, .int x1), (0, .ref (a 0))]) hx hb dX5_allCharge_15 rfl hl (by decide) rfl (fun ls hl => ?_)
  refine lv_bipush (v := 13) hx hb dX5_allCharge_16 (by decide) ?_
  refine lv_istore_n (lv' := [(2, .int 13), (1, .int x1), (0, .ref (a 0))]) hx hb dX5_allCharge_18 rfl hl (by decide) rfl (fun ls hl => ?_)
  subst ex1
  have hlp : ∀ (n k : Nat), k ≤ 24 → 24 < k + n → ∀ (H : Heap) (locs : List Loc), va_P D vwCl (jx_W g a M) H → va_S A s.heap H locs → ∀ ls : Array Slot, lv_has ls 3 [(0, .ref (a 0)), (1, .int (lx_sum (jx_al M) ((jx_al M) 37 + (jx_al M) 38) k)), (2, .int (nI (13 + k)))] → W p l e ({ frames := 0, cells := 0, slots := 0, locals := 0 }) s m args below meth c H locs 0 0 (MQ below (jk_Q (some (.int (rX5_allCharge M))) D (jx_W g a M) A) args s 0 0 A) (F0 m 19 ls []) := by
    intro n
    induction n with
    | zero => intro k  hk1 hk2; exact absurd hk2 (by omega)
    | succ n ih =>
      intro k  hk hkn  H locs hP hS ls hl
      have hD : va_D A (jx_W g a M) := jk_D.same hD rfl
      refine lv_iload_n hx hb dX5_allCharge_19 rfl (lv_at hl 2 rfl) ?_
      refine lv_bipush (v := 37) hx hb dX5_allCharge_20 (by decide) ?_
      refine lv_icmp_ge (tgt := 40) hx hb dX5_allCharge_22 (by decide) (fun c2 => ?_) (fun c2 => ?_)
      · have hk9 : k = 24 := jk_ge13 hk c2
        subst hk9
        refine lv_iload_n hx hb dX5_allCharge_40 rfl (lv_at hl 1 rfl) ?_
        exact jk_iret hx hb hr hlocks hP hS (rfl).symm rfl dX5_allCharge_41
      · have hlt : k < 24 := jk_lt13 hk c2
        refine lv_iload_n hx hb dX5_allCharge_25 rfl (lv_at hl 1 rfl) ?_
        refine lv_aload_n hx hb dX5_allCharge_26 rfl (lv_at hl 0 rfl) ?_
        refine va_get (D := D) (ci := 5) (v := .ref (a 1)) (C := RX5) (T := TX5) (N := 13) hx hb hts hi_5 hown hK hP 0 rfl rfl 0 (by decide) hf_7 (fun _ h9 => h9) rfl dX5_allCharge_27 ?_
        refine lv_iload_n hx hb dX5_allCharge_30 rfl (lv_at hl 2 rfl) ?_
        refine va_iald (f := (jx_al M)) hx hb hK hP 1 0 rfl rfl (vp_in_nI (by omega) (by decide)) dX5_allCharge_31 ?_
        refine lv_topi (fun x3 ex3 => ?_)
        refine lv_iadd hx hb dX5_allCharge_32 ?_
        refine lv_topi (fun x4 ex4 => ?_)
        refine lv_istore_n (lv' := [(1, .int x4), (0, .ref (a 0)), (2, .int (nI (13 + k)))]) hx hb dX5_allCharge_33 rfl hl (by decide) rfl (fun ls hl => ?_)
        refine lv_iinc (v := nI ((13 + k) + 1)) (lv' := [(2, .int (nI ((13 + k) + 1))), (1, .int x4), (0, .ref (a 0))]) hx hb dX5_allCharge_34 hl (k := 2) rfl (nI_1 _) (by decide) rfl (fun ls hl => ?_)
        refine lv_goto (tgt := 19) hx hb dX5_allCharge_37 (by decide) ?_
        subst ex4
        subst ex3
        exact ih (k + 1)  (by omega) (by omega)  H locs hP hS ls (lv_sub hl [2, 1, 0] rfl)
  exact hlp (24 + 1) 0  (Nat.zero_le _) (by omega)  H locs hP hS ls (lv_sub hl [2, 1, 0] rfl)
