def rJ9_floorMod_7cf53 (x : Int32) (y : Int32) : Int32 := if 0 ≤ (x ^^^ y) then (x - x / y * y) else (if (x - x / y * y) = 0 then (x - x / y * y) else ((x - x / y * y) + y))
set_option maxHeartbeats 4000000 in
set_option maxRecDepth 100000 in
theorem c_J9_floorMod_7cf53 (l : Launch) (D : va_G) (g : jk_G) (x : Int32) (y : Int32) (hy : ¬ y = 0) : jk_M l D g yJ9_floorMod_7cf53 wsJ9_floorMod_7cf53 0 0 [.int x, .int y] [] (some (.int (rJ9_floorMod_7cf53 x y))) [] := by
  refine jk_of (cc := cJ9_floorMod_7cf53) (maxL := 3) (ret := (some .int)) (by decide +kernel) rfl (Nat.le_of_ble_eq_true rfl) ?_
  intro p e s m args below meth c hx hb hr hml hts hown hlocks hK hN A H locs hP hD hA hS ls hl
  have hown : s.vm.findClass RJ9 = some m.cls := hown
  have hl : lv_has ls 3 [(0, .int x), (1, .int y)] := hl
  refine lv_iload_n hx hb dJ9_floorMod_7cf53_0 rfl (lv_at hl 0 rfl) ?_
  refine lv_iload_n hx hb dJ9_floorMod_7cf53_1 rfl (lv_at hl 1 rfl) ?_
  refine lv_irem hx hb dJ9_floorMod_7cf53_2 hy ?_
  refine lv_istore_n (lv' := [(2, .int (x - x / y * y)), (0, .int x), (1, .int y)]) hx hb dJ9_floorMod_7cf53_3 rfl hl (by decide) rfl (fun ls hl => ?_)
  refine lv_iload_n hx hb dJ9_floorMod_7cf53_4 rfl (lv_at hl 1 rfl) ?_
  refine lv_iload_n hx hb dJ9_floorMod_7cf53_5 rfl (lv_at hl 2 rfl) ?_
  refine lv_ixor hx hb dJ9_floorMod_7cf53_6 ?_
  refine lv_if_ge (tgt := 18) hx hb dJ9_floorMod_7cf53_7 (by decide) (fun c1 => ?_) (fun c1 => ?_)
  · refine lv_iload_n hx hb dJ9_floorMod_7cf53_18 rfl (lv_at hl 0 rfl) ?_
    exact jk_iret hx hb hr hlocks hP hS ((if_pos c1).trans (rfl)).symm rfl dJ9_floorMod_7cf53_19
  · refine lv_iload_n hx hb dJ9_floorMod_7cf53_10 rfl (lv_at hl 0 rfl) ?_
    refine lv_if_eq (tgt := 18) hx hb dJ9_floorMod_7cf53_11 (by decide) (fun c2 => ?_) (fun c2 => ?_)
    · refine lv_iload_n hx hb dJ9_floorMod_7cf53_18 rfl (lv_at hl 0 rfl) ?_
      exact jk_iret hx hb hr hlocks hP hS ((if_neg c1).trans ((if_pos c2).trans (rfl))).symm rfl dJ9_floorMod_7cf53_19
    · refine lv_iload_n hx hb dJ9_floorMod_7cf53_14 rfl (lv_at hl 0 rfl) ?_
      refine lv_iload_n hx hb dJ9_floorMod_7cf53_15 rfl (lv_at hl 2 rfl) ?_
      refine lv_iadd hx hb dJ9_floorMod_7cf53_16 ?_
      exact jk_iret hx hb hr hlocks hP hS ((if_neg c1).trans ((if_neg c2).trans (rfl))).symm rfl dJ9_floorMod_7cf53_17

def rJ6_signum_0f7a4 (x : Int32) : Int32 := let x1 : Int32 := (((-x) : Int32).toUInt32 >>> (((31 : Int32)).toUInt32 &&& Int32.toUInt32 31)).toInt32; (x >>> (31 &&& 31)) ||| x1
set_option maxHeartbeats 4000000 in
set_option maxRecDepth 100000 in
theorem c_J6_signum_0f7a4 (l : Launch) (D : va_G) (g : jk_G) (x : Int32)  : jk_M l D g yJ6_signum_0f7a4 wsJ6_signum_0f7a4 0 0 [.int x] [] (some (.int (rJ6_signum_0f7a4 x))) [] := by
  refine jk_of (cc := cJ6_signum_0f7a4) (maxL := 1) (ret := (some .int)) (by decide +kernel) rfl (Nat.le_of_ble_eq_true rfl) ?_
  intro p e s m args below meth c hx hb hr hml hts hown hlocks hK hN A H locs hP hD hA hS ls hl
  have hown : s.vm.findClass RJ6 = some m.cls := hown
  have hl : lv_has ls 1 [(0, .int x)] := hl
  refine lv_iload_n hx hb dJ6_signum_0f7a4_0 rfl (lv_at hl 0 rfl) ?_
  refine lv_bipush (v := 31) hx hb dJ6_signum_0f7a4_1 (by decide) ?_
  refine lv_ishr hx hb dJ6_signum_0f7a4_3 ?_
  refine lv_iload_n hx hb dJ6_signum_0f7a4_4 rfl (lv_at hl 0 rfl) ?_
  refine lv_ineg hx hb dJ6_signum_0f7a4_5 ?_
  refine lv_bipush (v := 31) hx hb dJ6_signum_0f7a4_6 (by decide) ?_
  refine lv_iushr hx hb dJ6_signum_0f7a4_8 rfl ?_
  refine lv_topi (fun x1 ex1 => ?_)
  refine lv_ior hx hb dJ6_signum_0f7a4_9 ?_
  subst ex1
  exact jk_iret hx hb hr hlocks hP hS (rfl).symm rfl dJ6_signum_0f7a4_10

def rX2_indexOf (vd : Int32) (vp : Int32) (vt : Int32) : Int32 := if vd = 0 then (let x3 : Int32 := rJ9_floorMod_7cf53 (vp - vt) 12; x3) else (let x2 : Int32 := rJ9_floorMod_7cf53 (vp + vt) 12; 12 + x2)
set_option maxHeartbeats 4000000 in
set_option maxRecDepth 100000 in
theorem c_X2_indexOf (l : Launch) (D : va_G) (g : jk_G) (vd : Int32) (vp : Int32) (vt : Int32)  : jk_M l D g yX2_indexOf wsX2_indexOf 1 22 [.int vd, .int vp, .int vt] [] (some (.int (rX2_indexOf vd vp vt))) [] := by
  refine jk_of (cc := cX2_indexOf) (maxL := 3) (ret := (some .int)) (by decide +kernel) rfl (Nat.le_of_ble_eq_true rfl) ?_
  intro p e s m args below meth c hx hb hr hml hts hown hlocks hK hN A H locs hP hD hA hS ls hl
  have hown : s.vm.findClass RX2 = some m.cls := hown
  have hl : lv_has ls 3 [(0, .int vd), (1, .int vp), (2, .int vt)] := hl
  refine lv_iload_n hx hb dX2_indexOf_0 rfl (lv_at hl 0 rfl) ?_
  refine lv_if_ne (tgt := 13) hx hb dX2_indexOf_1 (by decide) (fun c1 => ?_) (fun c1 => ?_)
  · refine lv_bipush (v := 12) hx hb dX2_indexOf_13 (by decide) ?_
    refine lv_iload_n hx hb dX2_indexOf_15 rfl (lv_at hl 1 rfl) ?_
    refine lv_iload_n hx hb dX2_indexOf_16 rfl (lv_at hl 2 rfl) ?_
    refine lv_iadd hx hb dX2_indexOf_17 ?_
    refine lv_bipush (v := 12) hx hb dX2_indexOf_18 (by decide) ?_
    refine jk_callS (As := [.int (vp + vt), .int 12]) (rest := [.int 12]) (ws1 := []) ⟨hx, hb, hml, hown, hts⟩ (c_J9_floorMod_7cf53 l D g (vp + vt) 12 (by decide)) (va_cwS 2 hts gX2_indexOf_J9_floorMod_7cf53 rfl rfl rfl (by decide +kernel) ⟨Nat.le_of_ble_eq_true rfl, Nat.le_of_ble_eq_true rfl⟩) jk_nilP (jk_nilD (A := A)) hK hN rfl hl rfl (Nat.le_of_ble_eq_true rfl) dX2_indexOf_20 ⟨Nat.zero_le _, Nat.zero_le _⟩ hS hA (fun _ _ hk => jk_keep hP hk) (fun H locs hP hS => ?_)
    refine W.eq (g2 := F0 m 23 ls [.int (rJ9_floorMod_7cf53 (vp + vt) 12), .int 12]) rfl ?_
    refine lv_topi (fun x2 ex2 => ?_)
    refine lv_iadd hx hb dX2_indexOf_23 ?_
    subst ex2
    exact jk_iret hx hb hr hlocks hP hS ((if_neg c1).trans (rfl)).symm rfl dX2_indexOf_24
  · refine lv_iload_n hx hb dX2_indexOf_4 rfl (lv_at hl 1 rfl) ?_
    refine lv_iload_n hx hb dX2_indexOf_5 rfl (lv_at hl 2 rfl) ?_
    refine lv_isub hx hb dX2_indexOf_6 ?_
    refine lv_bipush (v := 12) hx hb dX2_indexOf_7 (by decide) ?_
    refine jk_callS (As := [.int (vp - vt), .int 12]) (rest := []) (ws1 := []) ⟨hx, hb, hml, hown, hts⟩ (c_J9_floorMod_7cf53 l D g (vp - vt) 12 (by decide)) (va_cwS 2 hts gX2_indexOf_J9_floorMod_7cf53 rfl rfl rfl (by decide +kernel) ⟨Nat.le_of_ble_eq_true rfl, Nat.le_of_ble_eq_true rfl⟩) jk_nilP (jk_nilD (A := A)) hK hN rfl hl rfl (Nat.le_of_ble_eq_true rfl) dX2_indexOf_9 ⟨Nat.zero_le _, Nat.zero_le _⟩ hS hA (fun _ _ hk => jk_keep hP hk) (fun H locs hP hS => ?_)
    refine W.eq (g2 := F0 m 12 ls [.int (rJ9_floorMod_7cf53 (vp - vt) 12)]) rfl ?_
    refine lv_topi (fun x3 ex3 => ?_)
    subst ex3
    exact jk_iret hx hb hr hlocks hP hS ((if_pos c1).trans (rfl)).symm rfl dX2_indexOf_12

def rX2_firstIndexOf (vd : Int32) : Int32 := if vd = 0 then (0) else (12)
set_option maxHeartbeats 4000000 in
set_option maxRecDepth 100000 in
theorem c_X2_firstIndexOf (l : Launch) (D : va_G) (g : jk_G) (vd : Int32)  : jk_M l D g yX2_firstIndexOf wsX2_firstIndexOf 0 0 [.int vd] [] (some (.int (rX2_firstIndexOf vd))) [] := by
  refine jk_of (cc := cX2_firstIndexOf) (maxL := 1) (ret := (some .int)) (by decide +kernel) rfl (Nat.le_of_ble_eq_true rfl) ?_
  intro p e s m args below meth c hx hb hr hml hts hown hlocks hK hN A H locs hP hD hA hS ls hl
  have hown : s.vm.findClass RX2 = some m.cls := hown
  have hl : lv_has ls 1 [(0, .int vd)] := hl
  refine lv_iload_n hx hb dX2_firstIndexOf_0 rfl (lv_at hl 0 rfl) ?_
  refine lv_if_ne (tgt := 8) hx hb dX2_firstIndexOf_1 (by decide) (fun c1 => ?_) (fun c1 => ?_)
  · refine lv_bipush (v := 12) hx hb dX2_firstIndexOf_8 (by decide) ?_
    exact jk_iret hx hb hr hlocks hP hS ((if_neg c1).trans (rfl)).symm rfl dX2_firstIndexOf_10
  · refine lv_iconst (v := 0) hx hb dX2_firstIndexOf_4 (by decide) ?_
    refine lv_goto (tgt := 10) hx hb dX2_firstIndexOf_5 (by decide) ?_
    exact jk_iret hx hb hr hlocks hP hS ((if_pos c1).trans (rfl)).symm rfl dX2_firstIndexOf_10

def rX2_logIndexOf (vk : Int32) : Int32 := let x1 : Int32 := 3 * (rJ9_floorMod_7cf53 vk 8); x1
set_option maxHeartbeats 4000000 in
set_option maxRecDepth 100000 in
theorem c_X2_logIndexOf (l : Launch) (D : va_G) (g : jk_G) (vk : Int32)  : jk_M l D g yX2_logIndexOf wsX2_logIndexOf 1 22 [.int vk] [] (some (.int (rX2_logIndexOf vk))) [] := by
  refine jk_of (cc := cX2_logIndexOf) (maxL := 1) (ret := (some .int)) (by decide +kernel) rfl (Nat.le_of_ble_eq_true rfl) ?_
  intro p e s m args below meth c hx hb hr hml hts hown hlocks hK hN A H locs hP hD hA hS ls hl
  have hown : s.vm.findClass RX2 = some m.cls := hown
  have hl : lv_has ls 1 [(0, .int vk)] := hl
  refine lv_iconst (v := 3) hx hb dX2_logIndexOf_0 (by decide) ?_
  refine lv_iload_n hx hb dX2_logIndexOf_1 rfl (lv_at hl 0 rfl) ?_
  refine lv_bipush (v := 8) hx hb dX2_logIndexOf_2 (by decide) ?_
  refine jk_callS (As := [.int vk, .int 8]) (rest := [.int 3]) (ws1 := []) ⟨hx, hb, hml, hown, hts⟩ (c_J9_floorMod_7cf53 l D g vk 8 (by decide)) (va_cwS 2 hts gX2_logIndexOf_J9_floorMod_7cf53 rfl rfl rfl (by decide +kernel) ⟨Nat.le_of_ble_eq_true rfl, Nat.le_of_ble_eq_true rfl⟩) jk_nilP (jk_nilD (A := A)) hK hN rfl hl rfl (Nat.le_of_ble_eq_true rfl) dX2_logIndexOf_4 ⟨Nat.zero_le _, Nat.zero_le _⟩ hS hA (fun _ _ hk => jk_keep hP hk) (fun H locs hP hS => ?_)
  refine W.eq (g2 := F0 m 7 ls [.int (rJ9_floorMod_7cf53 vk 8), .int 3]) rfl ?_
  refine lv_imul hx hb dX2_logIndexOf_7 ?_
  refine lv_topi (fun x1 ex1 => ?_)
  subst ex1
  exact jk_iret hx hb hr hlocks hP hS (rfl).symm rfl dX2_logIndexOf_8

def rX4_limited (v : Int32) (lo : Int32) (hi : Int32) : Int32 := let x1 : Int32 := if v < hi then v else hi; let x2 : Int32 := if lo < x1 then x1 else lo; x2
set_option maxHeartbeats 4000000 in
set_option maxRecDepth 100000 in
theorem c_X4_limited (l : Launch) (D : va_G) (g : jk_G) (v : Int32) (lo : Int32) (hi : Int32)  : jk_M l D g yX4_limited wsX4_limited 1 14 [.int v, .int lo, .int hi] [] (some (.int (rX4_limited v lo hi))) [] := by
  refine jk_of (cc := cX4_limited) (maxL := 3) (ret := (some .int)) (by decide +kernel) rfl (Nat.le_of_ble_eq_true rfl) ?_
  intro p e s m args below meth c hx hb hr hml hts hown hlocks hK hN A H locs hP hD hA hS ls hl
  have hown : s.vm.findClass RX4 = some m.cls := hown
  have hl : lv_has ls 3 [(0, .int v), (1, .int lo), (2, .int hi)] := hl
  have hm_209 := hts (.methodLink RX4 209 Lib.Math.min.name) (by decide +kernel)
  have hs_min := hts (.static Lib.Math.min.name) (by decide +kernel)
  have hi_Math := hts (.initialized "java/lang/Math") (by decide +kernel)
  have hc_min := hts (.code Lib.Math.min.name Lib.Math.min.code 2 (some .int)) (by exact List.mem_of_getElem? (i := 4) rfl)
  have hm_204 := hts (.methodLink RX4 204 Lib.Math.max.name) (by decide +kernel)
  have hs_max := hts (.static Lib.Math.max.name) (by decide +kernel)
  have hc_max := hts (.code Lib.Math.max.name Lib.Math.max.code 2 (some .int)) (by exact List.mem_of_getElem? (i := 7) rfl)
  refine lv_iload_n hx hb dX4_limited_0 rfl (lv_at hl 1 rfl) ?_
  refine lv_iload_n hx hb dX4_limited_1 rfl (lv_at hl 2 rfl) ?_
  refine lv_iload_n hx hb dX4_limited_2 rfl (lv_at hl 0 rfl) ?_
  refine va_mmin hx hb (by rw [hml]; exact hl.1.symm) hown hm_209 hs_min hi_Math hc_min (Nat.le_of_ble_eq_true rfl) (Nat.le_of_ble_eq_true rfl) (Nat.zero_le _) (Nat.zero_le _) dX4_limited_3 ?_
  refine lv_topi (fun x1 ex1 => ?_)
  refine va_mmax hx hb (by rw [hml]; exact hl.1.symm) hown hm_204 hs_max hi_Math hc_max (Nat.le_of_ble_eq_true rfl) (Nat.le_of_ble_eq_true rfl) (Nat.zero_le _) (Nat.zero_le _) dX4_limited_6 ?_
  refine lv_topi (fun x2 ex2 => ?_)
  subst ex2
  subst ex1
  exact jk_iret hx hb hr hlocks hP hS (rfl).symm rfl dX4_limited_9

def rX4_isNoDisc (vd : Int32) : Int32 := if vd < 0 then (1) else (if vd < 2 then (0) else (1))
set_option maxHeartbeats 4000000 in
set_option maxRecDepth 100000 in
theorem c_X4_isNoDisc (l : Launch) (D : va_G) (g : jk_G) (vd : Int32)  : jk_M l D g yX4_isNoDisc wsX4_isNoDisc 0 0 [.int vd] [] (some (.int (rX4_isNoDisc vd))) [] := by
  refine jk_of (cc := cX4_isNoDisc) (maxL := 1) (ret := (some .boolean)) (by decide +kernel) rfl (Nat.le_of_ble_eq_true rfl) ?_
  intro p e s m args below meth c hx hb hr hml hts hown hlocks hK hN A H locs hP hD hA hS ls hl
  have hown : s.vm.findClass RX4 = some m.cls := hown
  have hl : lv_has ls 1 [(0, .int vd)] := hl
  refine lv_iload_n hx hb dX4_isNoDisc_0 rfl (lv_at hl 0 rfl) ?_
  refine lv_if_lt (tgt := 9) hx hb dX4_isNoDisc_1 (by decide) (fun c1 => ?_) (fun c1 => ?_)
  · refine lv_iconst (v := 1) hx hb dX4_isNoDisc_9 (by decide) ?_
    refine lv_goto (tgt := 14) hx hb dX4_isNoDisc_10 (by decide) ?_
    exact jk_zret hx hb hr rfl hlocks hP hS ((if_pos c1).trans (rfl)).symm rfl dX4_isNoDisc_14
  · refine lv_iload_n hx hb dX4_isNoDisc_4 rfl (lv_at hl 0 rfl) ?_
    refine lv_iconst (v := 2) hx hb dX4_isNoDisc_5 (by decide) ?_
    refine lv_icmp_lt (tgt := 13) hx hb dX4_isNoDisc_6 (by decide) (fun c2 => ?_) (fun c2 => ?_)
    · refine lv_iconst (v := 0) hx hb dX4_isNoDisc_13 (by decide) ?_
      exact jk_zret hx hb hr rfl hlocks hP hS ((if_neg c1).trans ((if_pos c2).trans (rfl))).symm rfl dX4_isNoDisc_14
    · refine lv_iconst (v := 1) hx hb dX4_isNoDisc_9 (by decide) ?_
      refine lv_goto (tgt := 14) hx hb dX4_isNoDisc_10 (by decide) ?_
      exact jk_zret hx hb hr rfl hlocks hP hS ((if_neg c1).trans ((if_neg c2).trans (rfl))).symm rfl dX4_isNoDisc_14

def rX4_isNoPlace (vq : Int32) : Int32 := if vq < 0 then (1) else (if vq < 12 then (0) else (1))
set_option maxHeartbeats 4000000 in
set_option maxRecDepth 100000 in
theorem c_X4_isNoPlace (l : Launch) (D : va_G) (g : jk_G) (vq : Int32)  : jk_M l D g yX4_isNoPlace wsX4_isNoPlace 0 0 [.int vq] [] (some (.int (rX4_isNoPlace vq))) [] := by
  refine jk_of (cc := cX4_isNoPlace) (maxL := 1) (ret := (some .boolean)) (by decide +kernel) rfl (Nat.le_of_ble_eq_true rfl) ?_
  intro p e s m args below meth c hx hb hr hml hts hown hlocks hK hN A H locs hP hD hA hS ls hl
  have hown : s.vm.findClass RX4 = some m.cls := hown
  have hl : lv_has ls 1 [(0, .int vq)] := hl
  refine lv_iload_n hx hb dX4_isNoPlace_0 rfl (lv_at hl 0 rfl) ?_
  refine lv_if_lt (tgt := 10) hx hb dX4_isNoPlace_1 (by decide) (fun c1 => ?_) (fun c1 => ?_)
  · refine lv_iconst (v := 1) hx hb dX4_isNoPlace_10 (by decide) ?_
    refine lv_goto (tgt := 15) hx hb dX4_isNoPlace_11 (by decide) ?_
    exact jk_zret hx hb hr rfl hlocks hP hS ((if_pos c1).trans (rfl)).symm rfl dX4_isNoPlace_15
  · refine lv_iload_n hx hb dX4_isNoPlace_4 rfl (lv_at hl 0 rfl) ?_
    refine lv_bipush (v := 12) hx hb dX4_isNoPlace_5 (by decide) ?_
    refine lv_icmp_lt (tgt := 14) hx hb dX4_isNoPlace_7 (by decide) (fun c2 => ?_) (fun c2 => ?_)
    · refine lv_iconst (v := 0) hx hb dX4_isNoPlace_14 (by decide) ?_
      exact jk_zret hx hb hr rfl hlocks hP hS ((if_neg c1).trans ((if_pos c2).trans (rfl))).symm rfl dX4_isNoPlace_15
    · refine lv_iconst (v := 1) hx hb dX4_isNoPlace_10 (by decide) ?_
      refine lv_goto (tgt := 15) hx hb dX4_isNoPlace_11 (by decide) ?_
      exact jk_zret hx hb hr rfl hlocks hP hS ((if_neg c1).trans ((if_neg c2).trans (rfl))).symm rfl dX4_isNoPlace_15

def rX2_fullestJar (M : jm_T) : Int32 := let x1 : Int32 := if 0 ≤ ((jm_ja M) 0) then ((jm_ja M) 0) else 0 - ((jm_ja M) 0); let x2 : Int32 := if 0 ≤ ((jm_ja M) 1) then ((jm_ja M) 1) else 0 - ((jm_ja M) 1); let x3 : Int32 := if x1 < x2 then x2 else x1; x3
set_option maxHeartbeats 4000000 in
set_option maxRecDepth 100000 in
theorem c_X2_fullestJar (l : Launch) (D : va_G) (g : jk_G) (a : Nat → Nat) (M : jm_T)  : jk_M l D g yX2_fullestJar wsX2_fullestJar 1 14 [.ref (a 0)] (jm_W g a M) (some (.int (rX2_fullestJar M))) (jm_W g a M) := by
  refine jk_of (cc := cX2_fullestJar) (maxL := 1) (ret := (some .int)) (by decide +kernel) rfl (Nat.le_of_ble_eq_true rfl) ?_
  intro p e s m args below meth c hx hb hr hml hts hown hlocks hK hN A H locs hP hD hA hS ls hl
  have hown : s.vm.findClass RX2 = some m.cls := hown
  have hl : lv_has ls 1 [(0, .ref (a 0))] := hl
  have hf_18 := hts (.fieldLink RX2 18 "InfluenceJars$Machine" "jars" "[I") (by decide +kernel)
  have hi_2 : ∀ w ∈ u_ws RX2 TX2 13, w ∈ wsX2_fullestJar := by decide +kernel
  have hm_80 := hts (.methodLink RX2 80 Lib.Math.abs.name) (by decide +kernel)
  have hs_abs := hts (.static Lib.Math.abs.name) (by decide +kernel)
  have hi_Math := hts (.initialized "java/lang/Math") (by decide +kernel)
  have hc_abs := hts (.code Lib.Math.abs.name Lib.Math.abs.code 1 (some .int)) (by exact List.mem_of_getElem? (i := 5) rfl)
  have hm_71 := hts (.methodLink RX2 71 Lib.Math.max.name) (by decide +kernel)
  have hs_max := hts (.static Lib.Math.max.name) (by decide +kernel)
  have hc_max := hts (.code Lib.Math.max.name Lib.Math.max.code 2 (some .int)) (by exact List.mem_of_getElem? (i := 8) rfl)
  refine lv_aload_n hx hb dX2_fullestJar_0 rfl (lv_at hl 0 rfl) ?_
  refine va_get (D := D) (ci := 2) (v := .ref (a 3)) (C := RX2) (T := TX2) (N := 13) hx hb hts hi_2 hown hK hP 0 rfl rfl 2 (by decide) hf_18 (fun _ h9 => h9) rfl dX2_fullestJar_1 ?_
  refine lv_iconst (v := 0) hx hb dX2_fullestJar_4 (by decide) ?_
  refine va_iald (f := (jm_ja M)) hx hb hK hP 3 0 rfl rfl (jk_inC (by decide +kernel)) dX2_fullestJar_5 ?_
  refine W.eq (g2 := F0 m 6 ls [.int ((jm_ja M) 0)]) rfl ?_
  refine va_mabs hx hb (by rw [hml]; exact hl.1.symm) hown hm_80 hs_abs hi_Math hc_abs (Nat.le_of_ble_eq_true rfl) (Nat.le_of_ble_eq_true rfl) (Nat.zero_le _) (Nat.zero_le _) dX2_fullestJar_6 ?_
  refine lv_topi (fun x1 ex1 => ?_)
  refine lv_aload_n hx hb dX2_fullestJar_9 rfl (lv_at hl 0 rfl) ?_
  refine va_get (D := D) (ci := 2) (v := .ref (a 3)) (C := RX2) (T := TX2) (N := 13) hx hb hts hi_2 hown hK hP 0 rfl rfl 2 (by decide) hf_18 (fun _ h9 => h9) rfl dX2_fullestJar_10 ?_
  refine lv_iconst (v := 1) hx hb dX2_fullestJar_13 (by decide) ?_
  refine va_iald (f := (jm_ja M)) hx hb hK hP 3 0 rfl rfl (jk_inC (by decide +kernel)) dX2_fullestJar_14 ?_
  refine W.eq (g2 := F0 m 15 ls [.int ((jm_ja M) 1), .int x1]) rfl ?_
  refine va_mabs hx hb (by rw [hml]; exact hl.1.symm) hown hm_80 hs_abs hi_Math hc_abs (Nat.le_of_ble_eq_true rfl) (Nat.le_of_ble_eq_true rfl) (Nat.zero_le _) (Nat.zero_le _) dX2_fullestJar_15 ?_
  refine lv_topi (fun x2 ex2 => ?_)
  refine va_mmax hx hb (by rw [hml]; exact hl.1.symm) hown hm_71 hs_max hi_Math hc_max (Nat.le_of_ble_eq_true rfl) (Nat.le_of_ble_eq_true rfl) (Nat.zero_le _) (Nat.zero_le _) dX2_fullestJar_18 ?_
  refine lv_topi (fun x3 ex3 => ?_)
  subst ex3
  subst ex2
  subst ex1
  exact jk_iret hx hb hr hlocks hP hS (rfl).symm rfl dX2_fullestJar_21

def rX2_difference (M : jm_T) : Int32 := let x1 : Int32 := ((jm_ja M) 0) - ((jm_ja M) 1); let x2 : Int32 := if 0 ≤ x1 then x1 else 0 - x1; x2
set_option maxHeartbeats 4000000 in
set_option maxRecDepth 100000 in
theorem c_X2_difference (l : Launch) (D : va_G) (g : jk_G) (a : Nat → Nat) (M : jm_T)  : jk_M l D g yX2_difference wsX2_difference 1 13 [.ref (a 0)] (jm_W g a M) (some (.int (rX2_difference M))) (jm_W g a M) := by
  refine jk_of (cc := cX2_difference) (maxL := 1) (ret := (some .int)) (by decide +kernel) rfl (Nat.le_of_ble_eq_true rfl) ?_
  intro p e s m args below meth c hx hb hr hml hts hown hlocks hK hN A H locs hP hD hA hS ls hl
  have hown : s.vm.findClass RX2 = some m.cls := hown
  have hl : lv_has ls 1 [(0, .ref (a 0))] := hl
  have hf_18 := hts (.fieldLink RX2 18 "InfluenceJars$Machine" "jars" "[I") (by decide +kernel)
  have hi_2 : ∀ w ∈ u_ws RX2 TX2 13, w ∈ wsX2_difference := by decide +kernel
  have hm_80 := hts (.methodLink RX2 80 Lib.Math.abs.name) (by decide +kernel)
  have hs_abs := hts (.static Lib.Math.abs.name) (by decide +kernel)
  have hi_Math := hts (.initialized "java/lang/Math") (by decide +kernel)
  have hc_abs := hts (.code Lib.Math.abs.name Lib.Math.abs.code 1 (some .int)) (by exact List.mem_of_getElem? (i := 5) rfl)
  refine lv_aload_n hx hb dX2_difference_0 rfl (lv_at hl 0 rfl) ?_
  refine va_get (D := D) (ci := 2) (v := .ref (a 3)) (C := RX2) (T := TX2) (N := 13) hx hb hts hi_2 hown hK hP 0 rfl rfl 2 (by decide) hf_18 (fun _ h9 => h9) rfl dX2_difference_1 ?_
  refine lv_iconst (v := 0) hx hb dX2_difference_4 (by decide) ?_
  refine va_iald (f := (jm_ja M)) hx hb hK hP 3 0 rfl rfl (jk_inC (by decide +kernel)) dX2_difference_5 ?_
  refine W.eq (g2 := F0 m 6 ls [.int ((jm_ja M) 0)]) rfl ?_
  refine lv_aload_n hx hb dX2_difference_6 rfl (lv_at hl 0 rfl) ?_
  refine va_get (D := D) (ci := 2) (v := .ref (a 3)) (C := RX2) (T := TX2) (N := 13) hx hb hts hi_2 hown hK hP 0 rfl rfl 2 (by decide) hf_18 (fun _ h9 => h9) rfl dX2_difference_7 ?_
  refine lv_iconst (v := 1) hx hb dX2_difference_10 (by decide) ?_
  refine va_iald (f := (jm_ja M)) hx hb hK hP 3 0 rfl rfl (jk_inC (by decide +kernel)) dX2_difference_11 ?_
  refine W.eq (g2 := F0 m 12 ls [.int ((jm_ja M) 1), .int ((jm_ja M) 0)]) rfl ?_
  refine lv_isub hx hb dX2_difference_12 ?_
  refine lv_topi (fun x1 ex1 => ?_)
  refine va_mabs hx hb (by rw [hml]; exact hl.1.symm) hown hm_80 hs_abs hi_Math hc_abs (Nat.le_of_ble_eq_true rfl) (Nat.le_of_ble_eq_true rfl) (Nat.zero_le _) (Nat.zero_le _) dX2_difference_13 ?_
  refine lv_topi (fun x2 ex2 => ?_)
  subst ex2
  subst ex1
  exact jk_iret hx hb hr hlocks hP hS (rfl).symm rfl dX2_difference_16

def rX2_sign (M : jm_T) : Int32 := let x1 : Int32 := ((jm_ja M) 0) - ((jm_ja M) 1); rJ6_signum_0f7a4 x1
set_option maxHeartbeats 4000000 in
set_option maxRecDepth 100000 in
theorem c_X2_sign (l : Launch) (D : va_G) (g : jk_G) (a : Nat → Nat) (M : jm_T)  : jk_M l D g yX2_sign wsX2_sign 1 20 [.ref (a 0)] (jm_W g a M) (some (.int (rX2_sign M))) (jm_W g a M) := by
  refine jk_of (cc := cX2_sign) (maxL := 1) (ret := (some .int)) (by decide +kernel) rfl (Nat.le_of_ble_eq_true rfl) ?_
  intro p e s m args below meth c hx hb hr hml hts hown hlocks hK hN A H locs hP hD hA hS ls hl
  have hown : s.vm.findClass RX2 = some m.cls := hown
  have hl : lv_has ls 1 [(0, .ref (a 0))] := hl
  have hf_18 := hts (.fieldLink RX2 18 "InfluenceJars$Machine" "jars" "[I") (by decide +kernel)
  have hi_2 : ∀ w ∈ u_ws RX2 TX2 13, w ∈ wsX2_sign := by decide +kernel
  refine lv_aload_n hx hb dX2_sign_0 rfl (lv_at hl 0 rfl) ?_
  refine va_get (D := D) (ci := 2) (v := .ref (a 3)) (C := RX2) (T := TX2) (N := 13) hx hb hts hi_2 hown hK hP 0 rfl rfl 2 (by decide) hf_18 (fun _ h9 => h9) rfl dX2_sign_1 ?_
  refine lv_iconst (v := 0) hx hb dX2_sign_4 (by decide) ?_
  refine va_iald (f := (jm_ja M)) hx hb hK hP 3 0 rfl rfl (jk_inC (by decide +kernel)) dX2_sign_5 ?_
  refine W.eq (g2 := F0 m 6 ls [.int ((jm_ja M) 0)]) rfl ?_
  refine lv_aload_n hx hb dX2_sign_6 rfl (lv_at hl 0 rfl) ?_
  refine va_get (D := D) (ci := 2) (v := .ref (a 3)) (C := RX2) (T := TX2) (N := 13) hx hb hts hi_2 hown hK hP 0 rfl rfl 2 (by decide) hf_18 (fun _ h9 => h9) rfl dX2_sign_7 ?_
  refine lv_iconst (v := 1) hx hb dX2_sign_10 (by decide) ?_
  refine va_iald (f := (jm_ja M)) hx hb hK hP 3 0 rfl rfl (jk_inC (by decide +kernel)) dX2_sign_11 ?_
  refine W.eq (g2 := F0 m 12 ls [.int ((jm_ja M) 1), .int ((jm_ja M) 0)]) rfl ?_
  refine lv_isub hx hb dX2_sign_12 ?_
  refine lv_topi (fun x1 ex1 => ?_)
  refine jk_callS (As := [.int x1]) (rest := []) (ws1 := (jm_W g a M)) ⟨hx, hb, hml, hown, hts⟩ (c_J6_signum_0f7a4 l D g x1) (va_cwS 1 hts gX2_sign_J6_signum_0f7a4 rfl rfl rfl (by decide +kernel) ⟨Nat.le_of_ble_eq_true rfl, Nat.le_of_ble_eq_true rfl⟩) jk_nilP (jk_nilD (A := A)) hK hN rfl hl rfl (Nat.le_of_ble_eq_true rfl) dX2_sign_13 ⟨Nat.zero_le _, Nat.zero_le _⟩ hS hA (fun _ _ hk => jk_keep hP hk) (fun H locs hP hS => ?_)
  refine W.eq (g2 := F0 m 16 ls [.int (rJ6_signum_0f7a4 x1)]) rfl ?_
  subst ex1
  exact jk_iret hx hb hr hlocks hP hS (rfl).symm rfl dX2_sign_16

def rX2_hasTurnsLeft (M : jm_T) (vn : Int32) : Int32 := if 99999 < ((jm_tu M) + vn) then (0) else (1)
set_option maxHeartbeats 4000000 in
set_option maxRecDepth 100000 in
theorem c_X2_hasTurnsLeft (l : Launch) (D : va_G) (g : jk_G) (a : Nat → Nat) (M : jm_T) (vn : Int32)  : jk_M l D g yX2_hasTurnsLeft wsX2_hasTurnsLeft 0 0 [.ref (a 0), .int vn] (jm_W g a M) (some (.int (rX2_hasTurnsLeft M vn))) (jm_W g a M) := by
  refine jk_of (cc := cX2_hasTurnsLeft) (maxL := 2) (ret := (some .boolean)) (by decide +kernel) rfl (Nat.le_of_ble_eq_true rfl) ?_
  intro p e s m args below meth c hx hb hr hml hts hown hlocks hK hN A H locs hP hD hA hS ls hl
  have hown : s.vm.findClass RX2 = some m.cls := hown
  have hl : lv_has ls 2 [(0, .ref (a 0)), (1, .int vn)] := hl
  have hf_34 := hts (.fieldLink RX2 34 "InfluenceJars$Machine" "turns" "I") (by decide +kernel)
  have hi_2 : ∀ w ∈ u_ws RX2 TX2 13, w ∈ wsX2_hasTurnsLeft := by decide +kernel
  have hk_83 := hts (.constant RX2 83 99999) (by decide +kernel)
  refine lv_aload_n hx hb dX2_hasTurnsLeft_0 rfl (lv_at hl 0 rfl) ?_
  refine va_get (D := D) (ci := 2) (v := .int (jm_tu M)) (C := RX2) (T := TX2) (N := 13) hx hb hts hi_2 hown hK hP 0 rfl rfl 6 (by decide) hf_34 (fun _ h9 => h9) rfl dX2_hasTurnsLeft_1 ?_
  refine lv_iload_n hx hb dX2_hasTurnsLeft_4 rfl (lv_at hl 1 rfl) ?_
  refine lv_iadd hx hb dX2_hasTurnsLeft_5 ?_
  refine lv_ldc hx hb hown hk_83 dX2_hasTurnsLeft_6 ?_
  refine lv_icmp_gt (tgt := 15) hx hb dX2_hasTurnsLeft_8 (by decide) (fun c1 => ?_) (fun c1 => ?_)
  · refine lv_iconst (v := 0) hx hb dX2_hasTurnsLeft_15 (by decide) ?_
    exact jk_zret hx hb hr rfl hlocks hP hS ((if_pos c1).trans (rfl)).symm rfl dX2_hasTurnsLeft_16
  · refine lv_iconst (v := 1) hx hb dX2_hasTurnsLeft_11 (by decide) ?_
    refine lv_goto (tgt := 16) hx hb dX2_hasTurnsLeft_12 (by decide) ?_
    exact jk_zret hx hb hr rfl hlocks hP hS ((if_neg c1).trans (rfl)).symm rfl dX2_hasTurnsLeft_16
