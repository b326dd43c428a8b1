/-! ===== the law, call by call ===== -/
section LAW
variable {p : Program} {l : Launch} {e : Env} {s : State} {m : MethodId} {b L : Nat} {xs : Nat → Int32} {below : List Frame} {meth : Method} {c : Code} {H : Heap} {locs : List Loc} {cells slots : Nat} {Qz : State → Prop}
variable {D : va_G} {g : jk_G} {tl tm : Nat} {a : Nat → Nat → Nat} {ax : Nat → Nat} {ls : Array Slot}
def lawA (s : State) : Nat → Prop := fun q => s.heap.size ≤ q
theorem law_in {i k : Nat} (h : i + 4 ≤ L) (hL : L ≤ 2048) (hk : k < 4) : vp_in (nI i + nI k) L := by
  rw [nI_add]
  exact vp_in_nI (by omega) (by omega)
theorem zwL_4 (p u : Nat → Nat → Nat) (N T : jm_T) (F G : jf_T) (Hs : jh_T) (Q : jd_T) (P : jp_T) (X : jx_T) : (a 0 0, Sum.inr (4, [.ref (a 1 0), .ref (a 2 0), .ref (a 3 0), .ref (a 4 0), .ref (a 5 0), .ref (a 6 0)])) ∈ (zwL g a p u ax N T F G Hs Q P X).flatten := List.mem_cons_self
theorem zwL_5 (p u : Nat → Nat → Nat) (N T : jm_T) (F G : jf_T) (Hs : jh_T) (Q : jd_T) (P : jp_T) (X : jx_T) : ∃ fs, (ax 0, Sum.inr (5, fs)) ∈ (zwL g a p u ax N T F G Hs Q P X).flatten := ⟨_, List.mem_flatten.mpr ⟨jx_W g ax X, List.mem_of_getElem? (i := 9) rfl, List.mem_cons_self⟩⟩
set_option maxHeartbeats 1000000 in
theorem law_set {i kk : Nat} {p0 u0 : Nat → Nat → Nat} {N0 T0 : jm_T} {F0f G0 : jf_T} {Hs0 : jh_T} {Q0 : jd_T} {P0 : jp_T} {X0 : jx_T} (hx : p.tables.exec = Jvm.exec) (hb : c.code = cL_law) (hml : c.maxLocals = 4) (hown : s.vm.findClass RL = some m.cls) (hts : ∀ w ∈ wsL_law, w.before #[.ref b] s = true) (hX : va_X b L xs s s.heap) (hbl : b < s.heap.size) (hbA : ¬ lawA s b) (hZ : jk_Z tl tm (lawA s) s) (hK : va_K D vwCl (jk_T g) s) (hN : jk_N s) (hi : i + 4 ≤ L) (hL : L ≤ 2048) (hl : lv_has ls 4 [(3, .int (nI i)), (2, .ref (ax 0)), (1, .ref (a 0 0)), (0, .ref b)]) (hkk : kk < 900) (hr : zwR kk N0 F0f G0 Hs0 P0 X0) (hP : va_P D vwCl (zwL g a p0 u0 ax N0 T0 F0f G0 Hs0 Q0 P0 X0).flatten H) (hD : va_D (lawA s) (zwL g a p0 u0 ax N0 T0 F0f G0 Hs0 Q0 P0 X0).flatten) (hS : va_S (lawA s) s.heap H locs) (hc1 : cells + 7 ≤ 600000) (hc2 : slots + 72 ≤ 7302249)
    (kt : ∀ (H1 : Heap) (locs1 : List Loc) (cells1 slots1 : Nat) (pn un : Nat → Nat → Nat) (N T : jm_T) (F G : jf_T) (Hs : jh_T) (Q : jd_T) (P : jp_T) (X : jx_T), cells1 ≤ cells + 7 → slots1 ≤ slots + 72 → zwR (kk + 1) N F G Hs P X → va_P D vwCl (zwL g a pn un ax N T F G Hs Q P X).flatten H1 → va_D (lawA s) (zwL g a pn un ax N T F G Hs Q P X).flatten → va_S (lawA s) s.heap H1 locs1 → W p l e room_1 s m #[.ref b] below meth c H1 locs1 cells1 slots1 Qz (F0 m 645 ls [])) : W p l e room_1 s m #[.ref b] below meth c H locs cells slots Qz (F0 m 132 ls []) := by
  have hA : ∀ q, s.heap.size ≤ q → lawA s q := fun _ h => h
  obtain ⟨r, O, L4, mc, ms, hm, fr, lo, hfr, hlo, hC4, hC5⟩ := k_set l D g tl tm a ax (xs (nI i + nI 1).toNatClampNeg) (xs (nI i + nI 2).toNatClampNeg) kk p0 u0 N0 T0 F0f G0 Hs0 Q0 P0 X0 hkk hr
  have hm1 : mc ≤ 7 ∧ ms ≤ 72 := by omega
  refine lv_aload_n hx hb dL_law_132 rfl (lv_at hl 2 rfl) ?_
  refine lv_aload_n hx hb dL_law_133 rfl (lv_at hl 3 rfl) ?_
  refine lv_iload_n hx hb dL_law_134 rfl (lv_at hl 0 rfl) ?_
  refine lv_iconst (v := nI 1) hx hb dL_law_135 (by decide) ?_
  refine lv_iadd hx hb dL_law_136 ?_
  refine va_sld hx hb hX hbl hbA hS (law_in hi hL (k := 1) (by omega)) dL_law_137 ?_
  refine lv_aload_n hx hb dL_law_138 rfl (lv_at hl 3 rfl) ?_
  refine lv_iload_n hx hb dL_law_139 rfl (lv_at hl 0 rfl) ?_
  refine lv_iconst (v := nI 2) hx hb dL_law_140 (by decide) ?_
  refine lv_iadd hx hb dL_law_141 ?_
  refine va_sld hx hb hX hbl hbA hS (law_in hi hL (k := 2) (by omega)) dL_law_142 ?_
  refine law_call (O := O) (ci := 4) (rest := []) (As := [.int (xs (nI i + nI 1).toNatClampNeg), .int (xs (nI i + nI 2).toNatClampNeg)]) ⟨hx, hb, hml, hown, hts⟩ hC4 (cwV 2 hts gL_law_X4_set rfl rfl rfl (by decide +kernel) ⟨Nat.le_trans (Nat.add_le_add_right hfr 1) (Nat.le_of_ble_eq_true rfl), Nat.le_trans (Nat.add_le_add_left hlo _) (Nat.le_of_ble_eq_true rfl)⟩) rfl (zwL_4 p0 u0 N0 T0 F0f G0 Hs0 Q0 P0 X0) hZ hP hD hK hN rfl hl rfl (Nat.le_of_ble_eq_true rfl) dL_law_143 ⟨by show cells + mc ≤ 600000; omega, by show slots + ms ≤ 7302249; omega⟩ hS hA (fun o H1 locs1 hP1 hD1 hS => ?_)
  obtain ⟨p1, u1, N1, T1, F1, G1, Hs1, Q1, P1, X1, X1n, e4, hC, hr1⟩ := hC5 o
  rw [e4] at hP1 hD1
  obtain ⟨fs, hfs⟩ := zwL_5 (g := g) (a := a) (ax := ax) p1 u1 N1 T1 F1 G1 Hs1 Q1 P1 X1
  refine lv_aload_n hx hb dL_law_146 rfl (lv_at hl 1 rfl) ?_
  refine lv_aload_n hx hb dL_law_147 rfl (lv_at hl 3 rfl) ?_
  refine lv_iload_n hx hb dL_law_148 rfl (lv_at hl 0 rfl) ?_
  refine lv_iconst (v := nI 1) hx hb dL_law_149 (by decide) ?_
  refine lv_iadd hx hb dL_law_150 ?_
  refine va_sld hx hb hX hbl hbA hS (law_in hi hL (k := 1) (by omega)) dL_law_151 ?_
  refine lv_aload_n hx hb dL_law_152 rfl (lv_at hl 3 rfl) ?_
  refine lv_iload_n hx hb dL_law_153 rfl (lv_at hl 0 rfl) ?_
  refine lv_iconst (v := nI 2) hx hb dL_law_154 (by decide) ?_
  refine lv_iadd hx hb dL_law_155 ?_
  refine va_sld hx hb hX hbl hbA hS (law_in hi hL (k := 2) (by omega)) dL_law_156 ?_
  refine law_call (ci := 5) (rest := [.int r]) (As := [.int (xs (nI i + nI 1).toNatClampNeg), .int (xs (nI i + nI 2).toNatClampNeg)]) ⟨hx, hb, hml, hown, hts⟩ hC (cwV 2 hts gL_law_X5_set rfl rfl rfl (by decide +kernel) ⟨Nat.le_of_ble_eq_true rfl, Nat.le_of_ble_eq_true rfl⟩) rfl hfs hZ hP1 hD1 hK hN rfl hl rfl (Nat.le_of_ble_eq_true rfl) dL_law_157 ⟨by show cells + mc + 0 ≤ 600000; omega, by show slots + ms + 0 ≤ 7302249; omega⟩ hS hA (fun o2 H2 locs2 hP2 hD2 hS => ?_)
  refine lv_icmp_eq (tgt := 645) hx hb dL_law_160 (by decide) (fun _ => ?_) (fun z => absurd rfl z)
  exact kt H2 locs2 (cells + mc + 0) (slots + ms + 0) p1 u1 N1 T1 F1 G1 Hs1 Q1 P1 X1n (by omega) (by omega) hr1 hP2 hD2 hS
set_option maxHeartbeats 1000000 in
theorem law_touch {i kk : Nat} {p0 u0 : Nat → Nat → Nat} {N0 T0 : jm_T} {F0f G0 : jf_T} {Hs0 : jh_T} {Q0 : jd_T} {P0 : jp_T} {X0 : jx_T} (hx : p.tables.exec = Jvm.exec) (hb : c.code = cL_law) (hml : c.maxLocals = 4) (hown : s.vm.findClass RL = some m.cls) (hts : ∀ w ∈ wsL_law, w.before #[.ref b] s = true) (hX : va_X b L xs s s.heap) (hbl : b < s.heap.size) (hbA : ¬ lawA s b) (hZ : jk_Z tl tm (lawA s) s) (hK : va_K D vwCl (jk_T g) s) (hN : jk_N s) (hi : i + 4 ≤ L) (hL : L ≤ 2048) (hl : lv_has ls 4 [(3, .int (nI i)), (2, .ref (ax 0)), (1, .ref (a 0 0)), (0, .ref b)]) (hkk : kk < 900) (hr : zwR kk N0 F0f G0 Hs0 P0 X0) (hP : va_P D vwCl (zwL g a p0 u0 ax N0 T0 F0f G0 Hs0 Q0 P0 X0).flatten H) (hD : va_D (lawA s) (zwL g a p0 u0 ax N0 T0 F0f G0 Hs0 Q0 P0 X0).flatten) (hS : va_S (lawA s) s.heap H locs) (hc1 : cells + 7 ≤ 600000) (hc2 : slots + 72 ≤ 7302249)
    (kt : ∀ (H1 : Heap) (locs1 : List Loc) (cells1 slots1 : Nat) (pn un : Nat → Nat → Nat) (N T : jm_T) (F G : jf_T) (Hs : jh_T) (Q : jd_T) (P : jp_T) (X : jx_T), cells1 ≤ cells + 7 → slots1 ≤ slots + 72 → zwR (kk + 1) N F G Hs P X → va_P D vwCl (zwL g a pn un ax N T F G Hs Q P X).flatten H1 → va_D (lawA s) (zwL g a pn un ax N T F G Hs Q P X).flatten → va_S (lawA s) s.heap H1 locs1 → W p l e room_1 s m #[.ref b] below meth c H1 locs1 cells1 slots1 Qz (F0 m 645 ls [])) : W p l e room_1 s m #[.ref b] below meth c H locs cells slots Qz (F0 m 165 ls []) := by
  have hA : ∀ q, s.heap.size ≤ q → lawA s q := fun _ h => h
  obtain ⟨r, O, L4, mc, ms, hm, fr, lo, hfr, hlo, hC4, hC5⟩ := k_touch l D g tl tm a ax (xs (nI i + nI 1).toNatClampNeg) (xs (nI i + nI 2).toNatClampNeg) (xs (nI i + nI 3).toNatClampNeg) kk p0 u0 N0 T0 F0f G0 Hs0 Q0 P0 X0 hkk hr
  have hm1 : mc ≤ 7 ∧ ms ≤ 72 := by omega
  refine lv_aload_n hx hb dL_law_165 rfl (lv_at hl 2 rfl) ?_
  refine lv_aload_n hx hb dL_law_166 rfl (lv_at hl 3 rfl) ?_
  refine lv_iload_n hx hb dL_law_167 rfl (lv_at hl 0 rfl) ?_
  refine lv_iconst (v := nI 1) hx hb dL_law_168 (by decide) ?_
  refine lv_iadd hx hb dL_law_169 ?_
  refine va_sld hx hb hX hbl hbA hS (law_in hi hL (k := 1) (by omega)) dL_law_170 ?_
  refine lv_aload_n hx hb dL_law_171 rfl (lv_at hl 3 rfl) ?_
  refine lv_iload_n hx hb dL_law_172 rfl (lv_at hl 0 rfl) ?_
  refine lv_iconst (v := nI 2) hx hb dL_law_173 (by decide) ?_
  refine lv_iadd hx hb dL_law_174 ?_
  refine va_sld hx hb hX hbl hbA hS (law_in hi hL (k := 2) (by omega)) dL_law_175 ?_
  refine lv_aload_n hx hb dL_law_176 rfl (lv_at hl 3 rfl) ?_
  refine lv_iload_n hx hb dL_law_177 rfl (lv_at hl 0 rfl) ?_
  refine lv_iconst (v := nI 3) hx hb dL_law_178 (by decide) ?_
  refine lv_iadd hx hb dL_law_179 ?_
  refine va_sld hx hb hX hbl hbA hS (law_in hi hL (k := 3) (by omega)) dL_law_180 ?_
  refine law_call (O := O) (ci := 4) (rest := []) (As := [.int (xs (nI i + nI 1).toNatClampNeg), .int (xs (nI i + nI 2).toNatClampNeg), .int (xs (nI i + nI 3).toNatClampNeg)]) ⟨hx, hb, hml, hown, hts⟩ hC4 (cwV 3 hts gL_law_X4_touch rfl rfl rfl (by decide +kernel) ⟨Nat.le_trans (Nat.add_le_add_right hfr 1) (Nat.le_of_ble_eq_true rfl), Nat.le_trans (Nat.add_le_add_left hlo _) (Nat.le_of_ble_eq_true rfl)⟩) rfl (zwL_4 p0 u0 N0 T0 F0f G0 Hs0 Q0 P0 X0) hZ hP hD hK hN rfl hl rfl (Nat.le_of_ble_eq_true rfl) dL_law_181 ⟨by show cells + mc ≤ 600000; omega, by show slots + ms ≤ 7302249; omega⟩ hS hA (fun o H1 locs1 hP1 hD1 hS => ?_)
  obtain ⟨p1, u1, N1, T1, F1, G1, Hs1, Q1, P1, X1, X1n, e4, hC, hr1⟩ := hC5 o
  rw [e4] at hP1 hD1
  obtain ⟨fs, hfs⟩ := zwL_5 (g := g) (a := a) (ax := ax) p1 u1 N1 T1 F1 G1 Hs1 Q1 P1 X1
  refine lv_aload_n hx hb dL_law_184 rfl (lv_at hl 1 rfl) ?_
  refine lv_aload_n hx hb dL_law_185 rfl (lv_at hl 3 rfl) ?_
  refine lv_iload_n hx hb dL_law_186 rfl (lv_at hl 0 rfl) ?_
  refine lv_iconst (v := nI 1) hx hb dL_law_187 (by decide) ?_
  refine lv_iadd hx hb dL_law_188 ?_
  refine va_sld hx hb hX hbl hbA hS (law_in hi hL (k := 1) (by omega)) dL_law_189 ?_
  refine lv_aload_n hx hb dL_law_190 rfl (lv_at hl 3 rfl) ?_
  refine lv_iload_n hx hb dL_law_191 rfl (lv_at hl 0 rfl) ?_
  refine lv_iconst (v := nI 2) hx hb dL_law_192 (by decide) ?_
  refine lv_iadd hx hb dL_law_193 ?_
  refine va_sld hx hb hX hbl hbA hS (law_in hi hL (k := 2) (by omega)) dL_law_194 ?_
  refine lv_aload_n hx hb dL_law_195 rfl (lv_at hl 3 rfl) ?_
  refine lv_iload_n hx hb dL_law_196 rfl (lv_at hl 0 rfl) ?_
  refine lv_iconst (v := nI 3) hx hb dL_law_197 (by decide) ?_
  refine lv_iadd hx hb dL_law_198 ?_
  refine va_sld hx hb hX hbl hbA hS (law_in hi hL (k := 3) (by omega)) dL_law_199 ?_
  refine law_call (ci := 5) (rest := [.int r]) (As := [.int (xs (nI i + nI 1).toNatClampNeg), .int (xs (nI i + nI 2).toNatClampNeg), .int (xs (nI i + nI 3).toNatClampNeg)]) ⟨hx, hb, hml, hown, hts⟩ hC (cwV 3 hts gL_law_X5_touch rfl rfl rfl (by decide +kernel) ⟨Nat.le_of_ble_eq_true rfl, Nat.le_of_ble_eq_true rfl⟩) rfl hfs hZ hP1 hD1 hK hN rfl hl rfl (Nat.le_of_ble_eq_true rfl) dL_law_200 ⟨by show cells + mc + 0 ≤ 600000; omega, by show slots + ms + 0 ≤ 7302249; omega⟩ hS hA (fun o2 H2 locs2 hP2 hD2 hS => ?_)
  refine lv_icmp_eq (tgt := 645) hx hb dL_law_203 (by decide) (fun _ => ?_) (fun z => absurd rfl z)
  exact kt H2 locs2 (cells + mc + 0) (slots + ms + 0) p1 u1 N1 T1 F1 G1 Hs1 Q1 P1 X1n (by omega) (by omega) hr1 hP2 hD2 hS
set_option maxHeartbeats 1000000 in
theorem law_turn {i kk : Nat} {p0 u0 : Nat → Nat → Nat} {N0 T0 : jm_T} {F0f G0 : jf_T} {Hs0 : jh_T} {Q0 : jd_T} {P0 : jp_T} {X0 : jx_T} (hx : p.tables.exec = Jvm.exec) (hb : c.code = cL_law) (hml : c.maxLocals = 4) (hown : s.vm.findClass RL = some m.cls) (hts : ∀ w ∈ wsL_law, w.before #[.ref b] s = true) (hX : va_X b L xs s s.heap) (hbl : b < s.heap.size) (hbA : ¬ lawA s b) (hZ : jk_Z tl tm (lawA s) s) (hK : va_K D vwCl (jk_T g) s) (hN : jk_N s) (hi : i + 4 ≤ L) (hL : L ≤ 2048) (hl : lv_has ls 4 [(3, .int (nI i)), (2, .ref (ax 0)), (1, .ref (a 0 0)), (0, .ref b)]) (hkk : kk < 900) (hr : zwR kk N0 F0f G0 Hs0 P0 X0) (hP : va_P D vwCl (zwL g a p0 u0 ax N0 T0 F0f G0 Hs0 Q0 P0 X0).flatten H) (hD : va_D (lawA s) (zwL g a p0 u0 ax N0 T0 F0f G0 Hs0 Q0 P0 X0).flatten) (hS : va_S (lawA s) s.heap H locs) (hc1 : cells + 7 ≤ 600000) (hc2 : slots + 72 ≤ 7302249)
    (kt : ∀ (H1 : Heap) (locs1 : List Loc) (cells1 slots1 : Nat) (pn un : Nat → Nat → Nat) (N T : jm_T) (F G : jf_T) (Hs : jh_T) (Q : jd_T) (P : jp_T) (X : jx_T), cells1 ≤ cells + 7 → slots1 ≤ slots + 72 → zwR (kk + 1) N F G Hs P X → va_P D vwCl (zwL g a pn un ax N T F G Hs Q P X).flatten H1 → va_D (lawA s) (zwL g a pn un ax N T F G Hs Q P X).flatten → va_S (lawA s) s.heap H1 locs1 → W p l e room_1 s m #[.ref b] below meth c H1 locs1 cells1 slots1 Qz (F0 m 645 ls [])) : W p l e room_1 s m #[.ref b] below meth c H locs cells slots Qz (F0 m 208 ls []) := by
  have hA : ∀ q, s.heap.size ≤ q → lawA s q := fun _ h => h
  obtain ⟨r, O, L4, mc, ms, hm, fr, lo, hfr, hlo, hC4, hC5⟩ := k_turn l D g tl tm a ax (xs (nI i + nI 1).toNatClampNeg) kk p0 u0 N0 T0 F0f G0 Hs0 Q0 P0 X0 hkk hr
  have hm1 : mc ≤ 7 ∧ ms ≤ 72 := by omega
  refine lv_aload_n hx hb dL_law_208 rfl (lv_at hl 2 rfl) ?_
  refine lv_aload_n hx hb dL_law_209 rfl (lv_at hl 3 rfl) ?_
  refine lv_iload_n hx hb dL_law_210 rfl (lv_at hl 0 rfl) ?_
  refine lv_iconst (v := nI 1) hx hb dL_law_211 (by decide) ?_
  refine lv_iadd hx hb dL_law_212 ?_
  refine va_sld hx hb hX hbl hbA hS (law_in hi hL (k := 1) (by omega)) dL_law_213 ?_
  refine law_call (O := O) (ci := 4) (rest := []) (As := [.int (xs (nI i + nI 1).toNatClampNeg)]) ⟨hx, hb, hml, hown, hts⟩ hC4 (cwV 1 hts gL_law_X4_turn rfl rfl rfl (by decide +kernel) ⟨Nat.le_trans (Nat.add_le_add_right hfr 1) (Nat.le_of_ble_eq_true rfl), Nat.le_trans (Nat.add_le_add_left hlo _) (Nat.le_of_ble_eq_true rfl)⟩) rfl (zwL_4 p0 u0 N0 T0 F0f G0 Hs0 Q0 P0 X0) hZ hP hD hK hN rfl hl rfl (Nat.le_of_ble_eq_true rfl) dL_law_214 ⟨by show cells + mc ≤ 600000; omega, by show slots + ms ≤ 7302249; omega⟩ hS hA (fun o H1 locs1 hP1 hD1 hS => ?_)
  obtain ⟨p1, u1, N1, T1, F1, G1, Hs1, Q1, P1, X1, X1n, e4, hC, hr1⟩ := hC5 o
  rw [e4] at hP1 hD1
  obtain ⟨fs, hfs⟩ := zwL_5 (g := g) (a := a) (ax := ax) p1 u1 N1 T1 F1 G1 Hs1 Q1 P1 X1
  refine lv_aload_n hx hb dL_law_217 rfl (lv_at hl 1 rfl) ?_
  refine lv_aload_n hx hb dL_law_218 rfl (lv_at hl 3 rfl) ?_
  refine lv_iload_n hx hb dL_law_219 rfl (lv_at hl 0 rfl) ?_
  refine lv_iconst (v := nI 1) hx hb dL_law_220 (by decide) ?_
  refine lv_iadd hx hb dL_law_221 ?_
  refine va_sld hx hb hX hbl hbA hS (law_in hi hL (k := 1) (by omega)) dL_law_222 ?_
  refine law_call (ci := 5) (rest := [.int r]) (As := [.int (xs (nI i + nI 1).toNatClampNeg)]) ⟨hx, hb, hml, hown, hts⟩ hC (cwV 1 hts gL_law_X5_turn rfl rfl rfl (by decide +kernel) ⟨Nat.le_of_ble_eq_true rfl, Nat.le_of_ble_eq_true rfl⟩) rfl hfs hZ hP1 hD1 hK hN rfl hl rfl (Nat.le_of_ble_eq_true rfl) dL_law_223 ⟨by show cells + mc + 0 ≤ 600000; omega, by show slots + ms + 0 ≤ 7302249; omega⟩ hS hA (fun o2 H2 locs2 hP2 hD2 hS => ?_)
  refine lv_icmp_eq (tgt := 645) hx hb dL_law_226 (by decide) (fun _ => ?_) (fun z => absurd rfl z)
  exact kt H2 locs2 (cells + mc + 0) (slots + ms + 0) p1 u1 N1 T1 F1 G1 Hs1 Q1 P1 X1n (by omega) (by omega) hr1 hP2 hD2 hS
set_option maxHeartbeats 1000000 in
theorem law_discharge {i kk : Nat} {p0 u0 : Nat → Nat → Nat} {N0 T0 : jm_T} {F0f G0 : jf_T} {Hs0 : jh_T} {Q0 : jd_T} {P0 : jp_T} {X0 : jx_T} (hx : p.tables.exec = Jvm.exec) (hb : c.code = cL_law) (hml : c.maxLocals = 4) (hown : s.vm.findClass RL = some m.cls) (hts : ∀ w ∈ wsL_law, w.before #[.ref b] s = true) (hX : va_X b L xs s s.heap) (hbl : b < s.heap.size) (hbA : ¬ lawA s b) (hZ : jk_Z tl tm (lawA s) s) (hK : va_K D vwCl (jk_T g) s) (hN : jk_N s) (hi : i + 4 ≤ L) (hL : L ≤ 2048) (hl : lv_has ls 4 [(3, .int (nI i)), (2, .ref (ax 0)), (1, .ref (a 0 0)), (0, .ref b)]) (hkk : kk < 900) (hr : zwR kk N0 F0f G0 Hs0 P0 X0) (hP : va_P D vwCl (zwL g a p0 u0 ax N0 T0 F0f G0 Hs0 Q0 P0 X0).flatten H) (hD : va_D (lawA s) (zwL g a p0 u0 ax N0 T0 F0f G0 Hs0 Q0 P0 X0).flatten) (hS : va_S (lawA s) s.heap H locs) (hc1 : cells + 7 ≤ 600000) (hc2 : slots + 72 ≤ 7302249)
    (kt : ∀ (H1 : Heap) (locs1 : List Loc) (cells1 slots1 : Nat) (pn un : Nat → Nat → Nat) (N T : jm_T) (F G : jf_T) (Hs : jh_T) (Q : jd_T) (P : jp_T) (X : jx_T), cells1 ≤ cells + 7 → slots1 ≤ slots + 72 → zwR (kk + 1) N F G Hs P X → va_P D vwCl (zwL g a pn un ax N T F G Hs Q P X).flatten H1 → va_D (lawA s) (zwL g a pn un ax N T F G Hs Q P X).flatten → va_S (lawA s) s.heap H1 locs1 → W p l e room_1 s m #[.ref b] below meth c H1 locs1 cells1 slots1 Qz (F0 m 645 ls [])) : W p l e room_1 s m #[.ref b] below meth c H locs cells slots Qz (F0 m 231 ls []) := by
  have hA : ∀ q, s.heap.size ≤ q → lawA s q := fun _ h => h
  obtain ⟨r, O, L4, mc, ms, hm, fr, lo, hfr, hlo, hC4, hC5⟩ := k_discharge l D g tl tm a ax  kk p0 u0 N0 T0 F0f G0 Hs0 Q0 P0 X0 hkk hr
  have hm1 : mc ≤ 7 ∧ ms ≤ 72 := by omega
  refine lv_aload_n hx hb dL_law_231 rfl (lv_at hl 2 rfl) ?_
  refine law_call (O := O) (ci := 4) (rest := []) (As := []) ⟨hx, hb, hml, hown, hts⟩ hC4 (cwV 0 hts gL_law_X4_discharge rfl rfl rfl (by decide +kernel) ⟨Nat.le_trans (Nat.add_le_add_right hfr 1) (Nat.le_of_ble_eq_true rfl), Nat.le_trans (Nat.add_le_add_left hlo _) (Nat.le_of_ble_eq_true rfl)⟩) rfl (zwL_4 p0 u0 N0 T0 F0f G0 Hs0 Q0 P0 X0) hZ hP hD hK hN rfl hl rfl (Nat.le_of_ble_eq_true rfl) dL_law_232 ⟨by show cells + mc ≤ 600000; omega, by show slots + ms ≤ 7302249; omega⟩ hS hA (fun o H1 locs1 hP1 hD1 hS => ?_)
  obtain ⟨p1, u1, N1, T1, F1, G1, Hs1, Q1, P1, X1, X1n, e4, hC, hr1⟩ := hC5 o
  rw [e4] at hP1 hD1
  obtain ⟨fs, hfs⟩ := zwL_5 (g := g) (a := a) (ax := ax) p1 u1 N1 T1 F1 G1 Hs1 Q1 P1 X1
  refine lv_aload_n hx hb dL_law_235 rfl (lv_at hl 1 rfl) ?_
  refine law_call (ci := 5) (rest := [.int r]) (As := []) ⟨hx, hb, hml, hown, hts⟩ hC (cwV 0 hts gL_law_X5_discharge rfl rfl rfl (by decide +kernel) ⟨Nat.le_of_ble_eq_true rfl, Nat.le_of_ble_eq_true rfl⟩) rfl hfs hZ hP1 hD1 hK hN rfl hl rfl (Nat.le_of_ble_eq_true rfl) dL_law_236 ⟨by show cells + mc + 0 ≤ 600000; omega, by show slots + ms + 0 ≤ 7302249; omega⟩ hS hA (fun o2 H2 locs2 hP2 hD2 hS => ?_)
  refine lv_icmp_eq (tgt := 645) hx hb dL_law_239 (by decide) (fun _ => ?_) (fun z => absurd rfl z)
  exact kt H2 locs2 (cells + mc + 0) (slots + ms + 0) p1 u1 N1 T1 F1 G1 Hs1 Q1 P1 X1n (by omega) (by omega) hr1 hP2 hD2 hS
set_option maxHeartbeats 1000000 in
theorem law_wipeDisc {i kk : Nat} {p0 u0 : Nat → Nat → Nat} {N0 T0 : jm_T} {F0f G0 : jf_T} {Hs0 : jh_T} {Q0 : jd_T} {P0 : jp_T} {X0 : jx_T} (hx : p.tables.exec = Jvm.exec) (hb : c.code = cL_law) (hml : c.maxLocals = 4) (hown : s.vm.findClass RL = some m.cls) (hts : ∀ w ∈ wsL_law, w.before #[.ref b] s = true) (hX : va_X b L xs s s.heap) (hbl : b < s.heap.size) (hbA : ¬ lawA s b) (hZ : jk_Z tl tm (lawA s) s) (hK : va_K D vwCl (jk_T g) s) (hN : jk_N s) (hi : i + 4 ≤ L) (hL : L ≤ 2048) (hl : lv_has ls 4 [(3, .int (nI i)), (2, .ref (ax 0)), (1, .ref (a 0 0)), (0, .ref b)]) (hkk : kk < 900) (hr : zwR kk N0 F0f G0 Hs0 P0 X0) (hP : va_P D vwCl (zwL g a p0 u0 ax N0 T0 F0f G0 Hs0 Q0 P0 X0).flatten H) (hD : va_D (lawA s) (zwL g a p0 u0 ax N0 T0 F0f G0 Hs0 Q0 P0 X0).flatten) (hS : va_S (lawA s) s.heap H locs) (hc1 : cells + 7 ≤ 600000) (hc2 : slots + 72 ≤ 7302249)
    (kt : ∀ (H1 : Heap) (locs1 : List Loc) (cells1 slots1 : Nat) (pn un : Nat → Nat → Nat) (N T : jm_T) (F G : jf_T) (Hs : jh_T) (Q : jd_T) (P : jp_T) (X : jx_T), cells1 ≤ cells + 7 → slots1 ≤ slots + 72 → zwR (kk + 1) N F G Hs P X → va_P D vwCl (zwL g a pn un ax N T F G Hs Q P X).flatten H1 → va_D (lawA s) (zwL g a pn un ax N T F G Hs Q P X).flatten → va_S (lawA s) s.heap H1 locs1 → W p l e room_1 s m #[.ref b] below meth c H1 locs1 cells1 slots1 Qz (F0 m 645 ls [])) : W p l e room_1 s m #[.ref b] below meth c H locs cells slots Qz (F0 m 244 ls []) := by
  have hA : ∀ q, s.heap.size ≤ q → lawA s q := fun _ h => h
  obtain ⟨r, O, L4, mc, ms, hm, fr, lo, hfr, hlo, hC4, hC5⟩ := k_wipeDisc l D g tl tm a ax (xs (nI i + nI 1).toNatClampNeg) kk p0 u0 N0 T0 F0f G0 Hs0 Q0 P0 X0 hkk hr
  have hm1 : mc ≤ 7 ∧ ms ≤ 72 := by omega
  refine lv_aload_n hx hb dL_law_244 rfl (lv_at hl 2 rfl) ?_
  refine lv_aload_n hx hb dL_law_245 rfl (lv_at hl 3 rfl) ?_
  refine lv_iload_n hx hb dL_law_246 rfl (lv_at hl 0 rfl) ?_
  refine lv_iconst (v := nI 1) hx hb dL_law_247 (by decide) ?_
  refine lv_iadd hx hb dL_law_248 ?_
  refine va_sld hx hb hX hbl hbA hS (law_in hi hL (k := 1) (by omega)) dL_law_249 ?_
  refine law_call (O := O) (ci := 4) (rest := []) (As := [.int (xs (nI i + nI 1).toNatClampNeg)]) ⟨hx, hb, hml, hown, hts⟩ hC4 (cwV 1 hts gL_law_X4_wipeDisc rfl rfl rfl (by decide +kernel) ⟨Nat.le_trans (Nat.add_le_add_right hfr 1) (Nat.le_of_ble_eq_true rfl), Nat.le_trans (Nat.add_le_add_left hlo _) (Nat.le_of_ble_eq_true rfl)⟩) rfl (zwL_4 p0 u0 N0 T0 F0f G0 Hs0 Q0 P0 X0) hZ hP hD hK hN rfl hl rfl (Nat.le_of_ble_eq_true rfl) dL_law_250 ⟨by show cells + mc ≤ 600000; omega, by show slots + ms ≤ 7302249; omega⟩ hS hA (fun o H1 locs1 hP1 hD1 hS => ?_)
  obtain ⟨p1, u1, N1, T1, F1, G1, Hs1, Q1, P1, X1, X1n, e4, hC, hr1⟩ := hC5 o
  rw [e4] at hP1 hD1
  obtain ⟨fs, hfs⟩ := zwL_5 (g := g) (a := a) (ax := ax) p1 u1 N1 T1 F1 G1 Hs1 Q1 P1 X1
  refine lv_aload_n hx hb dL_law_253 rfl (lv_at hl 1 rfl) ?_
  refine lv_aload_n hx hb dL_law_254 rfl (lv_at hl 3 rfl) ?_
  refine lv_iload_n hx hb dL_law_255 rfl (lv_at hl 0 rfl) ?_
  refine lv_iconst (v := nI 1) hx hb dL_law_256 (by decide) ?_
  refine lv_iadd hx hb dL_law_257 ?_
  refine va_sld hx hb hX hbl hbA hS (law_in hi hL (k := 1) (by omega)) dL_law_258 ?_
  refine law_call (ci := 5) (rest := [.int r]) (As := [.int (xs (nI i + nI 1).toNatClampNeg)]) ⟨hx, hb, hml, hown, hts⟩ hC (cwV 1 hts gL_law_X5_wipeDisc rfl rfl rfl (by decide +kernel) ⟨Nat.le_of_ble_eq_true rfl, Nat.le_of_ble_eq_true rfl⟩) rfl hfs hZ hP1 hD1 hK hN rfl hl rfl (Nat.le_of_ble_eq_true rfl) dL_law_259 ⟨by show cells + mc + 0 ≤ 600000; omega, by show slots + ms + 0 ≤ 7302249; omega⟩ hS hA (fun o2 H2 locs2 hP2 hD2 hS => ?_)
  refine lv_icmp_eq (tgt := 645) hx hb dL_law_262 (by decide) (fun _ => ?_) (fun z => absurd rfl z)
  exact kt H2 locs2 (cells + mc + 0) (slots + ms + 0) p1 u1 N1 T1 F1 G1 Hs1 Q1 P1 X1n (by omega) (by omega) hr1 hP2 hD2 hS
set_option maxHeartbeats 1000000 in
theorem law_run {i kk : Nat} {p0 u0 : Nat → Nat → Nat} {N0 T0 : jm_T} {F0f G0 : jf_T} {Hs0 : jh_T} {Q0 : jd_T} {P0 : jp_T} {X0 : jx_T} (hx : p.tables.exec = Jvm.exec) (hb : c.code = cL_law) (hml : c.maxLocals = 4) (hown : s.vm.findClass RL = some m.cls) (hts : ∀ w ∈ wsL_law, w.before #[.ref b] s = true) (hX : va_X b L xs s s.heap) (hbl : b < s.heap.size) (hbA : ¬ lawA s b) (hZ : jk_Z tl tm (lawA s) s) (hK : va_K D vwCl (jk_T g) s) (hN : jk_N s) (hi : i + 4 ≤ L) (hL : L ≤ 2048) (hl : lv_has ls 4 [(3, .int (nI i)), (2, .ref (ax 0)), (1, .ref (a 0 0)), (0, .ref b)]) (hkk : kk < 900) (hr : zwR kk N0 F0f G0 Hs0 P0 X0) (hP : va_P D vwCl (zwL g a p0 u0 ax N0 T0 F0f G0 Hs0 Q0 P0 X0).flatten H) (hD : va_D (lawA s) (zwL g a p0 u0 ax N0 T0 F0f G0 Hs0 Q0 P0 X0).flatten) (hS : va_S (lawA s) s.heap H locs) (hc1 : cells + 7 ≤ 600000) (hc2 : slots + 72 ≤ 7302249)
    (kt : ∀ (H1 : Heap) (locs1 : List Loc) (cells1 slots1 : Nat) (pn un : Nat → Nat → Nat) (N T : jm_T) (F G : jf_T) (Hs : jh_T) (Q : jd_T) (P : jp_T) (X : jx_T), cells1 ≤ cells + 7 → slots1 ≤ slots + 72 → zwR (kk + 1) N F G Hs P X → va_P D vwCl (zwL g a pn un ax N T F G Hs Q P X).flatten H1 → va_D (lawA s) (zwL g a pn un ax N T F G Hs Q P X).flatten → va_S (lawA s) s.heap H1 locs1 → W p l e room_1 s m #[.ref b] below meth c H1 locs1 cells1 slots1 Qz (F0 m 645 ls [])) : W p l e room_1 s m #[.ref b] below meth c H locs cells slots Qz (F0 m 267 ls []) := by
  have hA : ∀ q, s.heap.size ≤ q → lawA s q := fun _ h => h
  obtain ⟨r, O, L4, mc, ms, hm, fr, lo, hfr, hlo, hC4, hC5⟩ := k_run l D g tl tm a ax  kk p0 u0 N0 T0 F0f G0 Hs0 Q0 P0 X0 hkk hr
  have hm1 : mc ≤ 7 ∧ ms ≤ 72 := by omega
  refine lv_aload_n hx hb dL_law_267 rfl (lv_at hl 2 rfl) ?_
  refine law_call (O := O) (ci := 4) (rest := []) (As := []) ⟨hx, hb, hml, hown, hts⟩ hC4 (cwV 0 hts gL_law_X4_run rfl rfl rfl (by decide +kernel) ⟨Nat.le_trans (Nat.add_le_add_right hfr 1) (Nat.le_of_ble_eq_true rfl), Nat.le_trans (Nat.add_le_add_left hlo _) (Nat.le_of_ble_eq_true rfl)⟩) rfl (zwL_4 p0 u0 N0 T0 F0f G0 Hs0 Q0 P0 X0) hZ hP hD hK hN rfl hl rfl (Nat.le_of_ble_eq_true rfl) dL_law_268 ⟨by show cells + mc ≤ 600000; omega, by show slots + ms ≤ 7302249; omega⟩ hS hA (fun o H1 locs1 hP1 hD1 hS => ?_)
  obtain ⟨p1, u1, N1, T1, F1, G1, Hs1, Q1, P1, X1, X1n, e4, hC, hr1⟩ := hC5 o
  rw [e4] at hP1 hD1
  obtain ⟨fs, hfs⟩ := zwL_5 (g := g) (a := a) (ax := ax) p1 u1 N1 T1 F1 G1 Hs1 Q1 P1 X1
  refine lv_aload_n hx hb dL_law_271 rfl (lv_at hl 1 rfl) ?_
  refine law_call (ci := 5) (rest := [.int r]) (As := []) ⟨hx, hb, hml, hown, hts⟩ hC (cwV 0 hts gL_law_X5_run rfl rfl rfl (by decide +kernel) ⟨Nat.le_of_ble_eq_true rfl, Nat.le_of_ble_eq_true rfl⟩) rfl hfs hZ hP1 hD1 hK hN rfl hl rfl (Nat.le_of_ble_eq_true rfl) dL_law_272 ⟨by show cells + mc + 0 ≤ 600000; omega, by show slots + ms + 0 ≤ 7302249; omega⟩ hS hA (fun o2 H2 locs2 hP2 hD2 hS => ?_)
  refine lv_icmp_eq (tgt := 645) hx hb dL_law_275 (by decide) (fun _ => ?_) (fun z => absurd rfl z)
  exact kt H2 locs2 (cells + mc + 0) (slots + ms + 0) p1 u1 N1 T1 F1 G1 Hs1 Q1 P1 X1n (by omega) (by omega) hr1 hP2 hD2 hS
set_option maxHeartbeats 1000000 in
theorem law_sector {i kk : Nat} {p0 u0 : Nat → Nat → Nat} {N0 T0 : jm_T} {F0f G0 : jf_T} {Hs0 : jh_T} {Q0 : jd_T} {P0 : jp_T} {X0 : jx_T} (hx : p.tables.exec = Jvm.exec) (hb : c.code = cL_law) (hml : c.maxLocals = 4) (hown : s.vm.findClass RL = some m.cls) (hts : ∀ w ∈ wsL_law, w.before #[.ref b] s = true) (hX : va_X b L xs s s.heap) (hbl : b < s.heap.size) (hbA : ¬ lawA s b) (hZ : jk_Z tl tm (lawA s) s) (hK : va_K D vwCl (jk_T g) s) (hN : jk_N s) (hi : i + 4 ≤ L) (hL : L ≤ 2048) (hl : lv_has ls 4 [(3, .int (nI i)), (2, .ref (ax 0)), (1, .ref (a 0 0)), (0, .ref b)]) (hkk : kk < 900) (hr : zwR kk N0 F0f G0 Hs0 P0 X0) (hP : va_P D vwCl (zwL g a p0 u0 ax N0 T0 F0f G0 Hs0 Q0 P0 X0).flatten H) (hD : va_D (lawA s) (zwL g a p0 u0 ax N0 T0 F0f G0 Hs0 Q0 P0 X0).flatten) (hS : va_S (lawA s) s.heap H locs) (hc1 : cells + 7 ≤ 600000) (hc2 : slots + 72 ≤ 7302249)
    (kt : ∀ (H1 : Heap) (locs1 : List Loc) (cells1 slots1 : Nat) (pn un : Nat → Nat → Nat) (N T : jm_T) (F G : jf_T) (Hs : jh_T) (Q : jd_T) (P : jp_T) (X : jx_T), cells1 ≤ cells + 7 → slots1 ≤ slots + 72 → zwR (kk + 1) N F G Hs P X → va_P D vwCl (zwL g a pn un ax N T F G Hs Q P X).flatten H1 → va_D (lawA s) (zwL g a pn un ax N T F G Hs Q P X).flatten → va_S (lawA s) s.heap H1 locs1 → W p l e room_1 s m #[.ref b] below meth c H1 locs1 cells1 slots1 Qz (F0 m 645 ls [])) : W p l e room_1 s m #[.ref b] below meth c H locs cells slots Qz (F0 m 280 ls []) := by
  have hA : ∀ q, s.heap.size ≤ q → lawA s q := fun _ h => h
  obtain ⟨r, O, L4, mc, ms, hm, fr, lo, hfr, hlo, hC4, hC5⟩ := k_sector l D g tl tm a ax (xs (nI i + nI 1).toNatClampNeg) (xs (nI i + nI 2).toNatClampNeg) kk p0 u0 N0 T0 F0f G0 Hs0 Q0 P0 X0 hkk hr
  have hm1 : mc ≤ 7 ∧ ms ≤ 72 := by omega
  refine lv_aload_n hx hb dL_law_280 rfl (lv_at hl 2 rfl) ?_
  refine lv_aload_n hx hb dL_law_281 rfl (lv_at hl 3 rfl) ?_
  refine lv_iload_n hx hb dL_law_282 rfl (lv_at hl 0 rfl) ?_
  refine lv_iconst (v := nI 1) hx hb dL_law_283 (by decide) ?_
  refine lv_iadd hx hb dL_law_284 ?_
  refine va_sld hx hb hX hbl hbA hS (law_in hi hL (k := 1) (by omega)) dL_law_285 ?_
  refine lv_aload_n hx hb dL_law_286 rfl (lv_at hl 3 rfl) ?_
  refine lv_iload_n hx hb dL_law_287 rfl (lv_at hl 0 rfl) ?_
  refine lv_iconst (v := nI 2) hx hb dL_law_288 (by decide) ?_
  refine lv_iadd hx hb dL_law_289 ?_
  refine va_sld hx hb hX hbl hbA hS (law_in hi hL (k := 2) (by omega)) dL_law_290 ?_
  refine law_call (O := O) (ci := 4) (rest := []) (As := [.int (xs (nI i + nI 1).toNatClampNeg), .int (xs (nI i + nI 2).toNatClampNeg)]) ⟨hx, hb, hml, hown, hts⟩ hC4 (cwV 2 hts gL_law_X4_sector rfl rfl rfl (by decide +kernel) ⟨Nat.le_trans (Nat.add_le_add_right hfr 1) (Nat.le_of_ble_eq_true rfl), Nat.le_trans (Nat.add_le_add_left hlo _) (Nat.le_of_ble_eq_true rfl)⟩) rfl (zwL_4 p0 u0 N0 T0 F0f G0 Hs0 Q0 P0 X0) hZ hP hD hK hN rfl hl rfl (Nat.le_of_ble_eq_true rfl) dL_law_291 ⟨by show cells + mc ≤ 600000; omega, by show slots + ms ≤ 7302249; omega⟩ hS hA (fun o H1 locs1 hP1 hD1 hS => ?_)
  obtain ⟨p1, u1, N1, T1, F1, G1, Hs1, Q1, P1, X1, X1n, e4, hC, hr1⟩ := hC5 o
  rw [e4] at hP1 hD1
  obtain ⟨fs, hfs⟩ := zwL_5 (g := g) (a := a) (ax := ax) p1 u1 N1 T1 F1 G1 Hs1 Q1 P1 X1
  refine lv_aload_n hx hb dL_law_294 rfl (lv_at hl 1 rfl) ?_
  refine lv_aload_n hx hb dL_law_295 rfl (lv_at hl 3 rfl) ?_
  refine lv_iload_n hx hb dL_law_296 rfl (lv_at hl 0 rfl) ?_
  refine lv_iconst (v := nI 1) hx hb dL_law_297 (by decide) ?_
  refine lv_iadd hx hb dL_law_298 ?_
  refine va_sld hx hb hX hbl hbA hS (law_in hi hL (k := 1) (by omega)) dL_law_299 ?_
  refine lv_aload_n hx hb dL_law_300 rfl (lv_at hl 3 rfl) ?_
  refine lv_iload_n hx hb dL_law_301 rfl (lv_at hl 0 rfl) ?_
  refine lv_iconst (v := nI 2) hx hb dL_law_302 (by decide) ?_
  refine lv_iadd hx hb dL_law_303 ?_
  refine va_sld hx hb hX hbl hbA hS (law_in hi hL (k := 2) (by omega)) dL_law_304 ?_
  refine law_call (ci := 5) (rest := [.int r]) (As := [.int (xs (nI i + nI 1).toNatClampNeg), .int (xs (nI i + nI 2).toNatClampNeg)]) ⟨hx, hb, hml, hown, hts⟩ hC (cwV 2 hts gL_law_X5_sector rfl rfl rfl (by decide +kernel) ⟨Nat.le_of_ble_eq_true rfl, Nat.le_of_ble_eq_true rfl⟩) rfl hfs hZ hP1 hD1 hK hN rfl hl rfl (Nat.le_of_ble_eq_true rfl) dL_law_305 ⟨by show cells + mc + 0 ≤ 600000; omega, by show slots + ms + 0 ≤ 7302249; omega⟩ hS hA (fun o2 H2 locs2 hP2 hD2 hS => ?_)
  refine lv_icmp_eq (tgt := 645) hx hb dL_law_308 (by decide) (fun _ => ?_) (fun z => absurd rfl z)
  exact kt H2 locs2 (cells + mc + 0) (slots + ms + 0) p1 u1 N1 T1 F1 G1 Hs1 Q1 P1 X1n (by omega) (by omega) hr1 hP2 hD2 hS
set_option maxHeartbeats 1000000 in
theorem law_disc {i kk : Nat} {p0 u0 : Nat → Nat → Nat} {N0 T0 : jm_T} {F0f G0 : jf_T} {Hs0 : jh_T} {Q0 : jd_T} {P0 : jp_T} {X0 : jx_T} (hx : p.tables.exec = Jvm.exec) (hb : c.code = cL_law) (hml : c.maxLocals = 4) (hown : s.vm.findClass RL = some m.cls) (hts : ∀ w ∈ wsL_law, w.before #[.ref b] s = true) (hX : va_X b L xs s s.heap) (hbl : b < s.heap.size) (hbA : ¬ lawA s b) (hZ : jk_Z tl tm (lawA s) s) (hK : va_K D vwCl (jk_T g) s) (hN : jk_N s) (hi : i + 4 ≤ L) (hL : L ≤ 2048) (hl : lv_has ls 4 [(3, .int (nI i)), (2, .ref (ax 0)), (1, .ref (a 0 0)), (0, .ref b)]) (hkk : kk < 900) (hr : zwR kk N0 F0f G0 Hs0 P0 X0) (hP : va_P D vwCl (zwL g a p0 u0 ax N0 T0 F0f G0 Hs0 Q0 P0 X0).flatten H) (hD : va_D (lawA s) (zwL g a p0 u0 ax N0 T0 F0f G0 Hs0 Q0 P0 X0).flatten) (hS : va_S (lawA s) s.heap H locs) (hc1 : cells + 7 ≤ 600000) (hc2 : slots + 72 ≤ 7302249)
    (kt : ∀ (H1 : Heap) (locs1 : List Loc) (cells1 slots1 : Nat) (pn un : Nat → Nat → Nat) (N T : jm_T) (F G : jf_T) (Hs : jh_T) (Q : jd_T) (P : jp_T) (X : jx_T), cells1 ≤ cells + 7 → slots1 ≤ slots + 72 → zwR (kk + 1) N F G Hs P X → va_P D vwCl (zwL g a pn un ax N T F G Hs Q P X).flatten H1 → va_D (lawA s) (zwL g a pn un ax N T F G Hs Q P X).flatten → va_S (lawA s) s.heap H1 locs1 → W p l e room_1 s m #[.ref b] below meth c H1 locs1 cells1 slots1 Qz (F0 m 645 ls [])) : W p l e room_1 s m #[.ref b] below meth c H locs cells slots Qz (F0 m 313 ls []) := by
  have hA : ∀ q, s.heap.size ≤ q → lawA s q := fun _ h => h
  obtain ⟨r, O, L4, mc, ms, hm, fr, lo, hfr, hlo, hC4, hC5⟩ := k_disc l D g tl tm a ax (xs (nI i + nI 1).toNatClampNeg) (xs (nI i + nI 2).toNatClampNeg) kk p0 u0 N0 T0 F0f G0 Hs0 Q0 P0 X0 hkk hr
  have hm1 : mc ≤ 7 ∧ ms ≤ 72 := by omega
  refine lv_aload_n hx hb dL_law_313 rfl (lv_at hl 2 rfl) ?_
  refine lv_aload_n hx hb dL_law_314 rfl (lv_at hl 3 rfl) ?_
  refine lv_iload_n hx hb dL_law_315 rfl (lv_at hl 0 rfl) ?_
  refine lv_iconst (v := nI 1) hx hb dL_law_316 (by decide) ?_
  refine lv_iadd hx hb dL_law_317 ?_
  refine va_sld hx hb hX hbl hbA hS (law_in hi hL (k := 1) (by omega)) dL_law_318 ?_
  refine lv_aload_n hx hb dL_law_319 rfl (lv_at hl 3 rfl) ?_
  refine lv_iload_n hx hb dL_law_320 rfl (lv_at hl 0 rfl) ?_
  refine lv_iconst (v := nI 2) hx hb dL_law_321 (by decide) ?_
  refine lv_iadd hx hb dL_law_322 ?_
  refine va_sld hx hb hX hbl hbA hS (law_in hi hL (k := 2) (by omega)) dL_law_323 ?_
  refine law_call (O := O) (ci := 4) (rest := []) (As := [.int (xs (nI i + nI 1).toNatClampNeg), .int (xs (nI i + nI 2).toNatClampNeg)]) ⟨hx, hb, hml, hown, hts⟩ hC4 (cwV 2 hts gL_law_X4_disc rfl rfl rfl (by decide +kernel) ⟨Nat.le_trans (Nat.add_le_add_right hfr 1) (Nat.le_of_ble_eq_true rfl), Nat.le_trans (Nat.add_le_add_left hlo _) (Nat.le_of_ble_eq_true rfl)⟩) rfl (zwL_4 p0 u0 N0 T0 F0f G0 Hs0 Q0 P0 X0) hZ hP hD hK hN rfl hl rfl (Nat.le_of_ble_eq_true rfl) dL_law_324 ⟨by show cells + mc ≤ 600000; omega, by show slots + ms ≤ 7302249; omega⟩ hS hA (fun o H1 locs1 hP1 hD1 hS => ?_)
  obtain ⟨p1, u1, N1, T1, F1, G1, Hs1, Q1, P1, X1, X1n, e4, hC, hr1⟩ := hC5 o
  rw [e4] at hP1 hD1
  obtain ⟨fs, hfs⟩ := zwL_5 (g := g) (a := a) (ax := ax) p1 u1 N1 T1 F1 G1 Hs1 Q1 P1 X1
  refine lv_aload_n hx hb dL_law_327 rfl (lv_at hl 1 rfl) ?_
  refine lv_aload_n hx hb dL_law_328 rfl (lv_at hl 3 rfl) ?_
  refine lv_iload_n hx hb dL_law_329 rfl (lv_at hl 0 rfl) ?_
  refine lv_iconst (v := nI 1) hx hb dL_law_330 (by decide) ?_
  refine lv_iadd hx hb dL_law_331 ?_
  refine va_sld hx hb hX hbl hbA hS (law_in hi hL (k := 1) (by omega)) dL_law_332 ?_
  refine lv_aload_n hx hb dL_law_333 rfl (lv_at hl 3 rfl) ?_
  refine lv_iload_n hx hb dL_law_334 rfl (lv_at hl 0 rfl) ?_
  refine lv_iconst (v := nI 2) hx hb dL_law_335 (by decide) ?_
  refine lv_iadd hx hb dL_law_336 ?_
  refine va_sld hx hb hX hbl hbA hS (law_in hi hL (k := 2) (by omega)) dL_law_337 ?_
  refine law_call (ci := 5) (rest := [.int r]) (As := [.int (xs (nI i + nI 1).toNatClampNeg), .int (xs (nI i + nI 2).toNatClampNeg)]) ⟨hx, hb, hml, hown, hts⟩ hC (cwV 2 hts gL_law_X5_disc rfl rfl rfl (by decide +kernel) ⟨Nat.le_of_ble_eq_true rfl, Nat.le_of_ble_eq_true rfl⟩) rfl hfs hZ hP1 hD1 hK hN rfl hl rfl (Nat.le_of_ble_eq_true rfl) dL_law_338 ⟨by show cells + mc + 0 ≤ 600000; omega, by show slots + ms + 0 ≤ 7302249; omega⟩ hS hA (fun o2 H2 locs2 hP2 hD2 hS => ?_)
  refine lv_icmp_eq (tgt := 645) hx hb dL_law_341 (by decide) (fun _ => ?_) (fun z => absurd rfl z)
  exact kt H2 locs2 (cells + mc + 0) (slots + ms + 0) p1 u1 N1 T1 F1 G1 Hs1 Q1 P1 X1n (by omega) (by omega) hr1 hP2 hD2 hS
set_option maxHeartbeats 1000000 in
theorem law_jar {i kk : Nat} {p0 u0 : Nat → Nat → Nat} {N0 T0 : jm_T} {F0f G0 : jf_T} {Hs0 : jh_T} {Q0 : jd_T} {P0 : jp_T} {X0 : jx_T} (hx : p.tables.exec = Jvm.exec) (hb : c.code = cL_law) (hml : c.maxLocals = 4) (hown : s.vm.findClass RL = some m.cls) (hts : ∀ w ∈ wsL_law, w.before #[.ref b] s = true) (hX : va_X b L xs s s.heap) (hbl : b < s.heap.size) (hbA : ¬ lawA s b) (hZ : jk_Z tl tm (lawA s) s) (hK : va_K D vwCl (jk_T g) s) (hN : jk_N s) (hi : i + 4 ≤ L) (hL : L ≤ 2048) (hl : lv_has ls 4 [(3, .int (nI i)), (2, .ref (ax 0)), (1, .ref (a 0 0)), (0, .ref b)]) (hkk : kk < 900) (hr : zwR kk N0 F0f G0 Hs0 P0 X0) (hP : va_P D vwCl (zwL g a p0 u0 ax N0 T0 F0f G0 Hs0 Q0 P0 X0).flatten H) (hD : va_D (lawA s) (zwL g a p0 u0 ax N0 T0 F0f G0 Hs0 Q0 P0 X0).flatten) (hS : va_S (lawA s) s.heap H locs) (hc1 : cells + 7 ≤ 600000) (hc2 : slots + 72 ≤ 7302249)
    (kt : ∀ (H1 : Heap) (locs1 : List Loc) (cells1 slots1 : Nat) (pn un : Nat → Nat → Nat) (N T : jm_T) (F G : jf_T) (Hs : jh_T) (Q : jd_T) (P : jp_T) (X : jx_T), cells1 ≤ cells + 7 → slots1 ≤ slots + 72 → zwR (kk + 1) N F G Hs P X → va_P D vwCl (zwL g a pn un ax N T F G Hs Q P X).flatten H1 → va_D (lawA s) (zwL g a pn un ax N T F G Hs Q P X).flatten → va_S (lawA s) s.heap H1 locs1 → W p l e room_1 s m #[.ref b] below meth c H1 locs1 cells1 slots1 Qz (F0 m 645 ls [])) : W p l e room_1 s m #[.ref b] below meth c H locs cells slots Qz (F0 m 346 ls []) := by
  have hA : ∀ q, s.heap.size ≤ q → lawA s q := fun _ h => h
  obtain ⟨r, O, L4, mc, ms, hm, fr, lo, hfr, hlo, hC4, hC5⟩ := k_jar l D g tl tm a ax (xs (nI i + nI 1).toNatClampNeg) (xs (nI i + nI 2).toNatClampNeg) kk p0 u0 N0 T0 F0f G0 Hs0 Q0 P0 X0 hkk hr
  have hm1 : mc ≤ 7 ∧ ms ≤ 72 := by omega
  refine lv_aload_n hx hb dL_law_346 rfl (lv_at hl 2 rfl) ?_
  refine lv_aload_n hx hb dL_law_347 rfl (lv_at hl 3 rfl) ?_
  refine lv_iload_n hx hb dL_law_348 rfl (lv_at hl 0 rfl) ?_
  refine lv_iconst (v := nI 1) hx hb dL_law_349 (by decide) ?_
  refine lv_iadd hx hb dL_law_350 ?_
  refine va_sld hx hb hX hbl hbA hS (law_in hi hL (k := 1) (by omega)) dL_law_351 ?_
  refine lv_aload_n hx hb dL_law_352 rfl (lv_at hl 3 rfl) ?_
  refine lv_iload_n hx hb dL_law_353 rfl (lv_at hl 0 rfl) ?_
  refine lv_iconst (v := nI 2) hx hb dL_law_354 (by decide) ?_
  refine lv_iadd hx hb dL_law_355 ?_
  refine va_sld hx hb hX hbl hbA hS (law_in hi hL (k := 2) (by omega)) dL_law_356 ?_
  refine law_call (O := O) (ci := 4) (rest := []) (As := [.int (xs (nI i + nI 1).toNatClampNeg), .int (xs (nI i + nI 2).toNatClampNeg)]) ⟨hx, hb, hml, hown, hts⟩ hC4 (cwV 2 hts gL_law_X4_jar rfl rfl rfl (by decide +kernel) ⟨Nat.le_trans (Nat.add_le_add_right hfr 1) (Nat.le_of_ble_eq_true rfl), Nat.le_trans (Nat.add_le_add_left hlo _) (Nat.le_of_ble_eq_true rfl)⟩) rfl (zwL_4 p0 u0 N0 T0 F0f G0 Hs0 Q0 P0 X0) hZ hP hD hK hN rfl hl rfl (Nat.le_of_ble_eq_true rfl) dL_law_357 ⟨by show cells + mc ≤ 600000; omega, by show slots + ms ≤ 7302249; omega⟩ hS hA (fun o H1 locs1 hP1 hD1 hS => ?_)
  obtain ⟨p1, u1, N1, T1, F1, G1, Hs1, Q1, P1, X1, X1n, e4, hC, hr1⟩ := hC5 o
  rw [e4] at hP1 hD1
  obtain ⟨fs, hfs⟩ := zwL_5 (g := g) (a := a) (ax := ax) p1 u1 N1 T1 F1 G1 Hs1 Q1 P1 X1
  refine lv_aload_n hx hb dL_law_360 rfl (lv_at hl 1 rfl) ?_
  refine lv_aload_n hx hb dL_law_361 rfl (lv_at hl 3 rfl) ?_
  refine lv_iload_n hx hb dL_law_362 rfl (lv_at hl 0 rfl) ?_
  refine lv_iconst (v := nI 1) hx hb dL_law_363 (by decide) ?_
  refine lv_iadd hx hb dL_law_364 ?_
  refine va_sld hx hb hX hbl hbA hS (law_in hi hL (k := 1) (by omega)) dL_law_365 ?_
  refine lv_aload_n hx hb dL_law_366 rfl (lv_at hl 3 rfl) ?_
  refine lv_iload_n hx hb dL_law_367 rfl (lv_at hl 0 rfl) ?_
  refine lv_iconst (v := nI 2) hx hb dL_law_368 (by decide) ?_
  refine lv_iadd hx hb dL_law_369 ?_
  refine va_sld hx hb hX hbl hbA hS (law_in hi hL (k := 2) (by omega)) dL_law_370 ?_
  refine law_call (ci := 5) (rest := [.int r]) (As := [.int (xs (nI i + nI 1).toNatClampNeg), .int (xs (nI i + nI 2).toNatClampNeg)]) ⟨hx, hb, hml, hown, hts⟩ hC (cwV 2 hts gL_law_X5_jar rfl rfl rfl (by decide +kernel) ⟨Nat.le_of_ble_eq_true rfl, Nat.le_of_ble_eq_true rfl⟩) rfl hfs hZ hP1 hD1 hK hN rfl hl rfl (Nat.le_of_ble_eq_true rfl) dL_law_371 ⟨by show cells + mc + 0 ≤ 600000; omega, by show slots + ms + 0 ≤ 7302249; omega⟩ hS hA (fun o2 H2 locs2 hP2 hD2 hS => ?_)
  refine lv_icmp_eq (tgt := 645) hx hb dL_law_374 (by decide) (fun _ => ?_) (fun z => absurd rfl z)
  exact kt H2 locs2 (cells + mc + 0) (slots + ms + 0) p1 u1 N1 T1 F1 G1 Hs1 Q1 P1 X1n (by omega) (by omega) hr1 hP2 hD2 hS
set_option maxHeartbeats 1000000 in
theorem law_spark {i kk : Nat} {p0 u0 : Nat → Nat → Nat} {N0 T0 : jm_T} {F0f G0 : jf_T} {Hs0 : jh_T} {Q0 : jd_T} {P0 : jp_T} {X0 : jx_T} (hx : p.tables.exec = Jvm.exec) (hb : c.code = cL_law) (hml : c.maxLocals = 4) (hown : s.vm.findClass RL = some m.cls) (hts : ∀ w ∈ wsL_law, w.before #[.ref b] s = true) (hX : va_X b L xs s s.heap) (hbl : b < s.heap.size) (hbA : ¬ lawA s b) (hZ : jk_Z tl tm (lawA s) s) (hK : va_K D vwCl (jk_T g) s) (hN : jk_N s) (hi : i + 4 ≤ L) (hL : L ≤ 2048) (hl : lv_has ls 4 [(3, .int (nI i)), (2, .ref (ax 0)), (1, .ref (a 0 0)), (0, .ref b)]) (hkk : kk < 900) (hr : zwR kk N0 F0f G0 Hs0 P0 X0) (hP : va_P D vwCl (zwL g a p0 u0 ax N0 T0 F0f G0 Hs0 Q0 P0 X0).flatten H) (hD : va_D (lawA s) (zwL g a p0 u0 ax N0 T0 F0f G0 Hs0 Q0 P0 X0).flatten) (hS : va_S (lawA s) s.heap H locs) (hc1 : cells + 7 ≤ 600000) (hc2 : slots + 72 ≤ 7302249)
    (kt : ∀ (H1 : Heap) (locs1 : List Loc) (cells1 slots1 : Nat) (pn un : Nat → Nat → Nat) (N T : jm_T) (F G : jf_T) (Hs : jh_T) (Q : jd_T) (P : jp_T) (X : jx_T), cells1 ≤ cells + 7 → slots1 ≤ slots + 72 → zwR (kk + 1) N F G Hs P X → va_P D vwCl (zwL g a pn un ax N T F G Hs Q P X).flatten H1 → va_D (lawA s) (zwL g a pn un ax N T F G Hs Q P X).flatten → va_S (lawA s) s.heap H1 locs1 → W p l e room_1 s m #[.ref b] below meth c H1 locs1 cells1 slots1 Qz (F0 m 645 ls [])) : W p l e room_1 s m #[.ref b] below meth c H locs cells slots Qz (F0 m 379 ls []) := by
  have hA : ∀ q, s.heap.size ≤ q → lawA s q := fun _ h => h
  obtain ⟨r, O, L4, mc, ms, hm, fr, lo, hfr, hlo, hC4, hC5⟩ := k_spark l D g tl tm a ax (xs (nI i + nI 1).toNatClampNeg) (xs (nI i + nI 2).toNatClampNeg) kk p0 u0 N0 T0 F0f G0 Hs0 Q0 P0 X0 hkk hr
  have hm1 : mc ≤ 7 ∧ ms ≤ 72 := by omega
  refine lv_aload_n hx hb dL_law_379 rfl (lv_at hl 2 rfl) ?_
  refine lv_aload_n hx hb dL_law_380 rfl (lv_at hl 3 rfl) ?_
  refine lv_iload_n hx hb dL_law_381 rfl (lv_at hl 0 rfl) ?_
  refine lv_iconst (v := nI 1) hx hb dL_law_382 (by decide) ?_
  refine lv_iadd hx hb dL_law_383 ?_
  refine va_sld hx hb hX hbl hbA hS (law_in hi hL (k := 1) (by omega)) dL_law_384 ?_
  refine lv_aload_n hx hb dL_law_385 rfl (lv_at hl 3 rfl) ?_
  refine lv_iload_n hx hb dL_law_386 rfl (lv_at hl 0 rfl) ?_
  refine lv_iconst (v := nI 2) hx hb dL_law_387 (by decide) ?_
  refine lv_iadd hx hb dL_law_388 ?_
  refine va_sld hx hb hX hbl hbA hS (law_in hi hL (k := 2) (by omega)) dL_law_389 ?_
  refine law_call (O := O) (ci := 4) (rest := []) (As := [.int (xs (nI i + nI 1).toNatClampNeg), .int (xs (nI i + nI 2).toNatClampNeg)]) ⟨hx, hb, hml, hown, hts⟩ hC4 (cwV 2 hts gL_law_X4_spark rfl rfl rfl (by decide +kernel) ⟨Nat.le_trans (Nat.add_le_add_right hfr 1) (Nat.le_of_ble_eq_true rfl), Nat.le_trans (Nat.add_le_add_left hlo _) (Nat.le_of_ble_eq_true rfl)⟩) rfl (zwL_4 p0 u0 N0 T0 F0f G0 Hs0 Q0 P0 X0) hZ hP hD hK hN rfl hl rfl (Nat.le_of_ble_eq_true rfl) dL_law_390 ⟨by show cells + mc ≤ 600000; omega, by show slots + ms ≤ 7302249; omega⟩ hS hA (fun o H1 locs1 hP1 hD1 hS => ?_)
  obtain ⟨p1, u1, N1, T1, F1, G1, Hs1, Q1, P1, X1, X1n, e4, hC, hr1⟩ := hC5 o
  rw [e4] at hP1 hD1
  obtain ⟨fs, hfs⟩ := zwL_5 (g := g) (a := a) (ax := ax) p1 u1 N1 T1 F1 G1 Hs1 Q1 P1 X1
  refine lv_aload_n hx hb dL_law_393 rfl (lv_at hl 1 rfl) ?_
  refine lv_aload_n hx hb dL_law_394 rfl (lv_at hl 3 rfl) ?_
  refine lv_iload_n hx hb dL_law_395 rfl (lv_at hl 0 rfl) ?_
  refine lv_iconst (v := nI 1) hx hb dL_law_396 (by decide) ?_
  refine lv_iadd hx hb dL_law_397 ?_
  refine va_sld hx hb hX hbl hbA hS (law_in hi hL (k := 1) (by omega)) dL_law_398 ?_
  refine lv_aload_n hx hb dL_law_399 rfl (lv_at hl 3 rfl) ?_
  refine lv_iload_n hx hb dL_law_400 rfl (lv_at hl 0 rfl) ?_
  refine lv_iconst (v := nI 2) hx hb dL_law_401 (by decide) ?_
  refine lv_iadd hx hb dL_law_402 ?_
  refine va_sld hx hb hX hbl hbA hS (law_in hi hL (k := 2) (by omega)) dL_law_403 ?_
  refine law_call (ci := 5) (rest := [.int r]) (As := [.int (xs (nI i + nI 1).toNatClampNeg), .int (xs (nI i + nI 2).toNatClampNeg)]) ⟨hx, hb, hml, hown, hts⟩ hC (cwV 2 hts gL_law_X5_spark rfl rfl rfl (by decide +kernel) ⟨Nat.le_of_ble_eq_true rfl, Nat.le_of_ble_eq_true rfl⟩) rfl hfs hZ hP1 hD1 hK hN rfl hl rfl (Nat.le_of_ble_eq_true rfl) dL_law_404 ⟨by show cells + mc + 0 ≤ 600000; omega, by show slots + ms + 0 ≤ 7302249; omega⟩ hS hA (fun o2 H2 locs2 hP2 hD2 hS => ?_)
  refine lv_icmp_eq (tgt := 645) hx hb dL_law_407 (by decide) (fun _ => ?_) (fun z => absurd rfl z)
  exact kt H2 locs2 (cells + mc + 0) (slots + ms + 0) p1 u1 N1 T1 F1 G1 Hs1 Q1 P1 X1n (by omega) (by omega) hr1 hP2 hD2 hS
set_option maxHeartbeats 1000000 in
theorem law_count {i kk : Nat} {p0 u0 : Nat → Nat → Nat} {N0 T0 : jm_T} {F0f G0 : jf_T} {Hs0 : jh_T} {Q0 : jd_T} {P0 : jp_T} {X0 : jx_T} (hx : p.tables.exec = Jvm.exec) (hb : c.code = cL_law) (hml : c.maxLocals = 4) (hown : s.vm.findClass RL = some m.cls) (hts : ∀ w ∈ wsL_law, w.before #[.ref b] s = true) (hX : va_X b L xs s s.heap) (hbl : b < s.heap.size) (hbA : ¬ lawA s b) (hZ : jk_Z tl tm (lawA s) s) (hK : va_K D vwCl (jk_T g) s) (hN : jk_N s) (hi : i + 4 ≤ L) (hL : L ≤ 2048) (hl : lv_has ls 4 [(3, .int (nI i)), (2, .ref (ax 0)), (1, .ref (a 0 0)), (0, .ref b)]) (hkk : kk < 900) (hr : zwR kk N0 F0f G0 Hs0 P0 X0) (hP : va_P D vwCl (zwL g a p0 u0 ax N0 T0 F0f G0 Hs0 Q0 P0 X0).flatten H) (hD : va_D (lawA s) (zwL g a p0 u0 ax N0 T0 F0f G0 Hs0 Q0 P0 X0).flatten) (hS : va_S (lawA s) s.heap H locs) (hc1 : cells + 7 ≤ 600000) (hc2 : slots + 72 ≤ 7302249)
    (kt : ∀ (H1 : Heap) (locs1 : List Loc) (cells1 slots1 : Nat) (pn un : Nat → Nat → Nat) (N T : jm_T) (F G : jf_T) (Hs : jh_T) (Q : jd_T) (P : jp_T) (X : jx_T), cells1 ≤ cells + 7 → slots1 ≤ slots + 72 → zwR (kk + 1) N F G Hs P X → va_P D vwCl (zwL g a pn un ax N T F G Hs Q P X).flatten H1 → va_D (lawA s) (zwL g a pn un ax N T F G Hs Q P X).flatten → va_S (lawA s) s.heap H1 locs1 → W p l e room_1 s m #[.ref b] below meth c H1 locs1 cells1 slots1 Qz (F0 m 645 ls [])) : W p l e room_1 s m #[.ref b] below meth c H locs cells slots Qz (F0 m 412 ls []) := by
  have hA : ∀ q, s.heap.size ≤ q → lawA s q := fun _ h => h
  obtain ⟨r, O, L4, mc, ms, hm, fr, lo, hfr, hlo, hC4, hC5⟩ := k_count l D g tl tm a ax (xs (nI i + nI 1).toNatClampNeg) kk p0 u0 N0 T0 F0f G0 Hs0 Q0 P0 X0 hkk hr
  have hm1 : mc ≤ 7 ∧ ms ≤ 72 := by omega
  refine lv_aload_n hx hb dL_law_412 rfl (lv_at hl 2 rfl) ?_
  refine lv_aload_n hx hb dL_law_413 rfl (lv_at hl 3 rfl) ?_
  refine lv_iload_n hx hb dL_law_414 rfl (lv_at hl 0 rfl) ?_
  refine lv_iconst (v := nI 1) hx hb dL_law_415 (by decide) ?_
  refine lv_iadd hx hb dL_law_416 ?_
  refine va_sld hx hb hX hbl hbA hS (law_in hi hL (k := 1) (by omega)) dL_law_417 ?_
  refine law_call (O := O) (ci := 4) (rest := []) (As := [.int (xs (nI i + nI 1).toNatClampNeg)]) ⟨hx, hb, hml, hown, hts⟩ hC4 (cwV 1 hts gL_law_X4_count rfl rfl rfl (by decide +kernel) ⟨Nat.le_trans (Nat.add_le_add_right hfr 1) (Nat.le_of_ble_eq_true rfl), Nat.le_trans (Nat.add_le_add_left hlo _) (Nat.le_of_ble_eq_true rfl)⟩) rfl (zwL_4 p0 u0 N0 T0 F0f G0 Hs0 Q0 P0 X0) hZ hP hD hK hN rfl hl rfl (Nat.le_of_ble_eq_true rfl) dL_law_418 ⟨by show cells + mc ≤ 600000; omega, by show slots + ms ≤ 7302249; omega⟩ hS hA (fun o H1 locs1 hP1 hD1 hS => ?_)
  obtain ⟨p1, u1, N1, T1, F1, G1, Hs1, Q1, P1, X1, X1n, e4, hC, hr1⟩ := hC5 o
  rw [e4] at hP1 hD1
  obtain ⟨fs, hfs⟩ := zwL_5 (g := g) (a := a) (ax := ax) p1 u1 N1 T1 F1 G1 Hs1 Q1 P1 X1
  refine lv_aload_n hx hb dL_law_421 rfl (lv_at hl 1 rfl) ?_
  refine lv_aload_n hx hb dL_law_422 rfl (lv_at hl 3 rfl) ?_
  refine lv_iload_n hx hb dL_law_423 rfl (lv_at hl 0 rfl) ?_
  refine lv_iconst (v := nI 1) hx hb dL_law_424 (by decide) ?_
  refine lv_iadd hx hb dL_law_425 ?_
  refine va_sld hx hb hX hbl hbA hS (law_in hi hL (k := 1) (by omega)) dL_law_426 ?_
  refine law_call (ci := 5) (rest := [.int r]) (As := [.int (xs (nI i + nI 1).toNatClampNeg)]) ⟨hx, hb, hml, hown, hts⟩ hC (cwV 1 hts gL_law_X5_count rfl rfl rfl (by decide +kernel) ⟨Nat.le_of_ble_eq_true rfl, Nat.le_of_ble_eq_true rfl⟩) rfl hfs hZ hP1 hD1 hK hN rfl hl rfl (Nat.le_of_ble_eq_true rfl) dL_law_427 ⟨by show cells + mc + 0 ≤ 600000; omega, by show slots + ms + 0 ≤ 7302249; omega⟩ hS hA (fun o2 H2 locs2 hP2 hD2 hS => ?_)
  refine lv_icmp_eq (tgt := 645) hx hb dL_law_430 (by decide) (fun _ => ?_) (fun z => absurd rfl z)
  exact kt H2 locs2 (cells + mc + 0) (slots + ms + 0) p1 u1 N1 T1 F1 G1 Hs1 Q1 P1 X1n (by omega) (by omega) hr1 hP2 hD2 hS
set_option maxHeartbeats 1000000 in
theorem law_untilSpark {i kk : Nat} {p0 u0 : Nat → Nat → Nat} {N0 T0 : jm_T} {F0f G0 : jf_T} {Hs0 : jh_T} {Q0 : jd_T} {P0 : jp_T} {X0 : jx_T} (hx : p.tables.exec = Jvm.exec) (hb : c.code = cL_law) (hml : c.maxLocals = 4) (hown : s.vm.findClass RL = some m.cls) (hts : ∀ w ∈ wsL_law, w.before #[.ref b] s = true) (hX : va_X b L xs s s.heap) (hbl : b < s.heap.size) (hbA : ¬ lawA s b) (hZ : jk_Z tl tm (lawA s) s) (hK : va_K D vwCl (jk_T g) s) (hN : jk_N s) (hi : i + 4 ≤ L) (hL : L ≤ 2048) (hl : lv_has ls 4 [(3, .int (nI i)), (2, .ref (ax 0)), (1, .ref (a 0 0)), (0, .ref b)]) (hkk : kk < 900) (hr : zwR kk N0 F0f G0 Hs0 P0 X0) (hP : va_P D vwCl (zwL g a p0 u0 ax N0 T0 F0f G0 Hs0 Q0 P0 X0).flatten H) (hD : va_D (lawA s) (zwL g a p0 u0 ax N0 T0 F0f G0 Hs0 Q0 P0 X0).flatten) (hS : va_S (lawA s) s.heap H locs) (hc1 : cells + 7 ≤ 600000) (hc2 : slots + 72 ≤ 7302249)
    (kt : ∀ (H1 : Heap) (locs1 : List Loc) (cells1 slots1 : Nat) (pn un : Nat → Nat → Nat) (N T : jm_T) (F G : jf_T) (Hs : jh_T) (Q : jd_T) (P : jp_T) (X : jx_T), cells1 ≤ cells + 7 → slots1 ≤ slots + 72 → zwR (kk + 1) N F G Hs P X → va_P D vwCl (zwL g a pn un ax N T F G Hs Q P X).flatten H1 → va_D (lawA s) (zwL g a pn un ax N T F G Hs Q P X).flatten → va_S (lawA s) s.heap H1 locs1 → W p l e room_1 s m #[.ref b] below meth c H1 locs1 cells1 slots1 Qz (F0 m 645 ls [])) : W p l e room_1 s m #[.ref b] below meth c H locs cells slots Qz (F0 m 435 ls []) := by
  have hA : ∀ q, s.heap.size ≤ q → lawA s q := fun _ h => h
  obtain ⟨r, O, L4, mc, ms, hm, fr, lo, hfr, hlo, hC4, hC5⟩ := k_until l D g tl tm a ax  kk p0 u0 N0 T0 F0f G0 Hs0 Q0 P0 X0 hkk hr
  have hm1 : mc ≤ 7 ∧ ms ≤ 72 := by omega
  refine lv_aload_n hx hb dL_law_435 rfl (lv_at hl 2 rfl) ?_
  refine law_call (O := O) (ci := 4) (rest := []) (As := []) ⟨hx, hb, hml, hown, hts⟩ hC4 (cwV 0 hts gL_law_X4_untilSpark rfl rfl rfl (by decide +kernel) ⟨Nat.le_trans (Nat.add_le_add_right hfr 1) (Nat.le_of_ble_eq_true rfl), Nat.le_trans (Nat.add_le_add_left hlo _) (Nat.le_of_ble_eq_true rfl)⟩) rfl (zwL_4 p0 u0 N0 T0 F0f G0 Hs0 Q0 P0 X0) hZ hP hD hK hN rfl hl rfl (Nat.le_of_ble_eq_true rfl) dL_law_436 ⟨by show cells + mc ≤ 600000; omega, by show slots + ms ≤ 7302249; omega⟩ hS hA (fun o H1 locs1 hP1 hD1 hS => ?_)
  obtain ⟨p1, u1, N1, T1, F1, G1, Hs1, Q1, P1, X1, X1n, e4, hC, hr1⟩ := hC5 o
  rw [e4] at hP1 hD1
  obtain ⟨fs, hfs⟩ := zwL_5 (g := g) (a := a) (ax := ax) p1 u1 N1 T1 F1 G1 Hs1 Q1 P1 X1
  refine lv_aload_n hx hb dL_law_439 rfl (lv_at hl 1 rfl) ?_
  refine law_call (ci := 5) (rest := [.int r]) (As := []) ⟨hx, hb, hml, hown, hts⟩ hC (cwV 0 hts gL_law_X5_untilSpark rfl rfl rfl (by decide +kernel) ⟨Nat.le_of_ble_eq_true rfl, Nat.le_of_ble_eq_true rfl⟩) rfl hfs hZ hP1 hD1 hK hN rfl hl rfl (Nat.le_of_ble_eq_true rfl) dL_law_440 ⟨by show cells + mc + 0 ≤ 600000; omega, by show slots + ms + 0 ≤ 7302249; omega⟩ hS hA (fun o2 H2 locs2 hP2 hD2 hS => ?_)
  refine lv_icmp_eq (tgt := 645) hx hb dL_law_443 (by decide) (fun _ => ?_) (fun z => absurd rfl z)
  exact kt H2 locs2 (cells + mc + 0) (slots + ms + 0) p1 u1 N1 T1 F1 G1 Hs1 Q1 P1 X1n (by omega) (by omega) hr1 hP2 hD2 hS
set_option maxHeartbeats 1000000 in
theorem law_ifTurned {i kk : Nat} {p0 u0 : Nat → Nat → Nat} {N0 T0 : jm_T} {F0f G0 : jf_T} {Hs0 : jh_T} {Q0 : jd_T} {P0 : jp_T} {X0 : jx_T} (hx : p.tables.exec = Jvm.exec) (hb : c.code = cL_law) (hml : c.maxLocals = 4) (hown : s.vm.findClass RL = some m.cls) (hts : ∀ w ∈ wsL_law, w.before #[.ref b] s = true) (hX : va_X b L xs s s.heap) (hbl : b < s.heap.size) (hbA : ¬ lawA s b) (hZ : jk_Z tl tm (lawA s) s) (hK : va_K D vwCl (jk_T g) s) (hN : jk_N s) (hi : i + 4 ≤ L) (hL : L ≤ 2048) (hl : lv_has ls 4 [(3, .int (nI i)), (2, .ref (ax 0)), (1, .ref (a 0 0)), (0, .ref b)]) (hkk : kk < 900) (hr : zwR kk N0 F0f G0 Hs0 P0 X0) (hP : va_P D vwCl (zwL g a p0 u0 ax N0 T0 F0f G0 Hs0 Q0 P0 X0).flatten H) (hD : va_D (lawA s) (zwL g a p0 u0 ax N0 T0 F0f G0 Hs0 Q0 P0 X0).flatten) (hS : va_S (lawA s) s.heap H locs) (hc1 : cells + 7 ≤ 600000) (hc2 : slots + 72 ≤ 7302249)
    (kt : ∀ (H1 : Heap) (locs1 : List Loc) (cells1 slots1 : Nat) (pn un : Nat → Nat → Nat) (N T : jm_T) (F G : jf_T) (Hs : jh_T) (Q : jd_T) (P : jp_T) (X : jx_T), cells1 ≤ cells + 7 → slots1 ≤ slots + 72 → zwR (kk + 1) N F G Hs P X → va_P D vwCl (zwL g a pn un ax N T F G Hs Q P X).flatten H1 → va_D (lawA s) (zwL g a pn un ax N T F G Hs Q P X).flatten → va_S (lawA s) s.heap H1 locs1 → W p l e room_1 s m #[.ref b] below meth c H1 locs1 cells1 slots1 Qz (F0 m 645 ls [])) : W p l e room_1 s m #[.ref b] below meth c H locs cells slots Qz (F0 m 448 ls []) := by
  have hA : ∀ q, s.heap.size ≤ q → lawA s q := fun _ h => h
  obtain ⟨r, O, L4, mc, ms, hm, fr, lo, hfr, hlo, hC4, hC5⟩ := k_ifT l D g tl tm a ax (xs (nI i + nI 1).toNatClampNeg) (xs (nI i + nI 2).toNatClampNeg) kk p0 u0 N0 T0 F0f G0 Hs0 Q0 P0 X0 hkk hr
  have hm1 : mc ≤ 7 ∧ ms ≤ 72 := by omega
  refine lv_aload_n hx hb dL_law_448 rfl (lv_at hl 2 rfl) ?_
  refine lv_aload_n hx hb dL_law_449 rfl (lv_at hl 3 rfl) ?_
  refine lv_iload_n hx hb dL_law_450 rfl (lv_at hl 0 rfl) ?_
  refine lv_iconst (v := nI 1) hx hb dL_law_451 (by decide) ?_
  refine lv_iadd hx hb dL_law_452 ?_
  refine va_sld hx hb hX hbl hbA hS (law_in hi hL (k := 1) (by omega)) dL_law_453 ?_
  refine lv_aload_n hx hb dL_law_454 rfl (lv_at hl 3 rfl) ?_
  refine lv_iload_n hx hb dL_law_455 rfl (lv_at hl 0 rfl) ?_
  refine lv_iconst (v := nI 2) hx hb dL_law_456 (by decide) ?_
  refine lv_iadd hx hb dL_law_457 ?_
  refine va_sld hx hb hX hbl hbA hS (law_in hi hL (k := 2) (by omega)) dL_law_458 ?_
  refine law_call (O := O) (ci := 4) (rest := []) (As := [.int (xs (nI i + nI 1).toNatClampNeg), .int (xs (nI i + nI 2).toNatClampNeg)]) ⟨hx, hb, hml, hown, hts⟩ hC4 (cwV 2 hts gL_law_X4_ifTurned rfl rfl rfl (by decide +kernel) ⟨Nat.le_trans (Nat.add_le_add_right hfr 1) (Nat.le_of_ble_eq_true rfl), Nat.le_trans (Nat.add_le_add_left hlo _) (Nat.le_of_ble_eq_true rfl)⟩) rfl (zwL_4 p0 u0 N0 T0 F0f G0 Hs0 Q0 P0 X0) hZ hP hD hK hN rfl hl rfl (Nat.le_of_ble_eq_true rfl) dL_law_459 ⟨by show cells + mc ≤ 600000; omega, by show slots + ms ≤ 7302249; omega⟩ hS hA (fun o H1 locs1 hP1 hD1 hS => ?_)
  obtain ⟨p1, u1, N1, T1, F1, G1, Hs1, Q1, P1, X1, X1n, e4, hC, hr1⟩ := hC5 o
  rw [e4] at hP1 hD1
  obtain ⟨fs, hfs⟩ := zwL_5 (g := g) (a := a) (ax := ax) p1 u1 N1 T1 F1 G1 Hs1 Q1 P1 X1
  refine lv_aload_n hx hb dL_law_462 rfl (lv_at hl 1 rfl) ?_
  refine lv_aload_n hx hb dL_law_463 rfl (lv_at hl 3 rfl) ?_
  refine lv_iload_n hx hb dL_law_464 rfl (lv_at hl 0 rfl) ?_
  refine lv_iconst (v := nI 1) hx hb dL_law_465 (by decide) ?_
  refine lv_iadd hx hb dL_law_466 ?_
  refine va_sld hx hb hX hbl hbA hS (law_in hi hL (k := 1) (by omega)) dL_law_467 ?_
  refine lv_aload_n hx hb dL_law_468 rfl (lv_at hl 3 rfl) ?_
  refine lv_iload_n hx hb dL_law_469 rfl (lv_at hl 0 rfl) ?_
  refine lv_iconst (v := nI 2) hx hb dL_law_470 (by decide) ?_
  refine lv_iadd hx hb dL_law_471 ?_
  refine va_sld hx hb hX hbl hbA hS (law_in hi hL (k := 2) (by omega)) dL_law_472 ?_
  refine law_call (ci := 5) (rest := [.int r]) (As := [.int (xs (nI i + nI 1).toNatClampNeg), .int (xs (nI i + nI 2).toNatClampNeg)]) ⟨hx, hb, hml, hown, hts⟩ hC (cwV 2 hts gL_law_X5_ifTurned rfl rfl rfl (by decide +kernel) ⟨Nat.le_of_ble_eq_true rfl, Nat.le_of_ble_eq_true rfl⟩) rfl hfs hZ hP1 hD1 hK hN rfl hl rfl (Nat.le_of_ble_eq_true rfl) dL_law_473 ⟨by show cells + mc + 0 ≤ 600000; omega, by show slots + ms + 0 ≤ 7302249; omega⟩ hS hA (fun o2 H2 locs2 hP2 hD2 hS => ?_)
  refine lv_icmp_eq (tgt := 645) hx hb dL_law_476 (by decide) (fun _ => ?_) (fun z => absurd rfl z)
  exact kt H2 locs2 (cells + mc + 0) (slots + ms + 0) p1 u1 N1 T1 F1 G1 Hs1 Q1 P1 X1n (by omega) (by omega) hr1 hP2 hD2 hS
set_option maxHeartbeats 1000000 in
theorem law_widestGap {i kk : Nat} {p0 u0 : Nat → Nat → Nat} {N0 T0 : jm_T} {F0f G0 : jf_T} {Hs0 : jh_T} {Q0 : jd_T} {P0 : jp_T} {X0 : jx_T} (hx : p.tables.exec = Jvm.exec) (hb : c.code = cL_law) (hml : c.maxLocals = 4) (hown : s.vm.findClass RL = some m.cls) (hts : ∀ w ∈ wsL_law, w.before #[.ref b] s = true) (hX : va_X b L xs s s.heap) (hbl : b < s.heap.size) (hbA : ¬ lawA s b) (hZ : jk_Z tl tm (lawA s) s) (hK : va_K D vwCl (jk_T g) s) (hN : jk_N s) (hi : i + 4 ≤ L) (hL : L ≤ 2048) (hl : lv_has ls 4 [(3, .int (nI i)), (2, .ref (ax 0)), (1, .ref (a 0 0)), (0, .ref b)]) (hkk : kk < 900) (hr : zwR kk N0 F0f G0 Hs0 P0 X0) (hP : va_P D vwCl (zwL g a p0 u0 ax N0 T0 F0f G0 Hs0 Q0 P0 X0).flatten H) (hD : va_D (lawA s) (zwL g a p0 u0 ax N0 T0 F0f G0 Hs0 Q0 P0 X0).flatten) (hS : va_S (lawA s) s.heap H locs) (hc1 : cells + 7 ≤ 600000) (hc2 : slots + 72 ≤ 7302249)
    (kt : ∀ (H1 : Heap) (locs1 : List Loc) (cells1 slots1 : Nat) (pn un : Nat → Nat → Nat) (N T : jm_T) (F G : jf_T) (Hs : jh_T) (Q : jd_T) (P : jp_T) (X : jx_T), cells1 ≤ cells + 7 → slots1 ≤ slots + 72 → zwR (kk + 1) N F G Hs P X → va_P D vwCl (zwL g a pn un ax N T F G Hs Q P X).flatten H1 → va_D (lawA s) (zwL g a pn un ax N T F G Hs Q P X).flatten → va_S (lawA s) s.heap H1 locs1 → W p l e room_1 s m #[.ref b] below meth c H1 locs1 cells1 slots1 Qz (F0 m 645 ls [])) : W p l e room_1 s m #[.ref b] below meth c H locs cells slots Qz (F0 m 481 ls []) := by
  have hA : ∀ q, s.heap.size ≤ q → lawA s q := fun _ h => h
  obtain ⟨r, O, L4, mc, ms, hm, fr, lo, hfr, hlo, hC4, hC5⟩ := k_gap l D g tl tm a ax  kk p0 u0 N0 T0 F0f G0 Hs0 Q0 P0 X0 hkk hr
  have hm1 : mc ≤ 7 ∧ ms ≤ 72 := by omega
  refine lv_aload_n hx hb dL_law_481 rfl (lv_at hl 2 rfl) ?_
  refine law_call (O := O) (ci := 4) (rest := []) (As := []) ⟨hx, hb, hml, hown, hts⟩ hC4 (cwV 0 hts gL_law_X4_widestGap rfl rfl rfl (by decide +kernel) ⟨Nat.le_trans (Nat.add_le_add_right hfr 1) (Nat.le_of_ble_eq_true rfl), Nat.le_trans (Nat.add_le_add_left hlo _) (Nat.le_of_ble_eq_true rfl)⟩) rfl (zwL_4 p0 u0 N0 T0 F0f G0 Hs0 Q0 P0 X0) hZ hP hD hK hN rfl hl rfl (Nat.le_of_ble_eq_true rfl) dL_law_482 ⟨by show cells + mc ≤ 600000; omega, by show slots + ms ≤ 7302249; omega⟩ hS hA (fun o H1 locs1 hP1 hD1 hS => ?_)
  obtain ⟨p1, u1, N1, T1, F1, G1, Hs1, Q1, P1, X1, X1n, e4, hC, hr1⟩ := hC5 o
  rw [e4] at hP1 hD1
  obtain ⟨fs, hfs⟩ := zwL_5 (g := g) (a := a) (ax := ax) p1 u1 N1 T1 F1 G1 Hs1 Q1 P1 X1
  refine lv_aload_n hx hb dL_law_485 rfl (lv_at hl 1 rfl) ?_
  refine law_call (ci := 5) (rest := [.int r]) (As := []) ⟨hx, hb, hml, hown, hts⟩ hC (cwV 0 hts gL_law_X5_widestGap rfl rfl rfl (by decide +kernel) ⟨Nat.le_of_ble_eq_true rfl, Nat.le_of_ble_eq_true rfl⟩) rfl hfs hZ hP1 hD1 hK hN rfl hl rfl (Nat.le_of_ble_eq_true rfl) dL_law_486 ⟨by show cells + mc + 0 ≤ 600000; omega, by show slots + ms + 0 ≤ 7302249; omega⟩ hS hA (fun o2 H2 locs2 hP2 hD2 hS => ?_)
  refine lv_icmp_eq (tgt := 645) hx hb dL_law_489 (by decide) (fun _ => ?_) (fun z => absurd rfl z)
  exact kt H2 locs2 (cells + mc + 0) (slots + ms + 0) p1 u1 N1 T1 F1 G1 Hs1 Q1 P1 X1n (by omega) (by omega) hr1 hP2 hD2 hS
set_option maxHeartbeats 1000000 in
theorem law_mostDamp {i kk : Nat} {p0 u0 : Nat → Nat → Nat} {N0 T0 : jm_T} {F0f G0 : jf_T} {Hs0 : jh_T} {Q0 : jd_T} {P0 : jp_T} {X0 : jx_T} (hx : p.tables.exec = Jvm.exec) (hb : c.code = cL_law) (hml : c.maxLocals = 4) (hown : s.vm.findClass RL = some m.cls) (hts : ∀ w ∈ wsL_law, w.before #[.ref b] s = true) (hX : va_X b L xs s s.heap) (hbl : b < s.heap.size) (hbA : ¬ lawA s b) (hZ : jk_Z tl tm (lawA s) s) (hK : va_K D vwCl (jk_T g) s) (hN : jk_N s) (hi : i + 4 ≤ L) (hL : L ≤ 2048) (hl : lv_has ls 4 [(3, .int (nI i)), (2, .ref (ax 0)), (1, .ref (a 0 0)), (0, .ref b)]) (hkk : kk < 900) (hr : zwR kk N0 F0f G0 Hs0 P0 X0) (hP : va_P D vwCl (zwL g a p0 u0 ax N0 T0 F0f G0 Hs0 Q0 P0 X0).flatten H) (hD : va_D (lawA s) (zwL g a p0 u0 ax N0 T0 F0f G0 Hs0 Q0 P0 X0).flatten) (hS : va_S (lawA s) s.heap H locs) (hc1 : cells + 7 ≤ 600000) (hc2 : slots + 72 ≤ 7302249)
    (kt : ∀ (H1 : Heap) (locs1 : List Loc) (cells1 slots1 : Nat) (pn un : Nat → Nat → Nat) (N T : jm_T) (F G : jf_T) (Hs : jh_T) (Q : jd_T) (P : jp_T) (X : jx_T), cells1 ≤ cells + 7 → slots1 ≤ slots + 72 → zwR (kk + 1) N F G Hs P X → va_P D vwCl (zwL g a pn un ax N T F G Hs Q P X).flatten H1 → va_D (lawA s) (zwL g a pn un ax N T F G Hs Q P X).flatten → va_S (lawA s) s.heap H1 locs1 → W p l e room_1 s m #[.ref b] below meth c H1 locs1 cells1 slots1 Qz (F0 m 645 ls [])) : W p l e room_1 s m #[.ref b] below meth c H locs cells slots Qz (F0 m 494 ls []) := by
  have hA : ∀ q, s.heap.size ≤ q → lawA s q := fun _ h => h
  obtain ⟨r, O, L4, mc, ms, hm, fr, lo, hfr, hlo, hC4, hC5⟩ := k_damp l D g tl tm a ax  kk p0 u0 N0 T0 F0f G0 Hs0 Q0 P0 X0 hkk hr
  have hm1 : mc ≤ 7 ∧ ms ≤ 72 := by omega
  refine lv_aload_n hx hb dL_law_494 rfl (lv_at hl 2 rfl) ?_
  refine law_call (O := O) (ci := 4) (rest := []) (As := []) ⟨hx, hb, hml, hown, hts⟩ hC4 (cwV 0 hts gL_law_X4_mostDamp rfl rfl rfl (by decide +kernel) ⟨Nat.le_trans (Nat.add_le_add_right hfr 1) (Nat.le_of_ble_eq_true rfl), Nat.le_trans (Nat.add_le_add_left hlo _) (Nat.le_of_ble_eq_true rfl)⟩) rfl (zwL_4 p0 u0 N0 T0 F0f G0 Hs0 Q0 P0 X0) hZ hP hD hK hN rfl hl rfl (Nat.le_of_ble_eq_true rfl) dL_law_495 ⟨by show cells + mc ≤ 600000; omega, by show slots + ms ≤ 7302249; omega⟩ hS hA (fun o H1 locs1 hP1 hD1 hS => ?_)
  obtain ⟨p1, u1, N1, T1, F1, G1, Hs1, Q1, P1, X1, X1n, e4, hC, hr1⟩ := hC5 o
  rw [e4] at hP1 hD1
  obtain ⟨fs, hfs⟩ := zwL_5 (g := g) (a := a) (ax := ax) p1 u1 N1 T1 F1 G1 Hs1 Q1 P1 X1
  refine lv_aload_n hx hb dL_law_498 rfl (lv_at hl 1 rfl) ?_
  refine law_call (ci := 5) (rest := [.int r]) (As := []) ⟨hx, hb, hml, hown, hts⟩ hC (cwV 0 hts gL_law_X5_mostDamp rfl rfl rfl (by decide +kernel) ⟨Nat.le_of_ble_eq_true rfl, Nat.le_of_ble_eq_true rfl⟩) rfl hfs hZ hP1 hD1 hK hN rfl hl rfl (Nat.le_of_ble_eq_true rfl) dL_law_499 ⟨by show cells + mc + 0 ≤ 600000; omega, by show slots + ms + 0 ≤ 7302249; omega⟩ hS hA (fun o2 H2 locs2 hP2 hD2 hS => ?_)
  refine lv_icmp_eq (tgt := 645) hx hb dL_law_502 (by decide) (fun _ => ?_) (fun z => absurd rfl z)
  exact kt H2 locs2 (cells + mc + 0) (slots + ms + 0) p1 u1 N1 T1 F1 G1 Hs1 Q1 P1 X1n (by omega) (by omega) hr1 hP2 hD2 hS
set_option maxHeartbeats 1000000 in
theorem law_put {i kk : Nat} {p0 u0 : Nat → Nat → Nat} {N0 T0 : jm_T} {F0f G0 : jf_T} {Hs0 : jh_T} {Q0 : jd_T} {P0 : jp_T} {X0 : jx_T} (hx : p.tables.exec = Jvm.exec) (hb : c.code = cL_law) (hml : c.maxLocals = 4) (hown : s.vm.findClass RL = some m.cls) (hts : ∀ w ∈ wsL_law, w.before #[.ref b] s = true) (hX : va_X b L xs s s.heap) (hbl : b < s.heap.size) (hbA : ¬ lawA s b) (hZ : jk_Z tl tm (lawA s) s) (hK : va_K D vwCl (jk_T g) s) (hN : jk_N s) (hi : i + 4 ≤ L) (hL : L ≤ 2048) (hl : lv_has ls 4 [(3, .int (nI i)), (2, .ref (ax 0)), (1, .ref (a 0 0)), (0, .ref b)]) (hkk : kk < 900) (hr : zwR kk N0 F0f G0 Hs0 P0 X0) (hP : va_P D vwCl (zwL g a p0 u0 ax N0 T0 F0f G0 Hs0 Q0 P0 X0).flatten H) (hD : va_D (lawA s) (zwL g a p0 u0 ax N0 T0 F0f G0 Hs0 Q0 P0 X0).flatten) (hS : va_S (lawA s) s.heap H locs) (hc1 : cells + 7 ≤ 600000) (hc2 : slots + 72 ≤ 7302249)
    (kt : ∀ (H1 : Heap) (locs1 : List Loc) (cells1 slots1 : Nat) (pn un : Nat → Nat → Nat) (N T : jm_T) (F G : jf_T) (Hs : jh_T) (Q : jd_T) (P : jp_T) (X : jx_T), cells1 ≤ cells + 7 → slots1 ≤ slots + 72 → zwR (kk + 1) N F G Hs P X → va_P D vwCl (zwL g a pn un ax N T F G Hs Q P X).flatten H1 → va_D (lawA s) (zwL g a pn un ax N T F G Hs Q P X).flatten → va_S (lawA s) s.heap H1 locs1 → W p l e room_1 s m #[.ref b] below meth c H1 locs1 cells1 slots1 Qz (F0 m 645 ls [])) : W p l e room_1 s m #[.ref b] below meth c H locs cells slots Qz (F0 m 507 ls []) := by
  have hA : ∀ q, s.heap.size ≤ q → lawA s q := fun _ h => h
  obtain ⟨r, O, L4, mc, ms, hm, fr, lo, hfr, hlo, hC4, hC5⟩ := k_put l D g tl tm a ax (((xs (nI i + nI 1).toNatClampNeg).toInt64 <<< ((32 : Int32).toInt64 &&& 63) ||| (xs (nI i + nI 2).toNatClampNeg).toInt64 &&& 4294967295)) kk p0 u0 N0 T0 F0f G0 Hs0 Q0 P0 X0 hkk hr
  have hm1 : mc ≤ 7 ∧ ms ≤ 72 := by omega
  refine lv_aload_n hx hb dL_law_507 rfl (lv_at hl 2 rfl) ?_
  refine lv_aload_n hx hb dL_law_508 rfl (lv_at hl 3 rfl) ?_
  refine lv_iload_n hx hb dL_law_509 rfl (lv_at hl 0 rfl) ?_
  refine lv_iconst (v := nI 1) hx hb dL_law_510 (by decide) ?_
  refine lv_iadd hx hb dL_law_511 ?_
  refine va_sld hx hb hX hbl hbA hS (law_in hi hL (k := 1) (by omega)) dL_law_512 ?_
  refine lv_i2l hx hb dL_law_513 rfl ?_
  refine lv_bipush (v := 32) hx hb dL_law_514 (by decide) ?_
  refine lv_lshl hx hb dL_law_516 rfl ?_
  refine lv_aload_n hx hb dL_law_517 rfl (lv_at hl 3 rfl) ?_
  refine lv_iload_n hx hb dL_law_518 rfl (lv_at hl 0 rfl) ?_
  refine lv_iconst (v := nI 2) hx hb dL_law_519 (by decide) ?_
  refine lv_iadd hx hb dL_law_520 ?_
  refine va_sld hx hb hX hbl hbA hS (law_in hi hL (k := 2) (by omega)) dL_law_521 ?_
  refine lv_i2l hx hb dL_law_522 rfl ?_
  refine lv_ldc2 (v := 4294967295) hx hb hown (hts (.constantLong RL 77 (4294967295)) (by decide +kernel)) dL_law_523 ?_
  refine lv_land hx hb dL_law_526 ?_
  refine lv_lor hx hb dL_law_527 ?_
  refine law_call (O := O) (ci := 4) (rest := []) (As := [.long ((xs (nI i + nI 1).toNatClampNeg).toInt64 <<< ((32 : Int32).toInt64 &&& 63) ||| (xs (nI i + nI 2).toNatClampNeg).toInt64 &&& 4294967295)]) ⟨hx, hb, hml, hown, hts⟩ hC4 (cwV 1 hts gL_law_X4_put rfl rfl rfl (by decide +kernel) ⟨Nat.le_trans (Nat.add_le_add_right hfr 1) (Nat.le_of_ble_eq_true rfl), Nat.le_trans (Nat.add_le_add_left hlo _) (Nat.le_of_ble_eq_true rfl)⟩) rfl (zwL_4 p0 u0 N0 T0 F0f G0 Hs0 Q0 P0 X0) hZ hP hD hK hN rfl hl rfl (Nat.le_of_ble_eq_true rfl) dL_law_528 ⟨by show cells + mc ≤ 600000; omega, by show slots + ms ≤ 7302249; omega⟩ hS hA (fun o H1 locs1 hP1 hD1 hS => ?_)
  obtain ⟨p1, u1, N1, T1, F1, G1, Hs1, Q1, P1, X1, X1n, e4, hC, hr1⟩ := hC5 o
  rw [e4] at hP1 hD1
  obtain ⟨fs, hfs⟩ := zwL_5 (g := g) (a := a) (ax := ax) p1 u1 N1 T1 F1 G1 Hs1 Q1 P1 X1
  refine lv_aload_n hx hb dL_law_531 rfl (lv_at hl 1 rfl) ?_
  refine lv_aload_n hx hb dL_law_532 rfl (lv_at hl 3 rfl) ?_
  refine lv_iload_n hx hb dL_law_533 rfl (lv_at hl 0 rfl) ?_
  refine lv_iconst (v := nI 1) hx hb dL_law_534 (by decide) ?_
  refine lv_iadd hx hb dL_law_535 ?_
  refine va_sld hx hb hX hbl hbA hS (law_in hi hL (k := 1) (by omega)) dL_law_536 ?_
  refine lv_i2l hx hb dL_law_537 rfl ?_
  refine lv_bipush (v := 32) hx hb dL_law_538 (by decide) ?_
  refine lv_lshl hx hb dL_law_540 rfl ?_
  refine lv_aload_n hx hb dL_law_541 rfl (lv_at hl 3 rfl) ?_
  refine lv_iload_n hx hb dL_law_542 rfl (lv_at hl 0 rfl) ?_
  refine lv_iconst (v := nI 2) hx hb dL_law_543 (by decide) ?_
  refine lv_iadd hx hb dL_law_544 ?_
  refine va_sld hx hb hX hbl hbA hS (law_in hi hL (k := 2) (by omega)) dL_law_545 ?_
  refine lv_i2l hx hb dL_law_546 rfl ?_
  refine lv_ldc2 (v := 4294967295) hx hb hown (hts (.constantLong RL 77 (4294967295)) (by decide +kernel)) dL_law_547 ?_
  refine lv_land hx hb dL_law_550 ?_
  refine lv_lor hx hb dL_law_551 ?_
  refine law_call (ci := 5) (rest := [.int r]) (As := [.long ((xs (nI i + nI 1).toNatClampNeg).toInt64 <<< ((32 : Int32).toInt64 &&& 63) ||| (xs (nI i + nI 2).toNatClampNeg).toInt64 &&& 4294967295)]) ⟨hx, hb, hml, hown, hts⟩ hC (cwV 1 hts gL_law_X5_put rfl rfl rfl (by decide +kernel) ⟨Nat.le_of_ble_eq_true rfl, Nat.le_of_ble_eq_true rfl⟩) rfl hfs hZ hP1 hD1 hK hN rfl hl rfl (Nat.le_of_ble_eq_true rfl) dL_law_552 ⟨by show cells + mc + 0 ≤ 600000; omega, by show slots + ms + 0 ≤ 7302249; omega⟩ hS hA (fun o2 H2 locs2 hP2 hD2 hS => ?_)
  refine lv_icmp_eq (tgt := 645) hx hb dL_law_555 (by decide) (fun _ => ?_) (fun z => absurd rfl z)
  exact kt H2 locs2 (cells + mc + 0) (slots + ms + 0) p1 u1 N1 T1 F1 G1 Hs1 Q1 P1 X1n (by omega) (by omega) hr1 hP2 hD2 hS
set_option maxHeartbeats 1000000 in
theorem law_wipe {i kk : Nat} {p0 u0 : Nat → Nat → Nat} {N0 T0 : jm_T} {F0f G0 : jf_T} {Hs0 : jh_T} {Q0 : jd_T} {P0 : jp_T} {X0 : jx_T} (hx : p.tables.exec = Jvm.exec) (hb : c.code = cL_law) (hml : c.maxLocals = 4) (hown : s.vm.findClass RL = some m.cls) (hts : ∀ w ∈ wsL_law, w.before #[.ref b] s = true) (hX : va_X b L xs s s.heap) (hbl : b < s.heap.size) (hbA : ¬ lawA s b) (hZ : jk_Z tl tm (lawA s) s) (hK : va_K D vwCl (jk_T g) s) (hN : jk_N s) (hi : i + 4 ≤ L) (hL : L ≤ 2048) (hl : lv_has ls 4 [(3, .int (nI i)), (2, .ref (ax 0)), (1, .ref (a 0 0)), (0, .ref b)]) (hkk : kk < 900) (hr : zwR kk N0 F0f G0 Hs0 P0 X0) (hP : va_P D vwCl (zwL g a p0 u0 ax N0 T0 F0f G0 Hs0 Q0 P0 X0).flatten H) (hD : va_D (lawA s) (zwL g a p0 u0 ax N0 T0 F0f G0 Hs0 Q0 P0 X0).flatten) (hS : va_S (lawA s) s.heap H locs) (hc1 : cells + 7 ≤ 600000) (hc2 : slots + 72 ≤ 7302249)
    (kt : ∀ (H1 : Heap) (locs1 : List Loc) (cells1 slots1 : Nat) (pn un : Nat → Nat → Nat) (N T : jm_T) (F G : jf_T) (Hs : jh_T) (Q : jd_T) (P : jp_T) (X : jx_T), cells1 ≤ cells + 7 → slots1 ≤ slots + 72 → zwR (kk + 1) N F G Hs P X → va_P D vwCl (zwL g a pn un ax N T F G Hs Q P X).flatten H1 → va_D (lawA s) (zwL g a pn un ax N T F G Hs Q P X).flatten → va_S (lawA s) s.heap H1 locs1 → W p l e room_1 s m #[.ref b] below meth c H1 locs1 cells1 slots1 Qz (F0 m 645 ls [])) : W p l e room_1 s m #[.ref b] below meth c H locs cells slots Qz (F0 m 560 ls []) := by
  have hA : ∀ q, s.heap.size ≤ q → lawA s q := fun _ h => h
  obtain ⟨r, O, L4, mc, ms, hm, fr, lo, hfr, hlo, hC4, hC5⟩ := k_wipe l D g tl tm a ax  kk p0 u0 N0 T0 F0f G0 Hs0 Q0 P0 X0 hkk hr
  have hm1 : mc ≤ 7 ∧ ms ≤ 72 := by omega
  refine lv_aload_n hx hb dL_law_560 rfl (lv_at hl 2 rfl) ?_
  refine law_call (O := O) (ci := 4) (rest := []) (As := []) ⟨hx, hb, hml, hown, hts⟩ hC4 (cwV 0 hts gL_law_X4_wipe rfl rfl rfl (by decide +kernel) ⟨Nat.le_trans (Nat.add_le_add_right hfr 1) (Nat.le_of_ble_eq_true rfl), Nat.le_trans (Nat.add_le_add_left hlo _) (Nat.le_of_ble_eq_true rfl)⟩) rfl (zwL_4 p0 u0 N0 T0 F0f G0 Hs0 Q0 P0 X0) hZ hP hD hK hN rfl hl rfl (Nat.le_of_ble_eq_true rfl) dL_law_561 ⟨by show cells + mc ≤ 600000; omega, by show slots + ms ≤ 7302249; omega⟩ hS hA (fun o H1 locs1 hP1 hD1 hS => ?_)
  obtain ⟨p1, u1, N1, T1, F1, G1, Hs1, Q1, P1, X1, X1n, e4, hC, hr1⟩ := hC5 o
  rw [e4] at hP1 hD1
  obtain ⟨fs, hfs⟩ := zwL_5 (g := g) (a := a) (ax := ax) p1 u1 N1 T1 F1 G1 Hs1 Q1 P1 X1
  refine lv_aload_n hx hb dL_law_564 rfl (lv_at hl 1 rfl) ?_
  refine law_call (ci := 5) (rest := [.int r]) (As := []) ⟨hx, hb, hml, hown, hts⟩ hC (cwV 0 hts gL_law_X5_wipe rfl rfl rfl (by decide +kernel) ⟨Nat.le_of_ble_eq_true rfl, Nat.le_of_ble_eq_true rfl⟩) rfl hfs hZ hP1 hD1 hK hN rfl hl rfl (Nat.le_of_ble_eq_true rfl) dL_law_565 ⟨by show cells + mc + 0 ≤ 600000; omega, by show slots + ms + 0 ≤ 7302249; omega⟩ hS hA (fun o2 H2 locs2 hP2 hD2 hS => ?_)
  refine lv_icmp_eq (tgt := 645) hx hb dL_law_568 (by decide) (fun _ => ?_) (fun z => absurd rfl z)
  exact kt H2 locs2 (cells + mc + 0) (slots + ms + 0) p1 u1 N1 T1 F1 G1 Hs1 Q1 P1 X1n (by omega) (by omega) hr1 hP2 hD2 hS
set_option maxHeartbeats 1000000 in
theorem law_fault {i kk : Nat} {p0 u0 : Nat → Nat → Nat} {N0 T0 : jm_T} {F0f G0 : jf_T} {Hs0 : jh_T} {Q0 : jd_T} {P0 : jp_T} {X0 : jx_T} (hx : p.tables.exec = Jvm.exec) (hb : c.code = cL_law) (hml : c.maxLocals = 4) (hown : s.vm.findClass RL = some m.cls) (hts : ∀ w ∈ wsL_law, w.before #[.ref b] s = true) (hX : va_X b L xs s s.heap) (hbl : b < s.heap.size) (hbA : ¬ lawA s b) (hZ : jk_Z tl tm (lawA s) s) (hK : va_K D vwCl (jk_T g) s) (hN : jk_N s) (hi : i + 4 ≤ L) (hL : L ≤ 2048) (hl : lv_has ls 4 [(3, .int (nI i)), (2, .ref (ax 0)), (1, .ref (a 0 0)), (0, .ref b)]) (hkk : kk < 900) (hr : zwR kk N0 F0f G0 Hs0 P0 X0) (hP : va_P D vwCl (zwL g a p0 u0 ax N0 T0 F0f G0 Hs0 Q0 P0 X0).flatten H) (hD : va_D (lawA s) (zwL g a p0 u0 ax N0 T0 F0f G0 Hs0 Q0 P0 X0).flatten) (hS : va_S (lawA s) s.heap H locs) (hc1 : cells + 7 ≤ 600000) (hc2 : slots + 72 ≤ 7302249)
    (kt : ∀ (H1 : Heap) (locs1 : List Loc) (cells1 slots1 : Nat) (pn un : Nat → Nat → Nat) (N T : jm_T) (F G : jf_T) (Hs : jh_T) (Q : jd_T) (P : jp_T) (X : jx_T), cells1 ≤ cells + 7 → slots1 ≤ slots + 72 → zwR (kk + 1) N F G Hs P X → va_P D vwCl (zwL g a pn un ax N T F G Hs Q P X).flatten H1 → va_D (lawA s) (zwL g a pn un ax N T F G Hs Q P X).flatten → va_S (lawA s) s.heap H1 locs1 → W p l e room_1 s m #[.ref b] below meth c H1 locs1 cells1 slots1 Qz (F0 m 645 ls [])) : W p l e room_1 s m #[.ref b] below meth c H locs cells slots Qz (F0 m 573 ls []) := by
  have hA : ∀ q, s.heap.size ≤ q → lawA s q := fun _ h => h
  obtain ⟨r, O, L4, mc, ms, hm, fr, lo, hfr, hlo, hC4, hC5⟩ := k_fault l D g tl tm a ax  kk p0 u0 N0 T0 F0f G0 Hs0 Q0 P0 X0 hkk hr
  have hm1 : mc ≤ 7 ∧ ms ≤ 72 := by omega
  refine lv_aload_n hx hb dL_law_573 rfl (lv_at hl 2 rfl) ?_
  refine law_call (O := O) (ci := 4) (rest := []) (As := []) ⟨hx, hb, hml, hown, hts⟩ hC4 (cwV 0 hts gL_law_X4_fault rfl rfl rfl (by decide +kernel) ⟨Nat.le_trans (Nat.add_le_add_right hfr 1) (Nat.le_of_ble_eq_true rfl), Nat.le_trans (Nat.add_le_add_left hlo _) (Nat.le_of_ble_eq_true rfl)⟩) rfl (zwL_4 p0 u0 N0 T0 F0f G0 Hs0 Q0 P0 X0) hZ hP hD hK hN rfl hl rfl (Nat.le_of_ble_eq_true rfl) dL_law_574 ⟨by show cells + mc ≤ 600000; omega, by show slots + ms ≤ 7302249; omega⟩ hS hA (fun o H1 locs1 hP1 hD1 hS => ?_)
  obtain ⟨p1, u1, N1, T1, F1, G1, Hs1, Q1, P1, X1, X1n, e4, hC, hr1⟩ := hC5 o
  rw [e4] at hP1 hD1
  obtain ⟨fs, hfs⟩ := zwL_5 (g := g) (a := a) (ax := ax) p1 u1 N1 T1 F1 G1 Hs1 Q1 P1 X1
  refine lv_aload_n hx hb dL_law_577 rfl (lv_at hl 1 rfl) ?_
  refine law_call (ci := 5) (rest := [.int r]) (As := []) ⟨hx, hb, hml, hown, hts⟩ hC (cwV 0 hts gL_law_X5_fault rfl rfl rfl (by decide +kernel) ⟨Nat.le_of_ble_eq_true rfl, Nat.le_of_ble_eq_true rfl⟩) rfl hfs hZ hP1 hD1 hK hN rfl hl rfl (Nat.le_of_ble_eq_true rfl) dL_law_578 ⟨by show cells + mc + 0 ≤ 600000; omega, by show slots + ms + 0 ≤ 7302249; omega⟩ hS hA (fun o2 H2 locs2 hP2 hD2 hS => ?_)
  refine lv_icmp_eq (tgt := 645) hx hb dL_law_581 (by decide) (fun _ => ?_) (fun z => absurd rfl z)
  exact kt H2 locs2 (cells + mc + 0) (slots + ms + 0) p1 u1 N1 T1 F1 G1 Hs1 Q1 P1 X1n (by omega) (by omega) hr1 hP2 hD2 hS
set_option maxHeartbeats 1000000 in
theorem law_undo {i kk : Nat} {p0 u0 : Nat → Nat → Nat} {N0 T0 : jm_T} {F0f G0 : jf_T} {Hs0 : jh_T} {Q0 : jd_T} {P0 : jp_T} {X0 : jx_T} (hx : p.tables.exec = Jvm.exec) (hb : c.code = cL_law) (hml : c.maxLocals = 4) (hown : s.vm.findClass RL = some m.cls) (hts : ∀ w ∈ wsL_law, w.before #[.ref b] s = true) (hX : va_X b L xs s s.heap) (hbl : b < s.heap.size) (hbA : ¬ lawA s b) (hZ : jk_Z tl tm (lawA s) s) (hK : va_K D vwCl (jk_T g) s) (hN : jk_N s) (hi : i + 4 ≤ L) (hL : L ≤ 2048) (hl : lv_has ls 4 [(3, .int (nI i)), (2, .ref (ax 0)), (1, .ref (a 0 0)), (0, .ref b)]) (hkk : kk < 900) (hr : zwR kk N0 F0f G0 Hs0 P0 X0) (hP : va_P D vwCl (zwL g a p0 u0 ax N0 T0 F0f G0 Hs0 Q0 P0 X0).flatten H) (hD : va_D (lawA s) (zwL g a p0 u0 ax N0 T0 F0f G0 Hs0 Q0 P0 X0).flatten) (hS : va_S (lawA s) s.heap H locs) (hc1 : cells + 7 ≤ 600000) (hc2 : slots + 72 ≤ 7302249)
    (kt : ∀ (H1 : Heap) (locs1 : List Loc) (cells1 slots1 : Nat) (pn un : Nat → Nat → Nat) (N T : jm_T) (F G : jf_T) (Hs : jh_T) (Q : jd_T) (P : jp_T) (X : jx_T), cells1 ≤ cells + 7 → slots1 ≤ slots + 72 → zwR (kk + 1) N F G Hs P X → va_P D vwCl (zwL g a pn un ax N T F G Hs Q P X).flatten H1 → va_D (lawA s) (zwL g a pn un ax N T F G Hs Q P X).flatten → va_S (lawA s) s.heap H1 locs1 → W p l e room_1 s m #[.ref b] below meth c H1 locs1 cells1 slots1 Qz (F0 m 645 ls [])) : W p l e room_1 s m #[.ref b] below meth c H locs cells slots Qz (F0 m 586 ls []) := by
  have hA : ∀ q, s.heap.size ≤ q → lawA s q := fun _ h => h
  obtain ⟨r, O, L4, mc, ms, hm, fr, lo, hfr, hlo, hC4, hC5⟩ := k_undo l D g tl tm a ax  kk p0 u0 N0 T0 F0f G0 Hs0 Q0 P0 X0 hkk hr
  have hm1 : mc ≤ 7 ∧ ms ≤ 72 := by omega
  refine lv_aload_n hx hb dL_law_586 rfl (lv_at hl 2 rfl) ?_
  refine law_call (O := O) (ci := 4) (rest := []) (As := []) ⟨hx, hb, hml, hown, hts⟩ hC4 (cwV 0 hts gL_law_X4_undo rfl rfl rfl (by decide +kernel) ⟨Nat.le_trans (Nat.add_le_add_right hfr 1) (Nat.le_of_ble_eq_true rfl), Nat.le_trans (Nat.add_le_add_left hlo _) (Nat.le_of_ble_eq_true rfl)⟩) rfl (zwL_4 p0 u0 N0 T0 F0f G0 Hs0 Q0 P0 X0) hZ hP hD hK hN rfl hl rfl (Nat.le_of_ble_eq_true rfl) dL_law_587 ⟨by show cells + mc ≤ 600000; omega, by show slots + ms ≤ 7302249; omega⟩ hS hA (fun o H1 locs1 hP1 hD1 hS => ?_)
  obtain ⟨p1, u1, N1, T1, F1, G1, Hs1, Q1, P1, X1, X1n, e4, hC, hr1⟩ := hC5 o
  rw [e4] at hP1 hD1
  obtain ⟨fs, hfs⟩ := zwL_5 (g := g) (a := a) (ax := ax) p1 u1 N1 T1 F1 G1 Hs1 Q1 P1 X1
  refine lv_aload_n hx hb dL_law_590 rfl (lv_at hl 1 rfl) ?_
  refine law_call (ci := 5) (rest := [.int r]) (As := []) ⟨hx, hb, hml, hown, hts⟩ hC (cwV 0 hts gL_law_X5_undo rfl rfl rfl (by decide +kernel) ⟨Nat.le_of_ble_eq_true rfl, Nat.le_of_ble_eq_true rfl⟩) rfl hfs hZ hP1 hD1 hK hN rfl hl rfl (Nat.le_of_ble_eq_true rfl) dL_law_591 ⟨by show cells + mc + 0 ≤ 600000; omega, by show slots + ms + 0 ≤ 7302249; omega⟩ hS hA (fun o2 H2 locs2 hP2 hD2 hS => ?_)
  refine lv_icmp_eq (tgt := 645) hx hb dL_law_594 (by decide) (fun _ => ?_) (fun z => absurd rfl z)
  exact kt H2 locs2 (cells + mc + 0) (slots + ms + 0) p1 u1 N1 T1 F1 G1 Hs1 Q1 P1 X1n (by omega) (by omega) hr1 hP2 hD2 hS
set_option maxHeartbeats 1000000 in
theorem law_save {i kk : Nat} {p0 u0 : Nat → Nat → Nat} {N0 T0 : jm_T} {F0f G0 : jf_T} {Hs0 : jh_T} {Q0 : jd_T} {P0 : jp_T} {X0 : jx_T} (hx : p.tables.exec = Jvm.exec) (hb : c.code = cL_law) (hml : c.maxLocals = 4) (hown : s.vm.findClass RL = some m.cls) (hts : ∀ w ∈ wsL_law, w.before #[.ref b] s = true) (hX : va_X b L xs s s.heap) (hbl : b < s.heap.size) (hbA : ¬ lawA s b) (hZ : jk_Z tl tm (lawA s) s) (hK : va_K D vwCl (jk_T g) s) (hN : jk_N s) (hi : i + 4 ≤ L) (hL : L ≤ 2048) (hl : lv_has ls 4 [(3, .int (nI i)), (2, .ref (ax 0)), (1, .ref (a 0 0)), (0, .ref b)]) (hkk : kk < 900) (hr : zwR kk N0 F0f G0 Hs0 P0 X0) (hP : va_P D vwCl (zwL g a p0 u0 ax N0 T0 F0f G0 Hs0 Q0 P0 X0).flatten H) (hD : va_D (lawA s) (zwL g a p0 u0 ax N0 T0 F0f G0 Hs0 Q0 P0 X0).flatten) (hS : va_S (lawA s) s.heap H locs) (hc1 : cells + 7 ≤ 600000) (hc2 : slots + 72 ≤ 7302249)
    (kt : ∀ (H1 : Heap) (locs1 : List Loc) (cells1 slots1 : Nat) (pn un : Nat → Nat → Nat) (N T : jm_T) (F G : jf_T) (Hs : jh_T) (Q : jd_T) (P : jp_T) (X : jx_T), cells1 ≤ cells + 7 → slots1 ≤ slots + 72 → zwR (kk + 1) N F G Hs P X → va_P D vwCl (zwL g a pn un ax N T F G Hs Q P X).flatten H1 → va_D (lawA s) (zwL g a pn un ax N T F G Hs Q P X).flatten → va_S (lawA s) s.heap H1 locs1 → W p l e room_1 s m #[.ref b] below meth c H1 locs1 cells1 slots1 Qz (F0 m 645 ls [])) : W p l e room_1 s m #[.ref b] below meth c H locs cells slots Qz (F0 m 599 ls []) := by
  have hA : ∀ q, s.heap.size ≤ q → lawA s q := fun _ h => h
  obtain ⟨r, O, L4, mc, ms, hm, fr, lo, hfr, hlo, hC4, hC5⟩ := k_save l D g tl tm a ax (xs (nI i + nI 1).toNatClampNeg) kk p0 u0 N0 T0 F0f G0 Hs0 Q0 P0 X0 hkk hr
  have hm1 : mc ≤ 7 ∧ ms ≤ 72 := by omega
  refine lv_aload_n hx hb dL_law_599 rfl (lv_at hl 2 rfl) ?_
  refine lv_aload_n hx hb dL_law_600 rfl (lv_at hl 3 rfl) ?_
  refine lv_iload_n hx hb dL_law_601 rfl (lv_at hl 0 rfl) ?_
  refine lv_iconst (v := nI 1) hx hb dL_law_602 (by decide) ?_
  refine lv_iadd hx hb dL_law_603 ?_
  refine va_sld hx hb hX hbl hbA hS (law_in hi hL (k := 1) (by omega)) dL_law_604 ?_
  refine law_call (O := O) (ci := 4) (rest := []) (As := [.int (xs (nI i + nI 1).toNatClampNeg)]) ⟨hx, hb, hml, hown, hts⟩ hC4 (cwV 1 hts gL_law_X4_save rfl rfl rfl (by decide +kernel) ⟨Nat.le_trans (Nat.add_le_add_right hfr 1) (Nat.le_of_ble_eq_true rfl), Nat.le_trans (Nat.add_le_add_left hlo _) (Nat.le_of_ble_eq_true rfl)⟩) rfl (zwL_4 p0 u0 N0 T0 F0f G0 Hs0 Q0 P0 X0) hZ hP hD hK hN rfl hl rfl (Nat.le_of_ble_eq_true rfl) dL_law_605 ⟨by show cells + mc ≤ 600000; omega, by show slots + ms ≤ 7302249; omega⟩ hS hA (fun o H1 locs1 hP1 hD1 hS => ?_)
  obtain ⟨p1, u1, N1, T1, F1, G1, Hs1, Q1, P1, X1, X1n, e4, hC, hr1⟩ := hC5 o
  rw [e4] at hP1 hD1
  obtain ⟨fs, hfs⟩ := zwL_5 (g := g) (a := a) (ax := ax) p1 u1 N1 T1 F1 G1 Hs1 Q1 P1 X1
  refine lv_aload_n hx hb dL_law_608 rfl (lv_at hl 1 rfl) ?_
  refine lv_aload_n hx hb dL_law_609 rfl (lv_at hl 3 rfl) ?_
  refine lv_iload_n hx hb dL_law_610 rfl (lv_at hl 0 rfl) ?_
  refine lv_iconst (v := nI 1) hx hb dL_law_611 (by decide) ?_
  refine lv_iadd hx hb dL_law_612 ?_
  refine va_sld hx hb hX hbl hbA hS (law_in hi hL (k := 1) (by omega)) dL_law_613 ?_
  refine law_call (ci := 5) (rest := [.int r]) (As := [.int (xs (nI i + nI 1).toNatClampNeg)]) ⟨hx, hb, hml, hown, hts⟩ hC (cwV 1 hts gL_law_X5_save rfl rfl rfl (by decide +kernel) ⟨Nat.le_of_ble_eq_true rfl, Nat.le_of_ble_eq_true rfl⟩) rfl hfs hZ hP1 hD1 hK hN rfl hl rfl (Nat.le_of_ble_eq_true rfl) dL_law_614 ⟨by show cells + mc + 0 ≤ 600000; omega, by show slots + ms + 0 ≤ 7302249; omega⟩ hS hA (fun o2 H2 locs2 hP2 hD2 hS => ?_)
  refine lv_icmp_eq (tgt := 645) hx hb dL_law_617 (by decide) (fun _ => ?_) (fun z => absurd rfl z)
  exact kt H2 locs2 (cells + mc + 0) (slots + ms + 0) p1 u1 N1 T1 F1 G1 Hs1 Q1 P1 X1n (by omega) (by omega) hr1 hP2 hD2 hS
set_option maxHeartbeats 1000000 in
theorem law_restore {i kk : Nat} {p0 u0 : Nat → Nat → Nat} {N0 T0 : jm_T} {F0f G0 : jf_T} {Hs0 : jh_T} {Q0 : jd_T} {P0 : jp_T} {X0 : jx_T} (hx : p.tables.exec = Jvm.exec) (hb : c.code = cL_law) (hml : c.maxLocals = 4) (hown : s.vm.findClass RL = some m.cls) (hts : ∀ w ∈ wsL_law, w.before #[.ref b] s = true) (hX : va_X b L xs s s.heap) (hbl : b < s.heap.size) (hbA : ¬ lawA s b) (hZ : jk_Z tl tm (lawA s) s) (hK : va_K D vwCl (jk_T g) s) (hN : jk_N s) (hi : i + 4 ≤ L) (hL : L ≤ 2048) (hl : lv_has ls 4 [(3, .int (nI i)), (2, .ref (ax 0)), (1, .ref (a 0 0)), (0, .ref b)]) (hkk : kk < 900) (hr : zwR kk N0 F0f G0 Hs0 P0 X0) (hP : va_P D vwCl (zwL g a p0 u0 ax N0 T0 F0f G0 Hs0 Q0 P0 X0).flatten H) (hD : va_D (lawA s) (zwL g a p0 u0 ax N0 T0 F0f G0 Hs0 Q0 P0 X0).flatten) (hS : va_S (lawA s) s.heap H locs) (hc1 : cells + 7 ≤ 600000) (hc2 : slots + 72 ≤ 7302249)
    (kt : ∀ (H1 : Heap) (locs1 : List Loc) (cells1 slots1 : Nat) (pn un : Nat → Nat → Nat) (N T : jm_T) (F G : jf_T) (Hs : jh_T) (Q : jd_T) (P : jp_T) (X : jx_T), cells1 ≤ cells + 7 → slots1 ≤ slots + 72 → zwR (kk + 1) N F G Hs P X → va_P D vwCl (zwL g a pn un ax N T F G Hs Q P X).flatten H1 → va_D (lawA s) (zwL g a pn un ax N T F G Hs Q P X).flatten → va_S (lawA s) s.heap H1 locs1 → W p l e room_1 s m #[.ref b] below meth c H1 locs1 cells1 slots1 Qz (F0 m 645 ls [])) : W p l e room_1 s m #[.ref b] below meth c H locs cells slots Qz (F0 m 622 ls []) := by
  have hA : ∀ q, s.heap.size ≤ q → lawA s q := fun _ h => h
  obtain ⟨r, O, L4, mc, ms, hm, fr, lo, hfr, hlo, hC4, hC5⟩ := k_restore l D g tl tm a ax (xs (nI i + nI 1).toNatClampNeg) kk p0 u0 N0 T0 F0f G0 Hs0 Q0 P0 X0 hkk hr
  have hm1 : mc ≤ 7 ∧ ms ≤ 72 := by omega
  refine lv_aload_n hx hb dL_law_622 rfl (lv_at hl 2 rfl) ?_
  refine lv_aload_n hx hb dL_law_623 rfl (lv_at hl 3 rfl) ?_
  refine lv_iload_n hx hb dL_law_624 rfl (lv_at hl 0 rfl) ?_
  refine lv_iconst (v := nI 1) hx hb dL_law_625 (by decide) ?_
  refine lv_iadd hx hb dL_law_626 ?_
  refine va_sld hx hb hX hbl hbA hS (law_in hi hL (k := 1) (by omega)) dL_law_627 ?_
  refine law_call (O := O) (ci := 4) (rest := []) (As := [.int (xs (nI i + nI 1).toNatClampNeg)]) ⟨hx, hb, hml, hown, hts⟩ hC4 (cwV 1 hts gL_law_X4_restore rfl rfl rfl (by decide +kernel) ⟨Nat.le_trans (Nat.add_le_add_right hfr 1) (Nat.le_of_ble_eq_true rfl), Nat.le_trans (Nat.add_le_add_left hlo _) (Nat.le_of_ble_eq_true rfl)⟩) rfl (zwL_4 p0 u0 N0 T0 F0f G0 Hs0 Q0 P0 X0) hZ hP hD hK hN rfl hl rfl (Nat.le_of_ble_eq_true rfl) dL_law_628 ⟨by show cells + mc ≤ 600000; omega, by show slots + ms ≤ 7302249; omega⟩ hS hA (fun o H1 locs1 hP1 hD1 hS => ?_)
  obtain ⟨p1, u1, N1, T1, F1, G1, Hs1, Q1, P1, X1, X1n, e4, hC, hr1⟩ := hC5 o
  rw [e4] at hP1 hD1
  obtain ⟨fs, hfs⟩ := zwL_5 (g := g) (a := a) (ax := ax) p1 u1 N1 T1 F1 G1 Hs1 Q1 P1 X1
  refine lv_aload_n hx hb dL_law_631 rfl (lv_at hl 1 rfl) ?_
  refine lv_aload_n hx hb dL_law_632 rfl (lv_at hl 3 rfl) ?_
  refine lv_iload_n hx hb dL_law_633 rfl (lv_at hl 0 rfl) ?_
  refine lv_iconst (v := nI 1) hx hb dL_law_634 (by decide) ?_
  refine lv_iadd hx hb dL_law_635 ?_
  refine va_sld hx hb hX hbl hbA hS (law_in hi hL (k := 1) (by omega)) dL_law_636 ?_
  refine law_call (ci := 5) (rest := [.int r]) (As := [.int (xs (nI i + nI 1).toNatClampNeg)]) ⟨hx, hb, hml, hown, hts⟩ hC (cwV 1 hts gL_law_X5_restore rfl rfl rfl (by decide +kernel) ⟨Nat.le_of_ble_eq_true rfl, Nat.le_of_ble_eq_true rfl⟩) rfl hfs hZ hP1 hD1 hK hN rfl hl rfl (Nat.le_of_ble_eq_true rfl) dL_law_637 ⟨by show cells + mc + 0 ≤ 600000; omega, by show slots + ms + 0 ≤ 7302249; omega⟩ hS hA (fun o2 H2 locs2 hP2 hD2 hS => ?_)
  refine lv_icmp_eq (tgt := 645) hx hb dL_law_640 (by decide) (fun _ => ?_) (fun z => absurd rfl z)
  exact kt H2 locs2 (cells + mc + 0) (slots + ms + 0) p1 u1 N1 T1 F1 G1 Hs1 Q1 P1 X1n (by omega) (by omega) hr1 hP2 hD2 hS
end LAW
