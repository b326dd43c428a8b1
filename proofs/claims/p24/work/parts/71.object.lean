/-! ===== what each call of an object does ===== -/
def zoL (g : jk_G) (a : Nat → Nat → Nat) (p u : Nat → Nat → Nat) (S : oS) (T : jm_T) : List va_W := [jo_X (a 0) (a 1 0) (a 2 0) (a 3 0) (a 4 0) (a 5 0) (a 6 0), jm_W g (a 1) (oN S), jm_W g (a 2) T, jh_X g (a 3) p (oF S) (oH S), js_X g (a 4) u (oG S), jd_X g (a 5) (a 6 0) (oQ S), jp_W g (a 6) (oP S), jf_X g 6 p (oF S), jf_X g 2 u (oG S)]
def WO (g : jk_G) (a : Nat → Nat → Nat) (S : oS) : va_W → Prop := fun w => ∃ p u T, w = (zoL g a p u S T).flatten
theorem WO_rec {g : jk_G} {a : Nat → Nat → Nat} {S : oS} {w : va_W} (h : WO g a S w) : ∃ fs, (a 0 0, Sum.inr (4, fs)) ∈ w := by
  obtain ⟨p, u, T, rfl⟩ := h
  exact ⟨_, List.mem_cons_self⟩
theorem until_any (N T : jm_T) : rX4_untilSpark N T = rX4_untilSpark N jm_0 := by
  unfold rX4_untilSpark
  rfl
theorem ift_any (N T : jm_T) (vt vw : Int32) : rX4_ifTurned N T vt vw = rX4_ifTurned N jm_0 vt vw := by
  unfold rX4_ifTurned
  rfl
theorem md_any (N T : jm_T) (n : Nat) : (lc_md N (n + 1) 0 T) = (lc_md N (n + 1) 0 jm_0) := by
  rw [lc_md, lc_md]
def oset (S : oS) (i v : Int32) : oS := (sX4_set_1 (oN S) (oH S) (oF S) i v, sX4_set_3 (oN S) (oH S) (oF S) i v, oG S, sX4_set_2 (oN S) (oH S) (oF S) i v, oQ S, oP S)
def otouch (S : oS) (d p x : Int32) : oS := (sX4_touch_1 (oN S) (oH S) (oF S) d p x, sX4_touch_3 (oN S) (oH S) (oF S) d p x, oG S, sX4_touch_2 (oN S) (oH S) (oF S) d p x, oQ S, oP S)
def oturn (S : oS) (n : Int32) : oS := (sX4_turn_1 (oN S) (oH S) (oF S) n, sX4_turn_3 (oN S) (oH S) (oF S) n, oG S, sX4_turn_2 (oN S) (oH S) (oF S) n, oQ S, oP S)
def odis (S : oS) : oS := (sX4_discharge_1 (oN S) (oH S) (oF S), sX4_discharge_3 (oN S) (oH S) (oF S), oG S, sX4_discharge_2 (oN S) (oH S) (oF S), oQ S, oP S)
def owipe (S : oS) (d : Int32) : oS := (sX4_wipeDisc_1 (oN S) (oH S) (oF S) d, sX4_wipeDisc_3 (oN S) (oH S) (oF S) d, oG S, sX4_wipeDisc_2 (oN S) (oH S) (oF S) d, oQ S, oP S)
def opad (S : oS) (P : jp_T) : oS := (oN S, oF S, oG S, oH S, oQ S, P)
section OBJ
variable (l : Launch) (D : va_G) (g : jk_G) (tl tm : Nat) (a : Nat → Nat → Nat) (S : oS)
theorem k_sector (vd vq : Int32) : kE l D g tl tm yX4_sector wsX4_sector 2 44 0 0 [.ref (a 0 0), .int vd, .int vq] (WO g a S) (rX4_sector (oN S) vd vq) (WO g a S) := by
  rintro w ⟨p, u, T, rfl⟩
  exact ⟨_, _, _, _, Nat.le_refl _, Nat.le_refl _, Nat.le_refl _, Nat.le_refl _, kE_C (jk_wide (L := zoL g a p u S T) (L' := fun _ : Unit => zoL g a p u S T) (jk_MC (jk_Z tl tm) (c_X4_sector l D g (a 0) (a 1) (a 2) (a 3) (a 4) (a 5) (a 6) (oN S) vd vq) rfl) jk_Z.sub (fun o => o) [0, 1] [2, 3, 4, 5, 6, 7, 8] (show (List.range 9).Perm _ by decide) (fun _ => rfl) rfl (fun _ => rfl) (fun _ => rfl)) (fun _ => ⟨p, u, T, rfl⟩)⟩
theorem k_disc (vd vq : Int32) : kE l D g tl tm yX4_disc wsX4_disc 2 45 0 0 [.ref (a 0 0), .int vd, .int vq] (WO g a S) (rX4_disc (oN S) vd vq) (WO g a S) := by
  rintro w ⟨p, u, T, rfl⟩
  exact ⟨_, _, _, _, Nat.le_refl _, Nat.le_refl _, Nat.le_refl _, Nat.le_refl _, kE_C (jk_wide (L := zoL g a p u S T) (L' := fun _ : Unit => zoL g a p u S T) (jk_MC (jk_Z tl tm) (c_X4_disc l D g (a 0) (a 1) (a 2) (a 3) (a 4) (a 5) (a 6) (oN S) vd vq) rfl) jk_Z.sub (fun o => o) [0, 1] [2, 3, 4, 5, 6, 7, 8] (show (List.range 9).Perm _ by decide) (fun _ => rfl) rfl (fun _ => rfl) (fun _ => rfl)) (fun _ => ⟨p, u, T, rfl⟩)⟩
theorem k_jar (vd vq : Int32) : kE l D g tl tm yX4_jar wsX4_jar 0 0 0 0 [.ref (a 0 0), .int vd, .int vq] (WO g a S) (rX4_jar (oN S) vd vq) (WO g a S) := by
  rintro w ⟨p, u, T, rfl⟩
  exact ⟨_, _, _, _, Nat.le_refl _, Nat.le_refl _, Nat.le_refl _, Nat.le_refl _, kE_C (jk_wide (L := zoL g a p u S T) (L' := fun _ : Unit => zoL g a p u S T) (jk_MC (jk_Z tl tm) (c_X4_jar l D g (a 0) (a 1) (a 2) (a 3) (a 4) (a 5) (a 6) (oN S) vd vq) rfl) jk_Z.sub (fun o => o) [0, 1] [2, 3, 4, 5, 6, 7, 8] (show (List.range 9).Perm _ by decide) (fun _ => rfl) rfl (fun _ => rfl) (fun _ => rfl)) (fun _ => ⟨p, u, T, rfl⟩)⟩
theorem k_spark (vd vq : Int32) : kE l D g tl tm yX4_spark wsX4_spark 2 42 0 0 [.ref (a 0 0), .int vd, .int vq] (WO g a S) (rX4_spark (oN S) vd vq) (WO g a S) := by
  rintro w ⟨p, u, T, rfl⟩
  exact ⟨_, _, _, _, Nat.le_refl _, Nat.le_refl _, Nat.le_refl _, Nat.le_refl _, kE_C (jk_wide (L := zoL g a p u S T) (L' := fun _ : Unit => zoL g a p u S T) (jk_MC (jk_Z tl tm) (c_X4_spark l D g (a 0) (a 1) (a 2) (a 3) (a 4) (a 5) (a 6) (oN S) vd vq) rfl) jk_Z.sub (fun o => o) [0, 1] [2, 3, 4, 5, 6, 7, 8] (show (List.range 9).Perm _ by decide) (fun _ => rfl) rfl (fun _ => rfl) (fun _ => rfl)) (fun _ => ⟨p, u, T, rfl⟩)⟩
theorem k_count (vw : Int32) : kE l D g tl tm yX4_count wsX4_count 3 64 0 0 [.ref (a 0 0), .int vw] (WO g a S) (rX4_count (oN S) (oH S) (oP S) vw) (WO g a S) := by
  rintro w ⟨p, u, T, rfl⟩
  exact ⟨_, _, _, _, Nat.le_refl _, Nat.le_refl _, Nat.le_refl _, Nat.le_refl _, kE_C (jk_wide (L := zoL g a p u S T) (L' := fun _ : Unit => zoL g a p u S T) (jk_MC (jk_Z tl tm) (c_X4_count l D g (a 0) (a 1) (a 2) (a 3) (a 4) (a 5) (a 6) (oN S) p (oF S) (oH S) (oP S) vw) rfl) jk_Z.sub (fun o => o) [0, 1, 3, 6] [2, 4, 5, 7, 8] (show (List.range 9).Perm _ by decide) (fun _ => rfl) rfl (fun _ => rfl) (fun _ => rfl)) (fun _ => ⟨p, u, T, rfl⟩)⟩
theorem k_until : kE l D g tl tm yX4_untilSpark wsX4_untilSpark 5 119 0 0 [.ref (a 0 0)] (WO g a S) (rX4_untilSpark (oN S) jm_0) (WO g a S) := by
  rintro w ⟨p, u, T, rfl⟩
  have c4 := c_X4_untilSpark l D g (a 0) (a 1) (a 2) (a 3) (a 4) (a 5) (a 6) (oN S) T
  rw [until_any] at c4
  generalize rX4_untilSpark (oN S) jm_0 = r4 at c4 ⊢
  generalize sX4_untilSpark_2 (oN S) T = t4 at c4
  exact ⟨_, _, _, _, Nat.le_refl _, Nat.le_refl _, Nat.le_refl _, Nat.le_refl _, kE_C (jk_wide (L := zoL g a p u S T) (L' := fun _ : Unit => zoL g a p u S t4) (jk_MC (jk_Z tl tm) c4 rfl) jk_Z.sub (fun o => o) [0, 1, 2] [3, 4, 5, 6, 7, 8] (show (List.range 9).Perm _ by decide) (fun _ => rfl) rfl (fun _ => rfl) (fun _ => rfl)) (fun _ => ⟨p, u, t4, rfl⟩)⟩
theorem k_ifT (vt vw : Int32) : kE l D g tl tm yX4_ifTurned wsX4_ifTurned 6 140 0 0 [.ref (a 0 0), .int vt, .int vw] (WO g a S) (rX4_ifTurned (oN S) jm_0 vt vw) (WO g a S) := by
  rintro w ⟨p, u, T, rfl⟩
  have c4 := c_X4_ifTurned l D g (a 0) (a 1) (a 2) (a 3) (a 4) (a 5) (a 6) (oN S) T vt vw
  rw [ift_any] at c4
  generalize rX4_ifTurned (oN S) jm_0 vt vw = r4 at c4 ⊢
  generalize sX4_ifTurned_2 (oN S) T vt vw = t4 at c4
  exact ⟨_, _, _, _, Nat.le_refl _, Nat.le_refl _, Nat.le_refl _, Nat.le_refl _, kE_C (jk_wide (L := zoL g a p u S T) (L' := fun _ : Unit => zoL g a p u S t4) (jk_MC (jk_Z tl tm) c4 rfl) jk_Z.sub (fun o => o) [0, 1, 2] [3, 4, 5, 6, 7, 8] (show (List.range 9).Perm _ by decide) (fun _ => rfl) rfl (fun _ => rfl) (fun _ => rfl)) (fun _ => ⟨p, u, t4, rfl⟩)⟩
theorem k_look {y : MethodName} {ws : List Cond} {fr lo : Nat} {av : List Value} {r4 : Int32} {t4 : jm_T} (p u : Nat → Nat → Nat) (T : jm_T) (c4 : jk_C l D g (jk_Z tl tm) y ws fr lo 0 0 av (List.flatten [jo_X (a 0) (a 1 0) (a 2 0) (a 3 0) (a 4 0) (a 5 0) (a 6 0), jm_W g (a 1) (oN S), jm_W g (a 2) T]) (some (.int r4)) (fun _ : Unit => List.flatten [jo_X (a 0) (a 1 0) (a 2 0) (a 3 0) (a 4 0) (a 5 0) (a 6 0), jm_W g (a 1) (oN S), jm_W g (a 2) t4])) : ∃ fr' lo' mc ms, fr' ≤ fr ∧ lo' ≤ lo ∧ mc ≤ 0 ∧ ms ≤ 0 ∧ jk_C l D g (jk_Z tl tm) y ws fr' lo' mc ms av (zoL g a p u S T).flatten (some (.int r4)) (fun o : {w // WO g a S w} => o.1) :=
  ⟨_, _, _, _, Nat.le_refl _, Nat.le_refl _, Nat.le_refl _, Nat.le_refl _, kE_C (jk_wide (L := zoL g a p u S T) (L' := fun _ : Unit => zoL g a p u S t4) (c4) jk_Z.sub (fun o => o) [0, 1, 2] [3, 4, 5, 6, 7, 8] (show (List.range 9).Perm _ by decide) (fun _ => rfl) rfl (fun _ => rfl) (fun _ => rfl)) (fun _ => ⟨p, u, t4, rfl⟩)⟩
theorem k_gap : kE l D g tl tm yX4_widestGap wsX4_widestGap 4 102 0 0 [.ref (a 0 0)] (WO g a S) (lc_wg (oN S)) (WO g a S) := by
  rintro w ⟨p, u, T, rfl⟩
  exact k_look l D g tl tm a S p u T (c_X4_widestGap l D g tl tm (a 0) (a 1) (a 2) (a 3) (a 4) (a 5) (a 6) (oN S) T)
theorem k_damp : kE l D g tl tm yX4_mostDamp wsX4_mostDamp 5 119 0 0 [.ref (a 0 0)] (WO g a S) (lc_md (oN S) 61 0 jm_0).1 (WO g a S) := by
  rintro w ⟨p, u, T, rfl⟩
  have c4 := c_X4_mostDamp l D g tl tm (a 0) (a 1) (a 2) (a 3) (a 4) (a 5) (a 6) (oN S) T
  rw [show lc_md (oN S) 61 0 T = lc_md (oN S) 61 0 jm_0 from md_any (oN S) T 60] at c4
  generalize lc_md (oN S) 61 0 jm_0 = z4 at c4 ⊢
  obtain ⟨r4, t4⟩ := z4
  exact ⟨_, _, _, _, Nat.le_refl _, Nat.le_refl _, Nat.le_refl _, Nat.le_refl _, kE_C (jk_wide (L := zoL g a p u S T) (L' := fun _ : Unit => zoL g a p u S t4) (c4) jk_Z.sub (fun o => o) [0, 1, 2] [3, 4, 5, 6, 7, 8] (show (List.range 9).Perm _ by decide) (fun _ => rfl) rfl (fun _ => rfl) (fun _ => rfl)) (fun _ => ⟨p, u, t4, rfl⟩)⟩
theorem k_touch (vd vq vx : Int32) : kE l D g tl tm yX4_touch wsX4_touch 4 125 7 72 [.ref (a 0 0), .int vd, .int vq, .int vx] (WO g a S) (rX4_touch (oN S) (oH S) (oF S) vd vq vx) (WO g a (otouch S vd vq vx)) := by
  rintro w ⟨p, u, T, rfl⟩
  exact ⟨_, _, _, _, Nat.le_refl _, Nat.le_refl _, Nat.le_refl _, Nat.le_refl _, kE_C (jk_wide (L := zoL g a p u S T) (L' := fun o : (Nat → Nat → Nat) => zoL g a o u (otouch S vd vq vx) T) (jk_CZ (jk_Z tl tm) (c_X4_touch l D g (a 0) (a 1) (a 2) (a 3) (a 4) (a 5) (a 6) (oN S) p (oF S) (oH S) vd vq vx)) jk_Z.sub (fun o => o) [0, 1, 3, 7] [2, 4, 5, 6, 8] (show (List.range 9).Perm _ by decide) (fun _ => rfl) rfl (fun _ => rfl) (fun _ => rfl)) (fun o => ⟨o, u, T, rfl⟩)⟩
theorem k_turn (vt : Int32) : kE l D g tl tm yX4_turn wsX4_turn 6 140 7 72 [.ref (a 0 0), .int vt] (WO g a S) (rX4_turn (oN S) (oH S) (oF S) vt) (WO g a (oturn S vt)) := by
  rintro w ⟨p, u, T, rfl⟩
  exact ⟨_, _, _, _, Nat.le_refl _, Nat.le_refl _, Nat.le_refl _, Nat.le_refl _, kE_C (jk_wide (L := zoL g a p u S T) (L' := fun o : (Nat → Nat → Nat) => zoL g a o u (oturn S vt) T) (jk_CZ (jk_Z tl tm) (c_X4_turn l D g (a 0) (a 1) (a 2) (a 3) (a 4) (a 5) (a 6) (oN S) p (oF S) (oH S) vt)) jk_Z.sub (fun o => o) [0, 1, 3, 7] [2, 4, 5, 6, 8] (show (List.range 9).Perm _ by decide) (fun _ => rfl) rfl (fun _ => rfl) (fun _ => rfl)) (fun o => ⟨o, u, T, rfl⟩)⟩
theorem k_discharge : kE l D g tl tm yX4_discharge wsX4_discharge 4 125 7 72 [.ref (a 0 0)] (WO g a S) (rX4_discharge (oN S) (oH S) (oF S)) (WO g a (odis S)) := by
  rintro w ⟨p, u, T, rfl⟩
  exact ⟨_, _, _, _, Nat.le_refl _, Nat.le_refl _, Nat.le_refl _, Nat.le_refl _, kE_C (jk_wide (L := zoL g a p u S T) (L' := fun o : (Nat → Nat → Nat) => zoL g a o u (odis S) T) (jk_CZ (jk_Z tl tm) (c_X4_discharge l D g (a 0) (a 1) (a 2) (a 3) (a 4) (a 5) (a 6) (oN S) p (oF S) (oH S))) jk_Z.sub (fun o => o) [0, 1, 3, 7] [2, 4, 5, 6, 8] (show (List.range 9).Perm _ by decide) (fun _ => rfl) rfl (fun _ => rfl) (fun _ => rfl)) (fun o => ⟨o, u, T, rfl⟩)⟩
theorem k_wipeDisc (vd : Int32) : kE l D g tl tm yX4_wipeDisc wsX4_wipeDisc 4 125 7 72 [.ref (a 0 0), .int vd] (WO g a S) (rX4_wipeDisc (oN S) (oH S) (oF S) vd) (WO g a (owipe S vd)) := by
  rintro w ⟨p, u, T, rfl⟩
  exact ⟨_, _, _, _, Nat.le_refl _, Nat.le_refl _, Nat.le_refl _, Nat.le_refl _, kE_C (jk_wide (L := zoL g a p u S T) (L' := fun o : (Nat → Nat → Nat) => zoL g a o u (owipe S vd) T) (jk_CZ (jk_Z tl tm) (c_X4_wipeDisc l D g (a 0) (a 1) (a 2) (a 3) (a 4) (a 5) (a 6) (oN S) p (oF S) (oH S) vd)) jk_Z.sub (fun o => o) [0, 1, 3, 7] [2, 4, 5, 6, 8] (show (List.range 9).Perm _ by decide) (fun _ => rfl) rfl (fun _ => rfl) (fun _ => rfl)) (fun o => ⟨o, u, T, rfl⟩)⟩
theorem k_set (vi vv : Int32) : kE l D g tl tm yX4_set wsX4_set 4 125 7 72 [.ref (a 0 0), .int vi, .int vv] (WO g a S) (rX4_set (oN S) (oH S) (oF S) vi vv) (WO g a (oset S vi vv)) := by
  rintro w ⟨p, u, T, rfl⟩
  exact ⟨_, _, _, _, Nat.le_refl _, Nat.le_refl _, Nat.le_refl _, Nat.le_refl _, kE_C (jk_wide (L := zoL g a p u S T) (L' := fun o : (Nat → Nat → Nat) => zoL g a o u (oset S vi vv) T) ((c_X4_set l D g tl tm (a 0) (a 1) (a 2) (a 3) (a 4) (a 5) (a 6) (oN S) p (oF S) (oH S) vi vv)) jk_Z.sub (fun o => o) [0, 1, 3, 7] [2, 4, 5, 6, 8] (show (List.range 9).Perm _ by decide) (fun _ => rfl) rfl (fun _ => rfl) (fun _ => rfl)) (fun o => ⟨o, u, T, rfl⟩)⟩
theorem k_wipe : kE l D g tl tm yX4_wipe wsX4_wipe 1 20 0 0 [.ref (a 0 0)] (WO g a S) (jp_ln (oP S)) (WO g a (opad S (sX3_clear (oP S)))) := by
  rintro w ⟨p, u, T, rfl⟩
  exact ⟨_, _, _, _, Nat.le_refl _, Nat.le_refl _, Nat.le_refl _, Nat.le_refl _, kE_C (jk_wide (L := zoL g a p u S T) (L' := fun _ : Unit => zoL g a p u (opad S (sX3_clear (oP S))) T) (jk_MC (jk_Z tl tm) (c_X4_wipe l D g (a 0) (a 1) (a 2) (a 3) (a 4) (a 5) (a 6) (oP S)) rfl) jk_Z.sub (fun o => o) [0, 6] [1, 2, 3, 4, 5, 7, 8] (show (List.range 9).Perm _ by decide) (fun _ => rfl) rfl (fun _ => rfl) (fun _ => rfl)) (fun _ => ⟨p, u, T, rfl⟩)⟩
theorem k_put {t c : Nat} (ht : jp_ln (oP S) = nI t) (h6 : t < 60) (h1 : 33 ≤ c) (h2 : c < 127) : kE l D g tl tm yX4_put wsX4_put 1 26 0 0 [.ref (a 0 0), .long (nI c).toInt64] (WO g a S) (nI (t + 1)) (WO g a (opad S (addc (oP S) t c))) := by
  rintro w ⟨p, u, T, rfl⟩
  obtain ⟨e1, e2⟩ := put_at ht h6 h1 h2
  have c4 := c_X4_put l D g (a 0) (a 1) (a 2) (a 3) (a 4) (a 5) (a 6) (oP S) (nI c).toInt64 t 1 ht (ch_ok c h2 h1).1 (by omega) (by omega)
  rw [e1, e2] at c4
  exact ⟨_, _, _, _, Nat.le_refl _, Nat.le_refl _, Nat.le_refl _, Nat.le_refl _, kE_C (jk_wide (L := zoL g a p u S T) (L' := fun _ : Unit => zoL g a p u (opad S (addc (oP S) t c)) T) (jk_MC (jk_Z tl tm) c4 rfl) jk_Z.sub (fun o => o) [0, 6] [1, 2, 3, 4, 5, 7, 8] (show (List.range 9).Perm _ by decide) (fun _ => rfl) rfl (fun _ => rfl) (fun _ => rfl)) (fun _ => ⟨p, u, T, rfl⟩)⟩
/-- a pad that can be done is done -/
theorem k_run (hch : jp_chs (oP S)) (M : jm_T) (hf : (lc_ff (oP S) 61 (jd_uat (oQ S) 0)).1 = -1000006) (hM : (lc_rl (oP S) 60 (oN S) (sX0_start (lc_ff (oP S) 61 (jd_uat (oQ S) 0)).2)).1 = M) (hs : jm_sp M = jm_sp (oN S)) : kE l D g tl tm yX4_run wsX4_run 7 160 7 72 [.ref (a 0 0)] (WO g a S) 0 (fun w => ∃ Q, WO g a (M, jf_u (oF S) (jh_ix (oH S)).toNatClampNeg (oN S), oG S, jh_rec (oH S), Q, sX3_clear (oP S)) w) := by
  rintro w ⟨p, u, T, rfl⟩
  have c4 := c_X4_run l D g (a 0) (a 1) (a 2) (a 3) (a 4) (a 5) (a 6) (oN S) p (oF S) (oH S) (oQ S) (oP S) hch
  generalize lc_ff (oP S) 61 (jd_uat (oQ S) 0) = z4 at c4 hf hM
  simp only [if_pos hf] at c4
  generalize lc_rl (oP S) 60 (oN S) (sX0_start z4.2) = w4 at c4 hM
  obtain ⟨M4, Q4⟩ := w4
  cases hM
  have e0 : jm_sp M4 - jm_sp (oN S) = 0 := by rw [hs, Int32.sub_self]
  rw [e0] at c4
  exact ⟨_, _, _, _, Nat.le_refl _, Nat.le_refl _, Nat.le_refl _, Nat.le_refl _, kE_C (jk_wide (L := zoL g a p u S T) (L' := fun o : Nat → Nat → Nat => zoL g a o u (M4, jf_u (oF S) (jh_ix (oH S)).toNatClampNeg (oN S), oG S, jh_rec (oH S), Q4, sX3_clear (oP S)) T) (jk_CZ (jk_Z tl tm) c4) jk_Z.sub (fun o => o) [0, 1, 3, 5, 6, 7] [2, 4, 8] (show (List.range 9).Perm _ by decide) (fun _ => rfl) rfl (fun _ => rfl) (fun _ => rfl)) (fun o => ⟨Q4, o, u, T, rfl⟩)⟩
/-- the world with one of the history's machines told apart -/
theorem zo_h (p u : Nat → Nat → Nat) (T : jm_T) {j : Nat} {Mj : jm_T} (hj : j < 6) (h : oF S j = some Mj) : (zoL g a p u S T).flatten.Perm (List.flatten [jo_X (a 0) (a 1 0) (a 2 0) (a 3 0) (a 4 0) (a 5 0) (a 6 0), jm_W g (a 1) (oN S), jm_W g (a 2) T, jh_X g (a 3) p (oF S) (oH S), js_X g (a 4) u (oG S), jd_X g (a 5) (a 6 0) (oQ S), jp_W g (a 6) (oP S), jm_W g (p j) Mj, jf_X g 6 p (jf_n (oF S) j), jf_X g 2 u (oG S)]) :=
  seg_split [jo_X (a 0) (a 1 0) (a 2 0) (a 3 0) (a 4 0) (a 5 0) (a 6 0), jm_W g (a 1) (oN S), jm_W g (a 2) T, jh_X g (a 3) p (oF S) (oH S), js_X g (a 4) u (oG S), jd_X g (a 5) (a 6 0) (oQ S), jp_W g (a 6) (oP S)] [jf_X g 2 u (oG S)] (jf_perm g p (oF S) hj h)
theorem zo_s {B C : va_W} (p u : Nat → Nat → Nat) (T : jm_T) (h : (jf_X g 2 u (oG S)).Perm (B ++ C)) : (zoL g a p u S T).flatten.Perm (List.flatten [jo_X (a 0) (a 1 0) (a 2 0) (a 3 0) (a 4 0) (a 5 0) (a 6 0), jm_W g (a 1) (oN S), jm_W g (a 2) T, jh_X g (a 3) p (oF S) (oH S), js_X g (a 4) u (oG S), jd_X g (a 5) (a 6 0) (oQ S), jp_W g (a 6) (oP S), jf_X g 6 p (oF S), B, C]) :=
  seg_split [jo_X (a 0) (a 1 0) (a 2 0) (a 3 0) (a 4 0) (a 5 0) (a 6 0), jm_W g (a 1) (oN S), jm_W g (a 2) T, jh_X g (a 3) p (oF S) (oH S), js_X g (a 4) u (oG S), jd_X g (a 5) (a 6 0) (oQ S), jp_W g (a 6) (oP S), jf_X g 6 p (oF S)] [] h
theorem k_undo (c : ¬ jh_sz (oH S) = 0) {Mj : jm_T} (f1 : oF S (jh_ib (oH S)).toNatClampNeg = some Mj) : kE l D g tl tm yX4_undo wsX4_undo 4 124 0 0 [.ref (a 0 0)] (WO g a S) (jh_sz (oH S) - 1) (WO g a (Mj, oF S, oG S, jh_usz (oH S) (jh_sz (oH S) - 1), oQ S, oP S)) := by
  rintro w ⟨p, u, T, rfl⟩
  have c4 := c_X4_undo_s l D g (a 0) (a 1) (a 2) (a 3) (a 4) (a 5) (a 6) (oN S) p (oF S) (oH S) Mj c f1
  have w := jk_wide (L := [jo_X (a 0) (a 1 0) (a 2 0) (a 3 0) (a 4 0) (a 5 0) (a 6 0), jm_W g (a 1) (oN S), jm_W g (a 2) T, jh_X g (a 3) p (oF S) (oH S), js_X g (a 4) u (oG S), jd_X g (a 5) (a 6 0) (oQ S), jp_W g (a 6) (oP S), jm_W g (p (jh_ib (oH S)).toNatClampNeg) Mj, jf_X g 6 p (jf_n (oF S) (jh_ib (oH S)).toNatClampNeg), jf_X g 2 u (oG S)]) (L' := fun _ : Unit => [jo_X (a 0) (a 1 0) (a 2 0) (a 3 0) (a 4 0) (a 5 0) (a 6 0), jm_W g (a 1) (sX4_undo_s_1 (oN S) (oH S) Mj), jm_W g (a 2) T, jh_X g (a 3) p (oF S) (sX4_undo_s_2 (oN S) (oH S) Mj), js_X g (a 4) u (oG S), jd_X g (a 5) (a 6 0) (oQ S), jp_W g (a 6) (oP S), jm_W g (p (jh_ib (oH S)).toNatClampNeg) Mj, jf_X g 6 p (jf_n (oF S) (jh_ib (oH S)).toNatClampNeg), jf_X g 2 u (oG S)]) (jk_MC (jk_Z tl tm) c4 rfl) jk_Z.sub (fun o => o) [0, 1, 3, 7] [2, 4, 5, 6, 8, 9] (show (List.range 10).Perm _ by decide) (fun _ => rfl) rfl (fun _ => rfl) (fun _ => rfl)
  exact ⟨_, _, _, _, Nat.le_refl _, Nat.le_refl _, Nat.le_refl _, Nat.le_refl _, kE_C (w1 := fun _ : Unit => (zoL g a p u (Mj, oF S, oG S, jh_usz (oH S) (jh_sz (oH S) - 1), oQ S, oP S) T).flatten) (jk_reord w jk_Z.sub (zo_h g a S p u T (jh_ib_lt (oH S)) f1) (fun _ => zo_h g a (Mj, oF S, oG S, jh_usz (oH S) (jh_sz (oH S) - 1), oQ S, oP S) p u T (jh_ib_lt (oH S)) f1)) (fun _ => ⟨p, u, T, rfl⟩)⟩
theorem k_save {v : Nat} (hv : v < 2) : kE l D g tl tm yX4_save wsX4_save 3 102 7 72 [.ref (a 0 0), .int (nI v)] (WO g a S) (jm_tu (oN S)) (WO g a (osv S v)) := by
  rintro w ⟨p, u, T, rfl⟩
  have ec : (nI v).toNatClampNeg = v := jk_cl (by omega)
  obtain ⟨v0, v2⟩ := slot_i hv
  cases hG : oG S v with
  | none =>
    have c4 := c_X4_save_n l D g (a 0) (a 1) (a 2) (a 3) (a 4) (a 5) (a 6) (oN S) u (oG S) (nI v) v0 v2 (by rw [ec]; exact hG)
    rw [ec] at c4
    have w := jk_wide (L := [jo_X (a 0) (a 1 0) (a 2 0) (a 3 0) (a 4 0) (a 5 0) (a 6 0), jm_W g (a 1) (oN S), jm_W g (a 2) T, jh_X g (a 3) p (oF S) (oH S), js_X g (a 4) u (oG S), jd_X g (a 5) (a 6 0) (oQ S), jp_W g (a 6) (oP S), jf_X g 6 p (oF S), [], jf_X g 2 u (oG S)]) (L' := fun o : Nat → Nat => [jo_X (a 0) (a 1 0) (a 2 0) (a 3 0) (a 4 0) (a 5 0) (a 6 0), jm_W g (a 1) (oN S), jm_W g (a 2) T, jh_X g (a 3) p (oF S) (oH S), js_X g (a 4) (ja_u u v o) (jf_u (oG S) v (oN S)), jd_X g (a 5) (a 6 0) (oQ S), jp_W g (a 6) (oP S), jf_X g 6 p (oF S), jm_W g o (oN S), jf_X g 2 u (oG S)]) (jk_CZ (jk_Z tl tm) c4) jk_Z.sub (fun o => o) [0, 1, 4, 8] [2, 3, 5, 6, 7, 9] (show (List.range 10).Perm _ by decide) (fun _ => rfl) rfl (fun _ => rfl) (fun _ => rfl)
    have pm : ∀ o : Nat → Nat, (jf_X g 2 (ja_u u v o) (jf_u (oG S) v (oN S))).Perm (jm_W g o (oN S) ++ jf_X g 2 u (oG S)) := by
      intro o
      have e := jf_permU g (ja_u u v o) (oG S) (oN S) hv
      rw [ja_uj, jf_adn, jf_none hG] at e
      exact e
    exact ⟨_, _, _, _, Nat.le_refl _, Nat.le_refl _, Nat.le_refl _, Nat.le_refl _, kE_C (w1 := fun o : Nat → Nat => (zoL g a p (ja_u u v o) (osv S v) T).flatten) (jk_reord w jk_Z.sub (zo_s g a S p u T (List.Perm.refl _)) (fun o => zo_s g a (osv S v) p (ja_u u v o) T (pm o))) (fun o => ⟨p, ja_u u v o, T, rfl⟩)⟩
  | some Mj =>
    have c4 := c_X4_save_s l D g (a 0) (a 1) (a 2) (a 3) (a 4) (a 5) (a 6) (oN S) u (oG S) Mj (nI v) v0 v2 (by rw [ec]; exact hG)
    rw [ec] at c4
    have w := jk_wide (L := [jo_X (a 0) (a 1 0) (a 2 0) (a 3 0) (a 4 0) (a 5 0) (a 6 0), jm_W g (a 1) (oN S), jm_W g (a 2) T, jh_X g (a 3) p (oF S) (oH S), js_X g (a 4) u (oG S), jd_X g (a 5) (a 6 0) (oQ S), jp_W g (a 6) (oP S), jf_X g 6 p (oF S), jm_W g (u v) Mj, jf_X g 2 u (jf_n (oG S) v)]) (L' := fun _ : Unit => [jo_X (a 0) (a 1 0) (a 2 0) (a 3 0) (a 4 0) (a 5 0) (a 6 0), jm_W g (a 1) (oN S), jm_W g (a 2) T, jh_X g (a 3) p (oF S) (oH S), js_X g (a 4) u (oG S), jd_X g (a 5) (a 6 0) (oQ S), jp_W g (a 6) (oP S), jf_X g 6 p (oF S), jm_W g (u v) (oN S), jf_X g 2 u (jf_n (oG S) v)]) (jk_MC (jk_Z tl tm) c4 rfl) jk_Z.sub (fun o => o) [0, 1, 4, 8] [2, 3, 5, 6, 7, 9] (show (List.range 10).Perm _ by decide) (fun _ => rfl) rfl (fun _ => rfl) (fun _ => rfl)
    have ej : js_X g (a 4) u (jf_u (oG S) v (oN S)) = js_X g (a 4) u (oG S) := by
      unfold js_X
      rw [jq_same u (oG S) (oN S) hG]
    rw [← ej] at w
    have z := zo_s g a (osv S v) p u T (jf_permU g u (oG S) (oN S) hv)
    have z0 := zo_s g a S p u T (jf_perm g u (oG S) hv hG)
    rw [← ej] at z0
    exact ⟨_, _, 0, 0, Nat.le_refl _, Nat.le_refl _, by omega, by omega, kE_C (w1 := fun _ : Unit => (zoL g a p u (osv S v) T).flatten) (jk_reord w jk_Z.sub z0 (fun _ => z)) (fun _ => ⟨p, u, T, rfl⟩)⟩
theorem k_restN {v : Nat} (hv : v < 2) (hG : oG S v = none) : kE l D g tl tm yX4_restore wsX4_restore 4 125 7 72 [.ref (a 0 0), .int (nI v)] (WO g a S) (-1000005) (WO g a S) := by
  rintro w ⟨p, u, T, rfl⟩
  have ec : (nI v).toNatClampNeg = v := jk_cl (by omega)
  obtain ⟨v0, v2⟩ := slot_i hv
  exact ⟨0, 0, 0, 0, by omega, by omega, by omega, by omega, kE_C (jk_wide (L := zoL g a p u S T) (L' := fun _ : Unit => zoL g a p u S T) (jk_MC (jk_Z tl tm) (c_X4_restore_n l D g (a 0) (a 1) (a 2) (a 3) (a 4) (a 5) (a 6) u (oG S) (nI v) v0 v2 (by rw [ec]; exact hG)) rfl) jk_Z.sub (fun o => o) [0, 4] [1, 2, 3, 5, 6, 7, 8] (show (List.range 9).Perm _ by decide) (fun _ => rfl) rfl (fun _ => rfl) (fun _ => rfl)) (fun _ => ⟨p, u, T, rfl⟩)⟩
theorem k_restS {v : Nat} (hv : v < 2) {Mj : jm_T} (hG : oG S v = some Mj) : kE l D g tl tm yX4_restore wsX4_restore 4 125 7 72 [.ref (a 0 0), .int (nI v)] (WO g a S) (jm_tu Mj) (WO g a (orc S Mj)) := by
  rintro w ⟨p, u, T, rfl⟩
  have ec : (nI v).toNatClampNeg = v := jk_cl (by omega)
  obtain ⟨v0, v2⟩ := slot_i hv
  have c4 := c_X4_restore_s l D g (a 0) (a 1) (a 2) (a 3) (a 4) (a 5) (a 6) (oN S) p (oF S) (oH S) u (oG S) Mj (nI v) v0 v2 (by rw [ec]; exact hG)
  rw [ec] at c4
  have w := jk_wide (L := [jo_X (a 0) (a 1 0) (a 2 0) (a 3 0) (a 4 0) (a 5 0) (a 6 0), jm_W g (a 1) (oN S), jm_W g (a 2) T, jh_X g (a 3) p (oF S) (oH S), js_X g (a 4) u (oG S), jd_X g (a 5) (a 6 0) (oQ S), jp_W g (a 6) (oP S), jf_X g 6 p (oF S), jm_W g (u v) Mj, jf_X g 2 u (jf_n (oG S) v)]) (L' := fun o : Nat → Nat → Nat => [jo_X (a 0) (a 1 0) (a 2 0) (a 3 0) (a 4 0) (a 5 0) (a 6 0), jm_W g (a 1) Mj, jm_W g (a 2) T, jh_X g (a 3) o (jf_u (oF S) (jh_ix (oH S)).toNatClampNeg (oN S)) (jh_rec (oH S)), js_X g (a 4) u (oG S), jd_X g (a 5) (a 6 0) (oQ S), jp_W g (a 6) (oP S), jf_X g 6 o (jf_u (oF S) (jh_ix (oH S)).toNatClampNeg (oN S)), jm_W g (u v) Mj, jf_X g 2 u (jf_n (oG S) v)]) (jk_CZ (jk_Z tl tm) c4) jk_Z.sub (fun o => o) [0, 1, 3, 4, 8, 7] [2, 5, 6, 9] (show (List.range 10).Perm _ by decide) (fun _ => rfl) rfl (fun _ => rfl) (fun _ => rfl)
  exact ⟨_, _, _, _, Nat.le_refl _, Nat.le_refl _, Nat.le_refl _, Nat.le_refl _, kE_C (w1 := fun o : Nat → Nat → Nat => (zoL g a o u (orc S Mj) T).flatten) (jk_reord w jk_Z.sub (zo_s g a S p u T (jf_perm g u (oG S) hv hG)) (fun o => zo_s g a (orc S Mj) o u T (jf_perm g u (oG S) hv hG))) (fun o => ⟨o, u, T, rfl⟩)⟩
end OBJ
