section
-- ===== PART A: goes FIRST, ahead of the names: the tables' words, and 'selects' of the private methods out of them =====
/-- a private method of a class that the tables say can be made, by its rows of tables_1 -/
def lw_okq (q : MethodName × Nat) : Prop := (q.1.cls ≠ "java/lang/invoke/MethodHandle" ∧ q.1.cls ≠ "java/lang/invoke/VarHandle") ∧ Cond.instantiable q.1.cls q.2 ∈ tables_1 ∧ Cond.privateMethod q.1 ∈ tables_1 ∧ Cond.instanceMethod q.1 ∈ tables_1
theorem lw_p0 : lw_okq (⟨"InfluenceJars$Machine", "join", "(III)V"⟩, 13) := ⟨⟨by decide +kernel, by decide +kernel⟩, List.mem_of_getElem? (i := 19) (by decide +kernel), List.mem_of_getElem? (i := 244) (by decide +kernel), List.mem_of_getElem? (i := 245) (by decide +kernel)⟩
theorem lw_p1 : lw_okq (⟨"InfluenceJars$Machine", "gather", "(II)V"⟩, 13) := ⟨⟨by decide +kernel, by decide +kernel⟩, List.mem_of_getElem? (i := 19) (by decide +kernel), List.mem_of_getElem? (i := 253) (by decide +kernel), List.mem_of_getElem? (i := 254) (by decide +kernel)⟩
theorem lw_p2 : lw_okq (⟨"InfluenceJars$Machine", "leakFromSectors", "()V"⟩, 13) := ⟨⟨by decide +kernel, by decide +kernel⟩, List.mem_of_getElem? (i := 19) (by decide +kernel), List.mem_of_getElem? (i := 257) (by decide +kernel), List.mem_of_getElem? (i := 258) (by decide +kernel)⟩
theorem lw_p3 : lw_okq (⟨"InfluenceJars$Machine", "leakFromJar", "(I)V"⟩, 13) := ⟨⟨by decide +kernel, by decide +kernel⟩, List.mem_of_getElem? (i := 19) (by decide +kernel), List.mem_of_getElem? (i := 261) (by decide +kernel), List.mem_of_getElem? (i := 262) (by decide +kernel)⟩
theorem lw_p4 : lw_okq (⟨"InfluenceJars$Machine", "isSparkDue", "()Z"⟩, 13) := ⟨⟨by decide +kernel, by decide +kernel⟩, List.mem_of_getElem? (i := 19) (by decide +kernel), List.mem_of_getElem? (i := 265) (by decide +kernel), List.mem_of_getElem? (i := 266) (by decide +kernel)⟩
theorem lw_p5 : lw_okq (⟨"InfluenceJars$Machine", "letJump", "()V"⟩, 13) := ⟨⟨by decide +kernel, by decide +kernel⟩, List.mem_of_getElem? (i := 19) (by decide +kernel), List.mem_of_getElem? (i := 273) (by decide +kernel), List.mem_of_getElem? (i := 274) (by decide +kernel)⟩
theorem lw_p6 : lw_okq (⟨"InfluenceJars$Machine", "noteSign", "()V"⟩, 13) := ⟨⟨by decide +kernel, by decide +kernel⟩, List.mem_of_getElem? (i := 19) (by decide +kernel), List.mem_of_getElem? (i := 280) (by decide +kernel), List.mem_of_getElem? (i := 281) (by decide +kernel)⟩
theorem lw_p7 : lw_okq (⟨"InfluenceJars$DeedReader", "readNumber", "(II)I"⟩, 6) := ⟨⟨by decide +kernel, by decide +kernel⟩, List.mem_of_getElem? (i := 97) (by decide +kernel), List.mem_of_getElem? (i := 342) (by decide +kernel), List.mem_of_getElem? (i := 343) (by decide +kernel)⟩
theorem lw_p8 : lw_okq (⟨"InfluenceJars$DeedReader", "digitAt", "(I)I"⟩, 6) := ⟨⟨by decide +kernel, by decide +kernel⟩, List.mem_of_getElem? (i := 97) (by decide +kernel), List.mem_of_getElem? (i := 346) (by decide +kernel), List.mem_of_getElem? (i := 347) (by decide +kernel)⟩
theorem lw_p9 : lw_okq (⟨"InfluenceJars$DeedReader", "readSector", "()Z"⟩, 6) := ⟨⟨by decide +kernel, by decide +kernel⟩, List.mem_of_getElem? (i := 97) (by decide +kernel), List.mem_of_getElem? (i := 350) (by decide +kernel), List.mem_of_getElem? (i := 351) (by decide +kernel)⟩
theorem lw_p10 : lw_okq (⟨"InfluenceJars$DeedReader", "readCharge", "()Z"⟩, 6) := ⟨⟨by decide +kernel, by decide +kernel⟩, List.mem_of_getElem? (i := 97) (by decide +kernel), List.mem_of_getElem? (i := 354) (by decide +kernel), List.mem_of_getElem? (i := 355) (by decide +kernel)⟩
theorem lw_p11 : lw_okq (⟨"InfluenceJars", "doReadDeed", "()V"⟩, 6) := ⟨⟨by decide +kernel, by decide +kernel⟩, List.mem_of_getElem? (i := 11) (by decide +kernel), List.mem_of_getElem? (i := 363) (by decide +kernel), List.mem_of_getElem? (i := 364) (by decide +kernel)⟩
theorem lw_p12 : lw_okq (⟨"InfluenceJarsModel", "isSetting", "(II)Z"⟩, 13) := ⟨⟨by decide +kernel, by decide +kernel⟩, List.mem_of_getElem? (i := 474) (by decide +kernel), List.mem_of_getElem? (i := 524) (by decide +kernel), List.mem_of_getElem? (i := 525) (by decide +kernel)⟩
theorem lw_p13 : lw_okq (⟨"InfluenceJarsModel", "changes", "()V"⟩, 13) := ⟨⟨by decide +kernel, by decide +kernel⟩, List.mem_of_getElem? (i := 474) (by decide +kernel), List.mem_of_getElem? (i := 538) (by decide +kernel), List.mem_of_getElem? (i := 539) (by decide +kernel)⟩
theorem lw_p14 : lw_okq (⟨"InfluenceJarsModel", "touches", "(III)V"⟩, 13) := ⟨⟨by decide +kernel, by decide +kernel⟩, List.mem_of_getElem? (i := 474) (by decide +kernel), List.mem_of_getElem? (i := 559) (by decide +kernel), List.mem_of_getElem? (i := 560) (by decide +kernel)⟩
theorem lw_p15 : lw_okq (⟨"InfluenceJarsModel", "turned", "(I)I"⟩, 13) := ⟨⟨by decide +kernel, by decide +kernel⟩, List.mem_of_getElem? (i := 474) (by decide +kernel), List.mem_of_getElem? (i := 569) (by decide +kernel), List.mem_of_getElem? (i := 570) (by decide +kernel)⟩
def lw_privs_1 : List (MethodName × Nat) := [(⟨"InfluenceJars$Machine", "join", "(III)V"⟩, 13), (⟨"InfluenceJars$Machine", "gather", "(II)V"⟩, 13), (⟨"InfluenceJars$Machine", "leakFromSectors", "()V"⟩, 13), (⟨"InfluenceJars$Machine", "leakFromJar", "(I)V"⟩, 13), (⟨"InfluenceJars$Machine", "isSparkDue", "()Z"⟩, 13), (⟨"InfluenceJars$Machine", "letJump", "()V"⟩, 13), (⟨"InfluenceJars$Machine", "noteSign", "()V"⟩, 13), (⟨"InfluenceJars$DeedReader", "readNumber", "(II)I"⟩, 6), (⟨"InfluenceJars$DeedReader", "digitAt", "(I)I"⟩, 6), (⟨"InfluenceJars$DeedReader", "readSector", "()Z"⟩, 6), (⟨"InfluenceJars$DeedReader", "readCharge", "()Z"⟩, 6), (⟨"InfluenceJars", "doReadDeed", "()V"⟩, 6), (⟨"InfluenceJarsModel", "isSetting", "(II)Z"⟩, 13), (⟨"InfluenceJarsModel", "changes", "()V"⟩, 13), (⟨"InfluenceJarsModel", "touches", "(III)V"⟩, 13), (⟨"InfluenceJarsModel", "turned", "(I)I"⟩, 13)]
theorem lw_r1 : ∀ q ∈ lw_privs_1, lw_okq q := List.forall_mem_cons.mpr ⟨lw_p0, List.forall_mem_cons.mpr ⟨lw_p1, List.forall_mem_cons.mpr ⟨lw_p2, List.forall_mem_cons.mpr ⟨lw_p3, List.forall_mem_cons.mpr ⟨lw_p4, List.forall_mem_cons.mpr ⟨lw_p5, List.forall_mem_cons.mpr ⟨lw_p6, List.forall_mem_cons.mpr ⟨lw_p7, List.forall_mem_cons.mpr ⟨lw_p8, List.forall_mem_cons.mpr ⟨lw_p9, List.forall_mem_cons.mpr ⟨lw_p10, List.forall_mem_cons.mpr ⟨lw_p11, List.forall_mem_cons.mpr ⟨lw_p12, List.forall_mem_cons.mpr ⟨lw_p13, List.forall_mem_cons.mpr ⟨lw_p14, List.forall_mem_cons.mpr ⟨lw_p15, fun _ h => absurd h List.not_mem_nil⟩⟩⟩⟩⟩⟩⟩⟩⟩⟩⟩⟩⟩⟩⟩⟩
theorem lw_p16 : lw_okq (⟨"InfluenceJarsModel", "turns", "()V"⟩, 13) := ⟨⟨by decide +kernel, by decide +kernel⟩, List.mem_of_getElem? (i := 474) (by decide +kernel), List.mem_of_getElem? (i := 573) (by decide +kernel), List.mem_of_getElem? (i := 574) (by decide +kernel)⟩
theorem lw_p17 : lw_okq (⟨"InfluenceJarsModel", "charges", "()V"⟩, 13) := ⟨⟨by decide +kernel, by decide +kernel⟩, List.mem_of_getElem? (i := 474) (by decide +kernel), List.mem_of_getElem? (i := 577) (by decide +kernel), List.mem_of_getElem? (i := 578) (by decide +kernel)⟩
theorem lw_p18 : lw_okq (⟨"InfluenceJarsModel", "discsTurn", "()V"⟩, 13) := ⟨⟨by decide +kernel, by decide +kernel⟩, List.mem_of_getElem? (i := 474) (by decide +kernel), List.mem_of_getElem? (i := 581) (by decide +kernel), List.mem_of_getElem? (i := 582) (by decide +kernel)⟩
theorem lw_p19 : lw_okq (⟨"InfluenceJarsModel", "joins", "(III)V"⟩, 13) := ⟨⟨by decide +kernel, by decide +kernel⟩, List.mem_of_getElem? (i := 474) (by decide +kernel), List.mem_of_getElem? (i := 585) (by decide +kernel), List.mem_of_getElem? (i := 586) (by decide +kernel)⟩
theorem lw_p20 : lw_okq (⟨"InfluenceJarsModel", "takes", "(II)V"⟩, 13) := ⟨⟨by decide +kernel, by decide +kernel⟩, List.mem_of_getElem? (i := 474) (by decide +kernel), List.mem_of_getElem? (i := 592) (by decide +kernel), List.mem_of_getElem? (i := 593) (by decide +kernel)⟩
theorem lw_p21 : lw_okq (⟨"InfluenceJarsModel", "leaks", "()V"⟩, 13) := ⟨⟨by decide +kernel, by decide +kernel⟩, List.mem_of_getElem? (i := 474) (by decide +kernel), List.mem_of_getElem? (i := 596) (by decide +kernel), List.mem_of_getElem? (i := 597) (by decide +kernel)⟩
theorem lw_p22 : lw_okq (⟨"InfluenceJarsModel", "sparks", "()V"⟩, 13) := ⟨⟨by decide +kernel, by decide +kernel⟩, List.mem_of_getElem? (i := 474) (by decide +kernel), List.mem_of_getElem? (i := 600) (by decide +kernel), List.mem_of_getElem? (i := 601) (by decide +kernel)⟩
theorem lw_p23 : lw_okq (⟨"InfluenceJarsModel", "difference", "()I"⟩, 13) := ⟨⟨by decide +kernel, by decide +kernel⟩, List.mem_of_getElem? (i := 474) (by decide +kernel), List.mem_of_getElem? (i := 604) (by decide +kernel), List.mem_of_getElem? (i := 605) (by decide +kernel)⟩
theorem lw_p24 : lw_okq (⟨"InfluenceJarsModel", "logs", "()V"⟩, 13) := ⟨⟨by decide +kernel, by decide +kernel⟩, List.mem_of_getElem? (i := 474) (by decide +kernel), List.mem_of_getElem? (i := 608) (by decide +kernel), List.mem_of_getElem? (i := 609) (by decide +kernel)⟩
theorem lw_p25 : lw_okq (⟨"InfluenceJarsModel", "sign", "()I"⟩, 13) := ⟨⟨by decide +kernel, by decide +kernel⟩, List.mem_of_getElem? (i := 474) (by decide +kernel), List.mem_of_getElem? (i := 612) (by decide +kernel), List.mem_of_getElem? (i := 613) (by decide +kernel)⟩
theorem lw_p26 : lw_okq (⟨"InfluenceJarsModel", "discharges", "()I"⟩, 13) := ⟨⟨by decide +kernel, by decide +kernel⟩, List.mem_of_getElem? (i := 474) (by decide +kernel), List.mem_of_getElem? (i := 620) (by decide +kernel), List.mem_of_getElem? (i := 621) (by decide +kernel)⟩
theorem lw_p27 : lw_okq (⟨"InfluenceJarsModel", "allCharge", "()I"⟩, 13) := ⟨⟨by decide +kernel, by decide +kernel⟩, List.mem_of_getElem? (i := 474) (by decide +kernel), List.mem_of_getElem? (i := 650) (by decide +kernel), List.mem_of_getElem? (i := 651) (by decide +kernel)⟩
theorem lw_p28 : lw_okq (⟨"InfluenceJarsModel", "nextSpark", "(I)I"⟩, 13) := ⟨⟨by decide +kernel, by decide +kernel⟩, List.mem_of_getElem? (i := 474) (by decide +kernel), List.mem_of_getElem? (i := 659) (by decide +kernel), List.mem_of_getElem? (i := 660) (by decide +kernel)⟩
theorem lw_p29 : lw_okq (⟨"InfluenceJarsModel", "keeps", "()V"⟩, 13) := ⟨⟨by decide +kernel, by decide +kernel⟩, List.mem_of_getElem? (i := 474) (by decide +kernel), List.mem_of_getElem? (i := 663) (by decide +kernel), List.mem_of_getElem? (i := 664) (by decide +kernel)⟩
theorem lw_p30 : lw_okq (⟨"InfluenceJarsModel", "comesBack", "()V"⟩, 13) := ⟨⟨by decide +kernel, by decide +kernel⟩, List.mem_of_getElem? (i := 474) (by decide +kernel), List.mem_of_getElem? (i := 667) (by decide +kernel), List.mem_of_getElem? (i := 668) (by decide +kernel)⟩
theorem lw_p31 : lw_okq (⟨"InfluenceJarsModel", "readsDeed", "()Z"⟩, 13) := ⟨⟨by decide +kernel, by decide +kernel⟩, List.mem_of_getElem? (i := 474) (by decide +kernel), List.mem_of_getElem? (i := 703) (by decide +kernel), List.mem_of_getElem? (i := 704) (by decide +kernel)⟩
def lw_privs_2 : List (MethodName × Nat) := [(⟨"InfluenceJarsModel", "turns", "()V"⟩, 13), (⟨"InfluenceJarsModel", "charges", "()V"⟩, 13), (⟨"InfluenceJarsModel", "discsTurn", "()V"⟩, 13), (⟨"InfluenceJarsModel", "joins", "(III)V"⟩, 13), (⟨"InfluenceJarsModel", "takes", "(II)V"⟩, 13), (⟨"InfluenceJarsModel", "leaks", "()V"⟩, 13), (⟨"InfluenceJarsModel", "sparks", "()V"⟩, 13), (⟨"InfluenceJarsModel", "difference", "()I"⟩, 13), (⟨"InfluenceJarsModel", "logs", "()V"⟩, 13), (⟨"InfluenceJarsModel", "sign", "()I"⟩, 13), (⟨"InfluenceJarsModel", "discharges", "()I"⟩, 13), (⟨"InfluenceJarsModel", "allCharge", "()I"⟩, 13), (⟨"InfluenceJarsModel", "nextSpark", "(I)I"⟩, 13), (⟨"InfluenceJarsModel", "keeps", "()V"⟩, 13), (⟨"InfluenceJarsModel", "comesBack", "()V"⟩, 13), (⟨"InfluenceJarsModel", "readsDeed", "()Z"⟩, 13)]
theorem lw_r2 : ∀ q ∈ lw_privs_2, lw_okq q := List.forall_mem_cons.mpr ⟨lw_p16, List.forall_mem_cons.mpr ⟨lw_p17, List.forall_mem_cons.mpr ⟨lw_p18, List.forall_mem_cons.mpr ⟨lw_p19, List.forall_mem_cons.mpr ⟨lw_p20, List.forall_mem_cons.mpr ⟨lw_p21, List.forall_mem_cons.mpr ⟨lw_p22, List.forall_mem_cons.mpr ⟨lw_p23, List.forall_mem_cons.mpr ⟨lw_p24, List.forall_mem_cons.mpr ⟨lw_p25, List.forall_mem_cons.mpr ⟨lw_p26, List.forall_mem_cons.mpr ⟨lw_p27, List.forall_mem_cons.mpr ⟨lw_p28, List.forall_mem_cons.mpr ⟨lw_p29, List.forall_mem_cons.mpr ⟨lw_p30, List.forall_mem_cons.mpr ⟨lw_p31, fun _ h => absurd h List.not_mem_nil⟩⟩⟩⟩⟩⟩⟩⟩⟩⟩⟩⟩⟩⟩⟩⟩
theorem lw_p32 : lw_okq (⟨"InfluenceJarsModel", "takesOne", "(I)Z"⟩, 13) := ⟨⟨by decide +kernel, by decide +kernel⟩, List.mem_of_getElem? (i := 474) (by decide +kernel), List.mem_of_getElem? (i := 707) (by decide +kernel), List.mem_of_getElem? (i := 708) (by decide +kernel)⟩
theorem lw_p33 : lw_okq (⟨"InfluenceJarsModel", "isHere", "(II)Z"⟩, 13) := ⟨⟨by decide +kernel, by decide +kernel⟩, List.mem_of_getElem? (i := 474) (by decide +kernel), List.mem_of_getElem? (i := 711) (by decide +kernel), List.mem_of_getElem? (i := 712) (by decide +kernel)⟩
theorem lw_p34 : lw_okq (⟨"InfluenceJarsModel", "readsNumber", "(II)Z"⟩, 13) := ⟨⟨by decide +kernel, by decide +kernel⟩, List.mem_of_getElem? (i := 474) (by decide +kernel), List.mem_of_getElem? (i := 715) (by decide +kernel), List.mem_of_getElem? (i := 716) (by decide +kernel)⟩
theorem lw_p35 : lw_okq (⟨"InfluenceJarsModel", "readsTouch", "()Z"⟩, 13) := ⟨⟨by decide +kernel, by decide +kernel⟩, List.mem_of_getElem? (i := 474) (by decide +kernel), List.mem_of_getElem? (i := 719) (by decide +kernel), List.mem_of_getElem? (i := 720) (by decide +kernel)⟩
theorem lw_p36 : lw_okq (⟨"InfluenceJarsModel", "does", "()I"⟩, 13) := ⟨⟨by decide +kernel, by decide +kernel⟩, List.mem_of_getElem? (i := 474) (by decide +kernel), List.mem_of_getElem? (i := 729) (by decide +kernel), List.mem_of_getElem? (i := 730) (by decide +kernel)⟩
def lw_privs_3 : List (MethodName × Nat) := [(⟨"InfluenceJarsModel", "takesOne", "(I)Z"⟩, 13), (⟨"InfluenceJarsModel", "isHere", "(II)Z"⟩, 13), (⟨"InfluenceJarsModel", "readsNumber", "(II)Z"⟩, 13), (⟨"InfluenceJarsModel", "readsTouch", "()Z"⟩, 13), (⟨"InfluenceJarsModel", "does", "()I"⟩, 13)]
theorem lw_r3 : ∀ q ∈ lw_privs_3, lw_okq q := List.forall_mem_cons.mpr ⟨lw_p32, List.forall_mem_cons.mpr ⟨lw_p33, List.forall_mem_cons.mpr ⟨lw_p34, List.forall_mem_cons.mpr ⟨lw_p35, List.forall_mem_cons.mpr ⟨lw_p36, fun _ h => absurd h List.not_mem_nil⟩⟩⟩⟩⟩
def lw_privs : List (MethodName × Nat) := lw_privs_1 ++ (lw_privs_2 ++ (lw_privs_3))
def lw_tbl : List Cond := k2_sels lw_privs ++ tables_1
theorem lw_privs_ok : ∀ q ∈ lw_privs, lw_okq q := by
  show ∀ q ∈ lw_privs_1 ++ (lw_privs_2 ++ (lw_privs_3)), lw_okq q
  exact List.forall_mem_append.mpr ⟨lw_r1, List.forall_mem_append.mpr ⟨lw_r2, lw_r3⟩⟩
end
section
/-! ===== BEGIN words of one list among another's, by their places ===== -/
theorem goodIn_r {big : List Cond} (ws : List Cond) (ps : List Nat) (hp : ws = ps.filterMap (fun i => big[i]?)) (h : ws.all goodWord = true) : GoodIn big ws := by
  intro w hw
  have h1 := List.all_eq_true.mp h w hw
  rw [hp] at hw
  obtain ⟨i, -, hi⟩ := List.mem_filterMap.mp hw
  have hm : w ∈ big := by first | exact List.mem_of_getElem? hi | exact List.getElem?_mem hi
  exact ⟨hm, good_of_word h1⟩
theorem goodIn_app {big a b : List Cond} (ha : GoodIn big a) (hb : GoodIn big b) : GoodIn big (a ++ b) := fun w h => (List.mem_append.mp h).elim (ha w) (hb w)
theorem goodIn_ca {big a b : List Cond} {c : Cond} (ha : GoodIn big (c :: a)) (hb : GoodIn big b) : GoodIn big (c :: (a ++ b)) := fun w h => (List.mem_cons.mp h).elim (fun e => ha w (List.mem_cons.mpr (Or.inl e))) (fun h => (List.mem_append.mp h).elim (fun h => ha w (List.mem_cons.mpr (Or.inr h))) (hb w))
theorem goodIn_sub {big ws : List Cond} (hm : ∀ w ∈ ws, w ∈ big) (h : ws.all goodWord = true) : GoodIn big ws := fun w hw => ⟨hm w hw, good_of_word (List.all_eq_true.mp h w hw)⟩
/-! ===== END ===== -/

/-! ===== BEGIN printed: names, fields, word lists, decode rows ===== -/
def RX0 : String := "InfluenceJars$DeedReader"
def TX0 : u_T := fun k => match k with
  | 0 => ("InfluenceJars$DeedReader", "pad", "LInfluenceJars$Pad;", true)
  | 1 => ("InfluenceJars$DeedReader", "at", "I", false)
  | 2 => ("InfluenceJars$DeedReader", "deed", "I", false)
  | 3 => ("InfluenceJars$DeedReader", "disc", "I", false)
  | 4 => ("InfluenceJars$DeedReader", "place", "I", false)
  | _ => ("InfluenceJars$DeedReader", "amount", "I", false)
def tyX0 : Nat → FieldType := fun k => match k with
  | 0 => .object "InfluenceJars$Pad"
  | 1 => .int
  | 2 => .int
  | 3 => .int
  | 4 => .int
  | _ => .int
abbrev wsX00 : List Cond := u_ws RX0 TX0 6
theorem nmX0 : ∀ a, a < 6 → ∀ b, b < 6 → a ≠ b → (TX0 a).2.1 ≠ (TX0 b).2.1 := by decide +kernel
theorem tyX0_ok : ∀ k, k < 6 → parseFieldDescriptor (TX0 k).2.2.1 = some (tyX0 k) := by decide +kernel
abbrev cX0_init : ByteArray := prog_2_method_1_code
def yX0_init : MethodName := ⟨RX0, "<init>", "()V"⟩
abbrev cX0_start : ByteArray := prog_2_method_2_code
def yX0_start : MethodName := ⟨RX0, "start", "()V"⟩
abbrev cX0_findFault : ByteArray := prog_2_method_3_code
def yX0_findFault : MethodName := ⟨RX0, "findFault", "()I"⟩
abbrev cX0_readSign : ByteArray := prog_2_method_4_code
def yX0_readSign : MethodName := ⟨RX0, "readSign", "(C)Z"⟩
abbrev cX0_readDeed : ByteArray := prog_2_method_5_code
def yX0_readDeed : MethodName := ⟨RX0, "readDeed", "()Z"⟩
abbrev cX0_readSector : ByteArray := prog_2_method_6_code
def yX0_readSector : MethodName := ⟨RX0, "readSector", "()Z"⟩
abbrev cX0_readCharge : ByteArray := prog_2_method_7_code
def yX0_readCharge : MethodName := ⟨RX0, "readCharge", "()Z"⟩
abbrev cX0_readNumber : ByteArray := prog_2_method_8_code
def yX0_readNumber : MethodName := ⟨RX0, "readNumber", "(II)I"⟩
abbrev cX0_digitAt : ByteArray := prog_2_method_9_code
def yX0_digitAt : MethodName := ⟨RX0, "digitAt", "(I)I"⟩
def RX1 : String := "InfluenceJars$History"
def TX1 : u_T := fun k => match k with
  | 0 => ("InfluenceJars$History", "states", "[LInfluenceJars$Machine;", true)
  | 1 => ("InfluenceJars$History", "oldest", "I", false)
  | _ => ("InfluenceJars$History", "size", "I", false)
def tyX1 : Nat → FieldType := fun k => match k with
  | 0 => .array (.object "InfluenceJars$Machine")
  | 1 => .int
  | _ => .int
abbrev wsX10 : List Cond := u_ws RX1 TX1 3
theorem nmX1 : ∀ a, a < 3 → ∀ b, b < 3 → a ≠ b → (TX1 a).2.1 ≠ (TX1 b).2.1 := by decide +kernel
theorem tyX1_ok : ∀ k, k < 3 → parseFieldDescriptor (TX1 k).2.2.1 = some (tyX1 k) := by decide +kernel
abbrev cX1_init : ByteArray := prog_3_method_1_code
def yX1_init : MethodName := ⟨RX1, "<init>", "()V"⟩
abbrev cX1_record : ByteArray := prog_3_method_2_code
def yX1_record : MethodName := ⟨RX1, "record", "(LInfluenceJars$Machine;)V"⟩
abbrev cX1_takeBack : ByteArray := prog_3_method_3_code
def yX1_takeBack : MethodName := ⟨RX1, "takeBack", "(LInfluenceJars$Machine;)Z"⟩
def RX2 : String := "InfluenceJars$Machine"
def TX2 : u_T := fun k => match k with
  | 0 => ("InfluenceJars$Machine", "settings", "[I", true)
  | 1 => ("InfluenceJars$Machine", "charges", "[I", true)
  | 2 => ("InfluenceJars$Machine", "jars", "[I", true)
  | 3 => ("InfluenceJars$Machine", "taken", "[I", true)
  | 4 => ("InfluenceJars$Machine", "leakedOfJar", "[I", true)
  | 5 => ("InfluenceJars$Machine", "sparkLog", "[I", true)
  | 6 => ("InfluenceJars$Machine", "turns", "I", false)
  | 7 => ("InfluenceJars$Machine", "sparks", "I", false)
  | 8 => ("InfluenceJars$Machine", "reversals", "I", false)
  | 9 => ("InfluenceJars$Machine", "latestSign", "I", false)
  | 10 => ("InfluenceJars$Machine", "leaked", "I", false)
  | 11 => ("InfluenceJars$Machine", "putOn", "I", false)
  | _ => ("InfluenceJars$Machine", "takenOff", "I", false)
def tyX2 : Nat → FieldType := fun k => match k with
  | 0 => .array .int
  | 1 => .array .int
  | 2 => .array .int
  | 3 => .array .int
  | 4 => .array .int
  | 5 => .array .int
  | 6 => .int
  | 7 => .int
  | 8 => .int
  | 9 => .int
  | 10 => .int
  | 11 => .int
  | _ => .int
abbrev wsX20 : List Cond := u_ws RX2 TX2 13
theorem nmX2 : ∀ a, a < 13 → ∀ b, b < 13 → a ≠ b → (TX2 a).2.1 ≠ (TX2 b).2.1 := by decide +kernel
theorem tyX2_ok : ∀ k, k < 13 → parseFieldDescriptor (TX2 k).2.2.1 = some (tyX2 k) := by decide +kernel
abbrev cX2_init : ByteArray := prog_4_method_1_code
def yX2_init : MethodName := ⟨RX2, "<init>", "()V"⟩
abbrev cX2_become : ByteArray := prog_4_method_2_code
def yX2_become : MethodName := ⟨RX2, "become", "(LInfluenceJars$Machine;)V"⟩
abbrev cX2_indexOf : ByteArray := prog_4_method_3_code
def yX2_indexOf : MethodName := ⟨RX2, "indexOf", "(III)I"⟩
abbrev cX2_firstIndexOf : ByteArray := prog_4_method_4_code
def yX2_firstIndexOf : MethodName := ⟨RX2, "firstIndexOf", "(I)I"⟩
abbrev cX2_logIndexOf : ByteArray := prog_4_method_5_code
def yX2_logIndexOf : MethodName := ⟨RX2, "logIndexOf", "(I)I"⟩
abbrev cX2_sumOfDisc : ByteArray := prog_4_method_6_code
def yX2_sumOfDisc : MethodName := ⟨RX2, "sumOfDisc", "(I)I"⟩
abbrev cX2_sectorsWithSign : ByteArray := prog_4_method_7_code
def yX2_sectorsWithSign : MethodName := ⟨RX2, "sectorsWithSign", "(II)I"⟩
abbrev cX2_greatestOfDisc : ByteArray := prog_4_method_8_code
def yX2_greatestOfDisc : MethodName := ⟨RX2, "greatestOfDisc", "(I)I"⟩
abbrev cX2_leastOfDisc : ByteArray := prog_4_method_9_code
def yX2_leastOfDisc : MethodName := ⟨RX2, "leastOfDisc", "(I)I"⟩
abbrev cX2_chargeOfAll : ByteArray := prog_4_method_10_code
def yX2_chargeOfAll : MethodName := ⟨RX2, "chargeOfAll", "()I"⟩
abbrev cX2_fullestJar : ByteArray := prog_4_method_11_code
def yX2_fullestJar : MethodName := ⟨RX2, "fullestJar", "()I"⟩
abbrev cX2_difference : ByteArray := prog_4_method_12_code
def yX2_difference : MethodName := ⟨RX2, "difference", "()I"⟩
abbrev cX2_sign : ByteArray := prog_4_method_13_code
def yX2_sign : MethodName := ⟨RX2, "sign", "()I"⟩
abbrev cX2_hasTurnsLeft : ByteArray := prog_4_method_14_code
def yX2_hasTurnsLeft : MethodName := ⟨RX2, "hasTurnsLeft", "(I)Z"⟩
abbrev cX2_putCharge : ByteArray := prog_4_method_15_code
def yX2_putCharge : MethodName := ⟨RX2, "putCharge", "(III)I"⟩
abbrev cX2_emptyJars : ByteArray := prog_4_method_16_code
def yX2_emptyJars : MethodName := ⟨RX2, "emptyJars", "()I"⟩
abbrev cX2_emptySectors : ByteArray := prog_4_method_17_code
def yX2_emptySectors : MethodName := ⟨RX2, "emptySectors", "(I)I"⟩
abbrev cX2_turnHandle : ByteArray := prog_4_method_18_code
def yX2_turnHandle : MethodName := ⟨RX2, "turnHandle", "(I)I"⟩
abbrev cX2_turnToGreatestDifference : ByteArray := prog_4_method_19_code
def yX2_turnToGreatestDifference : MethodName := ⟨RX2, "turnToGreatestDifference", "(I)I"⟩
abbrev cX2_turnToSpark : ByteArray := prog_4_method_20_code
def yX2_turnToSpark : MethodName := ⟨RX2, "turnToSpark", "(I)I"⟩
abbrev cX2_turnOnce : ByteArray := prog_4_method_21_code
def yX2_turnOnce : MethodName := ⟨RX2, "turnOnce", "()V"⟩
abbrev cX2_turnAheadOfSpark : ByteArray := prog_4_method_22_code
def yX2_turnAheadOfSpark : MethodName := ⟨RX2, "turnAheadOfSpark", "()V"⟩
abbrev cX2_join : ByteArray := prog_4_method_23_code
def yX2_join : MethodName := ⟨RX2, "join", "(III)V"⟩
abbrev cX2_gather : ByteArray := prog_4_method_24_code
def yX2_gather : MethodName := ⟨RX2, "gather", "(II)V"⟩
abbrev cX2_leakFromSectors : ByteArray := prog_4_method_25_code
def yX2_leakFromSectors : MethodName := ⟨RX2, "leakFromSectors", "()V"⟩
abbrev cX2_leakFromJar : ByteArray := prog_4_method_26_code
def yX2_leakFromJar : MethodName := ⟨RX2, "leakFromJar", "(I)V"⟩
abbrev cX2_isSparkDue : ByteArray := prog_4_method_27_code
def yX2_isSparkDue : MethodName := ⟨RX2, "isSparkDue", "()Z"⟩
abbrev cX2_letJump : ByteArray := prog_4_method_28_code
def yX2_letJump : MethodName := ⟨RX2, "letJump", "()V"⟩
abbrev cX2_noteSign : ByteArray := prog_4_method_29_code
def yX2_noteSign : MethodName := ⟨RX2, "noteSign", "()V"⟩
def RX3 : String := "InfluenceJars$Pad"
def TX3 : u_T := fun k => match k with
  | 0 => ("InfluenceJars$Pad", "signs", "[C", true)
  | _ => ("InfluenceJars$Pad", "length", "I", false)
def tyX3 : Nat → FieldType := fun k => match k with
  | 0 => .array .char
  | _ => .int
abbrev wsX30 : List Cond := u_ws RX3 TX3 2
theorem nmX3 : ∀ a, a < 2 → ∀ b, b < 2 → a ≠ b → (TX3 a).2.1 ≠ (TX3 b).2.1 := by decide +kernel
theorem tyX3_ok : ∀ k, k < 2 → parseFieldDescriptor (TX3 k).2.2.1 = some (tyX3 k) := by decide +kernel
abbrev cX3_init : ByteArray := prog_5_method_1_code
def yX3_init : MethodName := ⟨RX3, "<init>", "()V"⟩
abbrev cX3_clear : ByteArray := prog_5_method_2_code
def yX3_clear : MethodName := ⟨RX3, "clear", "()V"⟩
abbrev cX3_append : ByteArray := prog_5_method_3_code
def yX3_append : MethodName := ⟨RX3, "append", "(JI)V"⟩
abbrev cX3_signAt : ByteArray := prog_5_method_4_code
def yX3_signAt : MethodName := ⟨RX3, "signAt", "(I)C"⟩
def RX4 : String := "InfluenceJars"
def TX4 : u_T := fun k => match k with
  | 0 => ("InfluenceJars", "now", "LInfluenceJars$Machine;", true)
  | 1 => ("InfluenceJars", "trial", "LInfluenceJars$Machine;", true)
  | 2 => ("InfluenceJars", "history", "LInfluenceJars$History;", true)
  | 3 => ("InfluenceJars", "slots", "[LInfluenceJars$Machine;", true)
  | 4 => ("InfluenceJars", "reader", "LInfluenceJars$DeedReader;", true)
  | _ => ("InfluenceJars", "pad", "LInfluenceJars$Pad;", true)
def tyX4 : Nat → FieldType := fun k => match k with
  | 0 => .object "InfluenceJars$Machine"
  | 1 => .object "InfluenceJars$Machine"
  | 2 => .object "InfluenceJars$History"
  | 3 => .array (.object "InfluenceJars$Machine")
  | 4 => .object "InfluenceJars$DeedReader"
  | _ => .object "InfluenceJars$Pad"
abbrev wsX40 : List Cond := u_ws RX4 TX4 6
theorem nmX4 : ∀ a, a < 6 → ∀ b, b < 6 → a ≠ b → (TX4 a).2.1 ≠ (TX4 b).2.1 := by decide +kernel
theorem tyX4_ok : ∀ k, k < 6 → parseFieldDescriptor (TX4 k).2.2.1 = some (tyX4 k) := by decide +kernel
abbrev cX4_init : ByteArray := prog_1_method_1_code
def yX4_init : MethodName := ⟨RX4, "<init>", "()V"⟩
abbrev cX4_set : ByteArray := prog_1_method_2_code
def yX4_set : MethodName := ⟨RX4, "set", "(II)I"⟩
abbrev cX4_touch : ByteArray := prog_1_method_3_code
def yX4_touch : MethodName := ⟨RX4, "touch", "(III)I"⟩
abbrev cX4_turn : ByteArray := prog_1_method_4_code
def yX4_turn : MethodName := ⟨RX4, "turn", "(I)I"⟩
abbrev cX4_discharge : ByteArray := prog_1_method_5_code
def yX4_discharge : MethodName := ⟨RX4, "discharge", "()I"⟩
abbrev cX4_wipeDisc : ByteArray := prog_1_method_6_code
def yX4_wipeDisc : MethodName := ⟨RX4, "wipeDisc", "(I)I"⟩
abbrev cX4_run : ByteArray := prog_1_method_7_code
def yX4_run : MethodName := ⟨RX4, "run", "()I"⟩
abbrev cX4_doReadDeed : ByteArray := prog_1_method_8_code
def yX4_doReadDeed : MethodName := ⟨RX4, "doReadDeed", "()V"⟩
abbrev cX4_sector : ByteArray := prog_1_method_9_code
def yX4_sector : MethodName := ⟨RX4, "sector", "(II)I"⟩
abbrev cX4_disc : ByteArray := prog_1_method_10_code
def yX4_disc : MethodName := ⟨RX4, "disc", "(II)I"⟩
abbrev cX4_jar : ByteArray := prog_1_method_11_code
def yX4_jar : MethodName := ⟨RX4, "jar", "(II)I"⟩
abbrev cX4_spark : ByteArray := prog_1_method_12_code
def yX4_spark : MethodName := ⟨RX4, "spark", "(II)I"⟩
abbrev cX4_count : ByteArray := prog_1_method_13_code
def yX4_count : MethodName := ⟨RX4, "count", "(I)I"⟩
abbrev cX4_untilSpark : ByteArray := prog_1_method_14_code
def yX4_untilSpark : MethodName := ⟨RX4, "untilSpark", "()I"⟩
abbrev cX4_ifTurned : ByteArray := prog_1_method_15_code
def yX4_ifTurned : MethodName := ⟨RX4, "ifTurned", "(II)I"⟩
abbrev cX4_widestGap : ByteArray := prog_1_method_16_code
def yX4_widestGap : MethodName := ⟨RX4, "widestGap", "()I"⟩
abbrev cX4_mostDamp : ByteArray := prog_1_method_17_code
def yX4_mostDamp : MethodName := ⟨RX4, "mostDamp", "()I"⟩
abbrev cX4_put : ByteArray := prog_1_method_18_code
def yX4_put : MethodName := ⟨RX4, "put", "(J)I"⟩
abbrev cX4_wipe : ByteArray := prog_1_method_19_code
def yX4_wipe : MethodName := ⟨RX4, "wipe", "()I"⟩
abbrev cX4_fault : ByteArray := prog_1_method_20_code
def yX4_fault : MethodName := ⟨RX4, "fault", "()I"⟩
abbrev cX4_undo : ByteArray := prog_1_method_21_code
def yX4_undo : MethodName := ⟨RX4, "undo", "()I"⟩
abbrev cX4_save : ByteArray := prog_1_method_22_code
def yX4_save : MethodName := ⟨RX4, "save", "(I)I"⟩
abbrev cX4_restore : ByteArray := prog_1_method_23_code
def yX4_restore : MethodName := ⟨RX4, "restore", "(I)I"⟩
abbrev cX4_isNoDisc : ByteArray := prog_1_method_24_code
def yX4_isNoDisc : MethodName := ⟨RX4, "isNoDisc", "(I)Z"⟩
abbrev cX4_isNoPlace : ByteArray := prog_1_method_25_code
def yX4_isNoPlace : MethodName := ⟨RX4, "isNoPlace", "(I)Z"⟩
abbrev cX4_charactersIn : ByteArray := prog_1_method_26_code
def yX4_charactersIn : MethodName := ⟨RX4, "charactersIn", "(J)I"⟩
abbrev cX4_limited : ByteArray := prog_1_method_27_code
def yX4_limited : MethodName := ⟨RX4, "limited", "(III)I"⟩
abbrev cX4_copyNumbers : ByteArray := prog_1_method_28_code
def yX4_copyNumbers : MethodName := ⟨RX4, "copyNumbers", "([I[I)V"⟩
def RX5 : String := "InfluenceJarsModel"
def TX5 : u_T := fun k => match k with
  | 0 => ("InfluenceJarsModel", "all", "[I", true)
  | 1 => ("InfluenceJarsModel", "kept", "[I", true)
  | 2 => ("InfluenceJarsModel", "history", "[I", true)
  | 3 => ("InfluenceJarsModel", "historyLong", "I", false)
  | 4 => ("InfluenceJarsModel", "slots", "[I", true)
  | 5 => ("InfluenceJarsModel", "isSaved", "[I", true)
  | 6 => ("InfluenceJarsModel", "text", "[I", true)
  | 7 => ("InfluenceJarsModel", "textLong", "I", false)
  | 8 => ("InfluenceJarsModel", "spot", "I", false)
  | 9 => ("InfluenceJarsModel", "number", "I", false)
  | 10 => ("InfluenceJarsModel", "letter", "I", false)
  | 11 => ("InfluenceJarsModel", "place", "I", false)
  | _ => ("InfluenceJarsModel", "charge", "I", false)
def tyX5 : Nat → FieldType := fun k => match k with
  | 0 => .array .int
  | 1 => .array .int
  | 2 => .array .int
  | 3 => .int
  | 4 => .array .int
  | 5 => .array .int
  | 6 => .array .int
  | 7 => .int
  | 8 => .int
  | 9 => .int
  | 10 => .int
  | 11 => .int
  | _ => .int
abbrev wsX50 : List Cond := u_ws RX5 TX5 13
theorem nmX5 : ∀ a, a < 13 → ∀ b, b < 13 → a ≠ b → (TX5 a).2.1 ≠ (TX5 b).2.1 := by decide +kernel
theorem tyX5_ok : ∀ k, k < 13 → parseFieldDescriptor (TX5 k).2.2.1 = some (tyX5 k) := by decide +kernel
abbrev cX5_init : ByteArray := prog_7_method_1_code
def yX5_init : MethodName := ⟨RX5, "<init>", "()V"⟩
abbrev cX5_in : ByteArray := prog_7_method_3_code
def yX5_in : MethodName := ⟨RX5, "in", "(JJJ)Z"⟩
abbrev cX5_changes : ByteArray := prog_7_method_4_code
def yX5_changes : MethodName := ⟨RX5, "changes", "()V"⟩
abbrev cX5_keeps : ByteArray := prog_7_method_5_code
def yX5_keeps : MethodName := ⟨RX5, "keeps", "()V"⟩
abbrev cX5_comesBack : ByteArray := prog_7_method_6_code
def yX5_comesBack : MethodName := ⟨RX5, "comesBack", "()V"⟩
abbrev cX5_isDisc : ByteArray := prog_7_method_7_code
def yX5_isDisc : MethodName := ⟨RX5, "isDisc", "(I)Z"⟩
abbrev cX5_cell : ByteArray := prog_7_method_8_code
def yX5_cell : MethodName := ⟨RX5, "cell", "(II)I"⟩
abbrev cX5_cut : ByteArray := prog_7_method_9_code
def yX5_cut : MethodName := ⟨RX5, "cut", "(III)I"⟩
abbrev cX5_discsTurn : ByteArray := prog_7_method_10_code
def yX5_discsTurn : MethodName := ⟨RX5, "discsTurn", "()V"⟩
abbrev cX5_joins : ByteArray := prog_7_method_11_code
def yX5_joins : MethodName := ⟨RX5, "joins", "(III)V"⟩
abbrev cX5_takes : ByteArray := prog_7_method_12_code
def yX5_takes : MethodName := ⟨RX5, "takes", "(II)V"⟩
abbrev cX5_leaks : ByteArray := prog_7_method_13_code
def yX5_leaks : MethodName := ⟨RX5, "leaks", "()V"⟩
abbrev cX5_difference : ByteArray := prog_7_method_14_code
def yX5_difference : MethodName := ⟨RX5, "difference", "()I"⟩
abbrev cX5_logs : ByteArray := prog_7_method_15_code
def yX5_logs : MethodName := ⟨RX5, "logs", "()V"⟩
abbrev cX5_sparks : ByteArray := prog_7_method_16_code
def yX5_sparks : MethodName := ⟨RX5, "sparks", "()V"⟩
abbrev cX5_sign : ByteArray := prog_7_method_17_code
def yX5_sign : MethodName := ⟨RX5, "sign", "()I"⟩
abbrev cX5_charges : ByteArray := prog_7_method_18_code
def yX5_charges : MethodName := ⟨RX5, "charges", "()V"⟩
abbrev cX5_turns : ByteArray := prog_7_method_19_code
def yX5_turns : MethodName := ⟨RX5, "turns", "()V"⟩
abbrev cX5_turned : ByteArray := prog_7_method_20_code
def yX5_turned : MethodName := ⟨RX5, "turned", "(I)I"⟩
abbrev cX5_isSetting : ByteArray := prog_7_method_21_code
def yX5_isSetting : MethodName := ⟨RX5, "isSetting", "(II)Z"⟩
abbrev cX5_set : ByteArray := prog_7_method_22_code
def yX5_set : MethodName := ⟨RX5, "set", "(II)I"⟩
abbrev cX5_isPlace : ByteArray := prog_7_method_23_code
def yX5_isPlace : MethodName := ⟨RX5, "isPlace", "(I)Z"⟩
abbrev cX5_touches : ByteArray := prog_7_method_24_code
def yX5_touches : MethodName := ⟨RX5, "touches", "(III)V"⟩
abbrev cX5_touch : ByteArray := prog_7_method_25_code
def yX5_touch : MethodName := ⟨RX5, "touch", "(III)I"⟩
abbrev cX5_turn : ByteArray := prog_7_method_26_code
def yX5_turn : MethodName := ⟨RX5, "turn", "(I)I"⟩
abbrev cX5_discharges : ByteArray := prog_7_method_27_code
def yX5_discharges : MethodName := ⟨RX5, "discharges", "()I"⟩
abbrev cX5_discharge : ByteArray := prog_7_method_28_code
def yX5_discharge : MethodName := ⟨RX5, "discharge", "()I"⟩
abbrev cX5_wipeDisc : ByteArray := prog_7_method_29_code
def yX5_wipeDisc : MethodName := ⟨RX5, "wipeDisc", "(I)I"⟩
abbrev cX5_sector : ByteArray := prog_7_method_30_code
def yX5_sector : MethodName := ⟨RX5, "sector", "(II)I"⟩
abbrev cX5_disc : ByteArray := prog_7_method_31_code
def yX5_disc : MethodName := ⟨RX5, "disc", "(II)I"⟩
abbrev cX5_jar : ByteArray := prog_7_method_32_code
def yX5_jar : MethodName := ⟨RX5, "jar", "(II)I"⟩
abbrev cX5_spark : ByteArray := prog_7_method_33_code
def yX5_spark : MethodName := ⟨RX5, "spark", "(II)I"⟩
abbrev cX5_allCharge : ByteArray := prog_7_method_34_code
def yX5_allCharge : MethodName := ⟨RX5, "allCharge", "()I"⟩
abbrev cX5_count : ByteArray := prog_7_method_35_code
def yX5_count : MethodName := ⟨RX5, "count", "(I)I"⟩
abbrev cX5_nextSpark : ByteArray := prog_7_method_36_code
def yX5_nextSpark : MethodName := ⟨RX5, "nextSpark", "(I)I"⟩
abbrev cX5_untilSpark : ByteArray := prog_7_method_37_code
def yX5_untilSpark : MethodName := ⟨RX5, "untilSpark", "()I"⟩
abbrev cX5_ifTurned : ByteArray := prog_7_method_38_code
def yX5_ifTurned : MethodName := ⟨RX5, "ifTurned", "(II)I"⟩
abbrev cX5_widestGap : ByteArray := prog_7_method_39_code
def yX5_widestGap : MethodName := ⟨RX5, "widestGap", "()I"⟩
abbrev cX5_mostDamp : ByteArray := prog_7_method_40_code
def yX5_mostDamp : MethodName := ⟨RX5, "mostDamp", "()I"⟩
abbrev cX5_charactersOf : ByteArray := prog_7_method_41_code
def yX5_charactersOf : MethodName := ⟨RX5, "charactersOf", "(J)I"⟩
abbrev cX5_put : ByteArray := prog_7_method_42_code
def yX5_put : MethodName := ⟨RX5, "put", "(J)I"⟩
abbrev cX5_wipe : ByteArray := prog_7_method_43_code
def yX5_wipe : MethodName := ⟨RX5, "wipe", "()I"⟩
abbrev cX5_isHere : ByteArray := prog_7_method_44_code
def yX5_isHere : MethodName := ⟨RX5, "isHere", "(II)Z"⟩
abbrev cX5_takesOne : ByteArray := prog_7_method_45_code
def yX5_takesOne : MethodName := ⟨RX5, "takesOne", "(I)Z"⟩
abbrev cX5_readsNumber : ByteArray := prog_7_method_46_code
def yX5_readsNumber : MethodName := ⟨RX5, "readsNumber", "(II)Z"⟩
abbrev cX5_readsTouch : ByteArray := prog_7_method_47_code
def yX5_readsTouch : MethodName := ⟨RX5, "readsTouch", "()Z"⟩
abbrev cX5_readsDeed : ByteArray := prog_7_method_48_code
def yX5_readsDeed : MethodName := ⟨RX5, "readsDeed", "()Z"⟩
abbrev cX5_fault : ByteArray := prog_7_method_49_code
def yX5_fault : MethodName := ⟨RX5, "fault", "()I"⟩
abbrev cX5_does : ByteArray := prog_7_method_50_code
def yX5_does : MethodName := ⟨RX5, "does", "()I"⟩
abbrev cX5_run : ByteArray := prog_7_method_51_code
def yX5_run : MethodName := ⟨RX5, "run", "()I"⟩
abbrev cX5_undo : ByteArray := prog_7_method_52_code
def yX5_undo : MethodName := ⟨RX5, "undo", "()I"⟩
abbrev cX5_save : ByteArray := prog_7_method_53_code
def yX5_save : MethodName := ⟨RX5, "save", "(I)I"⟩
abbrev cX5_restore : ByteArray := prog_7_method_54_code
def yX5_restore : MethodName := ⟨RX5, "restore", "(I)I"⟩
def RJ6 : String := "java/lang/Integer"
def TJ6 : u_T := fun k => match k with
  | _ => ("", "", "", false)
def tyJ6 : Nat → FieldType := fun k => match k with
  | _ => .int
abbrev wsJ60 : List Cond := u_ws RJ6 TJ6 0
theorem nmJ6 : ∀ a, a < 0 → ∀ b, b < 0 → a ≠ b → (TJ6 a).2.1 ≠ (TJ6 b).2.1 := by decide +kernel
theorem tyJ6_ok : ∀ k, k < 0 → parseFieldDescriptor (TJ6 k).2.2.1 = some (tyJ6 k) := by decide +kernel
abbrev cJ6_signum_0f7a4 : ByteArray := prog_8_method_56_code
def yJ6_signum_0f7a4 : MethodName := ⟨RJ6, "signum", "(I)I"⟩
def RJ9 : String := "java/lang/Math"
def TJ9 : u_T := fun k => match k with
  | _ => ("", "", "", false)
def tyJ9 : Nat → FieldType := fun k => match k with
  | _ => .int
abbrev wsJ90 : List Cond := u_ws RJ9 TJ9 0
theorem nmJ9 : ∀ a, a < 0 → ∀ b, b < 0 → a ≠ b → (TJ9 a).2.1 ≠ (TJ9 b).2.1 := by decide +kernel
theorem tyJ9_ok : ∀ k, k < 0 → parseFieldDescriptor (TJ9 k).2.2.1 = some (tyJ9 k) := by decide +kernel
abbrev cJ9_floorMod_7cf53 : ByteArray := prog_9_method_50_code
def yJ9_floorMod_7cf53 : MethodName := ⟨RJ9, "floorMod", "(II)I"⟩
abbrev cJ9_abs_0f7a4 : ByteArray := prog_9_method_59_code
def yJ9_abs_0f7a4 : MethodName := ⟨RJ9, "abs", "(I)I"⟩
abbrev cJ9_max_7cf53 : ByteArray := prog_9_method_65_code
def yJ9_max_7cf53 : MethodName := ⟨RJ9, "max", "(II)I"⟩
abbrev cJ9_min_7cf53 : ByteArray := prog_9_method_69_code
def yJ9_min_7cf53 : MethodName := ⟨RJ9, "min", "(II)I"⟩
def RJ10 : String := "java/lang/System"
def TJ10 : u_T := fun k => match k with
  | _ => ("", "", "", false)
def tyJ10 : Nat → FieldType := fun k => match k with
  | _ => .int
abbrev wsJ100 : List Cond := u_ws RJ10 TJ10 0
theorem nmJ10 : ∀ a, a < 0 → ∀ b, b < 0 → a ≠ b → (TJ10 a).2.1 ≠ (TJ10 b).2.1 := by decide +kernel
theorem tyJ10_ok : ∀ k, k < 0 → parseFieldDescriptor (TJ10 k).2.2.1 = some (tyJ10 k) := by decide +kernel
def RL : String := "InfluenceJarsLaw"
abbrev cL_law : ByteArray := code
def yL_law : MethodName := ⟨RL, "law", "([I)Z"⟩
def wsX3_init : List Cond := .code yX3_init cX3_init 1 none :: ([.methodLink RX3 3 objectInit, .instanceMethod objectInit, .code objectInit ⟨#[0xb1]⟩ 1 none, .arrayClass .char, .fieldLink RX3 9 "InfluenceJars$Pad" "signs" "[C"] ++ wsX30)
def wsX0_init : List Cond := .code yX0_init cX0_init 1 none :: ([.methodLink RX0 3 objectInit, .instanceMethod objectInit, .code objectInit ⟨#[0xb1]⟩ 1 none, .classLink RX0 9 RX3, .instantiable RX3 2, .initialized RX3, .fieldLink RX0 12 "InfluenceJars$DeedReader" "pad" "LInfluenceJars$Pad;", .instanceMethod yX3_init, .code yX3_init cX3_init 1 none, .methodLink RX3 3 objectInit, .arrayClass .char, .fieldLink RX3 9 "InfluenceJars$Pad" "signs" "[C"] ++ wsX30 ++ wsX00)
def wsX0_start : List Cond := .code yX0_start cX0_start 1 none :: ([.fieldLink RX0 18 "InfluenceJars$DeedReader" "at" "I"] ++ wsX00)
def wsX3_signAt : List Cond := .code yX3_signAt cX3_signAt 2 (some .char) :: ([.fieldLink RX3 15 "InfluenceJars$Pad" "length" "I", .fieldLink RX3 9 "InfluenceJars$Pad" "signs" "[C"] ++ wsX30)
def wsX0_readSign : List Cond := .code yX0_readSign cX0_readSign 2 (some .boolean) :: ([.fieldLink RX0 12 "InfluenceJars$DeedReader" "pad" "LInfluenceJars$Pad;", .fieldLink RX0 18 "InfluenceJars$DeedReader" "at" "I", .methodLink RX0 37 yX3_signAt, .instanceMethod yX3_signAt, .selects RX3 yX3_signAt yX3_signAt, .initialized RX3, .code yX3_signAt cX3_signAt 2 (some .char), .fieldLink RX3 15 "InfluenceJars$Pad" "length" "I", .fieldLink RX3 9 "InfluenceJars$Pad" "signs" "[C"] ++ wsX00 ++ wsX30)
def wsX0_digitAt : List Cond := .code yX0_digitAt cX0_digitAt 3 (some .int) :: ([.fieldLink RX0 12 "InfluenceJars$DeedReader" "pad" "LInfluenceJars$Pad;", .methodLink RX0 37 yX3_signAt, .instanceMethod yX3_signAt, .selects RX3 yX3_signAt yX3_signAt, .initialized RX3, .code yX3_signAt cX3_signAt 2 (some .char), .fieldLink RX3 15 "InfluenceJars$Pad" "length" "I", .fieldLink RX3 9 "InfluenceJars$Pad" "signs" "[C"] ++ wsX00 ++ wsX30)
def wsX0_readNumber : List Cond := .code yX0_readNumber cX0_readNumber 6 (some .int) :: ([.fieldLink RX0 18 "InfluenceJars$DeedReader" "at" "I", .methodLink RX0 63 yX0_digitAt, .instanceMethod yX0_digitAt, .selects RX0 yX0_digitAt yX0_digitAt, .initialized RX0, .code yX0_digitAt cX0_digitAt 3 (some .int), .fieldLink RX0 12 "InfluenceJars$DeedReader" "pad" "LInfluenceJars$Pad;", .methodLink RX0 37 yX3_signAt, .instanceMethod yX3_signAt, .selects RX3 yX3_signAt yX3_signAt, .initialized RX3, .code yX3_signAt cX3_signAt 2 (some .char), .fieldLink RX3 15 "InfluenceJars$Pad" "length" "I", .fieldLink RX3 9 "InfluenceJars$Pad" "signs" "[C"] ++ wsX00 ++ wsX30)
def wsX0_readSector : List Cond := .code yX0_readSector cX0_readSector 1 (some .boolean) :: ([.fieldLink RX0 57 "InfluenceJars$DeedReader" "disc" "I", .fieldLink RX0 60 "InfluenceJars$DeedReader" "place" "I", .methodLink RX0 29 yX0_readSign, .instanceMethod yX0_readSign, .selects RX0 yX0_readSign yX0_readSign, .initialized RX0, .code yX0_readSign cX0_readSign 2 (some .boolean), .fieldLink RX0 12 "InfluenceJars$DeedReader" "pad" "LInfluenceJars$Pad;", .fieldLink RX0 18 "InfluenceJars$DeedReader" "at" "I", .methodLink RX0 37 yX3_signAt, .instanceMethod yX3_signAt, .selects RX3 yX3_signAt yX3_signAt, .initialized RX3, .code yX3_signAt cX3_signAt 2 (some .char), .fieldLink RX3 15 "InfluenceJars$Pad" "length" "I", .fieldLink RX3 9 "InfluenceJars$Pad" "signs" "[C", .methodLink RX0 44 yX0_readNumber, .instanceMethod yX0_readNumber, .selects RX0 yX0_readNumber yX0_readNumber, .code yX0_readNumber cX0_readNumber 6 (some .int), .methodLink RX0 63 yX0_digitAt, .instanceMethod yX0_digitAt, .selects RX0 yX0_digitAt yX0_digitAt, .code yX0_digitAt cX0_digitAt 3 (some .int)] ++ wsX00 ++ wsX30)
def wsX0_readCharge : List Cond := .code yX0_readCharge cX0_readCharge 3 (some .boolean) :: ([.fieldLink RX0 48 "InfluenceJars$DeedReader" "amount" "I", .methodLink RX0 29 yX0_readSign, .instanceMethod yX0_readSign, .selects RX0 yX0_readSign yX0_readSign, .initialized RX0, .code yX0_readSign cX0_readSign 2 (some .boolean), .fieldLink RX0 12 "InfluenceJars$DeedReader" "pad" "LInfluenceJars$Pad;", .fieldLink RX0 18 "InfluenceJars$DeedReader" "at" "I", .methodLink RX0 37 yX3_signAt, .instanceMethod yX3_signAt, .selects RX3 yX3_signAt yX3_signAt, .initialized RX3, .code yX3_signAt cX3_signAt 2 (some .char), .fieldLink RX3 15 "InfluenceJars$Pad" "length" "I", .fieldLink RX3 9 "InfluenceJars$Pad" "signs" "[C", .methodLink RX0 44 yX0_readNumber, .instanceMethod yX0_readNumber, .selects RX0 yX0_readNumber yX0_readNumber, .code yX0_readNumber cX0_readNumber 6 (some .int), .methodLink RX0 63 yX0_digitAt, .instanceMethod yX0_digitAt, .selects RX0 yX0_digitAt yX0_digitAt, .code yX0_digitAt cX0_digitAt 3 (some .int)] ++ wsX00 ++ wsX30)
def wsX0_readDeed_r1 : List Cond := [Cond.fieldLink RX0 41 "InfluenceJars$DeedReader" "deed" "I", Cond.fieldLink RX0 48 "InfluenceJars$DeedReader" "amount" "I", Cond.methodLink RX0 29 yX0_readSign, Cond.instanceMethod yX0_readSign, Cond.selects RX0 yX0_readSign yX0_readSign, Cond.initialized RX0, Cond.code yX0_readSign cX0_readSign 2 (some .boolean), Cond.fieldLink RX0 12 "InfluenceJars$DeedReader" "pad" "LInfluenceJars$Pad;", Cond.fieldLink RX0 18 "InfluenceJars$DeedReader" "at" "I", Cond.methodLink RX0 37 yX3_signAt, Cond.instanceMethod yX3_signAt, Cond.selects RX3 yX3_signAt yX3_signAt, Cond.initialized RX3, Cond.code yX3_signAt cX3_signAt 2 (some .char), Cond.fieldLink RX3 15 "InfluenceJars$Pad" "length" "I", Cond.fieldLink RX3 9 "InfluenceJars$Pad" "signs" "[C", Cond.methodLink RX0 44 yX0_readNumber, Cond.instanceMethod yX0_readNumber, Cond.selects RX0 yX0_readNumber yX0_readNumber, Cond.code yX0_readNumber cX0_readNumber 6 (some .int), Cond.methodLink RX0 63 yX0_digitAt, Cond.instanceMethod yX0_digitAt, Cond.selects RX0 yX0_digitAt yX0_digitAt, Cond.code yX0_digitAt cX0_digitAt 3 (some .int)]
def wsX0_readDeed_r2 : List Cond := [Cond.methodLink RX0 51 yX0_readSector, Cond.instanceMethod yX0_readSector, Cond.selects RX0 yX0_readSector yX0_readSector, Cond.code yX0_readSector cX0_readSector 1 (some .boolean), Cond.fieldLink RX0 57 "InfluenceJars$DeedReader" "disc" "I", Cond.fieldLink RX0 60 "InfluenceJars$DeedReader" "place" "I", Cond.methodLink RX0 54 yX0_readCharge, Cond.instanceMethod yX0_readCharge, Cond.selects RX0 yX0_readCharge yX0_readCharge, Cond.code yX0_readCharge cX0_readCharge 3 (some .boolean)]
def wsX0_readDeed : List Cond := .code yX0_readDeed cX0_readDeed 1 (some .boolean) :: ((wsX0_readDeed_r1 ++ wsX0_readDeed_r2) ++ wsX00 ++ wsX30)
def wsX0_findFault_r1 : List Cond := [Cond.fieldLink RX0 18 "InfluenceJars$DeedReader" "at" "I", Cond.fieldLink RX0 12 "InfluenceJars$DeedReader" "pad" "LInfluenceJars$Pad;", Cond.fieldLink RX0 33 "InfluenceJars$Pad" "length" "I", Cond.constant RX0 36 (-1000006), Cond.methodLink RX0 22 yX0_start, Cond.instanceMethod yX0_start, Cond.selects RX0 yX0_start yX0_start, Cond.initialized RX0, Cond.code yX0_start cX0_start 1 none, Cond.methodLink RX0 25 yX0_readDeed, Cond.instanceMethod yX0_readDeed, Cond.selects RX0 yX0_readDeed yX0_readDeed, Cond.code yX0_readDeed cX0_readDeed 1 (some .boolean), Cond.fieldLink RX0 41 "InfluenceJars$DeedReader" "deed" "I", Cond.fieldLink RX0 48 "InfluenceJars$DeedReader" "amount" "I", Cond.methodLink RX0 29 yX0_readSign, Cond.instanceMethod yX0_readSign, Cond.selects RX0 yX0_readSign yX0_readSign, Cond.code yX0_readSign cX0_readSign 2 (some .boolean), Cond.methodLink RX0 37 yX3_signAt, Cond.instanceMethod yX3_signAt, Cond.selects RX3 yX3_signAt yX3_signAt, Cond.initialized RX3, Cond.code yX3_signAt cX3_signAt 2 (some .char)]
def wsX0_findFault_r2 : List Cond := [Cond.fieldLink RX3 15 "InfluenceJars$Pad" "length" "I", Cond.fieldLink RX3 9 "InfluenceJars$Pad" "signs" "[C", Cond.methodLink RX0 44 yX0_readNumber, Cond.instanceMethod yX0_readNumber, Cond.selects RX0 yX0_readNumber yX0_readNumber, Cond.code yX0_readNumber cX0_readNumber 6 (some .int), Cond.methodLink RX0 63 yX0_digitAt, Cond.instanceMethod yX0_digitAt, Cond.selects RX0 yX0_digitAt yX0_digitAt, Cond.code yX0_digitAt cX0_digitAt 3 (some .int), Cond.methodLink RX0 51 yX0_readSector, Cond.instanceMethod yX0_readSector, Cond.selects RX0 yX0_readSector yX0_readSector, Cond.code yX0_readSector cX0_readSector 1 (some .boolean), Cond.fieldLink RX0 57 "InfluenceJars$DeedReader" "disc" "I", Cond.fieldLink RX0 60 "InfluenceJars$DeedReader" "place" "I", Cond.methodLink RX0 54 yX0_readCharge, Cond.instanceMethod yX0_readCharge, Cond.selects RX0 yX0_readCharge yX0_readCharge, Cond.code yX0_readCharge cX0_readCharge 3 (some .boolean)]
def wsX0_findFault : List Cond := .code yX0_findFault cX0_findFault 2 (some .int) :: ((wsX0_findFault_r1 ++ wsX0_findFault_r2) ++ wsX00 ++ wsX30)
def wsX1_init : List Cond := .code yX1_init cX1_init 1 none :: ([.methodLink RX1 3 objectInit, .instanceMethod objectInit, .code objectInit ⟨#[0xb1]⟩ 1 none, .classLink RX1 9 RX2, .fieldLink RX1 11 "InfluenceJars$History" "states" "[LInfluenceJars$Machine;"] ++ wsX10)
def wsJ9_floorMod_7cf53 : List Cond := .code yJ9_floorMod_7cf53 cJ9_floorMod_7cf53 3 (some .int) :: ([])
def wsX2_init : List Cond := .code yX2_init cX2_init 1 none :: ([.methodLink RX2 3 objectInit, .instanceMethod objectInit, .code objectInit ⟨#[0xb1]⟩ 1 none, .arrayClass .int, .fieldLink RX2 9 "InfluenceJars$Machine" "settings" "[I", .fieldLink RX2 15 "InfluenceJars$Machine" "charges" "[I", .fieldLink RX2 18 "InfluenceJars$Machine" "jars" "[I", .fieldLink RX2 21 "InfluenceJars$Machine" "taken" "[I", .fieldLink RX2 24 "InfluenceJars$Machine" "leakedOfJar" "[I", .fieldLink RX2 27 "InfluenceJars$Machine" "sparkLog" "[I"] ++ wsX20)
def wsX4_copyNumbers : List Cond := .code yX4_copyNumbers cX4_copyNumbers 2 none :: ([.methodLink RX4 209 Lib.Math.min.name, .static Lib.Math.min.name, .initialized "java/lang/Math", .code Lib.Math.min.name Lib.Math.min.code 2 (some .int), .methodLink RX4 226 arraycopyName, .native arraycopyName, .static arraycopyName, .initialized "java/lang/System"])
def wsX2_become : List Cond := .code yX2_become cX2_become 2 none :: ([.fieldLink RX2 9 "InfluenceJars$Machine" "settings" "[I", .fieldLink RX2 15 "InfluenceJars$Machine" "charges" "[I", .fieldLink RX2 18 "InfluenceJars$Machine" "jars" "[I", .fieldLink RX2 21 "InfluenceJars$Machine" "taken" "[I", .fieldLink RX2 24 "InfluenceJars$Machine" "leakedOfJar" "[I", .fieldLink RX2 27 "InfluenceJars$Machine" "sparkLog" "[I", .fieldLink RX2 34 "InfluenceJars$Machine" "turns" "I", .fieldLink RX2 38 "InfluenceJars$Machine" "sparks" "I", .fieldLink RX2 41 "InfluenceJars$Machine" "reversals" "I", .fieldLink RX2 44 "InfluenceJars$Machine" "latestSign" "I", .fieldLink RX2 47 "InfluenceJars$Machine" "leaked" "I", .fieldLink RX2 50 "InfluenceJars$Machine" "putOn" "I", .fieldLink RX2 53 "InfluenceJars$Machine" "takenOff" "I", .static yX4_copyNumbers, .initialized RX4, .code yX4_copyNumbers cX4_copyNumbers 2 none, .methodLink RX4 209 Lib.Math.min.name, .static Lib.Math.min.name, .initialized "java/lang/Math", .code Lib.Math.min.name Lib.Math.min.code 2 (some .int), .methodLink RX4 226 arraycopyName, .native arraycopyName, .static arraycopyName, .initialized "java/lang/System"] ++ wsX20)
def wsX1_record_r1 : List Cond := [Cond.fieldLink RX1 17 "InfluenceJars$History" "size" "I", Cond.fieldLink RX1 21 "InfluenceJars$History" "oldest" "I", Cond.fieldLink RX1 11 "InfluenceJars$History" "states" "[LInfluenceJars$Machine;", Cond.classLink RX1 9 RX2, Cond.instantiable RX2 13, Cond.initialized RX2, Cond.methodLink RX1 24 yJ9_floorMod_7cf53, Cond.static yJ9_floorMod_7cf53, Cond.initialized RJ9, Cond.code yJ9_floorMod_7cf53 cJ9_floorMod_7cf53 3 (some .int), Cond.instanceMethod yX2_init, Cond.code yX2_init cX2_init 1 none, Cond.methodLink RX2 3 objectInit, Cond.instanceMethod objectInit, Cond.code objectInit ⟨#[0xb1]⟩ 1 none, Cond.arrayClass .int, Cond.fieldLink RX2 9 "InfluenceJars$Machine" "settings" "[I", Cond.fieldLink RX2 15 "InfluenceJars$Machine" "charges" "[I", Cond.fieldLink RX2 18 "InfluenceJars$Machine" "jars" "[I", Cond.fieldLink RX2 21 "InfluenceJars$Machine" "taken" "[I", Cond.fieldLink RX2 24 "InfluenceJars$Machine" "leakedOfJar" "[I", Cond.fieldLink RX2 27 "InfluenceJars$Machine" "sparkLog" "[I", Cond.methodLink RX1 31 yX2_become, Cond.instanceMethod yX2_become]
def wsX1_record_r2 : List Cond := [Cond.selects RX2 yX2_become yX2_become, Cond.code yX2_become cX2_become 2 none, Cond.fieldLink RX2 34 "InfluenceJars$Machine" "turns" "I", Cond.fieldLink RX2 38 "InfluenceJars$Machine" "sparks" "I", Cond.fieldLink RX2 41 "InfluenceJars$Machine" "reversals" "I", Cond.fieldLink RX2 44 "InfluenceJars$Machine" "latestSign" "I", Cond.fieldLink RX2 47 "InfluenceJars$Machine" "leaked" "I", Cond.fieldLink RX2 50 "InfluenceJars$Machine" "putOn" "I", Cond.fieldLink RX2 53 "InfluenceJars$Machine" "takenOff" "I", Cond.static yX4_copyNumbers, Cond.initialized RX4, Cond.code yX4_copyNumbers cX4_copyNumbers 2 none, Cond.methodLink RX4 209 Lib.Math.min.name, Cond.static Lib.Math.min.name, Cond.initialized "java/lang/Math", Cond.code Lib.Math.min.name Lib.Math.min.code 2 (some .int), Cond.methodLink RX4 226 arraycopyName, Cond.native arraycopyName, Cond.static arraycopyName, Cond.initialized "java/lang/System"]
def wsX1_record : List Cond := .code yX1_record cX1_record 4 none :: ((wsX1_record_r1 ++ wsX1_record_r2) ++ wsX10 ++ wsX20)
def wsX1_takeBack_r1 : List Cond := [Cond.fieldLink RX1 17 "InfluenceJars$History" "size" "I", Cond.fieldLink RX1 11 "InfluenceJars$History" "states" "[LInfluenceJars$Machine;", Cond.fieldLink RX1 21 "InfluenceJars$History" "oldest" "I", Cond.methodLink RX1 24 yJ9_floorMod_7cf53, Cond.static yJ9_floorMod_7cf53, Cond.initialized RJ9, Cond.code yJ9_floorMod_7cf53 cJ9_floorMod_7cf53 3 (some .int), Cond.methodLink RX1 31 yX2_become, Cond.instanceMethod yX2_become, Cond.selects RX2 yX2_become yX2_become, Cond.initialized RX2, Cond.code yX2_become cX2_become 2 none, Cond.fieldLink RX2 9 "InfluenceJars$Machine" "settings" "[I", Cond.fieldLink RX2 15 "InfluenceJars$Machine" "charges" "[I", Cond.fieldLink RX2 18 "InfluenceJars$Machine" "jars" "[I", Cond.fieldLink RX2 21 "InfluenceJars$Machine" "taken" "[I", Cond.fieldLink RX2 24 "InfluenceJars$Machine" "leakedOfJar" "[I", Cond.fieldLink RX2 27 "InfluenceJars$Machine" "sparkLog" "[I", Cond.fieldLink RX2 34 "InfluenceJars$Machine" "turns" "I", Cond.fieldLink RX2 38 "InfluenceJars$Machine" "sparks" "I", Cond.fieldLink RX2 41 "InfluenceJars$Machine" "reversals" "I", Cond.fieldLink RX2 44 "InfluenceJars$Machine" "latestSign" "I", Cond.fieldLink RX2 47 "InfluenceJars$Machine" "leaked" "I", Cond.fieldLink RX2 50 "InfluenceJars$Machine" "putOn" "I"]
def wsX1_takeBack_r2 : List Cond := [Cond.fieldLink RX2 53 "InfluenceJars$Machine" "takenOff" "I", Cond.static yX4_copyNumbers, Cond.initialized RX4, Cond.code yX4_copyNumbers cX4_copyNumbers 2 none, Cond.methodLink RX4 209 Lib.Math.min.name, Cond.static Lib.Math.min.name, Cond.initialized "java/lang/Math", Cond.code Lib.Math.min.name Lib.Math.min.code 2 (some .int), Cond.methodLink RX4 226 arraycopyName, Cond.native arraycopyName, Cond.static arraycopyName, Cond.initialized "java/lang/System"]
def wsX1_takeBack : List Cond := .code yX1_takeBack cX1_takeBack 3 (some .boolean) :: ((wsX1_takeBack_r1 ++ wsX1_takeBack_r2) ++ wsX10 ++ wsX20)
def wsX2_indexOf : List Cond := .code yX2_indexOf cX2_indexOf 3 (some .int) :: ([.methodLink RX2 56 yJ9_floorMod_7cf53, .static yJ9_floorMod_7cf53, .initialized RJ9, .code yJ9_floorMod_7cf53 cJ9_floorMod_7cf53 3 (some .int)])
def wsX2_firstIndexOf : List Cond := .code yX2_firstIndexOf cX2_firstIndexOf 1 (some .int) :: ([])
def wsX2_logIndexOf : List Cond := .code yX2_logIndexOf cX2_logIndexOf 1 (some .int) :: ([.methodLink RX2 56 yJ9_floorMod_7cf53, .static yJ9_floorMod_7cf53, .initialized RJ9, .code yJ9_floorMod_7cf53 cJ9_floorMod_7cf53 3 (some .int)])
def wsX2_sumOfDisc : List Cond := .code yX2_sumOfDisc cX2_sumOfDisc 5 (some .int) :: ([.fieldLink RX2 15 "InfluenceJars$Machine" "charges" "[I", .methodLink RX2 62 yX2_firstIndexOf, .static yX2_firstIndexOf, .initialized RX2, .code yX2_firstIndexOf cX2_firstIndexOf 1 (some .int)] ++ wsX20)
def wsJ6_signum_0f7a4 : List Cond := .code yJ6_signum_0f7a4 cJ6_signum_0f7a4 1 (some .int) :: ([])
def wsX2_sectorsWithSign : List Cond := .code yX2_sectorsWithSign cX2_sectorsWithSign 6 (some .int) :: ([.fieldLink RX2 15 "InfluenceJars$Machine" "charges" "[I", .methodLink RX2 62 yX2_firstIndexOf, .static yX2_firstIndexOf, .initialized RX2, .code yX2_firstIndexOf cX2_firstIndexOf 1 (some .int), .methodLink RX2 66 yJ6_signum_0f7a4, .static yJ6_signum_0f7a4, .initialized RJ6, .code yJ6_signum_0f7a4 cJ6_signum_0f7a4 1 (some .int)] ++ wsX20)
def wsX2_greatestOfDisc : List Cond := .code yX2_greatestOfDisc cX2_greatestOfDisc 5 (some .int) :: ([.fieldLink RX2 15 "InfluenceJars$Machine" "charges" "[I", .methodLink RX2 71 Lib.Math.max.name, .static Lib.Math.max.name, .initialized "java/lang/Math", .code Lib.Math.max.name Lib.Math.max.code 2 (some .int), .methodLink RX2 62 yX2_firstIndexOf, .static yX2_firstIndexOf, .initialized RX2, .code yX2_firstIndexOf cX2_firstIndexOf 1 (some .int)] ++ wsX20)
def wsX2_leastOfDisc : List Cond := .code yX2_leastOfDisc cX2_leastOfDisc 5 (some .int) :: ([.fieldLink RX2 15 "InfluenceJars$Machine" "charges" "[I", .methodLink RX2 74 Lib.Math.min.name, .static Lib.Math.min.name, .initialized "java/lang/Math", .code Lib.Math.min.name Lib.Math.min.code 2 (some .int), .methodLink RX2 62 yX2_firstIndexOf, .static yX2_firstIndexOf, .initialized RX2, .code yX2_firstIndexOf cX2_firstIndexOf 1 (some .int)] ++ wsX20)
def wsX2_chargeOfAll : List Cond := .code yX2_chargeOfAll cX2_chargeOfAll 1 (some .int) :: ([.fieldLink RX2 18 "InfluenceJars$Machine" "jars" "[I", .methodLink RX2 77 yX2_sumOfDisc, .instanceMethod yX2_sumOfDisc, .selects RX2 yX2_sumOfDisc yX2_sumOfDisc, .initialized RX2, .code yX2_sumOfDisc cX2_sumOfDisc 5 (some .int), .fieldLink RX2 15 "InfluenceJars$Machine" "charges" "[I", .methodLink RX2 62 yX2_firstIndexOf, .static yX2_firstIndexOf, .code yX2_firstIndexOf cX2_firstIndexOf 1 (some .int)] ++ wsX20)
def wsX2_fullestJar : List Cond := .code yX2_fullestJar cX2_fullestJar 1 (some .int) :: ([.fieldLink RX2 18 "InfluenceJars$Machine" "jars" "[I", .methodLink RX2 80 Lib.Math.abs.name, .static Lib.Math.abs.name, .initialized "java/lang/Math", .code Lib.Math.abs.name Lib.Math.abs.code 1 (some .int), .methodLink RX2 71 Lib.Math.max.name, .static Lib.Math.max.name, .code Lib.Math.max.name Lib.Math.max.code 2 (some .int)] ++ wsX20)
def wsX2_difference : List Cond := .code yX2_difference cX2_difference 1 (some .int) :: ([.fieldLink RX2 18 "InfluenceJars$Machine" "jars" "[I", .methodLink RX2 80 Lib.Math.abs.name, .static Lib.Math.abs.name, .initialized "java/lang/Math", .code Lib.Math.abs.name Lib.Math.abs.code 1 (some .int)] ++ wsX20)
def wsX2_sign : List Cond := .code yX2_sign cX2_sign 1 (some .int) :: ([.fieldLink RX2 18 "InfluenceJars$Machine" "jars" "[I", .methodLink RX2 66 yJ6_signum_0f7a4, .static yJ6_signum_0f7a4, .initialized RJ6, .code yJ6_signum_0f7a4 cJ6_signum_0f7a4 1 (some .int)] ++ wsX20)
def wsX2_hasTurnsLeft : List Cond := .code yX2_hasTurnsLeft cX2_hasTurnsLeft 2 (some .boolean) :: ([.fieldLink RX2 34 "InfluenceJars$Machine" "turns" "I", .constant RX2 83 (99999)] ++ wsX20)
def wsX2_putCharge : List Cond := .code yX2_putCharge cX2_putCharge 6 (some .int) :: ([.fieldLink RX2 34 "InfluenceJars$Machine" "turns" "I", .fieldLink RX2 15 "InfluenceJars$Machine" "charges" "[I", .fieldLink RX2 50 "InfluenceJars$Machine" "putOn" "I", .methodLink RX2 84 yX2_indexOf, .static yX2_indexOf, .initialized RX2, .code yX2_indexOf cX2_indexOf 3 (some .int), .methodLink RX2 56 yJ9_floorMod_7cf53, .static yJ9_floorMod_7cf53, .initialized RJ9, .code yJ9_floorMod_7cf53 cJ9_floorMod_7cf53 3 (some .int)] ++ wsX20)
def wsX2_emptyJars : List Cond := .code yX2_emptyJars cX2_emptyJars 2 (some .int) :: ([.fieldLink RX2 53 "InfluenceJars$Machine" "takenOff" "I", .fieldLink RX2 18 "InfluenceJars$Machine" "jars" "[I", .methodLink RX2 88 yX2_difference, .instanceMethod yX2_difference, .selects RX2 yX2_difference yX2_difference, .initialized RX2, .code yX2_difference cX2_difference 1 (some .int), .methodLink RX2 80 Lib.Math.abs.name, .static Lib.Math.abs.name, .initialized "java/lang/Math", .code Lib.Math.abs.name Lib.Math.abs.code 1 (some .int)] ++ wsX20)
def wsX2_emptySectors : List Cond := .code yX2_emptySectors cX2_emptySectors 5 (some .int) :: ([.fieldLink RX2 53 "InfluenceJars$Machine" "takenOff" "I", .fieldLink RX2 15 "InfluenceJars$Machine" "charges" "[I", .methodLink RX2 92 yX2_sectorsWithSign, .instanceMethod yX2_sectorsWithSign, .selects RX2 yX2_sectorsWithSign yX2_sectorsWithSign, .initialized RX2, .code yX2_sectorsWithSign cX2_sectorsWithSign 6 (some .int), .methodLink RX2 62 yX2_firstIndexOf, .static yX2_firstIndexOf, .code yX2_firstIndexOf cX2_firstIndexOf 1 (some .int), .methodLink RX2 66 yJ6_signum_0f7a4, .static yJ6_signum_0f7a4, .initialized RJ6, .code yJ6_signum_0f7a4 cJ6_signum_0f7a4 1 (some .int), .methodLink RX2 77 yX2_sumOfDisc, .instanceMethod yX2_sumOfDisc, .selects RX2 yX2_sumOfDisc yX2_sumOfDisc, .code yX2_sumOfDisc cX2_sumOfDisc 5 (some .int)] ++ wsX20)
def wsX4_limited : List Cond := .code yX4_limited cX4_limited 3 (some .int) :: ([.methodLink RX4 209 Lib.Math.min.name, .static Lib.Math.min.name, .initialized "java/lang/Math", .code Lib.Math.min.name Lib.Math.min.code 2 (some .int), .methodLink RX4 204 Lib.Math.max.name, .static Lib.Math.max.name, .code Lib.Math.max.name Lib.Math.max.code 2 (some .int)])
def wsX2_join : List Cond := .code yX2_join cX2_join 14 none :: ([.fieldLink RX2 34 "InfluenceJars$Machine" "turns" "I", .fieldLink RX2 15 "InfluenceJars$Machine" "charges" "[I", .fieldLink RX2 9 "InfluenceJars$Machine" "settings" "[I", .methodLink RX2 71 Lib.Math.max.name, .static Lib.Math.max.name, .initialized "java/lang/Math", .code Lib.Math.max.name Lib.Math.max.code 2 (some .int), .methodLink RX2 74 Lib.Math.min.name, .static Lib.Math.min.name, .code Lib.Math.min.name Lib.Math.min.code 2 (some .int), .methodLink RX2 84 yX2_indexOf, .static yX2_indexOf, .initialized RX2, .code yX2_indexOf cX2_indexOf 3 (some .int), .methodLink RX2 56 yJ9_floorMod_7cf53, .static yJ9_floorMod_7cf53, .initialized RJ9, .code yJ9_floorMod_7cf53 cJ9_floorMod_7cf53 3 (some .int), .static yX4_limited, .initialized RX4, .code yX4_limited cX4_limited 3 (some .int), .methodLink RX4 209 Lib.Math.min.name, .methodLink RX4 204 Lib.Math.max.name] ++ wsX20)
def wsX2_gather : List Cond := .code yX2_gather cX2_gather 7 none :: ([.fieldLink RX2 34 "InfluenceJars$Machine" "turns" "I", .fieldLink RX2 9 "InfluenceJars$Machine" "settings" "[I", .fieldLink RX2 15 "InfluenceJars$Machine" "charges" "[I", .fieldLink RX2 18 "InfluenceJars$Machine" "jars" "[I", .fieldLink RX2 21 "InfluenceJars$Machine" "taken" "[I", .methodLink RX2 84 yX2_indexOf, .static yX2_indexOf, .initialized RX2, .code yX2_indexOf cX2_indexOf 3 (some .int), .methodLink RX2 56 yJ9_floorMod_7cf53, .static yJ9_floorMod_7cf53, .initialized RJ9, .code yJ9_floorMod_7cf53 cJ9_floorMod_7cf53 3 (some .int), .static yX4_limited, .initialized RX4, .code yX4_limited cX4_limited 3 (some .int), .methodLink RX4 209 Lib.Math.min.name, .static Lib.Math.min.name, .initialized "java/lang/Math", .code Lib.Math.min.name Lib.Math.min.code 2 (some .int), .methodLink RX4 204 Lib.Math.max.name, .static Lib.Math.max.name, .code Lib.Math.max.name Lib.Math.max.code 2 (some .int)] ++ wsX20)
def wsX2_leakFromSectors : List Cond := .code yX2_leakFromSectors cX2_leakFromSectors 3 none :: ([.fieldLink RX2 15 "InfluenceJars$Machine" "charges" "[I", .fieldLink RX2 9 "InfluenceJars$Machine" "settings" "[I", .fieldLink RX2 47 "InfluenceJars$Machine" "leaked" "I"] ++ wsX20)
def wsX2_leakFromJar : List Cond := .code yX2_leakFromJar cX2_leakFromJar 3 none :: ([.fieldLink RX2 18 "InfluenceJars$Machine" "jars" "[I", .fieldLink RX2 9 "InfluenceJars$Machine" "settings" "[I", .fieldLink RX2 24 "InfluenceJars$Machine" "leakedOfJar" "[I", .fieldLink RX2 47 "InfluenceJars$Machine" "leaked" "I"] ++ wsX20)
def wsX2_turnAheadOfSpark_r1 : List Cond := [Cond.fieldLink RX2 34 "InfluenceJars$Machine" "turns" "I", Cond.methodLink RX2 112 yX2_join, Cond.instanceMethod yX2_join, Cond.selects RX2 yX2_join yX2_join, Cond.initialized RX2, Cond.code yX2_join cX2_join 14 none, Cond.fieldLink RX2 15 "InfluenceJars$Machine" "charges" "[I", Cond.fieldLink RX2 9 "InfluenceJars$Machine" "settings" "[I", Cond.methodLink RX2 71 Lib.Math.max.name, Cond.static Lib.Math.max.name, Cond.initialized "java/lang/Math", Cond.code Lib.Math.max.name Lib.Math.max.code 2 (some .int), Cond.methodLink RX2 74 Lib.Math.min.name, Cond.static Lib.Math.min.name, Cond.code Lib.Math.min.name Lib.Math.min.code 2 (some .int), Cond.methodLink RX2 84 yX2_indexOf, Cond.static yX2_indexOf, Cond.code yX2_indexOf cX2_indexOf 3 (some .int), Cond.methodLink RX2 56 yJ9_floorMod_7cf53, Cond.static yJ9_floorMod_7cf53, Cond.initialized RJ9, Cond.code yJ9_floorMod_7cf53 cJ9_floorMod_7cf53 3 (some .int), Cond.static yX4_limited, Cond.initialized RX4]
def wsX2_turnAheadOfSpark_r2 : List Cond := [Cond.code yX4_limited cX4_limited 3 (some .int), Cond.methodLink RX4 209 Lib.Math.min.name, Cond.methodLink RX4 204 Lib.Math.max.name, Cond.methodLink RX2 116 yX2_gather, Cond.instanceMethod yX2_gather, Cond.selects RX2 yX2_gather yX2_gather, Cond.code yX2_gather cX2_gather 7 none, Cond.fieldLink RX2 18 "InfluenceJars$Machine" "jars" "[I", Cond.fieldLink RX2 21 "InfluenceJars$Machine" "taken" "[I", Cond.methodLink RX2 120 yX2_leakFromSectors, Cond.instanceMethod yX2_leakFromSectors, Cond.selects RX2 yX2_leakFromSectors yX2_leakFromSectors, Cond.code yX2_leakFromSectors cX2_leakFromSectors 3 none, Cond.fieldLink RX2 47 "InfluenceJars$Machine" "leaked" "I", Cond.methodLink RX2 123 yX2_leakFromJar, Cond.instanceMethod yX2_leakFromJar, Cond.selects RX2 yX2_leakFromJar yX2_leakFromJar, Cond.code yX2_leakFromJar cX2_leakFromJar 3 none, Cond.fieldLink RX2 24 "InfluenceJars$Machine" "leakedOfJar" "[I"]
def wsX2_turnAheadOfSpark : List Cond := .code yX2_turnAheadOfSpark cX2_turnAheadOfSpark 1 none :: ((wsX2_turnAheadOfSpark_r1 ++ wsX2_turnAheadOfSpark_r2) ++ wsX20)
def wsX2_isSparkDue : List Cond := .code yX2_isSparkDue cX2_isSparkDue 1 (some .boolean) :: ([.fieldLink RX2 9 "InfluenceJars$Machine" "settings" "[I", .methodLink RX2 88 yX2_difference, .instanceMethod yX2_difference, .selects RX2 yX2_difference yX2_difference, .initialized RX2, .code yX2_difference cX2_difference 1 (some .int), .fieldLink RX2 18 "InfluenceJars$Machine" "jars" "[I", .methodLink RX2 80 Lib.Math.abs.name, .static Lib.Math.abs.name, .initialized "java/lang/Math", .code Lib.Math.abs.name Lib.Math.abs.code 1 (some .int)] ++ wsX20)
def wsX2_letJump : List Cond := .code yX2_letJump cX2_letJump 4 none :: ([.fieldLink RX2 38 "InfluenceJars$Machine" "sparks" "I", .fieldLink RX2 27 "InfluenceJars$Machine" "sparkLog" "[I", .fieldLink RX2 34 "InfluenceJars$Machine" "turns" "I", .fieldLink RX2 18 "InfluenceJars$Machine" "jars" "[I", .fieldLink RX2 9 "InfluenceJars$Machine" "settings" "[I", .methodLink RX2 130 yX2_logIndexOf, .static yX2_logIndexOf, .initialized RX2, .code yX2_logIndexOf cX2_logIndexOf 1 (some .int), .methodLink RX2 56 yJ9_floorMod_7cf53, .static yJ9_floorMod_7cf53, .initialized RJ9, .code yJ9_floorMod_7cf53 cJ9_floorMod_7cf53 3 (some .int)] ++ wsX20)
def wsX2_noteSign : List Cond := .code yX2_noteSign cX2_noteSign 2 none :: ([.fieldLink RX2 44 "InfluenceJars$Machine" "latestSign" "I", .fieldLink RX2 41 "InfluenceJars$Machine" "reversals" "I", .methodLink RX2 133 yX2_sign, .instanceMethod yX2_sign, .selects RX2 yX2_sign yX2_sign, .initialized RX2, .code yX2_sign cX2_sign 1 (some .int), .fieldLink RX2 18 "InfluenceJars$Machine" "jars" "[I", .methodLink RX2 66 yJ6_signum_0f7a4, .static yJ6_signum_0f7a4, .initialized RJ6, .code yJ6_signum_0f7a4 cJ6_signum_0f7a4 1 (some .int)] ++ wsX20)
def wsX2_turnOnce_r1 : List Cond := [Cond.methodLink RX2 98 yX2_turnAheadOfSpark, Cond.instanceMethod yX2_turnAheadOfSpark, Cond.selects RX2 yX2_turnAheadOfSpark yX2_turnAheadOfSpark, Cond.initialized RX2, Cond.code yX2_turnAheadOfSpark cX2_turnAheadOfSpark 1 none, Cond.fieldLink RX2 34 "InfluenceJars$Machine" "turns" "I", Cond.methodLink RX2 112 yX2_join, Cond.instanceMethod yX2_join, Cond.selects RX2 yX2_join yX2_join, Cond.code yX2_join cX2_join 14 none, Cond.fieldLink RX2 15 "InfluenceJars$Machine" "charges" "[I", Cond.fieldLink RX2 9 "InfluenceJars$Machine" "settings" "[I", Cond.methodLink RX2 71 Lib.Math.max.name, Cond.static Lib.Math.max.name, Cond.initialized "java/lang/Math", Cond.code Lib.Math.max.name Lib.Math.max.code 2 (some .int), Cond.methodLink RX2 74 Lib.Math.min.name, Cond.static Lib.Math.min.name, Cond.code Lib.Math.min.name Lib.Math.min.code 2 (some .int), Cond.methodLink RX2 84 yX2_indexOf, Cond.static yX2_indexOf, Cond.code yX2_indexOf cX2_indexOf 3 (some .int), Cond.methodLink RX2 56 yJ9_floorMod_7cf53, Cond.static yJ9_floorMod_7cf53]
def wsX2_turnOnce_r2 : List Cond := [Cond.initialized RJ9, Cond.code yJ9_floorMod_7cf53 cJ9_floorMod_7cf53 3 (some .int), Cond.static yX4_limited, Cond.initialized RX4, Cond.code yX4_limited cX4_limited 3 (some .int), Cond.methodLink RX4 209 Lib.Math.min.name, Cond.methodLink RX4 204 Lib.Math.max.name, Cond.methodLink RX2 116 yX2_gather, Cond.instanceMethod yX2_gather, Cond.selects RX2 yX2_gather yX2_gather, Cond.code yX2_gather cX2_gather 7 none, Cond.fieldLink RX2 18 "InfluenceJars$Machine" "jars" "[I", Cond.fieldLink RX2 21 "InfluenceJars$Machine" "taken" "[I", Cond.methodLink RX2 120 yX2_leakFromSectors, Cond.instanceMethod yX2_leakFromSectors, Cond.selects RX2 yX2_leakFromSectors yX2_leakFromSectors, Cond.code yX2_leakFromSectors cX2_leakFromSectors 3 none, Cond.fieldLink RX2 47 "InfluenceJars$Machine" "leaked" "I", Cond.methodLink RX2 123 yX2_leakFromJar, Cond.instanceMethod yX2_leakFromJar, Cond.selects RX2 yX2_leakFromJar yX2_leakFromJar, Cond.code yX2_leakFromJar cX2_leakFromJar 3 none, Cond.fieldLink RX2 24 "InfluenceJars$Machine" "leakedOfJar" "[I", Cond.methodLink RX2 101 yX2_isSparkDue]
def wsX2_turnOnce_r3 : List Cond := [Cond.instanceMethod yX2_isSparkDue, Cond.selects RX2 yX2_isSparkDue yX2_isSparkDue, Cond.code yX2_isSparkDue cX2_isSparkDue 1 (some .boolean), Cond.methodLink RX2 88 yX2_difference, Cond.instanceMethod yX2_difference, Cond.selects RX2 yX2_difference yX2_difference, Cond.code yX2_difference cX2_difference 1 (some .int), Cond.methodLink RX2 80 Lib.Math.abs.name, Cond.static Lib.Math.abs.name, Cond.code Lib.Math.abs.name Lib.Math.abs.code 1 (some .int), Cond.methodLink RX2 106 yX2_letJump, Cond.instanceMethod yX2_letJump, Cond.selects RX2 yX2_letJump yX2_letJump, Cond.code yX2_letJump cX2_letJump 4 none, Cond.fieldLink RX2 38 "InfluenceJars$Machine" "sparks" "I", Cond.fieldLink RX2 27 "InfluenceJars$Machine" "sparkLog" "[I", Cond.methodLink RX2 130 yX2_logIndexOf, Cond.static yX2_logIndexOf, Cond.code yX2_logIndexOf cX2_logIndexOf 1 (some .int), Cond.methodLink RX2 109 yX2_noteSign, Cond.instanceMethod yX2_noteSign, Cond.selects RX2 yX2_noteSign yX2_noteSign, Cond.code yX2_noteSign cX2_noteSign 2 none, Cond.fieldLink RX2 44 "InfluenceJars$Machine" "latestSign" "I"]
def wsX2_turnOnce_r4 : List Cond := [Cond.fieldLink RX2 41 "InfluenceJars$Machine" "reversals" "I", Cond.methodLink RX2 133 yX2_sign, Cond.instanceMethod yX2_sign, Cond.selects RX2 yX2_sign yX2_sign, Cond.code yX2_sign cX2_sign 1 (some .int), Cond.methodLink RX2 66 yJ6_signum_0f7a4, Cond.static yJ6_signum_0f7a4, Cond.initialized RJ6, Cond.code yJ6_signum_0f7a4 cJ6_signum_0f7a4 1 (some .int)]
def wsX2_turnOnce : List Cond := .code yX2_turnOnce cX2_turnOnce 1 none :: ((wsX2_turnOnce_r1 ++ (wsX2_turnOnce_r2 ++ (wsX2_turnOnce_r3 ++ wsX2_turnOnce_r4))) ++ wsX20)
def wsX2_turnHandle_r1 : List Cond := [Cond.fieldLink RX2 38 "InfluenceJars$Machine" "sparks" "I", Cond.methodLink RX2 95 yX2_turnOnce, Cond.instanceMethod yX2_turnOnce, Cond.selects RX2 yX2_turnOnce yX2_turnOnce, Cond.initialized RX2, Cond.code yX2_turnOnce cX2_turnOnce 1 none, Cond.methodLink RX2 98 yX2_turnAheadOfSpark, Cond.instanceMethod yX2_turnAheadOfSpark, Cond.selects RX2 yX2_turnAheadOfSpark yX2_turnAheadOfSpark, Cond.code yX2_turnAheadOfSpark cX2_turnAheadOfSpark 1 none, Cond.fieldLink RX2 34 "InfluenceJars$Machine" "turns" "I", Cond.methodLink RX2 112 yX2_join, Cond.instanceMethod yX2_join, Cond.selects RX2 yX2_join yX2_join, Cond.code yX2_join cX2_join 14 none, Cond.fieldLink RX2 15 "InfluenceJars$Machine" "charges" "[I", Cond.fieldLink RX2 9 "InfluenceJars$Machine" "settings" "[I", Cond.methodLink RX2 71 Lib.Math.max.name, Cond.static Lib.Math.max.name, Cond.initialized "java/lang/Math", Cond.code Lib.Math.max.name Lib.Math.max.code 2 (some .int), Cond.methodLink RX2 74 Lib.Math.min.name, Cond.static Lib.Math.min.name, Cond.code Lib.Math.min.name Lib.Math.min.code 2 (some .int)]
def wsX2_turnHandle_r2 : List Cond := [Cond.methodLink RX2 84 yX2_indexOf, Cond.static yX2_indexOf, Cond.code yX2_indexOf cX2_indexOf 3 (some .int), Cond.methodLink RX2 56 yJ9_floorMod_7cf53, Cond.static yJ9_floorMod_7cf53, Cond.initialized RJ9, Cond.code yJ9_floorMod_7cf53 cJ9_floorMod_7cf53 3 (some .int), Cond.static yX4_limited, Cond.initialized RX4, Cond.code yX4_limited cX4_limited 3 (some .int), Cond.methodLink RX4 209 Lib.Math.min.name, Cond.methodLink RX4 204 Lib.Math.max.name, Cond.methodLink RX2 116 yX2_gather, Cond.instanceMethod yX2_gather, Cond.selects RX2 yX2_gather yX2_gather, Cond.code yX2_gather cX2_gather 7 none, Cond.fieldLink RX2 18 "InfluenceJars$Machine" "jars" "[I", Cond.fieldLink RX2 21 "InfluenceJars$Machine" "taken" "[I", Cond.methodLink RX2 120 yX2_leakFromSectors, Cond.instanceMethod yX2_leakFromSectors, Cond.selects RX2 yX2_leakFromSectors yX2_leakFromSectors, Cond.code yX2_leakFromSectors cX2_leakFromSectors 3 none, Cond.fieldLink RX2 47 "InfluenceJars$Machine" "leaked" "I", Cond.methodLink RX2 123 yX2_leakFromJar]
def wsX2_turnHandle_r3 : List Cond := [Cond.instanceMethod yX2_leakFromJar, Cond.selects RX2 yX2_leakFromJar yX2_leakFromJar, Cond.code yX2_leakFromJar cX2_leakFromJar 3 none, Cond.fieldLink RX2 24 "InfluenceJars$Machine" "leakedOfJar" "[I", Cond.methodLink RX2 101 yX2_isSparkDue, Cond.instanceMethod yX2_isSparkDue, Cond.selects RX2 yX2_isSparkDue yX2_isSparkDue, Cond.code yX2_isSparkDue cX2_isSparkDue 1 (some .boolean), Cond.methodLink RX2 88 yX2_difference, Cond.instanceMethod yX2_difference, Cond.selects RX2 yX2_difference yX2_difference, Cond.code yX2_difference cX2_difference 1 (some .int), Cond.methodLink RX2 80 Lib.Math.abs.name, Cond.static Lib.Math.abs.name, Cond.code Lib.Math.abs.name Lib.Math.abs.code 1 (some .int), Cond.methodLink RX2 106 yX2_letJump, Cond.instanceMethod yX2_letJump, Cond.selects RX2 yX2_letJump yX2_letJump, Cond.code yX2_letJump cX2_letJump 4 none, Cond.fieldLink RX2 27 "InfluenceJars$Machine" "sparkLog" "[I", Cond.methodLink RX2 130 yX2_logIndexOf, Cond.static yX2_logIndexOf, Cond.code yX2_logIndexOf cX2_logIndexOf 1 (some .int), Cond.methodLink RX2 109 yX2_noteSign]
def wsX2_turnHandle_r4 : List Cond := [Cond.instanceMethod yX2_noteSign, Cond.selects RX2 yX2_noteSign yX2_noteSign, Cond.code yX2_noteSign cX2_noteSign 2 none, Cond.fieldLink RX2 44 "InfluenceJars$Machine" "latestSign" "I", Cond.fieldLink RX2 41 "InfluenceJars$Machine" "reversals" "I", Cond.methodLink RX2 133 yX2_sign, Cond.instanceMethod yX2_sign, Cond.selects RX2 yX2_sign yX2_sign, Cond.code yX2_sign cX2_sign 1 (some .int), Cond.methodLink RX2 66 yJ6_signum_0f7a4, Cond.static yJ6_signum_0f7a4, Cond.initialized RJ6, Cond.code yJ6_signum_0f7a4 cJ6_signum_0f7a4 1 (some .int)]
def wsX2_turnHandle : List Cond := .code yX2_turnHandle cX2_turnHandle 4 (some .int) :: ((wsX2_turnHandle_r1 ++ (wsX2_turnHandle_r2 ++ (wsX2_turnHandle_r3 ++ wsX2_turnHandle_r4))) ++ wsX20)
def wsX2_turnToGreatestDifference_r1 : List Cond := [Cond.methodLink RX2 71 Lib.Math.max.name, Cond.static Lib.Math.max.name, Cond.initialized "java/lang/Math", Cond.code Lib.Math.max.name Lib.Math.max.code 2 (some .int), Cond.methodLink RX2 95 yX2_turnOnce, Cond.instanceMethod yX2_turnOnce, Cond.selects RX2 yX2_turnOnce yX2_turnOnce, Cond.initialized RX2, Cond.code yX2_turnOnce cX2_turnOnce 1 none, Cond.methodLink RX2 98 yX2_turnAheadOfSpark, Cond.instanceMethod yX2_turnAheadOfSpark, Cond.selects RX2 yX2_turnAheadOfSpark yX2_turnAheadOfSpark, Cond.code yX2_turnAheadOfSpark cX2_turnAheadOfSpark 1 none, Cond.fieldLink RX2 34 "InfluenceJars$Machine" "turns" "I", Cond.methodLink RX2 112 yX2_join, Cond.instanceMethod yX2_join, Cond.selects RX2 yX2_join yX2_join, Cond.code yX2_join cX2_join 14 none, Cond.fieldLink RX2 15 "InfluenceJars$Machine" "charges" "[I", Cond.fieldLink RX2 9 "InfluenceJars$Machine" "settings" "[I", Cond.methodLink RX2 74 Lib.Math.min.name, Cond.static Lib.Math.min.name, Cond.code Lib.Math.min.name Lib.Math.min.code 2 (some .int), Cond.methodLink RX2 84 yX2_indexOf]
def wsX2_turnToGreatestDifference_r2 : List Cond := [Cond.static yX2_indexOf, Cond.code yX2_indexOf cX2_indexOf 3 (some .int), Cond.methodLink RX2 56 yJ9_floorMod_7cf53, Cond.static yJ9_floorMod_7cf53, Cond.initialized RJ9, Cond.code yJ9_floorMod_7cf53 cJ9_floorMod_7cf53 3 (some .int), Cond.static yX4_limited, Cond.initialized RX4, Cond.code yX4_limited cX4_limited 3 (some .int), Cond.methodLink RX4 209 Lib.Math.min.name, Cond.methodLink RX4 204 Lib.Math.max.name, Cond.methodLink RX2 116 yX2_gather, Cond.instanceMethod yX2_gather, Cond.selects RX2 yX2_gather yX2_gather, Cond.code yX2_gather cX2_gather 7 none, Cond.fieldLink RX2 18 "InfluenceJars$Machine" "jars" "[I", Cond.fieldLink RX2 21 "InfluenceJars$Machine" "taken" "[I", Cond.methodLink RX2 120 yX2_leakFromSectors, Cond.instanceMethod yX2_leakFromSectors, Cond.selects RX2 yX2_leakFromSectors yX2_leakFromSectors, Cond.code yX2_leakFromSectors cX2_leakFromSectors 3 none, Cond.fieldLink RX2 47 "InfluenceJars$Machine" "leaked" "I", Cond.methodLink RX2 123 yX2_leakFromJar, Cond.instanceMethod yX2_leakFromJar]
def wsX2_turnToGreatestDifference_r3 : List Cond := [Cond.selects RX2 yX2_leakFromJar yX2_leakFromJar, Cond.code yX2_leakFromJar cX2_leakFromJar 3 none, Cond.fieldLink RX2 24 "InfluenceJars$Machine" "leakedOfJar" "[I", Cond.methodLink RX2 101 yX2_isSparkDue, Cond.instanceMethod yX2_isSparkDue, Cond.selects RX2 yX2_isSparkDue yX2_isSparkDue, Cond.code yX2_isSparkDue cX2_isSparkDue 1 (some .boolean), Cond.methodLink RX2 88 yX2_difference, Cond.instanceMethod yX2_difference, Cond.selects RX2 yX2_difference yX2_difference, Cond.code yX2_difference cX2_difference 1 (some .int), Cond.methodLink RX2 80 Lib.Math.abs.name, Cond.static Lib.Math.abs.name, Cond.code Lib.Math.abs.name Lib.Math.abs.code 1 (some .int), Cond.methodLink RX2 106 yX2_letJump, Cond.instanceMethod yX2_letJump, Cond.selects RX2 yX2_letJump yX2_letJump, Cond.code yX2_letJump cX2_letJump 4 none, Cond.fieldLink RX2 38 "InfluenceJars$Machine" "sparks" "I", Cond.fieldLink RX2 27 "InfluenceJars$Machine" "sparkLog" "[I", Cond.methodLink RX2 130 yX2_logIndexOf, Cond.static yX2_logIndexOf, Cond.code yX2_logIndexOf cX2_logIndexOf 1 (some .int), Cond.methodLink RX2 109 yX2_noteSign]
def wsX2_turnToGreatestDifference_r4 : List Cond := [Cond.instanceMethod yX2_noteSign, Cond.selects RX2 yX2_noteSign yX2_noteSign, Cond.code yX2_noteSign cX2_noteSign 2 none, Cond.fieldLink RX2 44 "InfluenceJars$Machine" "latestSign" "I", Cond.fieldLink RX2 41 "InfluenceJars$Machine" "reversals" "I", Cond.methodLink RX2 133 yX2_sign, Cond.instanceMethod yX2_sign, Cond.selects RX2 yX2_sign yX2_sign, Cond.code yX2_sign cX2_sign 1 (some .int), Cond.methodLink RX2 66 yJ6_signum_0f7a4, Cond.static yJ6_signum_0f7a4, Cond.initialized RJ6, Cond.code yJ6_signum_0f7a4 cJ6_signum_0f7a4 1 (some .int)]
def wsX2_turnToGreatestDifference : List Cond := .code yX2_turnToGreatestDifference cX2_turnToGreatestDifference 4 (some .int) :: ((wsX2_turnToGreatestDifference_r1 ++ (wsX2_turnToGreatestDifference_r2 ++ (wsX2_turnToGreatestDifference_r3 ++ wsX2_turnToGreatestDifference_r4))) ++ wsX20)
def wsX2_turnToSpark_r1 : List Cond := [Cond.constant RX2 105 (-1000006), Cond.methodLink RX2 98 yX2_turnAheadOfSpark, Cond.instanceMethod yX2_turnAheadOfSpark, Cond.selects RX2 yX2_turnAheadOfSpark yX2_turnAheadOfSpark, Cond.initialized RX2, Cond.code yX2_turnAheadOfSpark cX2_turnAheadOfSpark 1 none, Cond.fieldLink RX2 34 "InfluenceJars$Machine" "turns" "I", Cond.methodLink RX2 112 yX2_join, Cond.instanceMethod yX2_join, Cond.selects RX2 yX2_join yX2_join, Cond.code yX2_join cX2_join 14 none, Cond.fieldLink RX2 15 "InfluenceJars$Machine" "charges" "[I", Cond.fieldLink RX2 9 "InfluenceJars$Machine" "settings" "[I", Cond.methodLink RX2 71 Lib.Math.max.name, Cond.static Lib.Math.max.name, Cond.initialized "java/lang/Math", Cond.code Lib.Math.max.name Lib.Math.max.code 2 (some .int), Cond.methodLink RX2 74 Lib.Math.min.name, Cond.static Lib.Math.min.name, Cond.code Lib.Math.min.name Lib.Math.min.code 2 (some .int), Cond.methodLink RX2 84 yX2_indexOf, Cond.static yX2_indexOf, Cond.code yX2_indexOf cX2_indexOf 3 (some .int), Cond.methodLink RX2 56 yJ9_floorMod_7cf53]
def wsX2_turnToSpark_r2 : List Cond := [Cond.static yJ9_floorMod_7cf53, Cond.initialized RJ9, Cond.code yJ9_floorMod_7cf53 cJ9_floorMod_7cf53 3 (some .int), Cond.static yX4_limited, Cond.initialized RX4, Cond.code yX4_limited cX4_limited 3 (some .int), Cond.methodLink RX4 209 Lib.Math.min.name, Cond.methodLink RX4 204 Lib.Math.max.name, Cond.methodLink RX2 116 yX2_gather, Cond.instanceMethod yX2_gather, Cond.selects RX2 yX2_gather yX2_gather, Cond.code yX2_gather cX2_gather 7 none, Cond.fieldLink RX2 18 "InfluenceJars$Machine" "jars" "[I", Cond.fieldLink RX2 21 "InfluenceJars$Machine" "taken" "[I", Cond.methodLink RX2 120 yX2_leakFromSectors, Cond.instanceMethod yX2_leakFromSectors, Cond.selects RX2 yX2_leakFromSectors yX2_leakFromSectors, Cond.code yX2_leakFromSectors cX2_leakFromSectors 3 none, Cond.fieldLink RX2 47 "InfluenceJars$Machine" "leaked" "I", Cond.methodLink RX2 123 yX2_leakFromJar, Cond.instanceMethod yX2_leakFromJar, Cond.selects RX2 yX2_leakFromJar yX2_leakFromJar, Cond.code yX2_leakFromJar cX2_leakFromJar 3 none, Cond.fieldLink RX2 24 "InfluenceJars$Machine" "leakedOfJar" "[I"]
def wsX2_turnToSpark_r3 : List Cond := [Cond.methodLink RX2 101 yX2_isSparkDue, Cond.instanceMethod yX2_isSparkDue, Cond.selects RX2 yX2_isSparkDue yX2_isSparkDue, Cond.code yX2_isSparkDue cX2_isSparkDue 1 (some .boolean), Cond.methodLink RX2 88 yX2_difference, Cond.instanceMethod yX2_difference, Cond.selects RX2 yX2_difference yX2_difference, Cond.code yX2_difference cX2_difference 1 (some .int), Cond.methodLink RX2 80 Lib.Math.abs.name, Cond.static Lib.Math.abs.name, Cond.code Lib.Math.abs.name Lib.Math.abs.code 1 (some .int)]
def wsX2_turnToSpark : List Cond := .code yX2_turnToSpark cX2_turnToSpark 3 (some .int) :: ((wsX2_turnToSpark_r1 ++ (wsX2_turnToSpark_r2 ++ wsX2_turnToSpark_r3)) ++ wsX20)
def wsX3_clear : List Cond := .code yX3_clear cX3_clear 1 none :: ([.fieldLink RX3 15 "InfluenceJars$Pad" "length" "I"] ++ wsX30)
def wsX3_append : List Cond := .code yX3_append cX3_append 5 none :: ([.fieldLink RX3 15 "InfluenceJars$Pad" "length" "I", .fieldLink RX3 9 "InfluenceJars$Pad" "signs" "[C", .constantLong RX3 19 (255)] ++ wsX30)
def wsX4_init_r1 : List Cond := [Cond.methodLink RX4 1 objectInit, Cond.instanceMethod objectInit, Cond.code objectInit ⟨#[0xb1]⟩ 1 none, Cond.classLink RX4 7 RX2, Cond.instantiable RX2 13, Cond.initialized RX2, Cond.fieldLink RX4 10 "InfluenceJars" "now" "LInfluenceJars$Machine;", Cond.fieldLink RX4 16 "InfluenceJars" "trial" "LInfluenceJars$Machine;", Cond.classLink RX4 19 RX1, Cond.instantiable RX1 3, Cond.initialized RX1, Cond.fieldLink RX4 22 "InfluenceJars" "history" "LInfluenceJars$History;", Cond.fieldLink RX4 26 "InfluenceJars" "slots" "[LInfluenceJars$Machine;", Cond.classLink RX4 30 RX0, Cond.instantiable RX0 6, Cond.initialized RX0, Cond.fieldLink RX4 33 "InfluenceJars" "reader" "LInfluenceJars$DeedReader;", Cond.fieldLink RX4 37 "InfluenceJars$DeedReader" "pad" "LInfluenceJars$Pad;", Cond.fieldLink RX4 41 "InfluenceJars" "pad" "LInfluenceJars$Pad;", Cond.instanceMethod yX2_init, Cond.code yX2_init cX2_init 1 none, Cond.methodLink RX2 3 objectInit, Cond.arrayClass .int, Cond.fieldLink RX2 9 "InfluenceJars$Machine" "settings" "[I"]
def wsX4_init_r2 : List Cond := [Cond.fieldLink RX2 15 "InfluenceJars$Machine" "charges" "[I", Cond.fieldLink RX2 18 "InfluenceJars$Machine" "jars" "[I", Cond.fieldLink RX2 21 "InfluenceJars$Machine" "taken" "[I", Cond.fieldLink RX2 24 "InfluenceJars$Machine" "leakedOfJar" "[I", Cond.fieldLink RX2 27 "InfluenceJars$Machine" "sparkLog" "[I", Cond.instanceMethod yX1_init, Cond.code yX1_init cX1_init 1 none, Cond.methodLink RX1 3 objectInit, Cond.classLink RX1 9 RX2, Cond.fieldLink RX1 11 "InfluenceJars$History" "states" "[LInfluenceJars$Machine;", Cond.instanceMethod yX0_init, Cond.code yX0_init cX0_init 1 none, Cond.methodLink RX0 3 objectInit, Cond.classLink RX0 9 RX3, Cond.instantiable RX3 2, Cond.initialized RX3, Cond.fieldLink RX0 12 "InfluenceJars$DeedReader" "pad" "LInfluenceJars$Pad;", Cond.instanceMethod yX3_init, Cond.code yX3_init cX3_init 1 none, Cond.methodLink RX3 3 objectInit, Cond.arrayClass .char, Cond.fieldLink RX3 9 "InfluenceJars$Pad" "signs" "[C"]
def wsX4_init : List Cond := .code yX4_init cX4_init 1 none :: ((wsX4_init_r1 ++ wsX4_init_r2) ++ wsX20 ++ wsX40 ++ wsX10 ++ wsX00 ++ wsX30)
def wsX4_set_r1 : List Cond := [Cond.constant RX4 42 (-1000002), Cond.fieldLink RX4 43 "InfluenceJars" "LEAST_SETTING" "[I", Cond.fieldLink RX4 47 "InfluenceJars" "MOST_SETTING" "[I", Cond.fieldLink RX4 10 "InfluenceJars" "now" "LInfluenceJars$Machine;", Cond.constant RX4 54 (-1000005), Cond.fieldLink RX4 22 "InfluenceJars" "history" "LInfluenceJars$History;", Cond.fieldLink RX4 59 "InfluenceJars$Machine" "settings" "[I", Cond.methodLink RX4 50 yX2_fullestJar, Cond.instanceMethod yX2_fullestJar, Cond.selects RX2 yX2_fullestJar yX2_fullestJar, Cond.initialized RX2, Cond.code yX2_fullestJar cX2_fullestJar 1 (some .int), Cond.fieldLink RX2 18 "InfluenceJars$Machine" "jars" "[I", Cond.methodLink RX2 80 Lib.Math.abs.name, Cond.static Lib.Math.abs.name, Cond.initialized "java/lang/Math", Cond.code Lib.Math.abs.name Lib.Math.abs.code 1 (some .int), Cond.methodLink RX2 71 Lib.Math.max.name, Cond.static Lib.Math.max.name, Cond.code Lib.Math.max.name Lib.Math.max.code 2 (some .int), Cond.methodLink RX4 55 yX1_record, Cond.instanceMethod yX1_record, Cond.selects RX1 yX1_record yX1_record, Cond.initialized RX1]
def wsX4_set_r2 : List Cond := [Cond.code yX1_record cX1_record 4 none, Cond.fieldLink RX1 17 "InfluenceJars$History" "size" "I", Cond.fieldLink RX1 21 "InfluenceJars$History" "oldest" "I", Cond.fieldLink RX1 11 "InfluenceJars$History" "states" "[LInfluenceJars$Machine;", Cond.classLink RX1 9 RX2, Cond.instantiable RX2 13, Cond.methodLink RX1 24 yJ9_floorMod_7cf53, Cond.static yJ9_floorMod_7cf53, Cond.initialized RJ9, Cond.code yJ9_floorMod_7cf53 cJ9_floorMod_7cf53 3 (some .int), Cond.instanceMethod yX2_init, Cond.code yX2_init cX2_init 1 none, Cond.methodLink RX2 3 objectInit, Cond.instanceMethod objectInit, Cond.code objectInit ⟨#[0xb1]⟩ 1 none, Cond.arrayClass .int, Cond.fieldLink RX2 9 "InfluenceJars$Machine" "settings" "[I", Cond.fieldLink RX2 15 "InfluenceJars$Machine" "charges" "[I", Cond.fieldLink RX2 21 "InfluenceJars$Machine" "taken" "[I", Cond.fieldLink RX2 24 "InfluenceJars$Machine" "leakedOfJar" "[I", Cond.fieldLink RX2 27 "InfluenceJars$Machine" "sparkLog" "[I", Cond.methodLink RX1 31 yX2_become, Cond.instanceMethod yX2_become, Cond.selects RX2 yX2_become yX2_become]
def wsX4_set_r3 : List Cond := [Cond.code yX2_become cX2_become 2 none, Cond.fieldLink RX2 34 "InfluenceJars$Machine" "turns" "I", Cond.fieldLink RX2 38 "InfluenceJars$Machine" "sparks" "I", Cond.fieldLink RX2 41 "InfluenceJars$Machine" "reversals" "I", Cond.fieldLink RX2 44 "InfluenceJars$Machine" "latestSign" "I", Cond.fieldLink RX2 47 "InfluenceJars$Machine" "leaked" "I", Cond.fieldLink RX2 50 "InfluenceJars$Machine" "putOn" "I", Cond.fieldLink RX2 53 "InfluenceJars$Machine" "takenOff" "I", Cond.static yX4_copyNumbers, Cond.initialized RX4, Cond.code yX4_copyNumbers cX4_copyNumbers 2 none, Cond.methodLink RX4 209 Lib.Math.min.name, Cond.static Lib.Math.min.name, Cond.code Lib.Math.min.name Lib.Math.min.code 2 (some .int), Cond.methodLink RX4 226 arraycopyName, Cond.native arraycopyName, Cond.static arraycopyName, Cond.initialized "java/lang/System"]
def wsX4_set : List Cond := .code yX4_set cX4_set 4 (some .int) :: ((wsX4_set_r1 ++ (wsX4_set_r2 ++ wsX4_set_r3)) ++ wsX40 ++ wsX20 ++ wsX10)
def wsX4_isNoDisc : List Cond := .code yX4_isNoDisc cX4_isNoDisc 1 (some .boolean) :: ([])
def wsX4_isNoPlace : List Cond := .code yX4_isNoPlace cX4_isNoPlace 1 (some .boolean) :: ([])
def wsX4_touch_r1 : List Cond := [Cond.constant RX4 69 (-1000001), Cond.constant RX4 42 (-1000002), Cond.fieldLink RX4 22 "InfluenceJars" "history" "LInfluenceJars$History;", Cond.fieldLink RX4 10 "InfluenceJars" "now" "LInfluenceJars$Machine;", Cond.methodLink RX4 62 yX4_isNoDisc, Cond.static yX4_isNoDisc, Cond.initialized RX4, Cond.code yX4_isNoDisc cX4_isNoDisc 1 (some .boolean), Cond.methodLink RX4 66 yX4_isNoPlace, Cond.static yX4_isNoPlace, Cond.code yX4_isNoPlace cX4_isNoPlace 1 (some .boolean), Cond.methodLink RX4 55 yX1_record, Cond.instanceMethod yX1_record, Cond.selects RX1 yX1_record yX1_record, Cond.initialized RX1, Cond.code yX1_record cX1_record 4 none, Cond.fieldLink RX1 17 "InfluenceJars$History" "size" "I", Cond.fieldLink RX1 21 "InfluenceJars$History" "oldest" "I", Cond.fieldLink RX1 11 "InfluenceJars$History" "states" "[LInfluenceJars$Machine;", Cond.classLink RX1 9 RX2, Cond.instantiable RX2 13, Cond.initialized RX2, Cond.methodLink RX1 24 yJ9_floorMod_7cf53, Cond.static yJ9_floorMod_7cf53]
def wsX4_touch_r2 : List Cond := [Cond.initialized RJ9, Cond.code yJ9_floorMod_7cf53 cJ9_floorMod_7cf53 3 (some .int), Cond.instanceMethod yX2_init, Cond.code yX2_init cX2_init 1 none, Cond.methodLink RX2 3 objectInit, Cond.instanceMethod objectInit, Cond.code objectInit ⟨#[0xb1]⟩ 1 none, Cond.arrayClass .int, Cond.fieldLink RX2 9 "InfluenceJars$Machine" "settings" "[I", Cond.fieldLink RX2 15 "InfluenceJars$Machine" "charges" "[I", Cond.fieldLink RX2 18 "InfluenceJars$Machine" "jars" "[I", Cond.fieldLink RX2 21 "InfluenceJars$Machine" "taken" "[I", Cond.fieldLink RX2 24 "InfluenceJars$Machine" "leakedOfJar" "[I", Cond.fieldLink RX2 27 "InfluenceJars$Machine" "sparkLog" "[I", Cond.methodLink RX1 31 yX2_become, Cond.instanceMethod yX2_become, Cond.selects RX2 yX2_become yX2_become, Cond.code yX2_become cX2_become 2 none, Cond.fieldLink RX2 34 "InfluenceJars$Machine" "turns" "I", Cond.fieldLink RX2 38 "InfluenceJars$Machine" "sparks" "I", Cond.fieldLink RX2 41 "InfluenceJars$Machine" "reversals" "I", Cond.fieldLink RX2 44 "InfluenceJars$Machine" "latestSign" "I", Cond.fieldLink RX2 47 "InfluenceJars$Machine" "leaked" "I", Cond.fieldLink RX2 50 "InfluenceJars$Machine" "putOn" "I"]
def wsX4_touch_r3 : List Cond := [Cond.fieldLink RX2 53 "InfluenceJars$Machine" "takenOff" "I", Cond.static yX4_copyNumbers, Cond.code yX4_copyNumbers cX4_copyNumbers 2 none, Cond.methodLink RX4 209 Lib.Math.min.name, Cond.static Lib.Math.min.name, Cond.initialized "java/lang/Math", Cond.code Lib.Math.min.name Lib.Math.min.code 2 (some .int), Cond.methodLink RX4 226 arraycopyName, Cond.native arraycopyName, Cond.static arraycopyName, Cond.initialized "java/lang/System", Cond.methodLink RX4 70 yX2_putCharge, Cond.instanceMethod yX2_putCharge, Cond.selects RX2 yX2_putCharge yX2_putCharge, Cond.code yX2_putCharge cX2_putCharge 6 (some .int), Cond.methodLink RX2 84 yX2_indexOf, Cond.static yX2_indexOf, Cond.code yX2_indexOf cX2_indexOf 3 (some .int), Cond.methodLink RX2 56 yJ9_floorMod_7cf53]
def wsX4_touch : List Cond := .code yX4_touch cX4_touch 4 (some .int) :: ((wsX4_touch_r1 ++ (wsX4_touch_r2 ++ wsX4_touch_r3)) ++ wsX40 ++ wsX10 ++ wsX20)
def wsX4_turn_r1 : List Cond := [Cond.constant RX4 42 (-1000002), Cond.fieldLink RX4 10 "InfluenceJars" "now" "LInfluenceJars$Machine;", Cond.constant RX4 77 (-1000004), Cond.fieldLink RX4 22 "InfluenceJars" "history" "LInfluenceJars$History;", Cond.methodLink RX4 74 yX2_hasTurnsLeft, Cond.instanceMethod yX2_hasTurnsLeft, Cond.selects RX2 yX2_hasTurnsLeft yX2_hasTurnsLeft, Cond.initialized RX2, Cond.code yX2_hasTurnsLeft cX2_hasTurnsLeft 2 (some .boolean), Cond.fieldLink RX2 34 "InfluenceJars$Machine" "turns" "I", Cond.constant RX2 83 (99999), Cond.methodLink RX4 55 yX1_record, Cond.instanceMethod yX1_record, Cond.selects RX1 yX1_record yX1_record, Cond.initialized RX1, Cond.code yX1_record cX1_record 4 none, Cond.fieldLink RX1 17 "InfluenceJars$History" "size" "I", Cond.fieldLink RX1 21 "InfluenceJars$History" "oldest" "I", Cond.fieldLink RX1 11 "InfluenceJars$History" "states" "[LInfluenceJars$Machine;", Cond.classLink RX1 9 RX2, Cond.instantiable RX2 13, Cond.methodLink RX1 24 yJ9_floorMod_7cf53, Cond.static yJ9_floorMod_7cf53, Cond.initialized RJ9]
def wsX4_turn_r2 : List Cond := [Cond.code yJ9_floorMod_7cf53 cJ9_floorMod_7cf53 3 (some .int), Cond.instanceMethod yX2_init, Cond.code yX2_init cX2_init 1 none, Cond.methodLink RX2 3 objectInit, Cond.instanceMethod objectInit, Cond.code objectInit ⟨#[0xb1]⟩ 1 none, Cond.arrayClass .int, Cond.fieldLink RX2 9 "InfluenceJars$Machine" "settings" "[I", Cond.fieldLink RX2 15 "InfluenceJars$Machine" "charges" "[I", Cond.fieldLink RX2 18 "InfluenceJars$Machine" "jars" "[I", Cond.fieldLink RX2 21 "InfluenceJars$Machine" "taken" "[I", Cond.fieldLink RX2 24 "InfluenceJars$Machine" "leakedOfJar" "[I", Cond.fieldLink RX2 27 "InfluenceJars$Machine" "sparkLog" "[I", Cond.methodLink RX1 31 yX2_become, Cond.instanceMethod yX2_become, Cond.selects RX2 yX2_become yX2_become, Cond.code yX2_become cX2_become 2 none, Cond.fieldLink RX2 38 "InfluenceJars$Machine" "sparks" "I", Cond.fieldLink RX2 41 "InfluenceJars$Machine" "reversals" "I", Cond.fieldLink RX2 44 "InfluenceJars$Machine" "latestSign" "I", Cond.fieldLink RX2 47 "InfluenceJars$Machine" "leaked" "I", Cond.fieldLink RX2 50 "InfluenceJars$Machine" "putOn" "I", Cond.fieldLink RX2 53 "InfluenceJars$Machine" "takenOff" "I", Cond.static yX4_copyNumbers]
def wsX4_turn_r3 : List Cond := [Cond.initialized RX4, Cond.code yX4_copyNumbers cX4_copyNumbers 2 none, Cond.methodLink RX4 209 Lib.Math.min.name, Cond.static Lib.Math.min.name, Cond.initialized "java/lang/Math", Cond.code Lib.Math.min.name Lib.Math.min.code 2 (some .int), Cond.methodLink RX4 226 arraycopyName, Cond.native arraycopyName, Cond.static arraycopyName, Cond.initialized "java/lang/System", Cond.methodLink RX4 78 yX2_turnHandle, Cond.instanceMethod yX2_turnHandle, Cond.selects RX2 yX2_turnHandle yX2_turnHandle, Cond.code yX2_turnHandle cX2_turnHandle 4 (some .int), Cond.methodLink RX2 95 yX2_turnOnce, Cond.instanceMethod yX2_turnOnce, Cond.selects RX2 yX2_turnOnce yX2_turnOnce, Cond.code yX2_turnOnce cX2_turnOnce 1 none, Cond.methodLink RX2 98 yX2_turnAheadOfSpark, Cond.instanceMethod yX2_turnAheadOfSpark, Cond.selects RX2 yX2_turnAheadOfSpark yX2_turnAheadOfSpark, Cond.code yX2_turnAheadOfSpark cX2_turnAheadOfSpark 1 none, Cond.methodLink RX2 112 yX2_join, Cond.instanceMethod yX2_join]
def wsX4_turn_r4 : List Cond := [Cond.selects RX2 yX2_join yX2_join, Cond.code yX2_join cX2_join 14 none, Cond.methodLink RX2 71 Lib.Math.max.name, Cond.static Lib.Math.max.name, Cond.code Lib.Math.max.name Lib.Math.max.code 2 (some .int), Cond.methodLink RX2 74 Lib.Math.min.name, Cond.methodLink RX2 84 yX2_indexOf, Cond.static yX2_indexOf, Cond.code yX2_indexOf cX2_indexOf 3 (some .int), Cond.methodLink RX2 56 yJ9_floorMod_7cf53, Cond.static yX4_limited, Cond.code yX4_limited cX4_limited 3 (some .int), Cond.methodLink RX4 204 Lib.Math.max.name, Cond.methodLink RX2 116 yX2_gather, Cond.instanceMethod yX2_gather, Cond.selects RX2 yX2_gather yX2_gather, Cond.code yX2_gather cX2_gather 7 none, Cond.methodLink RX2 120 yX2_leakFromSectors, Cond.instanceMethod yX2_leakFromSectors, Cond.selects RX2 yX2_leakFromSectors yX2_leakFromSectors, Cond.code yX2_leakFromSectors cX2_leakFromSectors 3 none, Cond.methodLink RX2 123 yX2_leakFromJar, Cond.instanceMethod yX2_leakFromJar, Cond.selects RX2 yX2_leakFromJar yX2_leakFromJar]
def wsX4_turn_r5 : List Cond := [Cond.code yX2_leakFromJar cX2_leakFromJar 3 none, Cond.methodLink RX2 101 yX2_isSparkDue, Cond.instanceMethod yX2_isSparkDue, Cond.selects RX2 yX2_isSparkDue yX2_isSparkDue, Cond.code yX2_isSparkDue cX2_isSparkDue 1 (some .boolean), Cond.methodLink RX2 88 yX2_difference, Cond.instanceMethod yX2_difference, Cond.selects RX2 yX2_difference yX2_difference, Cond.code yX2_difference cX2_difference 1 (some .int), Cond.methodLink RX2 80 Lib.Math.abs.name, Cond.static Lib.Math.abs.name, Cond.code Lib.Math.abs.name Lib.Math.abs.code 1 (some .int), Cond.methodLink RX2 106 yX2_letJump, Cond.instanceMethod yX2_letJump, Cond.selects RX2 yX2_letJump yX2_letJump, Cond.code yX2_letJump cX2_letJump 4 none, Cond.methodLink RX2 130 yX2_logIndexOf, Cond.static yX2_logIndexOf, Cond.code yX2_logIndexOf cX2_logIndexOf 1 (some .int), Cond.methodLink RX2 109 yX2_noteSign, Cond.instanceMethod yX2_noteSign, Cond.selects RX2 yX2_noteSign yX2_noteSign, Cond.code yX2_noteSign cX2_noteSign 2 none, Cond.methodLink RX2 133 yX2_sign]
def wsX4_turn_r6 : List Cond := [Cond.instanceMethod yX2_sign, Cond.selects RX2 yX2_sign yX2_sign, Cond.code yX2_sign cX2_sign 1 (some .int), Cond.methodLink RX2 66 yJ6_signum_0f7a4, Cond.static yJ6_signum_0f7a4, Cond.initialized RJ6, Cond.code yJ6_signum_0f7a4 cJ6_signum_0f7a4 1 (some .int)]
def wsX4_turn : List Cond := .code yX4_turn cX4_turn 2 (some .int) :: ((wsX4_turn_r1 ++ (wsX4_turn_r2 ++ (wsX4_turn_r3 ++ (wsX4_turn_r4 ++ (wsX4_turn_r5 ++ wsX4_turn_r6))))) ++ wsX40 ++ wsX20 ++ wsX10)
def wsX4_discharge_r1 : List Cond := [Cond.fieldLink RX4 22 "InfluenceJars" "history" "LInfluenceJars$History;", Cond.fieldLink RX4 10 "InfluenceJars" "now" "LInfluenceJars$Machine;", Cond.methodLink RX4 55 yX1_record, Cond.instanceMethod yX1_record, Cond.selects RX1 yX1_record yX1_record, Cond.initialized RX1, Cond.code yX1_record cX1_record 4 none, Cond.fieldLink RX1 17 "InfluenceJars$History" "size" "I", Cond.fieldLink RX1 21 "InfluenceJars$History" "oldest" "I", Cond.fieldLink RX1 11 "InfluenceJars$History" "states" "[LInfluenceJars$Machine;", Cond.classLink RX1 9 RX2, Cond.instantiable RX2 13, Cond.initialized RX2, Cond.methodLink RX1 24 yJ9_floorMod_7cf53, Cond.static yJ9_floorMod_7cf53, Cond.initialized RJ9, Cond.code yJ9_floorMod_7cf53 cJ9_floorMod_7cf53 3 (some .int), Cond.instanceMethod yX2_init, Cond.code yX2_init cX2_init 1 none, Cond.methodLink RX2 3 objectInit, Cond.instanceMethod objectInit, Cond.code objectInit ⟨#[0xb1]⟩ 1 none, Cond.arrayClass .int, Cond.fieldLink RX2 9 "InfluenceJars$Machine" "settings" "[I"]
def wsX4_discharge_r2 : List Cond := [Cond.fieldLink RX2 15 "InfluenceJars$Machine" "charges" "[I", Cond.fieldLink RX2 18 "InfluenceJars$Machine" "jars" "[I", Cond.fieldLink RX2 21 "InfluenceJars$Machine" "taken" "[I", Cond.fieldLink RX2 24 "InfluenceJars$Machine" "leakedOfJar" "[I", Cond.fieldLink RX2 27 "InfluenceJars$Machine" "sparkLog" "[I", Cond.methodLink RX1 31 yX2_become, Cond.instanceMethod yX2_become, Cond.selects RX2 yX2_become yX2_become, Cond.code yX2_become cX2_become 2 none, Cond.fieldLink RX2 34 "InfluenceJars$Machine" "turns" "I", Cond.fieldLink RX2 38 "InfluenceJars$Machine" "sparks" "I", Cond.fieldLink RX2 41 "InfluenceJars$Machine" "reversals" "I", Cond.fieldLink RX2 44 "InfluenceJars$Machine" "latestSign" "I", Cond.fieldLink RX2 47 "InfluenceJars$Machine" "leaked" "I", Cond.fieldLink RX2 50 "InfluenceJars$Machine" "putOn" "I", Cond.fieldLink RX2 53 "InfluenceJars$Machine" "takenOff" "I", Cond.static yX4_copyNumbers, Cond.initialized RX4, Cond.code yX4_copyNumbers cX4_copyNumbers 2 none, Cond.methodLink RX4 209 Lib.Math.min.name, Cond.static Lib.Math.min.name, Cond.initialized "java/lang/Math", Cond.code Lib.Math.min.name Lib.Math.min.code 2 (some .int), Cond.methodLink RX4 226 arraycopyName]
def wsX4_discharge_r3 : List Cond := [Cond.native arraycopyName, Cond.static arraycopyName, Cond.initialized "java/lang/System", Cond.methodLink RX4 82 yX2_emptyJars, Cond.instanceMethod yX2_emptyJars, Cond.selects RX2 yX2_emptyJars yX2_emptyJars, Cond.code yX2_emptyJars cX2_emptyJars 2 (some .int), Cond.methodLink RX2 88 yX2_difference, Cond.instanceMethod yX2_difference, Cond.selects RX2 yX2_difference yX2_difference, Cond.code yX2_difference cX2_difference 1 (some .int), Cond.methodLink RX2 80 Lib.Math.abs.name, Cond.static Lib.Math.abs.name, Cond.code Lib.Math.abs.name Lib.Math.abs.code 1 (some .int)]
def wsX4_discharge : List Cond := .code yX4_discharge cX4_discharge 1 (some .int) :: ((wsX4_discharge_r1 ++ (wsX4_discharge_r2 ++ wsX4_discharge_r3)) ++ wsX40 ++ wsX10 ++ wsX20)
def wsX4_wipeDisc_r1 : List Cond := [Cond.constant RX4 69 (-1000001), Cond.fieldLink RX4 22 "InfluenceJars" "history" "LInfluenceJars$History;", Cond.fieldLink RX4 10 "InfluenceJars" "now" "LInfluenceJars$Machine;", Cond.methodLink RX4 62 yX4_isNoDisc, Cond.static yX4_isNoDisc, Cond.initialized RX4, Cond.code yX4_isNoDisc cX4_isNoDisc 1 (some .boolean), Cond.methodLink RX4 55 yX1_record, Cond.instanceMethod yX1_record, Cond.selects RX1 yX1_record yX1_record, Cond.initialized RX1, Cond.code yX1_record cX1_record 4 none, Cond.fieldLink RX1 17 "InfluenceJars$History" "size" "I", Cond.fieldLink RX1 21 "InfluenceJars$History" "oldest" "I", Cond.fieldLink RX1 11 "InfluenceJars$History" "states" "[LInfluenceJars$Machine;", Cond.classLink RX1 9 RX2, Cond.instantiable RX2 13, Cond.initialized RX2, Cond.methodLink RX1 24 yJ9_floorMod_7cf53, Cond.static yJ9_floorMod_7cf53, Cond.initialized RJ9, Cond.code yJ9_floorMod_7cf53 cJ9_floorMod_7cf53 3 (some .int), Cond.instanceMethod yX2_init, Cond.code yX2_init cX2_init 1 none]
def wsX4_wipeDisc_r2 : List Cond := [Cond.methodLink RX2 3 objectInit, Cond.instanceMethod objectInit, Cond.code objectInit ⟨#[0xb1]⟩ 1 none, Cond.arrayClass .int, Cond.fieldLink RX2 9 "InfluenceJars$Machine" "settings" "[I", Cond.fieldLink RX2 15 "InfluenceJars$Machine" "charges" "[I", Cond.fieldLink RX2 18 "InfluenceJars$Machine" "jars" "[I", Cond.fieldLink RX2 21 "InfluenceJars$Machine" "taken" "[I", Cond.fieldLink RX2 24 "InfluenceJars$Machine" "leakedOfJar" "[I", Cond.fieldLink RX2 27 "InfluenceJars$Machine" "sparkLog" "[I", Cond.methodLink RX1 31 yX2_become, Cond.instanceMethod yX2_become, Cond.selects RX2 yX2_become yX2_become, Cond.code yX2_become cX2_become 2 none, Cond.fieldLink RX2 34 "InfluenceJars$Machine" "turns" "I", Cond.fieldLink RX2 38 "InfluenceJars$Machine" "sparks" "I", Cond.fieldLink RX2 41 "InfluenceJars$Machine" "reversals" "I", Cond.fieldLink RX2 44 "InfluenceJars$Machine" "latestSign" "I", Cond.fieldLink RX2 47 "InfluenceJars$Machine" "leaked" "I", Cond.fieldLink RX2 50 "InfluenceJars$Machine" "putOn" "I", Cond.fieldLink RX2 53 "InfluenceJars$Machine" "takenOff" "I", Cond.static yX4_copyNumbers, Cond.code yX4_copyNumbers cX4_copyNumbers 2 none, Cond.methodLink RX4 209 Lib.Math.min.name]
def wsX4_wipeDisc_r3 : List Cond := [Cond.static Lib.Math.min.name, Cond.initialized "java/lang/Math", Cond.code Lib.Math.min.name Lib.Math.min.code 2 (some .int), Cond.methodLink RX4 226 arraycopyName, Cond.native arraycopyName, Cond.static arraycopyName, Cond.initialized "java/lang/System", Cond.methodLink RX4 85 yX2_emptySectors, Cond.instanceMethod yX2_emptySectors, Cond.selects RX2 yX2_emptySectors yX2_emptySectors, Cond.code yX2_emptySectors cX2_emptySectors 5 (some .int), Cond.methodLink RX2 92 yX2_sectorsWithSign, Cond.instanceMethod yX2_sectorsWithSign, Cond.selects RX2 yX2_sectorsWithSign yX2_sectorsWithSign, Cond.code yX2_sectorsWithSign cX2_sectorsWithSign 6 (some .int), Cond.methodLink RX2 62 yX2_firstIndexOf, Cond.static yX2_firstIndexOf, Cond.code yX2_firstIndexOf cX2_firstIndexOf 1 (some .int), Cond.methodLink RX2 66 yJ6_signum_0f7a4, Cond.static yJ6_signum_0f7a4, Cond.initialized RJ6, Cond.code yJ6_signum_0f7a4 cJ6_signum_0f7a4 1 (some .int), Cond.methodLink RX2 77 yX2_sumOfDisc, Cond.instanceMethod yX2_sumOfDisc]
def wsX4_wipeDisc_r4 : List Cond := [Cond.selects RX2 yX2_sumOfDisc yX2_sumOfDisc, Cond.code yX2_sumOfDisc cX2_sumOfDisc 5 (some .int)]
def wsX4_wipeDisc : List Cond := .code yX4_wipeDisc cX4_wipeDisc 2 (some .int) :: ((wsX4_wipeDisc_r1 ++ (wsX4_wipeDisc_r2 ++ (wsX4_wipeDisc_r3 ++ wsX4_wipeDisc_r4))) ++ wsX40 ++ wsX10 ++ wsX20)
def wsX4_doReadDeed_r1 : List Cond := [Cond.fieldLink RX4 33 "InfluenceJars" "reader" "LInfluenceJars$DeedReader;", Cond.fieldLink RX4 116 "InfluenceJars$DeedReader" "deed" "I", Cond.fieldLink RX4 10 "InfluenceJars" "now" "LInfluenceJars$Machine;", Cond.fieldLink RX4 119 "InfluenceJars$DeedReader" "disc" "I", Cond.fieldLink RX4 122 "InfluenceJars$DeedReader" "place" "I", Cond.fieldLink RX4 125 "InfluenceJars$DeedReader" "amount" "I", Cond.methodLink RX4 70 yX2_putCharge, Cond.instanceMethod yX2_putCharge, Cond.selects RX2 yX2_putCharge yX2_putCharge, Cond.initialized RX2, Cond.code yX2_putCharge cX2_putCharge 6 (some .int), Cond.fieldLink RX2 34 "InfluenceJars$Machine" "turns" "I", Cond.fieldLink RX2 15 "InfluenceJars$Machine" "charges" "[I", Cond.fieldLink RX2 50 "InfluenceJars$Machine" "putOn" "I", Cond.methodLink RX2 84 yX2_indexOf, Cond.static yX2_indexOf, Cond.code yX2_indexOf cX2_indexOf 3 (some .int), Cond.methodLink RX2 56 yJ9_floorMod_7cf53, Cond.static yJ9_floorMod_7cf53, Cond.initialized RJ9, Cond.code yJ9_floorMod_7cf53 cJ9_floorMod_7cf53 3 (some .int), Cond.methodLink RX4 82 yX2_emptyJars, Cond.instanceMethod yX2_emptyJars, Cond.selects RX2 yX2_emptyJars yX2_emptyJars]
def wsX4_doReadDeed_r2 : List Cond := [Cond.code yX2_emptyJars cX2_emptyJars 2 (some .int), Cond.fieldLink RX2 53 "InfluenceJars$Machine" "takenOff" "I", Cond.fieldLink RX2 18 "InfluenceJars$Machine" "jars" "[I", Cond.methodLink RX2 88 yX2_difference, Cond.instanceMethod yX2_difference, Cond.selects RX2 yX2_difference yX2_difference, Cond.code yX2_difference cX2_difference 1 (some .int), Cond.methodLink RX2 80 Lib.Math.abs.name, Cond.static Lib.Math.abs.name, Cond.initialized "java/lang/Math", Cond.code Lib.Math.abs.name Lib.Math.abs.code 1 (some .int), Cond.methodLink RX4 74 yX2_hasTurnsLeft, Cond.instanceMethod yX2_hasTurnsLeft, Cond.selects RX2 yX2_hasTurnsLeft yX2_hasTurnsLeft, Cond.code yX2_hasTurnsLeft cX2_hasTurnsLeft 2 (some .boolean), Cond.constant RX2 83 (99999), Cond.methodLink RX4 78 yX2_turnHandle, Cond.instanceMethod yX2_turnHandle, Cond.selects RX2 yX2_turnHandle yX2_turnHandle, Cond.code yX2_turnHandle cX2_turnHandle 4 (some .int), Cond.fieldLink RX2 38 "InfluenceJars$Machine" "sparks" "I", Cond.methodLink RX2 95 yX2_turnOnce, Cond.instanceMethod yX2_turnOnce, Cond.selects RX2 yX2_turnOnce yX2_turnOnce]
def wsX4_doReadDeed_r3 : List Cond := [Cond.code yX2_turnOnce cX2_turnOnce 1 none, Cond.methodLink RX2 98 yX2_turnAheadOfSpark, Cond.instanceMethod yX2_turnAheadOfSpark, Cond.selects RX2 yX2_turnAheadOfSpark yX2_turnAheadOfSpark, Cond.code yX2_turnAheadOfSpark cX2_turnAheadOfSpark 1 none, Cond.methodLink RX2 112 yX2_join, Cond.instanceMethod yX2_join, Cond.selects RX2 yX2_join yX2_join, Cond.code yX2_join cX2_join 14 none, Cond.fieldLink RX2 9 "InfluenceJars$Machine" "settings" "[I", Cond.methodLink RX2 71 Lib.Math.max.name, Cond.static Lib.Math.max.name, Cond.code Lib.Math.max.name Lib.Math.max.code 2 (some .int), Cond.methodLink RX2 74 Lib.Math.min.name, Cond.static Lib.Math.min.name, Cond.code Lib.Math.min.name Lib.Math.min.code 2 (some .int), Cond.static yX4_limited, Cond.initialized RX4, Cond.code yX4_limited cX4_limited 3 (some .int), Cond.methodLink RX4 209 Lib.Math.min.name, Cond.methodLink RX4 204 Lib.Math.max.name, Cond.methodLink RX2 116 yX2_gather, Cond.instanceMethod yX2_gather, Cond.selects RX2 yX2_gather yX2_gather]
def wsX4_doReadDeed_r4 : List Cond := [Cond.code yX2_gather cX2_gather 7 none, Cond.fieldLink RX2 21 "InfluenceJars$Machine" "taken" "[I", Cond.methodLink RX2 120 yX2_leakFromSectors, Cond.instanceMethod yX2_leakFromSectors, Cond.selects RX2 yX2_leakFromSectors yX2_leakFromSectors, Cond.code yX2_leakFromSectors cX2_leakFromSectors 3 none, Cond.fieldLink RX2 47 "InfluenceJars$Machine" "leaked" "I", Cond.methodLink RX2 123 yX2_leakFromJar, Cond.instanceMethod yX2_leakFromJar, Cond.selects RX2 yX2_leakFromJar yX2_leakFromJar, Cond.code yX2_leakFromJar cX2_leakFromJar 3 none, Cond.fieldLink RX2 24 "InfluenceJars$Machine" "leakedOfJar" "[I", Cond.methodLink RX2 101 yX2_isSparkDue, Cond.instanceMethod yX2_isSparkDue, Cond.selects RX2 yX2_isSparkDue yX2_isSparkDue, Cond.code yX2_isSparkDue cX2_isSparkDue 1 (some .boolean), Cond.methodLink RX2 106 yX2_letJump, Cond.instanceMethod yX2_letJump, Cond.selects RX2 yX2_letJump yX2_letJump, Cond.code yX2_letJump cX2_letJump 4 none, Cond.fieldLink RX2 27 "InfluenceJars$Machine" "sparkLog" "[I", Cond.methodLink RX2 130 yX2_logIndexOf, Cond.static yX2_logIndexOf, Cond.code yX2_logIndexOf cX2_logIndexOf 1 (some .int)]
def wsX4_doReadDeed_r5 : List Cond := [Cond.methodLink RX2 109 yX2_noteSign, Cond.instanceMethod yX2_noteSign, Cond.selects RX2 yX2_noteSign yX2_noteSign, Cond.code yX2_noteSign cX2_noteSign 2 none, Cond.fieldLink RX2 44 "InfluenceJars$Machine" "latestSign" "I", Cond.fieldLink RX2 41 "InfluenceJars$Machine" "reversals" "I", Cond.methodLink RX2 133 yX2_sign, Cond.instanceMethod yX2_sign, Cond.selects RX2 yX2_sign yX2_sign, Cond.code yX2_sign cX2_sign 1 (some .int), Cond.methodLink RX2 66 yJ6_signum_0f7a4, Cond.static yJ6_signum_0f7a4, Cond.initialized RJ6, Cond.code yJ6_signum_0f7a4 cJ6_signum_0f7a4 1 (some .int)]
def wsX4_doReadDeed : List Cond := .code yX4_doReadDeed cX4_doReadDeed 1 none :: ((wsX4_doReadDeed_r1 ++ (wsX4_doReadDeed_r2 ++ (wsX4_doReadDeed_r3 ++ (wsX4_doReadDeed_r4 ++ wsX4_doReadDeed_r5)))) ++ wsX40 ++ wsX00 ++ wsX20)
def wsX4_run_r1 : List Cond := [Cond.fieldLink RX4 33 "InfluenceJars" "reader" "LInfluenceJars$DeedReader;", Cond.constant RX4 91 (-1000006), Cond.constant RX4 92 (-1000003), Cond.fieldLink RX4 22 "InfluenceJars" "history" "LInfluenceJars$History;", Cond.fieldLink RX4 10 "InfluenceJars" "now" "LInfluenceJars$Machine;", Cond.fieldLink RX4 93 "InfluenceJars$Machine" "sparks" "I", Cond.fieldLink RX4 41 "InfluenceJars" "pad" "LInfluenceJars$Pad;", Cond.methodLink RX4 88 yX0_findFault, Cond.instanceMethod yX0_findFault, Cond.selects RX0 yX0_findFault yX0_findFault, Cond.initialized RX0, Cond.code yX0_findFault cX0_findFault 2 (some .int), Cond.fieldLink RX0 18 "InfluenceJars$DeedReader" "at" "I", Cond.fieldLink RX0 12 "InfluenceJars$DeedReader" "pad" "LInfluenceJars$Pad;", Cond.fieldLink RX0 33 "InfluenceJars$Pad" "length" "I", Cond.constant RX0 36 (-1000006), Cond.methodLink RX0 22 yX0_start, Cond.instanceMethod yX0_start, Cond.selects RX0 yX0_start yX0_start, Cond.code yX0_start cX0_start 1 none, Cond.methodLink RX0 25 yX0_readDeed, Cond.instanceMethod yX0_readDeed, Cond.selects RX0 yX0_readDeed yX0_readDeed, Cond.code yX0_readDeed cX0_readDeed 1 (some .boolean)]
def wsX4_run_r2 : List Cond := [Cond.fieldLink RX0 41 "InfluenceJars$DeedReader" "deed" "I", Cond.fieldLink RX0 48 "InfluenceJars$DeedReader" "amount" "I", Cond.methodLink RX0 29 yX0_readSign, Cond.instanceMethod yX0_readSign, Cond.selects RX0 yX0_readSign yX0_readSign, Cond.code yX0_readSign cX0_readSign 2 (some .boolean), Cond.methodLink RX0 37 yX3_signAt, Cond.instanceMethod yX3_signAt, Cond.selects RX3 yX3_signAt yX3_signAt, Cond.initialized RX3, Cond.code yX3_signAt cX3_signAt 2 (some .char), Cond.fieldLink RX3 15 "InfluenceJars$Pad" "length" "I", Cond.fieldLink RX3 9 "InfluenceJars$Pad" "signs" "[C", Cond.methodLink RX0 44 yX0_readNumber, Cond.instanceMethod yX0_readNumber, Cond.selects RX0 yX0_readNumber yX0_readNumber, Cond.code yX0_readNumber cX0_readNumber 6 (some .int), Cond.methodLink RX0 63 yX0_digitAt, Cond.instanceMethod yX0_digitAt, Cond.selects RX0 yX0_digitAt yX0_digitAt, Cond.code yX0_digitAt cX0_digitAt 3 (some .int), Cond.methodLink RX0 51 yX0_readSector, Cond.instanceMethod yX0_readSector, Cond.selects RX0 yX0_readSector yX0_readSector]
def wsX4_run_r3 : List Cond := [Cond.code yX0_readSector cX0_readSector 1 (some .boolean), Cond.fieldLink RX0 57 "InfluenceJars$DeedReader" "disc" "I", Cond.fieldLink RX0 60 "InfluenceJars$DeedReader" "place" "I", Cond.methodLink RX0 54 yX0_readCharge, Cond.instanceMethod yX0_readCharge, Cond.selects RX0 yX0_readCharge yX0_readCharge, Cond.code yX0_readCharge cX0_readCharge 3 (some .boolean), Cond.methodLink RX4 55 yX1_record, Cond.instanceMethod yX1_record, Cond.selects RX1 yX1_record yX1_record, Cond.initialized RX1, Cond.code yX1_record cX1_record 4 none, Cond.fieldLink RX1 17 "InfluenceJars$History" "size" "I", Cond.fieldLink RX1 21 "InfluenceJars$History" "oldest" "I", Cond.fieldLink RX1 11 "InfluenceJars$History" "states" "[LInfluenceJars$Machine;", Cond.classLink RX1 9 RX2, Cond.instantiable RX2 13, Cond.initialized RX2, Cond.methodLink RX1 24 yJ9_floorMod_7cf53, Cond.static yJ9_floorMod_7cf53, Cond.initialized RJ9, Cond.code yJ9_floorMod_7cf53 cJ9_floorMod_7cf53 3 (some .int), Cond.instanceMethod yX2_init, Cond.code yX2_init cX2_init 1 none]
def wsX4_run_r4 : List Cond := [Cond.methodLink RX2 3 objectInit, Cond.instanceMethod objectInit, Cond.code objectInit ⟨#[0xb1]⟩ 1 none, Cond.arrayClass .int, Cond.fieldLink RX2 9 "InfluenceJars$Machine" "settings" "[I", Cond.fieldLink RX2 15 "InfluenceJars$Machine" "charges" "[I", Cond.fieldLink RX2 18 "InfluenceJars$Machine" "jars" "[I", Cond.fieldLink RX2 21 "InfluenceJars$Machine" "taken" "[I", Cond.fieldLink RX2 24 "InfluenceJars$Machine" "leakedOfJar" "[I", Cond.fieldLink RX2 27 "InfluenceJars$Machine" "sparkLog" "[I", Cond.methodLink RX1 31 yX2_become, Cond.instanceMethod yX2_become, Cond.selects RX2 yX2_become yX2_become, Cond.code yX2_become cX2_become 2 none, Cond.fieldLink RX2 34 "InfluenceJars$Machine" "turns" "I", Cond.fieldLink RX2 38 "InfluenceJars$Machine" "sparks" "I", Cond.fieldLink RX2 41 "InfluenceJars$Machine" "reversals" "I", Cond.fieldLink RX2 44 "InfluenceJars$Machine" "latestSign" "I", Cond.fieldLink RX2 47 "InfluenceJars$Machine" "leaked" "I", Cond.fieldLink RX2 50 "InfluenceJars$Machine" "putOn" "I", Cond.fieldLink RX2 53 "InfluenceJars$Machine" "takenOff" "I", Cond.static yX4_copyNumbers, Cond.initialized RX4, Cond.code yX4_copyNumbers cX4_copyNumbers 2 none]
def wsX4_run_r5 : List Cond := [Cond.methodLink RX4 209 Lib.Math.min.name, Cond.static Lib.Math.min.name, Cond.initialized "java/lang/Math", Cond.code Lib.Math.min.name Lib.Math.min.code 2 (some .int), Cond.methodLink RX4 226 arraycopyName, Cond.native arraycopyName, Cond.static arraycopyName, Cond.initialized "java/lang/System", Cond.methodLink RX4 97 yX0_start, Cond.methodLink RX4 100 yX0_readDeed, Cond.methodLink RX4 104 yX4_doReadDeed, Cond.instanceMethod yX4_doReadDeed, Cond.selects RX4 yX4_doReadDeed yX4_doReadDeed, Cond.code yX4_doReadDeed cX4_doReadDeed 1 none, Cond.fieldLink RX4 116 "InfluenceJars$DeedReader" "deed" "I", Cond.fieldLink RX4 119 "InfluenceJars$DeedReader" "disc" "I", Cond.fieldLink RX4 122 "InfluenceJars$DeedReader" "place" "I", Cond.fieldLink RX4 125 "InfluenceJars$DeedReader" "amount" "I", Cond.methodLink RX4 70 yX2_putCharge, Cond.instanceMethod yX2_putCharge, Cond.selects RX2 yX2_putCharge yX2_putCharge, Cond.code yX2_putCharge cX2_putCharge 6 (some .int), Cond.methodLink RX2 84 yX2_indexOf, Cond.static yX2_indexOf]
def wsX4_run_r6 : List Cond := [Cond.code yX2_indexOf cX2_indexOf 3 (some .int), Cond.methodLink RX2 56 yJ9_floorMod_7cf53, Cond.methodLink RX4 82 yX2_emptyJars, Cond.instanceMethod yX2_emptyJars, Cond.selects RX2 yX2_emptyJars yX2_emptyJars, Cond.code yX2_emptyJars cX2_emptyJars 2 (some .int), Cond.methodLink RX2 88 yX2_difference, Cond.instanceMethod yX2_difference, Cond.selects RX2 yX2_difference yX2_difference, Cond.code yX2_difference cX2_difference 1 (some .int), Cond.methodLink RX2 80 Lib.Math.abs.name, Cond.static Lib.Math.abs.name, Cond.code Lib.Math.abs.name Lib.Math.abs.code 1 (some .int), Cond.methodLink RX4 74 yX2_hasTurnsLeft, Cond.instanceMethod yX2_hasTurnsLeft, Cond.selects RX2 yX2_hasTurnsLeft yX2_hasTurnsLeft, Cond.code yX2_hasTurnsLeft cX2_hasTurnsLeft 2 (some .boolean), Cond.constant RX2 83 (99999), Cond.methodLink RX4 78 yX2_turnHandle, Cond.instanceMethod yX2_turnHandle, Cond.selects RX2 yX2_turnHandle yX2_turnHandle, Cond.code yX2_turnHandle cX2_turnHandle 4 (some .int), Cond.methodLink RX2 95 yX2_turnOnce, Cond.instanceMethod yX2_turnOnce]
def wsX4_run_r7 : List Cond := [Cond.selects RX2 yX2_turnOnce yX2_turnOnce, Cond.code yX2_turnOnce cX2_turnOnce 1 none, Cond.methodLink RX2 98 yX2_turnAheadOfSpark, Cond.instanceMethod yX2_turnAheadOfSpark, Cond.selects RX2 yX2_turnAheadOfSpark yX2_turnAheadOfSpark, Cond.code yX2_turnAheadOfSpark cX2_turnAheadOfSpark 1 none, Cond.methodLink RX2 112 yX2_join, Cond.instanceMethod yX2_join, Cond.selects RX2 yX2_join yX2_join, Cond.code yX2_join cX2_join 14 none, Cond.methodLink RX2 71 Lib.Math.max.name, Cond.static Lib.Math.max.name, Cond.code Lib.Math.max.name Lib.Math.max.code 2 (some .int), Cond.methodLink RX2 74 Lib.Math.min.name, Cond.static yX4_limited, Cond.code yX4_limited cX4_limited 3 (some .int), Cond.methodLink RX4 204 Lib.Math.max.name, Cond.methodLink RX2 116 yX2_gather, Cond.instanceMethod yX2_gather, Cond.selects RX2 yX2_gather yX2_gather, Cond.code yX2_gather cX2_gather 7 none, Cond.methodLink RX2 120 yX2_leakFromSectors, Cond.instanceMethod yX2_leakFromSectors, Cond.selects RX2 yX2_leakFromSectors yX2_leakFromSectors]
def wsX4_run_r8 : List Cond := [Cond.code yX2_leakFromSectors cX2_leakFromSectors 3 none, Cond.methodLink RX2 123 yX2_leakFromJar, Cond.instanceMethod yX2_leakFromJar, Cond.selects RX2 yX2_leakFromJar yX2_leakFromJar, Cond.code yX2_leakFromJar cX2_leakFromJar 3 none, Cond.methodLink RX2 101 yX2_isSparkDue, Cond.instanceMethod yX2_isSparkDue, Cond.selects RX2 yX2_isSparkDue yX2_isSparkDue, Cond.code yX2_isSparkDue cX2_isSparkDue 1 (some .boolean), Cond.methodLink RX2 106 yX2_letJump, Cond.instanceMethod yX2_letJump, Cond.selects RX2 yX2_letJump yX2_letJump, Cond.code yX2_letJump cX2_letJump 4 none, Cond.methodLink RX2 130 yX2_logIndexOf, Cond.static yX2_logIndexOf, Cond.code yX2_logIndexOf cX2_logIndexOf 1 (some .int), Cond.methodLink RX2 109 yX2_noteSign, Cond.instanceMethod yX2_noteSign, Cond.selects RX2 yX2_noteSign yX2_noteSign, Cond.code yX2_noteSign cX2_noteSign 2 none, Cond.methodLink RX2 133 yX2_sign, Cond.instanceMethod yX2_sign, Cond.selects RX2 yX2_sign yX2_sign, Cond.code yX2_sign cX2_sign 1 (some .int)]
def wsX4_run_r9 : List Cond := [Cond.methodLink RX2 66 yJ6_signum_0f7a4, Cond.static yJ6_signum_0f7a4, Cond.initialized RJ6, Cond.code yJ6_signum_0f7a4 cJ6_signum_0f7a4 1 (some .int), Cond.methodLink RX4 107 yX0_readSign, Cond.methodLink RX4 111 yX3_clear, Cond.instanceMethod yX3_clear, Cond.selects RX3 yX3_clear yX3_clear, Cond.code yX3_clear cX3_clear 1 none]
def wsX4_run : List Cond := .code yX4_run cX4_run 3 (some .int) :: ((wsX4_run_r1 ++ (wsX4_run_r2 ++ (wsX4_run_r3 ++ (wsX4_run_r4 ++ (wsX4_run_r5 ++ (wsX4_run_r6 ++ (wsX4_run_r7 ++ (wsX4_run_r8 ++ wsX4_run_r9)))))))) ++ wsX40 ++ wsX20 ++ wsX00 ++ wsX30 ++ wsX10)
def wsX4_sector : List Cond := .code yX4_sector cX4_sector 3 (some .int) :: ([.constant RX4 69 (-1000001), .fieldLink RX4 10 "InfluenceJars" "now" "LInfluenceJars$Machine;", .fieldLink RX4 128 "InfluenceJars$Machine" "charges" "[I", .fieldLink RX4 131 "InfluenceJars$Machine" "turns" "I", .methodLink RX4 62 yX4_isNoDisc, .static yX4_isNoDisc, .initialized RX4, .code yX4_isNoDisc cX4_isNoDisc 1 (some .boolean), .methodLink RX4 66 yX4_isNoPlace, .static yX4_isNoPlace, .code yX4_isNoPlace cX4_isNoPlace 1 (some .boolean), .methodLink RX4 134 yX2_indexOf, .static yX2_indexOf, .initialized RX2, .code yX2_indexOf cX2_indexOf 3 (some .int), .methodLink RX2 56 yJ9_floorMod_7cf53, .static yJ9_floorMod_7cf53, .initialized RJ9, .code yJ9_floorMod_7cf53 cJ9_floorMod_7cf53 3 (some .int)] ++ wsX40 ++ wsX20)
def wsX4_disc_r1 : List Cond := [Cond.constant RX4 69 (-1000001), Cond.fieldLink RX4 10 "InfluenceJars" "now" "LInfluenceJars$Machine;", Cond.constant RX4 42 (-1000002), Cond.methodLink RX4 62 yX4_isNoDisc, Cond.static yX4_isNoDisc, Cond.initialized RX4, Cond.code yX4_isNoDisc cX4_isNoDisc 1 (some .boolean), Cond.methodLink RX4 137 yX2_sumOfDisc, Cond.instanceMethod yX2_sumOfDisc, Cond.selects RX2 yX2_sumOfDisc yX2_sumOfDisc, Cond.initialized RX2, Cond.code yX2_sumOfDisc cX2_sumOfDisc 5 (some .int), Cond.fieldLink RX2 15 "InfluenceJars$Machine" "charges" "[I", Cond.methodLink RX2 62 yX2_firstIndexOf, Cond.static yX2_firstIndexOf, Cond.code yX2_firstIndexOf cX2_firstIndexOf 1 (some .int), Cond.methodLink RX4 140 yX2_sectorsWithSign, Cond.instanceMethod yX2_sectorsWithSign, Cond.selects RX2 yX2_sectorsWithSign yX2_sectorsWithSign, Cond.code yX2_sectorsWithSign cX2_sectorsWithSign 6 (some .int), Cond.methodLink RX2 66 yJ6_signum_0f7a4, Cond.static yJ6_signum_0f7a4, Cond.initialized RJ6, Cond.code yJ6_signum_0f7a4 cJ6_signum_0f7a4 1 (some .int)]
def wsX4_disc_r2 : List Cond := [Cond.methodLink RX4 144 yX2_greatestOfDisc, Cond.instanceMethod yX2_greatestOfDisc, Cond.selects RX2 yX2_greatestOfDisc yX2_greatestOfDisc, Cond.code yX2_greatestOfDisc cX2_greatestOfDisc 5 (some .int), Cond.methodLink RX2 71 Lib.Math.max.name, Cond.static Lib.Math.max.name, Cond.initialized "java/lang/Math", Cond.code Lib.Math.max.name Lib.Math.max.code 2 (some .int), Cond.methodLink RX4 147 yX2_leastOfDisc, Cond.instanceMethod yX2_leastOfDisc, Cond.selects RX2 yX2_leastOfDisc yX2_leastOfDisc, Cond.code yX2_leastOfDisc cX2_leastOfDisc 5 (some .int), Cond.methodLink RX2 74 Lib.Math.min.name, Cond.static Lib.Math.min.name, Cond.code Lib.Math.min.name Lib.Math.min.code 2 (some .int)]
def wsX4_disc : List Cond := .code yX4_disc cX4_disc 3 (some .int) :: ((wsX4_disc_r1 ++ wsX4_disc_r2) ++ wsX40 ++ wsX20)
def wsX4_jar : List Cond := .code yX4_jar cX4_jar 3 (some .int) :: ([.constant RX4 69 (-1000001), .fieldLink RX4 10 "InfluenceJars" "now" "LInfluenceJars$Machine;", .fieldLink RX4 150 "InfluenceJars$Machine" "jars" "[I", .fieldLink RX4 153 "InfluenceJars$Machine" "taken" "[I", .fieldLink RX4 156 "InfluenceJars$Machine" "leakedOfJar" "[I", .constant RX4 42 (-1000002)] ++ wsX40 ++ wsX20)
def wsX4_spark : List Cond := .code yX4_spark cX4_spark 3 (some .int) :: ([.constant RX4 42 (-1000002), .fieldLink RX4 10 "InfluenceJars" "now" "LInfluenceJars$Machine;", .fieldLink RX4 93 "InfluenceJars$Machine" "sparks" "I", .constant RX4 91 (-1000006), .fieldLink RX4 159 "InfluenceJars$Machine" "sparkLog" "[I", .methodLink RX4 162 yX2_logIndexOf, .static yX2_logIndexOf, .initialized RX2, .code yX2_logIndexOf cX2_logIndexOf 1 (some .int), .methodLink RX2 56 yJ9_floorMod_7cf53, .static yJ9_floorMod_7cf53, .initialized RJ9, .code yJ9_floorMod_7cf53 cJ9_floorMod_7cf53 3 (some .int)] ++ wsX40 ++ wsX20)
def wsX4_count_r1 : List Cond := [Cond.fieldLink RX4 10 "InfluenceJars" "now" "LInfluenceJars$Machine;", Cond.fieldLink RX4 59 "InfluenceJars$Machine" "settings" "[I", Cond.fieldLink RX4 131 "InfluenceJars$Machine" "turns" "I", Cond.fieldLink RX4 93 "InfluenceJars$Machine" "sparks" "I", Cond.fieldLink RX4 165 "InfluenceJars$Machine" "reversals" "I", Cond.fieldLink RX4 174 "InfluenceJars$Machine" "leaked" "I", Cond.fieldLink RX4 177 "InfluenceJars$Machine" "putOn" "I", Cond.fieldLink RX4 180 "InfluenceJars$Machine" "takenOff" "I", Cond.fieldLink RX4 41 "InfluenceJars" "pad" "LInfluenceJars$Pad;", Cond.fieldLink RX4 183 "InfluenceJars$Pad" "length" "I", Cond.fieldLink RX4 22 "InfluenceJars" "history" "LInfluenceJars$History;", Cond.fieldLink RX4 186 "InfluenceJars$History" "size" "I", Cond.constant RX4 42 (-1000002), Cond.methodLink RX4 168 yX2_sign, Cond.instanceMethod yX2_sign, Cond.selects RX2 yX2_sign yX2_sign, Cond.initialized RX2, Cond.code yX2_sign cX2_sign 1 (some .int), Cond.fieldLink RX2 18 "InfluenceJars$Machine" "jars" "[I", Cond.methodLink RX2 66 yJ6_signum_0f7a4, Cond.static yJ6_signum_0f7a4, Cond.initialized RJ6, Cond.code yJ6_signum_0f7a4 cJ6_signum_0f7a4 1 (some .int), Cond.methodLink RX4 171 yX2_chargeOfAll]
def wsX4_count_r2 : List Cond := [Cond.instanceMethod yX2_chargeOfAll, Cond.selects RX2 yX2_chargeOfAll yX2_chargeOfAll, Cond.code yX2_chargeOfAll cX2_chargeOfAll 1 (some .int), Cond.methodLink RX2 77 yX2_sumOfDisc, Cond.instanceMethod yX2_sumOfDisc, Cond.selects RX2 yX2_sumOfDisc yX2_sumOfDisc, Cond.code yX2_sumOfDisc cX2_sumOfDisc 5 (some .int), Cond.fieldLink RX2 15 "InfluenceJars$Machine" "charges" "[I", Cond.methodLink RX2 62 yX2_firstIndexOf, Cond.static yX2_firstIndexOf, Cond.code yX2_firstIndexOf cX2_firstIndexOf 1 (some .int)]
def wsX4_count : List Cond := .code yX4_count cX4_count 2 (some .int) :: ((wsX4_count_r1 ++ wsX4_count_r2) ++ wsX40 ++ wsX20 ++ wsX30 ++ wsX10)
def wsX4_untilSpark_r1 : List Cond := [Cond.fieldLink RX4 16 "InfluenceJars" "trial" "LInfluenceJars$Machine;", Cond.fieldLink RX4 10 "InfluenceJars" "now" "LInfluenceJars$Machine;", Cond.methodLink RX4 189 yX2_become, Cond.instanceMethod yX2_become, Cond.selects RX2 yX2_become yX2_become, Cond.initialized RX2, Cond.code yX2_become cX2_become 2 none, Cond.fieldLink RX2 9 "InfluenceJars$Machine" "settings" "[I", Cond.fieldLink RX2 15 "InfluenceJars$Machine" "charges" "[I", Cond.fieldLink RX2 18 "InfluenceJars$Machine" "jars" "[I", Cond.fieldLink RX2 21 "InfluenceJars$Machine" "taken" "[I", Cond.fieldLink RX2 24 "InfluenceJars$Machine" "leakedOfJar" "[I", Cond.fieldLink RX2 27 "InfluenceJars$Machine" "sparkLog" "[I", Cond.fieldLink RX2 34 "InfluenceJars$Machine" "turns" "I", Cond.fieldLink RX2 38 "InfluenceJars$Machine" "sparks" "I", Cond.fieldLink RX2 41 "InfluenceJars$Machine" "reversals" "I", Cond.fieldLink RX2 44 "InfluenceJars$Machine" "latestSign" "I", Cond.fieldLink RX2 47 "InfluenceJars$Machine" "leaked" "I", Cond.fieldLink RX2 50 "InfluenceJars$Machine" "putOn" "I", Cond.fieldLink RX2 53 "InfluenceJars$Machine" "takenOff" "I", Cond.static yX4_copyNumbers, Cond.initialized RX4, Cond.code yX4_copyNumbers cX4_copyNumbers 2 none, Cond.methodLink RX4 209 Lib.Math.min.name]
def wsX4_untilSpark_r2 : List Cond := [Cond.static Lib.Math.min.name, Cond.initialized "java/lang/Math", Cond.code Lib.Math.min.name Lib.Math.min.code 2 (some .int), Cond.methodLink RX4 226 arraycopyName, Cond.native arraycopyName, Cond.static arraycopyName, Cond.initialized "java/lang/System", Cond.methodLink RX4 192 yX2_turnToSpark, Cond.instanceMethod yX2_turnToSpark, Cond.selects RX2 yX2_turnToSpark yX2_turnToSpark, Cond.code yX2_turnToSpark cX2_turnToSpark 3 (some .int), Cond.constant RX2 105 (-1000006), Cond.methodLink RX2 98 yX2_turnAheadOfSpark, Cond.instanceMethod yX2_turnAheadOfSpark, Cond.selects RX2 yX2_turnAheadOfSpark yX2_turnAheadOfSpark, Cond.code yX2_turnAheadOfSpark cX2_turnAheadOfSpark 1 none, Cond.methodLink RX2 112 yX2_join, Cond.instanceMethod yX2_join, Cond.selects RX2 yX2_join yX2_join, Cond.code yX2_join cX2_join 14 none, Cond.methodLink RX2 71 Lib.Math.max.name, Cond.static Lib.Math.max.name, Cond.code Lib.Math.max.name Lib.Math.max.code 2 (some .int), Cond.methodLink RX2 74 Lib.Math.min.name]
def wsX4_untilSpark_r3 : List Cond := [Cond.methodLink RX2 84 yX2_indexOf, Cond.static yX2_indexOf, Cond.code yX2_indexOf cX2_indexOf 3 (some .int), Cond.methodLink RX2 56 yJ9_floorMod_7cf53, Cond.static yJ9_floorMod_7cf53, Cond.initialized RJ9, Cond.code yJ9_floorMod_7cf53 cJ9_floorMod_7cf53 3 (some .int), Cond.static yX4_limited, Cond.code yX4_limited cX4_limited 3 (some .int), Cond.methodLink RX4 204 Lib.Math.max.name, Cond.methodLink RX2 116 yX2_gather, Cond.instanceMethod yX2_gather, Cond.selects RX2 yX2_gather yX2_gather, Cond.code yX2_gather cX2_gather 7 none, Cond.methodLink RX2 120 yX2_leakFromSectors, Cond.instanceMethod yX2_leakFromSectors, Cond.selects RX2 yX2_leakFromSectors yX2_leakFromSectors, Cond.code yX2_leakFromSectors cX2_leakFromSectors 3 none, Cond.methodLink RX2 123 yX2_leakFromJar, Cond.instanceMethod yX2_leakFromJar, Cond.selects RX2 yX2_leakFromJar yX2_leakFromJar, Cond.code yX2_leakFromJar cX2_leakFromJar 3 none, Cond.methodLink RX2 101 yX2_isSparkDue, Cond.instanceMethod yX2_isSparkDue]
def wsX4_untilSpark_r4 : List Cond := [Cond.selects RX2 yX2_isSparkDue yX2_isSparkDue, Cond.code yX2_isSparkDue cX2_isSparkDue 1 (some .boolean), Cond.methodLink RX2 88 yX2_difference, Cond.instanceMethod yX2_difference, Cond.selects RX2 yX2_difference yX2_difference, Cond.code yX2_difference cX2_difference 1 (some .int), Cond.methodLink RX2 80 Lib.Math.abs.name, Cond.static Lib.Math.abs.name, Cond.code Lib.Math.abs.name Lib.Math.abs.code 1 (some .int)]
def wsX4_untilSpark : List Cond := .code yX4_untilSpark cX4_untilSpark 1 (some .int) :: ((wsX4_untilSpark_r1 ++ (wsX4_untilSpark_r2 ++ (wsX4_untilSpark_r3 ++ wsX4_untilSpark_r4))) ++ wsX40 ++ wsX20)
def wsX4_ifTurned_r1 : List Cond := [Cond.constant RX4 42 (-1000002), Cond.fieldLink RX4 16 "InfluenceJars" "trial" "LInfluenceJars$Machine;", Cond.fieldLink RX4 10 "InfluenceJars" "now" "LInfluenceJars$Machine;", Cond.fieldLink RX4 93 "InfluenceJars$Machine" "sparks" "I", Cond.fieldLink RX4 165 "InfluenceJars$Machine" "reversals" "I", Cond.fieldLink RX4 150 "InfluenceJars$Machine" "jars" "[I", Cond.methodLink RX4 189 yX2_become, Cond.instanceMethod yX2_become, Cond.selects RX2 yX2_become yX2_become, Cond.initialized RX2, Cond.code yX2_become cX2_become 2 none, Cond.fieldLink RX2 9 "InfluenceJars$Machine" "settings" "[I", Cond.fieldLink RX2 15 "InfluenceJars$Machine" "charges" "[I", Cond.fieldLink RX2 18 "InfluenceJars$Machine" "jars" "[I", Cond.fieldLink RX2 21 "InfluenceJars$Machine" "taken" "[I", Cond.fieldLink RX2 24 "InfluenceJars$Machine" "leakedOfJar" "[I", Cond.fieldLink RX2 27 "InfluenceJars$Machine" "sparkLog" "[I", Cond.fieldLink RX2 34 "InfluenceJars$Machine" "turns" "I", Cond.fieldLink RX2 38 "InfluenceJars$Machine" "sparks" "I", Cond.fieldLink RX2 41 "InfluenceJars$Machine" "reversals" "I", Cond.fieldLink RX2 44 "InfluenceJars$Machine" "latestSign" "I", Cond.fieldLink RX2 47 "InfluenceJars$Machine" "leaked" "I", Cond.fieldLink RX2 50 "InfluenceJars$Machine" "putOn" "I", Cond.fieldLink RX2 53 "InfluenceJars$Machine" "takenOff" "I"]
def wsX4_ifTurned_r2 : List Cond := [Cond.static yX4_copyNumbers, Cond.initialized RX4, Cond.code yX4_copyNumbers cX4_copyNumbers 2 none, Cond.methodLink RX4 209 Lib.Math.min.name, Cond.static Lib.Math.min.name, Cond.initialized "java/lang/Math", Cond.code Lib.Math.min.name Lib.Math.min.code 2 (some .int), Cond.methodLink RX4 226 arraycopyName, Cond.native arraycopyName, Cond.static arraycopyName, Cond.initialized "java/lang/System", Cond.methodLink RX4 195 yX2_turnToGreatestDifference, Cond.instanceMethod yX2_turnToGreatestDifference, Cond.selects RX2 yX2_turnToGreatestDifference yX2_turnToGreatestDifference, Cond.code yX2_turnToGreatestDifference cX2_turnToGreatestDifference 4 (some .int), Cond.methodLink RX2 71 Lib.Math.max.name, Cond.static Lib.Math.max.name, Cond.code Lib.Math.max.name Lib.Math.max.code 2 (some .int), Cond.methodLink RX2 95 yX2_turnOnce, Cond.instanceMethod yX2_turnOnce, Cond.selects RX2 yX2_turnOnce yX2_turnOnce, Cond.code yX2_turnOnce cX2_turnOnce 1 none, Cond.methodLink RX2 98 yX2_turnAheadOfSpark, Cond.instanceMethod yX2_turnAheadOfSpark]
def wsX4_ifTurned_r3 : List Cond := [Cond.selects RX2 yX2_turnAheadOfSpark yX2_turnAheadOfSpark, Cond.code yX2_turnAheadOfSpark cX2_turnAheadOfSpark 1 none, Cond.methodLink RX2 112 yX2_join, Cond.instanceMethod yX2_join, Cond.selects RX2 yX2_join yX2_join, Cond.code yX2_join cX2_join 14 none, Cond.methodLink RX2 74 Lib.Math.min.name, Cond.methodLink RX2 84 yX2_indexOf, Cond.static yX2_indexOf, Cond.code yX2_indexOf cX2_indexOf 3 (some .int), Cond.methodLink RX2 56 yJ9_floorMod_7cf53, Cond.static yJ9_floorMod_7cf53, Cond.initialized RJ9, Cond.code yJ9_floorMod_7cf53 cJ9_floorMod_7cf53 3 (some .int), Cond.static yX4_limited, Cond.code yX4_limited cX4_limited 3 (some .int), Cond.methodLink RX4 204 Lib.Math.max.name, Cond.methodLink RX2 116 yX2_gather, Cond.instanceMethod yX2_gather, Cond.selects RX2 yX2_gather yX2_gather, Cond.code yX2_gather cX2_gather 7 none, Cond.methodLink RX2 120 yX2_leakFromSectors, Cond.instanceMethod yX2_leakFromSectors, Cond.selects RX2 yX2_leakFromSectors yX2_leakFromSectors]
def wsX4_ifTurned_r4 : List Cond := [Cond.code yX2_leakFromSectors cX2_leakFromSectors 3 none, Cond.methodLink RX2 123 yX2_leakFromJar, Cond.instanceMethod yX2_leakFromJar, Cond.selects RX2 yX2_leakFromJar yX2_leakFromJar, Cond.code yX2_leakFromJar cX2_leakFromJar 3 none, Cond.methodLink RX2 101 yX2_isSparkDue, Cond.instanceMethod yX2_isSparkDue, Cond.selects RX2 yX2_isSparkDue yX2_isSparkDue, Cond.code yX2_isSparkDue cX2_isSparkDue 1 (some .boolean), Cond.methodLink RX2 88 yX2_difference, Cond.instanceMethod yX2_difference, Cond.selects RX2 yX2_difference yX2_difference, Cond.code yX2_difference cX2_difference 1 (some .int), Cond.methodLink RX2 80 Lib.Math.abs.name, Cond.static Lib.Math.abs.name, Cond.code Lib.Math.abs.name Lib.Math.abs.code 1 (some .int), Cond.methodLink RX2 106 yX2_letJump, Cond.instanceMethod yX2_letJump, Cond.selects RX2 yX2_letJump yX2_letJump, Cond.code yX2_letJump cX2_letJump 4 none, Cond.methodLink RX2 130 yX2_logIndexOf, Cond.static yX2_logIndexOf, Cond.code yX2_logIndexOf cX2_logIndexOf 1 (some .int), Cond.methodLink RX2 109 yX2_noteSign]
def wsX4_ifTurned_r5 : List Cond := [Cond.instanceMethod yX2_noteSign, Cond.selects RX2 yX2_noteSign yX2_noteSign, Cond.code yX2_noteSign cX2_noteSign 2 none, Cond.methodLink RX2 133 yX2_sign, Cond.instanceMethod yX2_sign, Cond.selects RX2 yX2_sign yX2_sign, Cond.code yX2_sign cX2_sign 1 (some .int), Cond.methodLink RX2 66 yJ6_signum_0f7a4, Cond.static yJ6_signum_0f7a4, Cond.initialized RJ6, Cond.code yJ6_signum_0f7a4 cJ6_signum_0f7a4 1 (some .int), Cond.methodLink RX4 171 yX2_chargeOfAll, Cond.instanceMethod yX2_chargeOfAll, Cond.selects RX2 yX2_chargeOfAll yX2_chargeOfAll, Cond.code yX2_chargeOfAll cX2_chargeOfAll 1 (some .int), Cond.methodLink RX2 77 yX2_sumOfDisc, Cond.instanceMethod yX2_sumOfDisc, Cond.selects RX2 yX2_sumOfDisc yX2_sumOfDisc, Cond.code yX2_sumOfDisc cX2_sumOfDisc 5 (some .int), Cond.methodLink RX2 62 yX2_firstIndexOf, Cond.static yX2_firstIndexOf, Cond.code yX2_firstIndexOf cX2_firstIndexOf 1 (some .int)]
def wsX4_ifTurned : List Cond := .code yX4_ifTurned cX4_ifTurned 4 (some .int) :: ((wsX4_ifTurned_r1 ++ (wsX4_ifTurned_r2 ++ (wsX4_ifTurned_r3 ++ (wsX4_ifTurned_r4 ++ wsX4_ifTurned_r5)))) ++ wsX40 ++ wsX20)
def wsX4_widestGap_r1 : List Cond := [Cond.fieldLink RX4 16 "InfluenceJars" "trial" "LInfluenceJars$Machine;", Cond.fieldLink RX4 10 "InfluenceJars" "now" "LInfluenceJars$Machine;", Cond.methodLink RX4 204 Lib.Math.max.name, Cond.static Lib.Math.max.name, Cond.initialized "java/lang/Math", Cond.code Lib.Math.max.name Lib.Math.max.code 2 (some .int), Cond.fieldLink RX4 47 "InfluenceJars" "MOST_SETTING" "[I", Cond.methodLink RX4 209 Lib.Math.min.name, Cond.static Lib.Math.min.name, Cond.code Lib.Math.min.name Lib.Math.min.code 2 (some .int), Cond.fieldLink RX4 43 "InfluenceJars" "LEAST_SETTING" "[I", Cond.constant RX4 91 (-1000006), Cond.methodLink RX4 189 yX2_become, Cond.instanceMethod yX2_become, Cond.selects RX2 yX2_become yX2_become, Cond.initialized RX2, Cond.code yX2_become cX2_become 2 none, Cond.fieldLink RX2 9 "InfluenceJars$Machine" "settings" "[I", Cond.fieldLink RX2 15 "InfluenceJars$Machine" "charges" "[I", Cond.fieldLink RX2 18 "InfluenceJars$Machine" "jars" "[I", Cond.fieldLink RX2 21 "InfluenceJars$Machine" "taken" "[I", Cond.fieldLink RX2 24 "InfluenceJars$Machine" "leakedOfJar" "[I", Cond.fieldLink RX2 27 "InfluenceJars$Machine" "sparkLog" "[I", Cond.fieldLink RX2 34 "InfluenceJars$Machine" "turns" "I"]
def wsX4_widestGap_r2 : List Cond := [Cond.fieldLink RX2 38 "InfluenceJars$Machine" "sparks" "I", Cond.fieldLink RX2 41 "InfluenceJars$Machine" "reversals" "I", Cond.fieldLink RX2 44 "InfluenceJars$Machine" "latestSign" "I", Cond.fieldLink RX2 47 "InfluenceJars$Machine" "leaked" "I", Cond.fieldLink RX2 50 "InfluenceJars$Machine" "putOn" "I", Cond.fieldLink RX2 53 "InfluenceJars$Machine" "takenOff" "I", Cond.static yX4_copyNumbers, Cond.initialized RX4, Cond.code yX4_copyNumbers cX4_copyNumbers 2 none, Cond.methodLink RX4 226 arraycopyName, Cond.native arraycopyName, Cond.static arraycopyName, Cond.initialized "java/lang/System", Cond.methodLink RX4 198 yX2_turnAheadOfSpark, Cond.instanceMethod yX2_turnAheadOfSpark, Cond.selects RX2 yX2_turnAheadOfSpark yX2_turnAheadOfSpark, Cond.code yX2_turnAheadOfSpark cX2_turnAheadOfSpark 1 none, Cond.methodLink RX2 112 yX2_join, Cond.instanceMethod yX2_join, Cond.selects RX2 yX2_join yX2_join, Cond.code yX2_join cX2_join 14 none, Cond.methodLink RX2 71 Lib.Math.max.name, Cond.methodLink RX2 74 Lib.Math.min.name, Cond.methodLink RX2 84 yX2_indexOf]
def wsX4_widestGap_r3 : List Cond := [Cond.static yX2_indexOf, Cond.code yX2_indexOf cX2_indexOf 3 (some .int), Cond.methodLink RX2 56 yJ9_floorMod_7cf53, Cond.static yJ9_floorMod_7cf53, Cond.initialized RJ9, Cond.code yJ9_floorMod_7cf53 cJ9_floorMod_7cf53 3 (some .int), Cond.static yX4_limited, Cond.code yX4_limited cX4_limited 3 (some .int), Cond.methodLink RX2 116 yX2_gather, Cond.instanceMethod yX2_gather, Cond.selects RX2 yX2_gather yX2_gather, Cond.code yX2_gather cX2_gather 7 none, Cond.methodLink RX2 120 yX2_leakFromSectors, Cond.instanceMethod yX2_leakFromSectors, Cond.selects RX2 yX2_leakFromSectors yX2_leakFromSectors, Cond.code yX2_leakFromSectors cX2_leakFromSectors 3 none, Cond.methodLink RX2 123 yX2_leakFromJar, Cond.instanceMethod yX2_leakFromJar, Cond.selects RX2 yX2_leakFromJar yX2_leakFromJar, Cond.code yX2_leakFromJar cX2_leakFromJar 3 none, Cond.methodLink RX4 201 yX2_difference, Cond.instanceMethod yX2_difference, Cond.selects RX2 yX2_difference yX2_difference, Cond.code yX2_difference cX2_difference 1 (some .int)]
def wsX4_widestGap_r4 : List Cond := [Cond.methodLink RX2 80 Lib.Math.abs.name, Cond.static Lib.Math.abs.name, Cond.code Lib.Math.abs.name Lib.Math.abs.code 1 (some .int)]
def wsX4_widestGap : List Cond := .code yX4_widestGap cX4_widestGap 3 (some .int) :: ((wsX4_widestGap_r1 ++ (wsX4_widestGap_r2 ++ (wsX4_widestGap_r3 ++ wsX4_widestGap_r4))) ++ wsX40 ++ wsX20)
def wsX4_mostDamp_r1 : List Cond := [Cond.fieldLink RX4 47 "InfluenceJars" "MOST_SETTING" "[I", Cond.fieldLink RX4 43 "InfluenceJars" "LEAST_SETTING" "[I", Cond.fieldLink RX4 16 "InfluenceJars" "trial" "LInfluenceJars$Machine;", Cond.fieldLink RX4 10 "InfluenceJars" "now" "LInfluenceJars$Machine;", Cond.fieldLink RX4 59 "InfluenceJars$Machine" "settings" "[I", Cond.constant RX4 91 (-1000006), Cond.methodLink RX4 189 yX2_become, Cond.instanceMethod yX2_become, Cond.selects RX2 yX2_become yX2_become, Cond.initialized RX2, Cond.code yX2_become cX2_become 2 none, Cond.fieldLink RX2 9 "InfluenceJars$Machine" "settings" "[I", Cond.fieldLink RX2 15 "InfluenceJars$Machine" "charges" "[I", Cond.fieldLink RX2 18 "InfluenceJars$Machine" "jars" "[I", Cond.fieldLink RX2 21 "InfluenceJars$Machine" "taken" "[I", Cond.fieldLink RX2 24 "InfluenceJars$Machine" "leakedOfJar" "[I", Cond.fieldLink RX2 27 "InfluenceJars$Machine" "sparkLog" "[I", Cond.fieldLink RX2 34 "InfluenceJars$Machine" "turns" "I", Cond.fieldLink RX2 38 "InfluenceJars$Machine" "sparks" "I", Cond.fieldLink RX2 41 "InfluenceJars$Machine" "reversals" "I", Cond.fieldLink RX2 44 "InfluenceJars$Machine" "latestSign" "I", Cond.fieldLink RX2 47 "InfluenceJars$Machine" "leaked" "I", Cond.fieldLink RX2 50 "InfluenceJars$Machine" "putOn" "I", Cond.fieldLink RX2 53 "InfluenceJars$Machine" "takenOff" "I"]
def wsX4_mostDamp_r2 : List Cond := [Cond.static yX4_copyNumbers, Cond.initialized RX4, Cond.code yX4_copyNumbers cX4_copyNumbers 2 none, Cond.methodLink RX4 209 Lib.Math.min.name, Cond.static Lib.Math.min.name, Cond.initialized "java/lang/Math", Cond.code Lib.Math.min.name Lib.Math.min.code 2 (some .int), Cond.methodLink RX4 226 arraycopyName, Cond.native arraycopyName, Cond.static arraycopyName, Cond.initialized "java/lang/System", Cond.methodLink RX4 192 yX2_turnToSpark, Cond.instanceMethod yX2_turnToSpark, Cond.selects RX2 yX2_turnToSpark yX2_turnToSpark, Cond.code yX2_turnToSpark cX2_turnToSpark 3 (some .int), Cond.constant RX2 105 (-1000006), Cond.methodLink RX2 98 yX2_turnAheadOfSpark, Cond.instanceMethod yX2_turnAheadOfSpark, Cond.selects RX2 yX2_turnAheadOfSpark yX2_turnAheadOfSpark, Cond.code yX2_turnAheadOfSpark cX2_turnAheadOfSpark 1 none, Cond.methodLink RX2 112 yX2_join, Cond.instanceMethod yX2_join, Cond.selects RX2 yX2_join yX2_join, Cond.code yX2_join cX2_join 14 none]
def wsX4_mostDamp_r3 : List Cond := [Cond.methodLink RX2 71 Lib.Math.max.name, Cond.static Lib.Math.max.name, Cond.code Lib.Math.max.name Lib.Math.max.code 2 (some .int), Cond.methodLink RX2 74 Lib.Math.min.name, Cond.methodLink RX2 84 yX2_indexOf, Cond.static yX2_indexOf, Cond.code yX2_indexOf cX2_indexOf 3 (some .int), Cond.methodLink RX2 56 yJ9_floorMod_7cf53, Cond.static yJ9_floorMod_7cf53, Cond.initialized RJ9, Cond.code yJ9_floorMod_7cf53 cJ9_floorMod_7cf53 3 (some .int), Cond.static yX4_limited, Cond.code yX4_limited cX4_limited 3 (some .int), Cond.methodLink RX4 204 Lib.Math.max.name, Cond.methodLink RX2 116 yX2_gather, Cond.instanceMethod yX2_gather, Cond.selects RX2 yX2_gather yX2_gather, Cond.code yX2_gather cX2_gather 7 none, Cond.methodLink RX2 120 yX2_leakFromSectors, Cond.instanceMethod yX2_leakFromSectors, Cond.selects RX2 yX2_leakFromSectors yX2_leakFromSectors, Cond.code yX2_leakFromSectors cX2_leakFromSectors 3 none, Cond.methodLink RX2 123 yX2_leakFromJar, Cond.instanceMethod yX2_leakFromJar]
def wsX4_mostDamp_r4 : List Cond := [Cond.selects RX2 yX2_leakFromJar yX2_leakFromJar, Cond.code yX2_leakFromJar cX2_leakFromJar 3 none, Cond.methodLink RX2 101 yX2_isSparkDue, Cond.instanceMethod yX2_isSparkDue, Cond.selects RX2 yX2_isSparkDue yX2_isSparkDue, Cond.code yX2_isSparkDue cX2_isSparkDue 1 (some .boolean), Cond.methodLink RX2 88 yX2_difference, Cond.instanceMethod yX2_difference, Cond.selects RX2 yX2_difference yX2_difference, Cond.code yX2_difference cX2_difference 1 (some .int), Cond.methodLink RX2 80 Lib.Math.abs.name, Cond.static Lib.Math.abs.name, Cond.code Lib.Math.abs.name Lib.Math.abs.code 1 (some .int)]
def wsX4_mostDamp : List Cond := .code yX4_mostDamp cX4_mostDamp 2 (some .int) :: ((wsX4_mostDamp_r1 ++ (wsX4_mostDamp_r2 ++ (wsX4_mostDamp_r3 ++ wsX4_mostDamp_r4))) ++ wsX40 ++ wsX20)
def wsX4_charactersIn : List Cond := .code yX4_charactersIn cX4_charactersIn 7 (some .int) :: ([.constantLong RX4 224 (255)])
def wsX4_put : List Cond := .code yX4_put cX4_put 4 (some .int) :: ([.constant RX4 42 (-1000002), .fieldLink RX4 41 "InfluenceJars" "pad" "LInfluenceJars$Pad;", .fieldLink RX4 183 "InfluenceJars$Pad" "length" "I", .constant RX4 77 (-1000004), .methodLink RX4 212 yX4_charactersIn, .static yX4_charactersIn, .initialized RX4, .code yX4_charactersIn cX4_charactersIn 7 (some .int), .constantLong RX4 224 (255), .methodLink RX4 216 yX3_append, .instanceMethod yX3_append, .selects RX3 yX3_append yX3_append, .initialized RX3, .code yX3_append cX3_append 5 none, .fieldLink RX3 15 "InfluenceJars$Pad" "length" "I", .fieldLink RX3 9 "InfluenceJars$Pad" "signs" "[C", .constantLong RX3 19 (255)] ++ wsX40 ++ wsX30)
def wsX4_wipe : List Cond := .code yX4_wipe cX4_wipe 2 (some .int) :: ([.fieldLink RX4 41 "InfluenceJars" "pad" "LInfluenceJars$Pad;", .fieldLink RX4 183 "InfluenceJars$Pad" "length" "I", .methodLink RX4 111 yX3_clear, .instanceMethod yX3_clear, .selects RX3 yX3_clear yX3_clear, .initialized RX3, .code yX3_clear cX3_clear 1 none, .fieldLink RX3 15 "InfluenceJars$Pad" "length" "I"] ++ wsX40 ++ wsX30)
def wsX4_fault_r1 : List Cond := [Cond.fieldLink RX4 33 "InfluenceJars" "reader" "LInfluenceJars$DeedReader;", Cond.methodLink RX4 88 yX0_findFault, Cond.instanceMethod yX0_findFault, Cond.selects RX0 yX0_findFault yX0_findFault, Cond.initialized RX0, Cond.code yX0_findFault cX0_findFault 2 (some .int), Cond.fieldLink RX0 18 "InfluenceJars$DeedReader" "at" "I", Cond.fieldLink RX0 12 "InfluenceJars$DeedReader" "pad" "LInfluenceJars$Pad;", Cond.fieldLink RX0 33 "InfluenceJars$Pad" "length" "I", Cond.constant RX0 36 (-1000006), Cond.methodLink RX0 22 yX0_start, Cond.instanceMethod yX0_start, Cond.selects RX0 yX0_start yX0_start, Cond.code yX0_start cX0_start 1 none, Cond.methodLink RX0 25 yX0_readDeed, Cond.instanceMethod yX0_readDeed, Cond.selects RX0 yX0_readDeed yX0_readDeed, Cond.code yX0_readDeed cX0_readDeed 1 (some .boolean), Cond.fieldLink RX0 41 "InfluenceJars$DeedReader" "deed" "I", Cond.fieldLink RX0 48 "InfluenceJars$DeedReader" "amount" "I", Cond.methodLink RX0 29 yX0_readSign, Cond.instanceMethod yX0_readSign, Cond.selects RX0 yX0_readSign yX0_readSign, Cond.code yX0_readSign cX0_readSign 2 (some .boolean)]
def wsX4_fault_r2 : List Cond := [Cond.methodLink RX0 37 yX3_signAt, Cond.instanceMethod yX3_signAt, Cond.selects RX3 yX3_signAt yX3_signAt, Cond.initialized RX3, Cond.code yX3_signAt cX3_signAt 2 (some .char), Cond.fieldLink RX3 15 "InfluenceJars$Pad" "length" "I", Cond.fieldLink RX3 9 "InfluenceJars$Pad" "signs" "[C", Cond.methodLink RX0 44 yX0_readNumber, Cond.instanceMethod yX0_readNumber, Cond.selects RX0 yX0_readNumber yX0_readNumber, Cond.code yX0_readNumber cX0_readNumber 6 (some .int), Cond.methodLink RX0 63 yX0_digitAt, Cond.instanceMethod yX0_digitAt, Cond.selects RX0 yX0_digitAt yX0_digitAt, Cond.code yX0_digitAt cX0_digitAt 3 (some .int), Cond.methodLink RX0 51 yX0_readSector, Cond.instanceMethod yX0_readSector, Cond.selects RX0 yX0_readSector yX0_readSector, Cond.code yX0_readSector cX0_readSector 1 (some .boolean), Cond.fieldLink RX0 57 "InfluenceJars$DeedReader" "disc" "I", Cond.fieldLink RX0 60 "InfluenceJars$DeedReader" "place" "I", Cond.methodLink RX0 54 yX0_readCharge, Cond.instanceMethod yX0_readCharge, Cond.selects RX0 yX0_readCharge yX0_readCharge]
def wsX4_fault_r3 : List Cond := [Cond.code yX0_readCharge cX0_readCharge 3 (some .boolean)]
def wsX4_fault : List Cond := .code yX4_fault cX4_fault 1 (some .int) :: ((wsX4_fault_r1 ++ (wsX4_fault_r2 ++ wsX4_fault_r3)) ++ wsX40 ++ wsX00 ++ wsX30)
def wsX4_undo_r1 : List Cond := [Cond.fieldLink RX4 22 "InfluenceJars" "history" "LInfluenceJars$History;", Cond.fieldLink RX4 10 "InfluenceJars" "now" "LInfluenceJars$Machine;", Cond.constant RX4 54 (-1000005), Cond.fieldLink RX4 186 "InfluenceJars$History" "size" "I", Cond.methodLink RX4 220 yX1_takeBack, Cond.instanceMethod yX1_takeBack, Cond.selects RX1 yX1_takeBack yX1_takeBack, Cond.initialized RX1, Cond.code yX1_takeBack cX1_takeBack 3 (some .boolean), Cond.fieldLink RX1 17 "InfluenceJars$History" "size" "I", Cond.fieldLink RX1 11 "InfluenceJars$History" "states" "[LInfluenceJars$Machine;", Cond.fieldLink RX1 21 "InfluenceJars$History" "oldest" "I", Cond.methodLink RX1 24 yJ9_floorMod_7cf53, Cond.static yJ9_floorMod_7cf53, Cond.initialized RJ9, Cond.code yJ9_floorMod_7cf53 cJ9_floorMod_7cf53 3 (some .int), Cond.methodLink RX1 31 yX2_become, Cond.instanceMethod yX2_become, Cond.selects RX2 yX2_become yX2_become, Cond.initialized RX2, Cond.code yX2_become cX2_become 2 none, Cond.fieldLink RX2 9 "InfluenceJars$Machine" "settings" "[I", Cond.fieldLink RX2 15 "InfluenceJars$Machine" "charges" "[I", Cond.fieldLink RX2 18 "InfluenceJars$Machine" "jars" "[I"]
def wsX4_undo_r2 : List Cond := [Cond.fieldLink RX2 21 "InfluenceJars$Machine" "taken" "[I", Cond.fieldLink RX2 24 "InfluenceJars$Machine" "leakedOfJar" "[I", Cond.fieldLink RX2 27 "InfluenceJars$Machine" "sparkLog" "[I", Cond.fieldLink RX2 34 "InfluenceJars$Machine" "turns" "I", Cond.fieldLink RX2 38 "InfluenceJars$Machine" "sparks" "I", Cond.fieldLink RX2 41 "InfluenceJars$Machine" "reversals" "I", Cond.fieldLink RX2 44 "InfluenceJars$Machine" "latestSign" "I", Cond.fieldLink RX2 47 "InfluenceJars$Machine" "leaked" "I", Cond.fieldLink RX2 50 "InfluenceJars$Machine" "putOn" "I", Cond.fieldLink RX2 53 "InfluenceJars$Machine" "takenOff" "I", Cond.static yX4_copyNumbers, Cond.initialized RX4, Cond.code yX4_copyNumbers cX4_copyNumbers 2 none, Cond.methodLink RX4 209 Lib.Math.min.name, Cond.static Lib.Math.min.name, Cond.initialized "java/lang/Math", Cond.code Lib.Math.min.name Lib.Math.min.code 2 (some .int), Cond.methodLink RX4 226 arraycopyName, Cond.native arraycopyName, Cond.static arraycopyName, Cond.initialized "java/lang/System"]
def wsX4_undo : List Cond := .code yX4_undo cX4_undo 1 (some .int) :: ((wsX4_undo_r1 ++ wsX4_undo_r2) ++ wsX40 ++ wsX10 ++ wsX20)
def wsX4_save_r1 : List Cond := [Cond.constant RX4 42 (-1000002), Cond.fieldLink RX4 26 "InfluenceJars" "slots" "[LInfluenceJars$Machine;", Cond.classLink RX4 7 RX2, Cond.instantiable RX2 13, Cond.initialized RX2, Cond.fieldLink RX4 10 "InfluenceJars" "now" "LInfluenceJars$Machine;", Cond.fieldLink RX4 131 "InfluenceJars$Machine" "turns" "I", Cond.instanceMethod yX2_init, Cond.code yX2_init cX2_init 1 none, Cond.methodLink RX2 3 objectInit, Cond.instanceMethod objectInit, Cond.code objectInit ⟨#[0xb1]⟩ 1 none, Cond.arrayClass .int, Cond.fieldLink RX2 9 "InfluenceJars$Machine" "settings" "[I", Cond.fieldLink RX2 15 "InfluenceJars$Machine" "charges" "[I", Cond.fieldLink RX2 18 "InfluenceJars$Machine" "jars" "[I", Cond.fieldLink RX2 21 "InfluenceJars$Machine" "taken" "[I", Cond.fieldLink RX2 24 "InfluenceJars$Machine" "leakedOfJar" "[I", Cond.fieldLink RX2 27 "InfluenceJars$Machine" "sparkLog" "[I", Cond.methodLink RX4 189 yX2_become, Cond.instanceMethod yX2_become, Cond.selects RX2 yX2_become yX2_become, Cond.code yX2_become cX2_become 2 none, Cond.fieldLink RX2 34 "InfluenceJars$Machine" "turns" "I"]
def wsX4_save_r2 : List Cond := [Cond.fieldLink RX2 38 "InfluenceJars$Machine" "sparks" "I", Cond.fieldLink RX2 41 "InfluenceJars$Machine" "reversals" "I", Cond.fieldLink RX2 44 "InfluenceJars$Machine" "latestSign" "I", Cond.fieldLink RX2 47 "InfluenceJars$Machine" "leaked" "I", Cond.fieldLink RX2 50 "InfluenceJars$Machine" "putOn" "I", Cond.fieldLink RX2 53 "InfluenceJars$Machine" "takenOff" "I", Cond.static yX4_copyNumbers, Cond.initialized RX4, Cond.code yX4_copyNumbers cX4_copyNumbers 2 none, Cond.methodLink RX4 209 Lib.Math.min.name, Cond.static Lib.Math.min.name, Cond.initialized "java/lang/Math", Cond.code Lib.Math.min.name Lib.Math.min.code 2 (some .int), Cond.methodLink RX4 226 arraycopyName, Cond.native arraycopyName, Cond.static arraycopyName, Cond.initialized "java/lang/System"]
def wsX4_save : List Cond := .code yX4_save cX4_save 3 (some .int) :: ((wsX4_save_r1 ++ wsX4_save_r2) ++ wsX40 ++ wsX20)
def wsX4_restore_r1 : List Cond := [Cond.constant RX4 42 (-1000002), Cond.fieldLink RX4 26 "InfluenceJars" "slots" "[LInfluenceJars$Machine;", Cond.constant RX4 54 (-1000005), Cond.fieldLink RX4 22 "InfluenceJars" "history" "LInfluenceJars$History;", Cond.fieldLink RX4 10 "InfluenceJars" "now" "LInfluenceJars$Machine;", Cond.fieldLink RX4 131 "InfluenceJars$Machine" "turns" "I", Cond.methodLink RX4 55 yX1_record, Cond.instanceMethod yX1_record, Cond.selects RX1 yX1_record yX1_record, Cond.initialized RX1, Cond.code yX1_record cX1_record 4 none, Cond.fieldLink RX1 17 "InfluenceJars$History" "size" "I", Cond.fieldLink RX1 21 "InfluenceJars$History" "oldest" "I", Cond.fieldLink RX1 11 "InfluenceJars$History" "states" "[LInfluenceJars$Machine;", Cond.classLink RX1 9 RX2, Cond.instantiable RX2 13, Cond.initialized RX2, Cond.methodLink RX1 24 yJ9_floorMod_7cf53, Cond.static yJ9_floorMod_7cf53, Cond.initialized RJ9, Cond.code yJ9_floorMod_7cf53 cJ9_floorMod_7cf53 3 (some .int), Cond.instanceMethod yX2_init, Cond.code yX2_init cX2_init 1 none, Cond.methodLink RX2 3 objectInit]
def wsX4_restore_r2 : List Cond := [Cond.instanceMethod objectInit, Cond.code objectInit ⟨#[0xb1]⟩ 1 none, Cond.arrayClass .int, Cond.fieldLink RX2 9 "InfluenceJars$Machine" "settings" "[I", Cond.fieldLink RX2 15 "InfluenceJars$Machine" "charges" "[I", Cond.fieldLink RX2 18 "InfluenceJars$Machine" "jars" "[I", Cond.fieldLink RX2 21 "InfluenceJars$Machine" "taken" "[I", Cond.fieldLink RX2 24 "InfluenceJars$Machine" "leakedOfJar" "[I", Cond.fieldLink RX2 27 "InfluenceJars$Machine" "sparkLog" "[I", Cond.methodLink RX1 31 yX2_become, Cond.instanceMethod yX2_become, Cond.selects RX2 yX2_become yX2_become, Cond.code yX2_become cX2_become 2 none, Cond.fieldLink RX2 34 "InfluenceJars$Machine" "turns" "I", Cond.fieldLink RX2 38 "InfluenceJars$Machine" "sparks" "I", Cond.fieldLink RX2 41 "InfluenceJars$Machine" "reversals" "I", Cond.fieldLink RX2 44 "InfluenceJars$Machine" "latestSign" "I", Cond.fieldLink RX2 47 "InfluenceJars$Machine" "leaked" "I", Cond.fieldLink RX2 50 "InfluenceJars$Machine" "putOn" "I", Cond.fieldLink RX2 53 "InfluenceJars$Machine" "takenOff" "I", Cond.static yX4_copyNumbers, Cond.initialized RX4, Cond.code yX4_copyNumbers cX4_copyNumbers 2 none, Cond.methodLink RX4 209 Lib.Math.min.name]
def wsX4_restore_r3 : List Cond := [Cond.static Lib.Math.min.name, Cond.initialized "java/lang/Math", Cond.code Lib.Math.min.name Lib.Math.min.code 2 (some .int), Cond.methodLink RX4 226 arraycopyName, Cond.native arraycopyName, Cond.static arraycopyName, Cond.initialized "java/lang/System", Cond.methodLink RX4 189 yX2_become]
def wsX4_restore : List Cond := .code yX4_restore cX4_restore 3 (some .int) :: ((wsX4_restore_r1 ++ (wsX4_restore_r2 ++ wsX4_restore_r3)) ++ wsX40 ++ wsX20 ++ wsX10)
def wsX5_init : List Cond := .code yX5_init cX5_init 1 none :: ([.methodLink RX5 1 objectInit, .instanceMethod objectInit, .code objectInit ⟨#[0xb1]⟩ 1 none, .arrayClass .int, .fieldLink RX5 7 "InfluenceJarsModel" "all" "[I", .fieldLink RX5 13 "InfluenceJarsModel" "kept" "[I", .fieldLink RX5 16 "InfluenceJarsModel" "history" "[I", .fieldLink RX5 19 "InfluenceJarsModel" "slots" "[I", .fieldLink RX5 22 "InfluenceJarsModel" "isSaved" "[I", .fieldLink RX5 25 "InfluenceJarsModel" "text" "[I"] ++ wsX50)
def wsX5_in : List Cond := .code yX5_in cX5_in 6 (some .boolean) :: ([])
def wsX5_changes : List Cond := .code yX5_changes cX5_changes 2 none :: ([.fieldLink RX5 28 "InfluenceJarsModel" "historyLong" "I", .fieldLink RX5 16 "InfluenceJarsModel" "history" "[I", .fieldLink RX5 7 "InfluenceJarsModel" "all" "[I"] ++ wsX50)
def wsX5_keeps : List Cond := .code yX5_keeps cX5_keeps 2 none :: ([.fieldLink RX5 13 "InfluenceJarsModel" "kept" "[I", .fieldLink RX5 7 "InfluenceJarsModel" "all" "[I"] ++ wsX50)
def wsX5_comesBack : List Cond := .code yX5_comesBack cX5_comesBack 2 none :: ([.fieldLink RX5 7 "InfluenceJarsModel" "all" "[I", .fieldLink RX5 13 "InfluenceJarsModel" "kept" "[I"] ++ wsX50)
def wsX5_isDisc : List Cond := .code yX5_isDisc cX5_isDisc 1 (some .boolean) :: ([])
def wsX5_cell : List Cond := .code yX5_cell cX5_cell 2 (some .int) :: ([])
def wsX5_cut : List Cond := .code yX5_cut cX5_cut 3 (some .int) :: ([])
def wsX5_discsTurn : List Cond := .code yX5_discsTurn cX5_discsTurn 4 none :: ([.fieldLink RX5 7 "InfluenceJarsModel" "all" "[I", .methodLink RX5 32 yX5_cell, .static yX5_cell, .initialized RX5, .code yX5_cell cX5_cell 2 (some .int)] ++ wsX50)
def wsX5_joins : List Cond := .code yX5_joins cX5_joins 8 none :: ([.fieldLink RX5 7 "InfluenceJarsModel" "all" "[I", .methodLink RX5 32 yX5_cell, .static yX5_cell, .initialized RX5, .code yX5_cell cX5_cell 2 (some .int), .methodLink RX5 36 yX5_cut, .static yX5_cut, .code yX5_cut cX5_cut 3 (some .int)] ++ wsX50)
def wsX5_takes : List Cond := .code yX5_takes cX5_takes 5 none :: ([.fieldLink RX5 7 "InfluenceJarsModel" "all" "[I", .methodLink RX5 32 yX5_cell, .static yX5_cell, .initialized RX5, .code yX5_cell cX5_cell 2 (some .int), .methodLink RX5 36 yX5_cut, .static yX5_cut, .code yX5_cut cX5_cut 3 (some .int)] ++ wsX50)
def wsX5_leaks : List Cond := .code yX5_leaks cX5_leaks 3 none :: ([.fieldLink RX5 7 "InfluenceJarsModel" "all" "[I"] ++ wsX50)
def wsX5_difference : List Cond := .code yX5_difference cX5_difference 2 (some .int) :: ([.fieldLink RX5 7 "InfluenceJarsModel" "all" "[I"] ++ wsX50)
def wsX5_logs : List Cond := .code yX5_logs cX5_logs 2 none :: ([.fieldLink RX5 7 "InfluenceJarsModel" "all" "[I"] ++ wsX50)
def wsX5_sparks : List Cond := .code yX5_sparks cX5_sparks 3 none :: ([.fieldLink RX5 7 "InfluenceJarsModel" "all" "[I", .methodLink RX5 40 yX5_difference, .instanceMethod yX5_difference, .selects RX5 yX5_difference yX5_difference, .initialized RX5, .code yX5_difference cX5_difference 2 (some .int), .methodLink RX5 44 yX5_logs, .instanceMethod yX5_logs, .selects RX5 yX5_logs yX5_logs, .code yX5_logs cX5_logs 2 none] ++ wsX50)
def wsX5_sign : List Cond := .code yX5_sign cX5_sign 1 (some .int) :: ([.fieldLink RX5 7 "InfluenceJarsModel" "all" "[I"] ++ wsX50)
def wsX5_charges : List Cond := .code yX5_charges cX5_charges 1 none :: ([.fieldLink RX5 7 "InfluenceJarsModel" "all" "[I", .methodLink RX5 47 yX5_discsTurn, .instanceMethod yX5_discsTurn, .selects RX5 yX5_discsTurn yX5_discsTurn, .initialized RX5, .code yX5_discsTurn cX5_discsTurn 4 none, .methodLink RX5 32 yX5_cell, .static yX5_cell, .code yX5_cell cX5_cell 2 (some .int), .methodLink RX5 50 yX5_joins, .instanceMethod yX5_joins, .selects RX5 yX5_joins yX5_joins, .code yX5_joins cX5_joins 8 none, .methodLink RX5 36 yX5_cut, .static yX5_cut, .code yX5_cut cX5_cut 3 (some .int), .methodLink RX5 54 yX5_takes, .instanceMethod yX5_takes, .selects RX5 yX5_takes yX5_takes, .code yX5_takes cX5_takes 5 none, .methodLink RX5 58 yX5_leaks, .instanceMethod yX5_leaks, .selects RX5 yX5_leaks yX5_leaks, .code yX5_leaks cX5_leaks 3 none] ++ wsX50)
def wsX5_turns_r1 : List Cond := [Cond.fieldLink RX5 7 "InfluenceJarsModel" "all" "[I", Cond.methodLink RX5 61 yX5_charges, Cond.instanceMethod yX5_charges, Cond.selects RX5 yX5_charges yX5_charges, Cond.initialized RX5, Cond.code yX5_charges cX5_charges 1 none, Cond.methodLink RX5 47 yX5_discsTurn, Cond.instanceMethod yX5_discsTurn, Cond.selects RX5 yX5_discsTurn yX5_discsTurn, Cond.code yX5_discsTurn cX5_discsTurn 4 none, Cond.methodLink RX5 32 yX5_cell, Cond.static yX5_cell, Cond.code yX5_cell cX5_cell 2 (some .int), Cond.methodLink RX5 50 yX5_joins, Cond.instanceMethod yX5_joins, Cond.selects RX5 yX5_joins yX5_joins, Cond.code yX5_joins cX5_joins 8 none, Cond.methodLink RX5 36 yX5_cut, Cond.static yX5_cut, Cond.code yX5_cut cX5_cut 3 (some .int), Cond.methodLink RX5 54 yX5_takes, Cond.instanceMethod yX5_takes, Cond.selects RX5 yX5_takes yX5_takes, Cond.code yX5_takes cX5_takes 5 none]
def wsX5_turns_r2 : List Cond := [Cond.methodLink RX5 58 yX5_leaks, Cond.instanceMethod yX5_leaks, Cond.selects RX5 yX5_leaks yX5_leaks, Cond.code yX5_leaks cX5_leaks 3 none, Cond.methodLink RX5 64 yX5_sparks, Cond.instanceMethod yX5_sparks, Cond.selects RX5 yX5_sparks yX5_sparks, Cond.code yX5_sparks cX5_sparks 3 none, Cond.methodLink RX5 40 yX5_difference, Cond.instanceMethod yX5_difference, Cond.selects RX5 yX5_difference yX5_difference, Cond.code yX5_difference cX5_difference 2 (some .int), Cond.methodLink RX5 44 yX5_logs, Cond.instanceMethod yX5_logs, Cond.selects RX5 yX5_logs yX5_logs, Cond.code yX5_logs cX5_logs 2 none, Cond.methodLink RX5 67 yX5_sign, Cond.instanceMethod yX5_sign, Cond.selects RX5 yX5_sign yX5_sign, Cond.code yX5_sign cX5_sign 1 (some .int)]
def wsX5_turns : List Cond := .code yX5_turns cX5_turns 2 none :: ((wsX5_turns_r1 ++ wsX5_turns_r2) ++ wsX50)
def wsX5_turned_r1 : List Cond := [Cond.fieldLink RX5 7 "InfluenceJarsModel" "all" "[I", Cond.methodLink RX5 70 yX5_turns, Cond.instanceMethod yX5_turns, Cond.selects RX5 yX5_turns yX5_turns, Cond.initialized RX5, Cond.code yX5_turns cX5_turns 2 none, Cond.methodLink RX5 61 yX5_charges, Cond.instanceMethod yX5_charges, Cond.selects RX5 yX5_charges yX5_charges, Cond.code yX5_charges cX5_charges 1 none, Cond.methodLink RX5 47 yX5_discsTurn, Cond.instanceMethod yX5_discsTurn, Cond.selects RX5 yX5_discsTurn yX5_discsTurn, Cond.code yX5_discsTurn cX5_discsTurn 4 none, Cond.methodLink RX5 32 yX5_cell, Cond.static yX5_cell, Cond.code yX5_cell cX5_cell 2 (some .int), Cond.methodLink RX5 50 yX5_joins, Cond.instanceMethod yX5_joins, Cond.selects RX5 yX5_joins yX5_joins, Cond.code yX5_joins cX5_joins 8 none, Cond.methodLink RX5 36 yX5_cut, Cond.static yX5_cut, Cond.code yX5_cut cX5_cut 3 (some .int)]
def wsX5_turned_r2 : List Cond := [Cond.methodLink RX5 54 yX5_takes, Cond.instanceMethod yX5_takes, Cond.selects RX5 yX5_takes yX5_takes, Cond.code yX5_takes cX5_takes 5 none, Cond.methodLink RX5 58 yX5_leaks, Cond.instanceMethod yX5_leaks, Cond.selects RX5 yX5_leaks yX5_leaks, Cond.code yX5_leaks cX5_leaks 3 none, Cond.methodLink RX5 64 yX5_sparks, Cond.instanceMethod yX5_sparks, Cond.selects RX5 yX5_sparks yX5_sparks, Cond.code yX5_sparks cX5_sparks 3 none, Cond.methodLink RX5 40 yX5_difference, Cond.instanceMethod yX5_difference, Cond.selects RX5 yX5_difference yX5_difference, Cond.code yX5_difference cX5_difference 2 (some .int), Cond.methodLink RX5 44 yX5_logs, Cond.instanceMethod yX5_logs, Cond.selects RX5 yX5_logs yX5_logs, Cond.code yX5_logs cX5_logs 2 none, Cond.methodLink RX5 67 yX5_sign, Cond.instanceMethod yX5_sign, Cond.selects RX5 yX5_sign yX5_sign, Cond.code yX5_sign cX5_sign 1 (some .int)]
def wsX5_turned : List Cond := .code yX5_turned cX5_turned 4 (some .int) :: ((wsX5_turned_r1 ++ wsX5_turned_r2) ++ wsX50)
def wsX5_isSetting : List Cond := .code yX5_isSetting cX5_isSetting 3 (some .boolean) :: ([.constantLong RX5 73 (32), .constantLong RX5 79 (60), .constantLong RX5 81 (200), .constantLong RX5 83 (100), .constantLong RX5 85 (2000), .methodLink RX5 75 yX5_in, .static yX5_in, .initialized RX5, .code yX5_in cX5_in 6 (some .boolean)])
def wsX5_set : List Cond := .code yX5_set cX5_set 4 (some .int) :: ([.constant RX5 91 (-1000002), .fieldLink RX5 7 "InfluenceJarsModel" "all" "[I", .constant RX5 92 (-1000005), .methodLink RX5 87 yX5_isSetting, .instanceMethod yX5_isSetting, .selects RX5 yX5_isSetting yX5_isSetting, .initialized RX5, .code yX5_isSetting cX5_isSetting 3 (some .boolean), .constantLong RX5 73 (32), .constantLong RX5 79 (60), .constantLong RX5 81 (200), .constantLong RX5 83 (100), .constantLong RX5 85 (2000), .methodLink RX5 75 yX5_in, .static yX5_in, .code yX5_in cX5_in 6 (some .boolean), .methodLink RX5 93 yX5_changes, .instanceMethod yX5_changes, .selects RX5 yX5_changes yX5_changes, .code yX5_changes cX5_changes 2 none, .fieldLink RX5 28 "InfluenceJarsModel" "historyLong" "I", .fieldLink RX5 16 "InfluenceJarsModel" "history" "[I"] ++ wsX50)
def wsX5_isPlace : List Cond := .code yX5_isPlace cX5_isPlace 1 (some .boolean) :: ([.constantLong RX5 96 (11), .methodLink RX5 75 yX5_in, .static yX5_in, .initialized RX5, .code yX5_in cX5_in 6 (some .boolean)])
def wsX5_touches : List Cond := .code yX5_touches cX5_touches 4 none :: ([.fieldLink RX5 7 "InfluenceJarsModel" "all" "[I", .methodLink RX5 32 yX5_cell, .static yX5_cell, .initialized RX5, .code yX5_cell cX5_cell 2 (some .int)] ++ wsX50)
def wsX5_touch_r1 : List Cond := [Cond.constant RX5 105 (-1000001), Cond.constantLong RX5 106 (-99), Cond.constantLong RX5 108 (99), Cond.constant RX5 91 (-1000002), Cond.fieldLink RX5 7 "InfluenceJarsModel" "all" "[I", Cond.methodLink RX5 98 yX5_isDisc, Cond.static yX5_isDisc, Cond.initialized RX5, Cond.code yX5_isDisc cX5_isDisc 1 (some .boolean), Cond.methodLink RX5 102 yX5_isPlace, Cond.static yX5_isPlace, Cond.code yX5_isPlace cX5_isPlace 1 (some .boolean), Cond.constantLong RX5 96 (11), Cond.methodLink RX5 75 yX5_in, Cond.static yX5_in, Cond.code yX5_in cX5_in 6 (some .boolean), Cond.methodLink RX5 93 yX5_changes, Cond.instanceMethod yX5_changes, Cond.selects RX5 yX5_changes yX5_changes, Cond.code yX5_changes cX5_changes 2 none, Cond.fieldLink RX5 28 "InfluenceJarsModel" "historyLong" "I", Cond.fieldLink RX5 16 "InfluenceJarsModel" "history" "[I", Cond.methodLink RX5 32 yX5_cell, Cond.static yX5_cell]
def wsX5_touch_r2 : List Cond := [Cond.code yX5_cell cX5_cell 2 (some .int), Cond.methodLink RX5 110 yX5_touches, Cond.instanceMethod yX5_touches, Cond.selects RX5 yX5_touches yX5_touches, Cond.code yX5_touches cX5_touches 4 none]
def wsX5_touch : List Cond := .code yX5_touch cX5_touch 5 (some .int) :: ((wsX5_touch_r1 ++ wsX5_touch_r2) ++ wsX50)
def wsX5_turn_r1 : List Cond := [Cond.constantLong RX5 108 (99), Cond.constant RX5 91 (-1000002), Cond.fieldLink RX5 7 "InfluenceJarsModel" "all" "[I", Cond.constant RX5 113 (99999), Cond.constant RX5 114 (-1000004), Cond.methodLink RX5 75 yX5_in, Cond.static yX5_in, Cond.initialized RX5, Cond.code yX5_in cX5_in 6 (some .boolean), Cond.methodLink RX5 93 yX5_changes, Cond.instanceMethod yX5_changes, Cond.selects RX5 yX5_changes yX5_changes, Cond.code yX5_changes cX5_changes 2 none, Cond.fieldLink RX5 28 "InfluenceJarsModel" "historyLong" "I", Cond.fieldLink RX5 16 "InfluenceJarsModel" "history" "[I", Cond.methodLink RX5 115 yX5_turned, Cond.instanceMethod yX5_turned, Cond.selects RX5 yX5_turned yX5_turned, Cond.code yX5_turned cX5_turned 4 (some .int), Cond.methodLink RX5 70 yX5_turns, Cond.instanceMethod yX5_turns, Cond.selects RX5 yX5_turns yX5_turns, Cond.code yX5_turns cX5_turns 2 none, Cond.methodLink RX5 61 yX5_charges]
def wsX5_turn_r2 : List Cond := [Cond.instanceMethod yX5_charges, Cond.selects RX5 yX5_charges yX5_charges, Cond.code yX5_charges cX5_charges 1 none, Cond.methodLink RX5 47 yX5_discsTurn, Cond.instanceMethod yX5_discsTurn, Cond.selects RX5 yX5_discsTurn yX5_discsTurn, Cond.code yX5_discsTurn cX5_discsTurn 4 none, Cond.methodLink RX5 32 yX5_cell, Cond.static yX5_cell, Cond.code yX5_cell cX5_cell 2 (some .int), Cond.methodLink RX5 50 yX5_joins, Cond.instanceMethod yX5_joins, Cond.selects RX5 yX5_joins yX5_joins, Cond.code yX5_joins cX5_joins 8 none, Cond.methodLink RX5 36 yX5_cut, Cond.static yX5_cut, Cond.code yX5_cut cX5_cut 3 (some .int), Cond.methodLink RX5 54 yX5_takes, Cond.instanceMethod yX5_takes, Cond.selects RX5 yX5_takes yX5_takes, Cond.code yX5_takes cX5_takes 5 none, Cond.methodLink RX5 58 yX5_leaks, Cond.instanceMethod yX5_leaks, Cond.selects RX5 yX5_leaks yX5_leaks]
def wsX5_turn_r3 : List Cond := [Cond.code yX5_leaks cX5_leaks 3 none, Cond.methodLink RX5 64 yX5_sparks, Cond.instanceMethod yX5_sparks, Cond.selects RX5 yX5_sparks yX5_sparks, Cond.code yX5_sparks cX5_sparks 3 none, Cond.methodLink RX5 40 yX5_difference, Cond.instanceMethod yX5_difference, Cond.selects RX5 yX5_difference yX5_difference, Cond.code yX5_difference cX5_difference 2 (some .int), Cond.methodLink RX5 44 yX5_logs, Cond.instanceMethod yX5_logs, Cond.selects RX5 yX5_logs yX5_logs, Cond.code yX5_logs cX5_logs 2 none, Cond.methodLink RX5 67 yX5_sign, Cond.instanceMethod yX5_sign, Cond.selects RX5 yX5_sign yX5_sign, Cond.code yX5_sign cX5_sign 1 (some .int)]
def wsX5_turn : List Cond := .code yX5_turn cX5_turn 2 (some .int) :: ((wsX5_turn_r1 ++ (wsX5_turn_r2 ++ wsX5_turn_r3)) ++ wsX50)
def wsX5_discharges : List Cond := .code yX5_discharges cX5_discharges 2 (some .int) :: ([.fieldLink RX5 7 "InfluenceJarsModel" "all" "[I", .methodLink RX5 40 yX5_difference, .instanceMethod yX5_difference, .selects RX5 yX5_difference yX5_difference, .initialized RX5, .code yX5_difference cX5_difference 2 (some .int)] ++ wsX50)
def wsX5_discharge : List Cond := .code yX5_discharge cX5_discharge 1 (some .int) :: ([.methodLink RX5 93 yX5_changes, .instanceMethod yX5_changes, .selects RX5 yX5_changes yX5_changes, .initialized RX5, .code yX5_changes cX5_changes 2 none, .fieldLink RX5 28 "InfluenceJarsModel" "historyLong" "I", .fieldLink RX5 16 "InfluenceJarsModel" "history" "[I", .fieldLink RX5 7 "InfluenceJarsModel" "all" "[I", .methodLink RX5 119 yX5_discharges, .instanceMethod yX5_discharges, .selects RX5 yX5_discharges yX5_discharges, .code yX5_discharges cX5_discharges 2 (some .int), .methodLink RX5 40 yX5_difference, .instanceMethod yX5_difference, .selects RX5 yX5_difference yX5_difference, .code yX5_difference cX5_difference 2 (some .int)] ++ wsX50)
def wsX5_wipeDisc : List Cond := .code yX5_wipeDisc cX5_wipeDisc 4 (some .int) :: ([.constant RX5 105 (-1000001), .fieldLink RX5 7 "InfluenceJarsModel" "all" "[I", .methodLink RX5 98 yX5_isDisc, .static yX5_isDisc, .initialized RX5, .code yX5_isDisc cX5_isDisc 1 (some .boolean), .methodLink RX5 93 yX5_changes, .instanceMethod yX5_changes, .selects RX5 yX5_changes yX5_changes, .code yX5_changes cX5_changes 2 none, .fieldLink RX5 28 "InfluenceJarsModel" "historyLong" "I", .fieldLink RX5 16 "InfluenceJarsModel" "history" "[I", .methodLink RX5 32 yX5_cell, .static yX5_cell, .code yX5_cell cX5_cell 2 (some .int)] ++ wsX50)
def wsX5_sector : List Cond := .code yX5_sector cX5_sector 3 (some .int) :: ([.fieldLink RX5 7 "InfluenceJarsModel" "all" "[I", .constant RX5 105 (-1000001), .methodLink RX5 98 yX5_isDisc, .static yX5_isDisc, .initialized RX5, .code yX5_isDisc cX5_isDisc 1 (some .boolean), .methodLink RX5 102 yX5_isPlace, .static yX5_isPlace, .code yX5_isPlace cX5_isPlace 1 (some .boolean), .constantLong RX5 96 (11), .methodLink RX5 75 yX5_in, .static yX5_in, .code yX5_in cX5_in 6 (some .boolean), .methodLink RX5 32 yX5_cell, .static yX5_cell, .code yX5_cell cX5_cell 2 (some .int)] ++ wsX50)
def wsX5_disc : List Cond := .code yX5_disc cX5_disc 10 (some .int) :: ([.constant RX5 105 (-1000001), .fieldLink RX5 7 "InfluenceJarsModel" "all" "[I", .constant RX5 91 (-1000002), .methodLink RX5 98 yX5_isDisc, .static yX5_isDisc, .initialized RX5, .code yX5_isDisc cX5_isDisc 1 (some .boolean), .methodLink RX5 32 yX5_cell, .static yX5_cell, .code yX5_cell cX5_cell 2 (some .int)] ++ wsX50)
def wsX5_jar : List Cond := .code yX5_jar cX5_jar 3 (some .int) :: ([.constant RX5 105 (-1000001), .constantLong RX5 122 (2), .fieldLink RX5 7 "InfluenceJarsModel" "all" "[I", .constant RX5 91 (-1000002), .methodLink RX5 98 yX5_isDisc, .static yX5_isDisc, .initialized RX5, .code yX5_isDisc cX5_isDisc 1 (some .boolean), .methodLink RX5 75 yX5_in, .static yX5_in, .code yX5_in cX5_in 6 (some .boolean)] ++ wsX50)
def wsX5_spark : List Cond := .code yX5_spark cX5_spark 3 (some .int) :: ([.constantLong RX5 122 (2), .constant RX5 91 (-1000002), .fieldLink RX5 7 "InfluenceJarsModel" "all" "[I", .constant RX5 124 (-1000006), .methodLink RX5 75 yX5_in, .static yX5_in, .initialized RX5, .code yX5_in cX5_in 6 (some .boolean)] ++ wsX50)
def wsX5_allCharge : List Cond := .code yX5_allCharge cX5_allCharge 3 (some .int) :: ([.fieldLink RX5 7 "InfluenceJarsModel" "all" "[I"] ++ wsX50)
def wsX5_count : List Cond := .code yX5_count cX5_count 2 (some .int) :: ([.fieldLink RX5 7 "InfluenceJarsModel" "all" "[I", .fieldLink RX5 128 "InfluenceJarsModel" "textLong" "I", .fieldLink RX5 28 "InfluenceJarsModel" "historyLong" "I", .constantLong RX5 131 (7), .constant RX5 91 (-1000002), .methodLink RX5 67 yX5_sign, .instanceMethod yX5_sign, .selects RX5 yX5_sign yX5_sign, .initialized RX5, .code yX5_sign cX5_sign 1 (some .int), .methodLink RX5 125 yX5_allCharge, .instanceMethod yX5_allCharge, .selects RX5 yX5_allCharge yX5_allCharge, .code yX5_allCharge cX5_allCharge 3 (some .int), .methodLink RX5 75 yX5_in, .static yX5_in, .code yX5_in cX5_in 6 (some .boolean)] ++ wsX50)
def wsX5_nextSpark_r1 : List Cond := [Cond.fieldLink RX5 7 "InfluenceJarsModel" "all" "[I", Cond.constant RX5 124 (-1000006), Cond.methodLink RX5 133 yX5_keeps, Cond.instanceMethod yX5_keeps, Cond.selects RX5 yX5_keeps yX5_keeps, Cond.initialized RX5, Cond.code yX5_keeps cX5_keeps 2 none, Cond.fieldLink RX5 13 "InfluenceJarsModel" "kept" "[I", Cond.methodLink RX5 70 yX5_turns, Cond.instanceMethod yX5_turns, Cond.selects RX5 yX5_turns yX5_turns, Cond.code yX5_turns cX5_turns 2 none, Cond.methodLink RX5 61 yX5_charges, Cond.instanceMethod yX5_charges, Cond.selects RX5 yX5_charges yX5_charges, Cond.code yX5_charges cX5_charges 1 none, Cond.methodLink RX5 47 yX5_discsTurn, Cond.instanceMethod yX5_discsTurn, Cond.selects RX5 yX5_discsTurn yX5_discsTurn, Cond.code yX5_discsTurn cX5_discsTurn 4 none, Cond.methodLink RX5 32 yX5_cell, Cond.static yX5_cell, Cond.code yX5_cell cX5_cell 2 (some .int), Cond.methodLink RX5 50 yX5_joins]
def wsX5_nextSpark_r2 : List Cond := [Cond.instanceMethod yX5_joins, Cond.selects RX5 yX5_joins yX5_joins, Cond.code yX5_joins cX5_joins 8 none, Cond.methodLink RX5 36 yX5_cut, Cond.static yX5_cut, Cond.code yX5_cut cX5_cut 3 (some .int), Cond.methodLink RX5 54 yX5_takes, Cond.instanceMethod yX5_takes, Cond.selects RX5 yX5_takes yX5_takes, Cond.code yX5_takes cX5_takes 5 none, Cond.methodLink RX5 58 yX5_leaks, Cond.instanceMethod yX5_leaks, Cond.selects RX5 yX5_leaks yX5_leaks, Cond.code yX5_leaks cX5_leaks 3 none, Cond.methodLink RX5 64 yX5_sparks, Cond.instanceMethod yX5_sparks, Cond.selects RX5 yX5_sparks yX5_sparks, Cond.code yX5_sparks cX5_sparks 3 none, Cond.methodLink RX5 40 yX5_difference, Cond.instanceMethod yX5_difference, Cond.selects RX5 yX5_difference yX5_difference, Cond.code yX5_difference cX5_difference 2 (some .int), Cond.methodLink RX5 44 yX5_logs, Cond.instanceMethod yX5_logs]
def wsX5_nextSpark_r3 : List Cond := [Cond.selects RX5 yX5_logs yX5_logs, Cond.code yX5_logs cX5_logs 2 none, Cond.methodLink RX5 67 yX5_sign, Cond.instanceMethod yX5_sign, Cond.selects RX5 yX5_sign yX5_sign, Cond.code yX5_sign cX5_sign 1 (some .int), Cond.methodLink RX5 136 yX5_comesBack, Cond.instanceMethod yX5_comesBack, Cond.selects RX5 yX5_comesBack yX5_comesBack, Cond.code yX5_comesBack cX5_comesBack 2 none]
def wsX5_nextSpark : List Cond := .code yX5_nextSpark cX5_nextSpark 4 (some .int) :: ((wsX5_nextSpark_r1 ++ (wsX5_nextSpark_r2 ++ wsX5_nextSpark_r3)) ++ wsX50)
def wsX5_untilSpark_r1 : List Cond := [Cond.methodLink RX5 139 yX5_nextSpark, Cond.instanceMethod yX5_nextSpark, Cond.selects RX5 yX5_nextSpark yX5_nextSpark, Cond.initialized RX5, Cond.code yX5_nextSpark cX5_nextSpark 4 (some .int), Cond.fieldLink RX5 7 "InfluenceJarsModel" "all" "[I", Cond.constant RX5 124 (-1000006), Cond.methodLink RX5 133 yX5_keeps, Cond.instanceMethod yX5_keeps, Cond.selects RX5 yX5_keeps yX5_keeps, Cond.code yX5_keeps cX5_keeps 2 none, Cond.fieldLink RX5 13 "InfluenceJarsModel" "kept" "[I", Cond.methodLink RX5 70 yX5_turns, Cond.instanceMethod yX5_turns, Cond.selects RX5 yX5_turns yX5_turns, Cond.code yX5_turns cX5_turns 2 none, Cond.methodLink RX5 61 yX5_charges, Cond.instanceMethod yX5_charges, Cond.selects RX5 yX5_charges yX5_charges, Cond.code yX5_charges cX5_charges 1 none, Cond.methodLink RX5 47 yX5_discsTurn, Cond.instanceMethod yX5_discsTurn, Cond.selects RX5 yX5_discsTurn yX5_discsTurn, Cond.code yX5_discsTurn cX5_discsTurn 4 none]
def wsX5_untilSpark_r2 : List Cond := [Cond.methodLink RX5 32 yX5_cell, Cond.static yX5_cell, Cond.code yX5_cell cX5_cell 2 (some .int), Cond.methodLink RX5 50 yX5_joins, Cond.instanceMethod yX5_joins, Cond.selects RX5 yX5_joins yX5_joins, Cond.code yX5_joins cX5_joins 8 none, Cond.methodLink RX5 36 yX5_cut, Cond.static yX5_cut, Cond.code yX5_cut cX5_cut 3 (some .int), Cond.methodLink RX5 54 yX5_takes, Cond.instanceMethod yX5_takes, Cond.selects RX5 yX5_takes yX5_takes, Cond.code yX5_takes cX5_takes 5 none, Cond.methodLink RX5 58 yX5_leaks, Cond.instanceMethod yX5_leaks, Cond.selects RX5 yX5_leaks yX5_leaks, Cond.code yX5_leaks cX5_leaks 3 none, Cond.methodLink RX5 64 yX5_sparks, Cond.instanceMethod yX5_sparks, Cond.selects RX5 yX5_sparks yX5_sparks, Cond.code yX5_sparks cX5_sparks 3 none, Cond.methodLink RX5 40 yX5_difference, Cond.instanceMethod yX5_difference]
def wsX5_untilSpark_r3 : List Cond := [Cond.selects RX5 yX5_difference yX5_difference, Cond.code yX5_difference cX5_difference 2 (some .int), Cond.methodLink RX5 44 yX5_logs, Cond.instanceMethod yX5_logs, Cond.selects RX5 yX5_logs yX5_logs, Cond.code yX5_logs cX5_logs 2 none, Cond.methodLink RX5 67 yX5_sign, Cond.instanceMethod yX5_sign, Cond.selects RX5 yX5_sign yX5_sign, Cond.code yX5_sign cX5_sign 1 (some .int), Cond.methodLink RX5 136 yX5_comesBack, Cond.instanceMethod yX5_comesBack, Cond.selects RX5 yX5_comesBack yX5_comesBack, Cond.code yX5_comesBack cX5_comesBack 2 none]
def wsX5_untilSpark : List Cond := .code yX5_untilSpark cX5_untilSpark 1 (some .int) :: ((wsX5_untilSpark_r1 ++ (wsX5_untilSpark_r2 ++ wsX5_untilSpark_r3)) ++ wsX50)
def wsX5_ifTurned_r1 : List Cond := [Cond.constantLong RX5 142 (400), Cond.constantLong RX5 144 (5), Cond.constant RX5 91 (-1000002), Cond.fieldLink RX5 7 "InfluenceJarsModel" "all" "[I", Cond.methodLink RX5 75 yX5_in, Cond.static yX5_in, Cond.initialized RX5, Cond.code yX5_in cX5_in 6 (some .boolean), Cond.methodLink RX5 133 yX5_keeps, Cond.instanceMethod yX5_keeps, Cond.selects RX5 yX5_keeps yX5_keeps, Cond.code yX5_keeps cX5_keeps 2 none, Cond.fieldLink RX5 13 "InfluenceJarsModel" "kept" "[I", Cond.methodLink RX5 115 yX5_turned, Cond.instanceMethod yX5_turned, Cond.selects RX5 yX5_turned yX5_turned, Cond.code yX5_turned cX5_turned 4 (some .int), Cond.methodLink RX5 70 yX5_turns, Cond.instanceMethod yX5_turns, Cond.selects RX5 yX5_turns yX5_turns, Cond.code yX5_turns cX5_turns 2 none, Cond.methodLink RX5 61 yX5_charges, Cond.instanceMethod yX5_charges, Cond.selects RX5 yX5_charges yX5_charges]
def wsX5_ifTurned_r2 : List Cond := [Cond.code yX5_charges cX5_charges 1 none, Cond.methodLink RX5 47 yX5_discsTurn, Cond.instanceMethod yX5_discsTurn, Cond.selects RX5 yX5_discsTurn yX5_discsTurn, Cond.code yX5_discsTurn cX5_discsTurn 4 none, Cond.methodLink RX5 32 yX5_cell, Cond.static yX5_cell, Cond.code yX5_cell cX5_cell 2 (some .int), Cond.methodLink RX5 50 yX5_joins, Cond.instanceMethod yX5_joins, Cond.selects RX5 yX5_joins yX5_joins, Cond.code yX5_joins cX5_joins 8 none, Cond.methodLink RX5 36 yX5_cut, Cond.static yX5_cut, Cond.code yX5_cut cX5_cut 3 (some .int), Cond.methodLink RX5 54 yX5_takes, Cond.instanceMethod yX5_takes, Cond.selects RX5 yX5_takes yX5_takes, Cond.code yX5_takes cX5_takes 5 none, Cond.methodLink RX5 58 yX5_leaks, Cond.instanceMethod yX5_leaks, Cond.selects RX5 yX5_leaks yX5_leaks, Cond.code yX5_leaks cX5_leaks 3 none, Cond.methodLink RX5 64 yX5_sparks]
def wsX5_ifTurned_r3 : List Cond := [Cond.instanceMethod yX5_sparks, Cond.selects RX5 yX5_sparks yX5_sparks, Cond.code yX5_sparks cX5_sparks 3 none, Cond.methodLink RX5 40 yX5_difference, Cond.instanceMethod yX5_difference, Cond.selects RX5 yX5_difference yX5_difference, Cond.code yX5_difference cX5_difference 2 (some .int), Cond.methodLink RX5 44 yX5_logs, Cond.instanceMethod yX5_logs, Cond.selects RX5 yX5_logs yX5_logs, Cond.code yX5_logs cX5_logs 2 none, Cond.methodLink RX5 67 yX5_sign, Cond.instanceMethod yX5_sign, Cond.selects RX5 yX5_sign yX5_sign, Cond.code yX5_sign cX5_sign 1 (some .int), Cond.methodLink RX5 125 yX5_allCharge, Cond.instanceMethod yX5_allCharge, Cond.selects RX5 yX5_allCharge yX5_allCharge, Cond.code yX5_allCharge cX5_allCharge 3 (some .int), Cond.methodLink RX5 136 yX5_comesBack, Cond.instanceMethod yX5_comesBack, Cond.selects RX5 yX5_comesBack yX5_comesBack, Cond.code yX5_comesBack cX5_comesBack 2 none]
def wsX5_ifTurned : List Cond := .code yX5_ifTurned cX5_ifTurned 7 (some .int) :: ((wsX5_ifTurned_r1 ++ (wsX5_ifTurned_r2 ++ wsX5_ifTurned_r3)) ++ wsX50)
def wsX5_widestGap_r1 : List Cond := [Cond.constant RX5 124 (-1000006), Cond.methodLink RX5 133 yX5_keeps, Cond.instanceMethod yX5_keeps, Cond.selects RX5 yX5_keeps yX5_keeps, Cond.initialized RX5, Cond.code yX5_keeps cX5_keeps 2 none, Cond.fieldLink RX5 13 "InfluenceJarsModel" "kept" "[I", Cond.fieldLink RX5 7 "InfluenceJarsModel" "all" "[I", Cond.methodLink RX5 61 yX5_charges, Cond.instanceMethod yX5_charges, Cond.selects RX5 yX5_charges yX5_charges, Cond.code yX5_charges cX5_charges 1 none, Cond.methodLink RX5 47 yX5_discsTurn, Cond.instanceMethod yX5_discsTurn, Cond.selects RX5 yX5_discsTurn yX5_discsTurn, Cond.code yX5_discsTurn cX5_discsTurn 4 none, Cond.methodLink RX5 32 yX5_cell, Cond.static yX5_cell, Cond.code yX5_cell cX5_cell 2 (some .int), Cond.methodLink RX5 50 yX5_joins, Cond.instanceMethod yX5_joins, Cond.selects RX5 yX5_joins yX5_joins, Cond.code yX5_joins cX5_joins 8 none, Cond.methodLink RX5 36 yX5_cut]
def wsX5_widestGap_r2 : List Cond := [Cond.static yX5_cut, Cond.code yX5_cut cX5_cut 3 (some .int), Cond.methodLink RX5 54 yX5_takes, Cond.instanceMethod yX5_takes, Cond.selects RX5 yX5_takes yX5_takes, Cond.code yX5_takes cX5_takes 5 none, Cond.methodLink RX5 58 yX5_leaks, Cond.instanceMethod yX5_leaks, Cond.selects RX5 yX5_leaks yX5_leaks, Cond.code yX5_leaks cX5_leaks 3 none, Cond.methodLink RX5 40 yX5_difference, Cond.instanceMethod yX5_difference, Cond.selects RX5 yX5_difference yX5_difference, Cond.code yX5_difference cX5_difference 2 (some .int), Cond.methodLink RX5 136 yX5_comesBack, Cond.instanceMethod yX5_comesBack, Cond.selects RX5 yX5_comesBack yX5_comesBack, Cond.code yX5_comesBack cX5_comesBack 2 none]
def wsX5_widestGap : List Cond := .code yX5_widestGap cX5_widestGap 3 (some .int) :: ((wsX5_widestGap_r1 ++ wsX5_widestGap_r2) ++ wsX50)
def wsX5_mostDamp_r1 : List Cond := [Cond.fieldLink RX5 7 "InfluenceJarsModel" "all" "[I", Cond.constant RX5 124 (-1000006), Cond.methodLink RX5 139 yX5_nextSpark, Cond.instanceMethod yX5_nextSpark, Cond.selects RX5 yX5_nextSpark yX5_nextSpark, Cond.initialized RX5, Cond.code yX5_nextSpark cX5_nextSpark 4 (some .int), Cond.methodLink RX5 133 yX5_keeps, Cond.instanceMethod yX5_keeps, Cond.selects RX5 yX5_keeps yX5_keeps, Cond.code yX5_keeps cX5_keeps 2 none, Cond.fieldLink RX5 13 "InfluenceJarsModel" "kept" "[I", Cond.methodLink RX5 70 yX5_turns, Cond.instanceMethod yX5_turns, Cond.selects RX5 yX5_turns yX5_turns, Cond.code yX5_turns cX5_turns 2 none, Cond.methodLink RX5 61 yX5_charges, Cond.instanceMethod yX5_charges, Cond.selects RX5 yX5_charges yX5_charges, Cond.code yX5_charges cX5_charges 1 none, Cond.methodLink RX5 47 yX5_discsTurn, Cond.instanceMethod yX5_discsTurn, Cond.selects RX5 yX5_discsTurn yX5_discsTurn, Cond.code yX5_discsTurn cX5_discsTurn 4 none]
def wsX5_mostDamp_r2 : List Cond := [Cond.methodLink RX5 32 yX5_cell, Cond.static yX5_cell, Cond.code yX5_cell cX5_cell 2 (some .int), Cond.methodLink RX5 50 yX5_joins, Cond.instanceMethod yX5_joins, Cond.selects RX5 yX5_joins yX5_joins, Cond.code yX5_joins cX5_joins 8 none, Cond.methodLink RX5 36 yX5_cut, Cond.static yX5_cut, Cond.code yX5_cut cX5_cut 3 (some .int), Cond.methodLink RX5 54 yX5_takes, Cond.instanceMethod yX5_takes, Cond.selects RX5 yX5_takes yX5_takes, Cond.code yX5_takes cX5_takes 5 none, Cond.methodLink RX5 58 yX5_leaks, Cond.instanceMethod yX5_leaks, Cond.selects RX5 yX5_leaks yX5_leaks, Cond.code yX5_leaks cX5_leaks 3 none, Cond.methodLink RX5 64 yX5_sparks, Cond.instanceMethod yX5_sparks, Cond.selects RX5 yX5_sparks yX5_sparks, Cond.code yX5_sparks cX5_sparks 3 none, Cond.methodLink RX5 40 yX5_difference, Cond.instanceMethod yX5_difference]
def wsX5_mostDamp_r3 : List Cond := [Cond.selects RX5 yX5_difference yX5_difference, Cond.code yX5_difference cX5_difference 2 (some .int), Cond.methodLink RX5 44 yX5_logs, Cond.instanceMethod yX5_logs, Cond.selects RX5 yX5_logs yX5_logs, Cond.code yX5_logs cX5_logs 2 none, Cond.methodLink RX5 67 yX5_sign, Cond.instanceMethod yX5_sign, Cond.selects RX5 yX5_sign yX5_sign, Cond.code yX5_sign cX5_sign 1 (some .int), Cond.methodLink RX5 136 yX5_comesBack, Cond.instanceMethod yX5_comesBack, Cond.selects RX5 yX5_comesBack yX5_comesBack, Cond.code yX5_comesBack cX5_comesBack 2 none]
def wsX5_mostDamp : List Cond := .code yX5_mostDamp cX5_mostDamp 4 (some .int) :: ((wsX5_mostDamp_r1 ++ (wsX5_mostDamp_r2 ++ wsX5_mostDamp_r3)) ++ wsX50)
def wsX5_charactersOf : List Cond := .code yX5_charactersOf cX5_charactersOf 5 (some .int) :: ([.constantLong RX5 146 (255), .constantLong RX5 148 (33), .constantLong RX5 150 (126), .methodLink RX5 75 yX5_in, .static yX5_in, .initialized RX5, .code yX5_in cX5_in 6 (some .boolean)])
def wsX5_put : List Cond := .code yX5_put cX5_put 5 (some .int) :: ([.constant RX5 91 (-1000002), .fieldLink RX5 128 "InfluenceJarsModel" "textLong" "I", .constant RX5 114 (-1000004), .fieldLink RX5 25 "InfluenceJarsModel" "text" "[I", .constantLong RX5 146 (255), .methodLink RX5 152 yX5_charactersOf, .static yX5_charactersOf, .initialized RX5, .code yX5_charactersOf cX5_charactersOf 5 (some .int), .constantLong RX5 148 (33), .constantLong RX5 150 (126), .methodLink RX5 75 yX5_in, .static yX5_in, .code yX5_in cX5_in 6 (some .boolean)] ++ wsX50)
def wsX5_wipe : List Cond := .code yX5_wipe cX5_wipe 2 (some .int) :: ([.fieldLink RX5 128 "InfluenceJarsModel" "textLong" "I"] ++ wsX50)
def wsX5_isHere : List Cond := .code yX5_isHere cX5_isHere 3 (some .boolean) :: ([.fieldLink RX5 156 "InfluenceJarsModel" "spot" "I", .fieldLink RX5 128 "InfluenceJarsModel" "textLong" "I", .fieldLink RX5 25 "InfluenceJarsModel" "text" "[I", .methodLink RX5 75 yX5_in, .static yX5_in, .initialized RX5, .code yX5_in cX5_in 6 (some .boolean)] ++ wsX50)
def wsX5_takesOne : List Cond := .code yX5_takesOne cX5_takesOne 3 (some .boolean) :: ([.fieldLink RX5 156 "InfluenceJarsModel" "spot" "I", .methodLink RX5 159 yX5_isHere, .instanceMethod yX5_isHere, .selects RX5 yX5_isHere yX5_isHere, .initialized RX5, .code yX5_isHere cX5_isHere 3 (some .boolean), .fieldLink RX5 128 "InfluenceJarsModel" "textLong" "I", .fieldLink RX5 25 "InfluenceJarsModel" "text" "[I", .methodLink RX5 75 yX5_in, .static yX5_in, .code yX5_in cX5_in 6 (some .boolean)] ++ wsX50)
def wsX5_readsNumber : List Cond := .code yX5_readsNumber cX5_readsNumber 3 (some .boolean) :: ([.fieldLink RX5 25 "InfluenceJarsModel" "text" "[I", .fieldLink RX5 156 "InfluenceJarsModel" "spot" "I", .fieldLink RX5 162 "InfluenceJarsModel" "number" "I", .methodLink RX5 159 yX5_isHere, .instanceMethod yX5_isHere, .selects RX5 yX5_isHere yX5_isHere, .initialized RX5, .code yX5_isHere cX5_isHere 3 (some .boolean), .fieldLink RX5 128 "InfluenceJarsModel" "textLong" "I", .methodLink RX5 75 yX5_in, .static yX5_in, .code yX5_in cX5_in 6 (some .boolean)] ++ wsX50)
def wsX5_readsTouch : List Cond := .code yX5_readsTouch cX5_readsTouch 4 (some .boolean) :: ([.fieldLink RX5 162 "InfluenceJarsModel" "number" "I", .fieldLink RX5 168 "InfluenceJarsModel" "place" "I", .fieldLink RX5 174 "InfluenceJarsModel" "charge" "I", .methodLink RX5 165 yX5_readsNumber, .instanceMethod yX5_readsNumber, .selects RX5 yX5_readsNumber yX5_readsNumber, .initialized RX5, .code yX5_readsNumber cX5_readsNumber 3 (some .boolean), .fieldLink RX5 25 "InfluenceJarsModel" "text" "[I", .fieldLink RX5 156 "InfluenceJarsModel" "spot" "I", .methodLink RX5 159 yX5_isHere, .instanceMethod yX5_isHere, .selects RX5 yX5_isHere yX5_isHere, .code yX5_isHere cX5_isHere 3 (some .boolean), .fieldLink RX5 128 "InfluenceJarsModel" "textLong" "I", .methodLink RX5 75 yX5_in, .static yX5_in, .code yX5_in cX5_in 6 (some .boolean), .methodLink RX5 171 yX5_takesOne, .instanceMethod yX5_takesOne, .selects RX5 yX5_takesOne yX5_takesOne, .code yX5_takesOne cX5_takesOne 3 (some .boolean)] ++ wsX50)
def wsX5_readsDeed_r1 : List Cond := [Cond.fieldLink RX5 156 "InfluenceJarsModel" "spot" "I", Cond.fieldLink RX5 128 "InfluenceJarsModel" "textLong" "I", Cond.fieldLink RX5 25 "InfluenceJarsModel" "text" "[I", Cond.fieldLink RX5 177 "InfluenceJarsModel" "letter" "I", Cond.methodLink RX5 171 yX5_takesOne, Cond.instanceMethod yX5_takesOne, Cond.selects RX5 yX5_takesOne yX5_takesOne, Cond.initialized RX5, Cond.code yX5_takesOne cX5_takesOne 3 (some .boolean), Cond.methodLink RX5 159 yX5_isHere, Cond.instanceMethod yX5_isHere, Cond.selects RX5 yX5_isHere yX5_isHere, Cond.code yX5_isHere cX5_isHere 3 (some .boolean), Cond.methodLink RX5 75 yX5_in, Cond.static yX5_in, Cond.code yX5_in cX5_in 6 (some .boolean), Cond.methodLink RX5 165 yX5_readsNumber, Cond.instanceMethod yX5_readsNumber, Cond.selects RX5 yX5_readsNumber yX5_readsNumber, Cond.code yX5_readsNumber cX5_readsNumber 3 (some .boolean), Cond.fieldLink RX5 162 "InfluenceJarsModel" "number" "I", Cond.methodLink RX5 180 yX5_readsTouch, Cond.instanceMethod yX5_readsTouch, Cond.selects RX5 yX5_readsTouch yX5_readsTouch]
def wsX5_readsDeed_r2 : List Cond := [Cond.code yX5_readsTouch cX5_readsTouch 4 (some .boolean), Cond.fieldLink RX5 168 "InfluenceJarsModel" "place" "I", Cond.fieldLink RX5 174 "InfluenceJarsModel" "charge" "I"]
def wsX5_readsDeed : List Cond := .code yX5_readsDeed cX5_readsDeed 1 (some .boolean) :: ((wsX5_readsDeed_r1 ++ wsX5_readsDeed_r2) ++ wsX50)
def wsX5_fault_r1 : List Cond := [Cond.fieldLink RX5 156 "InfluenceJarsModel" "spot" "I", Cond.fieldLink RX5 128 "InfluenceJarsModel" "textLong" "I", Cond.constant RX5 124 (-1000006), Cond.methodLink RX5 184 yX5_readsDeed, Cond.instanceMethod yX5_readsDeed, Cond.selects RX5 yX5_readsDeed yX5_readsDeed, Cond.initialized RX5, Cond.code yX5_readsDeed cX5_readsDeed 1 (some .boolean), Cond.fieldLink RX5 25 "InfluenceJarsModel" "text" "[I", Cond.fieldLink RX5 177 "InfluenceJarsModel" "letter" "I", Cond.methodLink RX5 171 yX5_takesOne, Cond.instanceMethod yX5_takesOne, Cond.selects RX5 yX5_takesOne yX5_takesOne, Cond.code yX5_takesOne cX5_takesOne 3 (some .boolean), Cond.methodLink RX5 159 yX5_isHere, Cond.instanceMethod yX5_isHere, Cond.selects RX5 yX5_isHere yX5_isHere, Cond.code yX5_isHere cX5_isHere 3 (some .boolean), Cond.methodLink RX5 75 yX5_in, Cond.static yX5_in, Cond.code yX5_in cX5_in 6 (some .boolean), Cond.methodLink RX5 165 yX5_readsNumber, Cond.instanceMethod yX5_readsNumber, Cond.selects RX5 yX5_readsNumber yX5_readsNumber]
def wsX5_fault_r2 : List Cond := [Cond.code yX5_readsNumber cX5_readsNumber 3 (some .boolean), Cond.fieldLink RX5 162 "InfluenceJarsModel" "number" "I", Cond.methodLink RX5 180 yX5_readsTouch, Cond.instanceMethod yX5_readsTouch, Cond.selects RX5 yX5_readsTouch yX5_readsTouch, Cond.code yX5_readsTouch cX5_readsTouch 4 (some .boolean), Cond.fieldLink RX5 168 "InfluenceJarsModel" "place" "I", Cond.fieldLink RX5 174 "InfluenceJarsModel" "charge" "I"]
def wsX5_fault : List Cond := .code yX5_fault cX5_fault 2 (some .int) :: ((wsX5_fault_r1 ++ wsX5_fault_r2) ++ wsX50)
def wsX5_does_r1 : List Cond := [Cond.fieldLink RX5 177 "InfluenceJarsModel" "letter" "I", Cond.fieldLink RX5 7 "InfluenceJarsModel" "all" "[I", Cond.fieldLink RX5 162 "InfluenceJarsModel" "number" "I", Cond.constant RX5 113 (99999), Cond.fieldLink RX5 168 "InfluenceJarsModel" "place" "I", Cond.fieldLink RX5 174 "InfluenceJarsModel" "charge" "I", Cond.methodLink RX5 115 yX5_turned, Cond.instanceMethod yX5_turned, Cond.selects RX5 yX5_turned yX5_turned, Cond.initialized RX5, Cond.code yX5_turned cX5_turned 4 (some .int), Cond.methodLink RX5 70 yX5_turns, Cond.instanceMethod yX5_turns, Cond.selects RX5 yX5_turns yX5_turns, Cond.code yX5_turns cX5_turns 2 none, Cond.methodLink RX5 61 yX5_charges, Cond.instanceMethod yX5_charges, Cond.selects RX5 yX5_charges yX5_charges, Cond.code yX5_charges cX5_charges 1 none, Cond.methodLink RX5 47 yX5_discsTurn, Cond.instanceMethod yX5_discsTurn, Cond.selects RX5 yX5_discsTurn yX5_discsTurn, Cond.code yX5_discsTurn cX5_discsTurn 4 none, Cond.methodLink RX5 32 yX5_cell]
def wsX5_does_r2 : List Cond := [Cond.static yX5_cell, Cond.code yX5_cell cX5_cell 2 (some .int), Cond.methodLink RX5 50 yX5_joins, Cond.instanceMethod yX5_joins, Cond.selects RX5 yX5_joins yX5_joins, Cond.code yX5_joins cX5_joins 8 none, Cond.methodLink RX5 36 yX5_cut, Cond.static yX5_cut, Cond.code yX5_cut cX5_cut 3 (some .int), Cond.methodLink RX5 54 yX5_takes, Cond.instanceMethod yX5_takes, Cond.selects RX5 yX5_takes yX5_takes, Cond.code yX5_takes cX5_takes 5 none, Cond.methodLink RX5 58 yX5_leaks, Cond.instanceMethod yX5_leaks, Cond.selects RX5 yX5_leaks yX5_leaks, Cond.code yX5_leaks cX5_leaks 3 none, Cond.methodLink RX5 64 yX5_sparks, Cond.instanceMethod yX5_sparks, Cond.selects RX5 yX5_sparks yX5_sparks, Cond.code yX5_sparks cX5_sparks 3 none, Cond.methodLink RX5 40 yX5_difference, Cond.instanceMethod yX5_difference, Cond.selects RX5 yX5_difference yX5_difference]
def wsX5_does_r3 : List Cond := [Cond.code yX5_difference cX5_difference 2 (some .int), Cond.methodLink RX5 44 yX5_logs, Cond.instanceMethod yX5_logs, Cond.selects RX5 yX5_logs yX5_logs, Cond.code yX5_logs cX5_logs 2 none, Cond.methodLink RX5 67 yX5_sign, Cond.instanceMethod yX5_sign, Cond.selects RX5 yX5_sign yX5_sign, Cond.code yX5_sign cX5_sign 1 (some .int), Cond.methodLink RX5 119 yX5_discharges, Cond.instanceMethod yX5_discharges, Cond.selects RX5 yX5_discharges yX5_discharges, Cond.code yX5_discharges cX5_discharges 2 (some .int), Cond.methodLink RX5 110 yX5_touches, Cond.instanceMethod yX5_touches, Cond.selects RX5 yX5_touches yX5_touches, Cond.code yX5_touches cX5_touches 4 none]
def wsX5_does : List Cond := .code yX5_does cX5_does 2 (some .int) :: ((wsX5_does_r1 ++ (wsX5_does_r2 ++ wsX5_does_r3)) ++ wsX50)
def wsX5_run_r1 : List Cond := [Cond.constant RX5 124 (-1000006), Cond.constant RX5 190 (-1000003), Cond.fieldLink RX5 156 "InfluenceJarsModel" "spot" "I", Cond.fieldLink RX5 128 "InfluenceJarsModel" "textLong" "I", Cond.methodLink RX5 187 yX5_fault, Cond.instanceMethod yX5_fault, Cond.selects RX5 yX5_fault yX5_fault, Cond.initialized RX5, Cond.code yX5_fault cX5_fault 2 (some .int), Cond.methodLink RX5 184 yX5_readsDeed, Cond.instanceMethod yX5_readsDeed, Cond.selects RX5 yX5_readsDeed yX5_readsDeed, Cond.code yX5_readsDeed cX5_readsDeed 1 (some .boolean), Cond.fieldLink RX5 25 "InfluenceJarsModel" "text" "[I", Cond.fieldLink RX5 177 "InfluenceJarsModel" "letter" "I", Cond.methodLink RX5 171 yX5_takesOne, Cond.instanceMethod yX5_takesOne, Cond.selects RX5 yX5_takesOne yX5_takesOne, Cond.code yX5_takesOne cX5_takesOne 3 (some .boolean), Cond.methodLink RX5 159 yX5_isHere, Cond.instanceMethod yX5_isHere, Cond.selects RX5 yX5_isHere yX5_isHere, Cond.code yX5_isHere cX5_isHere 3 (some .boolean), Cond.methodLink RX5 75 yX5_in]
def wsX5_run_r2 : List Cond := [Cond.static yX5_in, Cond.code yX5_in cX5_in 6 (some .boolean), Cond.methodLink RX5 165 yX5_readsNumber, Cond.instanceMethod yX5_readsNumber, Cond.selects RX5 yX5_readsNumber yX5_readsNumber, Cond.code yX5_readsNumber cX5_readsNumber 3 (some .boolean), Cond.fieldLink RX5 162 "InfluenceJarsModel" "number" "I", Cond.methodLink RX5 180 yX5_readsTouch, Cond.instanceMethod yX5_readsTouch, Cond.selects RX5 yX5_readsTouch yX5_readsTouch, Cond.code yX5_readsTouch cX5_readsTouch 4 (some .boolean), Cond.fieldLink RX5 168 "InfluenceJarsModel" "place" "I", Cond.fieldLink RX5 174 "InfluenceJarsModel" "charge" "I", Cond.methodLink RX5 93 yX5_changes, Cond.instanceMethod yX5_changes, Cond.selects RX5 yX5_changes yX5_changes, Cond.code yX5_changes cX5_changes 2 none, Cond.fieldLink RX5 28 "InfluenceJarsModel" "historyLong" "I", Cond.fieldLink RX5 16 "InfluenceJarsModel" "history" "[I", Cond.fieldLink RX5 7 "InfluenceJarsModel" "all" "[I", Cond.methodLink RX5 191 yX5_does, Cond.instanceMethod yX5_does, Cond.selects RX5 yX5_does yX5_does, Cond.code yX5_does cX5_does 2 (some .int)]
def wsX5_run_r3 : List Cond := [Cond.constant RX5 113 (99999), Cond.methodLink RX5 115 yX5_turned, Cond.instanceMethod yX5_turned, Cond.selects RX5 yX5_turned yX5_turned, Cond.code yX5_turned cX5_turned 4 (some .int), Cond.methodLink RX5 70 yX5_turns, Cond.instanceMethod yX5_turns, Cond.selects RX5 yX5_turns yX5_turns, Cond.code yX5_turns cX5_turns 2 none, Cond.methodLink RX5 61 yX5_charges, Cond.instanceMethod yX5_charges, Cond.selects RX5 yX5_charges yX5_charges, Cond.code yX5_charges cX5_charges 1 none, Cond.methodLink RX5 47 yX5_discsTurn, Cond.instanceMethod yX5_discsTurn, Cond.selects RX5 yX5_discsTurn yX5_discsTurn, Cond.code yX5_discsTurn cX5_discsTurn 4 none, Cond.methodLink RX5 32 yX5_cell, Cond.static yX5_cell, Cond.code yX5_cell cX5_cell 2 (some .int), Cond.methodLink RX5 50 yX5_joins, Cond.instanceMethod yX5_joins, Cond.selects RX5 yX5_joins yX5_joins, Cond.code yX5_joins cX5_joins 8 none]
def wsX5_run_r4 : List Cond := [Cond.methodLink RX5 36 yX5_cut, Cond.static yX5_cut, Cond.code yX5_cut cX5_cut 3 (some .int), Cond.methodLink RX5 54 yX5_takes, Cond.instanceMethod yX5_takes, Cond.selects RX5 yX5_takes yX5_takes, Cond.code yX5_takes cX5_takes 5 none, Cond.methodLink RX5 58 yX5_leaks, Cond.instanceMethod yX5_leaks, Cond.selects RX5 yX5_leaks yX5_leaks, Cond.code yX5_leaks cX5_leaks 3 none, Cond.methodLink RX5 64 yX5_sparks, Cond.instanceMethod yX5_sparks, Cond.selects RX5 yX5_sparks yX5_sparks, Cond.code yX5_sparks cX5_sparks 3 none, Cond.methodLink RX5 40 yX5_difference, Cond.instanceMethod yX5_difference, Cond.selects RX5 yX5_difference yX5_difference, Cond.code yX5_difference cX5_difference 2 (some .int), Cond.methodLink RX5 44 yX5_logs, Cond.instanceMethod yX5_logs, Cond.selects RX5 yX5_logs yX5_logs, Cond.code yX5_logs cX5_logs 2 none, Cond.methodLink RX5 67 yX5_sign]
def wsX5_run_r5 : List Cond := [Cond.instanceMethod yX5_sign, Cond.selects RX5 yX5_sign yX5_sign, Cond.code yX5_sign cX5_sign 1 (some .int), Cond.methodLink RX5 119 yX5_discharges, Cond.instanceMethod yX5_discharges, Cond.selects RX5 yX5_discharges yX5_discharges, Cond.code yX5_discharges cX5_discharges 2 (some .int), Cond.methodLink RX5 110 yX5_touches, Cond.instanceMethod yX5_touches, Cond.selects RX5 yX5_touches yX5_touches, Cond.code yX5_touches cX5_touches 4 none]
def wsX5_run : List Cond := .code yX5_run cX5_run 4 (some .int) :: ((wsX5_run_r1 ++ (wsX5_run_r2 ++ (wsX5_run_r3 ++ (wsX5_run_r4 ++ wsX5_run_r5)))) ++ wsX50)
def wsX5_undo : List Cond := .code yX5_undo cX5_undo 2 (some .int) :: ([.fieldLink RX5 28 "InfluenceJarsModel" "historyLong" "I", .constant RX5 92 (-1000005), .fieldLink RX5 7 "InfluenceJarsModel" "all" "[I", .fieldLink RX5 16 "InfluenceJarsModel" "history" "[I"] ++ wsX50)
def wsX5_save : List Cond := .code yX5_save cX5_save 3 (some .int) :: ([.constant RX5 91 (-1000002), .fieldLink RX5 19 "InfluenceJarsModel" "slots" "[I", .fieldLink RX5 7 "InfluenceJarsModel" "all" "[I", .fieldLink RX5 22 "InfluenceJarsModel" "isSaved" "[I", .methodLink RX5 98 yX5_isDisc, .static yX5_isDisc, .initialized RX5, .code yX5_isDisc cX5_isDisc 1 (some .boolean)] ++ wsX50)
def wsX5_restore : List Cond := .code yX5_restore cX5_restore 3 (some .int) :: ([.constant RX5 91 (-1000002), .fieldLink RX5 22 "InfluenceJarsModel" "isSaved" "[I", .constant RX5 92 (-1000005), .fieldLink RX5 7 "InfluenceJarsModel" "all" "[I", .fieldLink RX5 19 "InfluenceJarsModel" "slots" "[I", .methodLink RX5 98 yX5_isDisc, .static yX5_isDisc, .initialized RX5, .code yX5_isDisc cX5_isDisc 1 (some .boolean), .methodLink RX5 93 yX5_changes, .instanceMethod yX5_changes, .selects RX5 yX5_changes yX5_changes, .code yX5_changes cX5_changes 2 none, .fieldLink RX5 28 "InfluenceJarsModel" "historyLong" "I", .fieldLink RX5 16 "InfluenceJarsModel" "history" "[I"] ++ wsX50)
def wsJ9_abs_0f7a4 : List Cond := .code yJ9_abs_0f7a4 cJ9_abs_0f7a4 1 (some .int) :: ([])
def wsJ9_max_7cf53 : List Cond := .code yJ9_max_7cf53 cJ9_max_7cf53 2 (some .int) :: ([])
def wsJ9_min_7cf53 : List Cond := .code yJ9_min_7cf53 cJ9_min_7cf53 2 (some .int) :: ([])
def wsL_law_r1 : List Cond := [Cond.classLink RL 7 RX4, Cond.instantiable RX4 6, Cond.initialized RX4, Cond.classLink RL 10 RX5, Cond.instantiable RX5 13, Cond.initialized RX5, Cond.constantLong RL 77 (4294967295), Cond.methodLink RL 9 yX4_init, Cond.instanceMethod yX4_init, Cond.code yX4_init cX4_init 1 none, Cond.methodLink RX4 1 objectInit, Cond.instanceMethod objectInit, Cond.code objectInit ⟨#[0xb1]⟩ 1 none, Cond.classLink RX4 7 RX2, Cond.instantiable RX2 13, Cond.initialized RX2, Cond.fieldLink RX4 10 "InfluenceJars" "now" "LInfluenceJars$Machine;", Cond.fieldLink RX4 16 "InfluenceJars" "trial" "LInfluenceJars$Machine;", Cond.classLink RX4 19 RX1, Cond.instantiable RX1 3, Cond.initialized RX1, Cond.fieldLink RX4 22 "InfluenceJars" "history" "LInfluenceJars$History;", Cond.fieldLink RX4 26 "InfluenceJars" "slots" "[LInfluenceJars$Machine;", Cond.classLink RX4 30 RX0]
def wsL_law_r2 : List Cond := [Cond.instantiable RX0 6, Cond.initialized RX0, Cond.fieldLink RX4 33 "InfluenceJars" "reader" "LInfluenceJars$DeedReader;", Cond.fieldLink RX4 37 "InfluenceJars$DeedReader" "pad" "LInfluenceJars$Pad;", Cond.fieldLink RX4 41 "InfluenceJars" "pad" "LInfluenceJars$Pad;", Cond.instanceMethod yX2_init, Cond.code yX2_init cX2_init 1 none, Cond.methodLink RX2 3 objectInit, Cond.arrayClass .int, Cond.fieldLink RX2 9 "InfluenceJars$Machine" "settings" "[I", Cond.fieldLink RX2 15 "InfluenceJars$Machine" "charges" "[I", Cond.fieldLink RX2 18 "InfluenceJars$Machine" "jars" "[I", Cond.fieldLink RX2 21 "InfluenceJars$Machine" "taken" "[I", Cond.fieldLink RX2 24 "InfluenceJars$Machine" "leakedOfJar" "[I", Cond.fieldLink RX2 27 "InfluenceJars$Machine" "sparkLog" "[I", Cond.instanceMethod yX1_init, Cond.code yX1_init cX1_init 1 none, Cond.methodLink RX1 3 objectInit, Cond.classLink RX1 9 RX2, Cond.fieldLink RX1 11 "InfluenceJars$History" "states" "[LInfluenceJars$Machine;", Cond.instanceMethod yX0_init, Cond.code yX0_init cX0_init 1 none, Cond.methodLink RX0 3 objectInit, Cond.classLink RX0 9 RX3]
def wsL_law_r3 : List Cond := [Cond.instantiable RX3 2, Cond.initialized RX3, Cond.fieldLink RX0 12 "InfluenceJars$DeedReader" "pad" "LInfluenceJars$Pad;", Cond.instanceMethod yX3_init, Cond.code yX3_init cX3_init 1 none, Cond.methodLink RX3 3 objectInit, Cond.arrayClass .char, Cond.fieldLink RX3 9 "InfluenceJars$Pad" "signs" "[C", Cond.methodLink RL 12 yX5_init, Cond.instanceMethod yX5_init, Cond.code yX5_init cX5_init 1 none, Cond.methodLink RX5 1 objectInit, Cond.fieldLink RX5 7 "InfluenceJarsModel" "all" "[I", Cond.fieldLink RX5 13 "InfluenceJarsModel" "kept" "[I", Cond.fieldLink RX5 16 "InfluenceJarsModel" "history" "[I", Cond.fieldLink RX5 19 "InfluenceJarsModel" "slots" "[I", Cond.fieldLink RX5 22 "InfluenceJarsModel" "isSaved" "[I", Cond.fieldLink RX5 25 "InfluenceJarsModel" "text" "[I", Cond.methodLink RL 13 yX4_set, Cond.instanceMethod yX4_set, Cond.selects RX4 yX4_set yX4_set, Cond.code yX4_set cX4_set 4 (some .int), Cond.constant RX4 42 (-1000002), Cond.fieldLink RX4 43 "InfluenceJars" "LEAST_SETTING" "[I"]
def wsL_law_r4 : List Cond := [Cond.fieldLink RX4 47 "InfluenceJars" "MOST_SETTING" "[I", Cond.constant RX4 54 (-1000005), Cond.fieldLink RX4 59 "InfluenceJars$Machine" "settings" "[I", Cond.methodLink RX4 50 yX2_fullestJar, Cond.instanceMethod yX2_fullestJar, Cond.selects RX2 yX2_fullestJar yX2_fullestJar, Cond.code yX2_fullestJar cX2_fullestJar 1 (some .int), Cond.methodLink RX2 80 Lib.Math.abs.name, Cond.static Lib.Math.abs.name, Cond.initialized "java/lang/Math", Cond.code Lib.Math.abs.name Lib.Math.abs.code 1 (some .int), Cond.methodLink RX2 71 Lib.Math.max.name, Cond.static Lib.Math.max.name, Cond.code Lib.Math.max.name Lib.Math.max.code 2 (some .int), Cond.methodLink RX4 55 yX1_record, Cond.instanceMethod yX1_record, Cond.selects RX1 yX1_record yX1_record, Cond.code yX1_record cX1_record 4 none, Cond.fieldLink RX1 17 "InfluenceJars$History" "size" "I", Cond.fieldLink RX1 21 "InfluenceJars$History" "oldest" "I", Cond.methodLink RX1 24 yJ9_floorMod_7cf53, Cond.static yJ9_floorMod_7cf53, Cond.initialized RJ9, Cond.code yJ9_floorMod_7cf53 cJ9_floorMod_7cf53 3 (some .int)]
def wsL_law_r5 : List Cond := [Cond.methodLink RX1 31 yX2_become, Cond.instanceMethod yX2_become, Cond.selects RX2 yX2_become yX2_become, Cond.code yX2_become cX2_become 2 none, Cond.fieldLink RX2 34 "InfluenceJars$Machine" "turns" "I", Cond.fieldLink RX2 38 "InfluenceJars$Machine" "sparks" "I", Cond.fieldLink RX2 41 "InfluenceJars$Machine" "reversals" "I", Cond.fieldLink RX2 44 "InfluenceJars$Machine" "latestSign" "I", Cond.fieldLink RX2 47 "InfluenceJars$Machine" "leaked" "I", Cond.fieldLink RX2 50 "InfluenceJars$Machine" "putOn" "I", Cond.fieldLink RX2 53 "InfluenceJars$Machine" "takenOff" "I", Cond.static yX4_copyNumbers, Cond.code yX4_copyNumbers cX4_copyNumbers 2 none, Cond.methodLink RX4 209 Lib.Math.min.name, Cond.static Lib.Math.min.name, Cond.code Lib.Math.min.name Lib.Math.min.code 2 (some .int), Cond.methodLink RX4 226 arraycopyName, Cond.native arraycopyName, Cond.static arraycopyName, Cond.initialized "java/lang/System", Cond.methodLink RL 17 yX5_set, Cond.instanceMethod yX5_set, Cond.selects RX5 yX5_set yX5_set, Cond.code yX5_set cX5_set 4 (some .int)]
def wsL_law_r6 : List Cond := [Cond.constant RX5 91 (-1000002), Cond.constant RX5 92 (-1000005), Cond.methodLink RX5 87 yX5_isSetting, Cond.instanceMethod yX5_isSetting, Cond.selects RX5 yX5_isSetting yX5_isSetting, Cond.code yX5_isSetting cX5_isSetting 3 (some .boolean), Cond.constantLong RX5 73 (32), Cond.constantLong RX5 79 (60), Cond.constantLong RX5 81 (200), Cond.constantLong RX5 83 (100), Cond.constantLong RX5 85 (2000), Cond.methodLink RX5 75 yX5_in, Cond.static yX5_in, Cond.code yX5_in cX5_in 6 (some .boolean), Cond.methodLink RX5 93 yX5_changes, Cond.instanceMethod yX5_changes, Cond.selects RX5 yX5_changes yX5_changes, Cond.code yX5_changes cX5_changes 2 none, Cond.fieldLink RX5 28 "InfluenceJarsModel" "historyLong" "I", Cond.methodLink RL 18 yX4_touch, Cond.instanceMethod yX4_touch, Cond.selects RX4 yX4_touch yX4_touch, Cond.code yX4_touch cX4_touch 4 (some .int), Cond.constant RX4 69 (-1000001)]
def wsL_law_r7 : List Cond := [Cond.methodLink RX4 62 yX4_isNoDisc, Cond.static yX4_isNoDisc, Cond.code yX4_isNoDisc cX4_isNoDisc 1 (some .boolean), Cond.methodLink RX4 66 yX4_isNoPlace, Cond.static yX4_isNoPlace, Cond.code yX4_isNoPlace cX4_isNoPlace 1 (some .boolean), Cond.methodLink RX4 70 yX2_putCharge, Cond.instanceMethod yX2_putCharge, Cond.selects RX2 yX2_putCharge yX2_putCharge, Cond.code yX2_putCharge cX2_putCharge 6 (some .int), Cond.methodLink RX2 84 yX2_indexOf, Cond.static yX2_indexOf, Cond.code yX2_indexOf cX2_indexOf 3 (some .int), Cond.methodLink RX2 56 yJ9_floorMod_7cf53, Cond.methodLink RL 22 yX5_touch, Cond.instanceMethod yX5_touch, Cond.selects RX5 yX5_touch yX5_touch, Cond.code yX5_touch cX5_touch 5 (some .int), Cond.constant RX5 105 (-1000001), Cond.constantLong RX5 106 (-99), Cond.constantLong RX5 108 (99), Cond.methodLink RX5 98 yX5_isDisc, Cond.static yX5_isDisc, Cond.code yX5_isDisc cX5_isDisc 1 (some .boolean)]
def wsL_law_r8 : List Cond := [Cond.methodLink RX5 102 yX5_isPlace, Cond.static yX5_isPlace, Cond.code yX5_isPlace cX5_isPlace 1 (some .boolean), Cond.constantLong RX5 96 (11), Cond.methodLink RX5 32 yX5_cell, Cond.static yX5_cell, Cond.code yX5_cell cX5_cell 2 (some .int), Cond.methodLink RX5 110 yX5_touches, Cond.instanceMethod yX5_touches, Cond.selects RX5 yX5_touches yX5_touches, Cond.code yX5_touches cX5_touches 4 none, Cond.methodLink RL 23 yX4_turn, Cond.instanceMethod yX4_turn, Cond.selects RX4 yX4_turn yX4_turn, Cond.code yX4_turn cX4_turn 2 (some .int), Cond.constant RX4 77 (-1000004), Cond.methodLink RX4 74 yX2_hasTurnsLeft, Cond.instanceMethod yX2_hasTurnsLeft, Cond.selects RX2 yX2_hasTurnsLeft yX2_hasTurnsLeft, Cond.code yX2_hasTurnsLeft cX2_hasTurnsLeft 2 (some .boolean), Cond.constant RX2 83 (99999), Cond.methodLink RX4 78 yX2_turnHandle, Cond.instanceMethod yX2_turnHandle, Cond.selects RX2 yX2_turnHandle yX2_turnHandle]
def wsL_law_r9 : List Cond := [Cond.code yX2_turnHandle cX2_turnHandle 4 (some .int), Cond.methodLink RX2 95 yX2_turnOnce, Cond.instanceMethod yX2_turnOnce, Cond.selects RX2 yX2_turnOnce yX2_turnOnce, Cond.code yX2_turnOnce cX2_turnOnce 1 none, Cond.methodLink RX2 98 yX2_turnAheadOfSpark, Cond.instanceMethod yX2_turnAheadOfSpark, Cond.selects RX2 yX2_turnAheadOfSpark yX2_turnAheadOfSpark, Cond.code yX2_turnAheadOfSpark cX2_turnAheadOfSpark 1 none, Cond.methodLink RX2 112 yX2_join, Cond.instanceMethod yX2_join, Cond.selects RX2 yX2_join yX2_join, Cond.code yX2_join cX2_join 14 none, Cond.methodLink RX2 74 Lib.Math.min.name, Cond.static yX4_limited, Cond.code yX4_limited cX4_limited 3 (some .int), Cond.methodLink RX4 204 Lib.Math.max.name, Cond.methodLink RX2 116 yX2_gather, Cond.instanceMethod yX2_gather, Cond.selects RX2 yX2_gather yX2_gather, Cond.code yX2_gather cX2_gather 7 none, Cond.methodLink RX2 120 yX2_leakFromSectors, Cond.instanceMethod yX2_leakFromSectors, Cond.selects RX2 yX2_leakFromSectors yX2_leakFromSectors]
def wsL_law_r10 : List Cond := [Cond.code yX2_leakFromSectors cX2_leakFromSectors 3 none, Cond.methodLink RX2 123 yX2_leakFromJar, Cond.instanceMethod yX2_leakFromJar, Cond.selects RX2 yX2_leakFromJar yX2_leakFromJar, Cond.code yX2_leakFromJar cX2_leakFromJar 3 none, Cond.methodLink RX2 101 yX2_isSparkDue, Cond.instanceMethod yX2_isSparkDue, Cond.selects RX2 yX2_isSparkDue yX2_isSparkDue, Cond.code yX2_isSparkDue cX2_isSparkDue 1 (some .boolean), Cond.methodLink RX2 88 yX2_difference, Cond.instanceMethod yX2_difference, Cond.selects RX2 yX2_difference yX2_difference, Cond.code yX2_difference cX2_difference 1 (some .int), Cond.methodLink RX2 106 yX2_letJump, Cond.instanceMethod yX2_letJump, Cond.selects RX2 yX2_letJump yX2_letJump, Cond.code yX2_letJump cX2_letJump 4 none, Cond.methodLink RX2 130 yX2_logIndexOf, Cond.static yX2_logIndexOf, Cond.code yX2_logIndexOf cX2_logIndexOf 1 (some .int), Cond.methodLink RX2 109 yX2_noteSign, Cond.instanceMethod yX2_noteSign, Cond.selects RX2 yX2_noteSign yX2_noteSign, Cond.code yX2_noteSign cX2_noteSign 2 none]
def wsL_law_r11 : List Cond := [Cond.methodLink RX2 133 yX2_sign, Cond.instanceMethod yX2_sign, Cond.selects RX2 yX2_sign yX2_sign, Cond.code yX2_sign cX2_sign 1 (some .int), Cond.methodLink RX2 66 yJ6_signum_0f7a4, Cond.static yJ6_signum_0f7a4, Cond.initialized RJ6, Cond.code yJ6_signum_0f7a4 cJ6_signum_0f7a4 1 (some .int), Cond.methodLink RL 27 yX5_turn, Cond.instanceMethod yX5_turn, Cond.selects RX5 yX5_turn yX5_turn, Cond.code yX5_turn cX5_turn 2 (some .int), Cond.constant RX5 113 (99999), Cond.constant RX5 114 (-1000004), Cond.methodLink RX5 115 yX5_turned, Cond.instanceMethod yX5_turned, Cond.selects RX5 yX5_turned yX5_turned, Cond.code yX5_turned cX5_turned 4 (some .int), Cond.methodLink RX5 70 yX5_turns, Cond.instanceMethod yX5_turns, Cond.selects RX5 yX5_turns yX5_turns, Cond.code yX5_turns cX5_turns 2 none, Cond.methodLink RX5 61 yX5_charges, Cond.instanceMethod yX5_charges]
def wsL_law_r12 : List Cond := [Cond.selects RX5 yX5_charges yX5_charges, Cond.code yX5_charges cX5_charges 1 none, Cond.methodLink RX5 47 yX5_discsTurn, Cond.instanceMethod yX5_discsTurn, Cond.selects RX5 yX5_discsTurn yX5_discsTurn, Cond.code yX5_discsTurn cX5_discsTurn 4 none, Cond.methodLink RX5 50 yX5_joins, Cond.instanceMethod yX5_joins, Cond.selects RX5 yX5_joins yX5_joins, Cond.code yX5_joins cX5_joins 8 none, Cond.methodLink RX5 36 yX5_cut, Cond.static yX5_cut, Cond.code yX5_cut cX5_cut 3 (some .int), Cond.methodLink RX5 54 yX5_takes, Cond.instanceMethod yX5_takes, Cond.selects RX5 yX5_takes yX5_takes, Cond.code yX5_takes cX5_takes 5 none, Cond.methodLink RX5 58 yX5_leaks, Cond.instanceMethod yX5_leaks, Cond.selects RX5 yX5_leaks yX5_leaks, Cond.code yX5_leaks cX5_leaks 3 none, Cond.methodLink RX5 64 yX5_sparks, Cond.instanceMethod yX5_sparks, Cond.selects RX5 yX5_sparks yX5_sparks]
def wsL_law_r13 : List Cond := [Cond.code yX5_sparks cX5_sparks 3 none, Cond.methodLink RX5 40 yX5_difference, Cond.instanceMethod yX5_difference, Cond.selects RX5 yX5_difference yX5_difference, Cond.code yX5_difference cX5_difference 2 (some .int), Cond.methodLink RX5 44 yX5_logs, Cond.instanceMethod yX5_logs, Cond.selects RX5 yX5_logs yX5_logs, Cond.code yX5_logs cX5_logs 2 none, Cond.methodLink RX5 67 yX5_sign, Cond.instanceMethod yX5_sign, Cond.selects RX5 yX5_sign yX5_sign, Cond.code yX5_sign cX5_sign 1 (some .int), Cond.methodLink RL 28 yX4_discharge, Cond.instanceMethod yX4_discharge, Cond.selects RX4 yX4_discharge yX4_discharge, Cond.code yX4_discharge cX4_discharge 1 (some .int), Cond.methodLink RX4 82 yX2_emptyJars, Cond.instanceMethod yX2_emptyJars, Cond.selects RX2 yX2_emptyJars yX2_emptyJars, Cond.code yX2_emptyJars cX2_emptyJars 2 (some .int), Cond.methodLink RL 32 yX5_discharge, Cond.instanceMethod yX5_discharge, Cond.selects RX5 yX5_discharge yX5_discharge]
def wsL_law_r14 : List Cond := [Cond.code yX5_discharge cX5_discharge 1 (some .int), Cond.methodLink RX5 119 yX5_discharges, Cond.instanceMethod yX5_discharges, Cond.selects RX5 yX5_discharges yX5_discharges, Cond.code yX5_discharges cX5_discharges 2 (some .int), Cond.methodLink RL 33 yX4_wipeDisc, Cond.instanceMethod yX4_wipeDisc, Cond.selects RX4 yX4_wipeDisc yX4_wipeDisc, Cond.code yX4_wipeDisc cX4_wipeDisc 2 (some .int), Cond.methodLink RX4 85 yX2_emptySectors, Cond.instanceMethod yX2_emptySectors, Cond.selects RX2 yX2_emptySectors yX2_emptySectors, Cond.code yX2_emptySectors cX2_emptySectors 5 (some .int), Cond.methodLink RX2 92 yX2_sectorsWithSign, Cond.instanceMethod yX2_sectorsWithSign, Cond.selects RX2 yX2_sectorsWithSign yX2_sectorsWithSign, Cond.code yX2_sectorsWithSign cX2_sectorsWithSign 6 (some .int), Cond.methodLink RX2 62 yX2_firstIndexOf, Cond.static yX2_firstIndexOf, Cond.code yX2_firstIndexOf cX2_firstIndexOf 1 (some .int), Cond.methodLink RX2 77 yX2_sumOfDisc, Cond.instanceMethod yX2_sumOfDisc, Cond.selects RX2 yX2_sumOfDisc yX2_sumOfDisc, Cond.code yX2_sumOfDisc cX2_sumOfDisc 5 (some .int)]
def wsL_law_r15 : List Cond := [Cond.methodLink RL 36 yX5_wipeDisc, Cond.instanceMethod yX5_wipeDisc, Cond.selects RX5 yX5_wipeDisc yX5_wipeDisc, Cond.code yX5_wipeDisc cX5_wipeDisc 4 (some .int), Cond.methodLink RL 37 yX4_run, Cond.instanceMethod yX4_run, Cond.selects RX4 yX4_run yX4_run, Cond.code yX4_run cX4_run 3 (some .int), Cond.constant RX4 91 (-1000006), Cond.constant RX4 92 (-1000003), Cond.fieldLink RX4 93 "InfluenceJars$Machine" "sparks" "I", Cond.methodLink RX4 88 yX0_findFault, Cond.instanceMethod yX0_findFault, Cond.selects RX0 yX0_findFault yX0_findFault, Cond.code yX0_findFault cX0_findFault 2 (some .int), Cond.fieldLink RX0 18 "InfluenceJars$DeedReader" "at" "I", Cond.fieldLink RX0 33 "InfluenceJars$Pad" "length" "I", Cond.constant RX0 36 (-1000006), Cond.methodLink RX0 22 yX0_start, Cond.instanceMethod yX0_start, Cond.selects RX0 yX0_start yX0_start, Cond.code yX0_start cX0_start 1 none, Cond.methodLink RX0 25 yX0_readDeed, Cond.instanceMethod yX0_readDeed]
def wsL_law_r16 : List Cond := [Cond.selects RX0 yX0_readDeed yX0_readDeed, Cond.code yX0_readDeed cX0_readDeed 1 (some .boolean), Cond.fieldLink RX0 41 "InfluenceJars$DeedReader" "deed" "I", Cond.fieldLink RX0 48 "InfluenceJars$DeedReader" "amount" "I", Cond.methodLink RX0 29 yX0_readSign, Cond.instanceMethod yX0_readSign, Cond.selects RX0 yX0_readSign yX0_readSign, Cond.code yX0_readSign cX0_readSign 2 (some .boolean), Cond.methodLink RX0 37 yX3_signAt, Cond.instanceMethod yX3_signAt, Cond.selects RX3 yX3_signAt yX3_signAt, Cond.code yX3_signAt cX3_signAt 2 (some .char), Cond.fieldLink RX3 15 "InfluenceJars$Pad" "length" "I", Cond.methodLink RX0 44 yX0_readNumber, Cond.instanceMethod yX0_readNumber, Cond.selects RX0 yX0_readNumber yX0_readNumber, Cond.code yX0_readNumber cX0_readNumber 6 (some .int), Cond.methodLink RX0 63 yX0_digitAt, Cond.instanceMethod yX0_digitAt, Cond.selects RX0 yX0_digitAt yX0_digitAt, Cond.code yX0_digitAt cX0_digitAt 3 (some .int), Cond.methodLink RX0 51 yX0_readSector, Cond.instanceMethod yX0_readSector, Cond.selects RX0 yX0_readSector yX0_readSector]
def wsL_law_r17 : List Cond := [Cond.code yX0_readSector cX0_readSector 1 (some .boolean), Cond.fieldLink RX0 57 "InfluenceJars$DeedReader" "disc" "I", Cond.fieldLink RX0 60 "InfluenceJars$DeedReader" "place" "I", Cond.methodLink RX0 54 yX0_readCharge, Cond.instanceMethod yX0_readCharge, Cond.selects RX0 yX0_readCharge yX0_readCharge, Cond.code yX0_readCharge cX0_readCharge 3 (some .boolean), Cond.methodLink RX4 97 yX0_start, Cond.methodLink RX4 100 yX0_readDeed, Cond.methodLink RX4 104 yX4_doReadDeed, Cond.instanceMethod yX4_doReadDeed, Cond.selects RX4 yX4_doReadDeed yX4_doReadDeed, Cond.code yX4_doReadDeed cX4_doReadDeed 1 none, Cond.fieldLink RX4 116 "InfluenceJars$DeedReader" "deed" "I", Cond.fieldLink RX4 119 "InfluenceJars$DeedReader" "disc" "I", Cond.fieldLink RX4 122 "InfluenceJars$DeedReader" "place" "I", Cond.fieldLink RX4 125 "InfluenceJars$DeedReader" "amount" "I", Cond.methodLink RX4 107 yX0_readSign, Cond.methodLink RX4 111 yX3_clear, Cond.instanceMethod yX3_clear, Cond.selects RX3 yX3_clear yX3_clear, Cond.code yX3_clear cX3_clear 1 none, Cond.methodLink RL 40 yX5_run, Cond.instanceMethod yX5_run]
def wsL_law_r18 : List Cond := [Cond.selects RX5 yX5_run yX5_run, Cond.code yX5_run cX5_run 4 (some .int), Cond.constant RX5 124 (-1000006), Cond.constant RX5 190 (-1000003), Cond.fieldLink RX5 156 "InfluenceJarsModel" "spot" "I", Cond.fieldLink RX5 128 "InfluenceJarsModel" "textLong" "I", Cond.methodLink RX5 187 yX5_fault, Cond.instanceMethod yX5_fault, Cond.selects RX5 yX5_fault yX5_fault, Cond.code yX5_fault cX5_fault 2 (some .int), Cond.methodLink RX5 184 yX5_readsDeed, Cond.instanceMethod yX5_readsDeed, Cond.selects RX5 yX5_readsDeed yX5_readsDeed, Cond.code yX5_readsDeed cX5_readsDeed 1 (some .boolean), Cond.fieldLink RX5 177 "InfluenceJarsModel" "letter" "I", Cond.methodLink RX5 171 yX5_takesOne, Cond.instanceMethod yX5_takesOne, Cond.selects RX5 yX5_takesOne yX5_takesOne, Cond.code yX5_takesOne cX5_takesOne 3 (some .boolean), Cond.methodLink RX5 159 yX5_isHere, Cond.instanceMethod yX5_isHere, Cond.selects RX5 yX5_isHere yX5_isHere, Cond.code yX5_isHere cX5_isHere 3 (some .boolean), Cond.methodLink RX5 165 yX5_readsNumber]
def wsL_law_r19 : List Cond := [Cond.instanceMethod yX5_readsNumber, Cond.selects RX5 yX5_readsNumber yX5_readsNumber, Cond.code yX5_readsNumber cX5_readsNumber 3 (some .boolean), Cond.fieldLink RX5 162 "InfluenceJarsModel" "number" "I", Cond.methodLink RX5 180 yX5_readsTouch, Cond.instanceMethod yX5_readsTouch, Cond.selects RX5 yX5_readsTouch yX5_readsTouch, Cond.code yX5_readsTouch cX5_readsTouch 4 (some .boolean), Cond.fieldLink RX5 168 "InfluenceJarsModel" "place" "I", Cond.fieldLink RX5 174 "InfluenceJarsModel" "charge" "I", Cond.methodLink RX5 191 yX5_does, Cond.instanceMethod yX5_does, Cond.selects RX5 yX5_does yX5_does, Cond.code yX5_does cX5_does 2 (some .int), Cond.methodLink RL 41 yX4_sector, Cond.instanceMethod yX4_sector, Cond.selects RX4 yX4_sector yX4_sector, Cond.code yX4_sector cX4_sector 3 (some .int), Cond.fieldLink RX4 128 "InfluenceJars$Machine" "charges" "[I", Cond.fieldLink RX4 131 "InfluenceJars$Machine" "turns" "I", Cond.methodLink RX4 134 yX2_indexOf, Cond.methodLink RL 44 yX5_sector, Cond.instanceMethod yX5_sector, Cond.selects RX5 yX5_sector yX5_sector]
def wsL_law_r20 : List Cond := [Cond.code yX5_sector cX5_sector 3 (some .int), Cond.methodLink RL 45 yX4_disc, Cond.instanceMethod yX4_disc, Cond.selects RX4 yX4_disc yX4_disc, Cond.code yX4_disc cX4_disc 3 (some .int), Cond.methodLink RX4 137 yX2_sumOfDisc, Cond.methodLink RX4 140 yX2_sectorsWithSign, Cond.methodLink RX4 144 yX2_greatestOfDisc, Cond.instanceMethod yX2_greatestOfDisc, Cond.selects RX2 yX2_greatestOfDisc yX2_greatestOfDisc, Cond.code yX2_greatestOfDisc cX2_greatestOfDisc 5 (some .int), Cond.methodLink RX4 147 yX2_leastOfDisc, Cond.instanceMethod yX2_leastOfDisc, Cond.selects RX2 yX2_leastOfDisc yX2_leastOfDisc, Cond.code yX2_leastOfDisc cX2_leastOfDisc 5 (some .int), Cond.methodLink RL 48 yX5_disc, Cond.instanceMethod yX5_disc, Cond.selects RX5 yX5_disc yX5_disc, Cond.code yX5_disc cX5_disc 10 (some .int), Cond.methodLink RL 49 yX4_jar, Cond.instanceMethod yX4_jar, Cond.selects RX4 yX4_jar yX4_jar, Cond.code yX4_jar cX4_jar 3 (some .int), Cond.fieldLink RX4 150 "InfluenceJars$Machine" "jars" "[I"]
def wsL_law_r21 : List Cond := [Cond.fieldLink RX4 153 "InfluenceJars$Machine" "taken" "[I", Cond.fieldLink RX4 156 "InfluenceJars$Machine" "leakedOfJar" "[I", Cond.methodLink RL 52 yX5_jar, Cond.instanceMethod yX5_jar, Cond.selects RX5 yX5_jar yX5_jar, Cond.code yX5_jar cX5_jar 3 (some .int), Cond.constantLong RX5 122 (2), Cond.methodLink RL 53 yX4_spark, Cond.instanceMethod yX4_spark, Cond.selects RX4 yX4_spark yX4_spark, Cond.code yX4_spark cX4_spark 3 (some .int), Cond.fieldLink RX4 159 "InfluenceJars$Machine" "sparkLog" "[I", Cond.methodLink RX4 162 yX2_logIndexOf, Cond.methodLink RL 56 yX5_spark, Cond.instanceMethod yX5_spark, Cond.selects RX5 yX5_spark yX5_spark, Cond.code yX5_spark cX5_spark 3 (some .int), Cond.methodLink RL 57 yX4_count, Cond.instanceMethod yX4_count, Cond.selects RX4 yX4_count yX4_count, Cond.code yX4_count cX4_count 2 (some .int), Cond.fieldLink RX4 165 "InfluenceJars$Machine" "reversals" "I", Cond.fieldLink RX4 174 "InfluenceJars$Machine" "leaked" "I", Cond.fieldLink RX4 177 "InfluenceJars$Machine" "putOn" "I"]
def wsL_law_r22 : List Cond := [Cond.fieldLink RX4 180 "InfluenceJars$Machine" "takenOff" "I", Cond.fieldLink RX4 183 "InfluenceJars$Pad" "length" "I", Cond.fieldLink RX4 186 "InfluenceJars$History" "size" "I", Cond.methodLink RX4 168 yX2_sign, Cond.methodLink RX4 171 yX2_chargeOfAll, Cond.instanceMethod yX2_chargeOfAll, Cond.selects RX2 yX2_chargeOfAll yX2_chargeOfAll, Cond.code yX2_chargeOfAll cX2_chargeOfAll 1 (some .int), Cond.methodLink RL 60 yX5_count, Cond.instanceMethod yX5_count, Cond.selects RX5 yX5_count yX5_count, Cond.code yX5_count cX5_count 2 (some .int), Cond.constantLong RX5 131 (7), Cond.methodLink RX5 125 yX5_allCharge, Cond.instanceMethod yX5_allCharge, Cond.selects RX5 yX5_allCharge yX5_allCharge, Cond.code yX5_allCharge cX5_allCharge 3 (some .int), Cond.methodLink RL 61 yX4_untilSpark, Cond.instanceMethod yX4_untilSpark, Cond.selects RX4 yX4_untilSpark yX4_untilSpark, Cond.code yX4_untilSpark cX4_untilSpark 1 (some .int), Cond.methodLink RX4 189 yX2_become, Cond.methodLink RX4 192 yX2_turnToSpark, Cond.instanceMethod yX2_turnToSpark]
def wsL_law_r23 : List Cond := [Cond.selects RX2 yX2_turnToSpark yX2_turnToSpark, Cond.code yX2_turnToSpark cX2_turnToSpark 3 (some .int), Cond.constant RX2 105 (-1000006), Cond.methodLink RL 64 yX5_untilSpark, Cond.instanceMethod yX5_untilSpark, Cond.selects RX5 yX5_untilSpark yX5_untilSpark, Cond.code yX5_untilSpark cX5_untilSpark 1 (some .int), Cond.methodLink RX5 139 yX5_nextSpark, Cond.instanceMethod yX5_nextSpark, Cond.selects RX5 yX5_nextSpark yX5_nextSpark, Cond.code yX5_nextSpark cX5_nextSpark 4 (some .int), Cond.methodLink RX5 133 yX5_keeps, Cond.instanceMethod yX5_keeps, Cond.selects RX5 yX5_keeps yX5_keeps, Cond.code yX5_keeps cX5_keeps 2 none, Cond.methodLink RX5 136 yX5_comesBack, Cond.instanceMethod yX5_comesBack, Cond.selects RX5 yX5_comesBack yX5_comesBack, Cond.code yX5_comesBack cX5_comesBack 2 none, Cond.methodLink RL 65 yX4_ifTurned, Cond.instanceMethod yX4_ifTurned, Cond.selects RX4 yX4_ifTurned yX4_ifTurned, Cond.code yX4_ifTurned cX4_ifTurned 4 (some .int), Cond.methodLink RX4 195 yX2_turnToGreatestDifference]
def wsL_law_r24 : List Cond := [Cond.instanceMethod yX2_turnToGreatestDifference, Cond.selects RX2 yX2_turnToGreatestDifference yX2_turnToGreatestDifference, Cond.code yX2_turnToGreatestDifference cX2_turnToGreatestDifference 4 (some .int), Cond.methodLink RL 68 yX5_ifTurned, Cond.instanceMethod yX5_ifTurned, Cond.selects RX5 yX5_ifTurned yX5_ifTurned, Cond.code yX5_ifTurned cX5_ifTurned 7 (some .int), Cond.constantLong RX5 142 (400), Cond.constantLong RX5 144 (5), Cond.methodLink RL 69 yX4_widestGap, Cond.instanceMethod yX4_widestGap, Cond.selects RX4 yX4_widestGap yX4_widestGap, Cond.code yX4_widestGap cX4_widestGap 3 (some .int), Cond.methodLink RX4 198 yX2_turnAheadOfSpark, Cond.methodLink RX4 201 yX2_difference, Cond.methodLink RL 72 yX5_widestGap, Cond.instanceMethod yX5_widestGap, Cond.selects RX5 yX5_widestGap yX5_widestGap, Cond.code yX5_widestGap cX5_widestGap 3 (some .int), Cond.methodLink RL 73 yX4_mostDamp, Cond.instanceMethod yX4_mostDamp, Cond.selects RX4 yX4_mostDamp yX4_mostDamp, Cond.code yX4_mostDamp cX4_mostDamp 2 (some .int), Cond.methodLink RL 76 yX5_mostDamp]
def wsL_law_r25 : List Cond := [Cond.instanceMethod yX5_mostDamp, Cond.selects RX5 yX5_mostDamp yX5_mostDamp, Cond.code yX5_mostDamp cX5_mostDamp 4 (some .int), Cond.methodLink RL 79 yX4_put, Cond.instanceMethod yX4_put, Cond.selects RX4 yX4_put yX4_put, Cond.code yX4_put cX4_put 4 (some .int), Cond.methodLink RX4 212 yX4_charactersIn, Cond.static yX4_charactersIn, Cond.code yX4_charactersIn cX4_charactersIn 7 (some .int), Cond.constantLong RX4 224 (255), Cond.methodLink RX4 216 yX3_append, Cond.instanceMethod yX3_append, Cond.selects RX3 yX3_append yX3_append, Cond.code yX3_append cX3_append 5 none, Cond.constantLong RX3 19 (255), Cond.methodLink RL 83 yX5_put, Cond.instanceMethod yX5_put, Cond.selects RX5 yX5_put yX5_put, Cond.code yX5_put cX5_put 5 (some .int), Cond.constantLong RX5 146 (255), Cond.methodLink RX5 152 yX5_charactersOf, Cond.static yX5_charactersOf, Cond.code yX5_charactersOf cX5_charactersOf 5 (some .int)]
def wsL_law_r26 : List Cond := [Cond.constantLong RX5 148 (33), Cond.constantLong RX5 150 (126), Cond.methodLink RL 84 yX4_wipe, Cond.instanceMethod yX4_wipe, Cond.selects RX4 yX4_wipe yX4_wipe, Cond.code yX4_wipe cX4_wipe 2 (some .int), Cond.methodLink RL 87 yX5_wipe, Cond.instanceMethod yX5_wipe, Cond.selects RX5 yX5_wipe yX5_wipe, Cond.code yX5_wipe cX5_wipe 2 (some .int), Cond.methodLink RL 88 yX4_fault, Cond.instanceMethod yX4_fault, Cond.selects RX4 yX4_fault yX4_fault, Cond.code yX4_fault cX4_fault 1 (some .int), Cond.methodLink RL 91 yX5_fault, Cond.methodLink RL 92 yX4_undo, Cond.instanceMethod yX4_undo, Cond.selects RX4 yX4_undo yX4_undo, Cond.code yX4_undo cX4_undo 1 (some .int), Cond.methodLink RX4 220 yX1_takeBack, Cond.instanceMethod yX1_takeBack, Cond.selects RX1 yX1_takeBack yX1_takeBack, Cond.code yX1_takeBack cX1_takeBack 3 (some .boolean), Cond.methodLink RL 95 yX5_undo]
def wsL_law_r27 : List Cond := [Cond.instanceMethod yX5_undo, Cond.selects RX5 yX5_undo yX5_undo, Cond.code yX5_undo cX5_undo 2 (some .int), Cond.methodLink RL 96 yX4_save, Cond.instanceMethod yX4_save, Cond.selects RX4 yX4_save yX4_save, Cond.code yX4_save cX4_save 3 (some .int), Cond.methodLink RL 99 yX5_save, Cond.instanceMethod yX5_save, Cond.selects RX5 yX5_save yX5_save, Cond.code yX5_save cX5_save 3 (some .int), Cond.methodLink RL 100 yX4_restore, Cond.instanceMethod yX4_restore, Cond.selects RX4 yX4_restore yX4_restore, Cond.code yX4_restore cX4_restore 3 (some .int), Cond.methodLink RL 103 yX5_restore, Cond.instanceMethod yX5_restore, Cond.selects RX5 yX5_restore yX5_restore, Cond.code yX5_restore cX5_restore 3 (some .int)]
def wsL_law : List Cond := (wsL_law_r1 ++ (wsL_law_r2 ++ (wsL_law_r3 ++ (wsL_law_r4 ++ (wsL_law_r5 ++ (wsL_law_r6 ++ (wsL_law_r7 ++ (wsL_law_r8 ++ (wsL_law_r9 ++ (wsL_law_r10 ++ (wsL_law_r11 ++ (wsL_law_r12 ++ (wsL_law_r13 ++ (wsL_law_r14 ++ (wsL_law_r15 ++ (wsL_law_r16 ++ (wsL_law_r17 ++ (wsL_law_r18 ++ (wsL_law_r19 ++ (wsL_law_r20 ++ (wsL_law_r21 ++ (wsL_law_r22 ++ (wsL_law_r23 ++ (wsL_law_r24 ++ (wsL_law_r25 ++ (wsL_law_r26 ++ wsL_law_r27)))))))))))))))))))))))))) ++ wsX40 ++ wsX50 ++ wsX20 ++ wsX10 ++ wsX00 ++ wsX30 ++ ([] : List Cond)
set_option maxRecDepth 20000 in
theorem in_wsL_law_r1 : ∀ w ∈ wsL_law_r1, w ∈ lw_tbl := fun w h => (goodIn_p wsL_law_r1 [51, 54] (by decide +kernel) (by decide +kernel) w h).1
set_option maxRecDepth 20000 in
theorem in_wsL_law_r2 : ∀ w ∈ wsL_law_r2, w ∈ lw_tbl := fun w h => (goodIn_p wsL_law_r2 [59, 118, 137] (by decide +kernel) (by decide +kernel) w h).1
set_option maxRecDepth 20000 in
theorem in_wsL_law_r3 : ∀ w ∈ wsL_law_r3, w ∈ lw_tbl := fun w h => (goodIn_p wsL_law_r3 [143, 514, 201] (by decide +kernel) (by decide +kernel) w h).1
set_option maxRecDepth 20000 in
theorem in_wsL_law_r4 : ∀ w ∈ wsL_law_r4, w ∈ lw_tbl := fun w h => (goodIn_p wsL_law_r4 [210, 213, 216, 221, 224] (by decide +kernel) (by decide +kernel) w h).1
set_option maxRecDepth 20000 in
theorem in_wsL_law_r5 : ∀ w ∈ wsL_law_r5, w ∈ lw_tbl := fun w h => (goodIn_p wsL_law_r5 [229, 232, 235, 559] (by decide +kernel) (by decide +kernel) w h).1
set_option maxRecDepth 20000 in
theorem in_wsL_law_r6 : ∀ w ∈ wsL_law_r6, w ∈ lw_tbl := fun w h => (goodIn_p wsL_law_r6 [563, 567, 577, 242] (by decide +kernel) (by decide +kernel) w h).1
set_option maxRecDepth 20000 in
theorem in_wsL_law_r7 : ∀ w ∈ wsL_law_r7, w ∈ lw_tbl := fun w h => (goodIn_p wsL_law_r7 [245, 248, 253, 256, 581, 584] (by decide +kernel) (by decide +kernel) w h).1
set_option maxRecDepth 20000 in
theorem in_wsL_law_r8 : ∀ w ∈ wsL_law_r8, w ∈ lw_tbl := fun w h => (goodIn_p wsL_law_r8 [587, 594, 598, 261, 265] (by decide +kernel) (by decide +kernel) w h).1
set_option maxRecDepth 20000 in
theorem in_wsL_law_r9 : ∀ w ∈ wsL_law_r9, w ∈ lw_tbl := fun w h => (goodIn_p wsL_law_r9 [271, 275, 279, 283, 287, 292] (by decide +kernel) (by decide +kernel) w h).1
set_option maxRecDepth 20000 in
theorem in_wsL_law_r10 : ∀ w ∈ wsL_law_r10, w ∈ lw_tbl := fun w h => (goodIn_p wsL_law_r10 [296, 300, 304, 308, 312, 315, 319] (by decide +kernel) (by decide +kernel) w h).1
set_option maxRecDepth 20000 in
theorem in_wsL_law_r11 : ∀ w ∈ wsL_law_r11, w ∈ lw_tbl := fun w h => (goodIn_p wsL_law_r11 [323, 326, 602, 608, 612] (by decide +kernel) (by decide +kernel) w h).1
set_option maxRecDepth 20000 in
theorem in_wsL_law_r12 : ∀ w ∈ wsL_law_r12, w ∈ lw_tbl := fun w h => (goodIn_p wsL_law_r12 [616, 620, 624, 627, 631, 635] (by decide +kernel) (by decide +kernel) w h).1
set_option maxRecDepth 20000 in
theorem in_wsL_law_r13 : ∀ w ∈ wsL_law_r13, w ∈ lw_tbl := fun w h => (goodIn_p wsL_law_r13 [639, 643, 647, 651, 330, 334] (by decide +kernel) (by decide +kernel) w h).1
set_option maxRecDepth 20000 in
theorem in_wsL_law_r14 : ∀ w ∈ wsL_law_r14, w ∈ lw_tbl := fun w h => (goodIn_p wsL_law_r14 [655, 659, 338, 342, 346, 349, 353] (by decide +kernel) (by decide +kernel) w h).1
set_option maxRecDepth 20000 in
theorem in_wsL_law_r15 : ∀ w ∈ wsL_law_r15, w ∈ lw_tbl := fun w h => (goodIn_p wsL_law_r15 [663, 357, 361, 365] (by decide +kernel) (by decide +kernel) w h).1
set_option maxRecDepth 20000 in
theorem in_wsL_law_r16 : ∀ w ∈ wsL_law_r16, w ∈ lw_tbl := fun w h => (goodIn_p wsL_law_r16 [369, 373, 377, 381, 385] (by decide +kernel) (by decide +kernel) w h).1
set_option maxRecDepth 20000 in
theorem in_wsL_law_r17 : ∀ w ∈ wsL_law_r17, w ∈ lw_tbl := fun w h => (goodIn_p wsL_law_r17 [389, 393, 402, 407] (by decide +kernel) (by decide +kernel) w h).1
set_option maxRecDepth 20000 in
theorem in_wsL_law_r18 : ∀ w ∈ wsL_law_r18, w ∈ lw_tbl := fun w h => (goodIn_p wsL_law_r18 [762, 738, 742, 746, 750] (by decide +kernel) (by decide +kernel) w h).1
set_option maxRecDepth 20000 in
theorem in_wsL_law_r19 : ∀ w ∈ wsL_law_r19, w ∈ lw_tbl := fun w h => (goodIn_p wsL_law_r19 [754, 758, 768, 411] (by decide +kernel) (by decide +kernel) w h).1
set_option maxRecDepth 20000 in
theorem in_wsL_law_r20 : ∀ w ∈ wsL_law_r20, w ∈ lw_tbl := fun w h => (goodIn_p wsL_law_r20 [667, 416, 422, 426, 671, 430] (by decide +kernel) (by decide +kernel) w h).1
set_option maxRecDepth 20000 in
theorem in_wsL_law_r21 : ∀ w ∈ wsL_law_r21, w ∈ lw_tbl := fun w h => (goodIn_p wsL_law_r21 [675, 434, 680, 439] (by decide +kernel) (by decide +kernel) w h).1
set_option maxRecDepth 20000 in
theorem in_wsL_law_r22 : ∀ w ∈ wsL_law_r22, w ∈ lw_tbl := fun w h => (goodIn_p wsL_law_r22 [444, 685, 689, 448] (by decide +kernel) (by decide +kernel) w h).1
set_option maxRecDepth 20000 in
theorem in_wsL_law_r23 : ∀ w ∈ wsL_law_r23, w ∈ lw_tbl := fun w h => (goodIn_p wsL_law_r23 [453, 694, 698, 702, 706, 458] (by decide +kernel) (by decide +kernel) w h).1
set_option maxRecDepth 20000 in
theorem in_wsL_law_r24 : ∀ w ∈ wsL_law_r24, w ∈ lw_tbl := fun w h => (goodIn_p wsL_law_r24 [462, 710, 466, 716, 472] (by decide +kernel) (by decide +kernel) w h).1
set_option maxRecDepth 20000 in
theorem in_wsL_law_r25 : ∀ w ∈ wsL_law_r25, w ∈ lw_tbl := fun w h => (goodIn_p wsL_law_r25 [720, 476, 479, 484, 724, 727] (by decide +kernel) (by decide +kernel) w h).1
set_option maxRecDepth 20000 in
theorem in_wsL_law_r26 : ∀ w ∈ wsL_law_r26, w ∈ lw_tbl := fun w h => (goodIn_p wsL_law_r26 [489, 734, 493, 497, 501] (by decide +kernel) (by decide +kernel) w h).1
set_option maxRecDepth 20000 in
theorem in_wsL_law_r27 : ∀ w ∈ wsL_law_r27, w ∈ lw_tbl := fun w h => (goodIn_p wsL_law_r27 [772, 505, 776, 509, 780] (by decide +kernel) (by decide +kernel) w h).1
set_option maxRecDepth 20000 in
theorem in_wsX40 : ∀ w ∈ wsX40, w ∈ lw_tbl := fun w h => (goodIn_p wsX40 [] (by decide +kernel) (by decide +kernel) w h).1
set_option maxRecDepth 20000 in
theorem in_wsX50 : ∀ w ∈ wsX50, w ∈ lw_tbl := fun w h => (goodIn_p wsX50 [] (by decide +kernel) (by decide +kernel) w h).1
set_option maxRecDepth 20000 in
theorem in_wsX20 : ∀ w ∈ wsX20, w ∈ lw_tbl := fun w h => (goodIn_p wsX20 [] (by decide +kernel) (by decide +kernel) w h).1
set_option maxRecDepth 20000 in
theorem in_wsX10 : ∀ w ∈ wsX10, w ∈ lw_tbl := fun w h => (goodIn_p wsX10 [] (by decide +kernel) (by decide +kernel) w h).1
set_option maxRecDepth 20000 in
theorem in_wsX00 : ∀ w ∈ wsX00, w ∈ lw_tbl := fun w h => (goodIn_p wsX00 [] (by decide +kernel) (by decide +kernel) w h).1
set_option maxRecDepth 20000 in
theorem in_wsX30 : ∀ w ∈ wsX30, w ∈ lw_tbl := fun w h => (goodIn_p wsX30 [] (by decide +kernel) (by decide +kernel) w h).1
theorem jk_appin {a b : List Cond} {P : Cond → Prop} (ha : ∀ w ∈ a, P w) (hb : ∀ w ∈ b, P w) : ∀ w ∈ a ++ b, P w := fun w h => (List.mem_append.mp h).elim (ha w) (hb w)
theorem wsL_law_in : ∀ w ∈ wsL_law, w ∈ lw_tbl := jk_appin (jk_appin (jk_appin (jk_appin (jk_appin (jk_appin (jk_appin (jk_appin in_wsL_law_r1 (jk_appin in_wsL_law_r2 (jk_appin in_wsL_law_r3 (jk_appin in_wsL_law_r4 (jk_appin in_wsL_law_r5 (jk_appin in_wsL_law_r6 (jk_appin in_wsL_law_r7 (jk_appin in_wsL_law_r8 (jk_appin in_wsL_law_r9 (jk_appin in_wsL_law_r10 (jk_appin in_wsL_law_r11 (jk_appin in_wsL_law_r12 (jk_appin in_wsL_law_r13 (jk_appin in_wsL_law_r14 (jk_appin in_wsL_law_r15 (jk_appin in_wsL_law_r16 (jk_appin in_wsL_law_r17 (jk_appin in_wsL_law_r18 (jk_appin in_wsL_law_r19 (jk_appin in_wsL_law_r20 (jk_appin in_wsL_law_r21 (jk_appin in_wsL_law_r22 (jk_appin in_wsL_law_r23 (jk_appin in_wsL_law_r24 (jk_appin in_wsL_law_r25 (jk_appin in_wsL_law_r26 (in_wsL_law_r27))))))))))))))))))))))))))) in_wsX40) in_wsX50) in_wsX20) in_wsX10) in_wsX00) in_wsX30) (fun w h => absurd h List.not_mem_nil)
theorem inlX0 : ∀ w ∈ wsX00, w ∈ wsL_law := fun _ h => List.mem_append_left _ (List.mem_append_left _ (List.mem_append_right _ h))
theorem inX0 : ∀ w ∈ wsX00, w ∈ lw_tbl := fun w h => wsL_law_in w (inlX0 w h)
theorem inlX1 : ∀ w ∈ wsX10, w ∈ wsL_law := fun _ h => List.mem_append_left _ (List.mem_append_left _ (List.mem_append_left _ (List.mem_append_right _ h)))
theorem inX1 : ∀ w ∈ wsX10, w ∈ lw_tbl := fun w h => wsL_law_in w (inlX1 w h)
theorem inlX2 : ∀ w ∈ wsX20, w ∈ wsL_law := fun _ h => List.mem_append_left _ (List.mem_append_left _ (List.mem_append_left _ (List.mem_append_left _ (List.mem_append_right _ h))))
theorem inX2 : ∀ w ∈ wsX20, w ∈ lw_tbl := fun w h => wsL_law_in w (inlX2 w h)
theorem inlX3 : ∀ w ∈ wsX30, w ∈ wsL_law := fun _ h => List.mem_append_left _ (List.mem_append_right _ h)
theorem inX3 : ∀ w ∈ wsX30, w ∈ lw_tbl := fun w h => wsL_law_in w (inlX3 w h)
theorem inlX4 : ∀ w ∈ wsX40, w ∈ wsL_law := fun _ h => List.mem_append_left _ (List.mem_append_left _ (List.mem_append_left _ (List.mem_append_left _ (List.mem_append_left _ (List.mem_append_left _ (List.mem_append_right _ h))))))
theorem inX4 : ∀ w ∈ wsX40, w ∈ lw_tbl := fun w h => wsL_law_in w (inlX4 w h)
theorem inlX5 : ∀ w ∈ wsX50, w ∈ wsL_law := fun _ h => List.mem_append_left _ (List.mem_append_left _ (List.mem_append_left _ (List.mem_append_left _ (List.mem_append_left _ (List.mem_append_right _ h)))))
theorem inX5 : ∀ w ∈ wsX50, w ∈ lw_tbl := fun w h => wsL_law_in w (inlX5 w h)
theorem inJ6 : ∀ w ∈ wsJ60, w ∈ lw_tbl := by decide +kernel
theorem inJ9 : ∀ w ∈ wsJ90, w ∈ lw_tbl := by decide +kernel
theorem inJ10 : ∀ w ∈ wsJ100, w ∈ lw_tbl := by decide +kernel
abbrev vwCl : List vw_C := [(RX0, TX0, 6), (RX1, TX1, 3), (RX2, TX2, 13), (RX3, TX3, 2), (RX4, TX4, 6), (RX5, TX5, 13)]
end
section
set_option maxRecDepth 20000 in
theorem ggX0_init_X3_init : GoodIn wsX0_init wsX3_init := goodIn_r _ [9, 10, 2, 3, 11, 12, 13, 14] (by decide +kernel) (by decide +kernel)
set_option maxRecDepth 20000 in
theorem gX0_init_X3_init_n11 : GoodIn wsX0_init (wsX3_init) := ggX0_init_X3_init
set_option maxRecDepth 20000 in
theorem ggX0_findFault_X0_start : GoodIn wsX0_findFault wsX0_start := goodIn_r _ [9, 1, 45, 46, 47, 48, 49, 50] (by decide +kernel) (by decide +kernel)
set_option maxRecDepth 20000 in
theorem gX0_findFault_X0_start : GoodIn wsX0_findFault (wsV RX0 22 RX0 yX0_start wsX0_start) := goodIn_app (goodIn_of _ (by decide +kernel)) ggX0_findFault_X0_start
set_option maxRecDepth 20000 in
theorem ggX0_findFault_X0_readDeed : GoodIn wsX0_findFault wsX0_readDeed := goodIn_r _ [13, 14, 15, 16, 17, 18, 8, 19, 2, 1, 20, 21, 22, 23, 24, 25, 26, 27, 28, 29, 30, 31, 32, 33, 34, 35, 36, 37, 38, 39, 40, 41, 42, 43, 44, 45, 46, 47, 48, 49, 50, 51, 52] (by decide +kernel) (by decide +kernel)
set_option maxRecDepth 20000 in
theorem gX0_findFault_X0_readDeed : GoodIn wsX0_findFault (wsV RX0 25 RX0 yX0_readDeed wsX0_readDeed) := goodIn_app (goodIn_of _ (by decide +kernel)) ggX0_findFault_X0_readDeed
set_option maxRecDepth 20000 in
theorem ggX0_findFault_X0_readSign : GoodIn wsX0_findFault wsX0_readSign := goodIn_r _ [19, 2, 1, 20, 21, 22, 23, 24, 25, 26, 45, 46, 47, 48, 49, 50, 51, 52] (by decide +kernel) (by decide +kernel)
set_option maxRecDepth 20000 in
theorem gX0_findFault_X0_readSign : GoodIn wsX0_findFault (wsV RX0 29 RX0 yX0_readSign wsX0_readSign) := goodIn_app (goodIn_of _ (by decide +kernel)) ggX0_findFault_X0_readSign
set_option maxRecDepth 20000 in
theorem ggX0_readSign_X3_signAt : GoodIn wsX0_readSign wsX3_signAt := goodIn_r _ [7, 8, 9, 16, 17] (by decide +kernel) (by decide +kernel)
set_option maxRecDepth 20000 in
theorem gX0_readSign_X3_signAt : GoodIn wsX0_readSign (wsV RX0 37 RX3 yX3_signAt wsX3_signAt) := goodIn_app (goodIn_of _ (by decide +kernel)) ggX0_readSign_X3_signAt
set_option maxRecDepth 20000 in
theorem ggX0_readDeed_X0_readSign : GoodIn wsX0_readDeed wsX0_readSign := goodIn_r _ [7, 8, 9, 10, 11, 12, 13, 14, 15, 16, 35, 36, 37, 38, 39, 40, 41, 42] (by decide +kernel) (by decide +kernel)
set_option maxRecDepth 20000 in
theorem gX0_readDeed_X0_readSign : GoodIn wsX0_readDeed (wsV RX0 29 RX0 yX0_readSign wsX0_readSign) := goodIn_app (goodIn_of _ (by decide +kernel)) ggX0_readDeed_X0_readSign
set_option maxRecDepth 20000 in
theorem ggX0_readDeed_X0_readNumber : GoodIn wsX0_readDeed wsX0_readNumber := goodIn_r _ [20, 9, 21, 22, 23, 6, 24, 8, 10, 11, 12, 13, 14, 15, 16, 35, 36, 37, 38, 39, 40, 41, 42] (by decide +kernel) (by decide +kernel)
set_option maxRecDepth 20000 in
theorem gX0_readDeed_X0_readNumber : GoodIn wsX0_readDeed (wsV RX0 44 RX0 yX0_readNumber wsX0_readNumber) := goodIn_app (goodIn_of _ (by decide +kernel)) ggX0_readDeed_X0_readNumber
set_option maxRecDepth 20000 in
theorem ggX0_readDeed_X0_readSector : GoodIn wsX0_readDeed wsX0_readSector := goodIn_r _ [28, 29, 30, 3, 4, 5, 6, 7, 8, 9, 10, 11, 12, 13, 14, 15, 16, 17, 18, 19, 20, 21, 22, 23, 24, 35, 36, 37, 38, 39, 40, 41, 42] (by decide +kernel) (by decide +kernel)
set_option maxRecDepth 20000 in
theorem gX0_readDeed_X0_readSector : GoodIn wsX0_readDeed (wsV RX0 51 RX0 yX0_readSector wsX0_readSector) := goodIn_app (goodIn_of _ (by decide +kernel)) ggX0_readDeed_X0_readSector
set_option maxRecDepth 20000 in
theorem ggX0_readDeed_X0_readCharge : GoodIn wsX0_readDeed wsX0_readCharge := goodIn_r _ [34, 2, 3, 4, 5, 6, 7, 8, 9, 10, 11, 12, 13, 14, 15, 16, 17, 18, 19, 20, 21, 22, 23, 24, 35, 36, 37, 38, 39, 40, 41, 42] (by decide +kernel) (by decide +kernel)
set_option maxRecDepth 20000 in
theorem gX0_readDeed_X0_readCharge : GoodIn wsX0_readDeed (wsV RX0 54 RX0 yX0_readCharge wsX0_readCharge) := goodIn_app (goodIn_of _ (by decide +kernel)) ggX0_readDeed_X0_readCharge
set_option maxRecDepth 20000 in
theorem ggX0_readSector_X0_readSign : GoodIn wsX0_readSector wsX0_readSign := goodIn_r _ [7, 8, 9, 10, 11, 12, 13, 14, 15, 16, 25, 26, 27, 28, 29, 30, 31, 32] (by decide +kernel) (by decide +kernel)
set_option maxRecDepth 20000 in
theorem gX0_readSector_X0_readSign : GoodIn wsX0_readSector (wsV RX0 29 RX0 yX0_readSign wsX0_readSign) := goodIn_app (goodIn_of _ (by decide +kernel)) ggX0_readSector_X0_readSign
set_option maxRecDepth 20000 in
theorem ggX0_readSector_X0_readNumber : GoodIn wsX0_readSector wsX0_readNumber := goodIn_r _ [20, 9, 21, 22, 23, 6, 24, 8, 10, 11, 12, 13, 14, 15, 16, 25, 26, 27, 28, 29, 30, 31, 32] (by decide +kernel) (by decide +kernel)
set_option maxRecDepth 20000 in
theorem gX0_readSector_X0_readNumber : GoodIn wsX0_readSector (wsV RX0 44 RX0 yX0_readNumber wsX0_readNumber) := goodIn_app (goodIn_of _ (by decide +kernel)) ggX0_readSector_X0_readNumber
set_option maxRecDepth 20000 in
theorem ggX0_readCharge_X0_readSign : GoodIn wsX0_readCharge wsX0_readSign := goodIn_r _ [6, 7, 8, 9, 10, 11, 12, 13, 14, 15, 24, 25, 26, 27, 28, 29, 30, 31] (by decide +kernel) (by decide +kernel)
set_option maxRecDepth 20000 in
theorem gX0_readCharge_X0_readSign : GoodIn wsX0_readCharge (wsV RX0 29 RX0 yX0_readSign wsX0_readSign) := goodIn_app (goodIn_of _ (by decide +kernel)) ggX0_readCharge_X0_readSign
set_option maxRecDepth 20000 in
theorem ggX0_readCharge_X0_readNumber : GoodIn wsX0_readCharge wsX0_readNumber := goodIn_r _ [19, 8, 20, 21, 22, 5, 23, 7, 9, 10, 11, 12, 13, 14, 15, 24, 25, 26, 27, 28, 29, 30, 31] (by decide +kernel) (by decide +kernel)
set_option maxRecDepth 20000 in
theorem gX0_readCharge_X0_readNumber : GoodIn wsX0_readCharge (wsV RX0 44 RX0 yX0_readNumber wsX0_readNumber) := goodIn_app (goodIn_of _ (by decide +kernel)) ggX0_readCharge_X0_readNumber
set_option maxRecDepth 20000 in
theorem ggX0_readNumber_X0_digitAt : GoodIn wsX0_readNumber wsX0_digitAt := goodIn_r _ [6, 7, 8, 9, 10, 11, 12, 13, 14, 15, 16, 17, 18, 19, 20, 21, 22] (by decide +kernel) (by decide +kernel)
set_option maxRecDepth 20000 in
theorem gX0_readNumber_X0_digitAt : GoodIn wsX0_readNumber (wsV RX0 63 RX0 yX0_digitAt wsX0_digitAt) := goodIn_app (goodIn_of _ (by decide +kernel)) ggX0_readNumber_X0_digitAt
set_option maxRecDepth 20000 in
theorem ggX0_digitAt_X3_signAt : GoodIn wsX0_digitAt wsX3_signAt := goodIn_r _ [6, 7, 8, 15, 16] (by decide +kernel) (by decide +kernel)
set_option maxRecDepth 20000 in
theorem gX0_digitAt_X3_signAt : GoodIn wsX0_digitAt (wsV RX0 37 RX3 yX3_signAt wsX3_signAt) := goodIn_app (goodIn_of _ (by decide +kernel)) ggX0_digitAt_X3_signAt
set_option maxRecDepth 20000 in
theorem ggX1_record_J9_floorMod_7cf53 : GoodIn wsX1_record wsJ9_floorMod_7cf53 := goodIn_r _ [10] (by decide +kernel) (by decide +kernel)
set_option maxRecDepth 20000 in
theorem gX1_record_J9_floorMod_7cf53 : GoodIn wsX1_record (va_wsS RX1 24 yJ9_floorMod_7cf53 wsJ9_floorMod_7cf53) := goodIn_app (goodIn_of _ (by decide +kernel)) ggX1_record_J9_floorMod_7cf53
set_option maxRecDepth 20000 in
theorem ggX1_record_X2_init : GoodIn wsX1_record wsX2_init := goodIn_r _ [12, 13, 14, 15, 16, 17, 18, 19, 20, 21, 22, 48, 49, 50, 51, 52, 53, 54, 55, 56, 57, 58, 59, 60] (by decide +kernel) (by decide +kernel)
set_option maxRecDepth 20000 in
theorem gX1_record_X2_init_n30 : GoodIn wsX1_record (wsX2_init) := ggX1_record_X2_init
set_option maxRecDepth 20000 in
theorem ggX1_record_X2_become : GoodIn wsX1_record wsX2_become := goodIn_r _ [26, 17, 18, 19, 20, 21, 22, 27, 28, 29, 30, 31, 32, 33, 34, 35, 36, 37, 38, 39, 40, 41, 42, 43, 44, 48, 49, 50, 51, 52, 53, 54, 55, 56, 57, 58, 59, 60] (by decide +kernel) (by decide +kernel)
set_option maxRecDepth 20000 in
theorem gX1_record_X2_become : GoodIn wsX1_record (wsV RX1 31 RX2 yX2_become wsX2_become) := goodIn_app (goodIn_of _ (by decide +kernel)) ggX1_record_X2_become
set_option maxRecDepth 20000 in
theorem ggX1_takeBack_J9_floorMod_7cf53 : GoodIn wsX1_takeBack wsJ9_floorMod_7cf53 := goodIn_r _ [7] (by decide +kernel) (by decide +kernel)
set_option maxRecDepth 20000 in
theorem gX1_takeBack_J9_floorMod_7cf53 : GoodIn wsX1_takeBack (va_wsS RX1 24 yJ9_floorMod_7cf53 wsJ9_floorMod_7cf53) := goodIn_app (goodIn_of _ (by decide +kernel)) ggX1_takeBack_J9_floorMod_7cf53
set_option maxRecDepth 20000 in
theorem ggX1_takeBack_X2_become : GoodIn wsX1_takeBack wsX2_become := goodIn_r _ [12, 13, 14, 15, 16, 17, 18, 19, 20, 21, 22, 23, 24, 25, 26, 27, 28, 29, 30, 31, 32, 33, 34, 35, 36, 40, 41, 42, 43, 44, 45, 46, 47, 48, 49, 50, 51, 52] (by decide +kernel) (by decide +kernel)
set_option maxRecDepth 20000 in
theorem gX1_takeBack_X2_become : GoodIn wsX1_takeBack (wsV RX1 31 RX2 yX2_become wsX2_become) := goodIn_app (goodIn_of _ (by decide +kernel)) ggX1_takeBack_X2_become
set_option maxRecDepth 20000 in
theorem ggX2_become_X4_copyNumbers : GoodIn wsX2_become wsX4_copyNumbers := goodIn_r _ [16, 17, 18, 19, 20, 21, 22, 23, 24] (by decide +kernel) (by decide +kernel)
set_option maxRecDepth 20000 in
theorem gX2_become_X4_copyNumbers_n30 : GoodIn wsX2_become (wsX4_copyNumbers) := ggX2_become_X4_copyNumbers
set_option maxRecDepth 20000 in
theorem ggX2_indexOf_J9_floorMod_7cf53 : GoodIn wsX2_indexOf wsJ9_floorMod_7cf53 := goodIn_r _ [4] (by decide +kernel) (by decide +kernel)
set_option maxRecDepth 20000 in
theorem gX2_indexOf_J9_floorMod_7cf53 : GoodIn wsX2_indexOf (va_wsS RX2 56 yJ9_floorMod_7cf53 wsJ9_floorMod_7cf53) := goodIn_app (goodIn_of _ (by decide +kernel)) ggX2_indexOf_J9_floorMod_7cf53
set_option maxRecDepth 20000 in
theorem ggX2_logIndexOf_J9_floorMod_7cf53 : GoodIn wsX2_logIndexOf wsJ9_floorMod_7cf53 := goodIn_r _ [4] (by decide +kernel) (by decide +kernel)
set_option maxRecDepth 20000 in
theorem gX2_logIndexOf_J9_floorMod_7cf53 : GoodIn wsX2_logIndexOf (va_wsS RX2 56 yJ9_floorMod_7cf53 wsJ9_floorMod_7cf53) := goodIn_app (goodIn_of _ (by decide +kernel)) ggX2_logIndexOf_J9_floorMod_7cf53
set_option maxRecDepth 20000 in
theorem ggX2_sumOfDisc_X2_firstIndexOf : GoodIn wsX2_sumOfDisc wsX2_firstIndexOf := goodIn_r _ [5] (by decide +kernel) (by decide +kernel)
set_option maxRecDepth 20000 in
theorem gX2_sumOfDisc_X2_firstIndexOf : GoodIn wsX2_sumOfDisc (va_wsS RX2 62 yX2_firstIndexOf wsX2_firstIndexOf) := goodIn_app (goodIn_of _ (by decide +kernel)) ggX2_sumOfDisc_X2_firstIndexOf
set_option maxRecDepth 20000 in
theorem ggX2_sectorsWithSign_X2_firstIndexOf : GoodIn wsX2_sectorsWithSign wsX2_firstIndexOf := goodIn_r _ [5] (by decide +kernel) (by decide +kernel)
set_option maxRecDepth 20000 in
theorem gX2_sectorsWithSign_X2_firstIndexOf : GoodIn wsX2_sectorsWithSign (va_wsS RX2 62 yX2_firstIndexOf wsX2_firstIndexOf) := goodIn_app (goodIn_of _ (by decide +kernel)) ggX2_sectorsWithSign_X2_firstIndexOf
set_option maxRecDepth 20000 in
theorem ggX2_sectorsWithSign_J6_signum_0f7a4 : GoodIn wsX2_sectorsWithSign wsJ6_signum_0f7a4 := goodIn_r _ [9] (by decide +kernel) (by decide +kernel)
set_option maxRecDepth 20000 in
theorem gX2_sectorsWithSign_J6_signum_0f7a4 : GoodIn wsX2_sectorsWithSign (va_wsS RX2 66 yJ6_signum_0f7a4 wsJ6_signum_0f7a4) := goodIn_app (goodIn_of _ (by decide +kernel)) ggX2_sectorsWithSign_J6_signum_0f7a4
set_option maxRecDepth 20000 in
theorem ggX2_greatestOfDisc_X2_firstIndexOf : GoodIn wsX2_greatestOfDisc wsX2_firstIndexOf := goodIn_r _ [9] (by decide +kernel) (by decide +kernel)
set_option maxRecDepth 20000 in
theorem gX2_greatestOfDisc_X2_firstIndexOf : GoodIn wsX2_greatestOfDisc (va_wsS RX2 62 yX2_firstIndexOf wsX2_firstIndexOf) := goodIn_app (goodIn_of _ (by decide +kernel)) ggX2_greatestOfDisc_X2_firstIndexOf
set_option maxRecDepth 20000 in
theorem ggX2_leastOfDisc_X2_firstIndexOf : GoodIn wsX2_leastOfDisc wsX2_firstIndexOf := goodIn_r _ [9] (by decide +kernel) (by decide +kernel)
set_option maxRecDepth 20000 in
theorem gX2_leastOfDisc_X2_firstIndexOf : GoodIn wsX2_leastOfDisc (va_wsS RX2 62 yX2_firstIndexOf wsX2_firstIndexOf) := goodIn_app (goodIn_of _ (by decide +kernel)) ggX2_leastOfDisc_X2_firstIndexOf
set_option maxRecDepth 20000 in
theorem ggX2_chargeOfAll_X2_sumOfDisc : GoodIn wsX2_chargeOfAll wsX2_sumOfDisc := goodIn_r _ [6, 7, 8, 9, 5, 10, 11, 12, 13, 14, 15, 16, 17, 18, 19, 20, 21, 22, 23] (by decide +kernel) (by decide +kernel)
set_option maxRecDepth 20000 in
theorem gX2_chargeOfAll_X2_sumOfDisc : GoodIn wsX2_chargeOfAll (wsV RX2 77 RX2 yX2_sumOfDisc wsX2_sumOfDisc) := goodIn_app (goodIn_of _ (by decide +kernel)) ggX2_chargeOfAll_X2_sumOfDisc
set_option maxRecDepth 20000 in
theorem ggX2_sign_J6_signum_0f7a4 : GoodIn wsX2_sign wsJ6_signum_0f7a4 := goodIn_r _ [5] (by decide +kernel) (by decide +kernel)
set_option maxRecDepth 20000 in
theorem gX2_sign_J6_signum_0f7a4 : GoodIn wsX2_sign (va_wsS RX2 66 yJ6_signum_0f7a4 wsJ6_signum_0f7a4) := goodIn_app (goodIn_of _ (by decide +kernel)) ggX2_sign_J6_signum_0f7a4
set_option maxRecDepth 20000 in
theorem ggX2_putCharge_X2_indexOf : GoodIn wsX2_putCharge wsX2_indexOf := goodIn_r _ [7, 8, 9, 10, 11] (by decide +kernel) (by decide +kernel)
set_option maxRecDepth 20000 in
theorem gX2_putCharge_X2_indexOf : GoodIn wsX2_putCharge (va_wsS RX2 84 yX2_indexOf wsX2_indexOf) := goodIn_app (goodIn_of _ (by decide +kernel)) ggX2_putCharge_X2_indexOf
set_option maxRecDepth 20000 in
theorem ggX2_emptyJars_X2_difference : GoodIn wsX2_emptyJars wsX2_difference := goodIn_r _ [7, 2, 8, 9, 10, 11, 12, 13, 14, 15, 16, 17, 18, 19, 20, 21, 22, 23, 24] (by decide +kernel) (by decide +kernel)
set_option maxRecDepth 20000 in
theorem gX2_emptyJars_X2_difference : GoodIn wsX2_emptyJars (wsV RX2 88 RX2 yX2_difference wsX2_difference) := goodIn_app (goodIn_of _ (by decide +kernel)) ggX2_emptyJars_X2_difference
set_option maxRecDepth 20000 in
theorem ggX2_emptySectors_X2_sectorsWithSign : GoodIn wsX2_emptySectors wsX2_sectorsWithSign := goodIn_r _ [7, 2, 8, 9, 6, 10, 11, 12, 13, 14, 19, 20, 21, 22, 23, 24, 25, 26, 27, 28, 29, 30, 31] (by decide +kernel) (by decide +kernel)
set_option maxRecDepth 20000 in
theorem gX2_emptySectors_X2_sectorsWithSign : GoodIn wsX2_emptySectors (wsV RX2 92 RX2 yX2_sectorsWithSign wsX2_sectorsWithSign) := goodIn_app (goodIn_of _ (by decide +kernel)) ggX2_emptySectors_X2_sectorsWithSign
set_option maxRecDepth 20000 in
theorem ggX2_emptySectors_X2_sumOfDisc : GoodIn wsX2_emptySectors wsX2_sumOfDisc := goodIn_r _ [18, 2, 8, 9, 6, 10, 19, 20, 21, 22, 23, 24, 25, 26, 27, 28, 29, 30, 31] (by decide +kernel) (by decide +kernel)
set_option maxRecDepth 20000 in
theorem gX2_emptySectors_X2_sumOfDisc : GoodIn wsX2_emptySectors (wsV RX2 77 RX2 yX2_sumOfDisc wsX2_sumOfDisc) := goodIn_app (goodIn_of _ (by decide +kernel)) ggX2_emptySectors_X2_sumOfDisc
set_option maxRecDepth 20000 in
theorem ggX2_emptySectors_X2_firstIndexOf : GoodIn wsX2_emptySectors wsX2_firstIndexOf := goodIn_r _ [10] (by decide +kernel) (by decide +kernel)
set_option maxRecDepth 20000 in
theorem gX2_emptySectors_X2_firstIndexOf : GoodIn wsX2_emptySectors (va_wsS RX2 62 yX2_firstIndexOf wsX2_firstIndexOf) := goodIn_app (goodIn_of _ (by decide +kernel)) ggX2_emptySectors_X2_firstIndexOf
set_option maxRecDepth 20000 in
theorem ggX2_turnHandle_X2_turnOnce : GoodIn wsX2_turnHandle wsX2_turnOnce := goodIn_r _ [6, 7, 8, 9, 5, 10, 11, 12, 13, 14, 15, 16, 17, 18, 19, 20, 21, 22, 23, 24, 25, 26, 27, 28, 29, 30, 31, 32, 33, 34, 35, 36, 37, 38, 39, 40, 41, 42, 43, 44, 45, 46, 47, 48, 49, 50, 51, 52, 53, 54, 55, 56, 57, 58, 59, 60, 61, 62, 63, 64, 65, 66, 67, 1, 68, 69, 70, 71, 72, 73, 74, 75, 76, 77, 78, 79, 80, 81, 82, 83, 84, 85, 86, 87, 88, 89, 90, 91, 92, 93, 94, 95, 96, 97, 98] (by decide +kernel) (by decide +kernel)
set_option maxRecDepth 20000 in
theorem gX2_turnHandle_X2_turnOnce : GoodIn wsX2_turnHandle (wsV RX2 95 RX2 yX2_turnOnce wsX2_turnOnce) := goodIn_app (goodIn_of _ (by decide +kernel)) ggX2_turnHandle_X2_turnOnce
set_option maxRecDepth 20000 in
theorem ggX2_turnToGreatestDifference_X2_turnOnce : GoodIn wsX2_turnToGreatestDifference wsX2_turnOnce := goodIn_r _ [9, 10, 11, 12, 8, 13, 14, 15, 16, 17, 18, 19, 20, 1, 2, 3, 4, 21, 22, 23, 24, 25, 26, 27, 28, 29, 30, 31, 32, 33, 34, 35, 36, 37, 38, 39, 40, 41, 42, 43, 44, 45, 46, 47, 48, 49, 50, 51, 52, 53, 54, 55, 56, 57, 58, 59, 60, 61, 62, 63, 64, 65, 66, 67, 68, 69, 70, 71, 72, 73, 74, 75, 76, 77, 78, 79, 80, 81, 82, 83, 84, 85, 86, 87, 88, 89, 90, 91, 92, 93, 94, 95, 96, 97, 98] (by decide +kernel) (by decide +kernel)
set_option maxRecDepth 20000 in
theorem gX2_turnToGreatestDifference_X2_turnOnce : GoodIn wsX2_turnToGreatestDifference (wsV RX2 95 RX2 yX2_turnOnce wsX2_turnOnce) := goodIn_app (goodIn_of _ (by decide +kernel)) ggX2_turnToGreatestDifference_X2_turnOnce
set_option maxRecDepth 20000 in
theorem ggX2_turnToGreatestDifference_X2_difference : GoodIn wsX2_turnToGreatestDifference wsX2_difference := goodIn_r _ [59, 40, 60, 61, 3, 62, 86, 87, 88, 89, 90, 91, 92, 93, 94, 95, 96, 97, 98] (by decide +kernel) (by decide +kernel)
set_option maxRecDepth 20000 in
theorem gX2_turnToGreatestDifference_X2_difference : GoodIn wsX2_turnToGreatestDifference (wsV RX2 88 RX2 yX2_difference wsX2_difference) := goodIn_app (goodIn_of _ (by decide +kernel)) ggX2_turnToGreatestDifference_X2_difference
set_option maxRecDepth 20000 in
theorem ggX2_turnToSpark_X2_turnAheadOfSpark : GoodIn wsX2_turnToSpark wsX2_turnAheadOfSpark := goodIn_r _ [6, 7, 8, 9, 10, 5, 11, 12, 13, 14, 15, 16, 17, 18, 19, 20, 21, 22, 23, 24, 25, 26, 27, 28, 29, 30, 31, 32, 33, 34, 35, 36, 37, 38, 39, 40, 41, 42, 43, 44, 45, 46, 47, 48, 60, 61, 62, 63, 64, 65, 66, 67, 68, 69, 70, 71, 72] (by decide +kernel) (by decide +kernel)
set_option maxRecDepth 20000 in
theorem gX2_turnToSpark_X2_turnAheadOfSpark : GoodIn wsX2_turnToSpark (wsV RX2 98 RX2 yX2_turnAheadOfSpark wsX2_turnAheadOfSpark) := goodIn_app (goodIn_of _ (by decide +kernel)) ggX2_turnToSpark_X2_turnAheadOfSpark
set_option maxRecDepth 20000 in
theorem ggX2_turnToSpark_X2_isSparkDue : GoodIn wsX2_turnToSpark wsX2_isSparkDue := goodIn_r _ [52, 13, 53, 54, 55, 5, 56, 37, 57, 58, 16, 59, 60, 61, 62, 63, 64, 65, 66, 67, 68, 69, 70, 71, 72] (by decide +kernel) (by decide +kernel)
set_option maxRecDepth 20000 in
theorem gX2_turnToSpark_X2_isSparkDue : GoodIn wsX2_turnToSpark (wsV RX2 101 RX2 yX2_isSparkDue wsX2_isSparkDue) := goodIn_app (goodIn_of _ (by decide +kernel)) ggX2_turnToSpark_X2_isSparkDue
set_option maxRecDepth 20000 in
theorem ggX2_turnOnce_X2_turnAheadOfSpark : GoodIn wsX2_turnOnce wsX2_turnAheadOfSpark := goodIn_r _ [5, 6, 7, 8, 9, 4, 10, 11, 12, 13, 14, 15, 16, 17, 18, 19, 20, 21, 22, 23, 24, 25, 26, 27, 28, 29, 30, 31, 32, 33, 34, 35, 36, 37, 38, 39, 40, 41, 42, 43, 44, 45, 46, 47, 82, 83, 84, 85, 86, 87, 88, 89, 90, 91, 92, 93, 94] (by decide +kernel) (by decide +kernel)
set_option maxRecDepth 20000 in
theorem gX2_turnOnce_X2_turnAheadOfSpark : GoodIn wsX2_turnOnce (wsV RX2 98 RX2 yX2_turnAheadOfSpark wsX2_turnAheadOfSpark) := goodIn_app (goodIn_of _ (by decide +kernel)) ggX2_turnOnce_X2_turnAheadOfSpark
set_option maxRecDepth 20000 in
theorem ggX2_turnOnce_X2_isSparkDue : GoodIn wsX2_turnOnce wsX2_isSparkDue := goodIn_r _ [51, 12, 52, 53, 54, 4, 55, 36, 56, 57, 15, 58, 82, 83, 84, 85, 86, 87, 88, 89, 90, 91, 92, 93, 94] (by decide +kernel) (by decide +kernel)
set_option maxRecDepth 20000 in
theorem gX2_turnOnce_X2_isSparkDue : GoodIn wsX2_turnOnce (wsV RX2 101 RX2 yX2_isSparkDue wsX2_isSparkDue) := goodIn_app (goodIn_of _ (by decide +kernel)) ggX2_turnOnce_X2_isSparkDue
set_option maxRecDepth 20000 in
theorem ggX2_turnOnce_X2_letJump : GoodIn wsX2_turnOnce wsX2_letJump := goodIn_r _ [62, 63, 64, 6, 36, 12, 65, 66, 4, 67, 23, 24, 25, 26, 82, 83, 84, 85, 86, 87, 88, 89, 90, 91, 92, 93, 94] (by decide +kernel) (by decide +kernel)
set_option maxRecDepth 20000 in
theorem gX2_turnOnce_X2_letJump : GoodIn wsX2_turnOnce (wsV RX2 106 RX2 yX2_letJump wsX2_letJump) := goodIn_app (goodIn_of _ (by decide +kernel)) ggX2_turnOnce_X2_letJump
set_option maxRecDepth 20000 in
theorem ggX2_turnOnce_X2_noteSign : GoodIn wsX2_turnOnce wsX2_noteSign := goodIn_r _ [71, 72, 73, 74, 75, 76, 4, 77, 36, 78, 79, 80, 81, 82, 83, 84, 85, 86, 87, 88, 89, 90, 91, 92, 93, 94] (by decide +kernel) (by decide +kernel)
set_option maxRecDepth 20000 in
theorem gX2_turnOnce_X2_noteSign : GoodIn wsX2_turnOnce (wsV RX2 109 RX2 yX2_noteSign wsX2_noteSign) := goodIn_app (goodIn_of _ (by decide +kernel)) ggX2_turnOnce_X2_noteSign
set_option maxRecDepth 20000 in
theorem ggX2_turnAheadOfSpark_X2_join : GoodIn wsX2_turnAheadOfSpark wsX2_join := goodIn_r _ [6, 1, 7, 8, 9, 10, 11, 12, 13, 14, 15, 16, 17, 5, 18, 19, 20, 21, 22, 23, 24, 25, 26, 27, 44, 45, 46, 47, 48, 49, 50, 51, 52, 53, 54, 55, 56] (by decide +kernel) (by decide +kernel)
set_option maxRecDepth 20000 in
theorem gX2_turnAheadOfSpark_X2_join : GoodIn wsX2_turnAheadOfSpark (wsV RX2 112 RX2 yX2_join wsX2_join) := goodIn_app (goodIn_of _ (by decide +kernel)) ggX2_turnAheadOfSpark_X2_join
set_option maxRecDepth 20000 in
theorem ggX2_turnAheadOfSpark_X2_gather : GoodIn wsX2_turnAheadOfSpark wsX2_gather := goodIn_r _ [31, 1, 8, 7, 32, 33, 16, 17, 5, 18, 19, 20, 21, 22, 23, 24, 25, 26, 14, 11, 15, 27, 10, 12, 44, 45, 46, 47, 48, 49, 50, 51, 52, 53, 54, 55, 56] (by decide +kernel) (by decide +kernel)
set_option maxRecDepth 20000 in
theorem gX2_turnAheadOfSpark_X2_gather : GoodIn wsX2_turnAheadOfSpark (wsV RX2 116 RX2 yX2_gather wsX2_gather) := goodIn_app (goodIn_of _ (by decide +kernel)) ggX2_turnAheadOfSpark_X2_gather
set_option maxRecDepth 20000 in
theorem ggX2_turnAheadOfSpark_X2_leakFromSectors : GoodIn wsX2_turnAheadOfSpark wsX2_leakFromSectors := goodIn_r _ [37, 7, 8, 38, 44, 45, 46, 47, 48, 49, 50, 51, 52, 53, 54, 55, 56] (by decide +kernel) (by decide +kernel)
set_option maxRecDepth 20000 in
theorem gX2_turnAheadOfSpark_X2_leakFromSectors : GoodIn wsX2_turnAheadOfSpark (wsV RX2 120 RX2 yX2_leakFromSectors wsX2_leakFromSectors) := goodIn_app (goodIn_of _ (by decide +kernel)) ggX2_turnAheadOfSpark_X2_leakFromSectors
set_option maxRecDepth 20000 in
theorem ggX2_turnAheadOfSpark_X2_leakFromJar : GoodIn wsX2_turnAheadOfSpark wsX2_leakFromJar := goodIn_r _ [42, 32, 8, 43, 38, 44, 45, 46, 47, 48, 49, 50, 51, 52, 53, 54, 55, 56] (by decide +kernel) (by decide +kernel)
set_option maxRecDepth 20000 in
theorem gX2_turnAheadOfSpark_X2_leakFromJar : GoodIn wsX2_turnAheadOfSpark (wsV RX2 123 RX2 yX2_leakFromJar wsX2_leakFromJar) := goodIn_app (goodIn_of _ (by decide +kernel)) ggX2_turnAheadOfSpark_X2_leakFromJar
set_option maxRecDepth 20000 in
theorem ggX2_join_X2_indexOf : GoodIn wsX2_join wsX2_indexOf := goodIn_r _ [14, 15, 16, 17, 18] (by decide +kernel) (by decide +kernel)
set_option maxRecDepth 20000 in
theorem gX2_join_X2_indexOf : GoodIn wsX2_join (va_wsS RX2 84 yX2_indexOf wsX2_indexOf) := goodIn_app (goodIn_of _ (by decide +kernel)) ggX2_join_X2_indexOf
set_option maxRecDepth 20000 in
theorem ggX2_join_X4_limited : GoodIn wsX2_join wsX4_limited := goodIn_r _ [21, 22, 9, 6, 10, 23, 5, 7] (by decide +kernel) (by decide +kernel)
set_option maxRecDepth 20000 in
theorem gX2_join_X4_limited_n127 : GoodIn wsX2_join (wsX4_limited) := ggX2_join_X4_limited
set_option maxRecDepth 20000 in
theorem ggX2_gather_X2_indexOf : GoodIn wsX2_gather wsX2_indexOf := goodIn_r _ [9, 10, 11, 12, 13] (by decide +kernel) (by decide +kernel)
set_option maxRecDepth 20000 in
theorem gX2_gather_X2_indexOf : GoodIn wsX2_gather (va_wsS RX2 84 yX2_indexOf wsX2_indexOf) := goodIn_app (goodIn_of _ (by decide +kernel)) ggX2_gather_X2_indexOf
set_option maxRecDepth 20000 in
theorem ggX2_gather_X4_limited : GoodIn wsX2_gather wsX4_limited := goodIn_r _ [16, 17, 18, 19, 20, 21, 22, 23] (by decide +kernel) (by decide +kernel)
set_option maxRecDepth 20000 in
theorem gX2_gather_X4_limited_n127 : GoodIn wsX2_gather (wsX4_limited) := ggX2_gather_X4_limited
set_option maxRecDepth 20000 in
theorem ggX2_isSparkDue_X2_difference : GoodIn wsX2_isSparkDue wsX2_difference := goodIn_r _ [6, 7, 8, 9, 10, 11, 12, 13, 14, 15, 16, 17, 18, 19, 20, 21, 22, 23, 24] (by decide +kernel) (by decide +kernel)
set_option maxRecDepth 20000 in
theorem gX2_isSparkDue_X2_difference : GoodIn wsX2_isSparkDue (wsV RX2 88 RX2 yX2_difference wsX2_difference) := goodIn_app (goodIn_of _ (by decide +kernel)) ggX2_isSparkDue_X2_difference
set_option maxRecDepth 20000 in
theorem ggX2_letJump_X2_logIndexOf : GoodIn wsX2_letJump wsX2_logIndexOf := goodIn_r _ [9, 10, 11, 12, 13] (by decide +kernel) (by decide +kernel)
set_option maxRecDepth 20000 in
theorem gX2_letJump_X2_logIndexOf : GoodIn wsX2_letJump (va_wsS RX2 130 yX2_logIndexOf wsX2_logIndexOf) := goodIn_app (goodIn_of _ (by decide +kernel)) ggX2_letJump_X2_logIndexOf
set_option maxRecDepth 20000 in
theorem ggX2_noteSign_X2_sign : GoodIn wsX2_noteSign wsX2_sign := goodIn_r _ [7, 8, 9, 10, 11, 12, 13, 14, 15, 16, 17, 18, 19, 20, 21, 22, 23, 24, 25] (by decide +kernel) (by decide +kernel)
set_option maxRecDepth 20000 in
theorem gX2_noteSign_X2_sign : GoodIn wsX2_noteSign (wsV RX2 133 RX2 yX2_sign wsX2_sign) := goodIn_app (goodIn_of _ (by decide +kernel)) ggX2_noteSign_X2_sign
set_option maxRecDepth 20000 in
theorem ggX4_init_X2_init : GoodIn wsX4_init wsX2_init := goodIn_r _ [21, 22, 2, 3, 23, 24, 25, 26, 27, 28, 29, 47, 48, 49, 50, 51, 52, 53, 54, 55, 56, 57, 58, 59] (by decide +kernel) (by decide +kernel)
set_option maxRecDepth 20000 in
theorem gX4_init_X2_init_n9 : GoodIn wsX4_init (wsX2_init) := ggX4_init_X2_init
set_option maxRecDepth 20000 in
theorem ggX4_init_X1_init : GoodIn wsX4_init wsX1_init := goodIn_r _ [31, 32, 2, 3, 33, 34, 66, 67, 68] (by decide +kernel) (by decide +kernel)
set_option maxRecDepth 20000 in
theorem gX4_init_X1_init_n21 : GoodIn wsX4_init (wsX1_init) := ggX4_init_X1_init
set_option maxRecDepth 20000 in
theorem ggX4_init_X0_init : GoodIn wsX4_init wsX0_init := goodIn_r _ [36, 37, 2, 3, 38, 39, 40, 41, 42, 43, 44, 45, 46, 75, 76, 69, 70, 71, 72, 73, 74] (by decide +kernel) (by decide +kernel)
set_option maxRecDepth 20000 in
theorem gX4_init_X0_init_n32 : GoodIn wsX4_init (wsX0_init) := ggX4_init_X0_init
set_option maxRecDepth 20000 in
theorem ggX4_set_X2_fullestJar : GoodIn wsX4_set wsX2_fullestJar := goodIn_r _ [12, 13, 14, 15, 16, 17, 18, 19, 20, 73, 74, 75, 76, 77, 78, 79, 80, 81, 82, 83, 84, 85] (by decide +kernel) (by decide +kernel)
set_option maxRecDepth 20000 in
theorem gX4_set_X2_fullestJar : GoodIn wsX4_set (wsV RX4 50 RX2 yX2_fullestJar wsX2_fullestJar) := goodIn_app (goodIn_of _ (by decide +kernel)) ggX4_set_X2_fullestJar
set_option maxRecDepth 20000 in
theorem ggX4_set_X1_record : GoodIn wsX4_set wsX1_record := goodIn_r _ [25, 26, 27, 28, 29, 30, 11, 31, 32, 33, 34, 35, 36, 37, 38, 39, 40, 41, 42, 13, 43, 44, 45, 46, 47, 48, 49, 50, 51, 52, 53, 54, 55, 56, 57, 58, 59, 60, 61, 16, 62, 63, 64, 65, 66, 86, 87, 88, 73, 74, 75, 76, 77, 78, 79, 80, 81, 82, 83, 84, 85] (by decide +kernel) (by decide +kernel)
set_option maxRecDepth 20000 in
theorem gX4_set_X1_record : GoodIn wsX4_set (wsV RX4 55 RX1 yX1_record wsX1_record) := goodIn_app (goodIn_of _ (by decide +kernel)) ggX4_set_X1_record
set_option maxRecDepth 20000 in
theorem ggX4_touch_X4_isNoDisc : GoodIn wsX4_touch wsX4_isNoDisc := goodIn_r _ [8] (by decide +kernel) (by decide +kernel)
set_option maxRecDepth 20000 in
theorem gX4_touch_X4_isNoDisc : GoodIn wsX4_touch (va_wsS RX4 62 yX4_isNoDisc wsX4_isNoDisc) := goodIn_app (goodIn_of _ (by decide +kernel)) ggX4_touch_X4_isNoDisc
set_option maxRecDepth 20000 in
theorem ggX4_touch_X4_isNoPlace : GoodIn wsX4_touch wsX4_isNoPlace := goodIn_r _ [11] (by decide +kernel) (by decide +kernel)
set_option maxRecDepth 20000 in
theorem gX4_touch_X4_isNoPlace : GoodIn wsX4_touch (va_wsS RX4 66 yX4_isNoPlace wsX4_isNoPlace) := goodIn_app (goodIn_of _ (by decide +kernel)) ggX4_touch_X4_isNoPlace
set_option maxRecDepth 20000 in
theorem ggX4_touch_X1_record : GoodIn wsX4_touch wsX1_record := goodIn_r _ [16, 17, 18, 19, 20, 21, 22, 23, 24, 25, 26, 27, 28, 29, 30, 31, 32, 33, 34, 35, 36, 37, 38, 39, 40, 41, 42, 43, 44, 45, 46, 47, 48, 49, 50, 7, 51, 52, 53, 54, 55, 56, 57, 58, 59, 74, 75, 76, 77, 78, 79, 80, 81, 82, 83, 84, 85, 86, 87, 88, 89] (by decide +kernel) (by decide +kernel)
set_option maxRecDepth 20000 in
theorem gX4_touch_X1_record : GoodIn wsX4_touch (wsV RX4 55 RX1 yX1_record wsX1_record) := goodIn_app (goodIn_of _ (by decide +kernel)) ggX4_touch_X1_record
set_option maxRecDepth 20000 in
theorem ggX4_touch_X2_putCharge : GoodIn wsX4_touch wsX2_putCharge := goodIn_r _ [63, 43, 34, 48, 64, 65, 22, 66, 67, 24, 25, 26, 77, 78, 79, 80, 81, 82, 83, 84, 85, 86, 87, 88, 89] (by decide +kernel) (by decide +kernel)
set_option maxRecDepth 20000 in
theorem gX4_touch_X2_putCharge : GoodIn wsX4_touch (wsV RX4 70 RX2 yX2_putCharge wsX2_putCharge) := goodIn_app (goodIn_of _ (by decide +kernel)) ggX4_touch_X2_putCharge
set_option maxRecDepth 20000 in
theorem ggX4_turn_X2_hasTurnsLeft : GoodIn wsX4_turn wsX2_hasTurnsLeft := goodIn_r _ [9, 10, 11, 134, 135, 136, 137, 138, 139, 140, 141, 142, 143, 144, 145, 146] (by decide +kernel) (by decide +kernel)
set_option maxRecDepth 20000 in
theorem gX4_turn_X2_hasTurnsLeft : GoodIn wsX4_turn (wsV RX4 74 RX2 yX2_hasTurnsLeft wsX2_hasTurnsLeft) := goodIn_app (goodIn_of _ (by decide +kernel)) ggX4_turn_X2_hasTurnsLeft
set_option maxRecDepth 20000 in
theorem ggX4_turn_X1_record : GoodIn wsX4_turn wsX1_record := goodIn_r _ [16, 17, 18, 19, 20, 21, 8, 22, 23, 24, 25, 26, 27, 28, 29, 30, 31, 32, 33, 34, 35, 36, 37, 38, 39, 40, 41, 10, 42, 43, 44, 45, 46, 47, 48, 49, 50, 51, 52, 53, 54, 55, 56, 57, 58, 147, 148, 149, 134, 135, 136, 137, 138, 139, 140, 141, 142, 143, 144, 145, 146] (by decide +kernel) (by decide +kernel)
set_option maxRecDepth 20000 in
theorem gX4_turn_X1_record : GoodIn wsX4_turn (wsV RX4 55 RX1 yX1_record wsX1_record) := goodIn_app (goodIn_of _ (by decide +kernel)) ggX4_turn_X1_record
set_option maxRecDepth 20000 in
theorem ggX4_turn_X2_turnHandle : GoodIn wsX4_turn wsX2_turnHandle := goodIn_r _ [62, 42, 63, 64, 65, 8, 66, 67, 68, 69, 70, 10, 71, 72, 73, 74, 33, 32, 75, 76, 53, 77, 78, 52, 54, 79, 80, 81, 82, 23, 24, 25, 83, 49, 84, 51, 85, 86, 87, 88, 89, 34, 35, 90, 91, 92, 93, 45, 94, 95, 96, 97, 36, 98, 99, 100, 101, 102, 103, 104, 105, 106, 107, 108, 109, 110, 111, 112, 37, 113, 114, 115, 116, 117, 118, 119, 44, 43, 120, 121, 122, 123, 124, 125, 126, 127, 134, 135, 136, 137, 138, 139, 140, 141, 142, 143, 144, 145, 146] (by decide +kernel) (by decide +kernel)
set_option maxRecDepth 20000 in
theorem gX4_turn_X2_turnHandle : GoodIn wsX4_turn (wsV RX4 78 RX2 yX2_turnHandle wsX2_turnHandle) := goodIn_app (goodIn_of _ (by decide +kernel)) ggX4_turn_X2_turnHandle
set_option maxRecDepth 20000 in
theorem ggX4_discharge_X1_record : GoodIn wsX4_discharge wsX1_record := goodIn_r _ [7, 8, 9, 10, 11, 12, 13, 14, 15, 16, 17, 18, 19, 20, 21, 22, 23, 24, 25, 26, 27, 28, 29, 30, 31, 32, 33, 34, 35, 36, 37, 38, 39, 40, 41, 42, 43, 44, 45, 46, 47, 48, 49, 50, 51, 69, 70, 71, 72, 73, 74, 75, 76, 77, 78, 79, 80, 81, 82, 83, 84] (by decide +kernel) (by decide +kernel)
set_option maxRecDepth 20000 in
theorem gX4_discharge_X1_record : GoodIn wsX4_discharge (wsV RX4 55 RX1 yX1_record wsX1_record) := goodIn_app (goodIn_of _ (by decide +kernel)) ggX4_discharge_X1_record
set_option maxRecDepth 20000 in
theorem ggX4_discharge_X2_emptyJars : GoodIn wsX4_discharge wsX2_emptyJars := goodIn_r _ [55, 40, 26, 56, 57, 58, 13, 59, 60, 61, 46, 62, 72, 73, 74, 75, 76, 77, 78, 79, 80, 81, 82, 83, 84] (by decide +kernel) (by decide +kernel)
set_option maxRecDepth 20000 in
theorem gX4_discharge_X2_emptyJars : GoodIn wsX4_discharge (wsV RX4 82 RX2 yX2_emptyJars wsX2_emptyJars) := goodIn_app (goodIn_of _ (by decide +kernel)) ggX4_discharge_X2_emptyJars
set_option maxRecDepth 20000 in
theorem ggX4_wipeDisc_X4_isNoDisc : GoodIn wsX4_wipeDisc wsX4_isNoDisc := goodIn_r _ [7] (by decide +kernel) (by decide +kernel)
set_option maxRecDepth 20000 in
theorem gX4_wipeDisc_X4_isNoDisc : GoodIn wsX4_wipeDisc (va_wsS RX4 62 yX4_isNoDisc wsX4_isNoDisc) := goodIn_app (goodIn_of _ (by decide +kernel)) ggX4_wipeDisc_X4_isNoDisc
set_option maxRecDepth 20000 in
theorem ggX4_wipeDisc_X1_record : GoodIn wsX4_wipeDisc wsX1_record := goodIn_r _ [12, 13, 14, 15, 16, 17, 18, 19, 20, 21, 22, 23, 24, 25, 26, 27, 28, 29, 30, 31, 32, 33, 34, 35, 36, 37, 38, 39, 40, 41, 42, 43, 44, 45, 46, 6, 47, 48, 49, 50, 51, 52, 53, 54, 55, 81, 82, 83, 84, 85, 86, 87, 88, 89, 90, 91, 92, 93, 94, 95, 96] (by decide +kernel) (by decide +kernel)
set_option maxRecDepth 20000 in
theorem gX4_wipeDisc_X1_record : GoodIn wsX4_wipeDisc (wsV RX4 55 RX1 yX1_record wsX1_record) := goodIn_app (goodIn_of _ (by decide +kernel)) ggX4_wipeDisc_X1_record
set_option maxRecDepth 20000 in
theorem ggX4_wipeDisc_X2_emptySectors : GoodIn wsX4_wipeDisc wsX2_emptySectors := goodIn_r _ [59, 45, 30, 60, 61, 62, 18, 63, 64, 65, 66, 67, 68, 69, 70, 71, 72, 73, 74, 84, 85, 86, 87, 88, 89, 90, 91, 92, 93, 94, 95, 96] (by decide +kernel) (by decide +kernel)
set_option maxRecDepth 20000 in
theorem gX4_wipeDisc_X2_emptySectors : GoodIn wsX4_wipeDisc (wsV RX4 85 RX2 yX2_emptySectors wsX2_emptySectors) := goodIn_app (goodIn_of _ (by decide +kernel)) ggX4_wipeDisc_X2_emptySectors
set_option maxRecDepth 20000 in
theorem ggX4_run_X0_findFault : GoodIn wsX4_run wsX0_findFault := goodIn_r _ [12, 13, 14, 15, 16, 17, 18, 19, 11, 20, 21, 22, 23, 24, 25, 26, 27, 28, 29, 30, 31, 32, 33, 34, 35, 36, 37, 38, 39, 40, 41, 42, 43, 44, 45, 46, 47, 48, 49, 50, 51, 52, 53, 54, 55, 221, 222, 223, 224, 225, 226, 227, 228] (by decide +kernel) (by decide +kernel)
set_option maxRecDepth 20000 in
theorem gX4_run_X0_findFault : GoodIn wsX4_run (wsV RX4 88 RX0 yX0_findFault wsX0_findFault) := goodIn_app (goodIn_of _ (by decide +kernel)) ggX4_run_X0_findFault
set_option maxRecDepth 20000 in
theorem ggX4_run_X1_record : GoodIn wsX4_run wsX1_record := goodIn_r _ [60, 61, 62, 63, 64, 65, 66, 67, 68, 69, 70, 71, 72, 73, 74, 75, 76, 77, 78, 79, 80, 81, 82, 83, 84, 85, 86, 87, 88, 89, 90, 91, 92, 93, 94, 95, 96, 97, 98, 99, 100, 101, 102, 103, 104, 229, 230, 231, 208, 209, 210, 211, 212, 213, 214, 215, 216, 217, 218, 219, 220] (by decide +kernel) (by decide +kernel)
set_option maxRecDepth 20000 in
theorem gX4_run_X1_record : GoodIn wsX4_run (wsV RX4 55 RX1 yX1_record wsX1_record) := goodIn_app (goodIn_of _ (by decide +kernel)) ggX4_run_X1_record
set_option maxRecDepth 20000 in
theorem ggX4_run_X0_start : GoodIn wsX4_run wsX0_start := goodIn_r _ [20, 13, 221, 222, 223, 224, 225, 226] (by decide +kernel) (by decide +kernel)
set_option maxRecDepth 20000 in
theorem gX4_run_X0_start : GoodIn wsX4_run (wsV RX4 97 RX0 yX0_start wsX0_start) := goodIn_app (goodIn_of _ (by decide +kernel)) ggX4_run_X0_start
set_option maxRecDepth 20000 in
theorem ggX4_run_X0_readDeed : GoodIn wsX4_run wsX0_readDeed := goodIn_r _ [24, 25, 26, 27, 28, 29, 11, 30, 14, 13, 31, 32, 33, 34, 35, 36, 37, 38, 39, 40, 41, 42, 43, 44, 45, 46, 47, 48, 49, 50, 51, 52, 53, 54, 55, 221, 222, 223, 224, 225, 226, 227, 228] (by decide +kernel) (by decide +kernel)
set_option maxRecDepth 20000 in
theorem gX4_run_X0_readDeed : GoodIn wsX4_run (wsV RX4 100 RX0 yX0_readDeed wsX0_readDeed) := goodIn_app (goodIn_of _ (by decide +kernel)) ggX4_run_X0_readDeed
set_option maxRecDepth 20000 in
theorem ggX4_run_X4_doReadDeed : GoodIn wsX4_run wsX4_doReadDeed := goodIn_r _ [110, 1, 111, 5, 112, 113, 114, 115, 116, 117, 66, 118, 87, 78, 92, 119, 120, 121, 122, 68, 69, 70, 123, 124, 125, 126, 93, 79, 127, 128, 129, 130, 131, 132, 99, 133, 134, 135, 136, 137, 138, 139, 140, 141, 142, 88, 143, 144, 145, 146, 147, 148, 149, 150, 151, 152, 153, 154, 77, 155, 156, 157, 158, 98, 100, 159, 95, 160, 97, 161, 162, 163, 164, 165, 80, 166, 167, 168, 169, 91, 170, 171, 172, 173, 81, 174, 175, 176, 177, 178, 179, 180, 181, 82, 182, 183, 184, 185, 186, 187, 188, 90, 89, 189, 190, 191, 192, 193, 194, 195, 196, 202, 203, 204, 205, 206, 207, 221, 222, 223, 224, 225, 226, 208, 209, 210, 211, 212, 213, 214, 215, 216, 217, 218, 219, 220] (by decide +kernel) (by decide +kernel)
set_option maxRecDepth 20000 in
theorem gX4_run_X4_doReadDeed : GoodIn wsX4_run (wsV RX4 104 RX4 yX4_doReadDeed wsX4_doReadDeed) := goodIn_app (goodIn_of _ (by decide +kernel)) ggX4_run_X4_doReadDeed
set_option maxRecDepth 20000 in
theorem ggX4_run_X0_readSign : GoodIn wsX4_run wsX0_readSign := goodIn_r _ [30, 14, 13, 31, 32, 33, 34, 35, 36, 37, 221, 222, 223, 224, 225, 226, 227, 228] (by decide +kernel) (by decide +kernel)
set_option maxRecDepth 20000 in
theorem gX4_run_X0_readSign : GoodIn wsX4_run (wsV RX4 107 RX0 yX0_readSign wsX0_readSign) := goodIn_app (goodIn_of _ (by decide +kernel)) ggX4_run_X0_readSign
set_option maxRecDepth 20000 in
theorem ggX4_run_X3_clear : GoodIn wsX4_run wsX3_clear := goodIn_r _ [201, 36, 227, 228] (by decide +kernel) (by decide +kernel)
set_option maxRecDepth 20000 in
theorem gX4_run_X3_clear : GoodIn wsX4_run (wsV RX4 111 RX3 yX3_clear wsX3_clear) := goodIn_app (goodIn_of _ (by decide +kernel)) ggX4_run_X3_clear
set_option maxRecDepth 20000 in
theorem ggX4_doReadDeed_X2_putCharge : GoodIn wsX4_doReadDeed wsX2_putCharge := goodIn_r _ [11, 12, 13, 14, 15, 16, 10, 17, 18, 19, 20, 21, 123, 124, 125, 126, 127, 128, 129, 130, 131, 132, 133, 134, 135] (by decide +kernel) (by decide +kernel)
set_option maxRecDepth 20000 in
theorem gX4_doReadDeed_X2_putCharge : GoodIn wsX4_doReadDeed (wsV RX4 70 RX2 yX2_putCharge wsX2_putCharge) := goodIn_app (goodIn_of _ (by decide +kernel)) ggX4_doReadDeed_X2_putCharge
set_option maxRecDepth 20000 in
theorem ggX4_doReadDeed_X2_emptyJars : GoodIn wsX4_doReadDeed wsX2_emptyJars := goodIn_r _ [25, 26, 27, 28, 29, 30, 10, 31, 32, 33, 34, 35, 123, 124, 125, 126, 127, 128, 129, 130, 131, 132, 133, 134, 135] (by decide +kernel) (by decide +kernel)
set_option maxRecDepth 20000 in
theorem gX4_doReadDeed_X2_emptyJars : GoodIn wsX4_doReadDeed (wsV RX4 82 RX2 yX2_emptyJars wsX2_emptyJars) := goodIn_app (goodIn_of _ (by decide +kernel)) ggX4_doReadDeed_X2_emptyJars
set_option maxRecDepth 20000 in
theorem ggX4_doReadDeed_X2_hasTurnsLeft : GoodIn wsX4_doReadDeed wsX2_hasTurnsLeft := goodIn_r _ [39, 12, 40, 123, 124, 125, 126, 127, 128, 129, 130, 131, 132, 133, 134, 135] (by decide +kernel) (by decide +kernel)
set_option maxRecDepth 20000 in
theorem gX4_doReadDeed_X2_hasTurnsLeft : GoodIn wsX4_doReadDeed (wsV RX4 74 RX2 yX2_hasTurnsLeft wsX2_hasTurnsLeft) := goodIn_app (goodIn_of _ (by decide +kernel)) ggX4_doReadDeed_X2_hasTurnsLeft
set_option maxRecDepth 20000 in
theorem ggX4_doReadDeed_X2_turnHandle : GoodIn wsX4_doReadDeed wsX2_turnHandle := goodIn_r _ [44, 45, 46, 47, 48, 10, 49, 50, 51, 52, 53, 12, 54, 55, 56, 57, 13, 58, 59, 60, 34, 61, 62, 63, 64, 15, 16, 17, 18, 19, 20, 21, 65, 66, 67, 68, 69, 70, 71, 72, 73, 27, 74, 75, 76, 77, 78, 79, 80, 81, 82, 83, 84, 85, 86, 87, 88, 28, 29, 30, 31, 32, 33, 35, 89, 90, 91, 92, 93, 94, 95, 96, 97, 98, 99, 100, 101, 102, 103, 104, 105, 106, 107, 108, 109, 110, 123, 124, 125, 126, 127, 128, 129, 130, 131, 132, 133, 134, 135] (by decide +kernel) (by decide +kernel)
set_option maxRecDepth 20000 in
theorem gX4_doReadDeed_X2_turnHandle : GoodIn wsX4_doReadDeed (wsV RX4 78 RX2 yX2_turnHandle wsX2_turnHandle) := goodIn_app (goodIn_of _ (by decide +kernel)) ggX4_doReadDeed_X2_turnHandle
set_option maxRecDepth 20000 in
theorem ggX4_sector_X4_isNoDisc : GoodIn wsX4_sector wsX4_isNoDisc := goodIn_r _ [8] (by decide +kernel) (by decide +kernel)
set_option maxRecDepth 20000 in
theorem gX4_sector_X4_isNoDisc : GoodIn wsX4_sector (va_wsS RX4 62 yX4_isNoDisc wsX4_isNoDisc) := goodIn_app (goodIn_of _ (by decide +kernel)) ggX4_sector_X4_isNoDisc
set_option maxRecDepth 20000 in
theorem ggX4_sector_X4_isNoPlace : GoodIn wsX4_sector wsX4_isNoPlace := goodIn_r _ [11] (by decide +kernel) (by decide +kernel)
set_option maxRecDepth 20000 in
theorem gX4_sector_X4_isNoPlace : GoodIn wsX4_sector (va_wsS RX4 66 yX4_isNoPlace wsX4_isNoPlace) := goodIn_app (goodIn_of _ (by decide +kernel)) ggX4_sector_X4_isNoPlace
set_option maxRecDepth 20000 in
theorem ggX4_sector_X2_indexOf : GoodIn wsX4_sector wsX2_indexOf := goodIn_r _ [15, 16, 17, 18, 19] (by decide +kernel) (by decide +kernel)
set_option maxRecDepth 20000 in
theorem gX4_sector_X2_indexOf : GoodIn wsX4_sector (va_wsS RX4 134 yX2_indexOf wsX2_indexOf) := goodIn_app (goodIn_of _ (by decide +kernel)) ggX4_sector_X2_indexOf
set_option maxRecDepth 20000 in
theorem ggX4_disc_X4_isNoDisc : GoodIn wsX4_disc wsX4_isNoDisc := goodIn_r _ [7] (by decide +kernel) (by decide +kernel)
set_option maxRecDepth 20000 in
theorem gX4_disc_X4_isNoDisc : GoodIn wsX4_disc (va_wsS RX4 62 yX4_isNoDisc wsX4_isNoDisc) := goodIn_app (goodIn_of _ (by decide +kernel)) ggX4_disc_X4_isNoDisc
set_option maxRecDepth 20000 in
theorem ggX4_disc_X2_sumOfDisc : GoodIn wsX4_disc wsX2_sumOfDisc := goodIn_r _ [12, 13, 14, 15, 11, 16, 46, 47, 48, 49, 50, 51, 52, 53, 54, 55, 56, 57, 58] (by decide +kernel) (by decide +kernel)
set_option maxRecDepth 20000 in
theorem gX4_disc_X2_sumOfDisc : GoodIn wsX4_disc (wsV RX4 137 RX2 yX2_sumOfDisc wsX2_sumOfDisc) := goodIn_app (goodIn_of _ (by decide +kernel)) ggX4_disc_X2_sumOfDisc
set_option maxRecDepth 20000 in
theorem ggX4_disc_X2_sectorsWithSign : GoodIn wsX4_disc wsX2_sectorsWithSign := goodIn_r _ [20, 13, 14, 15, 11, 16, 21, 22, 23, 24, 46, 47, 48, 49, 50, 51, 52, 53, 54, 55, 56, 57, 58] (by decide +kernel) (by decide +kernel)
set_option maxRecDepth 20000 in
theorem gX4_disc_X2_sectorsWithSign : GoodIn wsX4_disc (wsV RX4 140 RX2 yX2_sectorsWithSign wsX2_sectorsWithSign) := goodIn_app (goodIn_of _ (by decide +kernel)) ggX4_disc_X2_sectorsWithSign
set_option maxRecDepth 20000 in
theorem ggX4_disc_X2_greatestOfDisc : GoodIn wsX4_disc wsX2_greatestOfDisc := goodIn_r _ [28, 13, 29, 30, 31, 32, 14, 15, 11, 16, 46, 47, 48, 49, 50, 51, 52, 53, 54, 55, 56, 57, 58] (by decide +kernel) (by decide +kernel)
set_option maxRecDepth 20000 in
theorem gX4_disc_X2_greatestOfDisc : GoodIn wsX4_disc (wsV RX4 144 RX2 yX2_greatestOfDisc wsX2_greatestOfDisc) := goodIn_app (goodIn_of _ (by decide +kernel)) ggX4_disc_X2_greatestOfDisc
set_option maxRecDepth 20000 in
theorem ggX4_disc_X2_leastOfDisc : GoodIn wsX4_disc wsX2_leastOfDisc := goodIn_r _ [36, 13, 37, 38, 31, 39, 14, 15, 11, 16, 46, 47, 48, 49, 50, 51, 52, 53, 54, 55, 56, 57, 58] (by decide +kernel) (by decide +kernel)
set_option maxRecDepth 20000 in
theorem gX4_disc_X2_leastOfDisc : GoodIn wsX4_disc (wsV RX4 147 RX2 yX2_leastOfDisc wsX2_leastOfDisc) := goodIn_app (goodIn_of _ (by decide +kernel)) ggX4_disc_X2_leastOfDisc
set_option maxRecDepth 20000 in
theorem ggX4_spark_X2_logIndexOf : GoodIn wsX4_spark wsX2_logIndexOf := goodIn_r _ [9, 10, 11, 12, 13] (by decide +kernel) (by decide +kernel)
set_option maxRecDepth 20000 in
theorem gX4_spark_X2_logIndexOf : GoodIn wsX4_spark (va_wsS RX4 162 yX2_logIndexOf wsX2_logIndexOf) := goodIn_app (goodIn_of _ (by decide +kernel)) ggX4_spark_X2_logIndexOf
set_option maxRecDepth 20000 in
theorem ggX4_count_X2_sign : GoodIn wsX4_count wsX2_sign := goodIn_r _ [18, 19, 20, 21, 22, 23, 42, 43, 44, 45, 46, 47, 48, 49, 50, 51, 52, 53, 54] (by decide +kernel) (by decide +kernel)
set_option maxRecDepth 20000 in
theorem gX4_count_X2_sign : GoodIn wsX4_count (wsV RX4 168 RX2 yX2_sign wsX2_sign) := goodIn_app (goodIn_of _ (by decide +kernel)) ggX4_count_X2_sign
set_option maxRecDepth 20000 in
theorem ggX4_count_X2_chargeOfAll : GoodIn wsX4_count wsX2_chargeOfAll := goodIn_r _ [27, 19, 28, 29, 30, 17, 31, 32, 33, 34, 35, 42, 43, 44, 45, 46, 47, 48, 49, 50, 51, 52, 53, 54] (by decide +kernel) (by decide +kernel)
set_option maxRecDepth 20000 in
theorem gX4_count_X2_chargeOfAll : GoodIn wsX4_count (wsV RX4 171 RX2 yX2_chargeOfAll wsX2_chargeOfAll) := goodIn_app (goodIn_of _ (by decide +kernel)) ggX4_count_X2_chargeOfAll
set_option maxRecDepth 20000 in
theorem ggX4_untilSpark_X2_become : GoodIn wsX4_untilSpark wsX2_become := goodIn_r _ [7, 8, 9, 10, 11, 12, 13, 14, 15, 16, 17, 18, 19, 20, 21, 22, 23, 24, 25, 26, 27, 28, 29, 30, 31, 88, 89, 90, 91, 92, 93, 94, 95, 96, 97, 98, 99, 100] (by decide +kernel) (by decide +kernel)
set_option maxRecDepth 20000 in
theorem gX4_untilSpark_X2_become : GoodIn wsX4_untilSpark (wsV RX4 189 RX2 yX2_become wsX2_become) := goodIn_app (goodIn_of _ (by decide +kernel)) ggX4_untilSpark_X2_become
set_option maxRecDepth 20000 in
theorem ggX4_untilSpark_X2_turnToSpark : GoodIn wsX4_untilSpark wsX2_turnToSpark := goodIn_r _ [35, 36, 37, 38, 39, 6, 40, 14, 41, 42, 43, 44, 9, 8, 45, 46, 26, 47, 48, 25, 27, 49, 50, 51, 52, 53, 54, 55, 56, 22, 57, 24, 58, 59, 60, 61, 62, 10, 11, 63, 64, 65, 66, 18, 67, 68, 69, 70, 12, 71, 72, 73, 74, 75, 76, 77, 78, 79, 80, 81, 88, 89, 90, 91, 92, 93, 94, 95, 96, 97, 98, 99, 100] (by decide +kernel) (by decide +kernel)
set_option maxRecDepth 20000 in
theorem gX4_untilSpark_X2_turnToSpark : GoodIn wsX4_untilSpark (wsV RX4 192 RX2 yX2_turnToSpark wsX2_turnToSpark) := goodIn_app (goodIn_of _ (by decide +kernel)) ggX4_untilSpark_X2_turnToSpark
set_option maxRecDepth 20000 in
theorem ggX4_ifTurned_X2_become : GoodIn wsX4_ifTurned wsX2_become := goodIn_r _ [11, 12, 13, 14, 15, 16, 17, 18, 19, 20, 21, 22, 23, 24, 25, 26, 27, 28, 29, 30, 31, 32, 33, 34, 35, 125, 126, 127, 128, 129, 130, 131, 132, 133, 134, 135, 136, 137] (by decide +kernel) (by decide +kernel)
set_option maxRecDepth 20000 in
theorem gX4_ifTurned_X2_become : GoodIn wsX4_ifTurned (wsV RX4 189 RX2 yX2_become wsX2_become) := goodIn_app (goodIn_of _ (by decide +kernel)) ggX4_ifTurned_X2_become
set_option maxRecDepth 20000 in
theorem ggX4_ifTurned_X2_turnToGreatestDifference : GoodIn wsX4_ifTurned wsX2_turnToGreatestDifference := goodIn_r _ [39, 40, 41, 30, 42, 43, 44, 45, 10, 46, 47, 48, 49, 50, 18, 51, 52, 53, 54, 13, 12, 55, 29, 31, 56, 57, 58, 59, 60, 61, 62, 63, 26, 64, 28, 65, 66, 67, 68, 69, 14, 15, 70, 71, 72, 73, 22, 74, 75, 76, 77, 16, 78, 79, 80, 81, 82, 83, 84, 85, 86, 87, 88, 89, 90, 91, 92, 19, 17, 93, 94, 95, 96, 97, 98, 99, 21, 20, 100, 101, 102, 103, 104, 105, 106, 107, 125, 126, 127, 128, 129, 130, 131, 132, 133, 134, 135, 136, 137] (by decide +kernel) (by decide +kernel)
set_option maxRecDepth 20000 in
theorem gX4_ifTurned_X2_turnToGreatestDifference : GoodIn wsX4_ifTurned (wsV RX4 195 RX2 yX2_turnToGreatestDifference wsX2_turnToGreatestDifference) := goodIn_app (goodIn_of _ (by decide +kernel)) ggX4_ifTurned_X2_turnToGreatestDifference
set_option maxRecDepth 20000 in
theorem ggX4_ifTurned_X2_chargeOfAll : GoodIn wsX4_ifTurned wsX2_chargeOfAll := goodIn_r _ [111, 14, 112, 113, 114, 10, 115, 13, 116, 117, 118, 125, 126, 127, 128, 129, 130, 131, 132, 133, 134, 135, 136, 137] (by decide +kernel) (by decide +kernel)
set_option maxRecDepth 20000 in
theorem gX4_ifTurned_X2_chargeOfAll : GoodIn wsX4_ifTurned (wsV RX4 171 RX2 yX2_chargeOfAll wsX2_chargeOfAll) := goodIn_app (goodIn_of _ (by decide +kernel)) ggX4_ifTurned_X2_chargeOfAll
set_option maxRecDepth 20000 in
theorem ggX4_widestGap_X2_become : GoodIn wsX4_widestGap wsX2_become := goodIn_r _ [17, 18, 19, 20, 21, 22, 23, 24, 25, 26, 27, 28, 29, 30, 31, 32, 33, 8, 9, 5, 10, 34, 35, 36, 37, 82, 83, 84, 85, 86, 87, 88, 89, 90, 91, 92, 93, 94] (by decide +kernel) (by decide +kernel)
set_option maxRecDepth 20000 in
theorem gX4_widestGap_X2_become : GoodIn wsX4_widestGap (wsV RX4 189 RX2 yX2_become wsX2_become) := goodIn_app (goodIn_of _ (by decide +kernel)) ggX4_widestGap_X2_become
set_option maxRecDepth 20000 in
theorem ggX4_widestGap_X2_turnAheadOfSpark : GoodIn wsX4_widestGap wsX2_turnAheadOfSpark := goodIn_r _ [41, 24, 42, 43, 44, 16, 45, 19, 18, 46, 4, 5, 6, 47, 9, 10, 48, 49, 50, 51, 52, 53, 54, 55, 32, 56, 8, 3, 57, 58, 59, 60, 20, 21, 61, 62, 63, 64, 28, 65, 66, 67, 68, 22, 82, 83, 84, 85, 86, 87, 88, 89, 90, 91, 92, 93, 94] (by decide +kernel) (by decide +kernel)
set_option maxRecDepth 20000 in
theorem gX4_widestGap_X2_turnAheadOfSpark : GoodIn wsX4_widestGap (wsV RX4 198 RX2 yX2_turnAheadOfSpark wsX2_turnAheadOfSpark) := goodIn_app (goodIn_of _ (by decide +kernel)) ggX4_widestGap_X2_turnAheadOfSpark
set_option maxRecDepth 20000 in
theorem ggX4_widestGap_X2_difference : GoodIn wsX4_widestGap wsX2_difference := goodIn_r _ [72, 20, 73, 74, 5, 75, 82, 83, 84, 85, 86, 87, 88, 89, 90, 91, 92, 93, 94] (by decide +kernel) (by decide +kernel)
set_option maxRecDepth 20000 in
theorem gX4_widestGap_X2_difference : GoodIn wsX4_widestGap (wsV RX4 201 RX2 yX2_difference wsX2_difference) := goodIn_app (goodIn_of _ (by decide +kernel)) ggX4_widestGap_X2_difference
set_option maxRecDepth 20000 in
theorem ggX4_mostDamp_X2_become : GoodIn wsX4_mostDamp wsX2_become := goodIn_r _ [11, 12, 13, 14, 15, 16, 17, 18, 19, 20, 21, 22, 23, 24, 25, 26, 27, 28, 29, 30, 31, 32, 33, 34, 35, 92, 93, 94, 95, 96, 97, 98, 99, 100, 101, 102, 103, 104] (by decide +kernel) (by decide +kernel)
set_option maxRecDepth 20000 in
theorem gX4_mostDamp_X2_become : GoodIn wsX4_mostDamp (wsV RX4 189 RX2 yX2_become wsX2_become) := goodIn_app (goodIn_of _ (by decide +kernel)) ggX4_mostDamp_X2_become
set_option maxRecDepth 20000 in
theorem ggX4_mostDamp_X2_turnToSpark : GoodIn wsX4_mostDamp wsX2_turnToSpark := goodIn_r _ [39, 40, 41, 42, 43, 10, 44, 18, 45, 46, 47, 48, 13, 12, 49, 50, 30, 51, 52, 29, 31, 53, 54, 55, 56, 57, 58, 59, 60, 26, 61, 28, 62, 63, 64, 65, 66, 14, 15, 67, 68, 69, 70, 22, 71, 72, 73, 74, 16, 75, 76, 77, 78, 79, 80, 81, 82, 83, 84, 85, 92, 93, 94, 95, 96, 97, 98, 99, 100, 101, 102, 103, 104] (by decide +kernel) (by decide +kernel)
set_option maxRecDepth 20000 in
theorem gX4_mostDamp_X2_turnToSpark : GoodIn wsX4_mostDamp (wsV RX4 192 RX2 yX2_turnToSpark wsX2_turnToSpark) := goodIn_app (goodIn_of _ (by decide +kernel)) ggX4_mostDamp_X2_turnToSpark
set_option maxRecDepth 20000 in
theorem ggX4_put_X4_charactersIn : GoodIn wsX4_put wsX4_charactersIn := goodIn_r _ [8, 9] (by decide +kernel) (by decide +kernel)
set_option maxRecDepth 20000 in
theorem gX4_put_X4_charactersIn : GoodIn wsX4_put (va_wsS RX4 212 yX4_charactersIn wsX4_charactersIn) := goodIn_app (goodIn_of _ (by decide +kernel)) ggX4_put_X4_charactersIn
set_option maxRecDepth 20000 in
theorem ggX4_put_X3_append : GoodIn wsX4_put wsX3_append := goodIn_r _ [14, 15, 16, 17, 24, 25] (by decide +kernel) (by decide +kernel)
set_option maxRecDepth 20000 in
theorem gX4_put_X3_append : GoodIn wsX4_put (wsV RX4 216 RX3 yX3_append wsX3_append) := goodIn_app (goodIn_of _ (by decide +kernel)) ggX4_put_X3_append
set_option maxRecDepth 20000 in
theorem ggX4_wipe_X3_clear : GoodIn wsX4_wipe wsX3_clear := goodIn_r _ [7, 8, 15, 16] (by decide +kernel) (by decide +kernel)
set_option maxRecDepth 20000 in
theorem gX4_wipe_X3_clear : GoodIn wsX4_wipe (wsV RX4 111 RX3 yX3_clear wsX3_clear) := goodIn_app (goodIn_of _ (by decide +kernel)) ggX4_wipe_X3_clear
set_option maxRecDepth 20000 in
theorem ggX4_fault_X0_findFault : GoodIn wsX4_fault wsX0_findFault := goodIn_r _ [6, 7, 8, 9, 10, 11, 12, 13, 5, 14, 15, 16, 17, 18, 19, 20, 21, 22, 23, 24, 25, 26, 27, 28, 29, 30, 31, 32, 33, 34, 35, 36, 37, 38, 39, 40, 41, 42, 43, 44, 45, 46, 47, 48, 49, 56, 57, 58, 59, 60, 61, 62, 63] (by decide +kernel) (by decide +kernel)
set_option maxRecDepth 20000 in
theorem gX4_fault_X0_findFault : GoodIn wsX4_fault (wsV RX4 88 RX0 yX0_findFault wsX0_findFault) := goodIn_app (goodIn_of _ (by decide +kernel)) ggX4_fault_X0_findFault
set_option maxRecDepth 20000 in
theorem ggX4_undo_X1_takeBack : GoodIn wsX4_undo wsX1_takeBack := goodIn_r _ [9, 10, 11, 12, 13, 14, 15, 16, 17, 18, 19, 20, 21, 22, 23, 24, 25, 26, 27, 28, 29, 30, 31, 32, 33, 34, 35, 36, 37, 38, 39, 40, 41, 42, 43, 44, 45, 52, 53, 54, 55, 56, 57, 58, 59, 60, 61, 62, 63, 64, 65, 66, 67] (by decide +kernel) (by decide +kernel)
set_option maxRecDepth 20000 in
theorem gX4_undo_X1_takeBack : GoodIn wsX4_undo (wsV RX4 220 RX1 yX1_takeBack wsX1_takeBack) := goodIn_app (goodIn_of _ (by decide +kernel)) ggX4_undo_X1_takeBack
set_option maxRecDepth 20000 in
theorem ggX4_save_X2_init : GoodIn wsX4_save wsX2_init := goodIn_r _ [9, 10, 11, 12, 13, 14, 15, 16, 17, 18, 19, 48, 49, 50, 51, 52, 53, 54, 55, 56, 57, 58, 59, 60] (by decide +kernel) (by decide +kernel)
set_option maxRecDepth 20000 in
theorem gX4_save_X2_init_n9 : GoodIn wsX4_save (wsX2_init) := ggX4_save_X2_init
set_option maxRecDepth 20000 in
theorem ggX4_save_X2_become : GoodIn wsX4_save wsX2_become := goodIn_r _ [23, 14, 15, 16, 17, 18, 19, 24, 25, 26, 27, 28, 29, 30, 31, 32, 33, 34, 35, 36, 37, 38, 39, 40, 41, 48, 49, 50, 51, 52, 53, 54, 55, 56, 57, 58, 59, 60] (by decide +kernel) (by decide +kernel)
set_option maxRecDepth 20000 in
theorem gX4_save_X2_become : GoodIn wsX4_save (wsV RX4 189 RX2 yX2_become wsX2_become) := goodIn_app (goodIn_of _ (by decide +kernel)) ggX4_save_X2_become
set_option maxRecDepth 20000 in
theorem ggX4_restore_X1_record : GoodIn wsX4_restore wsX1_record := goodIn_r _ [11, 12, 13, 14, 15, 16, 17, 18, 19, 20, 21, 22, 23, 24, 25, 26, 27, 28, 29, 30, 31, 32, 33, 34, 35, 36, 37, 38, 39, 40, 41, 42, 43, 44, 45, 46, 47, 48, 49, 50, 51, 52, 53, 54, 55, 76, 77, 78, 63, 64, 65, 66, 67, 68, 69, 70, 71, 72, 73, 74, 75] (by decide +kernel) (by decide +kernel)
set_option maxRecDepth 20000 in
theorem gX4_restore_X1_record : GoodIn wsX4_restore (wsV RX4 55 RX1 yX1_record wsX1_record) := goodIn_app (goodIn_of _ (by decide +kernel)) ggX4_restore_X1_record
set_option maxRecDepth 20000 in
theorem ggX4_restore_X2_become : GoodIn wsX4_restore wsX2_become := goodIn_r _ [37, 28, 29, 30, 31, 32, 33, 38, 39, 40, 41, 42, 43, 44, 45, 46, 47, 48, 49, 50, 51, 52, 53, 54, 55, 63, 64, 65, 66, 67, 68, 69, 70, 71, 72, 73, 74, 75] (by decide +kernel) (by decide +kernel)
set_option maxRecDepth 20000 in
theorem gX4_restore_X2_become : GoodIn wsX4_restore (wsV RX4 189 RX2 yX2_become wsX2_become) := goodIn_app (goodIn_of _ (by decide +kernel)) ggX4_restore_X2_become
set_option maxRecDepth 20000 in
theorem ggX5_discsTurn_X5_cell : GoodIn wsX5_discsTurn wsX5_cell := goodIn_r _ [5] (by decide +kernel) (by decide +kernel)
set_option maxRecDepth 20000 in
theorem gX5_discsTurn_X5_cell : GoodIn wsX5_discsTurn (va_wsS RX5 32 yX5_cell wsX5_cell) := goodIn_app (goodIn_of _ (by decide +kernel)) ggX5_discsTurn_X5_cell
set_option maxRecDepth 20000 in
theorem ggX5_joins_X5_cell : GoodIn wsX5_joins wsX5_cell := goodIn_r _ [5] (by decide +kernel) (by decide +kernel)
set_option maxRecDepth 20000 in
theorem gX5_joins_X5_cell : GoodIn wsX5_joins (va_wsS RX5 32 yX5_cell wsX5_cell) := goodIn_app (goodIn_of _ (by decide +kernel)) ggX5_joins_X5_cell
set_option maxRecDepth 20000 in
theorem ggX5_joins_X5_cut : GoodIn wsX5_joins wsX5_cut := goodIn_r _ [8] (by decide +kernel) (by decide +kernel)
set_option maxRecDepth 20000 in
theorem gX5_joins_X5_cut : GoodIn wsX5_joins (va_wsS RX5 36 yX5_cut wsX5_cut) := goodIn_app (goodIn_of _ (by decide +kernel)) ggX5_joins_X5_cut
set_option maxRecDepth 20000 in
theorem ggX5_takes_X5_cell : GoodIn wsX5_takes wsX5_cell := goodIn_r _ [5] (by decide +kernel) (by decide +kernel)
set_option maxRecDepth 20000 in
theorem gX5_takes_X5_cell : GoodIn wsX5_takes (va_wsS RX5 32 yX5_cell wsX5_cell) := goodIn_app (goodIn_of _ (by decide +kernel)) ggX5_takes_X5_cell
set_option maxRecDepth 20000 in
theorem ggX5_takes_X5_cut : GoodIn wsX5_takes wsX5_cut := goodIn_r _ [8] (by decide +kernel) (by decide +kernel)
set_option maxRecDepth 20000 in
theorem gX5_takes_X5_cut : GoodIn wsX5_takes (va_wsS RX5 36 yX5_cut wsX5_cut) := goodIn_app (goodIn_of _ (by decide +kernel)) ggX5_takes_X5_cut
set_option maxRecDepth 20000 in
theorem ggX5_sparks_X5_difference : GoodIn wsX5_sparks wsX5_difference := goodIn_r _ [6, 1, 11, 12, 13, 14, 15, 16, 17, 18, 19, 20, 21, 22, 23] (by decide +kernel) (by decide +kernel)
set_option maxRecDepth 20000 in
theorem gX5_sparks_X5_difference : GoodIn wsX5_sparks (wsV RX5 40 RX5 yX5_difference wsX5_difference) := goodIn_app (goodIn_of _ (by decide +kernel)) ggX5_sparks_X5_difference
set_option maxRecDepth 20000 in
theorem ggX5_sparks_X5_logs : GoodIn wsX5_sparks wsX5_logs := goodIn_r _ [10, 1, 11, 12, 13, 14, 15, 16, 17, 18, 19, 20, 21, 22, 23] (by decide +kernel) (by decide +kernel)
set_option maxRecDepth 20000 in
theorem gX5_sparks_X5_logs : GoodIn wsX5_sparks (wsV RX5 44 RX5 yX5_logs wsX5_logs) := goodIn_app (goodIn_of _ (by decide +kernel)) ggX5_sparks_X5_logs
set_option maxRecDepth 20000 in
theorem ggX5_charges_X5_discsTurn : GoodIn wsX5_charges wsX5_discsTurn := goodIn_r _ [6, 1, 7, 8, 5, 9, 25, 26, 27, 28, 29, 30, 31, 32, 33, 34, 35, 36, 37] (by decide +kernel) (by decide +kernel)
set_option maxRecDepth 20000 in
theorem gX5_charges_X5_discsTurn : GoodIn wsX5_charges (wsV RX5 47 RX5 yX5_discsTurn wsX5_discsTurn) := goodIn_app (goodIn_of _ (by decide +kernel)) ggX5_charges_X5_discsTurn
set_option maxRecDepth 20000 in
theorem ggX5_charges_X5_joins : GoodIn wsX5_charges wsX5_joins := goodIn_r _ [13, 1, 7, 8, 5, 9, 14, 15, 16, 25, 26, 27, 28, 29, 30, 31, 32, 33, 34, 35, 36, 37] (by decide +kernel) (by decide +kernel)
set_option maxRecDepth 20000 in
theorem gX5_charges_X5_joins : GoodIn wsX5_charges (wsV RX5 50 RX5 yX5_joins wsX5_joins) := goodIn_app (goodIn_of _ (by decide +kernel)) ggX5_charges_X5_joins
set_option maxRecDepth 20000 in
theorem ggX5_charges_X5_takes : GoodIn wsX5_charges wsX5_takes := goodIn_r _ [20, 1, 7, 8, 5, 9, 14, 15, 16, 25, 26, 27, 28, 29, 30, 31, 32, 33, 34, 35, 36, 37] (by decide +kernel) (by decide +kernel)
set_option maxRecDepth 20000 in
theorem gX5_charges_X5_takes : GoodIn wsX5_charges (wsV RX5 54 RX5 yX5_takes wsX5_takes) := goodIn_app (goodIn_of _ (by decide +kernel)) ggX5_charges_X5_takes
set_option maxRecDepth 20000 in
theorem ggX5_charges_X5_leaks : GoodIn wsX5_charges wsX5_leaks := goodIn_r _ [24, 1, 25, 26, 27, 28, 29, 30, 31, 32, 33, 34, 35, 36, 37] (by decide +kernel) (by decide +kernel)
set_option maxRecDepth 20000 in
theorem gX5_charges_X5_leaks : GoodIn wsX5_charges (wsV RX5 58 RX5 yX5_leaks wsX5_leaks) := goodIn_app (goodIn_of _ (by decide +kernel)) ggX5_charges_X5_leaks
set_option maxRecDepth 20000 in
theorem ggX5_turns_X5_charges : GoodIn wsX5_turns wsX5_charges := goodIn_r _ [6, 1, 7, 8, 9, 5, 10, 11, 12, 13, 14, 15, 16, 17, 18, 19, 20, 21, 22, 23, 24, 25, 26, 27, 28, 45, 46, 47, 48, 49, 50, 51, 52, 53, 54, 55, 56, 57] (by decide +kernel) (by decide +kernel)
set_option maxRecDepth 20000 in
theorem gX5_turns_X5_charges : GoodIn wsX5_turns (wsV RX5 61 RX5 yX5_charges wsX5_charges) := goodIn_app (goodIn_of _ (by decide +kernel)) ggX5_turns_X5_charges
set_option maxRecDepth 20000 in
theorem ggX5_turns_X5_sparks : GoodIn wsX5_turns wsX5_sparks := goodIn_r _ [32, 1, 33, 34, 35, 5, 36, 37, 38, 39, 40, 45, 46, 47, 48, 49, 50, 51, 52, 53, 54, 55, 56, 57] (by decide +kernel) (by decide +kernel)
set_option maxRecDepth 20000 in
theorem gX5_turns_X5_sparks : GoodIn wsX5_turns (wsV RX5 64 RX5 yX5_sparks wsX5_sparks) := goodIn_app (goodIn_of _ (by decide +kernel)) ggX5_turns_X5_sparks
set_option maxRecDepth 20000 in
theorem ggX5_turns_X5_sign : GoodIn wsX5_turns wsX5_sign := goodIn_r _ [44, 1, 45, 46, 47, 48, 49, 50, 51, 52, 53, 54, 55, 56, 57] (by decide +kernel) (by decide +kernel)
set_option maxRecDepth 20000 in
theorem gX5_turns_X5_sign : GoodIn wsX5_turns (wsV RX5 67 RX5 yX5_sign wsX5_sign) := goodIn_app (goodIn_of _ (by decide +kernel)) ggX5_turns_X5_sign
set_option maxRecDepth 20000 in
theorem ggX5_turned_X5_turns : GoodIn wsX5_turned wsX5_turns := goodIn_r _ [6, 1, 7, 8, 9, 5, 10, 11, 12, 13, 14, 15, 16, 17, 18, 19, 20, 21, 22, 23, 24, 25, 26, 27, 28, 29, 30, 31, 32, 33, 34, 35, 36, 37, 38, 39, 40, 41, 42, 43, 44, 45, 46, 47, 48, 49, 50, 51, 52, 53, 54, 55, 56, 57, 58, 59, 60, 61] (by decide +kernel) (by decide +kernel)
set_option maxRecDepth 20000 in
theorem gX5_turned_X5_turns : GoodIn wsX5_turned (wsV RX5 70 RX5 yX5_turns wsX5_turns) := goodIn_app (goodIn_of _ (by decide +kernel)) ggX5_turned_X5_turns
set_option maxRecDepth 20000 in
theorem ggX5_isSetting_X5_in : GoodIn wsX5_isSetting wsX5_in := goodIn_r _ [9] (by decide +kernel) (by decide +kernel)
set_option maxRecDepth 20000 in
theorem gX5_isSetting_X5_in : GoodIn wsX5_isSetting (va_wsS RX5 75 yX5_in wsX5_in) := goodIn_app (goodIn_of _ (by decide +kernel)) ggX5_isSetting_X5_in
set_option maxRecDepth 20000 in
theorem ggX5_set_X5_isSetting : GoodIn wsX5_set wsX5_isSetting := goodIn_r _ [8, 9, 10, 11, 12, 13, 14, 15, 7, 16] (by decide +kernel) (by decide +kernel)
set_option maxRecDepth 20000 in
theorem gX5_set_X5_isSetting : GoodIn wsX5_set (wsV RX5 87 RX5 yX5_isSetting wsX5_isSetting) := goodIn_app (goodIn_of _ (by decide +kernel)) ggX5_set_X5_isSetting
set_option maxRecDepth 20000 in
theorem ggX5_set_X5_in : GoodIn wsX5_set wsX5_in := goodIn_r _ [16] (by decide +kernel) (by decide +kernel)
set_option maxRecDepth 20000 in
theorem gX5_set_X5_in : GoodIn wsX5_set (va_wsS RX5 75 yX5_in wsX5_in) := goodIn_app (goodIn_of _ (by decide +kernel)) ggX5_set_X5_in
set_option maxRecDepth 20000 in
theorem ggX5_set_X5_changes : GoodIn wsX5_set wsX5_changes := goodIn_r _ [20, 21, 22, 2, 23, 24, 25, 26, 27, 28, 29, 30, 31, 32, 33, 34, 35] (by decide +kernel) (by decide +kernel)
set_option maxRecDepth 20000 in
theorem gX5_set_X5_changes : GoodIn wsX5_set (wsV RX5 93 RX5 yX5_changes wsX5_changes) := goodIn_app (goodIn_of _ (by decide +kernel)) ggX5_set_X5_changes
set_option maxRecDepth 20000 in
theorem ggX5_isPlace_X5_in : GoodIn wsX5_isPlace wsX5_in := goodIn_r _ [5] (by decide +kernel) (by decide +kernel)
set_option maxRecDepth 20000 in
theorem gX5_isPlace_X5_in : GoodIn wsX5_isPlace (va_wsS RX5 75 yX5_in wsX5_in) := goodIn_app (goodIn_of _ (by decide +kernel)) ggX5_isPlace_X5_in
set_option maxRecDepth 20000 in
theorem ggX5_touches_X5_cell : GoodIn wsX5_touches wsX5_cell := goodIn_r _ [5] (by decide +kernel) (by decide +kernel)
set_option maxRecDepth 20000 in
theorem gX5_touches_X5_cell : GoodIn wsX5_touches (va_wsS RX5 32 yX5_cell wsX5_cell) := goodIn_app (goodIn_of _ (by decide +kernel)) ggX5_touches_X5_cell
set_option maxRecDepth 20000 in
theorem ggX5_touch_X5_isDisc : GoodIn wsX5_touch wsX5_isDisc := goodIn_r _ [9] (by decide +kernel) (by decide +kernel)
set_option maxRecDepth 20000 in
theorem gX5_touch_X5_isDisc : GoodIn wsX5_touch (va_wsS RX5 98 yX5_isDisc wsX5_isDisc) := goodIn_app (goodIn_of _ (by decide +kernel)) ggX5_touch_X5_isDisc
set_option maxRecDepth 20000 in
theorem ggX5_touch_X5_isPlace : GoodIn wsX5_touch wsX5_isPlace := goodIn_r _ [12, 13, 14, 15, 8, 16] (by decide +kernel) (by decide +kernel)
set_option maxRecDepth 20000 in
theorem gX5_touch_X5_isPlace : GoodIn wsX5_touch (va_wsS RX5 102 yX5_isPlace wsX5_isPlace) := goodIn_app (goodIn_of _ (by decide +kernel)) ggX5_touch_X5_isPlace
set_option maxRecDepth 20000 in
theorem ggX5_touch_X5_in : GoodIn wsX5_touch wsX5_in := goodIn_r _ [16] (by decide +kernel) (by decide +kernel)
set_option maxRecDepth 20000 in
theorem gX5_touch_X5_in : GoodIn wsX5_touch (va_wsS RX5 75 yX5_in wsX5_in) := goodIn_app (goodIn_of _ (by decide +kernel)) ggX5_touch_X5_in
set_option maxRecDepth 20000 in
theorem ggX5_touch_X5_changes : GoodIn wsX5_touch wsX5_changes := goodIn_r _ [20, 21, 22, 5, 30, 31, 32, 33, 34, 35, 36, 37, 38, 39, 40, 41, 42] (by decide +kernel) (by decide +kernel)
set_option maxRecDepth 20000 in
theorem gX5_touch_X5_changes : GoodIn wsX5_touch (wsV RX5 93 RX5 yX5_changes wsX5_changes) := goodIn_app (goodIn_of _ (by decide +kernel)) ggX5_touch_X5_changes
set_option maxRecDepth 20000 in
theorem ggX5_touch_X5_cell : GoodIn wsX5_touch wsX5_cell := goodIn_r _ [25] (by decide +kernel) (by decide +kernel)
set_option maxRecDepth 20000 in
theorem gX5_touch_X5_cell : GoodIn wsX5_touch (va_wsS RX5 32 yX5_cell wsX5_cell) := goodIn_app (goodIn_of _ (by decide +kernel)) ggX5_touch_X5_cell
set_option maxRecDepth 20000 in
theorem ggX5_touch_X5_touches : GoodIn wsX5_touch wsX5_touches := goodIn_r _ [29, 5, 23, 24, 8, 25, 30, 31, 32, 33, 34, 35, 36, 37, 38, 39, 40, 41, 42] (by decide +kernel) (by decide +kernel)
set_option maxRecDepth 20000 in
theorem gX5_touch_X5_touches : GoodIn wsX5_touch (wsV RX5 110 RX5 yX5_touches wsX5_touches) := goodIn_app (goodIn_of _ (by decide +kernel)) ggX5_touch_X5_touches
set_option maxRecDepth 20000 in
theorem ggX5_turn_X5_in : GoodIn wsX5_turn wsX5_in := goodIn_r _ [9] (by decide +kernel) (by decide +kernel)
set_option maxRecDepth 20000 in
theorem gX5_turn_X5_in : GoodIn wsX5_turn (va_wsS RX5 75 yX5_in wsX5_in) := goodIn_app (goodIn_of _ (by decide +kernel)) ggX5_turn_X5_in
set_option maxRecDepth 20000 in
theorem ggX5_turn_X5_changes : GoodIn wsX5_turn wsX5_changes := goodIn_r _ [13, 14, 15, 3, 66, 67, 68, 69, 70, 71, 72, 73, 74, 75, 76, 77, 78] (by decide +kernel) (by decide +kernel)
set_option maxRecDepth 20000 in
theorem gX5_turn_X5_changes : GoodIn wsX5_turn (wsV RX5 93 RX5 yX5_changes wsX5_changes) := goodIn_app (goodIn_of _ (by decide +kernel)) ggX5_turn_X5_changes
set_option maxRecDepth 20000 in
theorem ggX5_turn_X5_turned : GoodIn wsX5_turn wsX5_turned := goodIn_r _ [19, 3, 20, 21, 22, 8, 23, 24, 25, 26, 27, 28, 29, 30, 31, 32, 33, 34, 35, 36, 37, 38, 39, 40, 41, 42, 43, 44, 45, 46, 47, 48, 49, 50, 51, 52, 53, 54, 55, 56, 57, 58, 59, 60, 61, 62, 63, 64, 65, 66, 67, 68, 69, 70, 71, 72, 73, 74, 75, 76, 77, 78] (by decide +kernel) (by decide +kernel)
set_option maxRecDepth 20000 in
theorem gX5_turn_X5_turned : GoodIn wsX5_turn (wsV RX5 115 RX5 yX5_turned wsX5_turned) := goodIn_app (goodIn_of _ (by decide +kernel)) ggX5_turn_X5_turned
set_option maxRecDepth 20000 in
theorem ggX5_discharges_X5_difference : GoodIn wsX5_discharges wsX5_difference := goodIn_r _ [6, 1, 7, 8, 9, 10, 11, 12, 13, 14, 15, 16, 17, 18, 19] (by decide +kernel) (by decide +kernel)
set_option maxRecDepth 20000 in
theorem gX5_discharges_X5_difference : GoodIn wsX5_discharges (wsV RX5 40 RX5 yX5_difference wsX5_difference) := goodIn_app (goodIn_of _ (by decide +kernel)) ggX5_discharges_X5_difference
set_option maxRecDepth 20000 in
theorem ggX5_discharge_X5_changes : GoodIn wsX5_discharge wsX5_changes := goodIn_r _ [5, 6, 7, 8, 17, 18, 19, 20, 21, 22, 23, 24, 25, 26, 27, 28, 29] (by decide +kernel) (by decide +kernel)
set_option maxRecDepth 20000 in
theorem gX5_discharge_X5_changes : GoodIn wsX5_discharge (wsV RX5 93 RX5 yX5_changes wsX5_changes) := goodIn_app (goodIn_of _ (by decide +kernel)) ggX5_discharge_X5_changes
set_option maxRecDepth 20000 in
theorem ggX5_discharge_X5_discharges : GoodIn wsX5_discharge wsX5_discharges := goodIn_r _ [12, 8, 13, 14, 15, 4, 16, 17, 18, 19, 20, 21, 22, 23, 24, 25, 26, 27, 28, 29] (by decide +kernel) (by decide +kernel)
set_option maxRecDepth 20000 in
theorem gX5_discharge_X5_discharges : GoodIn wsX5_discharge (wsV RX5 119 RX5 yX5_discharges wsX5_discharges) := goodIn_app (goodIn_of _ (by decide +kernel)) ggX5_discharge_X5_discharges
set_option maxRecDepth 20000 in
theorem ggX5_wipeDisc_X5_isDisc : GoodIn wsX5_wipeDisc wsX5_isDisc := goodIn_r _ [6] (by decide +kernel) (by decide +kernel)
set_option maxRecDepth 20000 in
theorem gX5_wipeDisc_X5_isDisc : GoodIn wsX5_wipeDisc (va_wsS RX5 98 yX5_isDisc wsX5_isDisc) := goodIn_app (goodIn_of _ (by decide +kernel)) ggX5_wipeDisc_X5_isDisc
set_option maxRecDepth 20000 in
theorem ggX5_wipeDisc_X5_changes : GoodIn wsX5_wipeDisc wsX5_changes := goodIn_r _ [10, 11, 12, 2, 16, 17, 18, 19, 20, 21, 22, 23, 24, 25, 26, 27, 28] (by decide +kernel) (by decide +kernel)
set_option maxRecDepth 20000 in
theorem gX5_wipeDisc_X5_changes : GoodIn wsX5_wipeDisc (wsV RX5 93 RX5 yX5_changes wsX5_changes) := goodIn_app (goodIn_of _ (by decide +kernel)) ggX5_wipeDisc_X5_changes
set_option maxRecDepth 20000 in
theorem ggX5_wipeDisc_X5_cell : GoodIn wsX5_wipeDisc wsX5_cell := goodIn_r _ [15] (by decide +kernel) (by decide +kernel)
set_option maxRecDepth 20000 in
theorem gX5_wipeDisc_X5_cell : GoodIn wsX5_wipeDisc (va_wsS RX5 32 yX5_cell wsX5_cell) := goodIn_app (goodIn_of _ (by decide +kernel)) ggX5_wipeDisc_X5_cell
set_option maxRecDepth 20000 in
theorem ggX5_sector_X5_isDisc : GoodIn wsX5_sector wsX5_isDisc := goodIn_r _ [6] (by decide +kernel) (by decide +kernel)
set_option maxRecDepth 20000 in
theorem gX5_sector_X5_isDisc : GoodIn wsX5_sector (va_wsS RX5 98 yX5_isDisc wsX5_isDisc) := goodIn_app (goodIn_of _ (by decide +kernel)) ggX5_sector_X5_isDisc
set_option maxRecDepth 20000 in
theorem ggX5_sector_X5_isPlace : GoodIn wsX5_sector wsX5_isPlace := goodIn_r _ [9, 10, 11, 12, 5, 13] (by decide +kernel) (by decide +kernel)
set_option maxRecDepth 20000 in
theorem gX5_sector_X5_isPlace : GoodIn wsX5_sector (va_wsS RX5 102 yX5_isPlace wsX5_isPlace) := goodIn_app (goodIn_of _ (by decide +kernel)) ggX5_sector_X5_isPlace
set_option maxRecDepth 20000 in
theorem ggX5_sector_X5_cell : GoodIn wsX5_sector wsX5_cell := goodIn_r _ [16] (by decide +kernel) (by decide +kernel)
set_option maxRecDepth 20000 in
theorem gX5_sector_X5_cell : GoodIn wsX5_sector (va_wsS RX5 32 yX5_cell wsX5_cell) := goodIn_app (goodIn_of _ (by decide +kernel)) ggX5_sector_X5_cell
set_option maxRecDepth 20000 in
theorem ggX5_disc_X5_isDisc : GoodIn wsX5_disc wsX5_isDisc := goodIn_r _ [7] (by decide +kernel) (by decide +kernel)
set_option maxRecDepth 20000 in
theorem gX5_disc_X5_isDisc : GoodIn wsX5_disc (va_wsS RX5 98 yX5_isDisc wsX5_isDisc) := goodIn_app (goodIn_of _ (by decide +kernel)) ggX5_disc_X5_isDisc
set_option maxRecDepth 20000 in
theorem ggX5_disc_X5_cell : GoodIn wsX5_disc wsX5_cell := goodIn_r _ [10] (by decide +kernel) (by decide +kernel)
set_option maxRecDepth 20000 in
theorem gX5_disc_X5_cell : GoodIn wsX5_disc (va_wsS RX5 32 yX5_cell wsX5_cell) := goodIn_app (goodIn_of _ (by decide +kernel)) ggX5_disc_X5_cell
set_option maxRecDepth 20000 in
theorem ggX5_jar_X5_isDisc : GoodIn wsX5_jar wsX5_isDisc := goodIn_r _ [8] (by decide +kernel) (by decide +kernel)
set_option maxRecDepth 20000 in
theorem gX5_jar_X5_isDisc : GoodIn wsX5_jar (va_wsS RX5 98 yX5_isDisc wsX5_isDisc) := goodIn_app (goodIn_of _ (by decide +kernel)) ggX5_jar_X5_isDisc
set_option maxRecDepth 20000 in
theorem ggX5_jar_X5_in : GoodIn wsX5_jar wsX5_in := goodIn_r _ [11] (by decide +kernel) (by decide +kernel)
set_option maxRecDepth 20000 in
theorem gX5_jar_X5_in : GoodIn wsX5_jar (va_wsS RX5 75 yX5_in wsX5_in) := goodIn_app (goodIn_of _ (by decide +kernel)) ggX5_jar_X5_in
set_option maxRecDepth 20000 in
theorem ggX5_spark_X5_in : GoodIn wsX5_spark wsX5_in := goodIn_r _ [8] (by decide +kernel) (by decide +kernel)
set_option maxRecDepth 20000 in
theorem gX5_spark_X5_in : GoodIn wsX5_spark (va_wsS RX5 75 yX5_in wsX5_in) := goodIn_app (goodIn_of _ (by decide +kernel)) ggX5_spark_X5_in
set_option maxRecDepth 20000 in
theorem ggX5_count_X5_sign : GoodIn wsX5_count wsX5_sign := goodIn_r _ [10, 1, 18, 19, 20, 21, 22, 23, 24, 25, 26, 27, 28, 29, 30] (by decide +kernel) (by decide +kernel)
set_option maxRecDepth 20000 in
theorem gX5_count_X5_sign : GoodIn wsX5_count (wsV RX5 67 RX5 yX5_sign wsX5_sign) := goodIn_app (goodIn_of _ (by decide +kernel)) ggX5_count_X5_sign
set_option maxRecDepth 20000 in
theorem ggX5_count_X5_allCharge : GoodIn wsX5_count wsX5_allCharge := goodIn_r _ [14, 1, 18, 19, 20, 21, 22, 23, 24, 25, 26, 27, 28, 29, 30] (by decide +kernel) (by decide +kernel)
set_option maxRecDepth 20000 in
theorem gX5_count_X5_allCharge : GoodIn wsX5_count (wsV RX5 125 RX5 yX5_allCharge wsX5_allCharge) := goodIn_app (goodIn_of _ (by decide +kernel)) ggX5_count_X5_allCharge
set_option maxRecDepth 20000 in
theorem ggX5_count_X5_in : GoodIn wsX5_count wsX5_in := goodIn_r _ [17] (by decide +kernel) (by decide +kernel)
set_option maxRecDepth 20000 in
theorem gX5_count_X5_in : GoodIn wsX5_count (va_wsS RX5 75 yX5_in wsX5_in) := goodIn_app (goodIn_of _ (by decide +kernel)) ggX5_count_X5_in
set_option maxRecDepth 20000 in
theorem ggX5_nextSpark_X5_keeps : GoodIn wsX5_nextSpark wsX5_keeps := goodIn_r _ [7, 8, 1, 59, 60, 61, 62, 63, 64, 65, 66, 67, 68, 69, 70, 71] (by decide +kernel) (by decide +kernel)
set_option maxRecDepth 20000 in
theorem gX5_nextSpark_X5_keeps : GoodIn wsX5_nextSpark (wsV RX5 133 RX5 yX5_keeps wsX5_keeps) := goodIn_app (goodIn_of _ (by decide +kernel)) ggX5_nextSpark_X5_keeps
set_option maxRecDepth 20000 in
theorem ggX5_nextSpark_X5_turns : GoodIn wsX5_nextSpark wsX5_turns := goodIn_r _ [12, 1, 13, 14, 15, 6, 16, 17, 18, 19, 20, 21, 22, 23, 24, 25, 26, 27, 28, 29, 30, 31, 32, 33, 34, 35, 36, 37, 38, 39, 40, 41, 42, 43, 44, 45, 46, 47, 48, 49, 50, 51, 52, 53, 54, 59, 60, 61, 62, 63, 64, 65, 66, 67, 68, 69, 70, 71] (by decide +kernel) (by decide +kernel)
set_option maxRecDepth 20000 in
theorem gX5_nextSpark_X5_turns : GoodIn wsX5_nextSpark (wsV RX5 70 RX5 yX5_turns wsX5_turns) := goodIn_app (goodIn_of _ (by decide +kernel)) ggX5_nextSpark_X5_turns
set_option maxRecDepth 20000 in
theorem ggX5_nextSpark_X5_comesBack : GoodIn wsX5_nextSpark wsX5_comesBack := goodIn_r _ [58, 1, 8, 59, 60, 61, 62, 63, 64, 65, 66, 67, 68, 69, 70, 71] (by decide +kernel) (by decide +kernel)
set_option maxRecDepth 20000 in
theorem gX5_nextSpark_X5_comesBack : GoodIn wsX5_nextSpark (wsV RX5 136 RX5 yX5_comesBack wsX5_comesBack) := goodIn_app (goodIn_of _ (by decide +kernel)) ggX5_nextSpark_X5_comesBack
set_option maxRecDepth 20000 in
theorem ggX5_untilSpark_X5_nextSpark : GoodIn wsX5_untilSpark wsX5_nextSpark := goodIn_r _ [5, 6, 7, 8, 9, 10, 4, 11, 12, 13, 14, 15, 16, 17, 18, 19, 20, 21, 22, 23, 24, 25, 26, 27, 28, 29, 30, 31, 32, 33, 34, 35, 36, 37, 38, 39, 40, 41, 42, 43, 44, 45, 46, 47, 48, 49, 50, 51, 52, 53, 54, 55, 56, 57, 58, 59, 60, 61, 62, 63, 64, 65, 66, 67, 68, 69, 70, 71, 72, 73, 74, 75] (by decide +kernel) (by decide +kernel)
set_option maxRecDepth 20000 in
theorem gX5_untilSpark_X5_nextSpark : GoodIn wsX5_untilSpark (wsV RX5 139 RX5 yX5_nextSpark wsX5_nextSpark) := goodIn_app (goodIn_of _ (by decide +kernel)) ggX5_untilSpark_X5_nextSpark
set_option maxRecDepth 20000 in
theorem ggX5_ifTurned_X5_in : GoodIn wsX5_ifTurned wsX5_in := goodIn_r _ [8] (by decide +kernel) (by decide +kernel)
set_option maxRecDepth 20000 in
theorem gX5_ifTurned_X5_in : GoodIn wsX5_ifTurned (va_wsS RX5 75 yX5_in wsX5_in) := goodIn_app (goodIn_of _ (by decide +kernel)) ggX5_ifTurned_X5_in
set_option maxRecDepth 20000 in
theorem ggX5_ifTurned_X5_keeps : GoodIn wsX5_ifTurned wsX5_keeps := goodIn_r _ [12, 13, 4, 72, 73, 74, 75, 76, 77, 78, 79, 80, 81, 82, 83, 84] (by decide +kernel) (by decide +kernel)
set_option maxRecDepth 20000 in
theorem gX5_ifTurned_X5_keeps : GoodIn wsX5_ifTurned (wsV RX5 133 RX5 yX5_keeps wsX5_keeps) := goodIn_app (goodIn_of _ (by decide +kernel)) ggX5_ifTurned_X5_keeps
set_option maxRecDepth 20000 in
theorem ggX5_ifTurned_X5_turned : GoodIn wsX5_ifTurned wsX5_turned := goodIn_r _ [17, 4, 18, 19, 20, 7, 21, 22, 23, 24, 25, 26, 27, 28, 29, 30, 31, 32, 33, 34, 35, 36, 37, 38, 39, 40, 41, 42, 43, 44, 45, 46, 47, 48, 49, 50, 51, 52, 53, 54, 55, 56, 57, 58, 59, 60, 61, 62, 63, 72, 73, 74, 75, 76, 77, 78, 79, 80, 81, 82, 83, 84] (by decide +kernel) (by decide +kernel)
set_option maxRecDepth 20000 in
theorem gX5_ifTurned_X5_turned : GoodIn wsX5_ifTurned (wsV RX5 115 RX5 yX5_turned wsX5_turned) := goodIn_app (goodIn_of _ (by decide +kernel)) ggX5_ifTurned_X5_turned
set_option maxRecDepth 20000 in
theorem ggX5_ifTurned_X5_difference : GoodIn wsX5_ifTurned wsX5_difference := goodIn_r _ [55, 4, 72, 73, 74, 75, 76, 77, 78, 79, 80, 81, 82, 83, 84] (by decide +kernel) (by decide +kernel)
set_option maxRecDepth 20000 in
theorem gX5_ifTurned_X5_difference : GoodIn wsX5_ifTurned (wsV RX5 40 RX5 yX5_difference wsX5_difference) := goodIn_app (goodIn_of _ (by decide +kernel)) ggX5_ifTurned_X5_difference
set_option maxRecDepth 20000 in
theorem ggX5_ifTurned_X5_allCharge : GoodIn wsX5_ifTurned wsX5_allCharge := goodIn_r _ [67, 4, 72, 73, 74, 75, 76, 77, 78, 79, 80, 81, 82, 83, 84] (by decide +kernel) (by decide +kernel)
set_option maxRecDepth 20000 in
theorem gX5_ifTurned_X5_allCharge : GoodIn wsX5_ifTurned (wsV RX5 125 RX5 yX5_allCharge wsX5_allCharge) := goodIn_app (goodIn_of _ (by decide +kernel)) ggX5_ifTurned_X5_allCharge
set_option maxRecDepth 20000 in
theorem ggX5_ifTurned_X5_comesBack : GoodIn wsX5_ifTurned wsX5_comesBack := goodIn_r _ [71, 4, 13, 72, 73, 74, 75, 76, 77, 78, 79, 80, 81, 82, 83, 84] (by decide +kernel) (by decide +kernel)
set_option maxRecDepth 20000 in
theorem gX5_ifTurned_X5_comesBack : GoodIn wsX5_ifTurned (wsV RX5 136 RX5 yX5_comesBack wsX5_comesBack) := goodIn_app (goodIn_of _ (by decide +kernel)) ggX5_ifTurned_X5_comesBack
set_option maxRecDepth 20000 in
theorem ggX5_widestGap_X5_keeps : GoodIn wsX5_widestGap wsX5_keeps := goodIn_r _ [6, 7, 8, 43, 44, 45, 46, 47, 48, 49, 50, 51, 52, 53, 54, 55] (by decide +kernel) (by decide +kernel)
set_option maxRecDepth 20000 in
theorem gX5_widestGap_X5_keeps : GoodIn wsX5_widestGap (wsV RX5 133 RX5 yX5_keeps wsX5_keeps) := goodIn_app (goodIn_of _ (by decide +kernel)) ggX5_widestGap_X5_keeps
set_option maxRecDepth 20000 in
theorem ggX5_widestGap_X5_charges : GoodIn wsX5_widestGap wsX5_charges := goodIn_r _ [12, 8, 13, 14, 15, 5, 16, 17, 18, 19, 20, 21, 22, 23, 24, 25, 26, 27, 28, 29, 30, 31, 32, 33, 34, 43, 44, 45, 46, 47, 48, 49, 50, 51, 52, 53, 54, 55] (by decide +kernel) (by decide +kernel)
set_option maxRecDepth 20000 in
theorem gX5_widestGap_X5_charges : GoodIn wsX5_widestGap (wsV RX5 61 RX5 yX5_charges wsX5_charges) := goodIn_app (goodIn_of _ (by decide +kernel)) ggX5_widestGap_X5_charges
set_option maxRecDepth 20000 in
theorem ggX5_widestGap_X5_difference : GoodIn wsX5_widestGap wsX5_difference := goodIn_r _ [38, 8, 43, 44, 45, 46, 47, 48, 49, 50, 51, 52, 53, 54, 55] (by decide +kernel) (by decide +kernel)
set_option maxRecDepth 20000 in
theorem gX5_widestGap_X5_difference : GoodIn wsX5_widestGap (wsV RX5 40 RX5 yX5_difference wsX5_difference) := goodIn_app (goodIn_of _ (by decide +kernel)) ggX5_widestGap_X5_difference
set_option maxRecDepth 20000 in
theorem ggX5_widestGap_X5_comesBack : GoodIn wsX5_widestGap wsX5_comesBack := goodIn_r _ [42, 8, 7, 43, 44, 45, 46, 47, 48, 49, 50, 51, 52, 53, 54, 55] (by decide +kernel) (by decide +kernel)
set_option maxRecDepth 20000 in
theorem gX5_widestGap_X5_comesBack : GoodIn wsX5_widestGap (wsV RX5 136 RX5 yX5_comesBack wsX5_comesBack) := goodIn_app (goodIn_of _ (by decide +kernel)) ggX5_widestGap_X5_comesBack
set_option maxRecDepth 20000 in
theorem ggX5_mostDamp_X5_nextSpark : GoodIn wsX5_mostDamp wsX5_nextSpark := goodIn_r _ [7, 1, 2, 8, 9, 10, 6, 11, 12, 13, 14, 15, 16, 17, 18, 19, 20, 21, 22, 23, 24, 25, 26, 27, 28, 29, 30, 31, 32, 33, 34, 35, 36, 37, 38, 39, 40, 41, 42, 43, 44, 45, 46, 47, 48, 49, 50, 51, 52, 53, 54, 55, 56, 57, 58, 59, 60, 61, 62, 63, 64, 65, 66, 67, 68, 69, 70, 71, 72, 73, 74, 75] (by decide +kernel) (by decide +kernel)
set_option maxRecDepth 20000 in
theorem gX5_mostDamp_X5_nextSpark : GoodIn wsX5_mostDamp (wsV RX5 139 RX5 yX5_nextSpark wsX5_nextSpark) := goodIn_app (goodIn_of _ (by decide +kernel)) ggX5_mostDamp_X5_nextSpark
set_option maxRecDepth 20000 in
theorem ggX5_charactersOf_X5_in : GoodIn wsX5_charactersOf wsX5_in := goodIn_r _ [7] (by decide +kernel) (by decide +kernel)
set_option maxRecDepth 20000 in
theorem gX5_charactersOf_X5_in : GoodIn wsX5_charactersOf (va_wsS RX5 75 yX5_in wsX5_in) := goodIn_app (goodIn_of _ (by decide +kernel)) ggX5_charactersOf_X5_in
set_option maxRecDepth 20000 in
theorem ggX5_put_X5_charactersOf : GoodIn wsX5_put wsX5_charactersOf := goodIn_r _ [9, 5, 10, 11, 12, 13, 8, 14] (by decide +kernel) (by decide +kernel)
set_option maxRecDepth 20000 in
theorem gX5_put_X5_charactersOf : GoodIn wsX5_put (va_wsS RX5 152 yX5_charactersOf wsX5_charactersOf) := goodIn_app (goodIn_of _ (by decide +kernel)) ggX5_put_X5_charactersOf
set_option maxRecDepth 20000 in
theorem ggX5_isHere_X5_in : GoodIn wsX5_isHere wsX5_in := goodIn_r _ [7] (by decide +kernel) (by decide +kernel)
set_option maxRecDepth 20000 in
theorem gX5_isHere_X5_in : GoodIn wsX5_isHere (va_wsS RX5 75 yX5_in wsX5_in) := goodIn_app (goodIn_of _ (by decide +kernel)) ggX5_isHere_X5_in
set_option maxRecDepth 20000 in
theorem ggX5_takesOne_X5_isHere : GoodIn wsX5_takesOne wsX5_isHere := goodIn_r _ [6, 1, 7, 8, 9, 10, 5, 11, 12, 13, 14, 15, 16, 17, 18, 19, 20, 21, 22, 23, 24] (by decide +kernel) (by decide +kernel)
set_option maxRecDepth 20000 in
theorem gX5_takesOne_X5_isHere : GoodIn wsX5_takesOne (wsV RX5 159 RX5 yX5_isHere wsX5_isHere) := goodIn_app (goodIn_of _ (by decide +kernel)) ggX5_takesOne_X5_isHere
set_option maxRecDepth 20000 in
theorem ggX5_readsNumber_X5_isHere : GoodIn wsX5_readsNumber wsX5_isHere := goodIn_r _ [8, 2, 9, 1, 10, 11, 7, 12, 13, 14, 15, 16, 17, 18, 19, 20, 21, 22, 23, 24, 25] (by decide +kernel) (by decide +kernel)
set_option maxRecDepth 20000 in
theorem gX5_readsNumber_X5_isHere : GoodIn wsX5_readsNumber (wsV RX5 159 RX5 yX5_isHere wsX5_isHere) := goodIn_app (goodIn_of _ (by decide +kernel)) ggX5_readsNumber_X5_isHere
set_option maxRecDepth 20000 in
theorem ggX5_readsTouch_X5_readsNumber : GoodIn wsX5_readsTouch wsX5_readsNumber := goodIn_r _ [8, 9, 10, 1, 11, 12, 13, 7, 14, 15, 16, 17, 18, 23, 24, 25, 26, 27, 28, 29, 30, 31, 32, 33, 34, 35] (by decide +kernel) (by decide +kernel)
set_option maxRecDepth 20000 in
theorem gX5_readsTouch_X5_readsNumber : GoodIn wsX5_readsTouch (wsV RX5 165 RX5 yX5_readsNumber wsX5_readsNumber) := goodIn_app (goodIn_of _ (by decide +kernel)) ggX5_readsTouch_X5_readsNumber
set_option maxRecDepth 20000 in
theorem ggX5_readsTouch_X5_takesOne : GoodIn wsX5_readsTouch wsX5_takesOne := goodIn_r _ [22, 10, 11, 12, 13, 7, 14, 15, 9, 16, 17, 18, 23, 24, 25, 26, 27, 28, 29, 30, 31, 32, 33, 34, 35] (by decide +kernel) (by decide +kernel)
set_option maxRecDepth 20000 in
theorem gX5_readsTouch_X5_takesOne : GoodIn wsX5_readsTouch (wsV RX5 171 RX5 yX5_takesOne wsX5_takesOne) := goodIn_app (goodIn_of _ (by decide +kernel)) ggX5_readsTouch_X5_takesOne
set_option maxRecDepth 20000 in
theorem ggX5_readsDeed_X5_takesOne : GoodIn wsX5_readsDeed wsX5_takesOne := goodIn_r _ [9, 1, 10, 11, 12, 8, 13, 2, 3, 14, 15, 16, 28, 29, 30, 31, 32, 33, 34, 35, 36, 37, 38, 39, 40] (by decide +kernel) (by decide +kernel)
set_option maxRecDepth 20000 in
theorem gX5_readsDeed_X5_takesOne : GoodIn wsX5_readsDeed (wsV RX5 171 RX5 yX5_takesOne wsX5_takesOne) := goodIn_app (goodIn_of _ (by decide +kernel)) ggX5_readsDeed_X5_takesOne
set_option maxRecDepth 20000 in
theorem ggX5_readsDeed_X5_readsNumber : GoodIn wsX5_readsDeed wsX5_readsNumber := goodIn_r _ [20, 3, 1, 21, 10, 11, 12, 8, 13, 2, 14, 15, 16, 28, 29, 30, 31, 32, 33, 34, 35, 36, 37, 38, 39, 40] (by decide +kernel) (by decide +kernel)
set_option maxRecDepth 20000 in
theorem gX5_readsDeed_X5_readsNumber : GoodIn wsX5_readsDeed (wsV RX5 165 RX5 yX5_readsNumber wsX5_readsNumber) := goodIn_app (goodIn_of _ (by decide +kernel)) ggX5_readsDeed_X5_readsNumber
set_option maxRecDepth 20000 in
theorem ggX5_readsDeed_X5_readsTouch : GoodIn wsX5_readsDeed wsX5_readsTouch := goodIn_r _ [25, 21, 26, 27, 17, 18, 19, 8, 20, 3, 1, 10, 11, 12, 13, 2, 14, 15, 16, 5, 6, 7, 9, 28, 29, 30, 31, 32, 33, 34, 35, 36, 37, 38, 39, 40] (by decide +kernel) (by decide +kernel)
set_option maxRecDepth 20000 in
theorem gX5_readsDeed_X5_readsTouch : GoodIn wsX5_readsDeed (wsV RX5 180 RX5 yX5_readsTouch wsX5_readsTouch) := goodIn_app (goodIn_of _ (by decide +kernel)) ggX5_readsDeed_X5_readsTouch
set_option maxRecDepth 20000 in
theorem ggX5_fault_X5_readsDeed : GoodIn wsX5_fault wsX5_readsDeed := goodIn_r _ [8, 1, 2, 9, 10, 11, 12, 13, 7, 14, 15, 16, 17, 18, 19, 20, 21, 22, 23, 24, 25, 26, 27, 28, 29, 30, 31, 32, 33, 34, 35, 36, 37, 38, 39, 40, 41, 42, 43, 44, 45] (by decide +kernel) (by decide +kernel)
set_option maxRecDepth 20000 in
theorem gX5_fault_X5_readsDeed : GoodIn wsX5_fault (wsV RX5 184 RX5 yX5_readsDeed wsX5_readsDeed) := goodIn_app (goodIn_of _ (by decide +kernel)) ggX5_fault_X5_readsDeed
set_option maxRecDepth 20000 in
theorem ggX5_fault_X5_takesOne : GoodIn wsX5_fault wsX5_takesOne := goodIn_r _ [14, 1, 15, 16, 17, 7, 18, 2, 9, 19, 20, 21, 33, 34, 35, 36, 37, 38, 39, 40, 41, 42, 43, 44, 45] (by decide +kernel) (by decide +kernel)
set_option maxRecDepth 20000 in
theorem gX5_fault_X5_takesOne : GoodIn wsX5_fault (wsV RX5 171 RX5 yX5_takesOne wsX5_takesOne) := goodIn_app (goodIn_of _ (by decide +kernel)) ggX5_fault_X5_takesOne
set_option maxRecDepth 20000 in
theorem ggX5_does_X5_turned : GoodIn wsX5_does wsX5_turned := goodIn_r _ [11, 2, 12, 13, 14, 10, 15, 16, 17, 18, 19, 20, 21, 22, 23, 24, 25, 26, 27, 28, 29, 30, 31, 32, 33, 34, 35, 36, 37, 38, 39, 40, 41, 42, 43, 44, 45, 46, 47, 48, 49, 50, 51, 52, 53, 54, 55, 56, 57, 66, 67, 68, 69, 70, 71, 72, 73, 74, 75, 76, 77, 78] (by decide +kernel) (by decide +kernel)
set_option maxRecDepth 20000 in
theorem gX5_does_X5_turned : GoodIn wsX5_does (wsV RX5 115 RX5 yX5_turned wsX5_turned) := goodIn_app (goodIn_of _ (by decide +kernel)) ggX5_does_X5_turned
set_option maxRecDepth 20000 in
theorem ggX5_does_X5_discharges : GoodIn wsX5_does wsX5_discharges := goodIn_r _ [61, 2, 46, 47, 48, 10, 49, 66, 67, 68, 69, 70, 71, 72, 73, 74, 75, 76, 77, 78] (by decide +kernel) (by decide +kernel)
set_option maxRecDepth 20000 in
theorem gX5_does_X5_discharges : GoodIn wsX5_does (wsV RX5 119 RX5 yX5_discharges wsX5_discharges) := goodIn_app (goodIn_of _ (by decide +kernel)) ggX5_does_X5_discharges
set_option maxRecDepth 20000 in
theorem ggX5_does_X5_touches : GoodIn wsX5_does wsX5_touches := goodIn_r _ [65, 2, 24, 25, 10, 26, 66, 67, 68, 69, 70, 71, 72, 73, 74, 75, 76, 77, 78] (by decide +kernel) (by decide +kernel)
set_option maxRecDepth 20000 in
theorem gX5_does_X5_touches : GoodIn wsX5_does (wsV RX5 110 RX5 yX5_touches wsX5_touches) := goodIn_app (goodIn_of _ (by decide +kernel)) ggX5_does_X5_touches
set_option maxRecDepth 20000 in
theorem ggX5_run_X5_fault : GoodIn wsX5_run wsX5_fault := goodIn_r _ [9, 3, 4, 1, 10, 11, 12, 8, 13, 14, 15, 16, 17, 18, 19, 20, 21, 22, 23, 24, 25, 26, 27, 28, 29, 30, 31, 32, 33, 34, 35, 36, 37, 108, 109, 110, 111, 112, 113, 114, 115, 116, 117, 118, 119, 120] (by decide +kernel) (by decide +kernel)
set_option maxRecDepth 20000 in
theorem gX5_run_X5_fault : GoodIn wsX5_run (wsV RX5 187 RX5 yX5_fault wsX5_fault) := goodIn_app (goodIn_of _ (by decide +kernel)) ggX5_run_X5_fault
set_option maxRecDepth 20000 in
theorem ggX5_run_X5_changes : GoodIn wsX5_run wsX5_changes := goodIn_r _ [41, 42, 43, 44, 108, 109, 110, 111, 112, 113, 114, 115, 116, 117, 118, 119, 120] (by decide +kernel) (by decide +kernel)
set_option maxRecDepth 20000 in
theorem gX5_run_X5_changes : GoodIn wsX5_run (wsV RX5 93 RX5 yX5_changes wsX5_changes) := goodIn_app (goodIn_of _ (by decide +kernel)) ggX5_run_X5_changes
set_option maxRecDepth 20000 in
theorem ggX5_run_X5_readsDeed : GoodIn wsX5_run wsX5_readsDeed := goodIn_r _ [13, 3, 4, 14, 15, 16, 17, 18, 8, 19, 20, 21, 22, 23, 24, 25, 26, 27, 28, 29, 30, 31, 32, 33, 34, 35, 36, 37, 108, 109, 110, 111, 112, 113, 114, 115, 116, 117, 118, 119, 120] (by decide +kernel) (by decide +kernel)
set_option maxRecDepth 20000 in
theorem gX5_run_X5_readsDeed : GoodIn wsX5_run (wsV RX5 184 RX5 yX5_readsDeed wsX5_readsDeed) := goodIn_app (goodIn_of _ (by decide +kernel)) ggX5_run_X5_readsDeed
set_option maxRecDepth 20000 in
theorem ggX5_run_X5_does : GoodIn wsX5_run wsX5_does := goodIn_r _ [48, 15, 44, 31, 49, 36, 37, 50, 51, 52, 8, 53, 54, 55, 56, 57, 58, 59, 60, 61, 62, 63, 64, 65, 66, 67, 68, 69, 70, 71, 72, 73, 74, 75, 76, 77, 78, 79, 80, 81, 82, 83, 84, 85, 86, 87, 88, 89, 90, 91, 92, 93, 94, 95, 96, 97, 98, 99, 100, 101, 102, 103, 104, 105, 106, 107, 108, 109, 110, 111, 112, 113, 114, 115, 116, 117, 118, 119, 120] (by decide +kernel) (by decide +kernel)
set_option maxRecDepth 20000 in
theorem gX5_run_X5_does : GoodIn wsX5_run (wsV RX5 191 RX5 yX5_does wsX5_does) := goodIn_app (goodIn_of _ (by decide +kernel)) ggX5_run_X5_does
set_option maxRecDepth 20000 in
theorem ggX5_run_X5_takesOne : GoodIn wsX5_run wsX5_takesOne := goodIn_r _ [19, 3, 20, 21, 22, 8, 23, 4, 14, 24, 25, 26, 108, 109, 110, 111, 112, 113, 114, 115, 116, 117, 118, 119, 120] (by decide +kernel) (by decide +kernel)
set_option maxRecDepth 20000 in
theorem gX5_run_X5_takesOne : GoodIn wsX5_run (wsV RX5 171 RX5 yX5_takesOne wsX5_takesOne) := goodIn_app (goodIn_of _ (by decide +kernel)) ggX5_run_X5_takesOne
set_option maxRecDepth 20000 in
theorem ggX5_save_X5_isDisc : GoodIn wsX5_save wsX5_isDisc := goodIn_r _ [8] (by decide +kernel) (by decide +kernel)
set_option maxRecDepth 20000 in
theorem gX5_save_X5_isDisc : GoodIn wsX5_save (va_wsS RX5 98 yX5_isDisc wsX5_isDisc) := goodIn_app (goodIn_of _ (by decide +kernel)) ggX5_save_X5_isDisc
set_option maxRecDepth 20000 in
theorem ggX5_restore_X5_isDisc : GoodIn wsX5_restore wsX5_isDisc := goodIn_r _ [9] (by decide +kernel) (by decide +kernel)
set_option maxRecDepth 20000 in
theorem gX5_restore_X5_isDisc : GoodIn wsX5_restore (va_wsS RX5 98 yX5_isDisc wsX5_isDisc) := goodIn_app (goodIn_of _ (by decide +kernel)) ggX5_restore_X5_isDisc
set_option maxRecDepth 20000 in
theorem ggX5_restore_X5_changes : GoodIn wsX5_restore wsX5_changes := goodIn_r _ [13, 14, 15, 4, 16, 17, 18, 19, 20, 21, 22, 23, 24, 25, 26, 27, 28] (by decide +kernel) (by decide +kernel)
set_option maxRecDepth 20000 in
theorem gX5_restore_X5_changes : GoodIn wsX5_restore (wsV RX5 93 RX5 yX5_changes wsX5_changes) := goodIn_app (goodIn_of _ (by decide +kernel)) ggX5_restore_X5_changes
set_option maxRecDepth 20000 in
theorem ggL_law_X4_init : GoodIn wsL_law wsX4_init := goodIn_r _ [9, 10, 11, 12, 13, 14, 15, 16, 17, 18, 19, 20, 21, 22, 23, 24, 25, 26, 27, 28, 29, 30, 31, 32, 33, 34, 35, 36, 37, 38, 39, 40, 41, 42, 43, 44, 45, 46, 47, 48, 49, 50, 51, 52, 53, 54, 55, 662, 663, 664, 665, 666, 667, 668, 669, 670, 671, 672, 673, 674, 643, 644, 645, 646, 647, 648, 675, 676, 677, 678, 679, 680, 681, 682, 683, 684, 685] (by decide +kernel) (by decide +kernel)
set_option maxRecDepth 20000 in
theorem gL_law_X4_init : GoodIn wsL_law (wsX4_init) := ggL_law_X4_init
set_option maxRecDepth 20000 in
theorem ggL_law_X5_init : GoodIn wsL_law wsX5_init := goodIn_r _ [58, 59, 11, 12, 32, 60, 61, 62, 63, 64, 65, 649, 650, 651, 652, 653, 654, 655, 656, 657, 658, 659, 660, 661] (by decide +kernel) (by decide +kernel)
set_option maxRecDepth 20000 in
theorem gL_law_X5_init : GoodIn wsL_law (wsX5_init) := ggL_law_X5_init
set_option maxRecDepth 20000 in
theorem ggL_law_X4_set : GoodIn wsL_law wsX4_set := goodIn_r _ [69, 70, 71, 72, 16, 73, 21, 74, 75, 76, 77, 15, 78, 35, 79, 80, 81, 82, 83, 84, 85, 86, 87, 88, 20, 89, 90, 91, 43, 42, 14, 92, 93, 94, 95, 29, 30, 31, 11, 12, 32, 33, 34, 36, 37, 38, 96, 97, 98, 99, 100, 101, 102, 103, 104, 105, 106, 107, 2, 108, 109, 110, 111, 112, 113, 114, 115, 643, 644, 645, 646, 647, 648, 662, 663, 664, 665, 666, 667, 668, 669, 670, 671, 672, 673, 674, 675, 676, 677] (by decide +kernel) (by decide +kernel)
set_option maxRecDepth 20000 in
theorem gL_law_X4_set : GoodIn wsL_law (wsV RL 13 RX4 yX4_set wsX4_set) := goodIn_app (goodIn_of _ (by decide +kernel)) ggL_law_X4_set
set_option maxRecDepth 20000 in
theorem ggL_law_X5_set : GoodIn wsL_law wsX5_set := goodIn_r _ [119, 120, 60, 121, 122, 123, 124, 5, 125, 126, 127, 128, 129, 130, 131, 132, 133, 134, 135, 136, 137, 138, 62, 649, 650, 651, 652, 653, 654, 655, 656, 657, 658, 659, 660, 661] (by decide +kernel) (by decide +kernel)
set_option maxRecDepth 20000 in
theorem gL_law_X5_set : GoodIn wsL_law (wsV RL 17 RX5 yX5_set wsX5_set) := goodIn_app (goodIn_of _ (by decide +kernel)) ggL_law_X5_set
set_option maxRecDepth 20000 in
theorem ggL_law_X4_touch : GoodIn wsL_law wsX4_touch := goodIn_r _ [142, 143, 70, 21, 16, 144, 145, 2, 146, 147, 148, 149, 86, 87, 88, 20, 89, 90, 91, 43, 42, 14, 15, 92, 93, 94, 95, 29, 30, 31, 11, 12, 32, 33, 34, 35, 36, 37, 38, 96, 97, 98, 99, 100, 101, 102, 103, 104, 105, 106, 107, 108, 109, 110, 81, 111, 112, 113, 114, 115, 150, 151, 152, 153, 154, 155, 156, 157, 643, 644, 645, 646, 647, 648, 675, 676, 677, 662, 663, 664, 665, 666, 667, 668, 669, 670, 671, 672, 673, 674] (by decide +kernel) (by decide +kernel)
set_option maxRecDepth 20000 in
theorem gL_law_X4_touch : GoodIn wsL_law (wsV RL 18 RX4 yX4_touch wsX4_touch) := goodIn_app (goodIn_of _ (by decide +kernel)) ggL_law_X4_touch
set_option maxRecDepth 20000 in
theorem ggL_law_X5_touch : GoodIn wsL_law wsX5_touch := goodIn_r _ [161, 162, 163, 164, 120, 60, 165, 166, 5, 167, 168, 169, 170, 171, 131, 132, 133, 134, 135, 136, 137, 138, 62, 172, 173, 174, 175, 176, 177, 178, 649, 650, 651, 652, 653, 654, 655, 656, 657, 658, 659, 660, 661] (by decide +kernel) (by decide +kernel)
set_option maxRecDepth 20000 in
theorem gL_law_X5_touch : GoodIn wsL_law (wsV RL 22 RX5 yX5_touch wsX5_touch) := goodIn_app (goodIn_of _ (by decide +kernel)) ggL_law_X5_touch
set_option maxRecDepth 20000 in
theorem ggL_law_X4_turn : GoodIn wsL_law wsX4_turn := goodIn_r _ [182, 70, 16, 183, 21, 184, 185, 186, 15, 187, 100, 188, 86, 87, 88, 20, 89, 90, 91, 43, 42, 14, 92, 93, 94, 95, 29, 30, 31, 11, 12, 32, 33, 34, 35, 36, 37, 38, 96, 97, 98, 99, 101, 102, 103, 104, 105, 106, 107, 2, 108, 109, 110, 81, 111, 112, 113, 114, 115, 189, 190, 191, 192, 193, 194, 195, 196, 197, 198, 199, 200, 201, 202, 203, 204, 83, 84, 85, 205, 154, 155, 156, 157, 206, 207, 208, 209, 210, 211, 212, 213, 214, 215, 216, 217, 218, 219, 220, 221, 222, 223, 224, 225, 226, 227, 228, 79, 80, 82, 229, 230, 231, 232, 233, 234, 235, 236, 237, 238, 239, 240, 241, 242, 243, 244, 245, 246, 247, 643, 644, 645, 646, 647, 648, 662, 663, 664, 665, 666, 667, 668, 669, 670, 671, 672, 673, 674, 675, 676, 677] (by decide +kernel) (by decide +kernel)
set_option maxRecDepth 20000 in
theorem gL_law_X4_turn : GoodIn wsL_law (wsV RL 23 RX4 yX4_turn wsX4_turn) := goodIn_app (goodIn_of _ (by decide +kernel)) ggL_law_X4_turn
set_option maxRecDepth 20000 in
theorem ggL_law_X5_turn : GoodIn wsL_law wsX5_turn := goodIn_r _ [251, 164, 120, 60, 252, 253, 131, 132, 5, 133, 134, 135, 136, 137, 138, 62, 254, 255, 256, 257, 258, 259, 260, 261, 262, 263, 264, 265, 266, 267, 268, 269, 172, 173, 174, 270, 271, 272, 273, 274, 275, 276, 277, 278, 279, 280, 281, 282, 283, 284, 285, 286, 287, 288, 289, 290, 291, 292, 293, 294, 295, 296, 297, 298, 299, 300, 649, 650, 651, 652, 653, 654, 655, 656, 657, 658, 659, 660, 661] (by decide +kernel) (by decide +kernel)
set_option maxRecDepth 20000 in
theorem gL_law_X5_turn : GoodIn wsL_law (wsV RL 27 RX5 yX5_turn wsX5_turn) := goodIn_app (goodIn_of _ (by decide +kernel)) ggL_law_X5_turn
set_option maxRecDepth 20000 in
theorem ggL_law_X4_discharge : GoodIn wsL_law wsX4_discharge := goodIn_r _ [304, 21, 16, 86, 87, 88, 20, 89, 90, 91, 43, 42, 14, 15, 92, 93, 94, 95, 29, 30, 31, 11, 12, 32, 33, 34, 35, 36, 37, 38, 96, 97, 98, 99, 100, 101, 102, 103, 104, 105, 106, 107, 2, 108, 109, 110, 81, 111, 112, 113, 114, 115, 305, 306, 307, 308, 225, 226, 227, 228, 79, 80, 82, 643, 644, 645, 646, 647, 648, 675, 676, 677, 662, 663, 664, 665, 666, 667, 668, 669, 670, 671, 672, 673, 674] (by decide +kernel) (by decide +kernel)
set_option maxRecDepth 20000 in
theorem gL_law_X4_discharge : GoodIn wsL_law (wsV RL 28 RX4 yX4_discharge wsX4_discharge) := goodIn_app (goodIn_of _ (by decide +kernel)) ggL_law_X4_discharge
set_option maxRecDepth 20000 in
theorem ggL_law_X5_discharge : GoodIn wsL_law wsX5_discharge := goodIn_r _ [312, 134, 135, 136, 5, 137, 138, 62, 60, 313, 314, 315, 316, 289, 290, 291, 292, 649, 650, 651, 652, 653, 654, 655, 656, 657, 658, 659, 660, 661] (by decide +kernel) (by decide +kernel)
set_option maxRecDepth 20000 in
theorem gL_law_X5_discharge : GoodIn wsL_law (wsV RL 32 RX5 yX5_discharge wsX5_discharge) := goodIn_app (goodIn_of _ (by decide +kernel)) ggL_law_X5_discharge
set_option maxRecDepth 20000 in
theorem ggL_law_X4_wipeDisc : GoodIn wsL_law wsX4_wipeDisc := goodIn_r _ [320, 143, 21, 16, 144, 145, 2, 146, 86, 87, 88, 20, 89, 90, 91, 43, 42, 14, 15, 92, 93, 94, 95, 29, 30, 31, 11, 12, 32, 33, 34, 35, 36, 37, 38, 96, 97, 98, 99, 100, 101, 102, 103, 104, 105, 106, 107, 108, 109, 110, 81, 111, 112, 113, 114, 115, 321, 322, 323, 324, 325, 326, 327, 328, 329, 330, 331, 244, 245, 246, 247, 332, 333, 334, 335, 643, 644, 645, 646, 647, 648, 675, 676, 677, 662, 663, 664, 665, 666, 667, 668, 669, 670, 671, 672, 673, 674] (by decide +kernel) (by decide +kernel)
set_option maxRecDepth 20000 in
theorem gL_law_X4_wipeDisc : GoodIn wsL_law (wsV RL 33 RX4 yX4_wipeDisc wsX4_wipeDisc) := goodIn_app (goodIn_of _ (by decide +kernel)) ggL_law_X4_wipeDisc
set_option maxRecDepth 20000 in
theorem ggL_law_X5_wipeDisc : GoodIn wsL_law wsX5_wipeDisc := goodIn_r _ [339, 162, 60, 165, 166, 5, 167, 134, 135, 136, 137, 138, 62, 172, 173, 174, 649, 650, 651, 652, 653, 654, 655, 656, 657, 658, 659, 660, 661] (by decide +kernel) (by decide +kernel)
set_option maxRecDepth 20000 in
theorem gL_law_X5_wipeDisc : GoodIn wsL_law (wsV RL 36 RX5 yX5_wipeDisc wsX5_wipeDisc) := goodIn_app (goodIn_of _ (by decide +kernel)) ggL_law_X5_wipeDisc
set_option maxRecDepth 20000 in
theorem ggL_law_X4_run : GoodIn wsL_law wsX4_run := goodIn_r _ [343, 26, 344, 345, 21, 16, 346, 28, 347, 348, 349, 25, 350, 351, 50, 352, 353, 354, 355, 356, 357, 358, 359, 360, 361, 362, 363, 364, 365, 366, 367, 368, 369, 370, 49, 371, 372, 55, 373, 374, 375, 376, 377, 378, 379, 380, 381, 382, 383, 384, 385, 386, 387, 388, 389, 390, 86, 87, 88, 20, 89, 90, 91, 43, 42, 14, 15, 92, 93, 94, 95, 29, 30, 31, 11, 12, 32, 33, 34, 35, 36, 37, 38, 96, 97, 98, 99, 100, 101, 102, 103, 104, 105, 106, 107, 2, 108, 109, 110, 81, 111, 112, 113, 114, 115, 391, 392, 393, 394, 395, 396, 397, 398, 399, 400, 150, 151, 152, 153, 154, 155, 156, 157, 305, 306, 307, 308, 225, 226, 227, 228, 79, 80, 82, 184, 185, 186, 187, 188, 189, 190, 191, 192, 193, 194, 195, 196, 197, 198, 199, 200, 201, 202, 203, 204, 83, 84, 85, 205, 206, 207, 208, 209, 210, 211, 212, 213, 214, 215, 216, 217, 218, 219, 220, 221, 222, 223, 224, 229, 230, 231, 232, 233, 234, 235, 236, 237, 238, 239, 240, 241, 242, 243, 244, 245, 246, 247, 401, 402, 403, 404, 405, 643, 644, 645, 646, 647, 648, 662, 663, 664, 665, 666, 667, 668, 669, 670, 671, 672, 673, 674, 678, 679, 680, 681, 682, 683, 684, 685, 675, 676, 677] (by decide +kernel) (by decide +kernel)
set_option maxRecDepth 20000 in
theorem gL_law_X4_run : GoodIn wsL_law (wsV RL 37 RX4 yX4_run wsX4_run) := goodIn_app (goodIn_of _ (by decide +kernel)) ggL_law_X4_run
set_option maxRecDepth 20000 in
theorem ggL_law_X5_run : GoodIn wsL_law wsX5_run := goodIn_r _ [409, 410, 411, 412, 413, 414, 415, 416, 5, 417, 418, 419, 420, 421, 65, 422, 423, 424, 425, 426, 427, 428, 429, 430, 131, 132, 133, 431, 432, 433, 434, 435, 436, 437, 438, 439, 440, 441, 134, 135, 136, 137, 138, 62, 60, 442, 443, 444, 445, 252, 254, 255, 256, 257, 258, 259, 260, 261, 262, 263, 264, 265, 266, 267, 268, 269, 172, 173, 174, 270, 271, 272, 273, 274, 275, 276, 277, 278, 279, 280, 281, 282, 283, 284, 285, 286, 287, 288, 289, 290, 291, 292, 293, 294, 295, 296, 297, 298, 299, 300, 313, 314, 315, 316, 175, 176, 177, 178, 649, 650, 651, 652, 653, 654, 655, 656, 657, 658, 659, 660, 661] (by decide +kernel) (by decide +kernel)
set_option maxRecDepth 20000 in
theorem gL_law_X5_run : GoodIn wsL_law (wsV RL 40 RX5 yX5_run wsX5_run) := goodIn_app (goodIn_of _ (by decide +kernel)) ggL_law_X5_run
set_option maxRecDepth 20000 in
theorem ggL_law_X4_sector : GoodIn wsL_law wsX4_sector := goodIn_r _ [449, 143, 16, 450, 451, 144, 145, 2, 146, 147, 148, 149, 452, 155, 15, 156, 157, 93, 94, 95, 643, 644, 645, 646, 647, 648, 662, 663, 664, 665, 666, 667, 668, 669, 670, 671, 672, 673, 674] (by decide +kernel) (by decide +kernel)
set_option maxRecDepth 20000 in
theorem gL_law_X4_sector : GoodIn wsL_law (wsV RL 41 RX4 yX4_sector wsX4_sector) := goodIn_app (goodIn_of _ (by decide +kernel)) ggL_law_X4_sector
set_option maxRecDepth 20000 in
theorem ggL_law_X5_sector : GoodIn wsL_law wsX5_sector := goodIn_r _ [456, 60, 162, 165, 166, 5, 167, 168, 169, 170, 171, 131, 132, 133, 172, 173, 174, 649, 650, 651, 652, 653, 654, 655, 656, 657, 658, 659, 660, 661] (by decide +kernel) (by decide +kernel)
set_option maxRecDepth 20000 in
theorem gL_law_X5_sector : GoodIn wsL_law (wsV RL 44 RX5 yX5_sector wsX5_sector) := goodIn_app (goodIn_of _ (by decide +kernel)) ggL_law_X5_sector
set_option maxRecDepth 20000 in
theorem ggL_law_X4_disc : GoodIn wsL_law wsX4_disc := goodIn_r _ [460, 143, 16, 70, 144, 145, 2, 146, 461, 333, 334, 15, 335, 34, 329, 330, 331, 462, 326, 327, 328, 244, 245, 246, 247, 463, 464, 465, 466, 83, 84, 81, 85, 467, 468, 469, 470, 205, 110, 111, 643, 644, 645, 646, 647, 648, 662, 663, 664, 665, 666, 667, 668, 669, 670, 671, 672, 673, 674] (by decide +kernel) (by decide +kernel)
set_option maxRecDepth 20000 in
theorem gL_law_X4_disc : GoodIn wsL_law (wsV RL 45 RX4 yX4_disc wsX4_disc) := goodIn_app (goodIn_of _ (by decide +kernel)) ggL_law_X4_disc
set_option maxRecDepth 20000 in
theorem ggL_law_X5_disc : GoodIn wsL_law wsX5_disc := goodIn_r _ [474, 162, 60, 120, 165, 166, 5, 167, 172, 173, 174, 649, 650, 651, 652, 653, 654, 655, 656, 657, 658, 659, 660, 661] (by decide +kernel) (by decide +kernel)
set_option maxRecDepth 20000 in
theorem gL_law_X5_disc : GoodIn wsL_law (wsV RL 48 RX5 yX5_disc wsX5_disc) := goodIn_app (goodIn_of _ (by decide +kernel)) ggL_law_X5_disc
set_option maxRecDepth 20000 in
theorem ggL_law_X4_jar : GoodIn wsL_law wsX4_jar := goodIn_r _ [478, 143, 16, 479, 480, 481, 70, 643, 644, 645, 646, 647, 648, 662, 663, 664, 665, 666, 667, 668, 669, 670, 671, 672, 673, 674] (by decide +kernel) (by decide +kernel)
set_option maxRecDepth 20000 in
theorem gL_law_X4_jar : GoodIn wsL_law (wsV RL 49 RX4 yX4_jar wsX4_jar) := goodIn_app (goodIn_of _ (by decide +kernel)) ggL_law_X4_jar
set_option maxRecDepth 20000 in
theorem ggL_law_X5_jar : GoodIn wsL_law wsX5_jar := goodIn_r _ [485, 162, 486, 60, 120, 165, 166, 5, 167, 131, 132, 133, 649, 650, 651, 652, 653, 654, 655, 656, 657, 658, 659, 660, 661] (by decide +kernel) (by decide +kernel)
set_option maxRecDepth 20000 in
theorem gL_law_X5_jar : GoodIn wsL_law (wsV RL 52 RX5 yX5_jar wsX5_jar) := goodIn_app (goodIn_of _ (by decide +kernel)) ggL_law_X5_jar
set_option maxRecDepth 20000 in
theorem ggL_law_X4_spark : GoodIn wsL_law wsX4_spark := goodIn_r _ [490, 70, 16, 346, 344, 491, 492, 234, 15, 235, 157, 93, 94, 95, 643, 644, 645, 646, 647, 648, 662, 663, 664, 665, 666, 667, 668, 669, 670, 671, 672, 673, 674] (by decide +kernel) (by decide +kernel)
set_option maxRecDepth 20000 in
theorem gL_law_X4_spark : GoodIn wsL_law (wsV RL 53 RX4 yX4_spark wsX4_spark) := goodIn_app (goodIn_of _ (by decide +kernel)) ggL_law_X4_spark
set_option maxRecDepth 20000 in
theorem ggL_law_X5_spark : GoodIn wsL_law wsX5_spark := goodIn_r _ [496, 486, 120, 60, 410, 131, 132, 5, 133, 649, 650, 651, 652, 653, 654, 655, 656, 657, 658, 659, 660, 661] (by decide +kernel) (by decide +kernel)
set_option maxRecDepth 20000 in
theorem gL_law_X5_spark : GoodIn wsL_law (wsV RL 56 RX5 yX5_spark wsX5_spark) := goodIn_app (goodIn_of _ (by decide +kernel)) ggL_law_X5_spark
set_option maxRecDepth 20000 in
theorem ggL_law_X4_count : GoodIn wsL_law wsX4_count := goodIn_r _ [500, 16, 74, 451, 346, 501, 502, 503, 504, 28, 505, 21, 506, 70, 507, 241, 242, 15, 243, 35, 244, 245, 246, 247, 508, 509, 510, 511, 332, 333, 334, 335, 34, 329, 330, 331, 643, 644, 645, 646, 647, 648, 662, 663, 664, 665, 666, 667, 668, 669, 670, 671, 672, 673, 674, 684, 685, 675, 676, 677] (by decide +kernel) (by decide +kernel)
set_option maxRecDepth 20000 in
theorem gL_law_X4_count : GoodIn wsL_law (wsV RL 57 RX4 yX4_count wsX4_count) := goodIn_app (goodIn_of _ (by decide +kernel)) ggL_law_X4_count
set_option maxRecDepth 20000 in
theorem ggL_law_X5_count : GoodIn wsL_law wsX5_count := goodIn_r _ [515, 60, 413, 138, 516, 120, 297, 298, 299, 5, 300, 517, 518, 519, 520, 131, 132, 133, 649, 650, 651, 652, 653, 654, 655, 656, 657, 658, 659, 660, 661] (by decide +kernel) (by decide +kernel)
set_option maxRecDepth 20000 in
theorem gL_law_X5_count : GoodIn wsL_law (wsV RL 60 RX5 yX5_count wsX5_count) := goodIn_app (goodIn_of _ (by decide +kernel)) ggL_law_X5_count
set_option maxRecDepth 20000 in
theorem ggL_law_X4_untilSpark : GoodIn wsL_law wsX4_untilSpark := goodIn_r _ [524, 17, 16, 525, 97, 98, 15, 99, 33, 34, 35, 36, 37, 38, 100, 101, 102, 103, 104, 105, 106, 107, 2, 108, 109, 110, 81, 111, 112, 113, 114, 115, 526, 527, 528, 529, 530, 197, 198, 199, 200, 201, 202, 203, 204, 83, 84, 85, 205, 154, 155, 156, 157, 93, 94, 95, 206, 207, 208, 209, 210, 211, 212, 213, 214, 215, 216, 217, 218, 219, 220, 221, 222, 223, 224, 225, 226, 227, 228, 79, 80, 82, 643, 644, 645, 646, 647, 648, 662, 663, 664, 665, 666, 667, 668, 669, 670, 671, 672, 673, 674] (by decide +kernel) (by decide +kernel)
set_option maxRecDepth 20000 in
theorem gL_law_X4_untilSpark : GoodIn wsL_law (wsV RL 61 RX4 yX4_untilSpark wsX4_untilSpark) := goodIn_app (goodIn_of _ (by decide +kernel)) ggL_law_X4_untilSpark
set_option maxRecDepth 20000 in
theorem ggL_law_X5_untilSpark : GoodIn wsL_law wsX5_untilSpark := goodIn_r _ [534, 535, 536, 537, 5, 538, 60, 410, 539, 540, 541, 542, 61, 258, 259, 260, 261, 262, 263, 264, 265, 266, 267, 268, 269, 172, 173, 174, 270, 271, 272, 273, 274, 275, 276, 277, 278, 279, 280, 281, 282, 283, 284, 285, 286, 287, 288, 289, 290, 291, 292, 293, 294, 295, 296, 297, 298, 299, 300, 543, 544, 545, 546, 649, 650, 651, 652, 653, 654, 655, 656, 657, 658, 659, 660, 661] (by decide +kernel) (by decide +kernel)
set_option maxRecDepth 20000 in
theorem gL_law_X5_untilSpark : GoodIn wsL_law (wsV RL 64 RX5 yX5_untilSpark wsX5_untilSpark) := goodIn_app (goodIn_of _ (by decide +kernel)) ggL_law_X5_untilSpark
set_option maxRecDepth 20000 in
theorem ggL_law_X4_ifTurned : GoodIn wsL_law wsX4_ifTurned := goodIn_r _ [550, 70, 17, 16, 346, 501, 479, 525, 97, 98, 15, 99, 33, 34, 35, 36, 37, 38, 100, 101, 102, 103, 104, 105, 106, 107, 2, 108, 109, 110, 81, 111, 112, 113, 114, 115, 551, 552, 553, 554, 83, 84, 85, 193, 194, 195, 196, 197, 198, 199, 200, 201, 202, 203, 204, 205, 154, 155, 156, 157, 93, 94, 95, 206, 207, 208, 209, 210, 211, 212, 213, 214, 215, 216, 217, 218, 219, 220, 221, 222, 223, 224, 225, 226, 227, 228, 79, 80, 82, 229, 230, 231, 232, 233, 234, 235, 236, 237, 238, 239, 240, 241, 242, 243, 244, 245, 246, 247, 508, 509, 510, 511, 332, 333, 334, 335, 329, 330, 331, 643, 644, 645, 646, 647, 648, 662, 663, 664, 665, 666, 667, 668, 669, 670, 671, 672, 673, 674] (by decide +kernel) (by decide +kernel)
set_option maxRecDepth 20000 in
theorem gL_law_X4_ifTurned : GoodIn wsL_law (wsV RL 65 RX4 yX4_ifTurned wsX4_ifTurned) := goodIn_app (goodIn_of _ (by decide +kernel)) ggL_law_X4_ifTurned
set_option maxRecDepth 20000 in
theorem ggL_law_X5_ifTurned : GoodIn wsL_law wsX5_ifTurned := goodIn_r _ [558, 559, 560, 120, 60, 131, 132, 5, 133, 539, 540, 541, 542, 61, 254, 255, 256, 257, 258, 259, 260, 261, 262, 263, 264, 265, 266, 267, 268, 269, 172, 173, 174, 270, 271, 272, 273, 274, 275, 276, 277, 278, 279, 280, 281, 282, 283, 284, 285, 286, 287, 288, 289, 290, 291, 292, 293, 294, 295, 296, 297, 298, 299, 300, 517, 518, 519, 520, 543, 544, 545, 546, 649, 650, 651, 652, 653, 654, 655, 656, 657, 658, 659, 660, 661] (by decide +kernel) (by decide +kernel)
set_option maxRecDepth 20000 in
theorem gL_law_X5_ifTurned : GoodIn wsL_law (wsV RL 68 RX5 yX5_ifTurned wsX5_ifTurned) := goodIn_app (goodIn_of _ (by decide +kernel)) ggL_law_X5_ifTurned
set_option maxRecDepth 20000 in
theorem ggL_law_X4_widestGap : GoodIn wsL_law wsX4_widestGap := goodIn_r _ [564, 17, 16, 208, 84, 81, 85, 72, 109, 110, 111, 71, 344, 525, 97, 98, 15, 99, 33, 34, 35, 36, 37, 38, 100, 101, 102, 103, 104, 105, 106, 107, 2, 108, 112, 113, 114, 115, 565, 198, 199, 200, 201, 202, 203, 204, 83, 205, 154, 155, 156, 157, 93, 94, 95, 206, 207, 209, 210, 211, 212, 213, 214, 215, 216, 217, 218, 219, 220, 566, 226, 227, 228, 79, 80, 82, 643, 644, 645, 646, 647, 648, 662, 663, 664, 665, 666, 667, 668, 669, 670, 671, 672, 673, 674] (by decide +kernel) (by decide +kernel)
set_option maxRecDepth 20000 in
theorem gL_law_X4_widestGap : GoodIn wsL_law (wsV RL 69 RX4 yX4_widestGap wsX4_widestGap) := goodIn_app (goodIn_of _ (by decide +kernel)) ggL_law_X4_widestGap
set_option maxRecDepth 20000 in
theorem ggL_law_X5_widestGap : GoodIn wsL_law wsX5_widestGap := goodIn_r _ [570, 410, 539, 540, 541, 5, 542, 61, 60, 262, 263, 264, 265, 266, 267, 268, 269, 172, 173, 174, 270, 271, 272, 273, 274, 275, 276, 277, 278, 279, 280, 281, 282, 283, 284, 289, 290, 291, 292, 543, 544, 545, 546, 649, 650, 651, 652, 653, 654, 655, 656, 657, 658, 659, 660, 661] (by decide +kernel) (by decide +kernel)
set_option maxRecDepth 20000 in
theorem gL_law_X5_widestGap : GoodIn wsL_law (wsV RL 72 RX5 yX5_widestGap wsX5_widestGap) := goodIn_app (goodIn_of _ (by decide +kernel)) ggL_law_X5_widestGap
set_option maxRecDepth 20000 in
theorem ggL_law_X4_mostDamp : GoodIn wsL_law wsX4_mostDamp := goodIn_r _ [574, 72, 71, 17, 16, 74, 344, 525, 97, 98, 15, 99, 33, 34, 35, 36, 37, 38, 100, 101, 102, 103, 104, 105, 106, 107, 2, 108, 109, 110, 81, 111, 112, 113, 114, 115, 526, 527, 528, 529, 530, 197, 198, 199, 200, 201, 202, 203, 204, 83, 84, 85, 205, 154, 155, 156, 157, 93, 94, 95, 206, 207, 208, 209, 210, 211, 212, 213, 214, 215, 216, 217, 218, 219, 220, 221, 222, 223, 224, 225, 226, 227, 228, 79, 80, 82, 643, 644, 645, 646, 647, 648, 662, 663, 664, 665, 666, 667, 668, 669, 670, 671, 672, 673, 674] (by decide +kernel) (by decide +kernel)
set_option maxRecDepth 20000 in
theorem gL_law_X4_mostDamp : GoodIn wsL_law (wsV RL 73 RX4 yX4_mostDamp wsX4_mostDamp) := goodIn_app (goodIn_of _ (by decide +kernel)) ggL_law_X4_mostDamp
set_option maxRecDepth 20000 in
theorem ggL_law_X5_mostDamp : GoodIn wsL_law wsX5_mostDamp := goodIn_r _ [578, 60, 410, 535, 536, 537, 5, 538, 539, 540, 541, 542, 61, 258, 259, 260, 261, 262, 263, 264, 265, 266, 267, 268, 269, 172, 173, 174, 270, 271, 272, 273, 274, 275, 276, 277, 278, 279, 280, 281, 282, 283, 284, 285, 286, 287, 288, 289, 290, 291, 292, 293, 294, 295, 296, 297, 298, 299, 300, 543, 544, 545, 546, 649, 650, 651, 652, 653, 654, 655, 656, 657, 658, 659, 660, 661] (by decide +kernel) (by decide +kernel)
set_option maxRecDepth 20000 in
theorem gL_law_X5_mostDamp : GoodIn wsL_law (wsV RL 76 RX5 yX5_mostDamp wsX5_mostDamp) := goodIn_app (goodIn_of _ (by decide +kernel)) ggL_law_X5_mostDamp
set_option maxRecDepth 20000 in
theorem ggL_law_X4_put : GoodIn wsL_law wsX4_put := goodIn_r _ [582, 70, 28, 505, 183, 583, 584, 2, 585, 586, 587, 588, 589, 49, 590, 372, 55, 591, 643, 644, 645, 646, 647, 648, 684, 685] (by decide +kernel) (by decide +kernel)
set_option maxRecDepth 20000 in
theorem gL_law_X4_put : GoodIn wsL_law (wsV RL 79 RX4 yX4_put wsX4_put) := goodIn_app (goodIn_of _ (by decide +kernel)) ggL_law_X4_put
set_option maxRecDepth 20000 in
theorem ggL_law_X5_put : GoodIn wsL_law wsX5_put := goodIn_r _ [595, 120, 413, 253, 65, 596, 597, 598, 5, 599, 600, 601, 131, 132, 133, 649, 650, 651, 652, 653, 654, 655, 656, 657, 658, 659, 660, 661] (by decide +kernel) (by decide +kernel)
set_option maxRecDepth 20000 in
theorem gL_law_X5_put : GoodIn wsL_law (wsV RL 83 RX5 yX5_put wsX5_put) := goodIn_app (goodIn_of _ (by decide +kernel)) ggL_law_X5_put
set_option maxRecDepth 20000 in
theorem ggL_law_X4_wipe : GoodIn wsL_law wsX4_wipe := goodIn_r _ [605, 28, 505, 402, 403, 404, 49, 405, 372, 643, 644, 645, 646, 647, 648, 684, 685] (by decide +kernel) (by decide +kernel)
set_option maxRecDepth 20000 in
theorem gL_law_X4_wipe : GoodIn wsL_law (wsV RL 84 RX4 yX4_wipe wsX4_wipe) := goodIn_app (goodIn_of _ (by decide +kernel)) ggL_law_X4_wipe
set_option maxRecDepth 20000 in
theorem ggL_law_X5_wipe : GoodIn wsL_law wsX5_wipe := goodIn_r _ [609, 413, 649, 650, 651, 652, 653, 654, 655, 656, 657, 658, 659, 660, 661] (by decide +kernel) (by decide +kernel)
set_option maxRecDepth 20000 in
theorem gL_law_X5_wipe : GoodIn wsL_law (wsV RL 87 RX5 yX5_wipe wsX5_wipe) := goodIn_app (goodIn_of _ (by decide +kernel)) ggL_law_X5_wipe
set_option maxRecDepth 20000 in
theorem ggL_law_X4_fault : GoodIn wsL_law wsX4_fault := goodIn_r _ [613, 26, 347, 348, 349, 25, 350, 351, 50, 352, 353, 354, 355, 356, 357, 358, 359, 360, 361, 362, 363, 364, 365, 366, 367, 368, 369, 370, 49, 371, 372, 55, 373, 374, 375, 376, 377, 378, 379, 380, 381, 382, 383, 384, 385, 386, 387, 388, 389, 390, 643, 644, 645, 646, 647, 648, 678, 679, 680, 681, 682, 683, 684, 685] (by decide +kernel) (by decide +kernel)
set_option maxRecDepth 20000 in
theorem gL_law_X4_fault : GoodIn wsL_law (wsV RL 88 RX4 yX4_fault wsX4_fault) := goodIn_app (goodIn_of _ (by decide +kernel)) ggL_law_X4_fault
set_option maxRecDepth 20000 in
theorem ggL_law_X5_fault : GoodIn wsL_law wsX5_fault := goodIn_r _ [417, 412, 413, 410, 418, 419, 420, 5, 421, 65, 422, 423, 424, 425, 426, 427, 428, 429, 430, 131, 132, 133, 431, 432, 433, 434, 435, 436, 437, 438, 439, 440, 441, 649, 650, 651, 652, 653, 654, 655, 656, 657, 658, 659, 660, 661] (by decide +kernel) (by decide +kernel)
set_option maxRecDepth 20000 in
theorem gL_law_X5_fault : GoodIn wsL_law (wsV RL 91 RX5 yX5_fault wsX5_fault) := goodIn_app (goodIn_of _ (by decide +kernel)) ggL_law_X5_fault
set_option maxRecDepth 20000 in
theorem ggL_law_X4_undo : GoodIn wsL_law wsX4_undo := goodIn_r _ [618, 21, 16, 73, 506, 619, 620, 621, 20, 622, 90, 43, 91, 92, 93, 94, 95, 96, 97, 98, 15, 99, 33, 34, 35, 36, 37, 38, 100, 101, 102, 103, 104, 105, 106, 107, 2, 108, 109, 110, 81, 111, 112, 113, 114, 115, 643, 644, 645, 646, 647, 648, 675, 676, 677, 662, 663, 664, 665, 666, 667, 668, 669, 670, 671, 672, 673, 674] (by decide +kernel) (by decide +kernel)
set_option maxRecDepth 20000 in
theorem gL_law_X4_undo : GoodIn wsL_law (wsV RL 92 RX4 yX4_undo wsX4_undo) := goodIn_app (goodIn_of _ (by decide +kernel)) ggL_law_X4_undo
set_option maxRecDepth 20000 in
theorem ggL_law_X5_undo : GoodIn wsL_law wsX5_undo := goodIn_r _ [626, 138, 121, 60, 62, 649, 650, 651, 652, 653, 654, 655, 656, 657, 658, 659, 660, 661] (by decide +kernel) (by decide +kernel)
set_option maxRecDepth 20000 in
theorem gL_law_X5_undo : GoodIn wsL_law (wsV RL 95 RX5 yX5_undo wsX5_undo) := goodIn_app (goodIn_of _ (by decide +kernel)) ggL_law_X5_undo
set_option maxRecDepth 20000 in
theorem ggL_law_X4_save : GoodIn wsL_law wsX4_save := goodIn_r _ [630, 70, 22, 13, 14, 15, 16, 451, 29, 30, 31, 11, 12, 32, 33, 34, 35, 36, 37, 38, 525, 97, 98, 99, 100, 101, 102, 103, 104, 105, 106, 107, 2, 108, 109, 110, 81, 111, 112, 113, 114, 115, 643, 644, 645, 646, 647, 648, 662, 663, 664, 665, 666, 667, 668, 669, 670, 671, 672, 673, 674] (by decide +kernel) (by decide +kernel)
set_option maxRecDepth 20000 in
theorem gL_law_X4_save : GoodIn wsL_law (wsV RL 96 RX4 yX4_save wsX4_save) := goodIn_app (goodIn_of _ (by decide +kernel)) ggL_law_X4_save
set_option maxRecDepth 20000 in
theorem ggL_law_X5_save : GoodIn wsL_law wsX5_save := goodIn_r _ [634, 120, 63, 60, 64, 165, 166, 5, 167, 649, 650, 651, 652, 653, 654, 655, 656, 657, 658, 659, 660, 661] (by decide +kernel) (by decide +kernel)
set_option maxRecDepth 20000 in
theorem gL_law_X5_save : GoodIn wsL_law (wsV RL 99 RX5 yX5_save wsX5_save) := goodIn_app (goodIn_of _ (by decide +kernel)) ggL_law_X5_save
set_option maxRecDepth 20000 in
theorem ggL_law_X4_restore : GoodIn wsL_law wsX4_restore := goodIn_r _ [638, 70, 22, 73, 21, 16, 451, 86, 87, 88, 20, 89, 90, 91, 43, 42, 14, 15, 92, 93, 94, 95, 29, 30, 31, 11, 12, 32, 33, 34, 35, 36, 37, 38, 96, 97, 98, 99, 100, 101, 102, 103, 104, 105, 106, 107, 2, 108, 109, 110, 81, 111, 112, 113, 114, 115, 525, 643, 644, 645, 646, 647, 648, 662, 663, 664, 665, 666, 667, 668, 669, 670, 671, 672, 673, 674, 675, 676, 677] (by decide +kernel) (by decide +kernel)
set_option maxRecDepth 20000 in
theorem gL_law_X4_restore : GoodIn wsL_law (wsV RL 100 RX4 yX4_restore wsX4_restore) := goodIn_app (goodIn_of _ (by decide +kernel)) ggL_law_X4_restore
set_option maxRecDepth 20000 in
theorem ggL_law_X5_restore : GoodIn wsL_law wsX5_restore := goodIn_r _ [642, 120, 64, 121, 60, 63, 165, 166, 5, 167, 134, 135, 136, 137, 138, 62, 649, 650, 651, 652, 653, 654, 655, 656, 657, 658, 659, 660, 661] (by decide +kernel) (by decide +kernel)
set_option maxRecDepth 20000 in
theorem gL_law_X5_restore : GoodIn wsL_law (wsV RL 103 RX5 yX5_restore wsX5_restore) := goodIn_app (goodIn_of _ (by decide +kernel)) ggL_law_X5_restore
end
section
theorem dX0_init_0 : decode cX0_init 0 = .ok (.aload_n 0, 1) := by decide +kernel
theorem dX0_init_1 : decode cX0_init 1 = .ok (.invokespecial 3, 3) := by decide +kernel
theorem dX0_init_4 : decode cX0_init 4 = .ok (.aload_n 0, 1) := by decide +kernel
theorem dX0_init_5 : decode cX0_init 5 = .ok (.new 9, 3) := by decide +kernel
theorem dX0_init_8 : decode cX0_init 8 = .ok (.dup, 1) := by decide +kernel
theorem dX0_init_9 : decode cX0_init 9 = .ok (.invokespecial 11, 3) := by decide +kernel
theorem dX0_init_12 : decode cX0_init 12 = .ok (.putfield 12, 3) := by decide +kernel
theorem dX0_init_15 : decode cX0_init 15 = .ok (.return_, 1) := by decide +kernel
theorem dX0_start_0 : decode cX0_start 0 = .ok (.aload_n 0, 1) := by decide +kernel
theorem dX0_start_1 : decode cX0_start 1 = .ok (.iconst 0, 1) := by decide +kernel
theorem dX0_start_2 : decode cX0_start 2 = .ok (.putfield 18, 3) := by decide +kernel
theorem dX0_start_5 : decode cX0_start 5 = .ok (.return_, 1) := by decide +kernel
theorem dX0_findFault_0 : decode cX0_findFault 0 = .ok (.aload_n 0, 1) := by decide +kernel
theorem dX0_findFault_1 : decode cX0_findFault 1 = .ok (.invokevirtual 22, 3) := by decide +kernel
theorem dX0_findFault_4 : decode cX0_findFault 4 = .ok (.iconst 0, 1) := by decide +kernel
theorem dX0_findFault_5 : decode cX0_findFault 5 = .ok (.istore_n 1, 1) := by decide +kernel
theorem dX0_findFault_6 : decode cX0_findFault 6 = .ok (.iload_n 1, 1) := by decide +kernel
theorem dX0_findFault_7 : decode cX0_findFault 7 = .ok (.bipush 60, 2) := by decide +kernel
theorem dX0_findFault_9 : decode cX0_findFault 9 = .ok (.if_icmp .gt 33, 3) := by decide +kernel
theorem dX0_findFault_12 : decode cX0_findFault 12 = .ok (.aload_n 0, 1) := by decide +kernel
theorem dX0_findFault_13 : decode cX0_findFault 13 = .ok (.invokevirtual 25, 3) := by decide +kernel
theorem dX0_findFault_16 : decode cX0_findFault 16 = .ok (.ifCond .ne 8, 3) := by decide +kernel
theorem dX0_findFault_19 : decode cX0_findFault 19 = .ok (.aload_n 0, 1) := by decide +kernel
theorem dX0_findFault_20 : decode cX0_findFault 20 = .ok (.getfield 18, 3) := by decide +kernel
theorem dX0_findFault_23 : decode cX0_findFault 23 = .ok (.ireturn, 1) := by decide +kernel
theorem dX0_findFault_24 : decode cX0_findFault 24 = .ok (.aload_n 0, 1) := by decide +kernel
theorem dX0_findFault_25 : decode cX0_findFault 25 = .ok (.bipush 59, 2) := by decide +kernel
theorem dX0_findFault_27 : decode cX0_findFault 27 = .ok (.invokevirtual 29, 3) := by decide +kernel
theorem dX0_findFault_30 : decode cX0_findFault 30 = .ok (.ifCond .ne 6, 3) := by decide +kernel
theorem dX0_findFault_33 : decode cX0_findFault 33 = .ok (.goto 9, 3) := by decide +kernel
theorem dX0_findFault_36 : decode cX0_findFault 36 = .ok (.iinc 1 1, 3) := by decide +kernel
theorem dX0_findFault_39 : decode cX0_findFault 39 = .ok (.goto (-33), 3) := by decide +kernel
theorem dX0_findFault_42 : decode cX0_findFault 42 = .ok (.aload_n 0, 1) := by decide +kernel
theorem dX0_findFault_43 : decode cX0_findFault 43 = .ok (.getfield 18, 3) := by decide +kernel
theorem dX0_findFault_46 : decode cX0_findFault 46 = .ok (.aload_n 0, 1) := by decide +kernel
theorem dX0_findFault_47 : decode cX0_findFault 47 = .ok (.getfield 12, 3) := by decide +kernel
theorem dX0_findFault_50 : decode cX0_findFault 50 = .ok (.getfield 33, 3) := by decide +kernel
theorem dX0_findFault_53 : decode cX0_findFault 53 = .ok (.if_icmp .ne 8, 3) := by decide +kernel
theorem dX0_findFault_56 : decode cX0_findFault 56 = .ok (.ldc 36, 2) := by decide +kernel
theorem dX0_findFault_58 : decode cX0_findFault 58 = .ok (.goto 7, 3) := by decide +kernel
theorem dX0_findFault_61 : decode cX0_findFault 61 = .ok (.aload_n 0, 1) := by decide +kernel
theorem dX0_findFault_62 : decode cX0_findFault 62 = .ok (.getfield 18, 3) := by decide +kernel
theorem dX0_findFault_65 : decode cX0_findFault 65 = .ok (.ireturn, 1) := by decide +kernel
theorem dX0_readSign_0 : decode cX0_readSign 0 = .ok (.aload_n 0, 1) := by decide +kernel
theorem dX0_readSign_1 : decode cX0_readSign 1 = .ok (.getfield 12, 3) := by decide +kernel
theorem dX0_readSign_4 : decode cX0_readSign 4 = .ok (.aload_n 0, 1) := by decide +kernel
theorem dX0_readSign_5 : decode cX0_readSign 5 = .ok (.getfield 18, 3) := by decide +kernel
theorem dX0_readSign_8 : decode cX0_readSign 8 = .ok (.invokevirtual 37, 3) := by decide +kernel
theorem dX0_readSign_11 : decode cX0_readSign 11 = .ok (.iload_n 1, 1) := by decide +kernel
theorem dX0_readSign_12 : decode cX0_readSign 12 = .ok (.if_icmp .eq 5, 3) := by decide +kernel
theorem dX0_readSign_15 : decode cX0_readSign 15 = .ok (.iconst 0, 1) := by decide +kernel
theorem dX0_readSign_16 : decode cX0_readSign 16 = .ok (.ireturn, 1) := by decide +kernel
theorem dX0_readSign_17 : decode cX0_readSign 17 = .ok (.aload_n 0, 1) := by decide +kernel
theorem dX0_readSign_18 : decode cX0_readSign 18 = .ok (.dup, 1) := by decide +kernel
theorem dX0_readSign_19 : decode cX0_readSign 19 = .ok (.getfield 18, 3) := by decide +kernel
theorem dX0_readSign_22 : decode cX0_readSign 22 = .ok (.iconst 1, 1) := by decide +kernel
theorem dX0_readSign_23 : decode cX0_readSign 23 = .ok (.iadd, 1) := by decide +kernel
theorem dX0_readSign_24 : decode cX0_readSign 24 = .ok (.putfield 18, 3) := by decide +kernel
theorem dX0_readSign_27 : decode cX0_readSign 27 = .ok (.iconst 1, 1) := by decide +kernel
theorem dX0_readSign_28 : decode cX0_readSign 28 = .ok (.ireturn, 1) := by decide +kernel
theorem dX0_readDeed_0 : decode cX0_readDeed 0 = .ok (.aload_n 0, 1) := by decide +kernel
theorem dX0_readDeed_1 : decode cX0_readDeed 1 = .ok (.bipush 120, 2) := by decide +kernel
theorem dX0_readDeed_3 : decode cX0_readDeed 3 = .ok (.invokevirtual 29, 3) := by decide +kernel
theorem dX0_readDeed_6 : decode cX0_readDeed 6 = .ok (.ifCond .eq 10, 3) := by decide +kernel
theorem dX0_readDeed_9 : decode cX0_readDeed 9 = .ok (.aload_n 0, 1) := by decide +kernel
theorem dX0_readDeed_10 : decode cX0_readDeed 10 = .ok (.iconst 2, 1) := by decide +kernel
theorem dX0_readDeed_11 : decode cX0_readDeed 11 = .ok (.putfield 41, 3) := by decide +kernel
theorem dX0_readDeed_14 : decode cX0_readDeed 14 = .ok (.iconst 1, 1) := by decide +kernel
theorem dX0_readDeed_15 : decode cX0_readDeed 15 = .ok (.ireturn, 1) := by decide +kernel
theorem dX0_readDeed_16 : decode cX0_readDeed 16 = .ok (.aload_n 0, 1) := by decide +kernel
theorem dX0_readDeed_17 : decode cX0_readDeed 17 = .ok (.bipush 46, 2) := by decide +kernel
theorem dX0_readDeed_19 : decode cX0_readDeed 19 = .ok (.invokevirtual 29, 3) := by decide +kernel
theorem dX0_readDeed_22 : decode cX0_readDeed 22 = .ok (.ifCond .eq 33, 3) := by decide +kernel
theorem dX0_readDeed_25 : decode cX0_readDeed 25 = .ok (.aload_n 0, 1) := by decide +kernel
theorem dX0_readDeed_26 : decode cX0_readDeed 26 = .ok (.iconst 1, 1) := by decide +kernel
theorem dX0_readDeed_27 : decode cX0_readDeed 27 = .ok (.putfield 41, 3) := by decide +kernel
theorem dX0_readDeed_30 : decode cX0_readDeed 30 = .ok (.aload_n 0, 1) := by decide +kernel
theorem dX0_readDeed_31 : decode cX0_readDeed 31 = .ok (.aload_n 0, 1) := by decide +kernel
theorem dX0_readDeed_32 : decode cX0_readDeed 32 = .ok (.iconst 1, 1) := by decide +kernel
theorem dX0_readDeed_33 : decode cX0_readDeed 33 = .ok (.bipush 99, 2) := by decide +kernel
theorem dX0_readDeed_35 : decode cX0_readDeed 35 = .ok (.invokevirtual 44, 3) := by decide +kernel
theorem dX0_readDeed_38 : decode cX0_readDeed 38 = .ok (.putfield 48, 3) := by decide +kernel
theorem dX0_readDeed_41 : decode cX0_readDeed 41 = .ok (.aload_n 0, 1) := by decide +kernel
theorem dX0_readDeed_42 : decode cX0_readDeed 42 = .ok (.getfield 48, 3) := by decide +kernel
theorem dX0_readDeed_45 : decode cX0_readDeed 45 = .ok (.iconst (-1), 1) := by decide +kernel
theorem dX0_readDeed_46 : decode cX0_readDeed 46 = .ok (.if_icmp .eq 7, 3) := by decide +kernel
theorem dX0_readDeed_49 : decode cX0_readDeed 49 = .ok (.iconst 1, 1) := by decide +kernel
theorem dX0_readDeed_50 : decode cX0_readDeed 50 = .ok (.goto 4, 3) := by decide +kernel
theorem dX0_readDeed_53 : decode cX0_readDeed 53 = .ok (.iconst 0, 1) := by decide +kernel
theorem dX0_readDeed_54 : decode cX0_readDeed 54 = .ok (.ireturn, 1) := by decide +kernel
theorem dX0_readDeed_55 : decode cX0_readDeed 55 = .ok (.aload_n 0, 1) := by decide +kernel
theorem dX0_readDeed_56 : decode cX0_readDeed 56 = .ok (.iconst 0, 1) := by decide +kernel
theorem dX0_readDeed_57 : decode cX0_readDeed 57 = .ok (.putfield 41, 3) := by decide +kernel
theorem dX0_readDeed_60 : decode cX0_readDeed 60 = .ok (.aload_n 0, 1) := by decide +kernel
theorem dX0_readDeed_61 : decode cX0_readDeed 61 = .ok (.invokevirtual 51, 3) := by decide +kernel
theorem dX0_readDeed_64 : decode cX0_readDeed 64 = .ok (.ifCond .eq 23, 3) := by decide +kernel
theorem dX0_readDeed_67 : decode cX0_readDeed 67 = .ok (.aload_n 0, 1) := by decide +kernel
theorem dX0_readDeed_68 : decode cX0_readDeed 68 = .ok (.bipush 61, 2) := by decide +kernel
theorem dX0_readDeed_70 : decode cX0_readDeed 70 = .ok (.invokevirtual 29, 3) := by decide +kernel
theorem dX0_readDeed_73 : decode cX0_readDeed 73 = .ok (.ifCond .eq 14, 3) := by decide +kernel
theorem dX0_readDeed_76 : decode cX0_readDeed 76 = .ok (.aload_n 0, 1) := by decide +kernel
theorem dX0_readDeed_77 : decode cX0_readDeed 77 = .ok (.invokevirtual 54, 3) := by decide +kernel
theorem dX0_readDeed_80 : decode cX0_readDeed 80 = .ok (.ifCond .eq 7, 3) := by decide +kernel
theorem dX0_readDeed_83 : decode cX0_readDeed 83 = .ok (.iconst 1, 1) := by decide +kernel
theorem dX0_readDeed_84 : decode cX0_readDeed 84 = .ok (.goto 4, 3) := by decide +kernel
theorem dX0_readDeed_87 : decode cX0_readDeed 87 = .ok (.iconst 0, 1) := by decide +kernel
theorem dX0_readDeed_88 : decode cX0_readDeed 88 = .ok (.ireturn, 1) := by decide +kernel
theorem dX0_readSector_0 : decode cX0_readSector 0 = .ok (.aload_n 0, 1) := by decide +kernel
theorem dX0_readSector_1 : decode cX0_readSector 1 = .ok (.bipush 102, 2) := by decide +kernel
theorem dX0_readSector_3 : decode cX0_readSector 3 = .ok (.invokevirtual 29, 3) := by decide +kernel
theorem dX0_readSector_6 : decode cX0_readSector 6 = .ok (.ifCond .eq 11, 3) := by decide +kernel
theorem dX0_readSector_9 : decode cX0_readSector 9 = .ok (.aload_n 0, 1) := by decide +kernel
theorem dX0_readSector_10 : decode cX0_readSector 10 = .ok (.iconst 0, 1) := by decide +kernel
theorem dX0_readSector_11 : decode cX0_readSector 11 = .ok (.putfield 57, 3) := by decide +kernel
theorem dX0_readSector_14 : decode cX0_readSector 14 = .ok (.goto 22, 3) := by decide +kernel
theorem dX0_readSector_17 : decode cX0_readSector 17 = .ok (.aload_n 0, 1) := by decide +kernel
theorem dX0_readSector_18 : decode cX0_readSector 18 = .ok (.bipush 98, 2) := by decide +kernel
theorem dX0_readSector_20 : decode cX0_readSector 20 = .ok (.invokevirtual 29, 3) := by decide +kernel
theorem dX0_readSector_23 : decode cX0_readSector 23 = .ok (.ifCond .eq 11, 3) := by decide +kernel
theorem dX0_readSector_26 : decode cX0_readSector 26 = .ok (.aload_n 0, 1) := by decide +kernel
theorem dX0_readSector_27 : decode cX0_readSector 27 = .ok (.iconst 1, 1) := by decide +kernel
theorem dX0_readSector_28 : decode cX0_readSector 28 = .ok (.putfield 57, 3) := by decide +kernel
theorem dX0_readSector_31 : decode cX0_readSector 31 = .ok (.goto 5, 3) := by decide +kernel
theorem dX0_readSector_34 : decode cX0_readSector 34 = .ok (.iconst 0, 1) := by decide +kernel
theorem dX0_readSector_35 : decode cX0_readSector 35 = .ok (.ireturn, 1) := by decide +kernel
theorem dX0_readSector_36 : decode cX0_readSector 36 = .ok (.aload_n 0, 1) := by decide +kernel
theorem dX0_readSector_37 : decode cX0_readSector 37 = .ok (.aload_n 0, 1) := by decide +kernel
theorem dX0_readSector_38 : decode cX0_readSector 38 = .ok (.iconst 0, 1) := by decide +kernel
theorem dX0_readSector_39 : decode cX0_readSector 39 = .ok (.bipush 11, 2) := by decide +kernel
theorem dX0_readSector_41 : decode cX0_readSector 41 = .ok (.invokevirtual 44, 3) := by decide +kernel
theorem dX0_readSector_44 : decode cX0_readSector 44 = .ok (.putfield 60, 3) := by decide +kernel
theorem dX0_readSector_47 : decode cX0_readSector 47 = .ok (.aload_n 0, 1) := by decide +kernel
theorem dX0_readSector_48 : decode cX0_readSector 48 = .ok (.getfield 60, 3) := by decide +kernel
theorem dX0_readSector_51 : decode cX0_readSector 51 = .ok (.iconst (-1), 1) := by decide +kernel
theorem dX0_readSector_52 : decode cX0_readSector 52 = .ok (.if_icmp .eq 7, 3) := by decide +kernel
theorem dX0_readSector_55 : decode cX0_readSector 55 = .ok (.iconst 1, 1) := by decide +kernel
theorem dX0_readSector_56 : decode cX0_readSector 56 = .ok (.goto 4, 3) := by decide +kernel
theorem dX0_readSector_59 : decode cX0_readSector 59 = .ok (.iconst 0, 1) := by decide +kernel
theorem dX0_readSector_60 : decode cX0_readSector 60 = .ok (.ireturn, 1) := by decide +kernel
theorem dX0_readCharge_0 : decode cX0_readCharge 0 = .ok (.aload_n 0, 1) := by decide +kernel
theorem dX0_readCharge_1 : decode cX0_readCharge 1 = .ok (.bipush 45, 2) := by decide +kernel
theorem dX0_readCharge_3 : decode cX0_readCharge 3 = .ok (.invokevirtual 29, 3) := by decide +kernel
theorem dX0_readCharge_6 : decode cX0_readCharge 6 = .ok (.istore_n 1, 1) := by decide +kernel
theorem dX0_readCharge_7 : decode cX0_readCharge 7 = .ok (.aload_n 0, 1) := by decide +kernel
theorem dX0_readCharge_8 : decode cX0_readCharge 8 = .ok (.iconst 0, 1) := by decide +kernel
theorem dX0_readCharge_9 : decode cX0_readCharge 9 = .ok (.bipush 99, 2) := by decide +kernel
theorem dX0_readCharge_11 : decode cX0_readCharge 11 = .ok (.invokevirtual 44, 3) := by decide +kernel
theorem dX0_readCharge_14 : decode cX0_readCharge 14 = .ok (.istore_n 2, 1) := by decide +kernel
theorem dX0_readCharge_15 : decode cX0_readCharge 15 = .ok (.iload_n 2, 1) := by decide +kernel
theorem dX0_readCharge_16 : decode cX0_readCharge 16 = .ok (.iconst (-1), 1) := by decide +kernel
theorem dX0_readCharge_17 : decode cX0_readCharge 17 = .ok (.if_icmp .ne 5, 3) := by decide +kernel
theorem dX0_readCharge_20 : decode cX0_readCharge 20 = .ok (.iconst 0, 1) := by decide +kernel
theorem dX0_readCharge_21 : decode cX0_readCharge 21 = .ok (.ireturn, 1) := by decide +kernel
theorem dX0_readCharge_22 : decode cX0_readCharge 22 = .ok (.aload_n 0, 1) := by decide +kernel
theorem dX0_readCharge_23 : decode cX0_readCharge 23 = .ok (.iload_n 1, 1) := by decide +kernel
theorem dX0_readCharge_24 : decode cX0_readCharge 24 = .ok (.ifCond .eq 8, 3) := by decide +kernel
theorem dX0_readCharge_27 : decode cX0_readCharge 27 = .ok (.iload_n 2, 1) := by decide +kernel
theorem dX0_readCharge_28 : decode cX0_readCharge 28 = .ok (.ineg, 1) := by decide +kernel
theorem dX0_readCharge_29 : decode cX0_readCharge 29 = .ok (.goto 4, 3) := by decide +kernel
theorem dX0_readCharge_32 : decode cX0_readCharge 32 = .ok (.iload_n 2, 1) := by decide +kernel
theorem dX0_readCharge_33 : decode cX0_readCharge 33 = .ok (.putfield 48, 3) := by decide +kernel
theorem dX0_readCharge_36 : decode cX0_readCharge 36 = .ok (.iconst 1, 1) := by decide +kernel
theorem dX0_readCharge_37 : decode cX0_readCharge 37 = .ok (.ireturn, 1) := by decide +kernel
theorem dX0_readNumber_0 : decode cX0_readNumber 0 = .ok (.aload_n 0, 1) := by decide +kernel
theorem dX0_readNumber_1 : decode cX0_readNumber 1 = .ok (.aload_n 0, 1) := by decide +kernel
theorem dX0_readNumber_2 : decode cX0_readNumber 2 = .ok (.getfield 18, 3) := by decide +kernel
theorem dX0_readNumber_5 : decode cX0_readNumber 5 = .ok (.invokevirtual 63, 3) := by decide +kernel
theorem dX0_readNumber_8 : decode cX0_readNumber 8 = .ok (.istore_n 3, 1) := by decide +kernel
theorem dX0_readNumber_9 : decode cX0_readNumber 9 = .ok (.iload_n 3, 1) := by decide +kernel
theorem dX0_readNumber_10 : decode cX0_readNumber 10 = .ok (.iload_n 1, 1) := by decide +kernel
theorem dX0_readNumber_11 : decode cX0_readNumber 11 = .ok (.if_icmp .ge 5, 3) := by decide +kernel
theorem dX0_readNumber_14 : decode cX0_readNumber 14 = .ok (.iconst (-1), 1) := by decide +kernel
theorem dX0_readNumber_15 : decode cX0_readNumber 15 = .ok (.ireturn, 1) := by decide +kernel
theorem dX0_readNumber_16 : decode cX0_readNumber 16 = .ok (.aload_n 0, 1) := by decide +kernel
theorem dX0_readNumber_17 : decode cX0_readNumber 17 = .ok (.dup, 1) := by decide +kernel
theorem dX0_readNumber_18 : decode cX0_readNumber 18 = .ok (.getfield 18, 3) := by decide +kernel
theorem dX0_readNumber_21 : decode cX0_readNumber 21 = .ok (.iconst 1, 1) := by decide +kernel
theorem dX0_readNumber_22 : decode cX0_readNumber 22 = .ok (.iadd, 1) := by decide +kernel
theorem dX0_readNumber_23 : decode cX0_readNumber 23 = .ok (.putfield 18, 3) := by decide +kernel
theorem dX0_readNumber_26 : decode cX0_readNumber 26 = .ok (.iconst 0, 1) := by decide +kernel
theorem dX0_readNumber_27 : decode cX0_readNumber 27 = .ok (.istore 4, 2) := by decide +kernel
theorem dX0_readNumber_29 : decode cX0_readNumber 29 = .ok (.iload 4, 2) := by decide +kernel
theorem dX0_readNumber_31 : decode cX0_readNumber 31 = .ok (.bipush 60, 2) := by decide +kernel
theorem dX0_readNumber_33 : decode cX0_readNumber 33 = .ok (.if_icmp .ge 61, 3) := by decide +kernel
theorem dX0_readNumber_36 : decode cX0_readNumber 36 = .ok (.iload_n 3, 1) := by decide +kernel
theorem dX0_readNumber_37 : decode cX0_readNumber 37 = .ok (.ifCond .le 57, 3) := by decide +kernel
theorem dX0_readNumber_40 : decode cX0_readNumber 40 = .ok (.aload_n 0, 1) := by decide +kernel
theorem dX0_readNumber_41 : decode cX0_readNumber 41 = .ok (.aload_n 0, 1) := by decide +kernel
theorem dX0_readNumber_42 : decode cX0_readNumber 42 = .ok (.getfield 18, 3) := by decide +kernel
theorem dX0_readNumber_45 : decode cX0_readNumber 45 = .ok (.invokevirtual 63, 3) := by decide +kernel
theorem dX0_readNumber_48 : decode cX0_readNumber 48 = .ok (.istore 5, 2) := by decide +kernel
theorem dX0_readNumber_50 : decode cX0_readNumber 50 = .ok (.iload 5, 2) := by decide +kernel
theorem dX0_readNumber_52 : decode cX0_readNumber 52 = .ok (.iconst (-1), 1) := by decide +kernel
theorem dX0_readNumber_53 : decode cX0_readNumber 53 = .ok (.if_icmp .eq 41, 3) := by decide +kernel
theorem dX0_readNumber_56 : decode cX0_readNumber 56 = .ok (.bipush 10, 2) := by decide +kernel
theorem dX0_readNumber_58 : decode cX0_readNumber 58 = .ok (.iload_n 3, 1) := by decide +kernel
theorem dX0_readNumber_59 : decode cX0_readNumber 59 = .ok (.imul, 1) := by decide +kernel
theorem dX0_readNumber_60 : decode cX0_readNumber 60 = .ok (.iload 5, 2) := by decide +kernel
theorem dX0_readNumber_62 : decode cX0_readNumber 62 = .ok (.iadd, 1) := by decide +kernel
theorem dX0_readNumber_63 : decode cX0_readNumber 63 = .ok (.iload_n 2, 1) := by decide +kernel
theorem dX0_readNumber_64 : decode cX0_readNumber 64 = .ok (.if_icmp .le 6, 3) := by decide +kernel
theorem dX0_readNumber_67 : decode cX0_readNumber 67 = .ok (.goto 27, 3) := by decide +kernel
theorem dX0_readNumber_70 : decode cX0_readNumber 70 = .ok (.bipush 10, 2) := by decide +kernel
theorem dX0_readNumber_72 : decode cX0_readNumber 72 = .ok (.iload_n 3, 1) := by decide +kernel
theorem dX0_readNumber_73 : decode cX0_readNumber 73 = .ok (.imul, 1) := by decide +kernel
theorem dX0_readNumber_74 : decode cX0_readNumber 74 = .ok (.iload 5, 2) := by decide +kernel
theorem dX0_readNumber_76 : decode cX0_readNumber 76 = .ok (.iadd, 1) := by decide +kernel
theorem dX0_readNumber_77 : decode cX0_readNumber 77 = .ok (.istore_n 3, 1) := by decide +kernel
theorem dX0_readNumber_78 : decode cX0_readNumber 78 = .ok (.aload_n 0, 1) := by decide +kernel
theorem dX0_readNumber_79 : decode cX0_readNumber 79 = .ok (.dup, 1) := by decide +kernel
theorem dX0_readNumber_80 : decode cX0_readNumber 80 = .ok (.getfield 18, 3) := by decide +kernel
theorem dX0_readNumber_83 : decode cX0_readNumber 83 = .ok (.iconst 1, 1) := by decide +kernel
theorem dX0_readNumber_84 : decode cX0_readNumber 84 = .ok (.iadd, 1) := by decide +kernel
theorem dX0_readNumber_85 : decode cX0_readNumber 85 = .ok (.putfield 18, 3) := by decide +kernel
theorem dX0_readNumber_88 : decode cX0_readNumber 88 = .ok (.iinc 4 1, 3) := by decide +kernel
theorem dX0_readNumber_91 : decode cX0_readNumber 91 = .ok (.goto (-62), 3) := by decide +kernel
theorem dX0_readNumber_94 : decode cX0_readNumber 94 = .ok (.iload_n 3, 1) := by decide +kernel
theorem dX0_readNumber_95 : decode cX0_readNumber 95 = .ok (.ireturn, 1) := by decide +kernel
theorem dX0_digitAt_0 : decode cX0_digitAt 0 = .ok (.aload_n 0, 1) := by decide +kernel
theorem dX0_digitAt_1 : decode cX0_digitAt 1 = .ok (.getfield 12, 3) := by decide +kernel
theorem dX0_digitAt_4 : decode cX0_digitAt 4 = .ok (.iload_n 1, 1) := by decide +kernel
theorem dX0_digitAt_5 : decode cX0_digitAt 5 = .ok (.invokevirtual 37, 3) := by decide +kernel
theorem dX0_digitAt_8 : decode cX0_digitAt 8 = .ok (.istore_n 2, 1) := by decide +kernel
theorem dX0_digitAt_9 : decode cX0_digitAt 9 = .ok (.iload_n 2, 1) := by decide +kernel
theorem dX0_digitAt_10 : decode cX0_digitAt 10 = .ok (.bipush 48, 2) := by decide +kernel
theorem dX0_digitAt_12 : decode cX0_digitAt 12 = .ok (.if_icmp .lt 16, 3) := by decide +kernel
theorem dX0_digitAt_15 : decode cX0_digitAt 15 = .ok (.iload_n 2, 1) := by decide +kernel
theorem dX0_digitAt_16 : decode cX0_digitAt 16 = .ok (.bipush 57, 2) := by decide +kernel
theorem dX0_digitAt_18 : decode cX0_digitAt 18 = .ok (.if_icmp .gt 10, 3) := by decide +kernel
theorem dX0_digitAt_21 : decode cX0_digitAt 21 = .ok (.iload_n 2, 1) := by decide +kernel
theorem dX0_digitAt_22 : decode cX0_digitAt 22 = .ok (.bipush 48, 2) := by decide +kernel
theorem dX0_digitAt_24 : decode cX0_digitAt 24 = .ok (.isub, 1) := by decide +kernel
theorem dX0_digitAt_25 : decode cX0_digitAt 25 = .ok (.goto 4, 3) := by decide +kernel
theorem dX0_digitAt_28 : decode cX0_digitAt 28 = .ok (.iconst (-1), 1) := by decide +kernel
theorem dX0_digitAt_29 : decode cX0_digitAt 29 = .ok (.ireturn, 1) := by decide +kernel
theorem dX1_init_0 : decode cX1_init 0 = .ok (.aload_n 0, 1) := by decide +kernel
theorem dX1_init_1 : decode cX1_init 1 = .ok (.invokespecial 3, 3) := by decide +kernel
theorem dX1_init_4 : decode cX1_init 4 = .ok (.aload_n 0, 1) := by decide +kernel
theorem dX1_init_5 : decode cX1_init 5 = .ok (.bipush 6, 2) := by decide +kernel
theorem dX1_init_7 : decode cX1_init 7 = .ok (.anewarray 9, 3) := by decide +kernel
theorem dX1_init_10 : decode cX1_init 10 = .ok (.putfield 11, 3) := by decide +kernel
theorem dX1_init_13 : decode cX1_init 13 = .ok (.return_, 1) := by decide +kernel
theorem dX1_record_0 : decode cX1_record 0 = .ok (.aload_n 0, 1) := by decide +kernel
theorem dX1_record_1 : decode cX1_record 1 = .ok (.getfield 17, 3) := by decide +kernel
theorem dX1_record_4 : decode cX1_record 4 = .ok (.bipush 6, 2) := by decide +kernel
theorem dX1_record_6 : decode cX1_record 6 = .ok (.if_icmp .ne 23, 3) := by decide +kernel
theorem dX1_record_9 : decode cX1_record 9 = .ok (.aload_n 0, 1) := by decide +kernel
theorem dX1_record_10 : decode cX1_record 10 = .ok (.dup, 1) := by decide +kernel
theorem dX1_record_11 : decode cX1_record 11 = .ok (.getfield 21, 3) := by decide +kernel
theorem dX1_record_14 : decode cX1_record 14 = .ok (.iconst 1, 1) := by decide +kernel
theorem dX1_record_15 : decode cX1_record 15 = .ok (.iadd, 1) := by decide +kernel
theorem dX1_record_16 : decode cX1_record 16 = .ok (.putfield 21, 3) := by decide +kernel
theorem dX1_record_19 : decode cX1_record 19 = .ok (.aload_n 0, 1) := by decide +kernel
theorem dX1_record_20 : decode cX1_record 20 = .ok (.dup, 1) := by decide +kernel
theorem dX1_record_21 : decode cX1_record 21 = .ok (.getfield 17, 3) := by decide +kernel
theorem dX1_record_24 : decode cX1_record 24 = .ok (.iconst 1, 1) := by decide +kernel
theorem dX1_record_25 : decode cX1_record 25 = .ok (.isub, 1) := by decide +kernel
theorem dX1_record_26 : decode cX1_record 26 = .ok (.putfield 17, 3) := by decide +kernel
theorem dX1_record_29 : decode cX1_record 29 = .ok (.aload_n 0, 1) := by decide +kernel
theorem dX1_record_30 : decode cX1_record 30 = .ok (.getfield 21, 3) := by decide +kernel
theorem dX1_record_33 : decode cX1_record 33 = .ok (.aload_n 0, 1) := by decide +kernel
theorem dX1_record_34 : decode cX1_record 34 = .ok (.getfield 17, 3) := by decide +kernel
theorem dX1_record_37 : decode cX1_record 37 = .ok (.iadd, 1) := by decide +kernel
theorem dX1_record_38 : decode cX1_record 38 = .ok (.bipush 6, 2) := by decide +kernel
theorem dX1_record_40 : decode cX1_record 40 = .ok (.invokestatic 24, 3) := by decide +kernel
theorem dX1_record_43 : decode cX1_record 43 = .ok (.istore_n 2, 1) := by decide +kernel
theorem dX1_record_44 : decode cX1_record 44 = .ok (.aload_n 0, 1) := by decide +kernel
theorem dX1_record_45 : decode cX1_record 45 = .ok (.getfield 11, 3) := by decide +kernel
theorem dX1_record_48 : decode cX1_record 48 = .ok (.iload_n 2, 1) := by decide +kernel
theorem dX1_record_49 : decode cX1_record 49 = .ok (.aaload, 1) := by decide +kernel
theorem dX1_record_50 : decode cX1_record 50 = .ok (.astore_n 3, 1) := by decide +kernel
theorem dX1_record_51 : decode cX1_record 51 = .ok (.aload_n 3, 1) := by decide +kernel
theorem dX1_record_52 : decode cX1_record 52 = .ok (.ifnonnull 18, 3) := by decide +kernel
theorem dX1_record_55 : decode cX1_record 55 = .ok (.new 9, 3) := by decide +kernel
theorem dX1_record_58 : decode cX1_record 58 = .ok (.dup, 1) := by decide +kernel
theorem dX1_record_59 : decode cX1_record 59 = .ok (.invokespecial 30, 3) := by decide +kernel
theorem dX1_record_62 : decode cX1_record 62 = .ok (.astore_n 3, 1) := by decide +kernel
theorem dX1_record_63 : decode cX1_record 63 = .ok (.aload_n 0, 1) := by decide +kernel
theorem dX1_record_64 : decode cX1_record 64 = .ok (.getfield 11, 3) := by decide +kernel
theorem dX1_record_67 : decode cX1_record 67 = .ok (.iload_n 2, 1) := by decide +kernel
theorem dX1_record_68 : decode cX1_record 68 = .ok (.aload_n 3, 1) := by decide +kernel
theorem dX1_record_69 : decode cX1_record 69 = .ok (.aastore, 1) := by decide +kernel
theorem dX1_record_70 : decode cX1_record 70 = .ok (.aload_n 3, 1) := by decide +kernel
theorem dX1_record_71 : decode cX1_record 71 = .ok (.aload_n 1, 1) := by decide +kernel
theorem dX1_record_72 : decode cX1_record 72 = .ok (.invokevirtual 31, 3) := by decide +kernel
theorem dX1_record_75 : decode cX1_record 75 = .ok (.aload_n 0, 1) := by decide +kernel
theorem dX1_record_76 : decode cX1_record 76 = .ok (.dup, 1) := by decide +kernel
theorem dX1_record_77 : decode cX1_record 77 = .ok (.getfield 17, 3) := by decide +kernel
theorem dX1_record_80 : decode cX1_record 80 = .ok (.iconst 1, 1) := by decide +kernel
theorem dX1_record_81 : decode cX1_record 81 = .ok (.iadd, 1) := by decide +kernel
theorem dX1_record_82 : decode cX1_record 82 = .ok (.putfield 17, 3) := by decide +kernel
theorem dX1_record_85 : decode cX1_record 85 = .ok (.return_, 1) := by decide +kernel
theorem dX1_takeBack_0 : decode cX1_takeBack 0 = .ok (.aload_n 0, 1) := by decide +kernel
theorem dX1_takeBack_1 : decode cX1_takeBack 1 = .ok (.getfield 17, 3) := by decide +kernel
theorem dX1_takeBack_4 : decode cX1_takeBack 4 = .ok (.ifCond .ne 5, 3) := by decide +kernel
theorem dX1_takeBack_7 : decode cX1_takeBack 7 = .ok (.iconst 0, 1) := by decide +kernel
theorem dX1_takeBack_8 : decode cX1_takeBack 8 = .ok (.ireturn, 1) := by decide +kernel
theorem dX1_takeBack_9 : decode cX1_takeBack 9 = .ok (.aload_n 0, 1) := by decide +kernel
theorem dX1_takeBack_10 : decode cX1_takeBack 10 = .ok (.getfield 11, 3) := by decide +kernel
theorem dX1_takeBack_13 : decode cX1_takeBack 13 = .ok (.aload_n 0, 1) := by decide +kernel
theorem dX1_takeBack_14 : decode cX1_takeBack 14 = .ok (.getfield 21, 3) := by decide +kernel
theorem dX1_takeBack_17 : decode cX1_takeBack 17 = .ok (.aload_n 0, 1) := by decide +kernel
theorem dX1_takeBack_18 : decode cX1_takeBack 18 = .ok (.getfield 17, 3) := by decide +kernel
theorem dX1_takeBack_21 : decode cX1_takeBack 21 = .ok (.iadd, 1) := by decide +kernel
theorem dX1_takeBack_22 : decode cX1_takeBack 22 = .ok (.iconst 1, 1) := by decide +kernel
theorem dX1_takeBack_23 : decode cX1_takeBack 23 = .ok (.isub, 1) := by decide +kernel
theorem dX1_takeBack_24 : decode cX1_takeBack 24 = .ok (.bipush 6, 2) := by decide +kernel
theorem dX1_takeBack_26 : decode cX1_takeBack 26 = .ok (.invokestatic 24, 3) := by decide +kernel
theorem dX1_takeBack_29 : decode cX1_takeBack 29 = .ok (.aaload, 1) := by decide +kernel
theorem dX1_takeBack_30 : decode cX1_takeBack 30 = .ok (.astore_n 2, 1) := by decide +kernel
theorem dX1_takeBack_31 : decode cX1_takeBack 31 = .ok (.aload_n 2, 1) := by decide +kernel
theorem dX1_takeBack_32 : decode cX1_takeBack 32 = .ok (.ifnonnull 5, 3) := by decide +kernel
theorem dX1_takeBack_35 : decode cX1_takeBack 35 = .ok (.iconst 0, 1) := by decide +kernel
theorem dX1_takeBack_36 : decode cX1_takeBack 36 = .ok (.ireturn, 1) := by decide +kernel
theorem dX1_takeBack_37 : decode cX1_takeBack 37 = .ok (.aload_n 1, 1) := by decide +kernel
theorem dX1_takeBack_38 : decode cX1_takeBack 38 = .ok (.aload_n 2, 1) := by decide +kernel
theorem dX1_takeBack_39 : decode cX1_takeBack 39 = .ok (.invokevirtual 31, 3) := by decide +kernel
theorem dX1_takeBack_42 : decode cX1_takeBack 42 = .ok (.aload_n 0, 1) := by decide +kernel
theorem dX1_takeBack_43 : decode cX1_takeBack 43 = .ok (.dup, 1) := by decide +kernel
theorem dX1_takeBack_44 : decode cX1_takeBack 44 = .ok (.getfield 17, 3) := by decide +kernel
theorem dX1_takeBack_47 : decode cX1_takeBack 47 = .ok (.iconst 1, 1) := by decide +kernel
theorem dX1_takeBack_48 : decode cX1_takeBack 48 = .ok (.isub, 1) := by decide +kernel
theorem dX1_takeBack_49 : decode cX1_takeBack 49 = .ok (.putfield 17, 3) := by decide +kernel
theorem dX1_takeBack_52 : decode cX1_takeBack 52 = .ok (.iconst 1, 1) := by decide +kernel
theorem dX1_takeBack_53 : decode cX1_takeBack 53 = .ok (.ireturn, 1) := by decide +kernel
theorem dX2_init_0 : decode cX2_init 0 = .ok (.aload_n 0, 1) := by decide +kernel
theorem dX2_init_1 : decode cX2_init 1 = .ok (.invokespecial 3, 3) := by decide +kernel
theorem dX2_init_4 : decode cX2_init 4 = .ok (.aload_n 0, 1) := by decide +kernel
theorem dX2_init_5 : decode cX2_init 5 = .ok (.iconst 5, 1) := by decide +kernel
theorem dX2_init_6 : decode cX2_init 6 = .ok (.newarray .int, 2) := by decide +kernel
theorem dX2_init_8 : decode cX2_init 8 = .ok (.dup, 1) := by decide +kernel
theorem dX2_init_9 : decode cX2_init 9 = .ok (.iconst 0, 1) := by decide +kernel
theorem dX2_init_10 : decode cX2_init 10 = .ok (.bipush 12, 2) := by decide +kernel
theorem dX2_init_12 : decode cX2_init 12 = .ok (.iastore, 1) := by decide +kernel
theorem dX2_init_13 : decode cX2_init 13 = .ok (.dup, 1) := by decide +kernel
theorem dX2_init_14 : decode cX2_init 14 = .ok (.iconst 1, 1) := by decide +kernel
theorem dX2_init_15 : decode cX2_init 15 = .ok (.iconst 2, 1) := by decide +kernel
theorem dX2_init_16 : decode cX2_init 16 = .ok (.iastore, 1) := by decide +kernel
theorem dX2_init_17 : decode cX2_init 17 = .ok (.dup, 1) := by decide +kernel
theorem dX2_init_18 : decode cX2_init 18 = .ok (.iconst 2, 1) := by decide +kernel
theorem dX2_init_19 : decode cX2_init 19 = .ok (.bipush 30, 2) := by decide +kernel
theorem dX2_init_21 : decode cX2_init 21 = .ok (.iastore, 1) := by decide +kernel
theorem dX2_init_22 : decode cX2_init 22 = .ok (.dup, 1) := by decide +kernel
theorem dX2_init_23 : decode cX2_init 23 = .ok (.iconst 3, 1) := by decide +kernel
theorem dX2_init_24 : decode cX2_init 24 = .ok (.bipush 20, 2) := by decide +kernel
theorem dX2_init_26 : decode cX2_init 26 = .ok (.iastore, 1) := by decide +kernel
theorem dX2_init_27 : decode cX2_init 27 = .ok (.dup, 1) := by decide +kernel
theorem dX2_init_28 : decode cX2_init 28 = .ok (.iconst 4, 1) := by decide +kernel
theorem dX2_init_29 : decode cX2_init 29 = .ok (.sipush 1000, 3) := by decide +kernel
theorem dX2_init_32 : decode cX2_init 32 = .ok (.iastore, 1) := by decide +kernel
theorem dX2_init_33 : decode cX2_init 33 = .ok (.putfield 9, 3) := by decide +kernel
theorem dX2_init_36 : decode cX2_init 36 = .ok (.aload_n 0, 1) := by decide +kernel
theorem dX2_init_37 : decode cX2_init 37 = .ok (.bipush 24, 2) := by decide +kernel
theorem dX2_init_39 : decode cX2_init 39 = .ok (.newarray .int, 2) := by decide +kernel
theorem dX2_init_41 : decode cX2_init 41 = .ok (.putfield 15, 3) := by decide +kernel
theorem dX2_init_44 : decode cX2_init 44 = .ok (.aload_n 0, 1) := by decide +kernel
theorem dX2_init_45 : decode cX2_init 45 = .ok (.iconst 2, 1) := by decide +kernel
theorem dX2_init_46 : decode cX2_init 46 = .ok (.newarray .int, 2) := by decide +kernel
theorem dX2_init_48 : decode cX2_init 48 = .ok (.putfield 18, 3) := by decide +kernel
theorem dX2_init_51 : decode cX2_init 51 = .ok (.aload_n 0, 1) := by decide +kernel
theorem dX2_init_52 : decode cX2_init 52 = .ok (.iconst 2, 1) := by decide +kernel
theorem dX2_init_53 : decode cX2_init 53 = .ok (.newarray .int, 2) := by decide +kernel
theorem dX2_init_55 : decode cX2_init 55 = .ok (.putfield 21, 3) := by decide +kernel
theorem dX2_init_58 : decode cX2_init 58 = .ok (.aload_n 0, 1) := by decide +kernel
theorem dX2_init_59 : decode cX2_init 59 = .ok (.iconst 2, 1) := by decide +kernel
theorem dX2_init_60 : decode cX2_init 60 = .ok (.newarray .int, 2) := by decide +kernel
theorem dX2_init_62 : decode cX2_init 62 = .ok (.putfield 24, 3) := by decide +kernel
theorem dX2_init_65 : decode cX2_init 65 = .ok (.aload_n 0, 1) := by decide +kernel
theorem dX2_init_66 : decode cX2_init 66 = .ok (.bipush 24, 2) := by decide +kernel
theorem dX2_init_68 : decode cX2_init 68 = .ok (.newarray .int, 2) := by decide +kernel
theorem dX2_init_70 : decode cX2_init 70 = .ok (.putfield 27, 3) := by decide +kernel
theorem dX2_init_73 : decode cX2_init 73 = .ok (.return_, 1) := by decide +kernel
theorem dX2_become_0 : decode cX2_become 0 = .ok (.aload_n 1, 1) := by decide +kernel
theorem dX2_become_1 : decode cX2_become 1 = .ok (.getfield 9, 3) := by decide +kernel
theorem dX2_become_4 : decode cX2_become 4 = .ok (.aload_n 0, 1) := by decide +kernel
theorem dX2_become_5 : decode cX2_become 5 = .ok (.getfield 9, 3) := by decide +kernel
theorem dX2_become_8 : decode cX2_become 8 = .ok (.invokestatic 30, 3) := by decide +kernel
theorem dX2_become_11 : decode cX2_become 11 = .ok (.aload_n 1, 1) := by decide +kernel
theorem dX2_become_12 : decode cX2_become 12 = .ok (.getfield 15, 3) := by decide +kernel
theorem dX2_become_15 : decode cX2_become 15 = .ok (.aload_n 0, 1) := by decide +kernel
theorem dX2_become_16 : decode cX2_become 16 = .ok (.getfield 15, 3) := by decide +kernel
theorem dX2_become_19 : decode cX2_become 19 = .ok (.invokestatic 30, 3) := by decide +kernel
theorem dX2_become_22 : decode cX2_become 22 = .ok (.aload_n 1, 1) := by decide +kernel
theorem dX2_become_23 : decode cX2_become 23 = .ok (.getfield 18, 3) := by decide +kernel
theorem dX2_become_26 : decode cX2_become 26 = .ok (.aload_n 0, 1) := by decide +kernel
theorem dX2_become_27 : decode cX2_become 27 = .ok (.getfield 18, 3) := by decide +kernel
theorem dX2_become_30 : decode cX2_become 30 = .ok (.invokestatic 30, 3) := by decide +kernel
theorem dX2_become_33 : decode cX2_become 33 = .ok (.aload_n 1, 1) := by decide +kernel
theorem dX2_become_34 : decode cX2_become 34 = .ok (.getfield 21, 3) := by decide +kernel
theorem dX2_become_37 : decode cX2_become 37 = .ok (.aload_n 0, 1) := by decide +kernel
theorem dX2_become_38 : decode cX2_become 38 = .ok (.getfield 21, 3) := by decide +kernel
theorem dX2_become_41 : decode cX2_become 41 = .ok (.invokestatic 30, 3) := by decide +kernel
theorem dX2_become_44 : decode cX2_become 44 = .ok (.aload_n 1, 1) := by decide +kernel
theorem dX2_become_45 : decode cX2_become 45 = .ok (.getfield 24, 3) := by decide +kernel
theorem dX2_become_48 : decode cX2_become 48 = .ok (.aload_n 0, 1) := by decide +kernel
theorem dX2_become_49 : decode cX2_become 49 = .ok (.getfield 24, 3) := by decide +kernel
theorem dX2_become_52 : decode cX2_become 52 = .ok (.invokestatic 30, 3) := by decide +kernel
theorem dX2_become_55 : decode cX2_become 55 = .ok (.aload_n 1, 1) := by decide +kernel
theorem dX2_become_56 : decode cX2_become 56 = .ok (.getfield 27, 3) := by decide +kernel
theorem dX2_become_59 : decode cX2_become 59 = .ok (.aload_n 0, 1) := by decide +kernel
theorem dX2_become_60 : decode cX2_become 60 = .ok (.getfield 27, 3) := by decide +kernel
theorem dX2_become_63 : decode cX2_become 63 = .ok (.invokestatic 30, 3) := by decide +kernel
theorem dX2_become_66 : decode cX2_become 66 = .ok (.aload_n 0, 1) := by decide +kernel
theorem dX2_become_67 : decode cX2_become 67 = .ok (.aload_n 1, 1) := by decide +kernel
theorem dX2_become_68 : decode cX2_become 68 = .ok (.getfield 34, 3) := by decide +kernel
theorem dX2_become_71 : decode cX2_become 71 = .ok (.putfield 34, 3) := by decide +kernel
theorem dX2_become_74 : decode cX2_become 74 = .ok (.aload_n 0, 1) := by decide +kernel
theorem dX2_become_75 : decode cX2_become 75 = .ok (.aload_n 1, 1) := by decide +kernel
theorem dX2_become_76 : decode cX2_become 76 = .ok (.getfield 38, 3) := by decide +kernel
theorem dX2_become_79 : decode cX2_become 79 = .ok (.putfield 38, 3) := by decide +kernel
theorem dX2_become_82 : decode cX2_become 82 = .ok (.aload_n 0, 1) := by decide +kernel
theorem dX2_become_83 : decode cX2_become 83 = .ok (.aload_n 1, 1) := by decide +kernel
theorem dX2_become_84 : decode cX2_become 84 = .ok (.getfield 41, 3) := by decide +kernel
theorem dX2_become_87 : decode cX2_become 87 = .ok (.putfield 41, 3) := by decide +kernel
theorem dX2_become_90 : decode cX2_become 90 = .ok (.aload_n 0, 1) := by decide +kernel
theorem dX2_become_91 : decode cX2_become 91 = .ok (.aload_n 1, 1) := by decide +kernel
theorem dX2_become_92 : decode cX2_become 92 = .ok (.getfield 44, 3) := by decide +kernel
theorem dX2_become_95 : decode cX2_become 95 = .ok (.putfield 44, 3) := by decide +kernel
theorem dX2_become_98 : decode cX2_become 98 = .ok (.aload_n 0, 1) := by decide +kernel
theorem dX2_become_99 : decode cX2_become 99 = .ok (.aload_n 1, 1) := by decide +kernel
theorem dX2_become_100 : decode cX2_become 100 = .ok (.getfield 47, 3) := by decide +kernel
theorem dX2_become_103 : decode cX2_become 103 = .ok (.putfield 47, 3) := by decide +kernel
theorem dX2_become_106 : decode cX2_become 106 = .ok (.aload_n 0, 1) := by decide +kernel
theorem dX2_become_107 : decode cX2_become 107 = .ok (.aload_n 1, 1) := by decide +kernel
theorem dX2_become_108 : decode cX2_become 108 = .ok (.getfield 50, 3) := by decide +kernel
theorem dX2_become_111 : decode cX2_become 111 = .ok (.putfield 50, 3) := by decide +kernel
theorem dX2_become_114 : decode cX2_become 114 = .ok (.aload_n 0, 1) := by decide +kernel
theorem dX2_become_115 : decode cX2_become 115 = .ok (.aload_n 1, 1) := by decide +kernel
theorem dX2_become_116 : decode cX2_become 116 = .ok (.getfield 53, 3) := by decide +kernel
theorem dX2_become_119 : decode cX2_become 119 = .ok (.putfield 53, 3) := by decide +kernel
theorem dX2_become_122 : decode cX2_become 122 = .ok (.return_, 1) := by decide +kernel
theorem dX2_indexOf_0 : decode cX2_indexOf 0 = .ok (.iload_n 0, 1) := by decide +kernel
theorem dX2_indexOf_1 : decode cX2_indexOf 1 = .ok (.ifCond .ne 12, 3) := by decide +kernel
theorem dX2_indexOf_4 : decode cX2_indexOf 4 = .ok (.iload_n 1, 1) := by decide +kernel
theorem dX2_indexOf_5 : decode cX2_indexOf 5 = .ok (.iload_n 2, 1) := by decide +kernel
theorem dX2_indexOf_6 : decode cX2_indexOf 6 = .ok (.isub, 1) := by decide +kernel
theorem dX2_indexOf_7 : decode cX2_indexOf 7 = .ok (.bipush 12, 2) := by decide +kernel
theorem dX2_indexOf_9 : decode cX2_indexOf 9 = .ok (.invokestatic 56, 3) := by decide +kernel
theorem dX2_indexOf_12 : decode cX2_indexOf 12 = .ok (.ireturn, 1) := by decide +kernel
theorem dX2_indexOf_13 : decode cX2_indexOf 13 = .ok (.bipush 12, 2) := by decide +kernel
theorem dX2_indexOf_15 : decode cX2_indexOf 15 = .ok (.iload_n 1, 1) := by decide +kernel
theorem dX2_indexOf_16 : decode cX2_indexOf 16 = .ok (.iload_n 2, 1) := by decide +kernel
theorem dX2_indexOf_17 : decode cX2_indexOf 17 = .ok (.iadd, 1) := by decide +kernel
theorem dX2_indexOf_18 : decode cX2_indexOf 18 = .ok (.bipush 12, 2) := by decide +kernel
theorem dX2_indexOf_20 : decode cX2_indexOf 20 = .ok (.invokestatic 56, 3) := by decide +kernel
theorem dX2_indexOf_23 : decode cX2_indexOf 23 = .ok (.iadd, 1) := by decide +kernel
theorem dX2_indexOf_24 : decode cX2_indexOf 24 = .ok (.ireturn, 1) := by decide +kernel
theorem dX2_firstIndexOf_0 : decode cX2_firstIndexOf 0 = .ok (.iload_n 0, 1) := by decide +kernel
theorem dX2_firstIndexOf_1 : decode cX2_firstIndexOf 1 = .ok (.ifCond .ne 7, 3) := by decide +kernel
theorem dX2_firstIndexOf_4 : decode cX2_firstIndexOf 4 = .ok (.iconst 0, 1) := by decide +kernel
theorem dX2_firstIndexOf_5 : decode cX2_firstIndexOf 5 = .ok (.goto 5, 3) := by decide +kernel
theorem dX2_firstIndexOf_8 : decode cX2_firstIndexOf 8 = .ok (.bipush 12, 2) := by decide +kernel
theorem dX2_firstIndexOf_10 : decode cX2_firstIndexOf 10 = .ok (.ireturn, 1) := by decide +kernel
theorem dX2_logIndexOf_0 : decode cX2_logIndexOf 0 = .ok (.iconst 3, 1) := by decide +kernel
theorem dX2_logIndexOf_1 : decode cX2_logIndexOf 1 = .ok (.iload_n 0, 1) := by decide +kernel
theorem dX2_logIndexOf_2 : decode cX2_logIndexOf 2 = .ok (.bipush 8, 2) := by decide +kernel
theorem dX2_logIndexOf_4 : decode cX2_logIndexOf 4 = .ok (.invokestatic 56, 3) := by decide +kernel
theorem dX2_logIndexOf_7 : decode cX2_logIndexOf 7 = .ok (.imul, 1) := by decide +kernel
theorem dX2_logIndexOf_8 : decode cX2_logIndexOf 8 = .ok (.ireturn, 1) := by decide +kernel
theorem dX2_sumOfDisc_0 : decode cX2_sumOfDisc 0 = .ok (.iconst 0, 1) := by decide +kernel
theorem dX2_sumOfDisc_1 : decode cX2_sumOfDisc 1 = .ok (.istore_n 2, 1) := by decide +kernel
theorem dX2_sumOfDisc_2 : decode cX2_sumOfDisc 2 = .ok (.iload_n 1, 1) := by decide +kernel
theorem dX2_sumOfDisc_3 : decode cX2_sumOfDisc 3 = .ok (.invokestatic 62, 3) := by decide +kernel
theorem dX2_sumOfDisc_6 : decode cX2_sumOfDisc 6 = .ok (.istore_n 3, 1) := by decide +kernel
theorem dX2_sumOfDisc_7 : decode cX2_sumOfDisc 7 = .ok (.iload_n 3, 1) := by decide +kernel
theorem dX2_sumOfDisc_8 : decode cX2_sumOfDisc 8 = .ok (.istore 4, 2) := by decide +kernel
theorem dX2_sumOfDisc_10 : decode cX2_sumOfDisc 10 = .ok (.iload 4, 2) := by decide +kernel
theorem dX2_sumOfDisc_12 : decode cX2_sumOfDisc 12 = .ok (.iload_n 3, 1) := by decide +kernel
theorem dX2_sumOfDisc_13 : decode cX2_sumOfDisc 13 = .ok (.bipush 12, 2) := by decide +kernel
theorem dX2_sumOfDisc_15 : decode cX2_sumOfDisc 15 = .ok (.iadd, 1) := by decide +kernel
theorem dX2_sumOfDisc_16 : decode cX2_sumOfDisc 16 = .ok (.if_icmp .ge 19, 3) := by decide +kernel
theorem dX2_sumOfDisc_19 : decode cX2_sumOfDisc 19 = .ok (.iload_n 2, 1) := by decide +kernel
theorem dX2_sumOfDisc_20 : decode cX2_sumOfDisc 20 = .ok (.aload_n 0, 1) := by decide +kernel
theorem dX2_sumOfDisc_21 : decode cX2_sumOfDisc 21 = .ok (.getfield 15, 3) := by decide +kernel
theorem dX2_sumOfDisc_24 : decode cX2_sumOfDisc 24 = .ok (.iload 4, 2) := by decide +kernel
theorem dX2_sumOfDisc_26 : decode cX2_sumOfDisc 26 = .ok (.iaload, 1) := by decide +kernel
theorem dX2_sumOfDisc_27 : decode cX2_sumOfDisc 27 = .ok (.iadd, 1) := by decide +kernel
theorem dX2_sumOfDisc_28 : decode cX2_sumOfDisc 28 = .ok (.istore_n 2, 1) := by decide +kernel
theorem dX2_sumOfDisc_29 : decode cX2_sumOfDisc 29 = .ok (.iinc 4 1, 3) := by decide +kernel
theorem dX2_sumOfDisc_32 : decode cX2_sumOfDisc 32 = .ok (.goto (-22), 3) := by decide +kernel
theorem dX2_sumOfDisc_35 : decode cX2_sumOfDisc 35 = .ok (.iload_n 2, 1) := by decide +kernel
theorem dX2_sumOfDisc_36 : decode cX2_sumOfDisc 36 = .ok (.ireturn, 1) := by decide +kernel
theorem dX2_sectorsWithSign_0 : decode cX2_sectorsWithSign 0 = .ok (.iconst 0, 1) := by decide +kernel
theorem dX2_sectorsWithSign_1 : decode cX2_sectorsWithSign 1 = .ok (.istore_n 3, 1) := by decide +kernel
theorem dX2_sectorsWithSign_2 : decode cX2_sectorsWithSign 2 = .ok (.iload_n 1, 1) := by decide +kernel
theorem dX2_sectorsWithSign_3 : decode cX2_sectorsWithSign 3 = .ok (.invokestatic 62, 3) := by decide +kernel
theorem dX2_sectorsWithSign_6 : decode cX2_sectorsWithSign 6 = .ok (.istore 4, 2) := by decide +kernel
theorem dX2_sectorsWithSign_8 : decode cX2_sectorsWithSign 8 = .ok (.iload 4, 2) := by decide +kernel
theorem dX2_sectorsWithSign_10 : decode cX2_sectorsWithSign 10 = .ok (.istore 5, 2) := by decide +kernel
theorem dX2_sectorsWithSign_12 : decode cX2_sectorsWithSign 12 = .ok (.iload 5, 2) := by decide +kernel
theorem dX2_sectorsWithSign_14 : decode cX2_sectorsWithSign 14 = .ok (.iload 4, 2) := by decide +kernel
theorem dX2_sectorsWithSign_16 : decode cX2_sectorsWithSign 16 = .ok (.bipush 12, 2) := by decide +kernel
theorem dX2_sectorsWithSign_18 : decode cX2_sectorsWithSign 18 = .ok (.iadd, 1) := by decide +kernel
theorem dX2_sectorsWithSign_19 : decode cX2_sectorsWithSign 19 = .ok (.if_icmp .ge 26, 3) := by decide +kernel
theorem dX2_sectorsWithSign_22 : decode cX2_sectorsWithSign 22 = .ok (.aload_n 0, 1) := by decide +kernel
theorem dX2_sectorsWithSign_23 : decode cX2_sectorsWithSign 23 = .ok (.getfield 15, 3) := by decide +kernel
theorem dX2_sectorsWithSign_26 : decode cX2_sectorsWithSign 26 = .ok (.iload 5, 2) := by decide +kernel
theorem dX2_sectorsWithSign_28 : decode cX2_sectorsWithSign 28 = .ok (.iaload, 1) := by decide +kernel
theorem dX2_sectorsWithSign_29 : decode cX2_sectorsWithSign 29 = .ok (.invokestatic 66, 3) := by decide +kernel
theorem dX2_sectorsWithSign_32 : decode cX2_sectorsWithSign 32 = .ok (.iload_n 2, 1) := by decide +kernel
theorem dX2_sectorsWithSign_33 : decode cX2_sectorsWithSign 33 = .ok (.if_icmp .ne 6, 3) := by decide +kernel
theorem dX2_sectorsWithSign_36 : decode cX2_sectorsWithSign 36 = .ok (.iinc 3 1, 3) := by decide +kernel
theorem dX2_sectorsWithSign_39 : decode cX2_sectorsWithSign 39 = .ok (.iinc 5 1, 3) := by decide +kernel
theorem dX2_sectorsWithSign_42 : decode cX2_sectorsWithSign 42 = .ok (.goto (-30), 3) := by decide +kernel
theorem dX2_sectorsWithSign_45 : decode cX2_sectorsWithSign 45 = .ok (.iload_n 3, 1) := by decide +kernel
theorem dX2_sectorsWithSign_46 : decode cX2_sectorsWithSign 46 = .ok (.ireturn, 1) := by decide +kernel
theorem dX2_greatestOfDisc_0 : decode cX2_greatestOfDisc 0 = .ok (.bipush (-99), 2) := by decide +kernel
theorem dX2_greatestOfDisc_2 : decode cX2_greatestOfDisc 2 = .ok (.istore_n 2, 1) := by decide +kernel
theorem dX2_greatestOfDisc_3 : decode cX2_greatestOfDisc 3 = .ok (.iload_n 1, 1) := by decide +kernel
theorem dX2_greatestOfDisc_4 : decode cX2_greatestOfDisc 4 = .ok (.invokestatic 62, 3) := by decide +kernel
theorem dX2_greatestOfDisc_7 : decode cX2_greatestOfDisc 7 = .ok (.istore_n 3, 1) := by decide +kernel
theorem dX2_greatestOfDisc_8 : decode cX2_greatestOfDisc 8 = .ok (.iload_n 3, 1) := by decide +kernel
theorem dX2_greatestOfDisc_9 : decode cX2_greatestOfDisc 9 = .ok (.istore 4, 2) := by decide +kernel
theorem dX2_greatestOfDisc_11 : decode cX2_greatestOfDisc 11 = .ok (.iload 4, 2) := by decide +kernel
theorem dX2_greatestOfDisc_13 : decode cX2_greatestOfDisc 13 = .ok (.iload_n 3, 1) := by decide +kernel
theorem dX2_greatestOfDisc_14 : decode cX2_greatestOfDisc 14 = .ok (.bipush 12, 2) := by decide +kernel
theorem dX2_greatestOfDisc_16 : decode cX2_greatestOfDisc 16 = .ok (.iadd, 1) := by decide +kernel
theorem dX2_greatestOfDisc_17 : decode cX2_greatestOfDisc 17 = .ok (.if_icmp .ge 21, 3) := by decide +kernel
theorem dX2_greatestOfDisc_20 : decode cX2_greatestOfDisc 20 = .ok (.iload_n 2, 1) := by decide +kernel
theorem dX2_greatestOfDisc_21 : decode cX2_greatestOfDisc 21 = .ok (.aload_n 0, 1) := by decide +kernel
theorem dX2_greatestOfDisc_22 : decode cX2_greatestOfDisc 22 = .ok (.getfield 15, 3) := by decide +kernel
theorem dX2_greatestOfDisc_25 : decode cX2_greatestOfDisc 25 = .ok (.iload 4, 2) := by decide +kernel
theorem dX2_greatestOfDisc_27 : decode cX2_greatestOfDisc 27 = .ok (.iaload, 1) := by decide +kernel
theorem dX2_greatestOfDisc_28 : decode cX2_greatestOfDisc 28 = .ok (.invokestatic 71, 3) := by decide +kernel
theorem dX2_greatestOfDisc_31 : decode cX2_greatestOfDisc 31 = .ok (.istore_n 2, 1) := by decide +kernel
theorem dX2_greatestOfDisc_32 : decode cX2_greatestOfDisc 32 = .ok (.iinc 4 1, 3) := by decide +kernel
theorem dX2_greatestOfDisc_35 : decode cX2_greatestOfDisc 35 = .ok (.goto (-24), 3) := by decide +kernel
theorem dX2_greatestOfDisc_38 : decode cX2_greatestOfDisc 38 = .ok (.iload_n 2, 1) := by decide +kernel
theorem dX2_greatestOfDisc_39 : decode cX2_greatestOfDisc 39 = .ok (.ireturn, 1) := by decide +kernel
theorem dX2_leastOfDisc_0 : decode cX2_leastOfDisc 0 = .ok (.bipush 99, 2) := by decide +kernel
theorem dX2_leastOfDisc_2 : decode cX2_leastOfDisc 2 = .ok (.istore_n 2, 1) := by decide +kernel
theorem dX2_leastOfDisc_3 : decode cX2_leastOfDisc 3 = .ok (.iload_n 1, 1) := by decide +kernel
theorem dX2_leastOfDisc_4 : decode cX2_leastOfDisc 4 = .ok (.invokestatic 62, 3) := by decide +kernel
theorem dX2_leastOfDisc_7 : decode cX2_leastOfDisc 7 = .ok (.istore_n 3, 1) := by decide +kernel
theorem dX2_leastOfDisc_8 : decode cX2_leastOfDisc 8 = .ok (.iload_n 3, 1) := by decide +kernel
theorem dX2_leastOfDisc_9 : decode cX2_leastOfDisc 9 = .ok (.istore 4, 2) := by decide +kernel
theorem dX2_leastOfDisc_11 : decode cX2_leastOfDisc 11 = .ok (.iload 4, 2) := by decide +kernel
theorem dX2_leastOfDisc_13 : decode cX2_leastOfDisc 13 = .ok (.iload_n 3, 1) := by decide +kernel
theorem dX2_leastOfDisc_14 : decode cX2_leastOfDisc 14 = .ok (.bipush 12, 2) := by decide +kernel
theorem dX2_leastOfDisc_16 : decode cX2_leastOfDisc 16 = .ok (.iadd, 1) := by decide +kernel
theorem dX2_leastOfDisc_17 : decode cX2_leastOfDisc 17 = .ok (.if_icmp .ge 21, 3) := by decide +kernel
theorem dX2_leastOfDisc_20 : decode cX2_leastOfDisc 20 = .ok (.iload_n 2, 1) := by decide +kernel
theorem dX2_leastOfDisc_21 : decode cX2_leastOfDisc 21 = .ok (.aload_n 0, 1) := by decide +kernel
theorem dX2_leastOfDisc_22 : decode cX2_leastOfDisc 22 = .ok (.getfield 15, 3) := by decide +kernel
theorem dX2_leastOfDisc_25 : decode cX2_leastOfDisc 25 = .ok (.iload 4, 2) := by decide +kernel
theorem dX2_leastOfDisc_27 : decode cX2_leastOfDisc 27 = .ok (.iaload, 1) := by decide +kernel
theorem dX2_leastOfDisc_28 : decode cX2_leastOfDisc 28 = .ok (.invokestatic 74, 3) := by decide +kernel
theorem dX2_leastOfDisc_31 : decode cX2_leastOfDisc 31 = .ok (.istore_n 2, 1) := by decide +kernel
theorem dX2_leastOfDisc_32 : decode cX2_leastOfDisc 32 = .ok (.iinc 4 1, 3) := by decide +kernel
theorem dX2_leastOfDisc_35 : decode cX2_leastOfDisc 35 = .ok (.goto (-24), 3) := by decide +kernel
theorem dX2_leastOfDisc_38 : decode cX2_leastOfDisc 38 = .ok (.iload_n 2, 1) := by decide +kernel
theorem dX2_leastOfDisc_39 : decode cX2_leastOfDisc 39 = .ok (.ireturn, 1) := by decide +kernel
theorem dX2_chargeOfAll_0 : decode cX2_chargeOfAll 0 = .ok (.aload_n 0, 1) := by decide +kernel
theorem dX2_chargeOfAll_1 : decode cX2_chargeOfAll 1 = .ok (.iconst 0, 1) := by decide +kernel
theorem dX2_chargeOfAll_2 : decode cX2_chargeOfAll 2 = .ok (.invokevirtual 77, 3) := by decide +kernel
theorem dX2_chargeOfAll_5 : decode cX2_chargeOfAll 5 = .ok (.aload_n 0, 1) := by decide +kernel
theorem dX2_chargeOfAll_6 : decode cX2_chargeOfAll 6 = .ok (.iconst 1, 1) := by decide +kernel
theorem dX2_chargeOfAll_7 : decode cX2_chargeOfAll 7 = .ok (.invokevirtual 77, 3) := by decide +kernel
theorem dX2_chargeOfAll_10 : decode cX2_chargeOfAll 10 = .ok (.iadd, 1) := by decide +kernel
theorem dX2_chargeOfAll_11 : decode cX2_chargeOfAll 11 = .ok (.aload_n 0, 1) := by decide +kernel
theorem dX2_chargeOfAll_12 : decode cX2_chargeOfAll 12 = .ok (.getfield 18, 3) := by decide +kernel
theorem dX2_chargeOfAll_15 : decode cX2_chargeOfAll 15 = .ok (.iconst 0, 1) := by decide +kernel
theorem dX2_chargeOfAll_16 : decode cX2_chargeOfAll 16 = .ok (.iaload, 1) := by decide +kernel
theorem dX2_chargeOfAll_17 : decode cX2_chargeOfAll 17 = .ok (.iadd, 1) := by decide +kernel
theorem dX2_chargeOfAll_18 : decode cX2_chargeOfAll 18 = .ok (.aload_n 0, 1) := by decide +kernel
theorem dX2_chargeOfAll_19 : decode cX2_chargeOfAll 19 = .ok (.getfield 18, 3) := by decide +kernel
theorem dX2_chargeOfAll_22 : decode cX2_chargeOfAll 22 = .ok (.iconst 1, 1) := by decide +kernel
theorem dX2_chargeOfAll_23 : decode cX2_chargeOfAll 23 = .ok (.iaload, 1) := by decide +kernel
theorem dX2_chargeOfAll_24 : decode cX2_chargeOfAll 24 = .ok (.iadd, 1) := by decide +kernel
theorem dX2_chargeOfAll_25 : decode cX2_chargeOfAll 25 = .ok (.ireturn, 1) := by decide +kernel
theorem dX2_fullestJar_0 : decode cX2_fullestJar 0 = .ok (.aload_n 0, 1) := by decide +kernel
theorem dX2_fullestJar_1 : decode cX2_fullestJar 1 = .ok (.getfield 18, 3) := by decide +kernel
theorem dX2_fullestJar_4 : decode cX2_fullestJar 4 = .ok (.iconst 0, 1) := by decide +kernel
theorem dX2_fullestJar_5 : decode cX2_fullestJar 5 = .ok (.iaload, 1) := by decide +kernel
theorem dX2_fullestJar_6 : decode cX2_fullestJar 6 = .ok (.invokestatic 80, 3) := by decide +kernel
theorem dX2_fullestJar_9 : decode cX2_fullestJar 9 = .ok (.aload_n 0, 1) := by decide +kernel
theorem dX2_fullestJar_10 : decode cX2_fullestJar 10 = .ok (.getfield 18, 3) := by decide +kernel
theorem dX2_fullestJar_13 : decode cX2_fullestJar 13 = .ok (.iconst 1, 1) := by decide +kernel
theorem dX2_fullestJar_14 : decode cX2_fullestJar 14 = .ok (.iaload, 1) := by decide +kernel
theorem dX2_fullestJar_15 : decode cX2_fullestJar 15 = .ok (.invokestatic 80, 3) := by decide +kernel
theorem dX2_fullestJar_18 : decode cX2_fullestJar 18 = .ok (.invokestatic 71, 3) := by decide +kernel
theorem dX2_fullestJar_21 : decode cX2_fullestJar 21 = .ok (.ireturn, 1) := by decide +kernel
theorem dX2_difference_0 : decode cX2_difference 0 = .ok (.aload_n 0, 1) := by decide +kernel
theorem dX2_difference_1 : decode cX2_difference 1 = .ok (.getfield 18, 3) := by decide +kernel
theorem dX2_difference_4 : decode cX2_difference 4 = .ok (.iconst 0, 1) := by decide +kernel
theorem dX2_difference_5 : decode cX2_difference 5 = .ok (.iaload, 1) := by decide +kernel
theorem dX2_difference_6 : decode cX2_difference 6 = .ok (.aload_n 0, 1) := by decide +kernel
theorem dX2_difference_7 : decode cX2_difference 7 = .ok (.getfield 18, 3) := by decide +kernel
theorem dX2_difference_10 : decode cX2_difference 10 = .ok (.iconst 1, 1) := by decide +kernel
theorem dX2_difference_11 : decode cX2_difference 11 = .ok (.iaload, 1) := by decide +kernel
theorem dX2_difference_12 : decode cX2_difference 12 = .ok (.isub, 1) := by decide +kernel
theorem dX2_difference_13 : decode cX2_difference 13 = .ok (.invokestatic 80, 3) := by decide +kernel
theorem dX2_difference_16 : decode cX2_difference 16 = .ok (.ireturn, 1) := by decide +kernel
theorem dX2_sign_0 : decode cX2_sign 0 = .ok (.aload_n 0, 1) := by decide +kernel
theorem dX2_sign_1 : decode cX2_sign 1 = .ok (.getfield 18, 3) := by decide +kernel
theorem dX2_sign_4 : decode cX2_sign 4 = .ok (.iconst 0, 1) := by decide +kernel
theorem dX2_sign_5 : decode cX2_sign 5 = .ok (.iaload, 1) := by decide +kernel
theorem dX2_sign_6 : decode cX2_sign 6 = .ok (.aload_n 0, 1) := by decide +kernel
theorem dX2_sign_7 : decode cX2_sign 7 = .ok (.getfield 18, 3) := by decide +kernel
theorem dX2_sign_10 : decode cX2_sign 10 = .ok (.iconst 1, 1) := by decide +kernel
theorem dX2_sign_11 : decode cX2_sign 11 = .ok (.iaload, 1) := by decide +kernel
theorem dX2_sign_12 : decode cX2_sign 12 = .ok (.isub, 1) := by decide +kernel
theorem dX2_sign_13 : decode cX2_sign 13 = .ok (.invokestatic 66, 3) := by decide +kernel
theorem dX2_sign_16 : decode cX2_sign 16 = .ok (.ireturn, 1) := by decide +kernel
theorem dX2_hasTurnsLeft_0 : decode cX2_hasTurnsLeft 0 = .ok (.aload_n 0, 1) := by decide +kernel
theorem dX2_hasTurnsLeft_1 : decode cX2_hasTurnsLeft 1 = .ok (.getfield 34, 3) := by decide +kernel
theorem dX2_hasTurnsLeft_4 : decode cX2_hasTurnsLeft 4 = .ok (.iload_n 1, 1) := by decide +kernel
theorem dX2_hasTurnsLeft_5 : decode cX2_hasTurnsLeft 5 = .ok (.iadd, 1) := by decide +kernel
theorem dX2_hasTurnsLeft_6 : decode cX2_hasTurnsLeft 6 = .ok (.ldc 83, 2) := by decide +kernel
theorem dX2_hasTurnsLeft_8 : decode cX2_hasTurnsLeft 8 = .ok (.if_icmp .gt 7, 3) := by decide +kernel
theorem dX2_hasTurnsLeft_11 : decode cX2_hasTurnsLeft 11 = .ok (.iconst 1, 1) := by decide +kernel
theorem dX2_hasTurnsLeft_12 : decode cX2_hasTurnsLeft 12 = .ok (.goto 4, 3) := by decide +kernel
theorem dX2_hasTurnsLeft_15 : decode cX2_hasTurnsLeft 15 = .ok (.iconst 0, 1) := by decide +kernel
theorem dX2_hasTurnsLeft_16 : decode cX2_hasTurnsLeft 16 = .ok (.ireturn, 1) := by decide +kernel
theorem dX2_putCharge_0 : decode cX2_putCharge 0 = .ok (.iload_n 1, 1) := by decide +kernel
theorem dX2_putCharge_1 : decode cX2_putCharge 1 = .ok (.iload_n 2, 1) := by decide +kernel
theorem dX2_putCharge_2 : decode cX2_putCharge 2 = .ok (.aload_n 0, 1) := by decide +kernel
theorem dX2_putCharge_3 : decode cX2_putCharge 3 = .ok (.getfield 34, 3) := by decide +kernel
theorem dX2_putCharge_6 : decode cX2_putCharge 6 = .ok (.invokestatic 84, 3) := by decide +kernel
theorem dX2_putCharge_9 : decode cX2_putCharge 9 = .ok (.istore 4, 2) := by decide +kernel
theorem dX2_putCharge_11 : decode cX2_putCharge 11 = .ok (.aload_n 0, 1) := by decide +kernel
theorem dX2_putCharge_12 : decode cX2_putCharge 12 = .ok (.getfield 15, 3) := by decide +kernel
theorem dX2_putCharge_15 : decode cX2_putCharge 15 = .ok (.iload 4, 2) := by decide +kernel
theorem dX2_putCharge_17 : decode cX2_putCharge 17 = .ok (.iaload, 1) := by decide +kernel
theorem dX2_putCharge_18 : decode cX2_putCharge 18 = .ok (.istore 5, 2) := by decide +kernel
theorem dX2_putCharge_20 : decode cX2_putCharge 20 = .ok (.aload_n 0, 1) := by decide +kernel
theorem dX2_putCharge_21 : decode cX2_putCharge 21 = .ok (.getfield 15, 3) := by decide +kernel
theorem dX2_putCharge_24 : decode cX2_putCharge 24 = .ok (.iload 4, 2) := by decide +kernel
theorem dX2_putCharge_26 : decode cX2_putCharge 26 = .ok (.iload_n 3, 1) := by decide +kernel
theorem dX2_putCharge_27 : decode cX2_putCharge 27 = .ok (.iastore, 1) := by decide +kernel
theorem dX2_putCharge_28 : decode cX2_putCharge 28 = .ok (.aload_n 0, 1) := by decide +kernel
theorem dX2_putCharge_29 : decode cX2_putCharge 29 = .ok (.dup, 1) := by decide +kernel
theorem dX2_putCharge_30 : decode cX2_putCharge 30 = .ok (.getfield 50, 3) := by decide +kernel
theorem dX2_putCharge_33 : decode cX2_putCharge 33 = .ok (.iload_n 3, 1) := by decide +kernel
theorem dX2_putCharge_34 : decode cX2_putCharge 34 = .ok (.iload 5, 2) := by decide +kernel
theorem dX2_putCharge_36 : decode cX2_putCharge 36 = .ok (.isub, 1) := by decide +kernel
theorem dX2_putCharge_37 : decode cX2_putCharge 37 = .ok (.iadd, 1) := by decide +kernel
theorem dX2_putCharge_38 : decode cX2_putCharge 38 = .ok (.putfield 50, 3) := by decide +kernel
theorem dX2_putCharge_41 : decode cX2_putCharge 41 = .ok (.iload 5, 2) := by decide +kernel
theorem dX2_putCharge_43 : decode cX2_putCharge 43 = .ok (.ireturn, 1) := by decide +kernel
theorem dX2_emptyJars_0 : decode cX2_emptyJars 0 = .ok (.aload_n 0, 1) := by decide +kernel
theorem dX2_emptyJars_1 : decode cX2_emptyJars 1 = .ok (.invokevirtual 88, 3) := by decide +kernel
theorem dX2_emptyJars_4 : decode cX2_emptyJars 4 = .ok (.istore_n 1, 1) := by decide +kernel
theorem dX2_emptyJars_5 : decode cX2_emptyJars 5 = .ok (.aload_n 0, 1) := by decide +kernel
theorem dX2_emptyJars_6 : decode cX2_emptyJars 6 = .ok (.dup, 1) := by decide +kernel
theorem dX2_emptyJars_7 : decode cX2_emptyJars 7 = .ok (.getfield 53, 3) := by decide +kernel
theorem dX2_emptyJars_10 : decode cX2_emptyJars 10 = .ok (.aload_n 0, 1) := by decide +kernel
theorem dX2_emptyJars_11 : decode cX2_emptyJars 11 = .ok (.getfield 18, 3) := by decide +kernel
theorem dX2_emptyJars_14 : decode cX2_emptyJars 14 = .ok (.iconst 0, 1) := by decide +kernel
theorem dX2_emptyJars_15 : decode cX2_emptyJars 15 = .ok (.iaload, 1) := by decide +kernel
theorem dX2_emptyJars_16 : decode cX2_emptyJars 16 = .ok (.aload_n 0, 1) := by decide +kernel
theorem dX2_emptyJars_17 : decode cX2_emptyJars 17 = .ok (.getfield 18, 3) := by decide +kernel
theorem dX2_emptyJars_20 : decode cX2_emptyJars 20 = .ok (.iconst 1, 1) := by decide +kernel
theorem dX2_emptyJars_21 : decode cX2_emptyJars 21 = .ok (.iaload, 1) := by decide +kernel
theorem dX2_emptyJars_22 : decode cX2_emptyJars 22 = .ok (.iadd, 1) := by decide +kernel
theorem dX2_emptyJars_23 : decode cX2_emptyJars 23 = .ok (.iadd, 1) := by decide +kernel
theorem dX2_emptyJars_24 : decode cX2_emptyJars 24 = .ok (.putfield 53, 3) := by decide +kernel
theorem dX2_emptyJars_27 : decode cX2_emptyJars 27 = .ok (.aload_n 0, 1) := by decide +kernel
theorem dX2_emptyJars_28 : decode cX2_emptyJars 28 = .ok (.getfield 18, 3) := by decide +kernel
theorem dX2_emptyJars_31 : decode cX2_emptyJars 31 = .ok (.iconst 0, 1) := by decide +kernel
theorem dX2_emptyJars_32 : decode cX2_emptyJars 32 = .ok (.iconst 0, 1) := by decide +kernel
theorem dX2_emptyJars_33 : decode cX2_emptyJars 33 = .ok (.iastore, 1) := by decide +kernel
theorem dX2_emptyJars_34 : decode cX2_emptyJars 34 = .ok (.aload_n 0, 1) := by decide +kernel
theorem dX2_emptyJars_35 : decode cX2_emptyJars 35 = .ok (.getfield 18, 3) := by decide +kernel
theorem dX2_emptyJars_38 : decode cX2_emptyJars 38 = .ok (.iconst 1, 1) := by decide +kernel
theorem dX2_emptyJars_39 : decode cX2_emptyJars 39 = .ok (.iconst 0, 1) := by decide +kernel
theorem dX2_emptyJars_40 : decode cX2_emptyJars 40 = .ok (.iastore, 1) := by decide +kernel
theorem dX2_emptyJars_41 : decode cX2_emptyJars 41 = .ok (.iload_n 1, 1) := by decide +kernel
theorem dX2_emptyJars_42 : decode cX2_emptyJars 42 = .ok (.ireturn, 1) := by decide +kernel
theorem dX2_emptySectors_0 : decode cX2_emptySectors 0 = .ok (.aload_n 0, 1) := by decide +kernel
theorem dX2_emptySectors_1 : decode cX2_emptySectors 1 = .ok (.iload_n 1, 1) := by decide +kernel
theorem dX2_emptySectors_2 : decode cX2_emptySectors 2 = .ok (.iconst 1, 1) := by decide +kernel
theorem dX2_emptySectors_3 : decode cX2_emptySectors 3 = .ok (.invokevirtual 92, 3) := by decide +kernel
theorem dX2_emptySectors_6 : decode cX2_emptySectors 6 = .ok (.aload_n 0, 1) := by decide +kernel
theorem dX2_emptySectors_7 : decode cX2_emptySectors 7 = .ok (.iload_n 1, 1) := by decide +kernel
theorem dX2_emptySectors_8 : decode cX2_emptySectors 8 = .ok (.iconst (-1), 1) := by decide +kernel
theorem dX2_emptySectors_9 : decode cX2_emptySectors 9 = .ok (.invokevirtual 92, 3) := by decide +kernel
theorem dX2_emptySectors_12 : decode cX2_emptySectors 12 = .ok (.iadd, 1) := by decide +kernel
theorem dX2_emptySectors_13 : decode cX2_emptySectors 13 = .ok (.istore_n 2, 1) := by decide +kernel
theorem dX2_emptySectors_14 : decode cX2_emptySectors 14 = .ok (.aload_n 0, 1) := by decide +kernel
theorem dX2_emptySectors_15 : decode cX2_emptySectors 15 = .ok (.dup, 1) := by decide +kernel
theorem dX2_emptySectors_16 : decode cX2_emptySectors 16 = .ok (.getfield 53, 3) := by decide +kernel
theorem dX2_emptySectors_19 : decode cX2_emptySectors 19 = .ok (.aload_n 0, 1) := by decide +kernel
theorem dX2_emptySectors_20 : decode cX2_emptySectors 20 = .ok (.iload_n 1, 1) := by decide +kernel
theorem dX2_emptySectors_21 : decode cX2_emptySectors 21 = .ok (.invokevirtual 77, 3) := by decide +kernel
theorem dX2_emptySectors_24 : decode cX2_emptySectors 24 = .ok (.iadd, 1) := by decide +kernel
theorem dX2_emptySectors_25 : decode cX2_emptySectors 25 = .ok (.putfield 53, 3) := by decide +kernel
theorem dX2_emptySectors_28 : decode cX2_emptySectors 28 = .ok (.iload_n 1, 1) := by decide +kernel
theorem dX2_emptySectors_29 : decode cX2_emptySectors 29 = .ok (.invokestatic 62, 3) := by decide +kernel
theorem dX2_emptySectors_32 : decode cX2_emptySectors 32 = .ok (.istore_n 3, 1) := by decide +kernel
theorem dX2_emptySectors_33 : decode cX2_emptySectors 33 = .ok (.iload_n 3, 1) := by decide +kernel
theorem dX2_emptySectors_34 : decode cX2_emptySectors 34 = .ok (.istore 4, 2) := by decide +kernel
theorem dX2_emptySectors_36 : decode cX2_emptySectors 36 = .ok (.iload 4, 2) := by decide +kernel
theorem dX2_emptySectors_38 : decode cX2_emptySectors 38 = .ok (.iload_n 3, 1) := by decide +kernel
theorem dX2_emptySectors_39 : decode cX2_emptySectors 39 = .ok (.bipush 12, 2) := by decide +kernel
theorem dX2_emptySectors_41 : decode cX2_emptySectors 41 = .ok (.iadd, 1) := by decide +kernel
theorem dX2_emptySectors_42 : decode cX2_emptySectors 42 = .ok (.if_icmp .ge 17, 3) := by decide +kernel
theorem dX2_emptySectors_45 : decode cX2_emptySectors 45 = .ok (.aload_n 0, 1) := by decide +kernel
theorem dX2_emptySectors_46 : decode cX2_emptySectors 46 = .ok (.getfield 15, 3) := by decide +kernel
theorem dX2_emptySectors_49 : decode cX2_emptySectors 49 = .ok (.iload 4, 2) := by decide +kernel
theorem dX2_emptySectors_51 : decode cX2_emptySectors 51 = .ok (.iconst 0, 1) := by decide +kernel
theorem dX2_emptySectors_52 : decode cX2_emptySectors 52 = .ok (.iastore, 1) := by decide +kernel
theorem dX2_emptySectors_53 : decode cX2_emptySectors 53 = .ok (.iinc 4 1, 3) := by decide +kernel
theorem dX2_emptySectors_56 : decode cX2_emptySectors 56 = .ok (.goto (-20), 3) := by decide +kernel
theorem dX2_emptySectors_59 : decode cX2_emptySectors 59 = .ok (.iload_n 2, 1) := by decide +kernel
theorem dX2_emptySectors_60 : decode cX2_emptySectors 60 = .ok (.ireturn, 1) := by decide +kernel
theorem dX2_turnHandle_0 : decode cX2_turnHandle 0 = .ok (.aload_n 0, 1) := by decide +kernel
theorem dX2_turnHandle_1 : decode cX2_turnHandle 1 = .ok (.getfield 38, 3) := by decide +kernel
theorem dX2_turnHandle_4 : decode cX2_turnHandle 4 = .ok (.istore_n 2, 1) := by decide +kernel
theorem dX2_turnHandle_5 : decode cX2_turnHandle 5 = .ok (.iconst 0, 1) := by decide +kernel
theorem dX2_turnHandle_6 : decode cX2_turnHandle 6 = .ok (.istore_n 3, 1) := by decide +kernel
theorem dX2_turnHandle_7 : decode cX2_turnHandle 7 = .ok (.iload_n 3, 1) := by decide +kernel
theorem dX2_turnHandle_8 : decode cX2_turnHandle 8 = .ok (.iload_n 1, 1) := by decide +kernel
theorem dX2_turnHandle_9 : decode cX2_turnHandle 9 = .ok (.if_icmp .ge 13, 3) := by decide +kernel
theorem dX2_turnHandle_12 : decode cX2_turnHandle 12 = .ok (.aload_n 0, 1) := by decide +kernel
theorem dX2_turnHandle_13 : decode cX2_turnHandle 13 = .ok (.invokevirtual 95, 3) := by decide +kernel
theorem dX2_turnHandle_16 : decode cX2_turnHandle 16 = .ok (.iinc 3 1, 3) := by decide +kernel
theorem dX2_turnHandle_19 : decode cX2_turnHandle 19 = .ok (.goto (-12), 3) := by decide +kernel
theorem dX2_turnHandle_22 : decode cX2_turnHandle 22 = .ok (.aload_n 0, 1) := by decide +kernel
theorem dX2_turnHandle_23 : decode cX2_turnHandle 23 = .ok (.getfield 38, 3) := by decide +kernel
theorem dX2_turnHandle_26 : decode cX2_turnHandle 26 = .ok (.iload_n 2, 1) := by decide +kernel
theorem dX2_turnHandle_27 : decode cX2_turnHandle 27 = .ok (.isub, 1) := by decide +kernel
theorem dX2_turnHandle_28 : decode cX2_turnHandle 28 = .ok (.ireturn, 1) := by decide +kernel
theorem dX2_turnToGreatestDifference_0 : decode cX2_turnToGreatestDifference 0 = .ok (.iconst 0, 1) := by decide +kernel
theorem dX2_turnToGreatestDifference_1 : decode cX2_turnToGreatestDifference 1 = .ok (.istore_n 2, 1) := by decide +kernel
theorem dX2_turnToGreatestDifference_2 : decode cX2_turnToGreatestDifference 2 = .ok (.iconst 0, 1) := by decide +kernel
theorem dX2_turnToGreatestDifference_3 : decode cX2_turnToGreatestDifference 3 = .ok (.istore_n 3, 1) := by decide +kernel
theorem dX2_turnToGreatestDifference_4 : decode cX2_turnToGreatestDifference 4 = .ok (.iload_n 3, 1) := by decide +kernel
theorem dX2_turnToGreatestDifference_5 : decode cX2_turnToGreatestDifference 5 = .ok (.iload_n 1, 1) := by decide +kernel
theorem dX2_turnToGreatestDifference_6 : decode cX2_turnToGreatestDifference 6 = .ok (.if_icmp .ge 22, 3) := by decide +kernel
theorem dX2_turnToGreatestDifference_9 : decode cX2_turnToGreatestDifference 9 = .ok (.aload_n 0, 1) := by decide +kernel
theorem dX2_turnToGreatestDifference_10 : decode cX2_turnToGreatestDifference 10 = .ok (.invokevirtual 95, 3) := by decide +kernel
theorem dX2_turnToGreatestDifference_13 : decode cX2_turnToGreatestDifference 13 = .ok (.iload_n 2, 1) := by decide +kernel
theorem dX2_turnToGreatestDifference_14 : decode cX2_turnToGreatestDifference 14 = .ok (.aload_n 0, 1) := by decide +kernel
theorem dX2_turnToGreatestDifference_15 : decode cX2_turnToGreatestDifference 15 = .ok (.invokevirtual 88, 3) := by decide +kernel
theorem dX2_turnToGreatestDifference_18 : decode cX2_turnToGreatestDifference 18 = .ok (.invokestatic 71, 3) := by decide +kernel
theorem dX2_turnToGreatestDifference_21 : decode cX2_turnToGreatestDifference 21 = .ok (.istore_n 2, 1) := by decide +kernel
theorem dX2_turnToGreatestDifference_22 : decode cX2_turnToGreatestDifference 22 = .ok (.iinc 3 1, 3) := by decide +kernel
theorem dX2_turnToGreatestDifference_25 : decode cX2_turnToGreatestDifference 25 = .ok (.goto (-21), 3) := by decide +kernel
theorem dX2_turnToGreatestDifference_28 : decode cX2_turnToGreatestDifference 28 = .ok (.iload_n 2, 1) := by decide +kernel
theorem dX2_turnToGreatestDifference_29 : decode cX2_turnToGreatestDifference 29 = .ok (.ireturn, 1) := by decide +kernel
theorem dX2_turnToSpark_0 : decode cX2_turnToSpark 0 = .ok (.iconst 1, 1) := by decide +kernel
theorem dX2_turnToSpark_1 : decode cX2_turnToSpark 1 = .ok (.istore_n 2, 1) := by decide +kernel
theorem dX2_turnToSpark_2 : decode cX2_turnToSpark 2 = .ok (.iload_n 2, 1) := by decide +kernel
theorem dX2_turnToSpark_3 : decode cX2_turnToSpark 3 = .ok (.iload_n 1, 1) := by decide +kernel
theorem dX2_turnToSpark_4 : decode cX2_turnToSpark 4 = .ok (.if_icmp .gt 22, 3) := by decide +kernel
theorem dX2_turnToSpark_7 : decode cX2_turnToSpark 7 = .ok (.aload_n 0, 1) := by decide +kernel
theorem dX2_turnToSpark_8 : decode cX2_turnToSpark 8 = .ok (.invokevirtual 98, 3) := by decide +kernel
theorem dX2_turnToSpark_11 : decode cX2_turnToSpark 11 = .ok (.aload_n 0, 1) := by decide +kernel
theorem dX2_turnToSpark_12 : decode cX2_turnToSpark 12 = .ok (.invokevirtual 101, 3) := by decide +kernel
theorem dX2_turnToSpark_15 : decode cX2_turnToSpark 15 = .ok (.ifCond .eq 5, 3) := by decide +kernel
theorem dX2_turnToSpark_18 : decode cX2_turnToSpark 18 = .ok (.iload_n 2, 1) := by decide +kernel
theorem dX2_turnToSpark_19 : decode cX2_turnToSpark 19 = .ok (.ireturn, 1) := by decide +kernel
theorem dX2_turnToSpark_20 : decode cX2_turnToSpark 20 = .ok (.iinc 2 1, 3) := by decide +kernel
theorem dX2_turnToSpark_23 : decode cX2_turnToSpark 23 = .ok (.goto (-21), 3) := by decide +kernel
theorem dX2_turnToSpark_26 : decode cX2_turnToSpark 26 = .ok (.ldc 105, 2) := by decide +kernel
theorem dX2_turnToSpark_28 : decode cX2_turnToSpark 28 = .ok (.ireturn, 1) := by decide +kernel
theorem dX2_turnOnce_0 : decode cX2_turnOnce 0 = .ok (.aload_n 0, 1) := by decide +kernel
theorem dX2_turnOnce_1 : decode cX2_turnOnce 1 = .ok (.invokevirtual 98, 3) := by decide +kernel
theorem dX2_turnOnce_4 : decode cX2_turnOnce 4 = .ok (.aload_n 0, 1) := by decide +kernel
theorem dX2_turnOnce_5 : decode cX2_turnOnce 5 = .ok (.invokevirtual 101, 3) := by decide +kernel
theorem dX2_turnOnce_8 : decode cX2_turnOnce 8 = .ok (.ifCond .eq 7, 3) := by decide +kernel
theorem dX2_turnOnce_11 : decode cX2_turnOnce 11 = .ok (.aload_n 0, 1) := by decide +kernel
theorem dX2_turnOnce_12 : decode cX2_turnOnce 12 = .ok (.invokevirtual 106, 3) := by decide +kernel
theorem dX2_turnOnce_15 : decode cX2_turnOnce 15 = .ok (.aload_n 0, 1) := by decide +kernel
theorem dX2_turnOnce_16 : decode cX2_turnOnce 16 = .ok (.invokevirtual 109, 3) := by decide +kernel
theorem dX2_turnOnce_19 : decode cX2_turnOnce 19 = .ok (.return_, 1) := by decide +kernel
theorem dX2_turnAheadOfSpark_0 : decode cX2_turnAheadOfSpark 0 = .ok (.aload_n 0, 1) := by decide +kernel
theorem dX2_turnAheadOfSpark_1 : decode cX2_turnAheadOfSpark 1 = .ok (.dup, 1) := by decide +kernel
theorem dX2_turnAheadOfSpark_2 : decode cX2_turnAheadOfSpark 2 = .ok (.getfield 34, 3) := by decide +kernel
theorem dX2_turnAheadOfSpark_5 : decode cX2_turnAheadOfSpark 5 = .ok (.iconst 1, 1) := by decide +kernel
theorem dX2_turnAheadOfSpark_6 : decode cX2_turnAheadOfSpark 6 = .ok (.iadd, 1) := by decide +kernel
theorem dX2_turnAheadOfSpark_7 : decode cX2_turnAheadOfSpark 7 = .ok (.putfield 34, 3) := by decide +kernel
theorem dX2_turnAheadOfSpark_10 : decode cX2_turnAheadOfSpark 10 = .ok (.aload_n 0, 1) := by decide +kernel
theorem dX2_turnAheadOfSpark_11 : decode cX2_turnAheadOfSpark 11 = .ok (.iconst 0, 1) := by decide +kernel
theorem dX2_turnAheadOfSpark_12 : decode cX2_turnAheadOfSpark 12 = .ok (.iconst 2, 1) := by decide +kernel
theorem dX2_turnAheadOfSpark_13 : decode cX2_turnAheadOfSpark 13 = .ok (.bipush 8, 2) := by decide +kernel
theorem dX2_turnAheadOfSpark_15 : decode cX2_turnAheadOfSpark 15 = .ok (.invokevirtual 112, 3) := by decide +kernel
theorem dX2_turnAheadOfSpark_18 : decode cX2_turnAheadOfSpark 18 = .ok (.aload_n 0, 1) := by decide +kernel
theorem dX2_turnAheadOfSpark_19 : decode cX2_turnAheadOfSpark 19 = .ok (.iconst 1, 1) := by decide +kernel
theorem dX2_turnAheadOfSpark_20 : decode cX2_turnAheadOfSpark 20 = .ok (.iconst 4, 1) := by decide +kernel
theorem dX2_turnAheadOfSpark_21 : decode cX2_turnAheadOfSpark 21 = .ok (.bipush 10, 2) := by decide +kernel
theorem dX2_turnAheadOfSpark_23 : decode cX2_turnAheadOfSpark 23 = .ok (.invokevirtual 112, 3) := by decide +kernel
theorem dX2_turnAheadOfSpark_26 : decode cX2_turnAheadOfSpark 26 = .ok (.aload_n 0, 1) := by decide +kernel
theorem dX2_turnAheadOfSpark_27 : decode cX2_turnAheadOfSpark 27 = .ok (.iconst 0, 1) := by decide +kernel
theorem dX2_turnAheadOfSpark_28 : decode cX2_turnAheadOfSpark 28 = .ok (.iconst 0, 1) := by decide +kernel
theorem dX2_turnAheadOfSpark_29 : decode cX2_turnAheadOfSpark 29 = .ok (.invokevirtual 116, 3) := by decide +kernel
theorem dX2_turnAheadOfSpark_32 : decode cX2_turnAheadOfSpark 32 = .ok (.aload_n 0, 1) := by decide +kernel
theorem dX2_turnAheadOfSpark_33 : decode cX2_turnAheadOfSpark 33 = .ok (.iconst 1, 1) := by decide +kernel
theorem dX2_turnAheadOfSpark_34 : decode cX2_turnAheadOfSpark 34 = .ok (.bipush 6, 2) := by decide +kernel
theorem dX2_turnAheadOfSpark_36 : decode cX2_turnAheadOfSpark 36 = .ok (.invokevirtual 116, 3) := by decide +kernel
theorem dX2_turnAheadOfSpark_39 : decode cX2_turnAheadOfSpark 39 = .ok (.aload_n 0, 1) := by decide +kernel
theorem dX2_turnAheadOfSpark_40 : decode cX2_turnAheadOfSpark 40 = .ok (.invokevirtual 120, 3) := by decide +kernel
theorem dX2_turnAheadOfSpark_43 : decode cX2_turnAheadOfSpark 43 = .ok (.aload_n 0, 1) := by decide +kernel
theorem dX2_turnAheadOfSpark_44 : decode cX2_turnAheadOfSpark 44 = .ok (.iconst 0, 1) := by decide +kernel
theorem dX2_turnAheadOfSpark_45 : decode cX2_turnAheadOfSpark 45 = .ok (.invokevirtual 123, 3) := by decide +kernel
theorem dX2_turnAheadOfSpark_48 : decode cX2_turnAheadOfSpark 48 = .ok (.aload_n 0, 1) := by decide +kernel
theorem dX2_turnAheadOfSpark_49 : decode cX2_turnAheadOfSpark 49 = .ok (.iconst 1, 1) := by decide +kernel
theorem dX2_turnAheadOfSpark_50 : decode cX2_turnAheadOfSpark 50 = .ok (.invokevirtual 123, 3) := by decide +kernel
theorem dX2_turnAheadOfSpark_53 : decode cX2_turnAheadOfSpark 53 = .ok (.return_, 1) := by decide +kernel
theorem dX2_join_0 : decode cX2_join 0 = .ok (.iload_n 1, 1) := by decide +kernel
theorem dX2_join_1 : decode cX2_join 1 = .ok (.iload_n 2, 1) := by decide +kernel
theorem dX2_join_2 : decode cX2_join 2 = .ok (.aload_n 0, 1) := by decide +kernel
theorem dX2_join_3 : decode cX2_join 3 = .ok (.getfield 34, 3) := by decide +kernel
theorem dX2_join_6 : decode cX2_join 6 = .ok (.invokestatic 84, 3) := by decide +kernel
theorem dX2_join_9 : decode cX2_join 9 = .ok (.istore 4, 2) := by decide +kernel
theorem dX2_join_11 : decode cX2_join 11 = .ok (.iload_n 1, 1) := by decide +kernel
theorem dX2_join_12 : decode cX2_join 12 = .ok (.iload_n 3, 1) := by decide +kernel
theorem dX2_join_13 : decode cX2_join 13 = .ok (.aload_n 0, 1) := by decide +kernel
theorem dX2_join_14 : decode cX2_join 14 = .ok (.getfield 34, 3) := by decide +kernel
theorem dX2_join_17 : decode cX2_join 17 = .ok (.invokestatic 84, 3) := by decide +kernel
theorem dX2_join_20 : decode cX2_join 20 = .ok (.istore 5, 2) := by decide +kernel
theorem dX2_join_22 : decode cX2_join 22 = .ok (.aload_n 0, 1) := by decide +kernel
theorem dX2_join_23 : decode cX2_join 23 = .ok (.getfield 15, 3) := by decide +kernel
theorem dX2_join_26 : decode cX2_join 26 = .ok (.iload 4, 2) := by decide +kernel
theorem dX2_join_28 : decode cX2_join 28 = .ok (.iaload, 1) := by decide +kernel
theorem dX2_join_29 : decode cX2_join 29 = .ok (.istore 6, 2) := by decide +kernel
theorem dX2_join_31 : decode cX2_join 31 = .ok (.aload_n 0, 1) := by decide +kernel
theorem dX2_join_32 : decode cX2_join 32 = .ok (.getfield 15, 3) := by decide +kernel
theorem dX2_join_35 : decode cX2_join 35 = .ok (.iload 5, 2) := by decide +kernel
theorem dX2_join_37 : decode cX2_join 37 = .ok (.iaload, 1) := by decide +kernel
theorem dX2_join_38 : decode cX2_join 38 = .ok (.istore 7, 2) := by decide +kernel
theorem dX2_join_40 : decode cX2_join 40 = .ok (.aload_n 0, 1) := by decide +kernel
theorem dX2_join_41 : decode cX2_join 41 = .ok (.getfield 15, 3) := by decide +kernel
theorem dX2_join_44 : decode cX2_join 44 = .ok (.iconst 1, 1) := by decide +kernel
theorem dX2_join_45 : decode cX2_join 45 = .ok (.iload_n 1, 1) := by decide +kernel
theorem dX2_join_46 : decode cX2_join 46 = .ok (.isub, 1) := by decide +kernel
theorem dX2_join_47 : decode cX2_join 47 = .ok (.iload_n 2, 1) := by decide +kernel
theorem dX2_join_48 : decode cX2_join 48 = .ok (.aload_n 0, 1) := by decide +kernel
theorem dX2_join_49 : decode cX2_join 49 = .ok (.getfield 34, 3) := by decide +kernel
theorem dX2_join_52 : decode cX2_join 52 = .ok (.invokestatic 84, 3) := by decide +kernel
theorem dX2_join_55 : decode cX2_join 55 = .ok (.iaload, 1) := by decide +kernel
theorem dX2_join_56 : decode cX2_join 56 = .ok (.istore 8, 2) := by decide +kernel
theorem dX2_join_58 : decode cX2_join 58 = .ok (.aload_n 0, 1) := by decide +kernel
theorem dX2_join_59 : decode cX2_join 59 = .ok (.getfield 15, 3) := by decide +kernel
theorem dX2_join_62 : decode cX2_join 62 = .ok (.iconst 1, 1) := by decide +kernel
theorem dX2_join_63 : decode cX2_join 63 = .ok (.iload_n 1, 1) := by decide +kernel
theorem dX2_join_64 : decode cX2_join 64 = .ok (.isub, 1) := by decide +kernel
theorem dX2_join_65 : decode cX2_join 65 = .ok (.iload_n 3, 1) := by decide +kernel
theorem dX2_join_66 : decode cX2_join 66 = .ok (.aload_n 0, 1) := by decide +kernel
theorem dX2_join_67 : decode cX2_join 67 = .ok (.getfield 34, 3) := by decide +kernel
theorem dX2_join_70 : decode cX2_join 70 = .ok (.invokestatic 84, 3) := by decide +kernel
theorem dX2_join_73 : decode cX2_join 73 = .ok (.iaload, 1) := by decide +kernel
theorem dX2_join_74 : decode cX2_join 74 = .ok (.istore 9, 2) := by decide +kernel
theorem dX2_join_76 : decode cX2_join 76 = .ok (.iload 6, 2) := by decide +kernel
theorem dX2_join_78 : decode cX2_join 78 = .ok (.iload 7, 2) := by decide +kernel
theorem dX2_join_80 : decode cX2_join 80 = .ok (.iadd, 1) := by decide +kernel
theorem dX2_join_81 : decode cX2_join 81 = .ok (.iconst 2, 1) := by decide +kernel
theorem dX2_join_82 : decode cX2_join 82 = .ok (.idiv, 1) := by decide +kernel
theorem dX2_join_83 : decode cX2_join 83 = .ok (.iload 9, 2) := by decide +kernel
theorem dX2_join_85 : decode cX2_join 85 = .ok (.iload 8, 2) := by decide +kernel
theorem dX2_join_87 : decode cX2_join 87 = .ok (.isub, 1) := by decide +kernel
theorem dX2_join_88 : decode cX2_join 88 = .ok (.aload_n 0, 1) := by decide +kernel
theorem dX2_join_89 : decode cX2_join 89 = .ok (.getfield 9, 3) := by decide +kernel
theorem dX2_join_92 : decode cX2_join 92 = .ok (.iconst 0, 1) := by decide +kernel
theorem dX2_join_93 : decode cX2_join 93 = .ok (.iaload, 1) := by decide +kernel
theorem dX2_join_94 : decode cX2_join 94 = .ok (.imul, 1) := by decide +kernel
theorem dX2_join_95 : decode cX2_join 95 = .ok (.bipush 32, 2) := by decide +kernel
theorem dX2_join_97 : decode cX2_join 97 = .ok (.idiv, 1) := by decide +kernel
theorem dX2_join_98 : decode cX2_join 98 = .ok (.iadd, 1) := by decide +kernel
theorem dX2_join_99 : decode cX2_join 99 = .ok (.istore 10, 2) := by decide +kernel
theorem dX2_join_101 : decode cX2_join 101 = .ok (.bipush (-99), 2) := by decide +kernel
theorem dX2_join_103 : decode cX2_join 103 = .ok (.iload 6, 2) := by decide +kernel
theorem dX2_join_105 : decode cX2_join 105 = .ok (.isub, 1) := by decide +kernel
theorem dX2_join_106 : decode cX2_join 106 = .ok (.iload 7, 2) := by decide +kernel
theorem dX2_join_108 : decode cX2_join 108 = .ok (.bipush 99, 2) := by decide +kernel
theorem dX2_join_110 : decode cX2_join 110 = .ok (.isub, 1) := by decide +kernel
theorem dX2_join_111 : decode cX2_join 111 = .ok (.invokestatic 71, 3) := by decide +kernel
theorem dX2_join_114 : decode cX2_join 114 = .ok (.istore 11, 2) := by decide +kernel
theorem dX2_join_116 : decode cX2_join 116 = .ok (.bipush 99, 2) := by decide +kernel
theorem dX2_join_118 : decode cX2_join 118 = .ok (.iload 6, 2) := by decide +kernel
theorem dX2_join_120 : decode cX2_join 120 = .ok (.isub, 1) := by decide +kernel
theorem dX2_join_121 : decode cX2_join 121 = .ok (.iload 7, 2) := by decide +kernel
theorem dX2_join_123 : decode cX2_join 123 = .ok (.bipush 99, 2) := by decide +kernel
theorem dX2_join_125 : decode cX2_join 125 = .ok (.iadd, 1) := by decide +kernel
theorem dX2_join_126 : decode cX2_join 126 = .ok (.invokestatic 74, 3) := by decide +kernel
theorem dX2_join_129 : decode cX2_join 129 = .ok (.istore 12, 2) := by decide +kernel
theorem dX2_join_131 : decode cX2_join 131 = .ok (.iload 10, 2) := by decide +kernel
theorem dX2_join_133 : decode cX2_join 133 = .ok (.iload 6, 2) := by decide +kernel
theorem dX2_join_135 : decode cX2_join 135 = .ok (.isub, 1) := by decide +kernel
theorem dX2_join_136 : decode cX2_join 136 = .ok (.iload 11, 2) := by decide +kernel
theorem dX2_join_138 : decode cX2_join 138 = .ok (.iload 12, 2) := by decide +kernel
theorem dX2_join_140 : decode cX2_join 140 = .ok (.invokestatic 127, 3) := by decide +kernel
theorem dX2_join_143 : decode cX2_join 143 = .ok (.istore 13, 2) := by decide +kernel
theorem dX2_join_145 : decode cX2_join 145 = .ok (.aload_n 0, 1) := by decide +kernel
theorem dX2_join_146 : decode cX2_join 146 = .ok (.getfield 15, 3) := by decide +kernel
theorem dX2_join_149 : decode cX2_join 149 = .ok (.iload 4, 2) := by decide +kernel
theorem dX2_join_151 : decode cX2_join 151 = .ok (.iload 6, 2) := by decide +kernel
theorem dX2_join_153 : decode cX2_join 153 = .ok (.iload 13, 2) := by decide +kernel
theorem dX2_join_155 : decode cX2_join 155 = .ok (.iadd, 1) := by decide +kernel
theorem dX2_join_156 : decode cX2_join 156 = .ok (.iastore, 1) := by decide +kernel
theorem dX2_join_157 : decode cX2_join 157 = .ok (.aload_n 0, 1) := by decide +kernel
theorem dX2_join_158 : decode cX2_join 158 = .ok (.getfield 15, 3) := by decide +kernel
theorem dX2_join_161 : decode cX2_join 161 = .ok (.iload 5, 2) := by decide +kernel
theorem dX2_join_163 : decode cX2_join 163 = .ok (.iload 7, 2) := by decide +kernel
theorem dX2_join_165 : decode cX2_join 165 = .ok (.iload 13, 2) := by decide +kernel
theorem dX2_join_167 : decode cX2_join 167 = .ok (.isub, 1) := by decide +kernel
theorem dX2_join_168 : decode cX2_join 168 = .ok (.iastore, 1) := by decide +kernel
theorem dX2_join_169 : decode cX2_join 169 = .ok (.return_, 1) := by decide +kernel
theorem dX2_gather_0 : decode cX2_gather 0 = .ok (.iconst 0, 1) := by decide +kernel
theorem dX2_gather_1 : decode cX2_gather 1 = .ok (.istore_n 3, 1) := by decide +kernel
theorem dX2_gather_2 : decode cX2_gather 2 = .ok (.iload_n 3, 1) := by decide +kernel
theorem dX2_gather_3 : decode cX2_gather 3 = .ok (.iconst 2, 1) := by decide +kernel
theorem dX2_gather_4 : decode cX2_gather 4 = .ok (.if_icmp .ge 93, 3) := by decide +kernel
theorem dX2_gather_7 : decode cX2_gather 7 = .ok (.iload_n 3, 1) := by decide +kernel
theorem dX2_gather_8 : decode cX2_gather 8 = .ok (.iload_n 2, 1) := by decide +kernel
theorem dX2_gather_9 : decode cX2_gather 9 = .ok (.aload_n 0, 1) := by decide +kernel
theorem dX2_gather_10 : decode cX2_gather 10 = .ok (.getfield 34, 3) := by decide +kernel
theorem dX2_gather_13 : decode cX2_gather 13 = .ok (.invokestatic 84, 3) := by decide +kernel
theorem dX2_gather_16 : decode cX2_gather 16 = .ok (.istore 4, 2) := by decide +kernel
theorem dX2_gather_18 : decode cX2_gather 18 = .ok (.aload_n 0, 1) := by decide +kernel
theorem dX2_gather_19 : decode cX2_gather 19 = .ok (.getfield 9, 3) := by decide +kernel
theorem dX2_gather_22 : decode cX2_gather 22 = .ok (.iconst 4, 1) := by decide +kernel
theorem dX2_gather_23 : decode cX2_gather 23 = .ok (.iaload, 1) := by decide +kernel
theorem dX2_gather_24 : decode cX2_gather 24 = .ok (.istore 5, 2) := by decide +kernel
theorem dX2_gather_26 : decode cX2_gather 26 = .ok (.aload_n 0, 1) := by decide +kernel
theorem dX2_gather_27 : decode cX2_gather 27 = .ok (.getfield 15, 3) := by decide +kernel
theorem dX2_gather_30 : decode cX2_gather 30 = .ok (.iload 4, 2) := by decide +kernel
theorem dX2_gather_32 : decode cX2_gather 32 = .ok (.iaload, 1) := by decide +kernel
theorem dX2_gather_33 : decode cX2_gather 33 = .ok (.iload 5, 2) := by decide +kernel
theorem dX2_gather_35 : decode cX2_gather 35 = .ok (.ineg, 1) := by decide +kernel
theorem dX2_gather_36 : decode cX2_gather 36 = .ok (.aload_n 0, 1) := by decide +kernel
theorem dX2_gather_37 : decode cX2_gather 37 = .ok (.getfield 18, 3) := by decide +kernel
theorem dX2_gather_40 : decode cX2_gather 40 = .ok (.iload_n 1, 1) := by decide +kernel
theorem dX2_gather_41 : decode cX2_gather 41 = .ok (.iaload, 1) := by decide +kernel
theorem dX2_gather_42 : decode cX2_gather 42 = .ok (.isub, 1) := by decide +kernel
theorem dX2_gather_43 : decode cX2_gather 43 = .ok (.iload 5, 2) := by decide +kernel
theorem dX2_gather_45 : decode cX2_gather 45 = .ok (.aload_n 0, 1) := by decide +kernel
theorem dX2_gather_46 : decode cX2_gather 46 = .ok (.getfield 18, 3) := by decide +kernel
theorem dX2_gather_49 : decode cX2_gather 49 = .ok (.iload_n 1, 1) := by decide +kernel
theorem dX2_gather_50 : decode cX2_gather 50 = .ok (.iaload, 1) := by decide +kernel
theorem dX2_gather_51 : decode cX2_gather 51 = .ok (.isub, 1) := by decide +kernel
theorem dX2_gather_52 : decode cX2_gather 52 = .ok (.invokestatic 127, 3) := by decide +kernel
theorem dX2_gather_55 : decode cX2_gather 55 = .ok (.istore 6, 2) := by decide +kernel
theorem dX2_gather_57 : decode cX2_gather 57 = .ok (.aload_n 0, 1) := by decide +kernel
theorem dX2_gather_58 : decode cX2_gather 58 = .ok (.getfield 15, 3) := by decide +kernel
theorem dX2_gather_61 : decode cX2_gather 61 = .ok (.iload 4, 2) := by decide +kernel
theorem dX2_gather_63 : decode cX2_gather 63 = .ok (.dup2, 1) := by decide +kernel
theorem dX2_gather_64 : decode cX2_gather 64 = .ok (.iaload, 1) := by decide +kernel
theorem dX2_gather_65 : decode cX2_gather 65 = .ok (.iload 6, 2) := by decide +kernel
theorem dX2_gather_67 : decode cX2_gather 67 = .ok (.isub, 1) := by decide +kernel
theorem dX2_gather_68 : decode cX2_gather 68 = .ok (.iastore, 1) := by decide +kernel
theorem dX2_gather_69 : decode cX2_gather 69 = .ok (.aload_n 0, 1) := by decide +kernel
theorem dX2_gather_70 : decode cX2_gather 70 = .ok (.getfield 18, 3) := by decide +kernel
theorem dX2_gather_73 : decode cX2_gather 73 = .ok (.iload_n 1, 1) := by decide +kernel
theorem dX2_gather_74 : decode cX2_gather 74 = .ok (.dup2, 1) := by decide +kernel
theorem dX2_gather_75 : decode cX2_gather 75 = .ok (.iaload, 1) := by decide +kernel
theorem dX2_gather_76 : decode cX2_gather 76 = .ok (.iload 6, 2) := by decide +kernel
theorem dX2_gather_78 : decode cX2_gather 78 = .ok (.iadd, 1) := by decide +kernel
theorem dX2_gather_79 : decode cX2_gather 79 = .ok (.iastore, 1) := by decide +kernel
theorem dX2_gather_80 : decode cX2_gather 80 = .ok (.aload_n 0, 1) := by decide +kernel
theorem dX2_gather_81 : decode cX2_gather 81 = .ok (.getfield 21, 3) := by decide +kernel
theorem dX2_gather_84 : decode cX2_gather 84 = .ok (.iload_n 1, 1) := by decide +kernel
theorem dX2_gather_85 : decode cX2_gather 85 = .ok (.dup2, 1) := by decide +kernel
theorem dX2_gather_86 : decode cX2_gather 86 = .ok (.iaload, 1) := by decide +kernel
theorem dX2_gather_87 : decode cX2_gather 87 = .ok (.iload 6, 2) := by decide +kernel
theorem dX2_gather_89 : decode cX2_gather 89 = .ok (.iadd, 1) := by decide +kernel
theorem dX2_gather_90 : decode cX2_gather 90 = .ok (.iastore, 1) := by decide +kernel
theorem dX2_gather_91 : decode cX2_gather 91 = .ok (.iinc 3 1, 3) := by decide +kernel
theorem dX2_gather_94 : decode cX2_gather 94 = .ok (.goto (-92), 3) := by decide +kernel
theorem dX2_gather_97 : decode cX2_gather 97 = .ok (.return_, 1) := by decide +kernel
theorem dX2_leakFromSectors_0 : decode cX2_leakFromSectors 0 = .ok (.iconst 0, 1) := by decide +kernel
theorem dX2_leakFromSectors_1 : decode cX2_leakFromSectors 1 = .ok (.istore_n 1, 1) := by decide +kernel
theorem dX2_leakFromSectors_2 : decode cX2_leakFromSectors 2 = .ok (.iload_n 1, 1) := by decide +kernel
theorem dX2_leakFromSectors_3 : decode cX2_leakFromSectors 3 = .ok (.aload_n 0, 1) := by decide +kernel
theorem dX2_leakFromSectors_4 : decode cX2_leakFromSectors 4 = .ok (.getfield 15, 3) := by decide +kernel
theorem dX2_leakFromSectors_7 : decode cX2_leakFromSectors 7 = .ok (.arraylength, 1) := by decide +kernel
theorem dX2_leakFromSectors_8 : decode cX2_leakFromSectors 8 = .ok (.if_icmp .ge 46, 3) := by decide +kernel
theorem dX2_leakFromSectors_11 : decode cX2_leakFromSectors 11 = .ok (.aload_n 0, 1) := by decide +kernel
theorem dX2_leakFromSectors_12 : decode cX2_leakFromSectors 12 = .ok (.getfield 15, 3) := by decide +kernel
theorem dX2_leakFromSectors_15 : decode cX2_leakFromSectors 15 = .ok (.iload_n 1, 1) := by decide +kernel
theorem dX2_leakFromSectors_16 : decode cX2_leakFromSectors 16 = .ok (.iaload, 1) := by decide +kernel
theorem dX2_leakFromSectors_17 : decode cX2_leakFromSectors 17 = .ok (.aload_n 0, 1) := by decide +kernel
theorem dX2_leakFromSectors_18 : decode cX2_leakFromSectors 18 = .ok (.getfield 9, 3) := by decide +kernel
theorem dX2_leakFromSectors_21 : decode cX2_leakFromSectors 21 = .ok (.iconst 1, 1) := by decide +kernel
theorem dX2_leakFromSectors_22 : decode cX2_leakFromSectors 22 = .ok (.iaload, 1) := by decide +kernel
theorem dX2_leakFromSectors_23 : decode cX2_leakFromSectors 23 = .ok (.imul, 1) := by decide +kernel
theorem dX2_leakFromSectors_24 : decode cX2_leakFromSectors 24 = .ok (.bipush 100, 2) := by decide +kernel
theorem dX2_leakFromSectors_26 : decode cX2_leakFromSectors 26 = .ok (.idiv, 1) := by decide +kernel
theorem dX2_leakFromSectors_27 : decode cX2_leakFromSectors 27 = .ok (.istore_n 2, 1) := by decide +kernel
theorem dX2_leakFromSectors_28 : decode cX2_leakFromSectors 28 = .ok (.aload_n 0, 1) := by decide +kernel
theorem dX2_leakFromSectors_29 : decode cX2_leakFromSectors 29 = .ok (.getfield 15, 3) := by decide +kernel
theorem dX2_leakFromSectors_32 : decode cX2_leakFromSectors 32 = .ok (.iload_n 1, 1) := by decide +kernel
theorem dX2_leakFromSectors_33 : decode cX2_leakFromSectors 33 = .ok (.dup2, 1) := by decide +kernel
theorem dX2_leakFromSectors_34 : decode cX2_leakFromSectors 34 = .ok (.iaload, 1) := by decide +kernel
theorem dX2_leakFromSectors_35 : decode cX2_leakFromSectors 35 = .ok (.iload_n 2, 1) := by decide +kernel
theorem dX2_leakFromSectors_36 : decode cX2_leakFromSectors 36 = .ok (.isub, 1) := by decide +kernel
theorem dX2_leakFromSectors_37 : decode cX2_leakFromSectors 37 = .ok (.iastore, 1) := by decide +kernel
theorem dX2_leakFromSectors_38 : decode cX2_leakFromSectors 38 = .ok (.aload_n 0, 1) := by decide +kernel
theorem dX2_leakFromSectors_39 : decode cX2_leakFromSectors 39 = .ok (.dup, 1) := by decide +kernel
theorem dX2_leakFromSectors_40 : decode cX2_leakFromSectors 40 = .ok (.getfield 47, 3) := by decide +kernel
theorem dX2_leakFromSectors_43 : decode cX2_leakFromSectors 43 = .ok (.iload_n 2, 1) := by decide +kernel
theorem dX2_leakFromSectors_44 : decode cX2_leakFromSectors 44 = .ok (.iadd, 1) := by decide +kernel
theorem dX2_leakFromSectors_45 : decode cX2_leakFromSectors 45 = .ok (.putfield 47, 3) := by decide +kernel
theorem dX2_leakFromSectors_48 : decode cX2_leakFromSectors 48 = .ok (.iinc 1 1, 3) := by decide +kernel
theorem dX2_leakFromSectors_51 : decode cX2_leakFromSectors 51 = .ok (.goto (-49), 3) := by decide +kernel
theorem dX2_leakFromSectors_54 : decode cX2_leakFromSectors 54 = .ok (.return_, 1) := by decide +kernel
theorem dX2_leakFromJar_0 : decode cX2_leakFromJar 0 = .ok (.aload_n 0, 1) := by decide +kernel
theorem dX2_leakFromJar_1 : decode cX2_leakFromJar 1 = .ok (.getfield 18, 3) := by decide +kernel
theorem dX2_leakFromJar_4 : decode cX2_leakFromJar 4 = .ok (.iload_n 1, 1) := by decide +kernel
theorem dX2_leakFromJar_5 : decode cX2_leakFromJar 5 = .ok (.iaload, 1) := by decide +kernel
theorem dX2_leakFromJar_6 : decode cX2_leakFromJar 6 = .ok (.aload_n 0, 1) := by decide +kernel
theorem dX2_leakFromJar_7 : decode cX2_leakFromJar 7 = .ok (.getfield 9, 3) := by decide +kernel
theorem dX2_leakFromJar_10 : decode cX2_leakFromJar 10 = .ok (.iconst 1, 1) := by decide +kernel
theorem dX2_leakFromJar_11 : decode cX2_leakFromJar 11 = .ok (.iaload, 1) := by decide +kernel
theorem dX2_leakFromJar_12 : decode cX2_leakFromJar 12 = .ok (.imul, 1) := by decide +kernel
theorem dX2_leakFromJar_13 : decode cX2_leakFromJar 13 = .ok (.sipush 200, 3) := by decide +kernel
theorem dX2_leakFromJar_16 : decode cX2_leakFromJar 16 = .ok (.idiv, 1) := by decide +kernel
theorem dX2_leakFromJar_17 : decode cX2_leakFromJar 17 = .ok (.istore_n 2, 1) := by decide +kernel
theorem dX2_leakFromJar_18 : decode cX2_leakFromJar 18 = .ok (.aload_n 0, 1) := by decide +kernel
theorem dX2_leakFromJar_19 : decode cX2_leakFromJar 19 = .ok (.getfield 18, 3) := by decide +kernel
theorem dX2_leakFromJar_22 : decode cX2_leakFromJar 22 = .ok (.iload_n 1, 1) := by decide +kernel
theorem dX2_leakFromJar_23 : decode cX2_leakFromJar 23 = .ok (.dup2, 1) := by decide +kernel
theorem dX2_leakFromJar_24 : decode cX2_leakFromJar 24 = .ok (.iaload, 1) := by decide +kernel
theorem dX2_leakFromJar_25 : decode cX2_leakFromJar 25 = .ok (.iload_n 2, 1) := by decide +kernel
theorem dX2_leakFromJar_26 : decode cX2_leakFromJar 26 = .ok (.isub, 1) := by decide +kernel
theorem dX2_leakFromJar_27 : decode cX2_leakFromJar 27 = .ok (.iastore, 1) := by decide +kernel
theorem dX2_leakFromJar_28 : decode cX2_leakFromJar 28 = .ok (.aload_n 0, 1) := by decide +kernel
theorem dX2_leakFromJar_29 : decode cX2_leakFromJar 29 = .ok (.getfield 24, 3) := by decide +kernel
theorem dX2_leakFromJar_32 : decode cX2_leakFromJar 32 = .ok (.iload_n 1, 1) := by decide +kernel
theorem dX2_leakFromJar_33 : decode cX2_leakFromJar 33 = .ok (.dup2, 1) := by decide +kernel
theorem dX2_leakFromJar_34 : decode cX2_leakFromJar 34 = .ok (.iaload, 1) := by decide +kernel
theorem dX2_leakFromJar_35 : decode cX2_leakFromJar 35 = .ok (.iload_n 2, 1) := by decide +kernel
theorem dX2_leakFromJar_36 : decode cX2_leakFromJar 36 = .ok (.iadd, 1) := by decide +kernel
theorem dX2_leakFromJar_37 : decode cX2_leakFromJar 37 = .ok (.iastore, 1) := by decide +kernel
theorem dX2_leakFromJar_38 : decode cX2_leakFromJar 38 = .ok (.aload_n 0, 1) := by decide +kernel
theorem dX2_leakFromJar_39 : decode cX2_leakFromJar 39 = .ok (.dup, 1) := by decide +kernel
theorem dX2_leakFromJar_40 : decode cX2_leakFromJar 40 = .ok (.getfield 47, 3) := by decide +kernel
theorem dX2_leakFromJar_43 : decode cX2_leakFromJar 43 = .ok (.iload_n 2, 1) := by decide +kernel
theorem dX2_leakFromJar_44 : decode cX2_leakFromJar 44 = .ok (.iadd, 1) := by decide +kernel
theorem dX2_leakFromJar_45 : decode cX2_leakFromJar 45 = .ok (.putfield 47, 3) := by decide +kernel
theorem dX2_leakFromJar_48 : decode cX2_leakFromJar 48 = .ok (.return_, 1) := by decide +kernel
theorem dX2_isSparkDue_0 : decode cX2_isSparkDue 0 = .ok (.aload_n 0, 1) := by decide +kernel
theorem dX2_isSparkDue_1 : decode cX2_isSparkDue 1 = .ok (.invokevirtual 88, 3) := by decide +kernel
theorem dX2_isSparkDue_4 : decode cX2_isSparkDue 4 = .ok (.bipush 10, 2) := by decide +kernel
theorem dX2_isSparkDue_6 : decode cX2_isSparkDue 6 = .ok (.aload_n 0, 1) := by decide +kernel
theorem dX2_isSparkDue_7 : decode cX2_isSparkDue 7 = .ok (.getfield 9, 3) := by decide +kernel
theorem dX2_isSparkDue_10 : decode cX2_isSparkDue 10 = .ok (.iconst 2, 1) := by decide +kernel
theorem dX2_isSparkDue_11 : decode cX2_isSparkDue 11 = .ok (.iaload, 1) := by decide +kernel
theorem dX2_isSparkDue_12 : decode cX2_isSparkDue 12 = .ok (.imul, 1) := by decide +kernel
theorem dX2_isSparkDue_13 : decode cX2_isSparkDue 13 = .ok (.if_icmp .lt 7, 3) := by decide +kernel
theorem dX2_isSparkDue_16 : decode cX2_isSparkDue 16 = .ok (.iconst 1, 1) := by decide +kernel
theorem dX2_isSparkDue_17 : decode cX2_isSparkDue 17 = .ok (.goto 4, 3) := by decide +kernel
theorem dX2_isSparkDue_20 : decode cX2_isSparkDue 20 = .ok (.iconst 0, 1) := by decide +kernel
theorem dX2_isSparkDue_21 : decode cX2_isSparkDue 21 = .ok (.ireturn, 1) := by decide +kernel
theorem dX2_letJump_0 : decode cX2_letJump 0 = .ok (.aload_n 0, 1) := by decide +kernel
theorem dX2_letJump_1 : decode cX2_letJump 1 = .ok (.getfield 38, 3) := by decide +kernel
theorem dX2_letJump_4 : decode cX2_letJump 4 = .ok (.invokestatic 130, 3) := by decide +kernel
theorem dX2_letJump_7 : decode cX2_letJump 7 = .ok (.istore_n 1, 1) := by decide +kernel
theorem dX2_letJump_8 : decode cX2_letJump 8 = .ok (.aload_n 0, 1) := by decide +kernel
theorem dX2_letJump_9 : decode cX2_letJump 9 = .ok (.getfield 27, 3) := by decide +kernel
theorem dX2_letJump_12 : decode cX2_letJump 12 = .ok (.iload_n 1, 1) := by decide +kernel
theorem dX2_letJump_13 : decode cX2_letJump 13 = .ok (.aload_n 0, 1) := by decide +kernel
theorem dX2_letJump_14 : decode cX2_letJump 14 = .ok (.getfield 34, 3) := by decide +kernel
theorem dX2_letJump_17 : decode cX2_letJump 17 = .ok (.iastore, 1) := by decide +kernel
theorem dX2_letJump_18 : decode cX2_letJump 18 = .ok (.aload_n 0, 1) := by decide +kernel
theorem dX2_letJump_19 : decode cX2_letJump 19 = .ok (.getfield 27, 3) := by decide +kernel
theorem dX2_letJump_22 : decode cX2_letJump 22 = .ok (.iload_n 1, 1) := by decide +kernel
theorem dX2_letJump_23 : decode cX2_letJump 23 = .ok (.iconst 1, 1) := by decide +kernel
theorem dX2_letJump_24 : decode cX2_letJump 24 = .ok (.iadd, 1) := by decide +kernel
theorem dX2_letJump_25 : decode cX2_letJump 25 = .ok (.aload_n 0, 1) := by decide +kernel
theorem dX2_letJump_26 : decode cX2_letJump 26 = .ok (.getfield 18, 3) := by decide +kernel
theorem dX2_letJump_29 : decode cX2_letJump 29 = .ok (.iconst 0, 1) := by decide +kernel
theorem dX2_letJump_30 : decode cX2_letJump 30 = .ok (.iaload, 1) := by decide +kernel
theorem dX2_letJump_31 : decode cX2_letJump 31 = .ok (.iastore, 1) := by decide +kernel
theorem dX2_letJump_32 : decode cX2_letJump 32 = .ok (.aload_n 0, 1) := by decide +kernel
theorem dX2_letJump_33 : decode cX2_letJump 33 = .ok (.getfield 27, 3) := by decide +kernel
theorem dX2_letJump_36 : decode cX2_letJump 36 = .ok (.iload_n 1, 1) := by decide +kernel
theorem dX2_letJump_37 : decode cX2_letJump 37 = .ok (.iconst 2, 1) := by decide +kernel
theorem dX2_letJump_38 : decode cX2_letJump 38 = .ok (.iadd, 1) := by decide +kernel
theorem dX2_letJump_39 : decode cX2_letJump 39 = .ok (.aload_n 0, 1) := by decide +kernel
theorem dX2_letJump_40 : decode cX2_letJump 40 = .ok (.getfield 18, 3) := by decide +kernel
theorem dX2_letJump_43 : decode cX2_letJump 43 = .ok (.iconst 1, 1) := by decide +kernel
theorem dX2_letJump_44 : decode cX2_letJump 44 = .ok (.iaload, 1) := by decide +kernel
theorem dX2_letJump_45 : decode cX2_letJump 45 = .ok (.iastore, 1) := by decide +kernel
theorem dX2_letJump_46 : decode cX2_letJump 46 = .ok (.aload_n 0, 1) := by decide +kernel
theorem dX2_letJump_47 : decode cX2_letJump 47 = .ok (.dup, 1) := by decide +kernel
theorem dX2_letJump_48 : decode cX2_letJump 48 = .ok (.getfield 38, 3) := by decide +kernel
theorem dX2_letJump_51 : decode cX2_letJump 51 = .ok (.iconst 1, 1) := by decide +kernel
theorem dX2_letJump_52 : decode cX2_letJump 52 = .ok (.iadd, 1) := by decide +kernel
theorem dX2_letJump_53 : decode cX2_letJump 53 = .ok (.putfield 38, 3) := by decide +kernel
theorem dX2_letJump_56 : decode cX2_letJump 56 = .ok (.aload_n 0, 1) := by decide +kernel
theorem dX2_letJump_57 : decode cX2_letJump 57 = .ok (.getfield 18, 3) := by decide +kernel
theorem dX2_letJump_60 : decode cX2_letJump 60 = .ok (.iconst 0, 1) := by decide +kernel
theorem dX2_letJump_61 : decode cX2_letJump 61 = .ok (.iaload, 1) := by decide +kernel
theorem dX2_letJump_62 : decode cX2_letJump 62 = .ok (.aload_n 0, 1) := by decide +kernel
theorem dX2_letJump_63 : decode cX2_letJump 63 = .ok (.getfield 18, 3) := by decide +kernel
theorem dX2_letJump_66 : decode cX2_letJump 66 = .ok (.iconst 1, 1) := by decide +kernel
theorem dX2_letJump_67 : decode cX2_letJump 67 = .ok (.iaload, 1) := by decide +kernel
theorem dX2_letJump_68 : decode cX2_letJump 68 = .ok (.iadd, 1) := by decide +kernel
theorem dX2_letJump_69 : decode cX2_letJump 69 = .ok (.istore_n 2, 1) := by decide +kernel
theorem dX2_letJump_70 : decode cX2_letJump 70 = .ok (.iload_n 2, 1) := by decide +kernel
theorem dX2_letJump_71 : decode cX2_letJump 71 = .ok (.iconst 2, 1) := by decide +kernel
theorem dX2_letJump_72 : decode cX2_letJump 72 = .ok (.idiv, 1) := by decide +kernel
theorem dX2_letJump_73 : decode cX2_letJump 73 = .ok (.istore_n 3, 1) := by decide +kernel
theorem dX2_letJump_74 : decode cX2_letJump 74 = .ok (.aload_n 0, 1) := by decide +kernel
theorem dX2_letJump_75 : decode cX2_letJump 75 = .ok (.getfield 18, 3) := by decide +kernel
theorem dX2_letJump_78 : decode cX2_letJump 78 = .ok (.iconst 0, 1) := by decide +kernel
theorem dX2_letJump_79 : decode cX2_letJump 79 = .ok (.iload_n 3, 1) := by decide +kernel
theorem dX2_letJump_80 : decode cX2_letJump 80 = .ok (.aload_n 0, 1) := by decide +kernel
theorem dX2_letJump_81 : decode cX2_letJump 81 = .ok (.getfield 18, 3) := by decide +kernel
theorem dX2_letJump_84 : decode cX2_letJump 84 = .ok (.iconst 0, 1) := by decide +kernel
theorem dX2_letJump_85 : decode cX2_letJump 85 = .ok (.iaload, 1) := by decide +kernel
theorem dX2_letJump_86 : decode cX2_letJump 86 = .ok (.iload_n 3, 1) := by decide +kernel
theorem dX2_letJump_87 : decode cX2_letJump 87 = .ok (.isub, 1) := by decide +kernel
theorem dX2_letJump_88 : decode cX2_letJump 88 = .ok (.aload_n 0, 1) := by decide +kernel
theorem dX2_letJump_89 : decode cX2_letJump 89 = .ok (.getfield 9, 3) := by decide +kernel
theorem dX2_letJump_92 : decode cX2_letJump 92 = .ok (.iconst 3, 1) := by decide +kernel
theorem dX2_letJump_93 : decode cX2_letJump 93 = .ok (.iaload, 1) := by decide +kernel
theorem dX2_letJump_94 : decode cX2_letJump 94 = .ok (.imul, 1) := by decide +kernel
theorem dX2_letJump_95 : decode cX2_letJump 95 = .ok (.bipush 100, 2) := by decide +kernel
theorem dX2_letJump_97 : decode cX2_letJump 97 = .ok (.idiv, 1) := by decide +kernel
theorem dX2_letJump_98 : decode cX2_letJump 98 = .ok (.isub, 1) := by decide +kernel
theorem dX2_letJump_99 : decode cX2_letJump 99 = .ok (.iastore, 1) := by decide +kernel
theorem dX2_letJump_100 : decode cX2_letJump 100 = .ok (.aload_n 0, 1) := by decide +kernel
theorem dX2_letJump_101 : decode cX2_letJump 101 = .ok (.getfield 18, 3) := by decide +kernel
theorem dX2_letJump_104 : decode cX2_letJump 104 = .ok (.iconst 1, 1) := by decide +kernel
theorem dX2_letJump_105 : decode cX2_letJump 105 = .ok (.iload_n 2, 1) := by decide +kernel
theorem dX2_letJump_106 : decode cX2_letJump 106 = .ok (.aload_n 0, 1) := by decide +kernel
theorem dX2_letJump_107 : decode cX2_letJump 107 = .ok (.getfield 18, 3) := by decide +kernel
theorem dX2_letJump_110 : decode cX2_letJump 110 = .ok (.iconst 0, 1) := by decide +kernel
theorem dX2_letJump_111 : decode cX2_letJump 111 = .ok (.iaload, 1) := by decide +kernel
theorem dX2_letJump_112 : decode cX2_letJump 112 = .ok (.isub, 1) := by decide +kernel
theorem dX2_letJump_113 : decode cX2_letJump 113 = .ok (.iastore, 1) := by decide +kernel
theorem dX2_letJump_114 : decode cX2_letJump 114 = .ok (.return_, 1) := by decide +kernel
theorem dX2_noteSign_0 : decode cX2_noteSign 0 = .ok (.aload_n 0, 1) := by decide +kernel
theorem dX2_noteSign_1 : decode cX2_noteSign 1 = .ok (.invokevirtual 133, 3) := by decide +kernel
theorem dX2_noteSign_4 : decode cX2_noteSign 4 = .ok (.istore_n 1, 1) := by decide +kernel
theorem dX2_noteSign_5 : decode cX2_noteSign 5 = .ok (.iload_n 1, 1) := by decide +kernel
theorem dX2_noteSign_6 : decode cX2_noteSign 6 = .ok (.ifCond .ne 4, 3) := by decide +kernel
theorem dX2_noteSign_9 : decode cX2_noteSign 9 = .ok (.return_, 1) := by decide +kernel
theorem dX2_noteSign_10 : decode cX2_noteSign 10 = .ok (.iload_n 1, 1) := by decide +kernel
theorem dX2_noteSign_11 : decode cX2_noteSign 11 = .ok (.aload_n 0, 1) := by decide +kernel
theorem dX2_noteSign_12 : decode cX2_noteSign 12 = .ok (.getfield 44, 3) := by decide +kernel
theorem dX2_noteSign_15 : decode cX2_noteSign 15 = .ok (.ineg, 1) := by decide +kernel
theorem dX2_noteSign_16 : decode cX2_noteSign 16 = .ok (.if_icmp .ne 13, 3) := by decide +kernel
theorem dX2_noteSign_19 : decode cX2_noteSign 19 = .ok (.aload_n 0, 1) := by decide +kernel
theorem dX2_noteSign_20 : decode cX2_noteSign 20 = .ok (.dup, 1) := by decide +kernel
theorem dX2_noteSign_21 : decode cX2_noteSign 21 = .ok (.getfield 41, 3) := by decide +kernel
theorem dX2_noteSign_24 : decode cX2_noteSign 24 = .ok (.iconst 1, 1) := by decide +kernel
theorem dX2_noteSign_25 : decode cX2_noteSign 25 = .ok (.iadd, 1) := by decide +kernel
theorem dX2_noteSign_26 : decode cX2_noteSign 26 = .ok (.putfield 41, 3) := by decide +kernel
theorem dX2_noteSign_29 : decode cX2_noteSign 29 = .ok (.aload_n 0, 1) := by decide +kernel
theorem dX2_noteSign_30 : decode cX2_noteSign 30 = .ok (.iload_n 1, 1) := by decide +kernel
theorem dX2_noteSign_31 : decode cX2_noteSign 31 = .ok (.putfield 44, 3) := by decide +kernel
theorem dX2_noteSign_34 : decode cX2_noteSign 34 = .ok (.return_, 1) := by decide +kernel
theorem dX3_init_0 : decode cX3_init 0 = .ok (.aload_n 0, 1) := by decide +kernel
theorem dX3_init_1 : decode cX3_init 1 = .ok (.invokespecial 3, 3) := by decide +kernel
theorem dX3_init_4 : decode cX3_init 4 = .ok (.aload_n 0, 1) := by decide +kernel
theorem dX3_init_5 : decode cX3_init 5 = .ok (.bipush 60, 2) := by decide +kernel
theorem dX3_init_7 : decode cX3_init 7 = .ok (.newarray .char, 2) := by decide +kernel
theorem dX3_init_9 : decode cX3_init 9 = .ok (.putfield 9, 3) := by decide +kernel
theorem dX3_init_12 : decode cX3_init 12 = .ok (.return_, 1) := by decide +kernel
theorem dX3_clear_0 : decode cX3_clear 0 = .ok (.aload_n 0, 1) := by decide +kernel
theorem dX3_clear_1 : decode cX3_clear 1 = .ok (.iconst 0, 1) := by decide +kernel
theorem dX3_clear_2 : decode cX3_clear 2 = .ok (.putfield 15, 3) := by decide +kernel
theorem dX3_clear_5 : decode cX3_clear 5 = .ok (.return_, 1) := by decide +kernel
theorem dX3_append_0 : decode cX3_append 0 = .ok (.iload_n 3, 1) := by decide +kernel
theorem dX3_append_1 : decode cX3_append 1 = .ok (.iconst 1, 1) := by decide +kernel
theorem dX3_append_2 : decode cX3_append 2 = .ok (.isub, 1) := by decide +kernel
theorem dX3_append_3 : decode cX3_append 3 = .ok (.istore 4, 2) := by decide +kernel
theorem dX3_append_5 : decode cX3_append 5 = .ok (.iload 4, 2) := by decide +kernel
theorem dX3_append_7 : decode cX3_append 7 = .ok (.ifCond .lt 53, 3) := by decide +kernel
theorem dX3_append_10 : decode cX3_append 10 = .ok (.aload_n 0, 1) := by decide +kernel
theorem dX3_append_11 : decode cX3_append 11 = .ok (.getfield 15, 3) := by decide +kernel
theorem dX3_append_14 : decode cX3_append 14 = .ok (.aload_n 0, 1) := by decide +kernel
theorem dX3_append_15 : decode cX3_append 15 = .ok (.getfield 9, 3) := by decide +kernel
theorem dX3_append_18 : decode cX3_append 18 = .ok (.arraylength, 1) := by decide +kernel
theorem dX3_append_19 : decode cX3_append 19 = .ok (.if_icmp .ge 41, 3) := by decide +kernel
theorem dX3_append_22 : decode cX3_append 22 = .ok (.aload_n 0, 1) := by decide +kernel
theorem dX3_append_23 : decode cX3_append 23 = .ok (.getfield 9, 3) := by decide +kernel
theorem dX3_append_26 : decode cX3_append 26 = .ok (.aload_n 0, 1) := by decide +kernel
theorem dX3_append_27 : decode cX3_append 27 = .ok (.getfield 15, 3) := by decide +kernel
theorem dX3_append_30 : decode cX3_append 30 = .ok (.lload_n 1, 1) := by decide +kernel
theorem dX3_append_31 : decode cX3_append 31 = .ok (.bipush 8, 2) := by decide +kernel
theorem dX3_append_33 : decode cX3_append 33 = .ok (.iload 4, 2) := by decide +kernel
theorem dX3_append_35 : decode cX3_append 35 = .ok (.imul, 1) := by decide +kernel
theorem dX3_append_36 : decode cX3_append 36 = .ok (.lushr, 1) := by decide +kernel
theorem dX3_append_37 : decode cX3_append 37 = .ok (.ldc2_w 19, 3) := by decide +kernel
theorem dX3_append_40 : decode cX3_append 40 = .ok (.land, 1) := by decide +kernel
theorem dX3_append_41 : decode cX3_append 41 = .ok (.l2i, 1) := by decide +kernel
theorem dX3_append_42 : decode cX3_append 42 = .ok (.i2c, 1) := by decide +kernel
theorem dX3_append_43 : decode cX3_append 43 = .ok (.castore, 1) := by decide +kernel
theorem dX3_append_44 : decode cX3_append 44 = .ok (.aload_n 0, 1) := by decide +kernel
theorem dX3_append_45 : decode cX3_append 45 = .ok (.dup, 1) := by decide +kernel
theorem dX3_append_46 : decode cX3_append 46 = .ok (.getfield 15, 3) := by decide +kernel
theorem dX3_append_49 : decode cX3_append 49 = .ok (.iconst 1, 1) := by decide +kernel
theorem dX3_append_50 : decode cX3_append 50 = .ok (.iadd, 1) := by decide +kernel
theorem dX3_append_51 : decode cX3_append 51 = .ok (.putfield 15, 3) := by decide +kernel
theorem dX3_append_54 : decode cX3_append 54 = .ok (.iinc 4 (-1), 3) := by decide +kernel
theorem dX3_append_57 : decode cX3_append 57 = .ok (.goto (-52), 3) := by decide +kernel
theorem dX3_append_60 : decode cX3_append 60 = .ok (.return_, 1) := by decide +kernel
theorem dX3_signAt_0 : decode cX3_signAt 0 = .ok (.iload_n 1, 1) := by decide +kernel
theorem dX3_signAt_1 : decode cX3_signAt 1 = .ok (.ifCond .lt 20, 3) := by decide +kernel
theorem dX3_signAt_4 : decode cX3_signAt 4 = .ok (.iload_n 1, 1) := by decide +kernel
theorem dX3_signAt_5 : decode cX3_signAt 5 = .ok (.aload_n 0, 1) := by decide +kernel
theorem dX3_signAt_6 : decode cX3_signAt 6 = .ok (.getfield 15, 3) := by decide +kernel
theorem dX3_signAt_9 : decode cX3_signAt 9 = .ok (.if_icmp .ge 12, 3) := by decide +kernel
theorem dX3_signAt_12 : decode cX3_signAt 12 = .ok (.iload_n 1, 1) := by decide +kernel
theorem dX3_signAt_13 : decode cX3_signAt 13 = .ok (.aload_n 0, 1) := by decide +kernel
theorem dX3_signAt_14 : decode cX3_signAt 14 = .ok (.getfield 9, 3) := by decide +kernel
theorem dX3_signAt_17 : decode cX3_signAt 17 = .ok (.arraylength, 1) := by decide +kernel
theorem dX3_signAt_18 : decode cX3_signAt 18 = .ok (.if_icmp .lt 7, 3) := by decide +kernel
theorem dX3_signAt_21 : decode cX3_signAt 21 = .ok (.iconst 0, 1) := by decide +kernel
theorem dX3_signAt_22 : decode cX3_signAt 22 = .ok (.goto 9, 3) := by decide +kernel
theorem dX3_signAt_25 : decode cX3_signAt 25 = .ok (.aload_n 0, 1) := by decide +kernel
theorem dX3_signAt_26 : decode cX3_signAt 26 = .ok (.getfield 9, 3) := by decide +kernel
theorem dX3_signAt_29 : decode cX3_signAt 29 = .ok (.iload_n 1, 1) := by decide +kernel
theorem dX3_signAt_30 : decode cX3_signAt 30 = .ok (.caload, 1) := by decide +kernel
theorem dX3_signAt_31 : decode cX3_signAt 31 = .ok (.ireturn, 1) := by decide +kernel
theorem dX4_init_0 : decode cX4_init 0 = .ok (.aload_n 0, 1) := by decide +kernel
theorem dX4_init_1 : decode cX4_init 1 = .ok (.invokespecial 1, 3) := by decide +kernel
theorem dX4_init_4 : decode cX4_init 4 = .ok (.aload_n 0, 1) := by decide +kernel
theorem dX4_init_5 : decode cX4_init 5 = .ok (.new 7, 3) := by decide +kernel
theorem dX4_init_8 : decode cX4_init 8 = .ok (.dup, 1) := by decide +kernel
theorem dX4_init_9 : decode cX4_init 9 = .ok (.invokespecial 9, 3) := by decide +kernel
theorem dX4_init_12 : decode cX4_init 12 = .ok (.putfield 10, 3) := by decide +kernel
theorem dX4_init_15 : decode cX4_init 15 = .ok (.aload_n 0, 1) := by decide +kernel
theorem dX4_init_16 : decode cX4_init 16 = .ok (.new 7, 3) := by decide +kernel
theorem dX4_init_19 : decode cX4_init 19 = .ok (.dup, 1) := by decide +kernel
theorem dX4_init_20 : decode cX4_init 20 = .ok (.invokespecial 9, 3) := by decide +kernel
theorem dX4_init_23 : decode cX4_init 23 = .ok (.putfield 16, 3) := by decide +kernel
theorem dX4_init_26 : decode cX4_init 26 = .ok (.aload_n 0, 1) := by decide +kernel
theorem dX4_init_27 : decode cX4_init 27 = .ok (.new 19, 3) := by decide +kernel
theorem dX4_init_30 : decode cX4_init 30 = .ok (.dup, 1) := by decide +kernel
theorem dX4_init_31 : decode cX4_init 31 = .ok (.invokespecial 21, 3) := by decide +kernel
theorem dX4_init_34 : decode cX4_init 34 = .ok (.putfield 22, 3) := by decide +kernel
theorem dX4_init_37 : decode cX4_init 37 = .ok (.aload_n 0, 1) := by decide +kernel
theorem dX4_init_38 : decode cX4_init 38 = .ok (.iconst 2, 1) := by decide +kernel
theorem dX4_init_39 : decode cX4_init 39 = .ok (.anewarray 7, 3) := by decide +kernel
theorem dX4_init_42 : decode cX4_init 42 = .ok (.putfield 26, 3) := by decide +kernel
theorem dX4_init_45 : decode cX4_init 45 = .ok (.aload_n 0, 1) := by decide +kernel
theorem dX4_init_46 : decode cX4_init 46 = .ok (.new 30, 3) := by decide +kernel
theorem dX4_init_49 : decode cX4_init 49 = .ok (.dup, 1) := by decide +kernel
theorem dX4_init_50 : decode cX4_init 50 = .ok (.invokespecial 32, 3) := by decide +kernel
theorem dX4_init_53 : decode cX4_init 53 = .ok (.putfield 33, 3) := by decide +kernel
theorem dX4_init_56 : decode cX4_init 56 = .ok (.aload_n 0, 1) := by decide +kernel
theorem dX4_init_57 : decode cX4_init 57 = .ok (.aload_n 0, 1) := by decide +kernel
theorem dX4_init_58 : decode cX4_init 58 = .ok (.getfield 33, 3) := by decide +kernel
theorem dX4_init_61 : decode cX4_init 61 = .ok (.getfield 37, 3) := by decide +kernel
theorem dX4_init_64 : decode cX4_init 64 = .ok (.putfield 41, 3) := by decide +kernel
theorem dX4_init_67 : decode cX4_init 67 = .ok (.return_, 1) := by decide +kernel
theorem dX4_set_0 : decode cX4_set 0 = .ok (.iload_n 1, 1) := by decide +kernel
theorem dX4_set_1 : decode cX4_set 1 = .ok (.ifCond .lt 8, 3) := by decide +kernel
theorem dX4_set_4 : decode cX4_set 4 = .ok (.iload_n 1, 1) := by decide +kernel
theorem dX4_set_5 : decode cX4_set 5 = .ok (.iconst 5, 1) := by decide +kernel
theorem dX4_set_6 : decode cX4_set 6 = .ok (.if_icmp .lt 6, 3) := by decide +kernel
theorem dX4_set_9 : decode cX4_set 9 = .ok (.ldc 42, 2) := by decide +kernel
theorem dX4_set_11 : decode cX4_set 11 = .ok (.ireturn, 1) := by decide +kernel
theorem dX4_set_12 : decode cX4_set 12 = .ok (.iload_n 2, 1) := by decide +kernel
theorem dX4_set_13 : decode cX4_set 13 = .ok (.getstatic 43, 3) := by decide +kernel
theorem dX4_set_16 : decode cX4_set 16 = .ok (.iload_n 1, 1) := by decide +kernel
theorem dX4_set_17 : decode cX4_set 17 = .ok (.iaload, 1) := by decide +kernel
theorem dX4_set_18 : decode cX4_set 18 = .ok (.if_icmp .lt 12, 3) := by decide +kernel
theorem dX4_set_21 : decode cX4_set 21 = .ok (.iload_n 2, 1) := by decide +kernel
theorem dX4_set_22 : decode cX4_set 22 = .ok (.getstatic 47, 3) := by decide +kernel
theorem dX4_set_25 : decode cX4_set 25 = .ok (.iload_n 1, 1) := by decide +kernel
theorem dX4_set_26 : decode cX4_set 26 = .ok (.iaload, 1) := by decide +kernel
theorem dX4_set_27 : decode cX4_set 27 = .ok (.if_icmp .le 6, 3) := by decide +kernel
theorem dX4_set_30 : decode cX4_set 30 = .ok (.ldc 42, 2) := by decide +kernel
theorem dX4_set_32 : decode cX4_set 32 = .ok (.ireturn, 1) := by decide +kernel
theorem dX4_set_33 : decode cX4_set 33 = .ok (.iload_n 1, 1) := by decide +kernel
theorem dX4_set_34 : decode cX4_set 34 = .ok (.iconst 4, 1) := by decide +kernel
theorem dX4_set_35 : decode cX4_set 35 = .ok (.if_icmp .ne 17, 3) := by decide +kernel
theorem dX4_set_38 : decode cX4_set 38 = .ok (.aload_n 0, 1) := by decide +kernel
theorem dX4_set_39 : decode cX4_set 39 = .ok (.getfield 10, 3) := by decide +kernel
theorem dX4_set_42 : decode cX4_set 42 = .ok (.invokevirtual 50, 3) := by decide +kernel
theorem dX4_set_45 : decode cX4_set 45 = .ok (.iload_n 2, 1) := by decide +kernel
theorem dX4_set_46 : decode cX4_set 46 = .ok (.if_icmp .le 6, 3) := by decide +kernel
theorem dX4_set_49 : decode cX4_set 49 = .ok (.ldc 54, 2) := by decide +kernel
theorem dX4_set_51 : decode cX4_set 51 = .ok (.ireturn, 1) := by decide +kernel
theorem dX4_set_52 : decode cX4_set 52 = .ok (.aload_n 0, 1) := by decide +kernel
theorem dX4_set_53 : decode cX4_set 53 = .ok (.getfield 22, 3) := by decide +kernel
theorem dX4_set_56 : decode cX4_set 56 = .ok (.aload_n 0, 1) := by decide +kernel
theorem dX4_set_57 : decode cX4_set 57 = .ok (.getfield 10, 3) := by decide +kernel
theorem dX4_set_60 : decode cX4_set 60 = .ok (.invokevirtual 55, 3) := by decide +kernel
theorem dX4_set_63 : decode cX4_set 63 = .ok (.aload_n 0, 1) := by decide +kernel
theorem dX4_set_64 : decode cX4_set 64 = .ok (.getfield 10, 3) := by decide +kernel
theorem dX4_set_67 : decode cX4_set 67 = .ok (.getfield 59, 3) := by decide +kernel
theorem dX4_set_70 : decode cX4_set 70 = .ok (.iload_n 1, 1) := by decide +kernel
theorem dX4_set_71 : decode cX4_set 71 = .ok (.iaload, 1) := by decide +kernel
theorem dX4_set_72 : decode cX4_set 72 = .ok (.istore_n 3, 1) := by decide +kernel
theorem dX4_set_73 : decode cX4_set 73 = .ok (.aload_n 0, 1) := by decide +kernel
theorem dX4_set_74 : decode cX4_set 74 = .ok (.getfield 10, 3) := by decide +kernel
theorem dX4_set_77 : decode cX4_set 77 = .ok (.getfield 59, 3) := by decide +kernel
theorem dX4_set_80 : decode cX4_set 80 = .ok (.iload_n 1, 1) := by decide +kernel
theorem dX4_set_81 : decode cX4_set 81 = .ok (.iload_n 2, 1) := by decide +kernel
theorem dX4_set_82 : decode cX4_set 82 = .ok (.iastore, 1) := by decide +kernel
theorem dX4_set_83 : decode cX4_set 83 = .ok (.iload_n 3, 1) := by decide +kernel
theorem dX4_set_84 : decode cX4_set 84 = .ok (.ireturn, 1) := by decide +kernel
theorem dX4_touch_0 : decode cX4_touch 0 = .ok (.iload_n 1, 1) := by decide +kernel
theorem dX4_touch_1 : decode cX4_touch 1 = .ok (.invokestatic 62, 3) := by decide +kernel
theorem dX4_touch_4 : decode cX4_touch 4 = .ok (.ifCond .ne 10, 3) := by decide +kernel
theorem dX4_touch_7 : decode cX4_touch 7 = .ok (.iload_n 2, 1) := by decide +kernel
theorem dX4_touch_8 : decode cX4_touch 8 = .ok (.invokestatic 66, 3) := by decide +kernel
theorem dX4_touch_11 : decode cX4_touch 11 = .ok (.ifCond .eq 6, 3) := by decide +kernel
theorem dX4_touch_14 : decode cX4_touch 14 = .ok (.ldc 69, 2) := by decide +kernel
theorem dX4_touch_16 : decode cX4_touch 16 = .ok (.ireturn, 1) := by decide +kernel
theorem dX4_touch_17 : decode cX4_touch 17 = .ok (.iload_n 3, 1) := by decide +kernel
theorem dX4_touch_18 : decode cX4_touch 18 = .ok (.bipush (-99), 2) := by decide +kernel
theorem dX4_touch_20 : decode cX4_touch 20 = .ok (.if_icmp .lt 9, 3) := by decide +kernel
theorem dX4_touch_23 : decode cX4_touch 23 = .ok (.iload_n 3, 1) := by decide +kernel
theorem dX4_touch_24 : decode cX4_touch 24 = .ok (.bipush 99, 2) := by decide +kernel
theorem dX4_touch_26 : decode cX4_touch 26 = .ok (.if_icmp .le 6, 3) := by decide +kernel
theorem dX4_touch_29 : decode cX4_touch 29 = .ok (.ldc 42, 2) := by decide +kernel
theorem dX4_touch_31 : decode cX4_touch 31 = .ok (.ireturn, 1) := by decide +kernel
theorem dX4_touch_32 : decode cX4_touch 32 = .ok (.aload_n 0, 1) := by decide +kernel
theorem dX4_touch_33 : decode cX4_touch 33 = .ok (.getfield 22, 3) := by decide +kernel
theorem dX4_touch_36 : decode cX4_touch 36 = .ok (.aload_n 0, 1) := by decide +kernel
theorem dX4_touch_37 : decode cX4_touch 37 = .ok (.getfield 10, 3) := by decide +kernel
theorem dX4_touch_40 : decode cX4_touch 40 = .ok (.invokevirtual 55, 3) := by decide +kernel
theorem dX4_touch_43 : decode cX4_touch 43 = .ok (.aload_n 0, 1) := by decide +kernel
theorem dX4_touch_44 : decode cX4_touch 44 = .ok (.getfield 10, 3) := by decide +kernel
theorem dX4_touch_47 : decode cX4_touch 47 = .ok (.iload_n 1, 1) := by decide +kernel
theorem dX4_touch_48 : decode cX4_touch 48 = .ok (.iload_n 2, 1) := by decide +kernel
theorem dX4_touch_49 : decode cX4_touch 49 = .ok (.iload_n 3, 1) := by decide +kernel
theorem dX4_touch_50 : decode cX4_touch 50 = .ok (.invokevirtual 70, 3) := by decide +kernel
theorem dX4_touch_53 : decode cX4_touch 53 = .ok (.ireturn, 1) := by decide +kernel
theorem dX4_turn_0 : decode cX4_turn 0 = .ok (.iload_n 1, 1) := by decide +kernel
theorem dX4_turn_1 : decode cX4_turn 1 = .ok (.iconst 1, 1) := by decide +kernel
theorem dX4_turn_2 : decode cX4_turn 2 = .ok (.if_icmp .lt 9, 3) := by decide +kernel
theorem dX4_turn_5 : decode cX4_turn 5 = .ok (.iload_n 1, 1) := by decide +kernel
theorem dX4_turn_6 : decode cX4_turn 6 = .ok (.bipush 99, 2) := by decide +kernel
theorem dX4_turn_8 : decode cX4_turn 8 = .ok (.if_icmp .le 6, 3) := by decide +kernel
theorem dX4_turn_11 : decode cX4_turn 11 = .ok (.ldc 42, 2) := by decide +kernel
theorem dX4_turn_13 : decode cX4_turn 13 = .ok (.ireturn, 1) := by decide +kernel
theorem dX4_turn_14 : decode cX4_turn 14 = .ok (.aload_n 0, 1) := by decide +kernel
theorem dX4_turn_15 : decode cX4_turn 15 = .ok (.getfield 10, 3) := by decide +kernel
theorem dX4_turn_18 : decode cX4_turn 18 = .ok (.iload_n 1, 1) := by decide +kernel
theorem dX4_turn_19 : decode cX4_turn 19 = .ok (.invokevirtual 74, 3) := by decide +kernel
theorem dX4_turn_22 : decode cX4_turn 22 = .ok (.ifCond .ne 6, 3) := by decide +kernel
theorem dX4_turn_25 : decode cX4_turn 25 = .ok (.ldc 77, 2) := by decide +kernel
theorem dX4_turn_27 : decode cX4_turn 27 = .ok (.ireturn, 1) := by decide +kernel
theorem dX4_turn_28 : decode cX4_turn 28 = .ok (.aload_n 0, 1) := by decide +kernel
theorem dX4_turn_29 : decode cX4_turn 29 = .ok (.getfield 22, 3) := by decide +kernel
theorem dX4_turn_32 : decode cX4_turn 32 = .ok (.aload_n 0, 1) := by decide +kernel
theorem dX4_turn_33 : decode cX4_turn 33 = .ok (.getfield 10, 3) := by decide +kernel
theorem dX4_turn_36 : decode cX4_turn 36 = .ok (.invokevirtual 55, 3) := by decide +kernel
theorem dX4_turn_39 : decode cX4_turn 39 = .ok (.aload_n 0, 1) := by decide +kernel
theorem dX4_turn_40 : decode cX4_turn 40 = .ok (.getfield 10, 3) := by decide +kernel
theorem dX4_turn_43 : decode cX4_turn 43 = .ok (.iload_n 1, 1) := by decide +kernel
theorem dX4_turn_44 : decode cX4_turn 44 = .ok (.invokevirtual 78, 3) := by decide +kernel
theorem dX4_turn_47 : decode cX4_turn 47 = .ok (.ireturn, 1) := by decide +kernel
theorem dX4_discharge_0 : decode cX4_discharge 0 = .ok (.aload_n 0, 1) := by decide +kernel
theorem dX4_discharge_1 : decode cX4_discharge 1 = .ok (.getfield 22, 3) := by decide +kernel
theorem dX4_discharge_4 : decode cX4_discharge 4 = .ok (.aload_n 0, 1) := by decide +kernel
theorem dX4_discharge_5 : decode cX4_discharge 5 = .ok (.getfield 10, 3) := by decide +kernel
theorem dX4_discharge_8 : decode cX4_discharge 8 = .ok (.invokevirtual 55, 3) := by decide +kernel
theorem dX4_discharge_11 : decode cX4_discharge 11 = .ok (.aload_n 0, 1) := by decide +kernel
theorem dX4_discharge_12 : decode cX4_discharge 12 = .ok (.getfield 10, 3) := by decide +kernel
theorem dX4_discharge_15 : decode cX4_discharge 15 = .ok (.invokevirtual 82, 3) := by decide +kernel
theorem dX4_discharge_18 : decode cX4_discharge 18 = .ok (.ireturn, 1) := by decide +kernel
theorem dX4_wipeDisc_0 : decode cX4_wipeDisc 0 = .ok (.iload_n 1, 1) := by decide +kernel
theorem dX4_wipeDisc_1 : decode cX4_wipeDisc 1 = .ok (.invokestatic 62, 3) := by decide +kernel
theorem dX4_wipeDisc_4 : decode cX4_wipeDisc 4 = .ok (.ifCond .eq 6, 3) := by decide +kernel
theorem dX4_wipeDisc_7 : decode cX4_wipeDisc 7 = .ok (.ldc 69, 2) := by decide +kernel
theorem dX4_wipeDisc_9 : decode cX4_wipeDisc 9 = .ok (.ireturn, 1) := by decide +kernel
theorem dX4_wipeDisc_10 : decode cX4_wipeDisc 10 = .ok (.aload_n 0, 1) := by decide +kernel
theorem dX4_wipeDisc_11 : decode cX4_wipeDisc 11 = .ok (.getfield 22, 3) := by decide +kernel
theorem dX4_wipeDisc_14 : decode cX4_wipeDisc 14 = .ok (.aload_n 0, 1) := by decide +kernel
theorem dX4_wipeDisc_15 : decode cX4_wipeDisc 15 = .ok (.getfield 10, 3) := by decide +kernel
theorem dX4_wipeDisc_18 : decode cX4_wipeDisc 18 = .ok (.invokevirtual 55, 3) := by decide +kernel
theorem dX4_wipeDisc_21 : decode cX4_wipeDisc 21 = .ok (.aload_n 0, 1) := by decide +kernel
theorem dX4_wipeDisc_22 : decode cX4_wipeDisc 22 = .ok (.getfield 10, 3) := by decide +kernel
theorem dX4_wipeDisc_25 : decode cX4_wipeDisc 25 = .ok (.iload_n 1, 1) := by decide +kernel
theorem dX4_wipeDisc_26 : decode cX4_wipeDisc 26 = .ok (.invokevirtual 85, 3) := by decide +kernel
theorem dX4_wipeDisc_29 : decode cX4_wipeDisc 29 = .ok (.ireturn, 1) := by decide +kernel
theorem dX4_run_0 : decode cX4_run 0 = .ok (.aload_n 0, 1) := by decide +kernel
theorem dX4_run_1 : decode cX4_run 1 = .ok (.getfield 33, 3) := by decide +kernel
theorem dX4_run_4 : decode cX4_run 4 = .ok (.invokevirtual 88, 3) := by decide +kernel
theorem dX4_run_7 : decode cX4_run 7 = .ok (.ldc 91, 2) := by decide +kernel
theorem dX4_run_9 : decode cX4_run 9 = .ok (.if_icmp .eq 6, 3) := by decide +kernel
theorem dX4_run_12 : decode cX4_run 12 = .ok (.ldc 92, 2) := by decide +kernel
theorem dX4_run_14 : decode cX4_run 14 = .ok (.ireturn, 1) := by decide +kernel
theorem dX4_run_15 : decode cX4_run 15 = .ok (.aload_n 0, 1) := by decide +kernel
theorem dX4_run_16 : decode cX4_run 16 = .ok (.getfield 22, 3) := by decide +kernel
theorem dX4_run_19 : decode cX4_run 19 = .ok (.aload_n 0, 1) := by decide +kernel
theorem dX4_run_20 : decode cX4_run 20 = .ok (.getfield 10, 3) := by decide +kernel
theorem dX4_run_23 : decode cX4_run 23 = .ok (.invokevirtual 55, 3) := by decide +kernel
theorem dX4_run_26 : decode cX4_run 26 = .ok (.aload_n 0, 1) := by decide +kernel
theorem dX4_run_27 : decode cX4_run 27 = .ok (.getfield 10, 3) := by decide +kernel
theorem dX4_run_30 : decode cX4_run 30 = .ok (.getfield 93, 3) := by decide +kernel
theorem dX4_run_33 : decode cX4_run 33 = .ok (.istore_n 1, 1) := by decide +kernel
theorem dX4_run_34 : decode cX4_run 34 = .ok (.aload_n 0, 1) := by decide +kernel
theorem dX4_run_35 : decode cX4_run 35 = .ok (.getfield 33, 3) := by decide +kernel
theorem dX4_run_38 : decode cX4_run 38 = .ok (.invokevirtual 97, 3) := by decide +kernel
theorem dX4_run_41 : decode cX4_run 41 = .ok (.iconst 0, 1) := by decide +kernel
theorem dX4_run_42 : decode cX4_run 42 = .ok (.istore_n 2, 1) := by decide +kernel
theorem dX4_run_43 : decode cX4_run 43 = .ok (.iload_n 2, 1) := by decide +kernel
theorem dX4_run_44 : decode cX4_run 44 = .ok (.bipush 60, 2) := by decide +kernel
theorem dX4_run_46 : decode cX4_run 46 = .ok (.if_icmp .ge 33, 3) := by decide +kernel
theorem dX4_run_49 : decode cX4_run 49 = .ok (.aload_n 0, 1) := by decide +kernel
theorem dX4_run_50 : decode cX4_run 50 = .ok (.getfield 33, 3) := by decide +kernel
theorem dX4_run_53 : decode cX4_run 53 = .ok (.invokevirtual 100, 3) := by decide +kernel
theorem dX4_run_56 : decode cX4_run 56 = .ok (.ifCond .eq 23, 3) := by decide +kernel
theorem dX4_run_59 : decode cX4_run 59 = .ok (.aload_n 0, 1) := by decide +kernel
theorem dX4_run_60 : decode cX4_run 60 = .ok (.invokevirtual 104, 3) := by decide +kernel
theorem dX4_run_63 : decode cX4_run 63 = .ok (.aload_n 0, 1) := by decide +kernel
theorem dX4_run_64 : decode cX4_run 64 = .ok (.getfield 33, 3) := by decide +kernel
theorem dX4_run_67 : decode cX4_run 67 = .ok (.bipush 59, 2) := by decide +kernel
theorem dX4_run_69 : decode cX4_run 69 = .ok (.invokevirtual 107, 3) := by decide +kernel
theorem dX4_run_72 : decode cX4_run 72 = .ok (.pop, 1) := by decide +kernel
theorem dX4_run_73 : decode cX4_run 73 = .ok (.iinc 2 1, 3) := by decide +kernel
theorem dX4_run_76 : decode cX4_run 76 = .ok (.goto (-33), 3) := by decide +kernel
theorem dX4_run_79 : decode cX4_run 79 = .ok (.aload_n 0, 1) := by decide +kernel
theorem dX4_run_80 : decode cX4_run 80 = .ok (.getfield 41, 3) := by decide +kernel
theorem dX4_run_83 : decode cX4_run 83 = .ok (.invokevirtual 111, 3) := by decide +kernel
theorem dX4_run_86 : decode cX4_run 86 = .ok (.aload_n 0, 1) := by decide +kernel
theorem dX4_run_87 : decode cX4_run 87 = .ok (.getfield 10, 3) := by decide +kernel
theorem dX4_run_90 : decode cX4_run 90 = .ok (.getfield 93, 3) := by decide +kernel
theorem dX4_run_93 : decode cX4_run 93 = .ok (.iload_n 1, 1) := by decide +kernel
theorem dX4_run_94 : decode cX4_run 94 = .ok (.isub, 1) := by decide +kernel
theorem dX4_run_95 : decode cX4_run 95 = .ok (.ireturn, 1) := by decide +kernel
theorem dX4_doReadDeed_0 : decode cX4_doReadDeed 0 = .ok (.aload_n 0, 1) := by decide +kernel
theorem dX4_doReadDeed_1 : decode cX4_doReadDeed 1 = .ok (.getfield 33, 3) := by decide +kernel
theorem dX4_doReadDeed_4 : decode cX4_doReadDeed 4 = .ok (.getfield 116, 3) := by decide +kernel
theorem dX4_doReadDeed_7 : decode cX4_doReadDeed 7 = .ok (.ifCond .ne 35, 3) := by decide +kernel
theorem dX4_doReadDeed_10 : decode cX4_doReadDeed 10 = .ok (.aload_n 0, 1) := by decide +kernel
theorem dX4_doReadDeed_11 : decode cX4_doReadDeed 11 = .ok (.getfield 10, 3) := by decide +kernel
theorem dX4_doReadDeed_14 : decode cX4_doReadDeed 14 = .ok (.aload_n 0, 1) := by decide +kernel
theorem dX4_doReadDeed_15 : decode cX4_doReadDeed 15 = .ok (.getfield 33, 3) := by decide +kernel
theorem dX4_doReadDeed_18 : decode cX4_doReadDeed 18 = .ok (.getfield 119, 3) := by decide +kernel
theorem dX4_doReadDeed_21 : decode cX4_doReadDeed 21 = .ok (.aload_n 0, 1) := by decide +kernel
theorem dX4_doReadDeed_22 : decode cX4_doReadDeed 22 = .ok (.getfield 33, 3) := by decide +kernel
theorem dX4_doReadDeed_25 : decode cX4_doReadDeed 25 = .ok (.getfield 122, 3) := by decide +kernel
theorem dX4_doReadDeed_28 : decode cX4_doReadDeed 28 = .ok (.aload_n 0, 1) := by decide +kernel
theorem dX4_doReadDeed_29 : decode cX4_doReadDeed 29 = .ok (.getfield 33, 3) := by decide +kernel
theorem dX4_doReadDeed_32 : decode cX4_doReadDeed 32 = .ok (.getfield 125, 3) := by decide +kernel
theorem dX4_doReadDeed_35 : decode cX4_doReadDeed 35 = .ok (.invokevirtual 70, 3) := by decide +kernel
theorem dX4_doReadDeed_38 : decode cX4_doReadDeed 38 = .ok (.pop, 1) := by decide +kernel
theorem dX4_doReadDeed_39 : decode cX4_doReadDeed 39 = .ok (.goto 57, 3) := by decide +kernel
theorem dX4_doReadDeed_42 : decode cX4_doReadDeed 42 = .ok (.aload_n 0, 1) := by decide +kernel
theorem dX4_doReadDeed_43 : decode cX4_doReadDeed 43 = .ok (.getfield 33, 3) := by decide +kernel
theorem dX4_doReadDeed_46 : decode cX4_doReadDeed 46 = .ok (.getfield 116, 3) := by decide +kernel
theorem dX4_doReadDeed_49 : decode cX4_doReadDeed 49 = .ok (.iconst 2, 1) := by decide +kernel
theorem dX4_doReadDeed_50 : decode cX4_doReadDeed 50 = .ok (.if_icmp .ne 14, 3) := by decide +kernel
theorem dX4_doReadDeed_53 : decode cX4_doReadDeed 53 = .ok (.aload_n 0, 1) := by decide +kernel
theorem dX4_doReadDeed_54 : decode cX4_doReadDeed 54 = .ok (.getfield 10, 3) := by decide +kernel
theorem dX4_doReadDeed_57 : decode cX4_doReadDeed 57 = .ok (.invokevirtual 82, 3) := by decide +kernel
theorem dX4_doReadDeed_60 : decode cX4_doReadDeed 60 = .ok (.pop, 1) := by decide +kernel
theorem dX4_doReadDeed_61 : decode cX4_doReadDeed 61 = .ok (.goto 35, 3) := by decide +kernel
theorem dX4_doReadDeed_64 : decode cX4_doReadDeed 64 = .ok (.aload_n 0, 1) := by decide +kernel
theorem dX4_doReadDeed_65 : decode cX4_doReadDeed 65 = .ok (.getfield 10, 3) := by decide +kernel
theorem dX4_doReadDeed_68 : decode cX4_doReadDeed 68 = .ok (.aload_n 0, 1) := by decide +kernel
theorem dX4_doReadDeed_69 : decode cX4_doReadDeed 69 = .ok (.getfield 33, 3) := by decide +kernel
theorem dX4_doReadDeed_72 : decode cX4_doReadDeed 72 = .ok (.getfield 125, 3) := by decide +kernel
theorem dX4_doReadDeed_75 : decode cX4_doReadDeed 75 = .ok (.invokevirtual 74, 3) := by decide +kernel
theorem dX4_doReadDeed_78 : decode cX4_doReadDeed 78 = .ok (.ifCond .eq 18, 3) := by decide +kernel
theorem dX4_doReadDeed_81 : decode cX4_doReadDeed 81 = .ok (.aload_n 0, 1) := by decide +kernel
theorem dX4_doReadDeed_82 : decode cX4_doReadDeed 82 = .ok (.getfield 10, 3) := by decide +kernel
theorem dX4_doReadDeed_85 : decode cX4_doReadDeed 85 = .ok (.aload_n 0, 1) := by decide +kernel
theorem dX4_doReadDeed_86 : decode cX4_doReadDeed 86 = .ok (.getfield 33, 3) := by decide +kernel
theorem dX4_doReadDeed_89 : decode cX4_doReadDeed 89 = .ok (.getfield 125, 3) := by decide +kernel
theorem dX4_doReadDeed_92 : decode cX4_doReadDeed 92 = .ok (.invokevirtual 78, 3) := by decide +kernel
theorem dX4_doReadDeed_95 : decode cX4_doReadDeed 95 = .ok (.pop, 1) := by decide +kernel
theorem dX4_doReadDeed_96 : decode cX4_doReadDeed 96 = .ok (.return_, 1) := by decide +kernel
theorem dX4_sector_0 : decode cX4_sector 0 = .ok (.iload_n 1, 1) := by decide +kernel
theorem dX4_sector_1 : decode cX4_sector 1 = .ok (.invokestatic 62, 3) := by decide +kernel
theorem dX4_sector_4 : decode cX4_sector 4 = .ok (.ifCond .ne 10, 3) := by decide +kernel
theorem dX4_sector_7 : decode cX4_sector 7 = .ok (.iload_n 2, 1) := by decide +kernel
theorem dX4_sector_8 : decode cX4_sector 8 = .ok (.invokestatic 66, 3) := by decide +kernel
theorem dX4_sector_11 : decode cX4_sector 11 = .ok (.ifCond .eq 6, 3) := by decide +kernel
theorem dX4_sector_14 : decode cX4_sector 14 = .ok (.ldc 69, 2) := by decide +kernel
theorem dX4_sector_16 : decode cX4_sector 16 = .ok (.ireturn, 1) := by decide +kernel
theorem dX4_sector_17 : decode cX4_sector 17 = .ok (.aload_n 0, 1) := by decide +kernel
theorem dX4_sector_18 : decode cX4_sector 18 = .ok (.getfield 10, 3) := by decide +kernel
theorem dX4_sector_21 : decode cX4_sector 21 = .ok (.getfield 128, 3) := by decide +kernel
theorem dX4_sector_24 : decode cX4_sector 24 = .ok (.iload_n 1, 1) := by decide +kernel
theorem dX4_sector_25 : decode cX4_sector 25 = .ok (.iload_n 2, 1) := by decide +kernel
theorem dX4_sector_26 : decode cX4_sector 26 = .ok (.aload_n 0, 1) := by decide +kernel
theorem dX4_sector_27 : decode cX4_sector 27 = .ok (.getfield 10, 3) := by decide +kernel
theorem dX4_sector_30 : decode cX4_sector 30 = .ok (.getfield 131, 3) := by decide +kernel
theorem dX4_sector_33 : decode cX4_sector 33 = .ok (.invokestatic 134, 3) := by decide +kernel
theorem dX4_sector_36 : decode cX4_sector 36 = .ok (.iaload, 1) := by decide +kernel
theorem dX4_sector_37 : decode cX4_sector 37 = .ok (.ireturn, 1) := by decide +kernel
theorem dX4_disc_0 : decode cX4_disc 0 = .ok (.iload_n 1, 1) := by decide +kernel
theorem dX4_disc_1 : decode cX4_disc 1 = .ok (.invokestatic 62, 3) := by decide +kernel
theorem dX4_disc_4 : decode cX4_disc 4 = .ok (.ifCond .eq 6, 3) := by decide +kernel
theorem dX4_disc_7 : decode cX4_disc 7 = .ok (.ldc 69, 2) := by decide +kernel
theorem dX4_disc_9 : decode cX4_disc 9 = .ok (.ireturn, 1) := by decide +kernel
theorem dX4_disc_10 : decode cX4_disc 10 = .ok (.iload_n 2, 1) := by decide +kernel
theorem dX4_disc_11 : decode cX4_disc 11 = .ok (.tableswitch 80 0 4 #[33, 42, 52, 62, 71], 33) := by decide +kernel
theorem dX4_disc_44 : decode cX4_disc 44 = .ok (.aload_n 0, 1) := by decide +kernel
theorem dX4_disc_45 : decode cX4_disc 45 = .ok (.getfield 10, 3) := by decide +kernel
theorem dX4_disc_48 : decode cX4_disc 48 = .ok (.iload_n 1, 1) := by decide +kernel
theorem dX4_disc_49 : decode cX4_disc 49 = .ok (.invokevirtual 137, 3) := by decide +kernel
theorem dX4_disc_52 : decode cX4_disc 52 = .ok (.ireturn, 1) := by decide +kernel
theorem dX4_disc_53 : decode cX4_disc 53 = .ok (.aload_n 0, 1) := by decide +kernel
theorem dX4_disc_54 : decode cX4_disc 54 = .ok (.getfield 10, 3) := by decide +kernel
theorem dX4_disc_57 : decode cX4_disc 57 = .ok (.iload_n 1, 1) := by decide +kernel
theorem dX4_disc_58 : decode cX4_disc 58 = .ok (.iconst 1, 1) := by decide +kernel
theorem dX4_disc_59 : decode cX4_disc 59 = .ok (.invokevirtual 140, 3) := by decide +kernel
theorem dX4_disc_62 : decode cX4_disc 62 = .ok (.ireturn, 1) := by decide +kernel
theorem dX4_disc_63 : decode cX4_disc 63 = .ok (.aload_n 0, 1) := by decide +kernel
theorem dX4_disc_64 : decode cX4_disc 64 = .ok (.getfield 10, 3) := by decide +kernel
theorem dX4_disc_67 : decode cX4_disc 67 = .ok (.iload_n 1, 1) := by decide +kernel
theorem dX4_disc_68 : decode cX4_disc 68 = .ok (.iconst (-1), 1) := by decide +kernel
theorem dX4_disc_69 : decode cX4_disc 69 = .ok (.invokevirtual 140, 3) := by decide +kernel
theorem dX4_disc_72 : decode cX4_disc 72 = .ok (.ireturn, 1) := by decide +kernel
theorem dX4_disc_73 : decode cX4_disc 73 = .ok (.aload_n 0, 1) := by decide +kernel
theorem dX4_disc_74 : decode cX4_disc 74 = .ok (.getfield 10, 3) := by decide +kernel
theorem dX4_disc_77 : decode cX4_disc 77 = .ok (.iload_n 1, 1) := by decide +kernel
theorem dX4_disc_78 : decode cX4_disc 78 = .ok (.invokevirtual 144, 3) := by decide +kernel
theorem dX4_disc_81 : decode cX4_disc 81 = .ok (.ireturn, 1) := by decide +kernel
theorem dX4_disc_82 : decode cX4_disc 82 = .ok (.aload_n 0, 1) := by decide +kernel
theorem dX4_disc_83 : decode cX4_disc 83 = .ok (.getfield 10, 3) := by decide +kernel
theorem dX4_disc_86 : decode cX4_disc 86 = .ok (.iload_n 1, 1) := by decide +kernel
theorem dX4_disc_87 : decode cX4_disc 87 = .ok (.invokevirtual 147, 3) := by decide +kernel
theorem dX4_disc_90 : decode cX4_disc 90 = .ok (.ireturn, 1) := by decide +kernel
theorem dX4_disc_91 : decode cX4_disc 91 = .ok (.ldc 42, 2) := by decide +kernel
theorem dX4_disc_93 : decode cX4_disc 93 = .ok (.ireturn, 1) := by decide +kernel
theorem dX4_jar_0 : decode cX4_jar 0 = .ok (.iload_n 1, 1) := by decide +kernel
theorem dX4_jar_1 : decode cX4_jar 1 = .ok (.ifCond .lt 8, 3) := by decide +kernel
theorem dX4_jar_4 : decode cX4_jar 4 = .ok (.iload_n 1, 1) := by decide +kernel
theorem dX4_jar_5 : decode cX4_jar 5 = .ok (.iconst 2, 1) := by decide +kernel
theorem dX4_jar_6 : decode cX4_jar 6 = .ok (.if_icmp .lt 6, 3) := by decide +kernel
theorem dX4_jar_9 : decode cX4_jar 9 = .ok (.ldc 69, 2) := by decide +kernel
theorem dX4_jar_11 : decode cX4_jar 11 = .ok (.ireturn, 1) := by decide +kernel
theorem dX4_jar_12 : decode cX4_jar 12 = .ok (.iload_n 2, 1) := by decide +kernel
theorem dX4_jar_13 : decode cX4_jar 13 = .ok (.tableswitch 57 0 2 #[27, 37, 47], 27) := by decide +kernel
theorem dX4_jar_40 : decode cX4_jar 40 = .ok (.aload_n 0, 1) := by decide +kernel
theorem dX4_jar_41 : decode cX4_jar 41 = .ok (.getfield 10, 3) := by decide +kernel
theorem dX4_jar_44 : decode cX4_jar 44 = .ok (.getfield 150, 3) := by decide +kernel
theorem dX4_jar_47 : decode cX4_jar 47 = .ok (.iload_n 1, 1) := by decide +kernel
theorem dX4_jar_48 : decode cX4_jar 48 = .ok (.iaload, 1) := by decide +kernel
theorem dX4_jar_49 : decode cX4_jar 49 = .ok (.ireturn, 1) := by decide +kernel
theorem dX4_jar_50 : decode cX4_jar 50 = .ok (.aload_n 0, 1) := by decide +kernel
theorem dX4_jar_51 : decode cX4_jar 51 = .ok (.getfield 10, 3) := by decide +kernel
theorem dX4_jar_54 : decode cX4_jar 54 = .ok (.getfield 153, 3) := by decide +kernel
theorem dX4_jar_57 : decode cX4_jar 57 = .ok (.iload_n 1, 1) := by decide +kernel
theorem dX4_jar_58 : decode cX4_jar 58 = .ok (.iaload, 1) := by decide +kernel
theorem dX4_jar_59 : decode cX4_jar 59 = .ok (.ireturn, 1) := by decide +kernel
theorem dX4_jar_60 : decode cX4_jar 60 = .ok (.aload_n 0, 1) := by decide +kernel
theorem dX4_jar_61 : decode cX4_jar 61 = .ok (.getfield 10, 3) := by decide +kernel
theorem dX4_jar_64 : decode cX4_jar 64 = .ok (.getfield 156, 3) := by decide +kernel
theorem dX4_jar_67 : decode cX4_jar 67 = .ok (.iload_n 1, 1) := by decide +kernel
theorem dX4_jar_68 : decode cX4_jar 68 = .ok (.iaload, 1) := by decide +kernel
theorem dX4_jar_69 : decode cX4_jar 69 = .ok (.ireturn, 1) := by decide +kernel
theorem dX4_jar_70 : decode cX4_jar 70 = .ok (.ldc 42, 2) := by decide +kernel
theorem dX4_jar_72 : decode cX4_jar 72 = .ok (.ireturn, 1) := by decide +kernel
theorem dX4_spark_0 : decode cX4_spark 0 = .ok (.iload_n 1, 1) := by decide +kernel
theorem dX4_spark_1 : decode cX4_spark 1 = .ok (.ifCond .lt 12, 3) := by decide +kernel
theorem dX4_spark_4 : decode cX4_spark 4 = .ok (.iload_n 2, 1) := by decide +kernel
theorem dX4_spark_5 : decode cX4_spark 5 = .ok (.ifCond .lt 8, 3) := by decide +kernel
theorem dX4_spark_8 : decode cX4_spark 8 = .ok (.iload_n 2, 1) := by decide +kernel
theorem dX4_spark_9 : decode cX4_spark 9 = .ok (.iconst 3, 1) := by decide +kernel
theorem dX4_spark_10 : decode cX4_spark 10 = .ok (.if_icmp .lt 6, 3) := by decide +kernel
theorem dX4_spark_13 : decode cX4_spark 13 = .ok (.ldc 42, 2) := by decide +kernel
theorem dX4_spark_15 : decode cX4_spark 15 = .ok (.ireturn, 1) := by decide +kernel
theorem dX4_spark_16 : decode cX4_spark 16 = .ok (.iload_n 1, 1) := by decide +kernel
theorem dX4_spark_17 : decode cX4_spark 17 = .ok (.bipush 8, 2) := by decide +kernel
theorem dX4_spark_19 : decode cX4_spark 19 = .ok (.if_icmp .ge 14, 3) := by decide +kernel
theorem dX4_spark_22 : decode cX4_spark 22 = .ok (.iload_n 1, 1) := by decide +kernel
theorem dX4_spark_23 : decode cX4_spark 23 = .ok (.aload_n 0, 1) := by decide +kernel
theorem dX4_spark_24 : decode cX4_spark 24 = .ok (.getfield 10, 3) := by decide +kernel
theorem dX4_spark_27 : decode cX4_spark 27 = .ok (.getfield 93, 3) := by decide +kernel
theorem dX4_spark_30 : decode cX4_spark 30 = .ok (.if_icmp .lt 6, 3) := by decide +kernel
theorem dX4_spark_33 : decode cX4_spark 33 = .ok (.ldc 91, 2) := by decide +kernel
theorem dX4_spark_35 : decode cX4_spark 35 = .ok (.ireturn, 1) := by decide +kernel
theorem dX4_spark_36 : decode cX4_spark 36 = .ok (.aload_n 0, 1) := by decide +kernel
theorem dX4_spark_37 : decode cX4_spark 37 = .ok (.getfield 10, 3) := by decide +kernel
theorem dX4_spark_40 : decode cX4_spark 40 = .ok (.getfield 159, 3) := by decide +kernel
theorem dX4_spark_43 : decode cX4_spark 43 = .ok (.aload_n 0, 1) := by decide +kernel
theorem dX4_spark_44 : decode cX4_spark 44 = .ok (.getfield 10, 3) := by decide +kernel
theorem dX4_spark_47 : decode cX4_spark 47 = .ok (.getfield 93, 3) := by decide +kernel
theorem dX4_spark_50 : decode cX4_spark 50 = .ok (.iconst 1, 1) := by decide +kernel
theorem dX4_spark_51 : decode cX4_spark 51 = .ok (.isub, 1) := by decide +kernel
theorem dX4_spark_52 : decode cX4_spark 52 = .ok (.iload_n 1, 1) := by decide +kernel
theorem dX4_spark_53 : decode cX4_spark 53 = .ok (.isub, 1) := by decide +kernel
theorem dX4_spark_54 : decode cX4_spark 54 = .ok (.invokestatic 162, 3) := by decide +kernel
theorem dX4_spark_57 : decode cX4_spark 57 = .ok (.iload_n 2, 1) := by decide +kernel
theorem dX4_spark_58 : decode cX4_spark 58 = .ok (.iadd, 1) := by decide +kernel
theorem dX4_spark_59 : decode cX4_spark 59 = .ok (.iaload, 1) := by decide +kernel
theorem dX4_spark_60 : decode cX4_spark 60 = .ok (.ireturn, 1) := by decide +kernel
theorem dX4_count_0 : decode cX4_count 0 = .ok (.iload_n 1, 1) := by decide +kernel
theorem dX4_count_1 : decode cX4_count 1 = .ok (.ifCond .lt 18, 3) := by decide +kernel
theorem dX4_count_4 : decode cX4_count 4 = .ok (.iload_n 1, 1) := by decide +kernel
theorem dX4_count_5 : decode cX4_count 5 = .ok (.iconst 5, 1) := by decide +kernel
theorem dX4_count_6 : decode cX4_count 6 = .ok (.if_icmp .ge 13, 3) := by decide +kernel
theorem dX4_count_9 : decode cX4_count 9 = .ok (.aload_n 0, 1) := by decide +kernel
theorem dX4_count_10 : decode cX4_count 10 = .ok (.getfield 10, 3) := by decide +kernel
theorem dX4_count_13 : decode cX4_count 13 = .ok (.getfield 59, 3) := by decide +kernel
theorem dX4_count_16 : decode cX4_count 16 = .ok (.iload_n 1, 1) := by decide +kernel
theorem dX4_count_17 : decode cX4_count 17 = .ok (.iaload, 1) := by decide +kernel
theorem dX4_count_18 : decode cX4_count 18 = .ok (.ireturn, 1) := by decide +kernel
theorem dX4_count_19 : decode cX4_count 19 = .ok (.iload_n 1, 1) := by decide +kernel
theorem dX4_count_20 : decode cX4_count 20 = .ok (.tableswitch 136 5 14 #[56, 64, 72, 80, 88, 96, 104, 112, 120, 128], 56) := by decide +kernel
theorem dX4_count_76 : decode cX4_count 76 = .ok (.aload_n 0, 1) := by decide +kernel
theorem dX4_count_77 : decode cX4_count 77 = .ok (.getfield 10, 3) := by decide +kernel
theorem dX4_count_80 : decode cX4_count 80 = .ok (.getfield 131, 3) := by decide +kernel
theorem dX4_count_83 : decode cX4_count 83 = .ok (.ireturn, 1) := by decide +kernel
theorem dX4_count_84 : decode cX4_count 84 = .ok (.aload_n 0, 1) := by decide +kernel
theorem dX4_count_85 : decode cX4_count 85 = .ok (.getfield 10, 3) := by decide +kernel
theorem dX4_count_88 : decode cX4_count 88 = .ok (.getfield 93, 3) := by decide +kernel
theorem dX4_count_91 : decode cX4_count 91 = .ok (.ireturn, 1) := by decide +kernel
theorem dX4_count_92 : decode cX4_count 92 = .ok (.aload_n 0, 1) := by decide +kernel
theorem dX4_count_93 : decode cX4_count 93 = .ok (.getfield 10, 3) := by decide +kernel
theorem dX4_count_96 : decode cX4_count 96 = .ok (.getfield 165, 3) := by decide +kernel
theorem dX4_count_99 : decode cX4_count 99 = .ok (.ireturn, 1) := by decide +kernel
theorem dX4_count_100 : decode cX4_count 100 = .ok (.aload_n 0, 1) := by decide +kernel
theorem dX4_count_101 : decode cX4_count 101 = .ok (.getfield 10, 3) := by decide +kernel
theorem dX4_count_104 : decode cX4_count 104 = .ok (.invokevirtual 168, 3) := by decide +kernel
theorem dX4_count_107 : decode cX4_count 107 = .ok (.ireturn, 1) := by decide +kernel
theorem dX4_count_108 : decode cX4_count 108 = .ok (.aload_n 0, 1) := by decide +kernel
theorem dX4_count_109 : decode cX4_count 109 = .ok (.getfield 10, 3) := by decide +kernel
theorem dX4_count_112 : decode cX4_count 112 = .ok (.invokevirtual 171, 3) := by decide +kernel
theorem dX4_count_115 : decode cX4_count 115 = .ok (.ireturn, 1) := by decide +kernel
theorem dX4_count_116 : decode cX4_count 116 = .ok (.aload_n 0, 1) := by decide +kernel
theorem dX4_count_117 : decode cX4_count 117 = .ok (.getfield 10, 3) := by decide +kernel
theorem dX4_count_120 : decode cX4_count 120 = .ok (.getfield 174, 3) := by decide +kernel
theorem dX4_count_123 : decode cX4_count 123 = .ok (.ireturn, 1) := by decide +kernel
theorem dX4_count_124 : decode cX4_count 124 = .ok (.aload_n 0, 1) := by decide +kernel
theorem dX4_count_125 : decode cX4_count 125 = .ok (.getfield 10, 3) := by decide +kernel
theorem dX4_count_128 : decode cX4_count 128 = .ok (.getfield 177, 3) := by decide +kernel
theorem dX4_count_131 : decode cX4_count 131 = .ok (.ireturn, 1) := by decide +kernel
theorem dX4_count_132 : decode cX4_count 132 = .ok (.aload_n 0, 1) := by decide +kernel
theorem dX4_count_133 : decode cX4_count 133 = .ok (.getfield 10, 3) := by decide +kernel
theorem dX4_count_136 : decode cX4_count 136 = .ok (.getfield 180, 3) := by decide +kernel
theorem dX4_count_139 : decode cX4_count 139 = .ok (.ireturn, 1) := by decide +kernel
theorem dX4_count_140 : decode cX4_count 140 = .ok (.aload_n 0, 1) := by decide +kernel
theorem dX4_count_141 : decode cX4_count 141 = .ok (.getfield 41, 3) := by decide +kernel
theorem dX4_count_144 : decode cX4_count 144 = .ok (.getfield 183, 3) := by decide +kernel
theorem dX4_count_147 : decode cX4_count 147 = .ok (.ireturn, 1) := by decide +kernel
theorem dX4_count_148 : decode cX4_count 148 = .ok (.aload_n 0, 1) := by decide +kernel
theorem dX4_count_149 : decode cX4_count 149 = .ok (.getfield 22, 3) := by decide +kernel
theorem dX4_count_152 : decode cX4_count 152 = .ok (.getfield 186, 3) := by decide +kernel
theorem dX4_count_155 : decode cX4_count 155 = .ok (.ireturn, 1) := by decide +kernel
theorem dX4_count_156 : decode cX4_count 156 = .ok (.ldc 42, 2) := by decide +kernel
theorem dX4_count_158 : decode cX4_count 158 = .ok (.ireturn, 1) := by decide +kernel
theorem dX4_untilSpark_0 : decode cX4_untilSpark 0 = .ok (.aload_n 0, 1) := by decide +kernel
theorem dX4_untilSpark_1 : decode cX4_untilSpark 1 = .ok (.getfield 16, 3) := by decide +kernel
theorem dX4_untilSpark_4 : decode cX4_untilSpark 4 = .ok (.aload_n 0, 1) := by decide +kernel
theorem dX4_untilSpark_5 : decode cX4_untilSpark 5 = .ok (.getfield 10, 3) := by decide +kernel
theorem dX4_untilSpark_8 : decode cX4_untilSpark 8 = .ok (.invokevirtual 189, 3) := by decide +kernel
theorem dX4_untilSpark_11 : decode cX4_untilSpark 11 = .ok (.aload_n 0, 1) := by decide +kernel
theorem dX4_untilSpark_12 : decode cX4_untilSpark 12 = .ok (.getfield 16, 3) := by decide +kernel
theorem dX4_untilSpark_15 : decode cX4_untilSpark 15 = .ok (.sipush 400, 3) := by decide +kernel
theorem dX4_untilSpark_18 : decode cX4_untilSpark 18 = .ok (.invokevirtual 192, 3) := by decide +kernel
theorem dX4_untilSpark_21 : decode cX4_untilSpark 21 = .ok (.ireturn, 1) := by decide +kernel
theorem dX4_ifTurned_0 : decode cX4_ifTurned 0 = .ok (.iload_n 1, 1) := by decide +kernel
theorem dX4_ifTurned_1 : decode cX4_ifTurned 1 = .ok (.iconst 1, 1) := by decide +kernel
theorem dX4_ifTurned_2 : decode cX4_ifTurned 2 = .ok (.if_icmp .lt 19, 3) := by decide +kernel
theorem dX4_ifTurned_5 : decode cX4_ifTurned 5 = .ok (.iload_n 1, 1) := by decide +kernel
theorem dX4_ifTurned_6 : decode cX4_ifTurned 6 = .ok (.sipush 400, 3) := by decide +kernel
theorem dX4_ifTurned_9 : decode cX4_ifTurned 9 = .ok (.if_icmp .gt 12, 3) := by decide +kernel
theorem dX4_ifTurned_12 : decode cX4_ifTurned 12 = .ok (.iload_n 2, 1) := by decide +kernel
theorem dX4_ifTurned_13 : decode cX4_ifTurned 13 = .ok (.ifCond .lt 8, 3) := by decide +kernel
theorem dX4_ifTurned_16 : decode cX4_ifTurned 16 = .ok (.iload_n 2, 1) := by decide +kernel
theorem dX4_ifTurned_17 : decode cX4_ifTurned 17 = .ok (.iconst 5, 1) := by decide +kernel
theorem dX4_ifTurned_18 : decode cX4_ifTurned 18 = .ok (.if_icmp .le 6, 3) := by decide +kernel
theorem dX4_ifTurned_21 : decode cX4_ifTurned 21 = .ok (.ldc 42, 2) := by decide +kernel
theorem dX4_ifTurned_23 : decode cX4_ifTurned 23 = .ok (.ireturn, 1) := by decide +kernel
theorem dX4_ifTurned_24 : decode cX4_ifTurned 24 = .ok (.aload_n 0, 1) := by decide +kernel
theorem dX4_ifTurned_25 : decode cX4_ifTurned 25 = .ok (.getfield 16, 3) := by decide +kernel
theorem dX4_ifTurned_28 : decode cX4_ifTurned 28 = .ok (.aload_n 0, 1) := by decide +kernel
theorem dX4_ifTurned_29 : decode cX4_ifTurned 29 = .ok (.getfield 10, 3) := by decide +kernel
theorem dX4_ifTurned_32 : decode cX4_ifTurned 32 = .ok (.invokevirtual 189, 3) := by decide +kernel
theorem dX4_ifTurned_35 : decode cX4_ifTurned 35 = .ok (.aload_n 0, 1) := by decide +kernel
theorem dX4_ifTurned_36 : decode cX4_ifTurned 36 = .ok (.getfield 16, 3) := by decide +kernel
theorem dX4_ifTurned_39 : decode cX4_ifTurned 39 = .ok (.iload_n 1, 1) := by decide +kernel
theorem dX4_ifTurned_40 : decode cX4_ifTurned 40 = .ok (.invokevirtual 195, 3) := by decide +kernel
theorem dX4_ifTurned_43 : decode cX4_ifTurned 43 = .ok (.istore_n 3, 1) := by decide +kernel
theorem dX4_ifTurned_44 : decode cX4_ifTurned 44 = .ok (.iload_n 2, 1) := by decide +kernel
theorem dX4_ifTurned_45 : decode cX4_ifTurned 45 = .ok (.tableswitch 89 0 4 #[35, 51, 67, 77, 87], 35) := by decide +kernel
theorem dX4_ifTurned_80 : decode cX4_ifTurned 80 = .ok (.aload_n 0, 1) := by decide +kernel
theorem dX4_ifTurned_81 : decode cX4_ifTurned 81 = .ok (.getfield 16, 3) := by decide +kernel
theorem dX4_ifTurned_84 : decode cX4_ifTurned 84 = .ok (.getfield 93, 3) := by decide +kernel
theorem dX4_ifTurned_87 : decode cX4_ifTurned 87 = .ok (.aload_n 0, 1) := by decide +kernel
theorem dX4_ifTurned_88 : decode cX4_ifTurned 88 = .ok (.getfield 10, 3) := by decide +kernel
theorem dX4_ifTurned_91 : decode cX4_ifTurned 91 = .ok (.getfield 93, 3) := by decide +kernel
theorem dX4_ifTurned_94 : decode cX4_ifTurned 94 = .ok (.isub, 1) := by decide +kernel
theorem dX4_ifTurned_95 : decode cX4_ifTurned 95 = .ok (.ireturn, 1) := by decide +kernel
theorem dX4_ifTurned_96 : decode cX4_ifTurned 96 = .ok (.aload_n 0, 1) := by decide +kernel
theorem dX4_ifTurned_97 : decode cX4_ifTurned 97 = .ok (.getfield 16, 3) := by decide +kernel
theorem dX4_ifTurned_100 : decode cX4_ifTurned 100 = .ok (.getfield 165, 3) := by decide +kernel
theorem dX4_ifTurned_103 : decode cX4_ifTurned 103 = .ok (.aload_n 0, 1) := by decide +kernel
theorem dX4_ifTurned_104 : decode cX4_ifTurned 104 = .ok (.getfield 10, 3) := by decide +kernel
theorem dX4_ifTurned_107 : decode cX4_ifTurned 107 = .ok (.getfield 165, 3) := by decide +kernel
theorem dX4_ifTurned_110 : decode cX4_ifTurned 110 = .ok (.isub, 1) := by decide +kernel
theorem dX4_ifTurned_111 : decode cX4_ifTurned 111 = .ok (.ireturn, 1) := by decide +kernel
theorem dX4_ifTurned_112 : decode cX4_ifTurned 112 = .ok (.aload_n 0, 1) := by decide +kernel
theorem dX4_ifTurned_113 : decode cX4_ifTurned 113 = .ok (.getfield 16, 3) := by decide +kernel
theorem dX4_ifTurned_116 : decode cX4_ifTurned 116 = .ok (.getfield 150, 3) := by decide +kernel
theorem dX4_ifTurned_119 : decode cX4_ifTurned 119 = .ok (.iconst 0, 1) := by decide +kernel
theorem dX4_ifTurned_120 : decode cX4_ifTurned 120 = .ok (.iaload, 1) := by decide +kernel
theorem dX4_ifTurned_121 : decode cX4_ifTurned 121 = .ok (.ireturn, 1) := by decide +kernel
theorem dX4_ifTurned_122 : decode cX4_ifTurned 122 = .ok (.aload_n 0, 1) := by decide +kernel
theorem dX4_ifTurned_123 : decode cX4_ifTurned 123 = .ok (.getfield 16, 3) := by decide +kernel
theorem dX4_ifTurned_126 : decode cX4_ifTurned 126 = .ok (.getfield 150, 3) := by decide +kernel
theorem dX4_ifTurned_129 : decode cX4_ifTurned 129 = .ok (.iconst 1, 1) := by decide +kernel
theorem dX4_ifTurned_130 : decode cX4_ifTurned 130 = .ok (.iaload, 1) := by decide +kernel
theorem dX4_ifTurned_131 : decode cX4_ifTurned 131 = .ok (.ireturn, 1) := by decide +kernel
theorem dX4_ifTurned_132 : decode cX4_ifTurned 132 = .ok (.iload_n 3, 1) := by decide +kernel
theorem dX4_ifTurned_133 : decode cX4_ifTurned 133 = .ok (.ireturn, 1) := by decide +kernel
theorem dX4_ifTurned_134 : decode cX4_ifTurned 134 = .ok (.aload_n 0, 1) := by decide +kernel
theorem dX4_ifTurned_135 : decode cX4_ifTurned 135 = .ok (.getfield 16, 3) := by decide +kernel
theorem dX4_ifTurned_138 : decode cX4_ifTurned 138 = .ok (.invokevirtual 171, 3) := by decide +kernel
theorem dX4_ifTurned_141 : decode cX4_ifTurned 141 = .ok (.ireturn, 1) := by decide +kernel
theorem dX4_widestGap_0 : decode cX4_widestGap 0 = .ok (.aload_n 0, 1) := by decide +kernel
theorem dX4_widestGap_1 : decode cX4_widestGap 1 = .ok (.getfield 16, 3) := by decide +kernel
theorem dX4_widestGap_4 : decode cX4_widestGap 4 = .ok (.aload_n 0, 1) := by decide +kernel
theorem dX4_widestGap_5 : decode cX4_widestGap 5 = .ok (.getfield 10, 3) := by decide +kernel
theorem dX4_widestGap_8 : decode cX4_widestGap 8 = .ok (.invokevirtual 189, 3) := by decide +kernel
theorem dX4_widestGap_11 : decode cX4_widestGap 11 = .ok (.iconst 0, 1) := by decide +kernel
theorem dX4_widestGap_12 : decode cX4_widestGap 12 = .ok (.istore_n 1, 1) := by decide +kernel
theorem dX4_widestGap_13 : decode cX4_widestGap 13 = .ok (.iconst 0, 1) := by decide +kernel
theorem dX4_widestGap_14 : decode cX4_widestGap 14 = .ok (.istore_n 2, 1) := by decide +kernel
theorem dX4_widestGap_15 : decode cX4_widestGap 15 = .ok (.iload_n 2, 1) := by decide +kernel
theorem dX4_widestGap_16 : decode cX4_widestGap 16 = .ok (.sipush 200, 3) := by decide +kernel
theorem dX4_widestGap_19 : decode cX4_widestGap 19 = .ok (.if_icmp .ge 28, 3) := by decide +kernel
theorem dX4_widestGap_22 : decode cX4_widestGap 22 = .ok (.aload_n 0, 1) := by decide +kernel
theorem dX4_widestGap_23 : decode cX4_widestGap 23 = .ok (.getfield 16, 3) := by decide +kernel
theorem dX4_widestGap_26 : decode cX4_widestGap 26 = .ok (.invokevirtual 198, 3) := by decide +kernel
theorem dX4_widestGap_29 : decode cX4_widestGap 29 = .ok (.iload_n 1, 1) := by decide +kernel
theorem dX4_widestGap_30 : decode cX4_widestGap 30 = .ok (.aload_n 0, 1) := by decide +kernel
theorem dX4_widestGap_31 : decode cX4_widestGap 31 = .ok (.getfield 16, 3) := by decide +kernel
theorem dX4_widestGap_34 : decode cX4_widestGap 34 = .ok (.invokevirtual 201, 3) := by decide +kernel
theorem dX4_widestGap_37 : decode cX4_widestGap 37 = .ok (.invokestatic 204, 3) := by decide +kernel
theorem dX4_widestGap_40 : decode cX4_widestGap 40 = .ok (.istore_n 1, 1) := by decide +kernel
theorem dX4_widestGap_41 : decode cX4_widestGap 41 = .ok (.iinc 2 1, 3) := by decide +kernel
theorem dX4_widestGap_44 : decode cX4_widestGap 44 = .ok (.goto (-29), 3) := by decide +kernel
theorem dX4_widestGap_47 : decode cX4_widestGap 47 = .ok (.iload_n 1, 1) := by decide +kernel
theorem dX4_widestGap_48 : decode cX4_widestGap 48 = .ok (.bipush 10, 2) := by decide +kernel
theorem dX4_widestGap_50 : decode cX4_widestGap 50 = .ok (.idiv, 1) := by decide +kernel
theorem dX4_widestGap_51 : decode cX4_widestGap 51 = .ok (.getstatic 47, 3) := by decide +kernel
theorem dX4_widestGap_54 : decode cX4_widestGap 54 = .ok (.iconst 2, 1) := by decide +kernel
theorem dX4_widestGap_55 : decode cX4_widestGap 55 = .ok (.iaload, 1) := by decide +kernel
theorem dX4_widestGap_56 : decode cX4_widestGap 56 = .ok (.invokestatic 209, 3) := by decide +kernel
theorem dX4_widestGap_59 : decode cX4_widestGap 59 = .ok (.istore_n 2, 1) := by decide +kernel
theorem dX4_widestGap_60 : decode cX4_widestGap 60 = .ok (.iload_n 2, 1) := by decide +kernel
theorem dX4_widestGap_61 : decode cX4_widestGap 61 = .ok (.getstatic 43, 3) := by decide +kernel
theorem dX4_widestGap_64 : decode cX4_widestGap 64 = .ok (.iconst 2, 1) := by decide +kernel
theorem dX4_widestGap_65 : decode cX4_widestGap 65 = .ok (.iaload, 1) := by decide +kernel
theorem dX4_widestGap_66 : decode cX4_widestGap 66 = .ok (.if_icmp .ge 8, 3) := by decide +kernel
theorem dX4_widestGap_69 : decode cX4_widestGap 69 = .ok (.ldc 91, 2) := by decide +kernel
theorem dX4_widestGap_71 : decode cX4_widestGap 71 = .ok (.goto 4, 3) := by decide +kernel
theorem dX4_widestGap_74 : decode cX4_widestGap 74 = .ok (.iload_n 2, 1) := by decide +kernel
theorem dX4_widestGap_75 : decode cX4_widestGap 75 = .ok (.ireturn, 1) := by decide +kernel
theorem dX4_mostDamp_0 : decode cX4_mostDamp 0 = .ok (.getstatic 47, 3) := by decide +kernel
theorem dX4_mostDamp_3 : decode cX4_mostDamp 3 = .ok (.iconst 1, 1) := by decide +kernel
theorem dX4_mostDamp_4 : decode cX4_mostDamp 4 = .ok (.iaload, 1) := by decide +kernel
theorem dX4_mostDamp_5 : decode cX4_mostDamp 5 = .ok (.istore_n 1, 1) := by decide +kernel
theorem dX4_mostDamp_6 : decode cX4_mostDamp 6 = .ok (.iload_n 1, 1) := by decide +kernel
theorem dX4_mostDamp_7 : decode cX4_mostDamp 7 = .ok (.getstatic 43, 3) := by decide +kernel
theorem dX4_mostDamp_10 : decode cX4_mostDamp 10 = .ok (.iconst 1, 1) := by decide +kernel
theorem dX4_mostDamp_11 : decode cX4_mostDamp 11 = .ok (.iaload, 1) := by decide +kernel
theorem dX4_mostDamp_12 : decode cX4_mostDamp 12 = .ok (.if_icmp .lt 47, 3) := by decide +kernel
theorem dX4_mostDamp_15 : decode cX4_mostDamp 15 = .ok (.aload_n 0, 1) := by decide +kernel
theorem dX4_mostDamp_16 : decode cX4_mostDamp 16 = .ok (.getfield 16, 3) := by decide +kernel
theorem dX4_mostDamp_19 : decode cX4_mostDamp 19 = .ok (.aload_n 0, 1) := by decide +kernel
theorem dX4_mostDamp_20 : decode cX4_mostDamp 20 = .ok (.getfield 10, 3) := by decide +kernel
theorem dX4_mostDamp_23 : decode cX4_mostDamp 23 = .ok (.invokevirtual 189, 3) := by decide +kernel
theorem dX4_mostDamp_26 : decode cX4_mostDamp 26 = .ok (.aload_n 0, 1) := by decide +kernel
theorem dX4_mostDamp_27 : decode cX4_mostDamp 27 = .ok (.getfield 16, 3) := by decide +kernel
theorem dX4_mostDamp_30 : decode cX4_mostDamp 30 = .ok (.getfield 59, 3) := by decide +kernel
theorem dX4_mostDamp_33 : decode cX4_mostDamp 33 = .ok (.iconst 1, 1) := by decide +kernel
theorem dX4_mostDamp_34 : decode cX4_mostDamp 34 = .ok (.iload_n 1, 1) := by decide +kernel
theorem dX4_mostDamp_35 : decode cX4_mostDamp 35 = .ok (.iastore, 1) := by decide +kernel
theorem dX4_mostDamp_36 : decode cX4_mostDamp 36 = .ok (.aload_n 0, 1) := by decide +kernel
theorem dX4_mostDamp_37 : decode cX4_mostDamp 37 = .ok (.getfield 16, 3) := by decide +kernel
theorem dX4_mostDamp_40 : decode cX4_mostDamp 40 = .ok (.sipush 200, 3) := by decide +kernel
theorem dX4_mostDamp_43 : decode cX4_mostDamp 43 = .ok (.invokevirtual 192, 3) := by decide +kernel
theorem dX4_mostDamp_46 : decode cX4_mostDamp 46 = .ok (.ldc 91, 2) := by decide +kernel
theorem dX4_mostDamp_48 : decode cX4_mostDamp 48 = .ok (.if_icmp .eq 5, 3) := by decide +kernel
theorem dX4_mostDamp_51 : decode cX4_mostDamp 51 = .ok (.iload_n 1, 1) := by decide +kernel
theorem dX4_mostDamp_52 : decode cX4_mostDamp 52 = .ok (.ireturn, 1) := by decide +kernel
theorem dX4_mostDamp_53 : decode cX4_mostDamp 53 = .ok (.iinc 1 (-1), 3) := by decide +kernel
theorem dX4_mostDamp_56 : decode cX4_mostDamp 56 = .ok (.goto (-50), 3) := by decide +kernel
theorem dX4_mostDamp_59 : decode cX4_mostDamp 59 = .ok (.ldc 91, 2) := by decide +kernel
theorem dX4_mostDamp_61 : decode cX4_mostDamp 61 = .ok (.ireturn, 1) := by decide +kernel
theorem dX4_put_0 : decode cX4_put 0 = .ok (.lload_n 1, 1) := by decide +kernel
theorem dX4_put_1 : decode cX4_put 1 = .ok (.invokestatic 212, 3) := by decide +kernel
theorem dX4_put_4 : decode cX4_put 4 = .ok (.istore_n 3, 1) := by decide +kernel
theorem dX4_put_5 : decode cX4_put 5 = .ok (.iload_n 3, 1) := by decide +kernel
theorem dX4_put_6 : decode cX4_put 6 = .ok (.ifCond .ne 6, 3) := by decide +kernel
theorem dX4_put_9 : decode cX4_put 9 = .ok (.ldc 42, 2) := by decide +kernel
theorem dX4_put_11 : decode cX4_put 11 = .ok (.ireturn, 1) := by decide +kernel
theorem dX4_put_12 : decode cX4_put 12 = .ok (.aload_n 0, 1) := by decide +kernel
theorem dX4_put_13 : decode cX4_put 13 = .ok (.getfield 41, 3) := by decide +kernel
theorem dX4_put_16 : decode cX4_put 16 = .ok (.getfield 183, 3) := by decide +kernel
theorem dX4_put_19 : decode cX4_put 19 = .ok (.iload_n 3, 1) := by decide +kernel
theorem dX4_put_20 : decode cX4_put 20 = .ok (.iadd, 1) := by decide +kernel
theorem dX4_put_21 : decode cX4_put 21 = .ok (.bipush 60, 2) := by decide +kernel
theorem dX4_put_23 : decode cX4_put 23 = .ok (.if_icmp .le 6, 3) := by decide +kernel
theorem dX4_put_26 : decode cX4_put 26 = .ok (.ldc 77, 2) := by decide +kernel
theorem dX4_put_28 : decode cX4_put 28 = .ok (.ireturn, 1) := by decide +kernel
theorem dX4_put_29 : decode cX4_put 29 = .ok (.aload_n 0, 1) := by decide +kernel
theorem dX4_put_30 : decode cX4_put 30 = .ok (.getfield 41, 3) := by decide +kernel
theorem dX4_put_33 : decode cX4_put 33 = .ok (.lload_n 1, 1) := by decide +kernel
theorem dX4_put_34 : decode cX4_put 34 = .ok (.iload_n 3, 1) := by decide +kernel
theorem dX4_put_35 : decode cX4_put 35 = .ok (.invokevirtual 216, 3) := by decide +kernel
theorem dX4_put_38 : decode cX4_put 38 = .ok (.aload_n 0, 1) := by decide +kernel
theorem dX4_put_39 : decode cX4_put 39 = .ok (.getfield 41, 3) := by decide +kernel
theorem dX4_put_42 : decode cX4_put 42 = .ok (.getfield 183, 3) := by decide +kernel
theorem dX4_put_45 : decode cX4_put 45 = .ok (.ireturn, 1) := by decide +kernel
theorem dX4_wipe_0 : decode cX4_wipe 0 = .ok (.aload_n 0, 1) := by decide +kernel
theorem dX4_wipe_1 : decode cX4_wipe 1 = .ok (.getfield 41, 3) := by decide +kernel
theorem dX4_wipe_4 : decode cX4_wipe 4 = .ok (.getfield 183, 3) := by decide +kernel
theorem dX4_wipe_7 : decode cX4_wipe 7 = .ok (.istore_n 1, 1) := by decide +kernel
theorem dX4_wipe_8 : decode cX4_wipe 8 = .ok (.aload_n 0, 1) := by decide +kernel
theorem dX4_wipe_9 : decode cX4_wipe 9 = .ok (.getfield 41, 3) := by decide +kernel
theorem dX4_wipe_12 : decode cX4_wipe 12 = .ok (.invokevirtual 111, 3) := by decide +kernel
theorem dX4_wipe_15 : decode cX4_wipe 15 = .ok (.iload_n 1, 1) := by decide +kernel
theorem dX4_wipe_16 : decode cX4_wipe 16 = .ok (.ireturn, 1) := by decide +kernel
theorem dX4_fault_0 : decode cX4_fault 0 = .ok (.aload_n 0, 1) := by decide +kernel
theorem dX4_fault_1 : decode cX4_fault 1 = .ok (.getfield 33, 3) := by decide +kernel
theorem dX4_fault_4 : decode cX4_fault 4 = .ok (.invokevirtual 88, 3) := by decide +kernel
theorem dX4_fault_7 : decode cX4_fault 7 = .ok (.ireturn, 1) := by decide +kernel
theorem dX4_undo_0 : decode cX4_undo 0 = .ok (.aload_n 0, 1) := by decide +kernel
theorem dX4_undo_1 : decode cX4_undo 1 = .ok (.getfield 22, 3) := by decide +kernel
theorem dX4_undo_4 : decode cX4_undo 4 = .ok (.aload_n 0, 1) := by decide +kernel
theorem dX4_undo_5 : decode cX4_undo 5 = .ok (.getfield 10, 3) := by decide +kernel
theorem dX4_undo_8 : decode cX4_undo 8 = .ok (.invokevirtual 220, 3) := by decide +kernel
theorem dX4_undo_11 : decode cX4_undo 11 = .ok (.ifCond .ne 6, 3) := by decide +kernel
theorem dX4_undo_14 : decode cX4_undo 14 = .ok (.ldc 54, 2) := by decide +kernel
theorem dX4_undo_16 : decode cX4_undo 16 = .ok (.ireturn, 1) := by decide +kernel
theorem dX4_undo_17 : decode cX4_undo 17 = .ok (.aload_n 0, 1) := by decide +kernel
theorem dX4_undo_18 : decode cX4_undo 18 = .ok (.getfield 22, 3) := by decide +kernel
theorem dX4_undo_21 : decode cX4_undo 21 = .ok (.getfield 186, 3) := by decide +kernel
theorem dX4_undo_24 : decode cX4_undo 24 = .ok (.ireturn, 1) := by decide +kernel
theorem dX4_save_0 : decode cX4_save 0 = .ok (.iload_n 1, 1) := by decide +kernel
theorem dX4_save_1 : decode cX4_save 1 = .ok (.ifCond .lt 8, 3) := by decide +kernel
theorem dX4_save_4 : decode cX4_save 4 = .ok (.iload_n 1, 1) := by decide +kernel
theorem dX4_save_5 : decode cX4_save 5 = .ok (.iconst 2, 1) := by decide +kernel
theorem dX4_save_6 : decode cX4_save 6 = .ok (.if_icmp .lt 6, 3) := by decide +kernel
theorem dX4_save_9 : decode cX4_save 9 = .ok (.ldc 42, 2) := by decide +kernel
theorem dX4_save_11 : decode cX4_save 11 = .ok (.ireturn, 1) := by decide +kernel
theorem dX4_save_12 : decode cX4_save 12 = .ok (.aload_n 0, 1) := by decide +kernel
theorem dX4_save_13 : decode cX4_save 13 = .ok (.getfield 26, 3) := by decide +kernel
theorem dX4_save_16 : decode cX4_save 16 = .ok (.iload_n 1, 1) := by decide +kernel
theorem dX4_save_17 : decode cX4_save 17 = .ok (.aaload, 1) := by decide +kernel
theorem dX4_save_18 : decode cX4_save 18 = .ok (.astore_n 2, 1) := by decide +kernel
theorem dX4_save_19 : decode cX4_save 19 = .ok (.aload_n 2, 1) := by decide +kernel
theorem dX4_save_20 : decode cX4_save 20 = .ok (.ifnonnull 18, 3) := by decide +kernel
theorem dX4_save_23 : decode cX4_save 23 = .ok (.new 7, 3) := by decide +kernel
theorem dX4_save_26 : decode cX4_save 26 = .ok (.dup, 1) := by decide +kernel
theorem dX4_save_27 : decode cX4_save 27 = .ok (.invokespecial 9, 3) := by decide +kernel
theorem dX4_save_30 : decode cX4_save 30 = .ok (.astore_n 2, 1) := by decide +kernel
theorem dX4_save_31 : decode cX4_save 31 = .ok (.aload_n 0, 1) := by decide +kernel
theorem dX4_save_32 : decode cX4_save 32 = .ok (.getfield 26, 3) := by decide +kernel
theorem dX4_save_35 : decode cX4_save 35 = .ok (.iload_n 1, 1) := by decide +kernel
theorem dX4_save_36 : decode cX4_save 36 = .ok (.aload_n 2, 1) := by decide +kernel
theorem dX4_save_37 : decode cX4_save 37 = .ok (.aastore, 1) := by decide +kernel
theorem dX4_save_38 : decode cX4_save 38 = .ok (.aload_n 2, 1) := by decide +kernel
theorem dX4_save_39 : decode cX4_save 39 = .ok (.aload_n 0, 1) := by decide +kernel
theorem dX4_save_40 : decode cX4_save 40 = .ok (.getfield 10, 3) := by decide +kernel
theorem dX4_save_43 : decode cX4_save 43 = .ok (.invokevirtual 189, 3) := by decide +kernel
theorem dX4_save_46 : decode cX4_save 46 = .ok (.aload_n 0, 1) := by decide +kernel
theorem dX4_save_47 : decode cX4_save 47 = .ok (.getfield 10, 3) := by decide +kernel
theorem dX4_save_50 : decode cX4_save 50 = .ok (.getfield 131, 3) := by decide +kernel
theorem dX4_save_53 : decode cX4_save 53 = .ok (.ireturn, 1) := by decide +kernel
theorem dX4_restore_0 : decode cX4_restore 0 = .ok (.iload_n 1, 1) := by decide +kernel
theorem dX4_restore_1 : decode cX4_restore 1 = .ok (.ifCond .lt 8, 3) := by decide +kernel
theorem dX4_restore_4 : decode cX4_restore 4 = .ok (.iload_n 1, 1) := by decide +kernel
theorem dX4_restore_5 : decode cX4_restore 5 = .ok (.iconst 2, 1) := by decide +kernel
theorem dX4_restore_6 : decode cX4_restore 6 = .ok (.if_icmp .lt 6, 3) := by decide +kernel
theorem dX4_restore_9 : decode cX4_restore 9 = .ok (.ldc 42, 2) := by decide +kernel
theorem dX4_restore_11 : decode cX4_restore 11 = .ok (.ireturn, 1) := by decide +kernel
theorem dX4_restore_12 : decode cX4_restore 12 = .ok (.aload_n 0, 1) := by decide +kernel
theorem dX4_restore_13 : decode cX4_restore 13 = .ok (.getfield 26, 3) := by decide +kernel
theorem dX4_restore_16 : decode cX4_restore 16 = .ok (.iload_n 1, 1) := by decide +kernel
theorem dX4_restore_17 : decode cX4_restore 17 = .ok (.aaload, 1) := by decide +kernel
theorem dX4_restore_18 : decode cX4_restore 18 = .ok (.astore_n 2, 1) := by decide +kernel
theorem dX4_restore_19 : decode cX4_restore 19 = .ok (.aload_n 2, 1) := by decide +kernel
theorem dX4_restore_20 : decode cX4_restore 20 = .ok (.ifnonnull 6, 3) := by decide +kernel
theorem dX4_restore_23 : decode cX4_restore 23 = .ok (.ldc 54, 2) := by decide +kernel
theorem dX4_restore_25 : decode cX4_restore 25 = .ok (.ireturn, 1) := by decide +kernel
theorem dX4_restore_26 : decode cX4_restore 26 = .ok (.aload_n 0, 1) := by decide +kernel
theorem dX4_restore_27 : decode cX4_restore 27 = .ok (.getfield 22, 3) := by decide +kernel
theorem dX4_restore_30 : decode cX4_restore 30 = .ok (.aload_n 0, 1) := by decide +kernel
theorem dX4_restore_31 : decode cX4_restore 31 = .ok (.getfield 10, 3) := by decide +kernel
theorem dX4_restore_34 : decode cX4_restore 34 = .ok (.invokevirtual 55, 3) := by decide +kernel
theorem dX4_restore_37 : decode cX4_restore 37 = .ok (.aload_n 0, 1) := by decide +kernel
theorem dX4_restore_38 : decode cX4_restore 38 = .ok (.getfield 10, 3) := by decide +kernel
theorem dX4_restore_41 : decode cX4_restore 41 = .ok (.aload_n 2, 1) := by decide +kernel
theorem dX4_restore_42 : decode cX4_restore 42 = .ok (.invokevirtual 189, 3) := by decide +kernel
theorem dX4_restore_45 : decode cX4_restore 45 = .ok (.aload_n 0, 1) := by decide +kernel
theorem dX4_restore_46 : decode cX4_restore 46 = .ok (.getfield 10, 3) := by decide +kernel
theorem dX4_restore_49 : decode cX4_restore 49 = .ok (.getfield 131, 3) := by decide +kernel
theorem dX4_restore_52 : decode cX4_restore 52 = .ok (.ireturn, 1) := by decide +kernel
theorem dX4_isNoDisc_0 : decode cX4_isNoDisc 0 = .ok (.iload_n 0, 1) := by decide +kernel
theorem dX4_isNoDisc_1 : decode cX4_isNoDisc 1 = .ok (.ifCond .lt 8, 3) := by decide +kernel
theorem dX4_isNoDisc_4 : decode cX4_isNoDisc 4 = .ok (.iload_n 0, 1) := by decide +kernel
theorem dX4_isNoDisc_5 : decode cX4_isNoDisc 5 = .ok (.iconst 2, 1) := by decide +kernel
theorem dX4_isNoDisc_6 : decode cX4_isNoDisc 6 = .ok (.if_icmp .lt 7, 3) := by decide +kernel
theorem dX4_isNoDisc_9 : decode cX4_isNoDisc 9 = .ok (.iconst 1, 1) := by decide +kernel
theorem dX4_isNoDisc_10 : decode cX4_isNoDisc 10 = .ok (.goto 4, 3) := by decide +kernel
theorem dX4_isNoDisc_13 : decode cX4_isNoDisc 13 = .ok (.iconst 0, 1) := by decide +kernel
theorem dX4_isNoDisc_14 : decode cX4_isNoDisc 14 = .ok (.ireturn, 1) := by decide +kernel
theorem dX4_isNoPlace_0 : decode cX4_isNoPlace 0 = .ok (.iload_n 0, 1) := by decide +kernel
theorem dX4_isNoPlace_1 : decode cX4_isNoPlace 1 = .ok (.ifCond .lt 9, 3) := by decide +kernel
theorem dX4_isNoPlace_4 : decode cX4_isNoPlace 4 = .ok (.iload_n 0, 1) := by decide +kernel
theorem dX4_isNoPlace_5 : decode cX4_isNoPlace 5 = .ok (.bipush 12, 2) := by decide +kernel
theorem dX4_isNoPlace_7 : decode cX4_isNoPlace 7 = .ok (.if_icmp .lt 7, 3) := by decide +kernel
theorem dX4_isNoPlace_10 : decode cX4_isNoPlace 10 = .ok (.iconst 1, 1) := by decide +kernel
theorem dX4_isNoPlace_11 : decode cX4_isNoPlace 11 = .ok (.goto 4, 3) := by decide +kernel
theorem dX4_isNoPlace_14 : decode cX4_isNoPlace 14 = .ok (.iconst 0, 1) := by decide +kernel
theorem dX4_isNoPlace_15 : decode cX4_isNoPlace 15 = .ok (.ireturn, 1) := by decide +kernel
theorem dX4_charactersIn_0 : decode cX4_charactersIn 0 = .ok (.iconst 0, 1) := by decide +kernel
theorem dX4_charactersIn_1 : decode cX4_charactersIn 1 = .ok (.istore_n 2, 1) := by decide +kernel
theorem dX4_charactersIn_2 : decode cX4_charactersIn 2 = .ok (.lload_n 0, 1) := by decide +kernel
theorem dX4_charactersIn_3 : decode cX4_charactersIn 3 = .ok (.lstore_n 3, 1) := by decide +kernel
theorem dX4_charactersIn_4 : decode cX4_charactersIn 4 = .ok (.iconst 0, 1) := by decide +kernel
theorem dX4_charactersIn_5 : decode cX4_charactersIn 5 = .ok (.istore 5, 2) := by decide +kernel
theorem dX4_charactersIn_7 : decode cX4_charactersIn 7 = .ok (.iload 5, 2) := by decide +kernel
theorem dX4_charactersIn_9 : decode cX4_charactersIn 9 = .ok (.bipush 8, 2) := by decide +kernel
theorem dX4_charactersIn_11 : decode cX4_charactersIn 11 = .ok (.if_icmp .ge 47, 3) := by decide +kernel
theorem dX4_charactersIn_14 : decode cX4_charactersIn 14 = .ok (.lload_n 3, 1) := by decide +kernel
theorem dX4_charactersIn_15 : decode cX4_charactersIn 15 = .ok (.lconst 0, 1) := by decide +kernel
theorem dX4_charactersIn_16 : decode cX4_charactersIn 16 = .ok (.lcmp, 1) := by decide +kernel
theorem dX4_charactersIn_17 : decode cX4_charactersIn 17 = .ok (.ifCond .eq 41, 3) := by decide +kernel
theorem dX4_charactersIn_20 : decode cX4_charactersIn 20 = .ok (.lload_n 3, 1) := by decide +kernel
theorem dX4_charactersIn_21 : decode cX4_charactersIn 21 = .ok (.ldc2_w 224, 3) := by decide +kernel
theorem dX4_charactersIn_24 : decode cX4_charactersIn 24 = .ok (.land, 1) := by decide +kernel
theorem dX4_charactersIn_25 : decode cX4_charactersIn 25 = .ok (.l2i, 1) := by decide +kernel
theorem dX4_charactersIn_26 : decode cX4_charactersIn 26 = .ok (.istore 6, 2) := by decide +kernel
theorem dX4_charactersIn_28 : decode cX4_charactersIn 28 = .ok (.iload 6, 2) := by decide +kernel
theorem dX4_charactersIn_30 : decode cX4_charactersIn 30 = .ok (.bipush 33, 2) := by decide +kernel
theorem dX4_charactersIn_32 : decode cX4_charactersIn 32 = .ok (.if_icmp .lt 10, 3) := by decide +kernel
theorem dX4_charactersIn_35 : decode cX4_charactersIn 35 = .ok (.iload 6, 2) := by decide +kernel
theorem dX4_charactersIn_37 : decode cX4_charactersIn 37 = .ok (.bipush 126, 2) := by decide +kernel
theorem dX4_charactersIn_39 : decode cX4_charactersIn 39 = .ok (.if_icmp .le 5, 3) := by decide +kernel
theorem dX4_charactersIn_42 : decode cX4_charactersIn 42 = .ok (.iconst 0, 1) := by decide +kernel
theorem dX4_charactersIn_43 : decode cX4_charactersIn 43 = .ok (.ireturn, 1) := by decide +kernel
theorem dX4_charactersIn_44 : decode cX4_charactersIn 44 = .ok (.iinc 2 1, 3) := by decide +kernel
theorem dX4_charactersIn_47 : decode cX4_charactersIn 47 = .ok (.lload_n 3, 1) := by decide +kernel
theorem dX4_charactersIn_48 : decode cX4_charactersIn 48 = .ok (.bipush 8, 2) := by decide +kernel
theorem dX4_charactersIn_50 : decode cX4_charactersIn 50 = .ok (.lushr, 1) := by decide +kernel
theorem dX4_charactersIn_51 : decode cX4_charactersIn 51 = .ok (.lstore_n 3, 1) := by decide +kernel
theorem dX4_charactersIn_52 : decode cX4_charactersIn 52 = .ok (.iinc 5 1, 3) := by decide +kernel
theorem dX4_charactersIn_55 : decode cX4_charactersIn 55 = .ok (.goto (-48), 3) := by decide +kernel
theorem dX4_charactersIn_58 : decode cX4_charactersIn 58 = .ok (.iload_n 2, 1) := by decide +kernel
theorem dX4_charactersIn_59 : decode cX4_charactersIn 59 = .ok (.ireturn, 1) := by decide +kernel
theorem dX4_limited_0 : decode cX4_limited 0 = .ok (.iload_n 1, 1) := by decide +kernel
theorem dX4_limited_1 : decode cX4_limited 1 = .ok (.iload_n 2, 1) := by decide +kernel
theorem dX4_limited_2 : decode cX4_limited 2 = .ok (.iload_n 0, 1) := by decide +kernel
theorem dX4_limited_3 : decode cX4_limited 3 = .ok (.invokestatic 209, 3) := by decide +kernel
theorem dX4_limited_6 : decode cX4_limited 6 = .ok (.invokestatic 204, 3) := by decide +kernel
theorem dX4_limited_9 : decode cX4_limited 9 = .ok (.ireturn, 1) := by decide +kernel
theorem dX4_copyNumbers_0 : decode cX4_copyNumbers 0 = .ok (.aload_n 0, 1) := by decide +kernel
theorem dX4_copyNumbers_1 : decode cX4_copyNumbers 1 = .ok (.iconst 0, 1) := by decide +kernel
theorem dX4_copyNumbers_2 : decode cX4_copyNumbers 2 = .ok (.aload_n 1, 1) := by decide +kernel
theorem dX4_copyNumbers_3 : decode cX4_copyNumbers 3 = .ok (.iconst 0, 1) := by decide +kernel
theorem dX4_copyNumbers_4 : decode cX4_copyNumbers 4 = .ok (.aload_n 0, 1) := by decide +kernel
theorem dX4_copyNumbers_5 : decode cX4_copyNumbers 5 = .ok (.arraylength, 1) := by decide +kernel
theorem dX4_copyNumbers_6 : decode cX4_copyNumbers 6 = .ok (.aload_n 1, 1) := by decide +kernel
theorem dX4_copyNumbers_7 : decode cX4_copyNumbers 7 = .ok (.arraylength, 1) := by decide +kernel
theorem dX4_copyNumbers_8 : decode cX4_copyNumbers 8 = .ok (.invokestatic 209, 3) := by decide +kernel
theorem dX4_copyNumbers_11 : decode cX4_copyNumbers 11 = .ok (.invokestatic 226, 3) := by decide +kernel
theorem dX4_copyNumbers_14 : decode cX4_copyNumbers 14 = .ok (.return_, 1) := by decide +kernel
theorem dX5_init_0 : decode cX5_init 0 = .ok (.aload_n 0, 1) := by decide +kernel
theorem dX5_init_1 : decode cX5_init 1 = .ok (.invokespecial 1, 3) := by decide +kernel
theorem dX5_init_4 : decode cX5_init 4 = .ok (.aload_n 0, 1) := by decide +kernel
theorem dX5_init_5 : decode cX5_init 5 = .ok (.bipush 67, 2) := by decide +kernel
theorem dX5_init_7 : decode cX5_init 7 = .ok (.newarray .int, 2) := by decide +kernel
theorem dX5_init_9 : decode cX5_init 9 = .ok (.putfield 7, 3) := by decide +kernel
theorem dX5_init_12 : decode cX5_init 12 = .ok (.aload_n 0, 1) := by decide +kernel
theorem dX5_init_13 : decode cX5_init 13 = .ok (.bipush 67, 2) := by decide +kernel
theorem dX5_init_15 : decode cX5_init 15 = .ok (.newarray .int, 2) := by decide +kernel
theorem dX5_init_17 : decode cX5_init 17 = .ok (.putfield 13, 3) := by decide +kernel
theorem dX5_init_20 : decode cX5_init 20 = .ok (.aload_n 0, 1) := by decide +kernel
theorem dX5_init_21 : decode cX5_init 21 = .ok (.sipush 402, 3) := by decide +kernel
theorem dX5_init_24 : decode cX5_init 24 = .ok (.newarray .int, 2) := by decide +kernel
theorem dX5_init_26 : decode cX5_init 26 = .ok (.putfield 16, 3) := by decide +kernel
theorem dX5_init_29 : decode cX5_init 29 = .ok (.aload_n 0, 1) := by decide +kernel
theorem dX5_init_30 : decode cX5_init 30 = .ok (.sipush 134, 3) := by decide +kernel
theorem dX5_init_33 : decode cX5_init 33 = .ok (.newarray .int, 2) := by decide +kernel
theorem dX5_init_35 : decode cX5_init 35 = .ok (.putfield 19, 3) := by decide +kernel
theorem dX5_init_38 : decode cX5_init 38 = .ok (.aload_n 0, 1) := by decide +kernel
theorem dX5_init_39 : decode cX5_init 39 = .ok (.iconst 2, 1) := by decide +kernel
theorem dX5_init_40 : decode cX5_init 40 = .ok (.newarray .int, 2) := by decide +kernel
theorem dX5_init_42 : decode cX5_init 42 = .ok (.putfield 22, 3) := by decide +kernel
theorem dX5_init_45 : decode cX5_init 45 = .ok (.aload_n 0, 1) := by decide +kernel
theorem dX5_init_46 : decode cX5_init 46 = .ok (.bipush 60, 2) := by decide +kernel
theorem dX5_init_48 : decode cX5_init 48 = .ok (.newarray .int, 2) := by decide +kernel
theorem dX5_init_50 : decode cX5_init 50 = .ok (.putfield 25, 3) := by decide +kernel
theorem dX5_init_53 : decode cX5_init 53 = .ok (.aload_n 0, 1) := by decide +kernel
theorem dX5_init_54 : decode cX5_init 54 = .ok (.getfield 7, 3) := by decide +kernel
theorem dX5_init_57 : decode cX5_init 57 = .ok (.iconst 0, 1) := by decide +kernel
theorem dX5_init_58 : decode cX5_init 58 = .ok (.bipush 12, 2) := by decide +kernel
theorem dX5_init_60 : decode cX5_init 60 = .ok (.iastore, 1) := by decide +kernel
theorem dX5_init_61 : decode cX5_init 61 = .ok (.aload_n 0, 1) := by decide +kernel
theorem dX5_init_62 : decode cX5_init 62 = .ok (.getfield 7, 3) := by decide +kernel
theorem dX5_init_65 : decode cX5_init 65 = .ok (.iconst 1, 1) := by decide +kernel
theorem dX5_init_66 : decode cX5_init 66 = .ok (.iconst 2, 1) := by decide +kernel
theorem dX5_init_67 : decode cX5_init 67 = .ok (.iastore, 1) := by decide +kernel
theorem dX5_init_68 : decode cX5_init 68 = .ok (.aload_n 0, 1) := by decide +kernel
theorem dX5_init_69 : decode cX5_init 69 = .ok (.getfield 7, 3) := by decide +kernel
theorem dX5_init_72 : decode cX5_init 72 = .ok (.iconst 2, 1) := by decide +kernel
theorem dX5_init_73 : decode cX5_init 73 = .ok (.bipush 30, 2) := by decide +kernel
theorem dX5_init_75 : decode cX5_init 75 = .ok (.iastore, 1) := by decide +kernel
theorem dX5_init_76 : decode cX5_init 76 = .ok (.aload_n 0, 1) := by decide +kernel
theorem dX5_init_77 : decode cX5_init 77 = .ok (.getfield 7, 3) := by decide +kernel
theorem dX5_init_80 : decode cX5_init 80 = .ok (.iconst 3, 1) := by decide +kernel
theorem dX5_init_81 : decode cX5_init 81 = .ok (.bipush 20, 2) := by decide +kernel
theorem dX5_init_83 : decode cX5_init 83 = .ok (.iastore, 1) := by decide +kernel
theorem dX5_init_84 : decode cX5_init 84 = .ok (.aload_n 0, 1) := by decide +kernel
theorem dX5_init_85 : decode cX5_init 85 = .ok (.getfield 7, 3) := by decide +kernel
theorem dX5_init_88 : decode cX5_init 88 = .ok (.iconst 4, 1) := by decide +kernel
theorem dX5_init_89 : decode cX5_init 89 = .ok (.sipush 1000, 3) := by decide +kernel
theorem dX5_init_92 : decode cX5_init 92 = .ok (.iastore, 1) := by decide +kernel
theorem dX5_init_93 : decode cX5_init 93 = .ok (.return_, 1) := by decide +kernel
theorem dX5_in_0 : decode cX5_in 0 = .ok (.lload_n 0, 1) := by decide +kernel
theorem dX5_in_1 : decode cX5_in 1 = .ok (.lload_n 2, 1) := by decide +kernel
theorem dX5_in_2 : decode cX5_in 2 = .ok (.lcmp, 1) := by decide +kernel
theorem dX5_in_3 : decode cX5_in 3 = .ok (.ifCond .lt 14, 3) := by decide +kernel
theorem dX5_in_6 : decode cX5_in 6 = .ok (.lload_n 0, 1) := by decide +kernel
theorem dX5_in_7 : decode cX5_in 7 = .ok (.lload 4, 2) := by decide +kernel
theorem dX5_in_9 : decode cX5_in 9 = .ok (.lcmp, 1) := by decide +kernel
theorem dX5_in_10 : decode cX5_in 10 = .ok (.ifCond .gt 7, 3) := by decide +kernel
theorem dX5_in_13 : decode cX5_in 13 = .ok (.iconst 1, 1) := by decide +kernel
theorem dX5_in_14 : decode cX5_in 14 = .ok (.goto 4, 3) := by decide +kernel
theorem dX5_in_17 : decode cX5_in 17 = .ok (.iconst 0, 1) := by decide +kernel
theorem dX5_in_18 : decode cX5_in 18 = .ok (.ireturn, 1) := by decide +kernel
theorem dX5_changes_0 : decode cX5_changes 0 = .ok (.aload_n 0, 1) := by decide +kernel
theorem dX5_changes_1 : decode cX5_changes 1 = .ok (.getfield 28, 3) := by decide +kernel
theorem dX5_changes_4 : decode cX5_changes 4 = .ok (.bipush 6, 2) := by decide +kernel
theorem dX5_changes_6 : decode cX5_changes 6 = .ok (.if_icmp .ne 43, 3) := by decide +kernel
theorem dX5_changes_9 : decode cX5_changes 9 = .ok (.iconst 0, 1) := by decide +kernel
theorem dX5_changes_10 : decode cX5_changes 10 = .ok (.istore_n 1, 1) := by decide +kernel
theorem dX5_changes_11 : decode cX5_changes 11 = .ok (.iload_n 1, 1) := by decide +kernel
theorem dX5_changes_12 : decode cX5_changes 12 = .ok (.sipush 335, 3) := by decide +kernel
theorem dX5_changes_15 : decode cX5_changes 15 = .ok (.if_icmp .ge 24, 3) := by decide +kernel
theorem dX5_changes_18 : decode cX5_changes 18 = .ok (.aload_n 0, 1) := by decide +kernel
theorem dX5_changes_19 : decode cX5_changes 19 = .ok (.getfield 16, 3) := by decide +kernel
theorem dX5_changes_22 : decode cX5_changes 22 = .ok (.iload_n 1, 1) := by decide +kernel
theorem dX5_changes_23 : decode cX5_changes 23 = .ok (.aload_n 0, 1) := by decide +kernel
theorem dX5_changes_24 : decode cX5_changes 24 = .ok (.getfield 16, 3) := by decide +kernel
theorem dX5_changes_27 : decode cX5_changes 27 = .ok (.iload_n 1, 1) := by decide +kernel
theorem dX5_changes_28 : decode cX5_changes 28 = .ok (.bipush 67, 2) := by decide +kernel
theorem dX5_changes_30 : decode cX5_changes 30 = .ok (.iadd, 1) := by decide +kernel
theorem dX5_changes_31 : decode cX5_changes 31 = .ok (.iaload, 1) := by decide +kernel
theorem dX5_changes_32 : decode cX5_changes 32 = .ok (.iastore, 1) := by decide +kernel
theorem dX5_changes_33 : decode cX5_changes 33 = .ok (.iinc 1 1, 3) := by decide +kernel
theorem dX5_changes_36 : decode cX5_changes 36 = .ok (.goto (-25), 3) := by decide +kernel
theorem dX5_changes_39 : decode cX5_changes 39 = .ok (.aload_n 0, 1) := by decide +kernel
theorem dX5_changes_40 : decode cX5_changes 40 = .ok (.dup, 1) := by decide +kernel
theorem dX5_changes_41 : decode cX5_changes 41 = .ok (.getfield 28, 3) := by decide +kernel
theorem dX5_changes_44 : decode cX5_changes 44 = .ok (.iconst 1, 1) := by decide +kernel
theorem dX5_changes_45 : decode cX5_changes 45 = .ok (.isub, 1) := by decide +kernel
theorem dX5_changes_46 : decode cX5_changes 46 = .ok (.putfield 28, 3) := by decide +kernel
theorem dX5_changes_49 : decode cX5_changes 49 = .ok (.iconst 0, 1) := by decide +kernel
theorem dX5_changes_50 : decode cX5_changes 50 = .ok (.istore_n 1, 1) := by decide +kernel
theorem dX5_changes_51 : decode cX5_changes 51 = .ok (.iload_n 1, 1) := by decide +kernel
theorem dX5_changes_52 : decode cX5_changes 52 = .ok (.bipush 67, 2) := by decide +kernel
theorem dX5_changes_54 : decode cX5_changes 54 = .ok (.if_icmp .ge 29, 3) := by decide +kernel
theorem dX5_changes_57 : decode cX5_changes 57 = .ok (.aload_n 0, 1) := by decide +kernel
theorem dX5_changes_58 : decode cX5_changes 58 = .ok (.getfield 16, 3) := by decide +kernel
theorem dX5_changes_61 : decode cX5_changes 61 = .ok (.bipush 67, 2) := by decide +kernel
theorem dX5_changes_63 : decode cX5_changes 63 = .ok (.aload_n 0, 1) := by decide +kernel
theorem dX5_changes_64 : decode cX5_changes 64 = .ok (.getfield 28, 3) := by decide +kernel
theorem dX5_changes_67 : decode cX5_changes 67 = .ok (.imul, 1) := by decide +kernel
theorem dX5_changes_68 : decode cX5_changes 68 = .ok (.iload_n 1, 1) := by decide +kernel
theorem dX5_changes_69 : decode cX5_changes 69 = .ok (.iadd, 1) := by decide +kernel
theorem dX5_changes_70 : decode cX5_changes 70 = .ok (.aload_n 0, 1) := by decide +kernel
theorem dX5_changes_71 : decode cX5_changes 71 = .ok (.getfield 7, 3) := by decide +kernel
theorem dX5_changes_74 : decode cX5_changes 74 = .ok (.iload_n 1, 1) := by decide +kernel
theorem dX5_changes_75 : decode cX5_changes 75 = .ok (.iaload, 1) := by decide +kernel
theorem dX5_changes_76 : decode cX5_changes 76 = .ok (.iastore, 1) := by decide +kernel
theorem dX5_changes_77 : decode cX5_changes 77 = .ok (.iinc 1 1, 3) := by decide +kernel
theorem dX5_changes_80 : decode cX5_changes 80 = .ok (.goto (-29), 3) := by decide +kernel
theorem dX5_changes_83 : decode cX5_changes 83 = .ok (.aload_n 0, 1) := by decide +kernel
theorem dX5_changes_84 : decode cX5_changes 84 = .ok (.dup, 1) := by decide +kernel
theorem dX5_changes_85 : decode cX5_changes 85 = .ok (.getfield 28, 3) := by decide +kernel
theorem dX5_changes_88 : decode cX5_changes 88 = .ok (.iconst 1, 1) := by decide +kernel
theorem dX5_changes_89 : decode cX5_changes 89 = .ok (.iadd, 1) := by decide +kernel
theorem dX5_changes_90 : decode cX5_changes 90 = .ok (.putfield 28, 3) := by decide +kernel
theorem dX5_changes_93 : decode cX5_changes 93 = .ok (.return_, 1) := by decide +kernel
theorem dX5_keeps_0 : decode cX5_keeps 0 = .ok (.iconst 0, 1) := by decide +kernel
theorem dX5_keeps_1 : decode cX5_keeps 1 = .ok (.istore_n 1, 1) := by decide +kernel
theorem dX5_keeps_2 : decode cX5_keeps 2 = .ok (.iload_n 1, 1) := by decide +kernel
theorem dX5_keeps_3 : decode cX5_keeps 3 = .ok (.bipush 67, 2) := by decide +kernel
theorem dX5_keeps_5 : decode cX5_keeps 5 = .ok (.if_icmp .ge 21, 3) := by decide +kernel
theorem dX5_keeps_8 : decode cX5_keeps 8 = .ok (.aload_n 0, 1) := by decide +kernel
theorem dX5_keeps_9 : decode cX5_keeps 9 = .ok (.getfield 13, 3) := by decide +kernel
theorem dX5_keeps_12 : decode cX5_keeps 12 = .ok (.iload_n 1, 1) := by decide +kernel
theorem dX5_keeps_13 : decode cX5_keeps 13 = .ok (.aload_n 0, 1) := by decide +kernel
theorem dX5_keeps_14 : decode cX5_keeps 14 = .ok (.getfield 7, 3) := by decide +kernel
theorem dX5_keeps_17 : decode cX5_keeps 17 = .ok (.iload_n 1, 1) := by decide +kernel
theorem dX5_keeps_18 : decode cX5_keeps 18 = .ok (.iaload, 1) := by decide +kernel
theorem dX5_keeps_19 : decode cX5_keeps 19 = .ok (.iastore, 1) := by decide +kernel
theorem dX5_keeps_20 : decode cX5_keeps 20 = .ok (.iinc 1 1, 3) := by decide +kernel
theorem dX5_keeps_23 : decode cX5_keeps 23 = .ok (.goto (-21), 3) := by decide +kernel
theorem dX5_keeps_26 : decode cX5_keeps 26 = .ok (.return_, 1) := by decide +kernel
theorem dX5_comesBack_0 : decode cX5_comesBack 0 = .ok (.iconst 0, 1) := by decide +kernel
theorem dX5_comesBack_1 : decode cX5_comesBack 1 = .ok (.istore_n 1, 1) := by decide +kernel
theorem dX5_comesBack_2 : decode cX5_comesBack 2 = .ok (.iload_n 1, 1) := by decide +kernel
theorem dX5_comesBack_3 : decode cX5_comesBack 3 = .ok (.bipush 67, 2) := by decide +kernel
theorem dX5_comesBack_5 : decode cX5_comesBack 5 = .ok (.if_icmp .ge 21, 3) := by decide +kernel
theorem dX5_comesBack_8 : decode cX5_comesBack 8 = .ok (.aload_n 0, 1) := by decide +kernel
theorem dX5_comesBack_9 : decode cX5_comesBack 9 = .ok (.getfield 7, 3) := by decide +kernel
theorem dX5_comesBack_12 : decode cX5_comesBack 12 = .ok (.iload_n 1, 1) := by decide +kernel
theorem dX5_comesBack_13 : decode cX5_comesBack 13 = .ok (.aload_n 0, 1) := by decide +kernel
theorem dX5_comesBack_14 : decode cX5_comesBack 14 = .ok (.getfield 13, 3) := by decide +kernel
theorem dX5_comesBack_17 : decode cX5_comesBack 17 = .ok (.iload_n 1, 1) := by decide +kernel
theorem dX5_comesBack_18 : decode cX5_comesBack 18 = .ok (.iaload, 1) := by decide +kernel
theorem dX5_comesBack_19 : decode cX5_comesBack 19 = .ok (.iastore, 1) := by decide +kernel
theorem dX5_comesBack_20 : decode cX5_comesBack 20 = .ok (.iinc 1 1, 3) := by decide +kernel
theorem dX5_comesBack_23 : decode cX5_comesBack 23 = .ok (.goto (-21), 3) := by decide +kernel
theorem dX5_comesBack_26 : decode cX5_comesBack 26 = .ok (.return_, 1) := by decide +kernel
theorem dX5_isDisc_0 : decode cX5_isDisc 0 = .ok (.iload_n 0, 1) := by decide +kernel
theorem dX5_isDisc_1 : decode cX5_isDisc 1 = .ok (.ifCond .eq 8, 3) := by decide +kernel
theorem dX5_isDisc_4 : decode cX5_isDisc 4 = .ok (.iload_n 0, 1) := by decide +kernel
theorem dX5_isDisc_5 : decode cX5_isDisc 5 = .ok (.iconst 1, 1) := by decide +kernel
theorem dX5_isDisc_6 : decode cX5_isDisc 6 = .ok (.if_icmp .ne 7, 3) := by decide +kernel
theorem dX5_isDisc_9 : decode cX5_isDisc 9 = .ok (.iconst 1, 1) := by decide +kernel
theorem dX5_isDisc_10 : decode cX5_isDisc 10 = .ok (.goto 4, 3) := by decide +kernel
theorem dX5_isDisc_13 : decode cX5_isDisc 13 = .ok (.iconst 0, 1) := by decide +kernel
theorem dX5_isDisc_14 : decode cX5_isDisc 14 = .ok (.ireturn, 1) := by decide +kernel
theorem dX5_cell_0 : decode cX5_cell 0 = .ok (.bipush 13, 2) := by decide +kernel
theorem dX5_cell_2 : decode cX5_cell 2 = .ok (.bipush 12, 2) := by decide +kernel
theorem dX5_cell_4 : decode cX5_cell 4 = .ok (.iload_n 0, 1) := by decide +kernel
theorem dX5_cell_5 : decode cX5_cell 5 = .ok (.imul, 1) := by decide +kernel
theorem dX5_cell_6 : decode cX5_cell 6 = .ok (.iadd, 1) := by decide +kernel
theorem dX5_cell_7 : decode cX5_cell 7 = .ok (.iload_n 1, 1) := by decide +kernel
theorem dX5_cell_8 : decode cX5_cell 8 = .ok (.iadd, 1) := by decide +kernel
theorem dX5_cell_9 : decode cX5_cell 9 = .ok (.ireturn, 1) := by decide +kernel
theorem dX5_cut_0 : decode cX5_cut 0 = .ok (.iload_n 0, 1) := by decide +kernel
theorem dX5_cut_1 : decode cX5_cut 1 = .ok (.iload_n 1, 1) := by decide +kernel
theorem dX5_cut_2 : decode cX5_cut 2 = .ok (.if_icmp .ge 7, 3) := by decide +kernel
theorem dX5_cut_5 : decode cX5_cut 5 = .ok (.iload_n 1, 1) := by decide +kernel
theorem dX5_cut_6 : decode cX5_cut 6 = .ok (.goto 13, 3) := by decide +kernel
theorem dX5_cut_9 : decode cX5_cut 9 = .ok (.iload_n 0, 1) := by decide +kernel
theorem dX5_cut_10 : decode cX5_cut 10 = .ok (.iload_n 2, 1) := by decide +kernel
theorem dX5_cut_11 : decode cX5_cut 11 = .ok (.if_icmp .le 7, 3) := by decide +kernel
theorem dX5_cut_14 : decode cX5_cut 14 = .ok (.iload_n 2, 1) := by decide +kernel
theorem dX5_cut_15 : decode cX5_cut 15 = .ok (.goto 4, 3) := by decide +kernel
theorem dX5_cut_18 : decode cX5_cut 18 = .ok (.iload_n 0, 1) := by decide +kernel
theorem dX5_cut_19 : decode cX5_cut 19 = .ok (.ireturn, 1) := by decide +kernel
theorem dX5_discsTurn_0 : decode cX5_discsTurn 0 = .ok (.aload_n 0, 1) := by decide +kernel
theorem dX5_discsTurn_1 : decode cX5_discsTurn 1 = .ok (.getfield 7, 3) := by decide +kernel
theorem dX5_discsTurn_4 : decode cX5_discsTurn 4 = .ok (.iconst 0, 1) := by decide +kernel
theorem dX5_discsTurn_5 : decode cX5_discsTurn 5 = .ok (.bipush 11, 2) := by decide +kernel
theorem dX5_discsTurn_7 : decode cX5_discsTurn 7 = .ok (.invokestatic 32, 3) := by decide +kernel
theorem dX5_discsTurn_10 : decode cX5_discsTurn 10 = .ok (.iaload, 1) := by decide +kernel
theorem dX5_discsTurn_11 : decode cX5_discsTurn 11 = .ok (.istore_n 1, 1) := by decide +kernel
theorem dX5_discsTurn_12 : decode cX5_discsTurn 12 = .ok (.bipush 11, 2) := by decide +kernel
theorem dX5_discsTurn_14 : decode cX5_discsTurn 14 = .ok (.istore_n 2, 1) := by decide +kernel
theorem dX5_discsTurn_15 : decode cX5_discsTurn 15 = .ok (.iload_n 2, 1) := by decide +kernel
theorem dX5_discsTurn_16 : decode cX5_discsTurn 16 = .ok (.ifCond .le 31, 3) := by decide +kernel
theorem dX5_discsTurn_19 : decode cX5_discsTurn 19 = .ok (.aload_n 0, 1) := by decide +kernel
theorem dX5_discsTurn_20 : decode cX5_discsTurn 20 = .ok (.getfield 7, 3) := by decide +kernel
theorem dX5_discsTurn_23 : decode cX5_discsTurn 23 = .ok (.iconst 0, 1) := by decide +kernel
theorem dX5_discsTurn_24 : decode cX5_discsTurn 24 = .ok (.iload_n 2, 1) := by decide +kernel
theorem dX5_discsTurn_25 : decode cX5_discsTurn 25 = .ok (.invokestatic 32, 3) := by decide +kernel
theorem dX5_discsTurn_28 : decode cX5_discsTurn 28 = .ok (.aload_n 0, 1) := by decide +kernel
theorem dX5_discsTurn_29 : decode cX5_discsTurn 29 = .ok (.getfield 7, 3) := by decide +kernel
theorem dX5_discsTurn_32 : decode cX5_discsTurn 32 = .ok (.iconst 0, 1) := by decide +kernel
theorem dX5_discsTurn_33 : decode cX5_discsTurn 33 = .ok (.iload_n 2, 1) := by decide +kernel
theorem dX5_discsTurn_34 : decode cX5_discsTurn 34 = .ok (.iconst 1, 1) := by decide +kernel
theorem dX5_discsTurn_35 : decode cX5_discsTurn 35 = .ok (.isub, 1) := by decide +kernel
theorem dX5_discsTurn_36 : decode cX5_discsTurn 36 = .ok (.invokestatic 32, 3) := by decide +kernel
theorem dX5_discsTurn_39 : decode cX5_discsTurn 39 = .ok (.iaload, 1) := by decide +kernel
theorem dX5_discsTurn_40 : decode cX5_discsTurn 40 = .ok (.iastore, 1) := by decide +kernel
theorem dX5_discsTurn_41 : decode cX5_discsTurn 41 = .ok (.iinc 2 (-1), 3) := by decide +kernel
theorem dX5_discsTurn_44 : decode cX5_discsTurn 44 = .ok (.goto (-29), 3) := by decide +kernel
theorem dX5_discsTurn_47 : decode cX5_discsTurn 47 = .ok (.aload_n 0, 1) := by decide +kernel
theorem dX5_discsTurn_48 : decode cX5_discsTurn 48 = .ok (.getfield 7, 3) := by decide +kernel
theorem dX5_discsTurn_51 : decode cX5_discsTurn 51 = .ok (.iconst 0, 1) := by decide +kernel
theorem dX5_discsTurn_52 : decode cX5_discsTurn 52 = .ok (.iconst 0, 1) := by decide +kernel
theorem dX5_discsTurn_53 : decode cX5_discsTurn 53 = .ok (.invokestatic 32, 3) := by decide +kernel
theorem dX5_discsTurn_56 : decode cX5_discsTurn 56 = .ok (.iload_n 1, 1) := by decide +kernel
theorem dX5_discsTurn_57 : decode cX5_discsTurn 57 = .ok (.iastore, 1) := by decide +kernel
theorem dX5_discsTurn_58 : decode cX5_discsTurn 58 = .ok (.aload_n 0, 1) := by decide +kernel
theorem dX5_discsTurn_59 : decode cX5_discsTurn 59 = .ok (.getfield 7, 3) := by decide +kernel
theorem dX5_discsTurn_62 : decode cX5_discsTurn 62 = .ok (.iconst 1, 1) := by decide +kernel
theorem dX5_discsTurn_63 : decode cX5_discsTurn 63 = .ok (.iconst 0, 1) := by decide +kernel
theorem dX5_discsTurn_64 : decode cX5_discsTurn 64 = .ok (.invokestatic 32, 3) := by decide +kernel
theorem dX5_discsTurn_67 : decode cX5_discsTurn 67 = .ok (.iaload, 1) := by decide +kernel
theorem dX5_discsTurn_68 : decode cX5_discsTurn 68 = .ok (.istore_n 2, 1) := by decide +kernel
theorem dX5_discsTurn_69 : decode cX5_discsTurn 69 = .ok (.iconst 0, 1) := by decide +kernel
theorem dX5_discsTurn_70 : decode cX5_discsTurn 70 = .ok (.istore_n 3, 1) := by decide +kernel
theorem dX5_discsTurn_71 : decode cX5_discsTurn 71 = .ok (.iload_n 3, 1) := by decide +kernel
theorem dX5_discsTurn_72 : decode cX5_discsTurn 72 = .ok (.bipush 11, 2) := by decide +kernel
theorem dX5_discsTurn_74 : decode cX5_discsTurn 74 = .ok (.if_icmp .ge 31, 3) := by decide +kernel
theorem dX5_discsTurn_77 : decode cX5_discsTurn 77 = .ok (.aload_n 0, 1) := by decide +kernel
theorem dX5_discsTurn_78 : decode cX5_discsTurn 78 = .ok (.getfield 7, 3) := by decide +kernel
theorem dX5_discsTurn_81 : decode cX5_discsTurn 81 = .ok (.iconst 1, 1) := by decide +kernel
theorem dX5_discsTurn_82 : decode cX5_discsTurn 82 = .ok (.iload_n 3, 1) := by decide +kernel
theorem dX5_discsTurn_83 : decode cX5_discsTurn 83 = .ok (.invokestatic 32, 3) := by decide +kernel
theorem dX5_discsTurn_86 : decode cX5_discsTurn 86 = .ok (.aload_n 0, 1) := by decide +kernel
theorem dX5_discsTurn_87 : decode cX5_discsTurn 87 = .ok (.getfield 7, 3) := by decide +kernel
theorem dX5_discsTurn_90 : decode cX5_discsTurn 90 = .ok (.iconst 1, 1) := by decide +kernel
theorem dX5_discsTurn_91 : decode cX5_discsTurn 91 = .ok (.iload_n 3, 1) := by decide +kernel
theorem dX5_discsTurn_92 : decode cX5_discsTurn 92 = .ok (.iconst 1, 1) := by decide +kernel
theorem dX5_discsTurn_93 : decode cX5_discsTurn 93 = .ok (.iadd, 1) := by decide +kernel
theorem dX5_discsTurn_94 : decode cX5_discsTurn 94 = .ok (.invokestatic 32, 3) := by decide +kernel
theorem dX5_discsTurn_97 : decode cX5_discsTurn 97 = .ok (.iaload, 1) := by decide +kernel
theorem dX5_discsTurn_98 : decode cX5_discsTurn 98 = .ok (.iastore, 1) := by decide +kernel
theorem dX5_discsTurn_99 : decode cX5_discsTurn 99 = .ok (.iinc 3 1, 3) := by decide +kernel
theorem dX5_discsTurn_102 : decode cX5_discsTurn 102 = .ok (.goto (-31), 3) := by decide +kernel
theorem dX5_discsTurn_105 : decode cX5_discsTurn 105 = .ok (.aload_n 0, 1) := by decide +kernel
theorem dX5_discsTurn_106 : decode cX5_discsTurn 106 = .ok (.getfield 7, 3) := by decide +kernel
theorem dX5_discsTurn_109 : decode cX5_discsTurn 109 = .ok (.iconst 1, 1) := by decide +kernel
theorem dX5_discsTurn_110 : decode cX5_discsTurn 110 = .ok (.bipush 11, 2) := by decide +kernel
theorem dX5_discsTurn_112 : decode cX5_discsTurn 112 = .ok (.invokestatic 32, 3) := by decide +kernel
theorem dX5_discsTurn_115 : decode cX5_discsTurn 115 = .ok (.iload_n 2, 1) := by decide +kernel
theorem dX5_discsTurn_116 : decode cX5_discsTurn 116 = .ok (.iastore, 1) := by decide +kernel
theorem dX5_discsTurn_117 : decode cX5_discsTurn 117 = .ok (.return_, 1) := by decide +kernel
theorem dX5_joins_0 : decode cX5_joins 0 = .ok (.aload_n 0, 1) := by decide +kernel
theorem dX5_joins_1 : decode cX5_joins 1 = .ok (.getfield 7, 3) := by decide +kernel
theorem dX5_joins_4 : decode cX5_joins 4 = .ok (.iload_n 1, 1) := by decide +kernel
theorem dX5_joins_5 : decode cX5_joins 5 = .ok (.iload_n 2, 1) := by decide +kernel
theorem dX5_joins_6 : decode cX5_joins 6 = .ok (.invokestatic 32, 3) := by decide +kernel
theorem dX5_joins_9 : decode cX5_joins 9 = .ok (.iaload, 1) := by decide +kernel
theorem dX5_joins_10 : decode cX5_joins 10 = .ok (.istore 4, 2) := by decide +kernel
theorem dX5_joins_12 : decode cX5_joins 12 = .ok (.aload_n 0, 1) := by decide +kernel
theorem dX5_joins_13 : decode cX5_joins 13 = .ok (.getfield 7, 3) := by decide +kernel
theorem dX5_joins_16 : decode cX5_joins 16 = .ok (.iload_n 1, 1) := by decide +kernel
theorem dX5_joins_17 : decode cX5_joins 17 = .ok (.iload_n 3, 1) := by decide +kernel
theorem dX5_joins_18 : decode cX5_joins 18 = .ok (.invokestatic 32, 3) := by decide +kernel
theorem dX5_joins_21 : decode cX5_joins 21 = .ok (.iaload, 1) := by decide +kernel
theorem dX5_joins_22 : decode cX5_joins 22 = .ok (.istore 5, 2) := by decide +kernel
theorem dX5_joins_24 : decode cX5_joins 24 = .ok (.iload 4, 2) := by decide +kernel
theorem dX5_joins_26 : decode cX5_joins 26 = .ok (.iload 5, 2) := by decide +kernel
theorem dX5_joins_28 : decode cX5_joins 28 = .ok (.iadd, 1) := by decide +kernel
theorem dX5_joins_29 : decode cX5_joins 29 = .ok (.iconst 2, 1) := by decide +kernel
theorem dX5_joins_30 : decode cX5_joins 30 = .ok (.idiv, 1) := by decide +kernel
theorem dX5_joins_31 : decode cX5_joins 31 = .ok (.aload_n 0, 1) := by decide +kernel
theorem dX5_joins_32 : decode cX5_joins 32 = .ok (.getfield 7, 3) := by decide +kernel
theorem dX5_joins_35 : decode cX5_joins 35 = .ok (.iconst 1, 1) := by decide +kernel
theorem dX5_joins_36 : decode cX5_joins 36 = .ok (.iload_n 1, 1) := by decide +kernel
theorem dX5_joins_37 : decode cX5_joins 37 = .ok (.isub, 1) := by decide +kernel
theorem dX5_joins_38 : decode cX5_joins 38 = .ok (.iload_n 3, 1) := by decide +kernel
theorem dX5_joins_39 : decode cX5_joins 39 = .ok (.invokestatic 32, 3) := by decide +kernel
theorem dX5_joins_42 : decode cX5_joins 42 = .ok (.iaload, 1) := by decide +kernel
theorem dX5_joins_43 : decode cX5_joins 43 = .ok (.aload_n 0, 1) := by decide +kernel
theorem dX5_joins_44 : decode cX5_joins 44 = .ok (.getfield 7, 3) := by decide +kernel
theorem dX5_joins_47 : decode cX5_joins 47 = .ok (.iconst 1, 1) := by decide +kernel
theorem dX5_joins_48 : decode cX5_joins 48 = .ok (.iload_n 1, 1) := by decide +kernel
theorem dX5_joins_49 : decode cX5_joins 49 = .ok (.isub, 1) := by decide +kernel
theorem dX5_joins_50 : decode cX5_joins 50 = .ok (.iload_n 2, 1) := by decide +kernel
theorem dX5_joins_51 : decode cX5_joins 51 = .ok (.invokestatic 32, 3) := by decide +kernel
theorem dX5_joins_54 : decode cX5_joins 54 = .ok (.iaload, 1) := by decide +kernel
theorem dX5_joins_55 : decode cX5_joins 55 = .ok (.isub, 1) := by decide +kernel
theorem dX5_joins_56 : decode cX5_joins 56 = .ok (.aload_n 0, 1) := by decide +kernel
theorem dX5_joins_57 : decode cX5_joins 57 = .ok (.getfield 7, 3) := by decide +kernel
theorem dX5_joins_60 : decode cX5_joins 60 = .ok (.iconst 0, 1) := by decide +kernel
theorem dX5_joins_61 : decode cX5_joins 61 = .ok (.iaload, 1) := by decide +kernel
theorem dX5_joins_62 : decode cX5_joins 62 = .ok (.imul, 1) := by decide +kernel
theorem dX5_joins_63 : decode cX5_joins 63 = .ok (.bipush 32, 2) := by decide +kernel
theorem dX5_joins_65 : decode cX5_joins 65 = .ok (.idiv, 1) := by decide +kernel
theorem dX5_joins_66 : decode cX5_joins 66 = .ok (.iadd, 1) := by decide +kernel
theorem dX5_joins_67 : decode cX5_joins 67 = .ok (.istore 6, 2) := by decide +kernel
theorem dX5_joins_69 : decode cX5_joins 69 = .ok (.iload 6, 2) := by decide +kernel
theorem dX5_joins_71 : decode cX5_joins 71 = .ok (.iload 4, 2) := by decide +kernel
theorem dX5_joins_73 : decode cX5_joins 73 = .ok (.isub, 1) := by decide +kernel
theorem dX5_joins_74 : decode cX5_joins 74 = .ok (.bipush (-99), 2) := by decide +kernel
theorem dX5_joins_76 : decode cX5_joins 76 = .ok (.iload 4, 2) := by decide +kernel
theorem dX5_joins_78 : decode cX5_joins 78 = .ok (.isub, 1) := by decide +kernel
theorem dX5_joins_79 : decode cX5_joins 79 = .ok (.bipush 99, 2) := by decide +kernel
theorem dX5_joins_81 : decode cX5_joins 81 = .ok (.iload 4, 2) := by decide +kernel
theorem dX5_joins_83 : decode cX5_joins 83 = .ok (.isub, 1) := by decide +kernel
theorem dX5_joins_84 : decode cX5_joins 84 = .ok (.invokestatic 36, 3) := by decide +kernel
theorem dX5_joins_87 : decode cX5_joins 87 = .ok (.iload 5, 2) := by decide +kernel
theorem dX5_joins_89 : decode cX5_joins 89 = .ok (.bipush 99, 2) := by decide +kernel
theorem dX5_joins_91 : decode cX5_joins 91 = .ok (.isub, 1) := by decide +kernel
theorem dX5_joins_92 : decode cX5_joins 92 = .ok (.iload 5, 2) := by decide +kernel
theorem dX5_joins_94 : decode cX5_joins 94 = .ok (.bipush 99, 2) := by decide +kernel
theorem dX5_joins_96 : decode cX5_joins 96 = .ok (.iadd, 1) := by decide +kernel
theorem dX5_joins_97 : decode cX5_joins 97 = .ok (.invokestatic 36, 3) := by decide +kernel
theorem dX5_joins_100 : decode cX5_joins 100 = .ok (.istore 7, 2) := by decide +kernel
theorem dX5_joins_102 : decode cX5_joins 102 = .ok (.aload_n 0, 1) := by decide +kernel
theorem dX5_joins_103 : decode cX5_joins 103 = .ok (.getfield 7, 3) := by decide +kernel
theorem dX5_joins_106 : decode cX5_joins 106 = .ok (.iload_n 1, 1) := by decide +kernel
theorem dX5_joins_107 : decode cX5_joins 107 = .ok (.iload_n 2, 1) := by decide +kernel
theorem dX5_joins_108 : decode cX5_joins 108 = .ok (.invokestatic 32, 3) := by decide +kernel
theorem dX5_joins_111 : decode cX5_joins 111 = .ok (.dup2, 1) := by decide +kernel
theorem dX5_joins_112 : decode cX5_joins 112 = .ok (.iaload, 1) := by decide +kernel
theorem dX5_joins_113 : decode cX5_joins 113 = .ok (.iload 7, 2) := by decide +kernel
theorem dX5_joins_115 : decode cX5_joins 115 = .ok (.iadd, 1) := by decide +kernel
theorem dX5_joins_116 : decode cX5_joins 116 = .ok (.iastore, 1) := by decide +kernel
theorem dX5_joins_117 : decode cX5_joins 117 = .ok (.aload_n 0, 1) := by decide +kernel
theorem dX5_joins_118 : decode cX5_joins 118 = .ok (.getfield 7, 3) := by decide +kernel
theorem dX5_joins_121 : decode cX5_joins 121 = .ok (.iload_n 1, 1) := by decide +kernel
theorem dX5_joins_122 : decode cX5_joins 122 = .ok (.iload_n 3, 1) := by decide +kernel
theorem dX5_joins_123 : decode cX5_joins 123 = .ok (.invokestatic 32, 3) := by decide +kernel
theorem dX5_joins_126 : decode cX5_joins 126 = .ok (.dup2, 1) := by decide +kernel
theorem dX5_joins_127 : decode cX5_joins 127 = .ok (.iaload, 1) := by decide +kernel
theorem dX5_joins_128 : decode cX5_joins 128 = .ok (.iload 7, 2) := by decide +kernel
theorem dX5_joins_130 : decode cX5_joins 130 = .ok (.isub, 1) := by decide +kernel
theorem dX5_joins_131 : decode cX5_joins 131 = .ok (.iastore, 1) := by decide +kernel
theorem dX5_joins_132 : decode cX5_joins 132 = .ok (.return_, 1) := by decide +kernel
theorem dX5_takes_0 : decode cX5_takes 0 = .ok (.iload_n 2, 1) := by decide +kernel
theorem dX5_takes_1 : decode cX5_takes 1 = .ok (.bipush 6, 2) := by decide +kernel
theorem dX5_takes_3 : decode cX5_takes 3 = .ok (.iload_n 1, 1) := by decide +kernel
theorem dX5_takes_4 : decode cX5_takes 4 = .ok (.imul, 1) := by decide +kernel
theorem dX5_takes_5 : decode cX5_takes 5 = .ok (.invokestatic 32, 3) := by decide +kernel
theorem dX5_takes_8 : decode cX5_takes 8 = .ok (.istore_n 3, 1) := by decide +kernel
theorem dX5_takes_9 : decode cX5_takes 9 = .ok (.aload_n 0, 1) := by decide +kernel
theorem dX5_takes_10 : decode cX5_takes 10 = .ok (.getfield 7, 3) := by decide +kernel
theorem dX5_takes_13 : decode cX5_takes 13 = .ok (.iload_n 3, 1) := by decide +kernel
theorem dX5_takes_14 : decode cX5_takes 14 = .ok (.iaload, 1) := by decide +kernel
theorem dX5_takes_15 : decode cX5_takes 15 = .ok (.aload_n 0, 1) := by decide +kernel
theorem dX5_takes_16 : decode cX5_takes 16 = .ok (.getfield 7, 3) := by decide +kernel
theorem dX5_takes_19 : decode cX5_takes 19 = .ok (.iconst 4, 1) := by decide +kernel
theorem dX5_takes_20 : decode cX5_takes 20 = .ok (.iaload, 1) := by decide +kernel
theorem dX5_takes_21 : decode cX5_takes 21 = .ok (.ineg, 1) := by decide +kernel
theorem dX5_takes_22 : decode cX5_takes 22 = .ok (.aload_n 0, 1) := by decide +kernel
theorem dX5_takes_23 : decode cX5_takes 23 = .ok (.getfield 7, 3) := by decide +kernel
theorem dX5_takes_26 : decode cX5_takes 26 = .ok (.bipush 37, 2) := by decide +kernel
theorem dX5_takes_28 : decode cX5_takes 28 = .ok (.iload_n 1, 1) := by decide +kernel
theorem dX5_takes_29 : decode cX5_takes 29 = .ok (.iadd, 1) := by decide +kernel
theorem dX5_takes_30 : decode cX5_takes 30 = .ok (.iaload, 1) := by decide +kernel
theorem dX5_takes_31 : decode cX5_takes 31 = .ok (.isub, 1) := by decide +kernel
theorem dX5_takes_32 : decode cX5_takes 32 = .ok (.aload_n 0, 1) := by decide +kernel
theorem dX5_takes_33 : decode cX5_takes 33 = .ok (.getfield 7, 3) := by decide +kernel
theorem dX5_takes_36 : decode cX5_takes 36 = .ok (.iconst 4, 1) := by decide +kernel
theorem dX5_takes_37 : decode cX5_takes 37 = .ok (.iaload, 1) := by decide +kernel
theorem dX5_takes_38 : decode cX5_takes 38 = .ok (.aload_n 0, 1) := by decide +kernel
theorem dX5_takes_39 : decode cX5_takes 39 = .ok (.getfield 7, 3) := by decide +kernel
theorem dX5_takes_42 : decode cX5_takes 42 = .ok (.bipush 37, 2) := by decide +kernel
theorem dX5_takes_44 : decode cX5_takes 44 = .ok (.iload_n 1, 1) := by decide +kernel
theorem dX5_takes_45 : decode cX5_takes 45 = .ok (.iadd, 1) := by decide +kernel
theorem dX5_takes_46 : decode cX5_takes 46 = .ok (.iaload, 1) := by decide +kernel
theorem dX5_takes_47 : decode cX5_takes 47 = .ok (.isub, 1) := by decide +kernel
theorem dX5_takes_48 : decode cX5_takes 48 = .ok (.invokestatic 36, 3) := by decide +kernel
theorem dX5_takes_51 : decode cX5_takes 51 = .ok (.istore 4, 2) := by decide +kernel
theorem dX5_takes_53 : decode cX5_takes 53 = .ok (.aload_n 0, 1) := by decide +kernel
theorem dX5_takes_54 : decode cX5_takes 54 = .ok (.getfield 7, 3) := by decide +kernel
theorem dX5_takes_57 : decode cX5_takes 57 = .ok (.iload_n 3, 1) := by decide +kernel
theorem dX5_takes_58 : decode cX5_takes 58 = .ok (.dup2, 1) := by decide +kernel
theorem dX5_takes_59 : decode cX5_takes 59 = .ok (.iaload, 1) := by decide +kernel
theorem dX5_takes_60 : decode cX5_takes 60 = .ok (.iload 4, 2) := by decide +kernel
theorem dX5_takes_62 : decode cX5_takes 62 = .ok (.isub, 1) := by decide +kernel
theorem dX5_takes_63 : decode cX5_takes 63 = .ok (.iastore, 1) := by decide +kernel
theorem dX5_takes_64 : decode cX5_takes 64 = .ok (.aload_n 0, 1) := by decide +kernel
theorem dX5_takes_65 : decode cX5_takes 65 = .ok (.getfield 7, 3) := by decide +kernel
theorem dX5_takes_68 : decode cX5_takes 68 = .ok (.bipush 37, 2) := by decide +kernel
theorem dX5_takes_70 : decode cX5_takes 70 = .ok (.iload_n 1, 1) := by decide +kernel
theorem dX5_takes_71 : decode cX5_takes 71 = .ok (.iadd, 1) := by decide +kernel
theorem dX5_takes_72 : decode cX5_takes 72 = .ok (.dup2, 1) := by decide +kernel
theorem dX5_takes_73 : decode cX5_takes 73 = .ok (.iaload, 1) := by decide +kernel
theorem dX5_takes_74 : decode cX5_takes 74 = .ok (.iload 4, 2) := by decide +kernel
theorem dX5_takes_76 : decode cX5_takes 76 = .ok (.iadd, 1) := by decide +kernel
theorem dX5_takes_77 : decode cX5_takes 77 = .ok (.iastore, 1) := by decide +kernel
theorem dX5_takes_78 : decode cX5_takes 78 = .ok (.aload_n 0, 1) := by decide +kernel
theorem dX5_takes_79 : decode cX5_takes 79 = .ok (.getfield 7, 3) := by decide +kernel
theorem dX5_takes_82 : decode cX5_takes 82 = .ok (.bipush 39, 2) := by decide +kernel
theorem dX5_takes_84 : decode cX5_takes 84 = .ok (.iload_n 1, 1) := by decide +kernel
theorem dX5_takes_85 : decode cX5_takes 85 = .ok (.iadd, 1) := by decide +kernel
theorem dX5_takes_86 : decode cX5_takes 86 = .ok (.dup2, 1) := by decide +kernel
theorem dX5_takes_87 : decode cX5_takes 87 = .ok (.iaload, 1) := by decide +kernel
theorem dX5_takes_88 : decode cX5_takes 88 = .ok (.iload 4, 2) := by decide +kernel
theorem dX5_takes_90 : decode cX5_takes 90 = .ok (.iadd, 1) := by decide +kernel
theorem dX5_takes_91 : decode cX5_takes 91 = .ok (.iastore, 1) := by decide +kernel
theorem dX5_takes_92 : decode cX5_takes 92 = .ok (.return_, 1) := by decide +kernel
theorem dX5_leaks_0 : decode cX5_leaks 0 = .ok (.bipush 13, 2) := by decide +kernel
theorem dX5_leaks_2 : decode cX5_leaks 2 = .ok (.istore_n 1, 1) := by decide +kernel
theorem dX5_leaks_3 : decode cX5_leaks 3 = .ok (.iload_n 1, 1) := by decide +kernel
theorem dX5_leaks_4 : decode cX5_leaks 4 = .ok (.bipush 37, 2) := by decide +kernel
theorem dX5_leaks_6 : decode cX5_leaks 6 = .ok (.if_icmp .ge 47, 3) := by decide +kernel
theorem dX5_leaks_9 : decode cX5_leaks 9 = .ok (.aload_n 0, 1) := by decide +kernel
theorem dX5_leaks_10 : decode cX5_leaks 10 = .ok (.getfield 7, 3) := by decide +kernel
theorem dX5_leaks_13 : decode cX5_leaks 13 = .ok (.iload_n 1, 1) := by decide +kernel
theorem dX5_leaks_14 : decode cX5_leaks 14 = .ok (.iaload, 1) := by decide +kernel
theorem dX5_leaks_15 : decode cX5_leaks 15 = .ok (.aload_n 0, 1) := by decide +kernel
theorem dX5_leaks_16 : decode cX5_leaks 16 = .ok (.getfield 7, 3) := by decide +kernel
theorem dX5_leaks_19 : decode cX5_leaks 19 = .ok (.iconst 1, 1) := by decide +kernel
theorem dX5_leaks_20 : decode cX5_leaks 20 = .ok (.iaload, 1) := by decide +kernel
theorem dX5_leaks_21 : decode cX5_leaks 21 = .ok (.imul, 1) := by decide +kernel
theorem dX5_leaks_22 : decode cX5_leaks 22 = .ok (.bipush 100, 2) := by decide +kernel
theorem dX5_leaks_24 : decode cX5_leaks 24 = .ok (.idiv, 1) := by decide +kernel
theorem dX5_leaks_25 : decode cX5_leaks 25 = .ok (.istore_n 2, 1) := by decide +kernel
theorem dX5_leaks_26 : decode cX5_leaks 26 = .ok (.aload_n 0, 1) := by decide +kernel
theorem dX5_leaks_27 : decode cX5_leaks 27 = .ok (.getfield 7, 3) := by decide +kernel
theorem dX5_leaks_30 : decode cX5_leaks 30 = .ok (.iload_n 1, 1) := by decide +kernel
theorem dX5_leaks_31 : decode cX5_leaks 31 = .ok (.dup2, 1) := by decide +kernel
theorem dX5_leaks_32 : decode cX5_leaks 32 = .ok (.iaload, 1) := by decide +kernel
theorem dX5_leaks_33 : decode cX5_leaks 33 = .ok (.iload_n 2, 1) := by decide +kernel
theorem dX5_leaks_34 : decode cX5_leaks 34 = .ok (.isub, 1) := by decide +kernel
theorem dX5_leaks_35 : decode cX5_leaks 35 = .ok (.iastore, 1) := by decide +kernel
theorem dX5_leaks_36 : decode cX5_leaks 36 = .ok (.aload_n 0, 1) := by decide +kernel
theorem dX5_leaks_37 : decode cX5_leaks 37 = .ok (.getfield 7, 3) := by decide +kernel
theorem dX5_leaks_40 : decode cX5_leaks 40 = .ok (.bipush 9, 2) := by decide +kernel
theorem dX5_leaks_42 : decode cX5_leaks 42 = .ok (.dup2, 1) := by decide +kernel
theorem dX5_leaks_43 : decode cX5_leaks 43 = .ok (.iaload, 1) := by decide +kernel
theorem dX5_leaks_44 : decode cX5_leaks 44 = .ok (.iload_n 2, 1) := by decide +kernel
theorem dX5_leaks_45 : decode cX5_leaks 45 = .ok (.iadd, 1) := by decide +kernel
theorem dX5_leaks_46 : decode cX5_leaks 46 = .ok (.iastore, 1) := by decide +kernel
theorem dX5_leaks_47 : decode cX5_leaks 47 = .ok (.iinc 1 1, 3) := by decide +kernel
theorem dX5_leaks_50 : decode cX5_leaks 50 = .ok (.goto (-47), 3) := by decide +kernel
theorem dX5_leaks_53 : decode cX5_leaks 53 = .ok (.iconst 0, 1) := by decide +kernel
theorem dX5_leaks_54 : decode cX5_leaks 54 = .ok (.istore_n 1, 1) := by decide +kernel
theorem dX5_leaks_55 : decode cX5_leaks 55 = .ok (.iload_n 1, 1) := by decide +kernel
theorem dX5_leaks_56 : decode cX5_leaks 56 = .ok (.iconst 2, 1) := by decide +kernel
theorem dX5_leaks_57 : decode cX5_leaks 57 = .ok (.if_icmp .ge 67, 3) := by decide +kernel
theorem dX5_leaks_60 : decode cX5_leaks 60 = .ok (.aload_n 0, 1) := by decide +kernel
theorem dX5_leaks_61 : decode cX5_leaks 61 = .ok (.getfield 7, 3) := by decide +kernel
theorem dX5_leaks_64 : decode cX5_leaks 64 = .ok (.bipush 37, 2) := by decide +kernel
theorem dX5_leaks_66 : decode cX5_leaks 66 = .ok (.iload_n 1, 1) := by decide +kernel
theorem dX5_leaks_67 : decode cX5_leaks 67 = .ok (.iadd, 1) := by decide +kernel
theorem dX5_leaks_68 : decode cX5_leaks 68 = .ok (.iaload, 1) := by decide +kernel
theorem dX5_leaks_69 : decode cX5_leaks 69 = .ok (.aload_n 0, 1) := by decide +kernel
theorem dX5_leaks_70 : decode cX5_leaks 70 = .ok (.getfield 7, 3) := by decide +kernel
theorem dX5_leaks_73 : decode cX5_leaks 73 = .ok (.iconst 1, 1) := by decide +kernel
theorem dX5_leaks_74 : decode cX5_leaks 74 = .ok (.iaload, 1) := by decide +kernel
theorem dX5_leaks_75 : decode cX5_leaks 75 = .ok (.imul, 1) := by decide +kernel
theorem dX5_leaks_76 : decode cX5_leaks 76 = .ok (.sipush 200, 3) := by decide +kernel
theorem dX5_leaks_79 : decode cX5_leaks 79 = .ok (.idiv, 1) := by decide +kernel
theorem dX5_leaks_80 : decode cX5_leaks 80 = .ok (.istore_n 2, 1) := by decide +kernel
theorem dX5_leaks_81 : decode cX5_leaks 81 = .ok (.aload_n 0, 1) := by decide +kernel
theorem dX5_leaks_82 : decode cX5_leaks 82 = .ok (.getfield 7, 3) := by decide +kernel
theorem dX5_leaks_85 : decode cX5_leaks 85 = .ok (.bipush 37, 2) := by decide +kernel
theorem dX5_leaks_87 : decode cX5_leaks 87 = .ok (.iload_n 1, 1) := by decide +kernel
theorem dX5_leaks_88 : decode cX5_leaks 88 = .ok (.iadd, 1) := by decide +kernel
theorem dX5_leaks_89 : decode cX5_leaks 89 = .ok (.dup2, 1) := by decide +kernel
theorem dX5_leaks_90 : decode cX5_leaks 90 = .ok (.iaload, 1) := by decide +kernel
theorem dX5_leaks_91 : decode cX5_leaks 91 = .ok (.iload_n 2, 1) := by decide +kernel
theorem dX5_leaks_92 : decode cX5_leaks 92 = .ok (.isub, 1) := by decide +kernel
theorem dX5_leaks_93 : decode cX5_leaks 93 = .ok (.iastore, 1) := by decide +kernel
theorem dX5_leaks_94 : decode cX5_leaks 94 = .ok (.aload_n 0, 1) := by decide +kernel
theorem dX5_leaks_95 : decode cX5_leaks 95 = .ok (.getfield 7, 3) := by decide +kernel
theorem dX5_leaks_98 : decode cX5_leaks 98 = .ok (.bipush 41, 2) := by decide +kernel
theorem dX5_leaks_100 : decode cX5_leaks 100 = .ok (.iload_n 1, 1) := by decide +kernel
theorem dX5_leaks_101 : decode cX5_leaks 101 = .ok (.iadd, 1) := by decide +kernel
theorem dX5_leaks_102 : decode cX5_leaks 102 = .ok (.dup2, 1) := by decide +kernel
theorem dX5_leaks_103 : decode cX5_leaks 103 = .ok (.iaload, 1) := by decide +kernel
theorem dX5_leaks_104 : decode cX5_leaks 104 = .ok (.iload_n 2, 1) := by decide +kernel
theorem dX5_leaks_105 : decode cX5_leaks 105 = .ok (.iadd, 1) := by decide +kernel
theorem dX5_leaks_106 : decode cX5_leaks 106 = .ok (.iastore, 1) := by decide +kernel
theorem dX5_leaks_107 : decode cX5_leaks 107 = .ok (.aload_n 0, 1) := by decide +kernel
theorem dX5_leaks_108 : decode cX5_leaks 108 = .ok (.getfield 7, 3) := by decide +kernel
theorem dX5_leaks_111 : decode cX5_leaks 111 = .ok (.bipush 9, 2) := by decide +kernel
theorem dX5_leaks_113 : decode cX5_leaks 113 = .ok (.dup2, 1) := by decide +kernel
theorem dX5_leaks_114 : decode cX5_leaks 114 = .ok (.iaload, 1) := by decide +kernel
theorem dX5_leaks_115 : decode cX5_leaks 115 = .ok (.iload_n 2, 1) := by decide +kernel
theorem dX5_leaks_116 : decode cX5_leaks 116 = .ok (.iadd, 1) := by decide +kernel
theorem dX5_leaks_117 : decode cX5_leaks 117 = .ok (.iastore, 1) := by decide +kernel
theorem dX5_leaks_118 : decode cX5_leaks 118 = .ok (.iinc 1 1, 3) := by decide +kernel
theorem dX5_leaks_121 : decode cX5_leaks 121 = .ok (.goto (-66), 3) := by decide +kernel
theorem dX5_leaks_124 : decode cX5_leaks 124 = .ok (.return_, 1) := by decide +kernel
theorem dX5_difference_0 : decode cX5_difference 0 = .ok (.aload_n 0, 1) := by decide +kernel
theorem dX5_difference_1 : decode cX5_difference 1 = .ok (.getfield 7, 3) := by decide +kernel
theorem dX5_difference_4 : decode cX5_difference 4 = .ok (.bipush 37, 2) := by decide +kernel
theorem dX5_difference_6 : decode cX5_difference 6 = .ok (.iaload, 1) := by decide +kernel
theorem dX5_difference_7 : decode cX5_difference 7 = .ok (.aload_n 0, 1) := by decide +kernel
theorem dX5_difference_8 : decode cX5_difference 8 = .ok (.getfield 7, 3) := by decide +kernel
theorem dX5_difference_11 : decode cX5_difference 11 = .ok (.bipush 38, 2) := by decide +kernel
theorem dX5_difference_13 : decode cX5_difference 13 = .ok (.iaload, 1) := by decide +kernel
theorem dX5_difference_14 : decode cX5_difference 14 = .ok (.isub, 1) := by decide +kernel
theorem dX5_difference_15 : decode cX5_difference 15 = .ok (.istore_n 1, 1) := by decide +kernel
theorem dX5_difference_16 : decode cX5_difference 16 = .ok (.iload_n 1, 1) := by decide +kernel
theorem dX5_difference_17 : decode cX5_difference 17 = .ok (.ifCond .ge 8, 3) := by decide +kernel
theorem dX5_difference_20 : decode cX5_difference 20 = .ok (.iload_n 1, 1) := by decide +kernel
theorem dX5_difference_21 : decode cX5_difference 21 = .ok (.ineg, 1) := by decide +kernel
theorem dX5_difference_22 : decode cX5_difference 22 = .ok (.goto 4, 3) := by decide +kernel
theorem dX5_difference_25 : decode cX5_difference 25 = .ok (.iload_n 1, 1) := by decide +kernel
theorem dX5_difference_26 : decode cX5_difference 26 = .ok (.ireturn, 1) := by decide +kernel
theorem dX5_logs_0 : decode cX5_logs 0 = .ok (.aload_n 0, 1) := by decide +kernel
theorem dX5_logs_1 : decode cX5_logs 1 = .ok (.getfield 7, 3) := by decide +kernel
theorem dX5_logs_4 : decode cX5_logs 4 = .ok (.bipush 12, 2) := by decide +kernel
theorem dX5_logs_6 : decode cX5_logs 6 = .ok (.iaload, 1) := by decide +kernel
theorem dX5_logs_7 : decode cX5_logs 7 = .ok (.bipush 8, 2) := by decide +kernel
theorem dX5_logs_9 : decode cX5_logs 9 = .ok (.if_icmp .ne 48, 3) := by decide +kernel
theorem dX5_logs_12 : decode cX5_logs 12 = .ok (.iconst 0, 1) := by decide +kernel
theorem dX5_logs_13 : decode cX5_logs 13 = .ok (.istore_n 1, 1) := by decide +kernel
theorem dX5_logs_14 : decode cX5_logs 14 = .ok (.iload_n 1, 1) := by decide +kernel
theorem dX5_logs_15 : decode cX5_logs 15 = .ok (.bipush 21, 2) := by decide +kernel
theorem dX5_logs_17 : decode cX5_logs 17 = .ok (.if_icmp .ge 29, 3) := by decide +kernel
theorem dX5_logs_20 : decode cX5_logs 20 = .ok (.aload_n 0, 1) := by decide +kernel
theorem dX5_logs_21 : decode cX5_logs 21 = .ok (.getfield 7, 3) := by decide +kernel
theorem dX5_logs_24 : decode cX5_logs 24 = .ok (.bipush 43, 2) := by decide +kernel
theorem dX5_logs_26 : decode cX5_logs 26 = .ok (.iload_n 1, 1) := by decide +kernel
theorem dX5_logs_27 : decode cX5_logs 27 = .ok (.iadd, 1) := by decide +kernel
theorem dX5_logs_28 : decode cX5_logs 28 = .ok (.aload_n 0, 1) := by decide +kernel
theorem dX5_logs_29 : decode cX5_logs 29 = .ok (.getfield 7, 3) := by decide +kernel
theorem dX5_logs_32 : decode cX5_logs 32 = .ok (.bipush 43, 2) := by decide +kernel
theorem dX5_logs_34 : decode cX5_logs 34 = .ok (.iload_n 1, 1) := by decide +kernel
theorem dX5_logs_35 : decode cX5_logs 35 = .ok (.iadd, 1) := by decide +kernel
theorem dX5_logs_36 : decode cX5_logs 36 = .ok (.iconst 3, 1) := by decide +kernel
theorem dX5_logs_37 : decode cX5_logs 37 = .ok (.iadd, 1) := by decide +kernel
theorem dX5_logs_38 : decode cX5_logs 38 = .ok (.iaload, 1) := by decide +kernel
theorem dX5_logs_39 : decode cX5_logs 39 = .ok (.iastore, 1) := by decide +kernel
theorem dX5_logs_40 : decode cX5_logs 40 = .ok (.iinc 1 1, 3) := by decide +kernel
theorem dX5_logs_43 : decode cX5_logs 43 = .ok (.goto (-29), 3) := by decide +kernel
theorem dX5_logs_46 : decode cX5_logs 46 = .ok (.aload_n 0, 1) := by decide +kernel
theorem dX5_logs_47 : decode cX5_logs 47 = .ok (.getfield 7, 3) := by decide +kernel
theorem dX5_logs_50 : decode cX5_logs 50 = .ok (.bipush 12, 2) := by decide +kernel
theorem dX5_logs_52 : decode cX5_logs 52 = .ok (.dup2, 1) := by decide +kernel
theorem dX5_logs_53 : decode cX5_logs 53 = .ok (.iaload, 1) := by decide +kernel
theorem dX5_logs_54 : decode cX5_logs 54 = .ok (.iconst 1, 1) := by decide +kernel
theorem dX5_logs_55 : decode cX5_logs 55 = .ok (.isub, 1) := by decide +kernel
theorem dX5_logs_56 : decode cX5_logs 56 = .ok (.iastore, 1) := by decide +kernel
theorem dX5_logs_57 : decode cX5_logs 57 = .ok (.bipush 43, 2) := by decide +kernel
theorem dX5_logs_59 : decode cX5_logs 59 = .ok (.iconst 3, 1) := by decide +kernel
theorem dX5_logs_60 : decode cX5_logs 60 = .ok (.aload_n 0, 1) := by decide +kernel
theorem dX5_logs_61 : decode cX5_logs 61 = .ok (.getfield 7, 3) := by decide +kernel
theorem dX5_logs_64 : decode cX5_logs 64 = .ok (.bipush 12, 2) := by decide +kernel
theorem dX5_logs_66 : decode cX5_logs 66 = .ok (.iaload, 1) := by decide +kernel
theorem dX5_logs_67 : decode cX5_logs 67 = .ok (.imul, 1) := by decide +kernel
theorem dX5_logs_68 : decode cX5_logs 68 = .ok (.iadd, 1) := by decide +kernel
theorem dX5_logs_69 : decode cX5_logs 69 = .ok (.istore_n 1, 1) := by decide +kernel
theorem dX5_logs_70 : decode cX5_logs 70 = .ok (.aload_n 0, 1) := by decide +kernel
theorem dX5_logs_71 : decode cX5_logs 71 = .ok (.getfield 7, 3) := by decide +kernel
theorem dX5_logs_74 : decode cX5_logs 74 = .ok (.iload_n 1, 1) := by decide +kernel
theorem dX5_logs_75 : decode cX5_logs 75 = .ok (.aload_n 0, 1) := by decide +kernel
theorem dX5_logs_76 : decode cX5_logs 76 = .ok (.getfield 7, 3) := by decide +kernel
theorem dX5_logs_79 : decode cX5_logs 79 = .ok (.iconst 5, 1) := by decide +kernel
theorem dX5_logs_80 : decode cX5_logs 80 = .ok (.iaload, 1) := by decide +kernel
theorem dX5_logs_81 : decode cX5_logs 81 = .ok (.iastore, 1) := by decide +kernel
theorem dX5_logs_82 : decode cX5_logs 82 = .ok (.aload_n 0, 1) := by decide +kernel
theorem dX5_logs_83 : decode cX5_logs 83 = .ok (.getfield 7, 3) := by decide +kernel
theorem dX5_logs_86 : decode cX5_logs 86 = .ok (.iload_n 1, 1) := by decide +kernel
theorem dX5_logs_87 : decode cX5_logs 87 = .ok (.iconst 1, 1) := by decide +kernel
theorem dX5_logs_88 : decode cX5_logs 88 = .ok (.iadd, 1) := by decide +kernel
theorem dX5_logs_89 : decode cX5_logs 89 = .ok (.aload_n 0, 1) := by decide +kernel
theorem dX5_logs_90 : decode cX5_logs 90 = .ok (.getfield 7, 3) := by decide +kernel
theorem dX5_logs_93 : decode cX5_logs 93 = .ok (.bipush 37, 2) := by decide +kernel
theorem dX5_logs_95 : decode cX5_logs 95 = .ok (.iaload, 1) := by decide +kernel
theorem dX5_logs_96 : decode cX5_logs 96 = .ok (.iastore, 1) := by decide +kernel
theorem dX5_logs_97 : decode cX5_logs 97 = .ok (.aload_n 0, 1) := by decide +kernel
theorem dX5_logs_98 : decode cX5_logs 98 = .ok (.getfield 7, 3) := by decide +kernel
theorem dX5_logs_101 : decode cX5_logs 101 = .ok (.iload_n 1, 1) := by decide +kernel
theorem dX5_logs_102 : decode cX5_logs 102 = .ok (.iconst 2, 1) := by decide +kernel
theorem dX5_logs_103 : decode cX5_logs 103 = .ok (.iadd, 1) := by decide +kernel
theorem dX5_logs_104 : decode cX5_logs 104 = .ok (.aload_n 0, 1) := by decide +kernel
theorem dX5_logs_105 : decode cX5_logs 105 = .ok (.getfield 7, 3) := by decide +kernel
theorem dX5_logs_108 : decode cX5_logs 108 = .ok (.bipush 38, 2) := by decide +kernel
theorem dX5_logs_110 : decode cX5_logs 110 = .ok (.iaload, 1) := by decide +kernel
theorem dX5_logs_111 : decode cX5_logs 111 = .ok (.iastore, 1) := by decide +kernel
theorem dX5_logs_112 : decode cX5_logs 112 = .ok (.aload_n 0, 1) := by decide +kernel
theorem dX5_logs_113 : decode cX5_logs 113 = .ok (.getfield 7, 3) := by decide +kernel
theorem dX5_logs_116 : decode cX5_logs 116 = .ok (.bipush 12, 2) := by decide +kernel
theorem dX5_logs_118 : decode cX5_logs 118 = .ok (.dup2, 1) := by decide +kernel
theorem dX5_logs_119 : decode cX5_logs 119 = .ok (.iaload, 1) := by decide +kernel
theorem dX5_logs_120 : decode cX5_logs 120 = .ok (.iconst 1, 1) := by decide +kernel
theorem dX5_logs_121 : decode cX5_logs 121 = .ok (.iadd, 1) := by decide +kernel
theorem dX5_logs_122 : decode cX5_logs 122 = .ok (.iastore, 1) := by decide +kernel
theorem dX5_logs_123 : decode cX5_logs 123 = .ok (.return_, 1) := by decide +kernel
theorem dX5_sparks_0 : decode cX5_sparks 0 = .ok (.aload_n 0, 1) := by decide +kernel
theorem dX5_sparks_1 : decode cX5_sparks 1 = .ok (.invokevirtual 40, 3) := by decide +kernel
theorem dX5_sparks_4 : decode cX5_sparks 4 = .ok (.bipush 10, 2) := by decide +kernel
theorem dX5_sparks_6 : decode cX5_sparks 6 = .ok (.aload_n 0, 1) := by decide +kernel
theorem dX5_sparks_7 : decode cX5_sparks 7 = .ok (.getfield 7, 3) := by decide +kernel
theorem dX5_sparks_10 : decode cX5_sparks 10 = .ok (.iconst 2, 1) := by decide +kernel
theorem dX5_sparks_11 : decode cX5_sparks 11 = .ok (.iaload, 1) := by decide +kernel
theorem dX5_sparks_12 : decode cX5_sparks 12 = .ok (.imul, 1) := by decide +kernel
theorem dX5_sparks_13 : decode cX5_sparks 13 = .ok (.if_icmp .ge 4, 3) := by decide +kernel
theorem dX5_sparks_16 : decode cX5_sparks 16 = .ok (.return_, 1) := by decide +kernel
theorem dX5_sparks_17 : decode cX5_sparks 17 = .ok (.aload_n 0, 1) := by decide +kernel
theorem dX5_sparks_18 : decode cX5_sparks 18 = .ok (.invokevirtual 44, 3) := by decide +kernel
theorem dX5_sparks_21 : decode cX5_sparks 21 = .ok (.aload_n 0, 1) := by decide +kernel
theorem dX5_sparks_22 : decode cX5_sparks 22 = .ok (.getfield 7, 3) := by decide +kernel
theorem dX5_sparks_25 : decode cX5_sparks 25 = .ok (.bipush 6, 2) := by decide +kernel
theorem dX5_sparks_27 : decode cX5_sparks 27 = .ok (.dup2, 1) := by decide +kernel
theorem dX5_sparks_28 : decode cX5_sparks 28 = .ok (.iaload, 1) := by decide +kernel
theorem dX5_sparks_29 : decode cX5_sparks 29 = .ok (.iconst 1, 1) := by decide +kernel
theorem dX5_sparks_30 : decode cX5_sparks 30 = .ok (.iadd, 1) := by decide +kernel
theorem dX5_sparks_31 : decode cX5_sparks 31 = .ok (.iastore, 1) := by decide +kernel
theorem dX5_sparks_32 : decode cX5_sparks 32 = .ok (.aload_n 0, 1) := by decide +kernel
theorem dX5_sparks_33 : decode cX5_sparks 33 = .ok (.getfield 7, 3) := by decide +kernel
theorem dX5_sparks_36 : decode cX5_sparks 36 = .ok (.bipush 37, 2) := by decide +kernel
theorem dX5_sparks_38 : decode cX5_sparks 38 = .ok (.iaload, 1) := by decide +kernel
theorem dX5_sparks_39 : decode cX5_sparks 39 = .ok (.aload_n 0, 1) := by decide +kernel
theorem dX5_sparks_40 : decode cX5_sparks 40 = .ok (.getfield 7, 3) := by decide +kernel
theorem dX5_sparks_43 : decode cX5_sparks 43 = .ok (.bipush 38, 2) := by decide +kernel
theorem dX5_sparks_45 : decode cX5_sparks 45 = .ok (.iaload, 1) := by decide +kernel
theorem dX5_sparks_46 : decode cX5_sparks 46 = .ok (.iadd, 1) := by decide +kernel
theorem dX5_sparks_47 : decode cX5_sparks 47 = .ok (.istore_n 1, 1) := by decide +kernel
theorem dX5_sparks_48 : decode cX5_sparks 48 = .ok (.iload_n 1, 1) := by decide +kernel
theorem dX5_sparks_49 : decode cX5_sparks 49 = .ok (.iconst 2, 1) := by decide +kernel
theorem dX5_sparks_50 : decode cX5_sparks 50 = .ok (.idiv, 1) := by decide +kernel
theorem dX5_sparks_51 : decode cX5_sparks 51 = .ok (.istore_n 2, 1) := by decide +kernel
theorem dX5_sparks_52 : decode cX5_sparks 52 = .ok (.aload_n 0, 1) := by decide +kernel
theorem dX5_sparks_53 : decode cX5_sparks 53 = .ok (.getfield 7, 3) := by decide +kernel
theorem dX5_sparks_56 : decode cX5_sparks 56 = .ok (.bipush 37, 2) := by decide +kernel
theorem dX5_sparks_58 : decode cX5_sparks 58 = .ok (.iload_n 2, 1) := by decide +kernel
theorem dX5_sparks_59 : decode cX5_sparks 59 = .ok (.aload_n 0, 1) := by decide +kernel
theorem dX5_sparks_60 : decode cX5_sparks 60 = .ok (.getfield 7, 3) := by decide +kernel
theorem dX5_sparks_63 : decode cX5_sparks 63 = .ok (.bipush 37, 2) := by decide +kernel
theorem dX5_sparks_65 : decode cX5_sparks 65 = .ok (.iaload, 1) := by decide +kernel
theorem dX5_sparks_66 : decode cX5_sparks 66 = .ok (.iload_n 2, 1) := by decide +kernel
theorem dX5_sparks_67 : decode cX5_sparks 67 = .ok (.isub, 1) := by decide +kernel
theorem dX5_sparks_68 : decode cX5_sparks 68 = .ok (.aload_n 0, 1) := by decide +kernel
theorem dX5_sparks_69 : decode cX5_sparks 69 = .ok (.getfield 7, 3) := by decide +kernel
theorem dX5_sparks_72 : decode cX5_sparks 72 = .ok (.iconst 3, 1) := by decide +kernel
theorem dX5_sparks_73 : decode cX5_sparks 73 = .ok (.iaload, 1) := by decide +kernel
theorem dX5_sparks_74 : decode cX5_sparks 74 = .ok (.imul, 1) := by decide +kernel
theorem dX5_sparks_75 : decode cX5_sparks 75 = .ok (.bipush 100, 2) := by decide +kernel
theorem dX5_sparks_77 : decode cX5_sparks 77 = .ok (.idiv, 1) := by decide +kernel
theorem dX5_sparks_78 : decode cX5_sparks 78 = .ok (.isub, 1) := by decide +kernel
theorem dX5_sparks_79 : decode cX5_sparks 79 = .ok (.iastore, 1) := by decide +kernel
theorem dX5_sparks_80 : decode cX5_sparks 80 = .ok (.aload_n 0, 1) := by decide +kernel
theorem dX5_sparks_81 : decode cX5_sparks 81 = .ok (.getfield 7, 3) := by decide +kernel
theorem dX5_sparks_84 : decode cX5_sparks 84 = .ok (.bipush 38, 2) := by decide +kernel
theorem dX5_sparks_86 : decode cX5_sparks 86 = .ok (.iload_n 1, 1) := by decide +kernel
theorem dX5_sparks_87 : decode cX5_sparks 87 = .ok (.aload_n 0, 1) := by decide +kernel
theorem dX5_sparks_88 : decode cX5_sparks 88 = .ok (.getfield 7, 3) := by decide +kernel
theorem dX5_sparks_91 : decode cX5_sparks 91 = .ok (.bipush 37, 2) := by decide +kernel
theorem dX5_sparks_93 : decode cX5_sparks 93 = .ok (.iaload, 1) := by decide +kernel
theorem dX5_sparks_94 : decode cX5_sparks 94 = .ok (.isub, 1) := by decide +kernel
theorem dX5_sparks_95 : decode cX5_sparks 95 = .ok (.iastore, 1) := by decide +kernel
theorem dX5_sparks_96 : decode cX5_sparks 96 = .ok (.return_, 1) := by decide +kernel
theorem dX5_sign_0 : decode cX5_sign 0 = .ok (.aload_n 0, 1) := by decide +kernel
theorem dX5_sign_1 : decode cX5_sign 1 = .ok (.getfield 7, 3) := by decide +kernel
theorem dX5_sign_4 : decode cX5_sign 4 = .ok (.bipush 37, 2) := by decide +kernel
theorem dX5_sign_6 : decode cX5_sign 6 = .ok (.iaload, 1) := by decide +kernel
theorem dX5_sign_7 : decode cX5_sign 7 = .ok (.aload_n 0, 1) := by decide +kernel
theorem dX5_sign_8 : decode cX5_sign 8 = .ok (.getfield 7, 3) := by decide +kernel
theorem dX5_sign_11 : decode cX5_sign 11 = .ok (.bipush 38, 2) := by decide +kernel
theorem dX5_sign_13 : decode cX5_sign 13 = .ok (.iaload, 1) := by decide +kernel
theorem dX5_sign_14 : decode cX5_sign 14 = .ok (.if_icmp .le 7, 3) := by decide +kernel
theorem dX5_sign_17 : decode cX5_sign 17 = .ok (.iconst 1, 1) := by decide +kernel
theorem dX5_sign_18 : decode cX5_sign 18 = .ok (.goto 25, 3) := by decide +kernel
theorem dX5_sign_21 : decode cX5_sign 21 = .ok (.aload_n 0, 1) := by decide +kernel
theorem dX5_sign_22 : decode cX5_sign 22 = .ok (.getfield 7, 3) := by decide +kernel
theorem dX5_sign_25 : decode cX5_sign 25 = .ok (.bipush 37, 2) := by decide +kernel
theorem dX5_sign_27 : decode cX5_sign 27 = .ok (.iaload, 1) := by decide +kernel
theorem dX5_sign_28 : decode cX5_sign 28 = .ok (.aload_n 0, 1) := by decide +kernel
theorem dX5_sign_29 : decode cX5_sign 29 = .ok (.getfield 7, 3) := by decide +kernel
theorem dX5_sign_32 : decode cX5_sign 32 = .ok (.bipush 38, 2) := by decide +kernel
theorem dX5_sign_34 : decode cX5_sign 34 = .ok (.iaload, 1) := by decide +kernel
theorem dX5_sign_35 : decode cX5_sign 35 = .ok (.if_icmp .ge 7, 3) := by decide +kernel
theorem dX5_sign_38 : decode cX5_sign 38 = .ok (.iconst (-1), 1) := by decide +kernel
theorem dX5_sign_39 : decode cX5_sign 39 = .ok (.goto 4, 3) := by decide +kernel
theorem dX5_sign_42 : decode cX5_sign 42 = .ok (.iconst 0, 1) := by decide +kernel
theorem dX5_sign_43 : decode cX5_sign 43 = .ok (.ireturn, 1) := by decide +kernel
theorem dX5_charges_0 : decode cX5_charges 0 = .ok (.aload_n 0, 1) := by decide +kernel
theorem dX5_charges_1 : decode cX5_charges 1 = .ok (.getfield 7, 3) := by decide +kernel
theorem dX5_charges_4 : decode cX5_charges 4 = .ok (.iconst 5, 1) := by decide +kernel
theorem dX5_charges_5 : decode cX5_charges 5 = .ok (.dup2, 1) := by decide +kernel
theorem dX5_charges_6 : decode cX5_charges 6 = .ok (.iaload, 1) := by decide +kernel
theorem dX5_charges_7 : decode cX5_charges 7 = .ok (.iconst 1, 1) := by decide +kernel
theorem dX5_charges_8 : decode cX5_charges 8 = .ok (.iadd, 1) := by decide +kernel
theorem dX5_charges_9 : decode cX5_charges 9 = .ok (.iastore, 1) := by decide +kernel
theorem dX5_charges_10 : decode cX5_charges 10 = .ok (.aload_n 0, 1) := by decide +kernel
theorem dX5_charges_11 : decode cX5_charges 11 = .ok (.invokevirtual 47, 3) := by decide +kernel
theorem dX5_charges_14 : decode cX5_charges 14 = .ok (.aload_n 0, 1) := by decide +kernel
theorem dX5_charges_15 : decode cX5_charges 15 = .ok (.iconst 0, 1) := by decide +kernel
theorem dX5_charges_16 : decode cX5_charges 16 = .ok (.iconst 2, 1) := by decide +kernel
theorem dX5_charges_17 : decode cX5_charges 17 = .ok (.bipush 8, 2) := by decide +kernel
theorem dX5_charges_19 : decode cX5_charges 19 = .ok (.invokevirtual 50, 3) := by decide +kernel
theorem dX5_charges_22 : decode cX5_charges 22 = .ok (.aload_n 0, 1) := by decide +kernel
theorem dX5_charges_23 : decode cX5_charges 23 = .ok (.iconst 1, 1) := by decide +kernel
theorem dX5_charges_24 : decode cX5_charges 24 = .ok (.iconst 4, 1) := by decide +kernel
theorem dX5_charges_25 : decode cX5_charges 25 = .ok (.bipush 10, 2) := by decide +kernel
theorem dX5_charges_27 : decode cX5_charges 27 = .ok (.invokevirtual 50, 3) := by decide +kernel
theorem dX5_charges_30 : decode cX5_charges 30 = .ok (.aload_n 0, 1) := by decide +kernel
theorem dX5_charges_31 : decode cX5_charges 31 = .ok (.iconst 0, 1) := by decide +kernel
theorem dX5_charges_32 : decode cX5_charges 32 = .ok (.iconst 0, 1) := by decide +kernel
theorem dX5_charges_33 : decode cX5_charges 33 = .ok (.invokevirtual 54, 3) := by decide +kernel
theorem dX5_charges_36 : decode cX5_charges 36 = .ok (.aload_n 0, 1) := by decide +kernel
theorem dX5_charges_37 : decode cX5_charges 37 = .ok (.iconst 0, 1) := by decide +kernel
theorem dX5_charges_38 : decode cX5_charges 38 = .ok (.iconst 1, 1) := by decide +kernel
theorem dX5_charges_39 : decode cX5_charges 39 = .ok (.invokevirtual 54, 3) := by decide +kernel
theorem dX5_charges_42 : decode cX5_charges 42 = .ok (.aload_n 0, 1) := by decide +kernel
theorem dX5_charges_43 : decode cX5_charges 43 = .ok (.iconst 1, 1) := by decide +kernel
theorem dX5_charges_44 : decode cX5_charges 44 = .ok (.iconst 0, 1) := by decide +kernel
theorem dX5_charges_45 : decode cX5_charges 45 = .ok (.invokevirtual 54, 3) := by decide +kernel
theorem dX5_charges_48 : decode cX5_charges 48 = .ok (.aload_n 0, 1) := by decide +kernel
theorem dX5_charges_49 : decode cX5_charges 49 = .ok (.iconst 1, 1) := by decide +kernel
theorem dX5_charges_50 : decode cX5_charges 50 = .ok (.iconst 1, 1) := by decide +kernel
theorem dX5_charges_51 : decode cX5_charges 51 = .ok (.invokevirtual 54, 3) := by decide +kernel
theorem dX5_charges_54 : decode cX5_charges 54 = .ok (.aload_n 0, 1) := by decide +kernel
theorem dX5_charges_55 : decode cX5_charges 55 = .ok (.invokevirtual 58, 3) := by decide +kernel
theorem dX5_charges_58 : decode cX5_charges 58 = .ok (.return_, 1) := by decide +kernel
theorem dX5_turns_0 : decode cX5_turns 0 = .ok (.aload_n 0, 1) := by decide +kernel
theorem dX5_turns_1 : decode cX5_turns 1 = .ok (.invokevirtual 61, 3) := by decide +kernel
theorem dX5_turns_4 : decode cX5_turns 4 = .ok (.aload_n 0, 1) := by decide +kernel
theorem dX5_turns_5 : decode cX5_turns 5 = .ok (.invokevirtual 64, 3) := by decide +kernel
theorem dX5_turns_8 : decode cX5_turns 8 = .ok (.aload_n 0, 1) := by decide +kernel
theorem dX5_turns_9 : decode cX5_turns 9 = .ok (.invokevirtual 67, 3) := by decide +kernel
theorem dX5_turns_12 : decode cX5_turns 12 = .ok (.istore_n 1, 1) := by decide +kernel
theorem dX5_turns_13 : decode cX5_turns 13 = .ok (.aload_n 0, 1) := by decide +kernel
theorem dX5_turns_14 : decode cX5_turns 14 = .ok (.getfield 7, 3) := by decide +kernel
theorem dX5_turns_17 : decode cX5_turns 17 = .ok (.bipush 7, 2) := by decide +kernel
theorem dX5_turns_19 : decode cX5_turns 19 = .ok (.dup2, 1) := by decide +kernel
theorem dX5_turns_20 : decode cX5_turns 20 = .ok (.iaload, 1) := by decide +kernel
theorem dX5_turns_21 : decode cX5_turns 21 = .ok (.iload_n 1, 1) := by decide +kernel
theorem dX5_turns_22 : decode cX5_turns 22 = .ok (.ifCond .eq 19, 3) := by decide +kernel
theorem dX5_turns_25 : decode cX5_turns 25 = .ok (.aload_n 0, 1) := by decide +kernel
theorem dX5_turns_26 : decode cX5_turns 26 = .ok (.getfield 7, 3) := by decide +kernel
theorem dX5_turns_29 : decode cX5_turns 29 = .ok (.bipush 8, 2) := by decide +kernel
theorem dX5_turns_31 : decode cX5_turns 31 = .ok (.iaload, 1) := by decide +kernel
theorem dX5_turns_32 : decode cX5_turns 32 = .ok (.iload_n 1, 1) := by decide +kernel
theorem dX5_turns_33 : decode cX5_turns 33 = .ok (.ineg, 1) := by decide +kernel
theorem dX5_turns_34 : decode cX5_turns 34 = .ok (.if_icmp .ne 7, 3) := by decide +kernel
theorem dX5_turns_37 : decode cX5_turns 37 = .ok (.iconst 1, 1) := by decide +kernel
theorem dX5_turns_38 : decode cX5_turns 38 = .ok (.goto 4, 3) := by decide +kernel
theorem dX5_turns_41 : decode cX5_turns 41 = .ok (.iconst 0, 1) := by decide +kernel
theorem dX5_turns_42 : decode cX5_turns 42 = .ok (.iadd, 1) := by decide +kernel
theorem dX5_turns_43 : decode cX5_turns 43 = .ok (.iastore, 1) := by decide +kernel
theorem dX5_turns_44 : decode cX5_turns 44 = .ok (.aload_n 0, 1) := by decide +kernel
theorem dX5_turns_45 : decode cX5_turns 45 = .ok (.getfield 7, 3) := by decide +kernel
theorem dX5_turns_48 : decode cX5_turns 48 = .ok (.bipush 8, 2) := by decide +kernel
theorem dX5_turns_50 : decode cX5_turns 50 = .ok (.iload_n 1, 1) := by decide +kernel
theorem dX5_turns_51 : decode cX5_turns 51 = .ok (.ifCond .ne 13, 3) := by decide +kernel
theorem dX5_turns_54 : decode cX5_turns 54 = .ok (.aload_n 0, 1) := by decide +kernel
theorem dX5_turns_55 : decode cX5_turns 55 = .ok (.getfield 7, 3) := by decide +kernel
theorem dX5_turns_58 : decode cX5_turns 58 = .ok (.bipush 8, 2) := by decide +kernel
theorem dX5_turns_60 : decode cX5_turns 60 = .ok (.iaload, 1) := by decide +kernel
theorem dX5_turns_61 : decode cX5_turns 61 = .ok (.goto 4, 3) := by decide +kernel
theorem dX5_turns_64 : decode cX5_turns 64 = .ok (.iload_n 1, 1) := by decide +kernel
theorem dX5_turns_65 : decode cX5_turns 65 = .ok (.iastore, 1) := by decide +kernel
theorem dX5_turns_66 : decode cX5_turns 66 = .ok (.return_, 1) := by decide +kernel
theorem dX5_turned_0 : decode cX5_turned 0 = .ok (.aload_n 0, 1) := by decide +kernel
theorem dX5_turned_1 : decode cX5_turned 1 = .ok (.getfield 7, 3) := by decide +kernel
theorem dX5_turned_4 : decode cX5_turned 4 = .ok (.bipush 6, 2) := by decide +kernel
theorem dX5_turned_6 : decode cX5_turned 6 = .ok (.iaload, 1) := by decide +kernel
theorem dX5_turned_7 : decode cX5_turned 7 = .ok (.istore_n 2, 1) := by decide +kernel
theorem dX5_turned_8 : decode cX5_turned 8 = .ok (.iconst 0, 1) := by decide +kernel
theorem dX5_turned_9 : decode cX5_turned 9 = .ok (.istore_n 3, 1) := by decide +kernel
theorem dX5_turned_10 : decode cX5_turned 10 = .ok (.iload_n 3, 1) := by decide +kernel
theorem dX5_turned_11 : decode cX5_turned 11 = .ok (.iload_n 1, 1) := by decide +kernel
theorem dX5_turned_12 : decode cX5_turned 12 = .ok (.if_icmp .ge 13, 3) := by decide +kernel
theorem dX5_turned_15 : decode cX5_turned 15 = .ok (.aload_n 0, 1) := by decide +kernel
theorem dX5_turned_16 : decode cX5_turned 16 = .ok (.invokevirtual 70, 3) := by decide +kernel
theorem dX5_turned_19 : decode cX5_turned 19 = .ok (.iinc 3 1, 3) := by decide +kernel
theorem dX5_turned_22 : decode cX5_turned 22 = .ok (.goto (-12), 3) := by decide +kernel
theorem dX5_turned_25 : decode cX5_turned 25 = .ok (.aload_n 0, 1) := by decide +kernel
theorem dX5_turned_26 : decode cX5_turned 26 = .ok (.getfield 7, 3) := by decide +kernel
theorem dX5_turned_29 : decode cX5_turned 29 = .ok (.bipush 6, 2) := by decide +kernel
theorem dX5_turned_31 : decode cX5_turned 31 = .ok (.iaload, 1) := by decide +kernel
theorem dX5_turned_32 : decode cX5_turned 32 = .ok (.iload_n 2, 1) := by decide +kernel
theorem dX5_turned_33 : decode cX5_turned 33 = .ok (.isub, 1) := by decide +kernel
theorem dX5_turned_34 : decode cX5_turned 34 = .ok (.ireturn, 1) := by decide +kernel
theorem dX5_isSetting_0 : decode cX5_isSetting 0 = .ok (.iload_n 1, 1) := by decide +kernel
theorem dX5_isSetting_1 : decode cX5_isSetting 1 = .ok (.tableswitch 77 0 4 #[35, 45, 55, 45, 65], 35) := by decide +kernel
theorem dX5_isSetting_36 : decode cX5_isSetting 36 = .ok (.iload_n 2, 1) := by decide +kernel
theorem dX5_isSetting_37 : decode cX5_isSetting 37 = .ok (.i2l, 1) := by decide +kernel
theorem dX5_isSetting_38 : decode cX5_isSetting 38 = .ok (.lconst 0, 1) := by decide +kernel
theorem dX5_isSetting_39 : decode cX5_isSetting 39 = .ok (.ldc2_w 73, 3) := by decide +kernel
theorem dX5_isSetting_42 : decode cX5_isSetting 42 = .ok (.invokestatic 75, 3) := by decide +kernel
theorem dX5_isSetting_45 : decode cX5_isSetting 45 = .ok (.ireturn, 1) := by decide +kernel
theorem dX5_isSetting_46 : decode cX5_isSetting 46 = .ok (.iload_n 2, 1) := by decide +kernel
theorem dX5_isSetting_47 : decode cX5_isSetting 47 = .ok (.i2l, 1) := by decide +kernel
theorem dX5_isSetting_48 : decode cX5_isSetting 48 = .ok (.lconst 0, 1) := by decide +kernel
theorem dX5_isSetting_49 : decode cX5_isSetting 49 = .ok (.ldc2_w 79, 3) := by decide +kernel
theorem dX5_isSetting_52 : decode cX5_isSetting 52 = .ok (.invokestatic 75, 3) := by decide +kernel
theorem dX5_isSetting_55 : decode cX5_isSetting 55 = .ok (.ireturn, 1) := by decide +kernel
theorem dX5_isSetting_56 : decode cX5_isSetting 56 = .ok (.iload_n 2, 1) := by decide +kernel
theorem dX5_isSetting_57 : decode cX5_isSetting 57 = .ok (.i2l, 1) := by decide +kernel
theorem dX5_isSetting_58 : decode cX5_isSetting 58 = .ok (.lconst 1, 1) := by decide +kernel
theorem dX5_isSetting_59 : decode cX5_isSetting 59 = .ok (.ldc2_w 81, 3) := by decide +kernel
theorem dX5_isSetting_62 : decode cX5_isSetting 62 = .ok (.invokestatic 75, 3) := by decide +kernel
theorem dX5_isSetting_65 : decode cX5_isSetting 65 = .ok (.ireturn, 1) := by decide +kernel
theorem dX5_isSetting_66 : decode cX5_isSetting 66 = .ok (.iload_n 2, 1) := by decide +kernel
theorem dX5_isSetting_67 : decode cX5_isSetting 67 = .ok (.i2l, 1) := by decide +kernel
theorem dX5_isSetting_68 : decode cX5_isSetting 68 = .ok (.ldc2_w 83, 3) := by decide +kernel
theorem dX5_isSetting_71 : decode cX5_isSetting 71 = .ok (.ldc2_w 85, 3) := by decide +kernel
theorem dX5_isSetting_74 : decode cX5_isSetting 74 = .ok (.invokestatic 75, 3) := by decide +kernel
theorem dX5_isSetting_77 : decode cX5_isSetting 77 = .ok (.ireturn, 1) := by decide +kernel
theorem dX5_isSetting_78 : decode cX5_isSetting 78 = .ok (.iconst 0, 1) := by decide +kernel
theorem dX5_isSetting_79 : decode cX5_isSetting 79 = .ok (.ireturn, 1) := by decide +kernel
theorem dX5_set_0 : decode cX5_set 0 = .ok (.aload_n 0, 1) := by decide +kernel
theorem dX5_set_1 : decode cX5_set 1 = .ok (.iload_n 1, 1) := by decide +kernel
theorem dX5_set_2 : decode cX5_set 2 = .ok (.iload_n 2, 1) := by decide +kernel
theorem dX5_set_3 : decode cX5_set 3 = .ok (.invokevirtual 87, 3) := by decide +kernel
theorem dX5_set_6 : decode cX5_set 6 = .ok (.ifCond .ne 6, 3) := by decide +kernel
theorem dX5_set_9 : decode cX5_set 9 = .ok (.ldc 91, 2) := by decide +kernel
theorem dX5_set_11 : decode cX5_set 11 = .ok (.ireturn, 1) := by decide +kernel
theorem dX5_set_12 : decode cX5_set 12 = .ok (.iload_n 1, 1) := by decide +kernel
theorem dX5_set_13 : decode cX5_set 13 = .ok (.iconst 4, 1) := by decide +kernel
theorem dX5_set_14 : decode cX5_set 14 = .ok (.if_icmp .ne 44, 3) := by decide +kernel
theorem dX5_set_17 : decode cX5_set 17 = .ok (.aload_n 0, 1) := by decide +kernel
theorem dX5_set_18 : decode cX5_set 18 = .ok (.getfield 7, 3) := by decide +kernel
theorem dX5_set_21 : decode cX5_set 21 = .ok (.bipush 37, 2) := by decide +kernel
theorem dX5_set_23 : decode cX5_set 23 = .ok (.iaload, 1) := by decide +kernel
theorem dX5_set_24 : decode cX5_set 24 = .ok (.i2l, 1) := by decide +kernel
theorem dX5_set_25 : decode cX5_set 25 = .ok (.iload_n 2, 1) := by decide +kernel
theorem dX5_set_26 : decode cX5_set 26 = .ok (.ineg, 1) := by decide +kernel
theorem dX5_set_27 : decode cX5_set 27 = .ok (.i2l, 1) := by decide +kernel
theorem dX5_set_28 : decode cX5_set 28 = .ok (.iload_n 2, 1) := by decide +kernel
theorem dX5_set_29 : decode cX5_set 29 = .ok (.i2l, 1) := by decide +kernel
theorem dX5_set_30 : decode cX5_set 30 = .ok (.invokestatic 75, 3) := by decide +kernel
theorem dX5_set_33 : decode cX5_set 33 = .ok (.ifCond .eq 22, 3) := by decide +kernel
theorem dX5_set_36 : decode cX5_set 36 = .ok (.aload_n 0, 1) := by decide +kernel
theorem dX5_set_37 : decode cX5_set 37 = .ok (.getfield 7, 3) := by decide +kernel
theorem dX5_set_40 : decode cX5_set 40 = .ok (.bipush 38, 2) := by decide +kernel
theorem dX5_set_42 : decode cX5_set 42 = .ok (.iaload, 1) := by decide +kernel
theorem dX5_set_43 : decode cX5_set 43 = .ok (.i2l, 1) := by decide +kernel
theorem dX5_set_44 : decode cX5_set 44 = .ok (.iload_n 2, 1) := by decide +kernel
theorem dX5_set_45 : decode cX5_set 45 = .ok (.ineg, 1) := by decide +kernel
theorem dX5_set_46 : decode cX5_set 46 = .ok (.i2l, 1) := by decide +kernel
theorem dX5_set_47 : decode cX5_set 47 = .ok (.iload_n 2, 1) := by decide +kernel
theorem dX5_set_48 : decode cX5_set 48 = .ok (.i2l, 1) := by decide +kernel
theorem dX5_set_49 : decode cX5_set 49 = .ok (.invokestatic 75, 3) := by decide +kernel
theorem dX5_set_52 : decode cX5_set 52 = .ok (.ifCond .ne 6, 3) := by decide +kernel
theorem dX5_set_55 : decode cX5_set 55 = .ok (.ldc 92, 2) := by decide +kernel
theorem dX5_set_57 : decode cX5_set 57 = .ok (.ireturn, 1) := by decide +kernel
theorem dX5_set_58 : decode cX5_set 58 = .ok (.aload_n 0, 1) := by decide +kernel
theorem dX5_set_59 : decode cX5_set 59 = .ok (.invokevirtual 93, 3) := by decide +kernel
theorem dX5_set_62 : decode cX5_set 62 = .ok (.aload_n 0, 1) := by decide +kernel
theorem dX5_set_63 : decode cX5_set 63 = .ok (.getfield 7, 3) := by decide +kernel
theorem dX5_set_66 : decode cX5_set 66 = .ok (.iload_n 1, 1) := by decide +kernel
theorem dX5_set_67 : decode cX5_set 67 = .ok (.iaload, 1) := by decide +kernel
theorem dX5_set_68 : decode cX5_set 68 = .ok (.istore_n 3, 1) := by decide +kernel
theorem dX5_set_69 : decode cX5_set 69 = .ok (.aload_n 0, 1) := by decide +kernel
theorem dX5_set_70 : decode cX5_set 70 = .ok (.getfield 7, 3) := by decide +kernel
theorem dX5_set_73 : decode cX5_set 73 = .ok (.iload_n 1, 1) := by decide +kernel
theorem dX5_set_74 : decode cX5_set 74 = .ok (.iload_n 2, 1) := by decide +kernel
theorem dX5_set_75 : decode cX5_set 75 = .ok (.iastore, 1) := by decide +kernel
theorem dX5_set_76 : decode cX5_set 76 = .ok (.iload_n 3, 1) := by decide +kernel
theorem dX5_set_77 : decode cX5_set 77 = .ok (.ireturn, 1) := by decide +kernel
theorem dX5_isPlace_0 : decode cX5_isPlace 0 = .ok (.iload_n 0, 1) := by decide +kernel
theorem dX5_isPlace_1 : decode cX5_isPlace 1 = .ok (.i2l, 1) := by decide +kernel
theorem dX5_isPlace_2 : decode cX5_isPlace 2 = .ok (.lconst 0, 1) := by decide +kernel
theorem dX5_isPlace_3 : decode cX5_isPlace 3 = .ok (.ldc2_w 96, 3) := by decide +kernel
theorem dX5_isPlace_6 : decode cX5_isPlace 6 = .ok (.invokestatic 75, 3) := by decide +kernel
theorem dX5_isPlace_9 : decode cX5_isPlace 9 = .ok (.ireturn, 1) := by decide +kernel
theorem dX5_touches_0 : decode cX5_touches 0 = .ok (.aload_n 0, 1) := by decide +kernel
theorem dX5_touches_1 : decode cX5_touches 1 = .ok (.getfield 7, 3) := by decide +kernel
theorem dX5_touches_4 : decode cX5_touches 4 = .ok (.bipush 10, 2) := by decide +kernel
theorem dX5_touches_6 : decode cX5_touches 6 = .ok (.dup2, 1) := by decide +kernel
theorem dX5_touches_7 : decode cX5_touches 7 = .ok (.iaload, 1) := by decide +kernel
theorem dX5_touches_8 : decode cX5_touches 8 = .ok (.iload_n 3, 1) := by decide +kernel
theorem dX5_touches_9 : decode cX5_touches 9 = .ok (.aload_n 0, 1) := by decide +kernel
theorem dX5_touches_10 : decode cX5_touches 10 = .ok (.getfield 7, 3) := by decide +kernel
theorem dX5_touches_13 : decode cX5_touches 13 = .ok (.iload_n 1, 1) := by decide +kernel
theorem dX5_touches_14 : decode cX5_touches 14 = .ok (.iload_n 2, 1) := by decide +kernel
theorem dX5_touches_15 : decode cX5_touches 15 = .ok (.invokestatic 32, 3) := by decide +kernel
theorem dX5_touches_18 : decode cX5_touches 18 = .ok (.iaload, 1) := by decide +kernel
theorem dX5_touches_19 : decode cX5_touches 19 = .ok (.isub, 1) := by decide +kernel
theorem dX5_touches_20 : decode cX5_touches 20 = .ok (.iadd, 1) := by decide +kernel
theorem dX5_touches_21 : decode cX5_touches 21 = .ok (.iastore, 1) := by decide +kernel
theorem dX5_touches_22 : decode cX5_touches 22 = .ok (.aload_n 0, 1) := by decide +kernel
theorem dX5_touches_23 : decode cX5_touches 23 = .ok (.getfield 7, 3) := by decide +kernel
theorem dX5_touches_26 : decode cX5_touches 26 = .ok (.iload_n 1, 1) := by decide +kernel
theorem dX5_touches_27 : decode cX5_touches 27 = .ok (.iload_n 2, 1) := by decide +kernel
theorem dX5_touches_28 : decode cX5_touches 28 = .ok (.invokestatic 32, 3) := by decide +kernel
theorem dX5_touches_31 : decode cX5_touches 31 = .ok (.iload_n 3, 1) := by decide +kernel
theorem dX5_touches_32 : decode cX5_touches 32 = .ok (.iastore, 1) := by decide +kernel
theorem dX5_touches_33 : decode cX5_touches 33 = .ok (.return_, 1) := by decide +kernel
theorem dX5_touch_0 : decode cX5_touch 0 = .ok (.iload_n 1, 1) := by decide +kernel
theorem dX5_touch_1 : decode cX5_touch 1 = .ok (.invokestatic 98, 3) := by decide +kernel
theorem dX5_touch_4 : decode cX5_touch 4 = .ok (.ifCond .eq 10, 3) := by decide +kernel
theorem dX5_touch_7 : decode cX5_touch 7 = .ok (.iload_n 2, 1) := by decide +kernel
theorem dX5_touch_8 : decode cX5_touch 8 = .ok (.invokestatic 102, 3) := by decide +kernel
theorem dX5_touch_11 : decode cX5_touch 11 = .ok (.ifCond .ne 6, 3) := by decide +kernel
theorem dX5_touch_14 : decode cX5_touch 14 = .ok (.ldc 105, 2) := by decide +kernel
theorem dX5_touch_16 : decode cX5_touch 16 = .ok (.ireturn, 1) := by decide +kernel
theorem dX5_touch_17 : decode cX5_touch 17 = .ok (.iload_n 3, 1) := by decide +kernel
theorem dX5_touch_18 : decode cX5_touch 18 = .ok (.i2l, 1) := by decide +kernel
theorem dX5_touch_19 : decode cX5_touch 19 = .ok (.ldc2_w 106, 3) := by decide +kernel
theorem dX5_touch_22 : decode cX5_touch 22 = .ok (.ldc2_w 108, 3) := by decide +kernel
theorem dX5_touch_25 : decode cX5_touch 25 = .ok (.invokestatic 75, 3) := by decide +kernel
theorem dX5_touch_28 : decode cX5_touch 28 = .ok (.ifCond .ne 6, 3) := by decide +kernel
theorem dX5_touch_31 : decode cX5_touch 31 = .ok (.ldc 91, 2) := by decide +kernel
theorem dX5_touch_33 : decode cX5_touch 33 = .ok (.ireturn, 1) := by decide +kernel
theorem dX5_touch_34 : decode cX5_touch 34 = .ok (.aload_n 0, 1) := by decide +kernel
theorem dX5_touch_35 : decode cX5_touch 35 = .ok (.invokevirtual 93, 3) := by decide +kernel
theorem dX5_touch_38 : decode cX5_touch 38 = .ok (.aload_n 0, 1) := by decide +kernel
theorem dX5_touch_39 : decode cX5_touch 39 = .ok (.getfield 7, 3) := by decide +kernel
theorem dX5_touch_42 : decode cX5_touch 42 = .ok (.iload_n 1, 1) := by decide +kernel
theorem dX5_touch_43 : decode cX5_touch 43 = .ok (.iload_n 2, 1) := by decide +kernel
theorem dX5_touch_44 : decode cX5_touch 44 = .ok (.invokestatic 32, 3) := by decide +kernel
theorem dX5_touch_47 : decode cX5_touch 47 = .ok (.iaload, 1) := by decide +kernel
theorem dX5_touch_48 : decode cX5_touch 48 = .ok (.istore 4, 2) := by decide +kernel
theorem dX5_touch_50 : decode cX5_touch 50 = .ok (.aload_n 0, 1) := by decide +kernel
theorem dX5_touch_51 : decode cX5_touch 51 = .ok (.iload_n 1, 1) := by decide +kernel
theorem dX5_touch_52 : decode cX5_touch 52 = .ok (.iload_n 2, 1) := by decide +kernel
theorem dX5_touch_53 : decode cX5_touch 53 = .ok (.iload_n 3, 1) := by decide +kernel
theorem dX5_touch_54 : decode cX5_touch 54 = .ok (.invokevirtual 110, 3) := by decide +kernel
theorem dX5_touch_57 : decode cX5_touch 57 = .ok (.iload 4, 2) := by decide +kernel
theorem dX5_touch_59 : decode cX5_touch 59 = .ok (.ireturn, 1) := by decide +kernel
theorem dX5_turn_0 : decode cX5_turn 0 = .ok (.iload_n 1, 1) := by decide +kernel
theorem dX5_turn_1 : decode cX5_turn 1 = .ok (.i2l, 1) := by decide +kernel
theorem dX5_turn_2 : decode cX5_turn 2 = .ok (.lconst 1, 1) := by decide +kernel
theorem dX5_turn_3 : decode cX5_turn 3 = .ok (.ldc2_w 108, 3) := by decide +kernel
theorem dX5_turn_6 : decode cX5_turn 6 = .ok (.invokestatic 75, 3) := by decide +kernel
theorem dX5_turn_9 : decode cX5_turn 9 = .ok (.ifCond .ne 6, 3) := by decide +kernel
theorem dX5_turn_12 : decode cX5_turn 12 = .ok (.ldc 91, 2) := by decide +kernel
theorem dX5_turn_14 : decode cX5_turn 14 = .ok (.ireturn, 1) := by decide +kernel
theorem dX5_turn_15 : decode cX5_turn 15 = .ok (.aload_n 0, 1) := by decide +kernel
theorem dX5_turn_16 : decode cX5_turn 16 = .ok (.getfield 7, 3) := by decide +kernel
theorem dX5_turn_19 : decode cX5_turn 19 = .ok (.iconst 5, 1) := by decide +kernel
theorem dX5_turn_20 : decode cX5_turn 20 = .ok (.iaload, 1) := by decide +kernel
theorem dX5_turn_21 : decode cX5_turn 21 = .ok (.iload_n 1, 1) := by decide +kernel
theorem dX5_turn_22 : decode cX5_turn 22 = .ok (.iadd, 1) := by decide +kernel
theorem dX5_turn_23 : decode cX5_turn 23 = .ok (.ldc 113, 2) := by decide +kernel
theorem dX5_turn_25 : decode cX5_turn 25 = .ok (.if_icmp .le 6, 3) := by decide +kernel
theorem dX5_turn_28 : decode cX5_turn 28 = .ok (.ldc 114, 2) := by decide +kernel
theorem dX5_turn_30 : decode cX5_turn 30 = .ok (.ireturn, 1) := by decide +kernel
theorem dX5_turn_31 : decode cX5_turn 31 = .ok (.aload_n 0, 1) := by decide +kernel
theorem dX5_turn_32 : decode cX5_turn 32 = .ok (.invokevirtual 93, 3) := by decide +kernel
theorem dX5_turn_35 : decode cX5_turn 35 = .ok (.aload_n 0, 1) := by decide +kernel
theorem dX5_turn_36 : decode cX5_turn 36 = .ok (.iload_n 1, 1) := by decide +kernel
theorem dX5_turn_37 : decode cX5_turn 37 = .ok (.invokevirtual 115, 3) := by decide +kernel
theorem dX5_turn_40 : decode cX5_turn 40 = .ok (.ireturn, 1) := by decide +kernel
theorem dX5_discharges_0 : decode cX5_discharges 0 = .ok (.aload_n 0, 1) := by decide +kernel
theorem dX5_discharges_1 : decode cX5_discharges 1 = .ok (.invokevirtual 40, 3) := by decide +kernel
theorem dX5_discharges_4 : decode cX5_discharges 4 = .ok (.istore_n 1, 1) := by decide +kernel
theorem dX5_discharges_5 : decode cX5_discharges 5 = .ok (.aload_n 0, 1) := by decide +kernel
theorem dX5_discharges_6 : decode cX5_discharges 6 = .ok (.getfield 7, 3) := by decide +kernel
theorem dX5_discharges_9 : decode cX5_discharges 9 = .ok (.bipush 11, 2) := by decide +kernel
theorem dX5_discharges_11 : decode cX5_discharges 11 = .ok (.dup2, 1) := by decide +kernel
theorem dX5_discharges_12 : decode cX5_discharges 12 = .ok (.iaload, 1) := by decide +kernel
theorem dX5_discharges_13 : decode cX5_discharges 13 = .ok (.aload_n 0, 1) := by decide +kernel
theorem dX5_discharges_14 : decode cX5_discharges 14 = .ok (.getfield 7, 3) := by decide +kernel
theorem dX5_discharges_17 : decode cX5_discharges 17 = .ok (.bipush 37, 2) := by decide +kernel
theorem dX5_discharges_19 : decode cX5_discharges 19 = .ok (.iaload, 1) := by decide +kernel
theorem dX5_discharges_20 : decode cX5_discharges 20 = .ok (.aload_n 0, 1) := by decide +kernel
theorem dX5_discharges_21 : decode cX5_discharges 21 = .ok (.getfield 7, 3) := by decide +kernel
theorem dX5_discharges_24 : decode cX5_discharges 24 = .ok (.bipush 38, 2) := by decide +kernel
theorem dX5_discharges_26 : decode cX5_discharges 26 = .ok (.iaload, 1) := by decide +kernel
theorem dX5_discharges_27 : decode cX5_discharges 27 = .ok (.iadd, 1) := by decide +kernel
theorem dX5_discharges_28 : decode cX5_discharges 28 = .ok (.iadd, 1) := by decide +kernel
theorem dX5_discharges_29 : decode cX5_discharges 29 = .ok (.iastore, 1) := by decide +kernel
theorem dX5_discharges_30 : decode cX5_discharges 30 = .ok (.aload_n 0, 1) := by decide +kernel
theorem dX5_discharges_31 : decode cX5_discharges 31 = .ok (.getfield 7, 3) := by decide +kernel
theorem dX5_discharges_34 : decode cX5_discharges 34 = .ok (.bipush 37, 2) := by decide +kernel
theorem dX5_discharges_36 : decode cX5_discharges 36 = .ok (.iconst 0, 1) := by decide +kernel
theorem dX5_discharges_37 : decode cX5_discharges 37 = .ok (.iastore, 1) := by decide +kernel
theorem dX5_discharges_38 : decode cX5_discharges 38 = .ok (.aload_n 0, 1) := by decide +kernel
theorem dX5_discharges_39 : decode cX5_discharges 39 = .ok (.getfield 7, 3) := by decide +kernel
theorem dX5_discharges_42 : decode cX5_discharges 42 = .ok (.bipush 38, 2) := by decide +kernel
theorem dX5_discharges_44 : decode cX5_discharges 44 = .ok (.iconst 0, 1) := by decide +kernel
theorem dX5_discharges_45 : decode cX5_discharges 45 = .ok (.iastore, 1) := by decide +kernel
theorem dX5_discharges_46 : decode cX5_discharges 46 = .ok (.iload_n 1, 1) := by decide +kernel
theorem dX5_discharges_47 : decode cX5_discharges 47 = .ok (.ireturn, 1) := by decide +kernel
theorem dX5_discharge_0 : decode cX5_discharge 0 = .ok (.aload_n 0, 1) := by decide +kernel
theorem dX5_discharge_1 : decode cX5_discharge 1 = .ok (.invokevirtual 93, 3) := by decide +kernel
theorem dX5_discharge_4 : decode cX5_discharge 4 = .ok (.aload_n 0, 1) := by decide +kernel
theorem dX5_discharge_5 : decode cX5_discharge 5 = .ok (.invokevirtual 119, 3) := by decide +kernel
theorem dX5_discharge_8 : decode cX5_discharge 8 = .ok (.ireturn, 1) := by decide +kernel
theorem dX5_wipeDisc_0 : decode cX5_wipeDisc 0 = .ok (.iload_n 1, 1) := by decide +kernel
theorem dX5_wipeDisc_1 : decode cX5_wipeDisc 1 = .ok (.invokestatic 98, 3) := by decide +kernel
theorem dX5_wipeDisc_4 : decode cX5_wipeDisc 4 = .ok (.ifCond .ne 6, 3) := by decide +kernel
theorem dX5_wipeDisc_7 : decode cX5_wipeDisc 7 = .ok (.ldc 105, 2) := by decide +kernel
theorem dX5_wipeDisc_9 : decode cX5_wipeDisc 9 = .ok (.ireturn, 1) := by decide +kernel
theorem dX5_wipeDisc_10 : decode cX5_wipeDisc 10 = .ok (.aload_n 0, 1) := by decide +kernel
theorem dX5_wipeDisc_11 : decode cX5_wipeDisc 11 = .ok (.invokevirtual 93, 3) := by decide +kernel
theorem dX5_wipeDisc_14 : decode cX5_wipeDisc 14 = .ok (.iconst 0, 1) := by decide +kernel
theorem dX5_wipeDisc_15 : decode cX5_wipeDisc 15 = .ok (.istore_n 2, 1) := by decide +kernel
theorem dX5_wipeDisc_16 : decode cX5_wipeDisc 16 = .ok (.iconst 0, 1) := by decide +kernel
theorem dX5_wipeDisc_17 : decode cX5_wipeDisc 17 = .ok (.istore_n 3, 1) := by decide +kernel
theorem dX5_wipeDisc_18 : decode cX5_wipeDisc 18 = .ok (.iload_n 3, 1) := by decide +kernel
theorem dX5_wipeDisc_19 : decode cX5_wipeDisc 19 = .ok (.bipush 12, 2) := by decide +kernel
theorem dX5_wipeDisc_21 : decode cX5_wipeDisc 21 = .ok (.if_icmp .ge 61, 3) := by decide +kernel
theorem dX5_wipeDisc_24 : decode cX5_wipeDisc 24 = .ok (.iload_n 2, 1) := by decide +kernel
theorem dX5_wipeDisc_25 : decode cX5_wipeDisc 25 = .ok (.aload_n 0, 1) := by decide +kernel
theorem dX5_wipeDisc_26 : decode cX5_wipeDisc 26 = .ok (.getfield 7, 3) := by decide +kernel
theorem dX5_wipeDisc_29 : decode cX5_wipeDisc 29 = .ok (.iload_n 1, 1) := by decide +kernel
theorem dX5_wipeDisc_30 : decode cX5_wipeDisc 30 = .ok (.iload_n 3, 1) := by decide +kernel
theorem dX5_wipeDisc_31 : decode cX5_wipeDisc 31 = .ok (.invokestatic 32, 3) := by decide +kernel
theorem dX5_wipeDisc_34 : decode cX5_wipeDisc 34 = .ok (.iaload, 1) := by decide +kernel
theorem dX5_wipeDisc_35 : decode cX5_wipeDisc 35 = .ok (.ifCond .ne 7, 3) := by decide +kernel
theorem dX5_wipeDisc_38 : decode cX5_wipeDisc 38 = .ok (.iconst 0, 1) := by decide +kernel
theorem dX5_wipeDisc_39 : decode cX5_wipeDisc 39 = .ok (.goto 4, 3) := by decide +kernel
theorem dX5_wipeDisc_42 : decode cX5_wipeDisc 42 = .ok (.iconst 1, 1) := by decide +kernel
theorem dX5_wipeDisc_43 : decode cX5_wipeDisc 43 = .ok (.iadd, 1) := by decide +kernel
theorem dX5_wipeDisc_44 : decode cX5_wipeDisc 44 = .ok (.istore_n 2, 1) := by decide +kernel
theorem dX5_wipeDisc_45 : decode cX5_wipeDisc 45 = .ok (.aload_n 0, 1) := by decide +kernel
theorem dX5_wipeDisc_46 : decode cX5_wipeDisc 46 = .ok (.getfield 7, 3) := by decide +kernel
theorem dX5_wipeDisc_49 : decode cX5_wipeDisc 49 = .ok (.bipush 11, 2) := by decide +kernel
theorem dX5_wipeDisc_51 : decode cX5_wipeDisc 51 = .ok (.dup2, 1) := by decide +kernel
theorem dX5_wipeDisc_52 : decode cX5_wipeDisc 52 = .ok (.iaload, 1) := by decide +kernel
theorem dX5_wipeDisc_53 : decode cX5_wipeDisc 53 = .ok (.aload_n 0, 1) := by decide +kernel
theorem dX5_wipeDisc_54 : decode cX5_wipeDisc 54 = .ok (.getfield 7, 3) := by decide +kernel
theorem dX5_wipeDisc_57 : decode cX5_wipeDisc 57 = .ok (.iload_n 1, 1) := by decide +kernel
theorem dX5_wipeDisc_58 : decode cX5_wipeDisc 58 = .ok (.iload_n 3, 1) := by decide +kernel
theorem dX5_wipeDisc_59 : decode cX5_wipeDisc 59 = .ok (.invokestatic 32, 3) := by decide +kernel
theorem dX5_wipeDisc_62 : decode cX5_wipeDisc 62 = .ok (.iaload, 1) := by decide +kernel
theorem dX5_wipeDisc_63 : decode cX5_wipeDisc 63 = .ok (.iadd, 1) := by decide +kernel
theorem dX5_wipeDisc_64 : decode cX5_wipeDisc 64 = .ok (.iastore, 1) := by decide +kernel
theorem dX5_wipeDisc_65 : decode cX5_wipeDisc 65 = .ok (.aload_n 0, 1) := by decide +kernel
theorem dX5_wipeDisc_66 : decode cX5_wipeDisc 66 = .ok (.getfield 7, 3) := by decide +kernel
theorem dX5_wipeDisc_69 : decode cX5_wipeDisc 69 = .ok (.iload_n 1, 1) := by decide +kernel
theorem dX5_wipeDisc_70 : decode cX5_wipeDisc 70 = .ok (.iload_n 3, 1) := by decide +kernel
theorem dX5_wipeDisc_71 : decode cX5_wipeDisc 71 = .ok (.invokestatic 32, 3) := by decide +kernel
theorem dX5_wipeDisc_74 : decode cX5_wipeDisc 74 = .ok (.iconst 0, 1) := by decide +kernel
theorem dX5_wipeDisc_75 : decode cX5_wipeDisc 75 = .ok (.iastore, 1) := by decide +kernel
theorem dX5_wipeDisc_76 : decode cX5_wipeDisc 76 = .ok (.iinc 3 1, 3) := by decide +kernel
theorem dX5_wipeDisc_79 : decode cX5_wipeDisc 79 = .ok (.goto (-61), 3) := by decide +kernel
theorem dX5_wipeDisc_82 : decode cX5_wipeDisc 82 = .ok (.iload_n 2, 1) := by decide +kernel
theorem dX5_wipeDisc_83 : decode cX5_wipeDisc 83 = .ok (.ireturn, 1) := by decide +kernel
theorem dX5_sector_0 : decode cX5_sector 0 = .ok (.iload_n 1, 1) := by decide +kernel
theorem dX5_sector_1 : decode cX5_sector 1 = .ok (.invokestatic 98, 3) := by decide +kernel
theorem dX5_sector_4 : decode cX5_sector 4 = .ok (.ifCond .eq 23, 3) := by decide +kernel
theorem dX5_sector_7 : decode cX5_sector 7 = .ok (.iload_n 2, 1) := by decide +kernel
theorem dX5_sector_8 : decode cX5_sector 8 = .ok (.invokestatic 102, 3) := by decide +kernel
theorem dX5_sector_11 : decode cX5_sector 11 = .ok (.ifCond .eq 16, 3) := by decide +kernel
theorem dX5_sector_14 : decode cX5_sector 14 = .ok (.aload_n 0, 1) := by decide +kernel
theorem dX5_sector_15 : decode cX5_sector 15 = .ok (.getfield 7, 3) := by decide +kernel
theorem dX5_sector_18 : decode cX5_sector 18 = .ok (.iload_n 1, 1) := by decide +kernel
theorem dX5_sector_19 : decode cX5_sector 19 = .ok (.iload_n 2, 1) := by decide +kernel
theorem dX5_sector_20 : decode cX5_sector 20 = .ok (.invokestatic 32, 3) := by decide +kernel
theorem dX5_sector_23 : decode cX5_sector 23 = .ok (.iaload, 1) := by decide +kernel
theorem dX5_sector_24 : decode cX5_sector 24 = .ok (.goto 5, 3) := by decide +kernel
theorem dX5_sector_27 : decode cX5_sector 27 = .ok (.ldc 105, 2) := by decide +kernel
theorem dX5_sector_29 : decode cX5_sector 29 = .ok (.ireturn, 1) := by decide +kernel
theorem dX5_disc_0 : decode cX5_disc 0 = .ok (.iload_n 1, 1) := by decide +kernel
theorem dX5_disc_1 : decode cX5_disc 1 = .ok (.invokestatic 98, 3) := by decide +kernel
theorem dX5_disc_4 : decode cX5_disc 4 = .ok (.ifCond .ne 6, 3) := by decide +kernel
theorem dX5_disc_7 : decode cX5_disc 7 = .ok (.ldc 105, 2) := by decide +kernel
theorem dX5_disc_9 : decode cX5_disc 9 = .ok (.ireturn, 1) := by decide +kernel
theorem dX5_disc_10 : decode cX5_disc 10 = .ok (.iconst 0, 1) := by decide +kernel
theorem dX5_disc_11 : decode cX5_disc 11 = .ok (.istore_n 3, 1) := by decide +kernel
theorem dX5_disc_12 : decode cX5_disc 12 = .ok (.iconst 0, 1) := by decide +kernel
theorem dX5_disc_13 : decode cX5_disc 13 = .ok (.istore 4, 2) := by decide +kernel
theorem dX5_disc_15 : decode cX5_disc 15 = .ok (.iconst 0, 1) := by decide +kernel
theorem dX5_disc_16 : decode cX5_disc 16 = .ok (.istore 5, 2) := by decide +kernel
theorem dX5_disc_18 : decode cX5_disc 18 = .ok (.bipush (-99), 2) := by decide +kernel
theorem dX5_disc_20 : decode cX5_disc 20 = .ok (.istore 6, 2) := by decide +kernel
theorem dX5_disc_22 : decode cX5_disc 22 = .ok (.bipush 99, 2) := by decide +kernel
theorem dX5_disc_24 : decode cX5_disc 24 = .ok (.istore 7, 2) := by decide +kernel
theorem dX5_disc_26 : decode cX5_disc 26 = .ok (.iconst 0, 1) := by decide +kernel
theorem dX5_disc_27 : decode cX5_disc 27 = .ok (.istore 8, 2) := by decide +kernel
theorem dX5_disc_29 : decode cX5_disc 29 = .ok (.iload 8, 2) := by decide +kernel
theorem dX5_disc_31 : decode cX5_disc 31 = .ok (.bipush 12, 2) := by decide +kernel
theorem dX5_disc_33 : decode cX5_disc 33 = .ok (.if_icmp .ge 89, 3) := by decide +kernel
theorem dX5_disc_36 : decode cX5_disc 36 = .ok (.aload_n 0, 1) := by decide +kernel
theorem dX5_disc_37 : decode cX5_disc 37 = .ok (.getfield 7, 3) := by decide +kernel
theorem dX5_disc_40 : decode cX5_disc 40 = .ok (.iload_n 1, 1) := by decide +kernel
theorem dX5_disc_41 : decode cX5_disc 41 = .ok (.iload 8, 2) := by decide +kernel
theorem dX5_disc_43 : decode cX5_disc 43 = .ok (.invokestatic 32, 3) := by decide +kernel
theorem dX5_disc_46 : decode cX5_disc 46 = .ok (.iaload, 1) := by decide +kernel
theorem dX5_disc_47 : decode cX5_disc 47 = .ok (.istore 9, 2) := by decide +kernel
theorem dX5_disc_49 : decode cX5_disc 49 = .ok (.iload_n 3, 1) := by decide +kernel
theorem dX5_disc_50 : decode cX5_disc 50 = .ok (.iload 9, 2) := by decide +kernel
theorem dX5_disc_52 : decode cX5_disc 52 = .ok (.iadd, 1) := by decide +kernel
theorem dX5_disc_53 : decode cX5_disc 53 = .ok (.istore_n 3, 1) := by decide +kernel
theorem dX5_disc_54 : decode cX5_disc 54 = .ok (.iload 4, 2) := by decide +kernel
theorem dX5_disc_56 : decode cX5_disc 56 = .ok (.iload 9, 2) := by decide +kernel
theorem dX5_disc_58 : decode cX5_disc 58 = .ok (.ifCond .le 7, 3) := by decide +kernel
theorem dX5_disc_61 : decode cX5_disc 61 = .ok (.iconst 1, 1) := by decide +kernel
theorem dX5_disc_62 : decode cX5_disc 62 = .ok (.goto 4, 3) := by decide +kernel
theorem dX5_disc_65 : decode cX5_disc 65 = .ok (.iconst 0, 1) := by decide +kernel
theorem dX5_disc_66 : decode cX5_disc 66 = .ok (.iadd, 1) := by decide +kernel
theorem dX5_disc_67 : decode cX5_disc 67 = .ok (.istore 4, 2) := by decide +kernel
theorem dX5_disc_69 : decode cX5_disc 69 = .ok (.iload 5, 2) := by decide +kernel
theorem dX5_disc_71 : decode cX5_disc 71 = .ok (.iload 9, 2) := by decide +kernel
theorem dX5_disc_73 : decode cX5_disc 73 = .ok (.ifCond .ge 7, 3) := by decide +kernel
theorem dX5_disc_76 : decode cX5_disc 76 = .ok (.iconst 1, 1) := by decide +kernel
theorem dX5_disc_77 : decode cX5_disc 77 = .ok (.goto 4, 3) := by decide +kernel
theorem dX5_disc_80 : decode cX5_disc 80 = .ok (.iconst 0, 1) := by decide +kernel
theorem dX5_disc_81 : decode cX5_disc 81 = .ok (.iadd, 1) := by decide +kernel
theorem dX5_disc_82 : decode cX5_disc 82 = .ok (.istore 5, 2) := by decide +kernel
theorem dX5_disc_84 : decode cX5_disc 84 = .ok (.iload 9, 2) := by decide +kernel
theorem dX5_disc_86 : decode cX5_disc 86 = .ok (.iload 6, 2) := by decide +kernel
theorem dX5_disc_88 : decode cX5_disc 88 = .ok (.if_icmp .le 8, 3) := by decide +kernel
theorem dX5_disc_91 : decode cX5_disc 91 = .ok (.iload 9, 2) := by decide +kernel
theorem dX5_disc_93 : decode cX5_disc 93 = .ok (.goto 5, 3) := by decide +kernel
theorem dX5_disc_96 : decode cX5_disc 96 = .ok (.iload 6, 2) := by decide +kernel
theorem dX5_disc_98 : decode cX5_disc 98 = .ok (.istore 6, 2) := by decide +kernel
theorem dX5_disc_100 : decode cX5_disc 100 = .ok (.iload 9, 2) := by decide +kernel
theorem dX5_disc_102 : decode cX5_disc 102 = .ok (.iload 7, 2) := by decide +kernel
theorem dX5_disc_104 : decode cX5_disc 104 = .ok (.if_icmp .ge 8, 3) := by decide +kernel
theorem dX5_disc_107 : decode cX5_disc 107 = .ok (.iload 9, 2) := by decide +kernel
theorem dX5_disc_109 : decode cX5_disc 109 = .ok (.goto 5, 3) := by decide +kernel
theorem dX5_disc_112 : decode cX5_disc 112 = .ok (.iload 7, 2) := by decide +kernel
theorem dX5_disc_114 : decode cX5_disc 114 = .ok (.istore 7, 2) := by decide +kernel
theorem dX5_disc_116 : decode cX5_disc 116 = .ok (.iinc 8 1, 3) := by decide +kernel
theorem dX5_disc_119 : decode cX5_disc 119 = .ok (.goto (-90), 3) := by decide +kernel
theorem dX5_disc_122 : decode cX5_disc 122 = .ok (.iload_n 2, 1) := by decide +kernel
theorem dX5_disc_123 : decode cX5_disc 123 = .ok (.tableswitch 47 0 4 #[33, 35, 38, 41, 44], 33) := by decide +kernel
theorem dX5_disc_156 : decode cX5_disc 156 = .ok (.iload_n 3, 1) := by decide +kernel
theorem dX5_disc_157 : decode cX5_disc 157 = .ok (.ireturn, 1) := by decide +kernel
theorem dX5_disc_158 : decode cX5_disc 158 = .ok (.iload 4, 2) := by decide +kernel
theorem dX5_disc_160 : decode cX5_disc 160 = .ok (.ireturn, 1) := by decide +kernel
theorem dX5_disc_161 : decode cX5_disc 161 = .ok (.iload 5, 2) := by decide +kernel
theorem dX5_disc_163 : decode cX5_disc 163 = .ok (.ireturn, 1) := by decide +kernel
theorem dX5_disc_164 : decode cX5_disc 164 = .ok (.iload 6, 2) := by decide +kernel
theorem dX5_disc_166 : decode cX5_disc 166 = .ok (.ireturn, 1) := by decide +kernel
theorem dX5_disc_167 : decode cX5_disc 167 = .ok (.iload 7, 2) := by decide +kernel
theorem dX5_disc_169 : decode cX5_disc 169 = .ok (.ireturn, 1) := by decide +kernel
theorem dX5_disc_170 : decode cX5_disc 170 = .ok (.ldc 91, 2) := by decide +kernel
theorem dX5_disc_172 : decode cX5_disc 172 = .ok (.ireturn, 1) := by decide +kernel
theorem dX5_jar_0 : decode cX5_jar 0 = .ok (.iload_n 1, 1) := by decide +kernel
theorem dX5_jar_1 : decode cX5_jar 1 = .ok (.invokestatic 98, 3) := by decide +kernel
theorem dX5_jar_4 : decode cX5_jar 4 = .ok (.ifCond .ne 8, 3) := by decide +kernel
theorem dX5_jar_7 : decode cX5_jar 7 = .ok (.ldc 105, 2) := by decide +kernel
theorem dX5_jar_9 : decode cX5_jar 9 = .ok (.goto 33, 3) := by decide +kernel
theorem dX5_jar_12 : decode cX5_jar 12 = .ok (.iload_n 2, 1) := by decide +kernel
theorem dX5_jar_13 : decode cX5_jar 13 = .ok (.i2l, 1) := by decide +kernel
theorem dX5_jar_14 : decode cX5_jar 14 = .ok (.lconst 0, 1) := by decide +kernel
theorem dX5_jar_15 : decode cX5_jar 15 = .ok (.ldc2_w 122, 3) := by decide +kernel
theorem dX5_jar_18 : decode cX5_jar 18 = .ok (.invokestatic 75, 3) := by decide +kernel
theorem dX5_jar_21 : decode cX5_jar 21 = .ok (.ifCond .eq 19, 3) := by decide +kernel
theorem dX5_jar_24 : decode cX5_jar 24 = .ok (.aload_n 0, 1) := by decide +kernel
theorem dX5_jar_25 : decode cX5_jar 25 = .ok (.getfield 7, 3) := by decide +kernel
theorem dX5_jar_28 : decode cX5_jar 28 = .ok (.bipush 37, 2) := by decide +kernel
theorem dX5_jar_30 : decode cX5_jar 30 = .ok (.iconst 2, 1) := by decide +kernel
theorem dX5_jar_31 : decode cX5_jar 31 = .ok (.iload_n 2, 1) := by decide +kernel
theorem dX5_jar_32 : decode cX5_jar 32 = .ok (.imul, 1) := by decide +kernel
theorem dX5_jar_33 : decode cX5_jar 33 = .ok (.iadd, 1) := by decide +kernel
theorem dX5_jar_34 : decode cX5_jar 34 = .ok (.iload_n 1, 1) := by decide +kernel
theorem dX5_jar_35 : decode cX5_jar 35 = .ok (.iadd, 1) := by decide +kernel
theorem dX5_jar_36 : decode cX5_jar 36 = .ok (.iaload, 1) := by decide +kernel
theorem dX5_jar_37 : decode cX5_jar 37 = .ok (.goto 5, 3) := by decide +kernel
theorem dX5_jar_40 : decode cX5_jar 40 = .ok (.ldc 91, 2) := by decide +kernel
theorem dX5_jar_42 : decode cX5_jar 42 = .ok (.ireturn, 1) := by decide +kernel
theorem dX5_spark_0 : decode cX5_spark 0 = .ok (.iload_n 1, 1) := by decide +kernel
theorem dX5_spark_1 : decode cX5_spark 1 = .ok (.ifCond .lt 15, 3) := by decide +kernel
theorem dX5_spark_4 : decode cX5_spark 4 = .ok (.iload_n 2, 1) := by decide +kernel
theorem dX5_spark_5 : decode cX5_spark 5 = .ok (.i2l, 1) := by decide +kernel
theorem dX5_spark_6 : decode cX5_spark 6 = .ok (.lconst 0, 1) := by decide +kernel
theorem dX5_spark_7 : decode cX5_spark 7 = .ok (.ldc2_w 122, 3) := by decide +kernel
theorem dX5_spark_10 : decode cX5_spark 10 = .ok (.invokestatic 75, 3) := by decide +kernel
theorem dX5_spark_13 : decode cX5_spark 13 = .ok (.ifCond .ne 6, 3) := by decide +kernel
theorem dX5_spark_16 : decode cX5_spark 16 = .ok (.ldc 91, 2) := by decide +kernel
theorem dX5_spark_18 : decode cX5_spark 18 = .ok (.ireturn, 1) := by decide +kernel
theorem dX5_spark_19 : decode cX5_spark 19 = .ok (.iload_n 1, 1) := by decide +kernel
theorem dX5_spark_20 : decode cX5_spark 20 = .ok (.aload_n 0, 1) := by decide +kernel
theorem dX5_spark_21 : decode cX5_spark 21 = .ok (.getfield 7, 3) := by decide +kernel
theorem dX5_spark_24 : decode cX5_spark 24 = .ok (.bipush 12, 2) := by decide +kernel
theorem dX5_spark_26 : decode cX5_spark 26 = .ok (.iaload, 1) := by decide +kernel
theorem dX5_spark_27 : decode cX5_spark 27 = .ok (.if_icmp .ge 29, 3) := by decide +kernel
theorem dX5_spark_30 : decode cX5_spark 30 = .ok (.aload_n 0, 1) := by decide +kernel
theorem dX5_spark_31 : decode cX5_spark 31 = .ok (.getfield 7, 3) := by decide +kernel
theorem dX5_spark_34 : decode cX5_spark 34 = .ok (.bipush 43, 2) := by decide +kernel
theorem dX5_spark_36 : decode cX5_spark 36 = .ok (.iconst 3, 1) := by decide +kernel
theorem dX5_spark_37 : decode cX5_spark 37 = .ok (.aload_n 0, 1) := by decide +kernel
theorem dX5_spark_38 : decode cX5_spark 38 = .ok (.getfield 7, 3) := by decide +kernel
theorem dX5_spark_41 : decode cX5_spark 41 = .ok (.bipush 12, 2) := by decide +kernel
theorem dX5_spark_43 : decode cX5_spark 43 = .ok (.iaload, 1) := by decide +kernel
theorem dX5_spark_44 : decode cX5_spark 44 = .ok (.iconst 1, 1) := by decide +kernel
theorem dX5_spark_45 : decode cX5_spark 45 = .ok (.isub, 1) := by decide +kernel
theorem dX5_spark_46 : decode cX5_spark 46 = .ok (.iload_n 1, 1) := by decide +kernel
theorem dX5_spark_47 : decode cX5_spark 47 = .ok (.isub, 1) := by decide +kernel
theorem dX5_spark_48 : decode cX5_spark 48 = .ok (.imul, 1) := by decide +kernel
theorem dX5_spark_49 : decode cX5_spark 49 = .ok (.iadd, 1) := by decide +kernel
theorem dX5_spark_50 : decode cX5_spark 50 = .ok (.iload_n 2, 1) := by decide +kernel
theorem dX5_spark_51 : decode cX5_spark 51 = .ok (.iadd, 1) := by decide +kernel
theorem dX5_spark_52 : decode cX5_spark 52 = .ok (.iaload, 1) := by decide +kernel
theorem dX5_spark_53 : decode cX5_spark 53 = .ok (.goto 5, 3) := by decide +kernel
theorem dX5_spark_56 : decode cX5_spark 56 = .ok (.ldc 124, 2) := by decide +kernel
theorem dX5_spark_58 : decode cX5_spark 58 = .ok (.ireturn, 1) := by decide +kernel
theorem dX5_allCharge_0 : decode cX5_allCharge 0 = .ok (.aload_n 0, 1) := by decide +kernel
theorem dX5_allCharge_1 : decode cX5_allCharge 1 = .ok (.getfield 7, 3) := by decide +kernel
theorem dX5_allCharge_4 : decode cX5_allCharge 4 = .ok (.bipush 37, 2) := by decide +kernel
theorem dX5_allCharge_6 : decode cX5_allCharge 6 = .ok (.iaload, 1) := by decide +kernel
theorem dX5_allCharge_7 : decode cX5_allCharge 7 = .ok (.aload_n 0, 1) := by decide +kernel
theorem dX5_allCharge_8 : decode cX5_allCharge 8 = .ok (.getfield 7, 3) := by decide +kernel
theorem dX5_allCharge_11 : decode cX5_allCharge 11 = .ok (.bipush 38, 2) := by decide +kernel
theorem dX5_allCharge_13 : decode cX5_allCharge 13 = .ok (.iaload, 1) := by decide +kernel
theorem dX5_allCharge_14 : decode cX5_allCharge 14 = .ok (.iadd, 1) := by decide +kernel
theorem dX5_allCharge_15 : decode cX5_allCharge 15 = .ok (.istore_n 1, 1) := by decide +kernel
theorem dX5_allCharge_16 : decode cX5_allCharge 16 = .ok (.bipush 13, 2) := by decide +kernel
theorem dX5_allCharge_18 : decode cX5_allCharge 18 = .ok (.istore_n 2, 1) := by decide +kernel
theorem dX5_allCharge_19 : decode cX5_allCharge 19 = .ok (.iload_n 2, 1) := by decide +kernel
theorem dX5_allCharge_20 : decode cX5_allCharge 20 = .ok (.bipush 37, 2) := by decide +kernel
theorem dX5_allCharge_22 : decode cX5_allCharge 22 = .ok (.if_icmp .ge 18, 3) := by decide +kernel
theorem dX5_allCharge_25 : decode cX5_allCharge 25 = .ok (.iload_n 1, 1) := by decide +kernel
theorem dX5_allCharge_26 : decode cX5_allCharge 26 = .ok (.aload_n 0, 1) := by decide +kernel
theorem dX5_allCharge_27 : decode cX5_allCharge 27 = .ok (.getfield 7, 3) := by decide +kernel
theorem dX5_allCharge_30 : decode cX5_allCharge 30 = .ok (.iload_n 2, 1) := by decide +kernel
theorem dX5_allCharge_31 : decode cX5_allCharge 31 = .ok (.iaload, 1) := by decide +kernel
theorem dX5_allCharge_32 : decode cX5_allCharge 32 = .ok (.iadd, 1) := by decide +kernel
theorem dX5_allCharge_33 : decode cX5_allCharge 33 = .ok (.istore_n 1, 1) := by decide +kernel
theorem dX5_allCharge_34 : decode cX5_allCharge 34 = .ok (.iinc 2 1, 3) := by decide +kernel
theorem dX5_allCharge_37 : decode cX5_allCharge 37 = .ok (.goto (-18), 3) := by decide +kernel
theorem dX5_allCharge_40 : decode cX5_allCharge 40 = .ok (.iload_n 1, 1) := by decide +kernel
theorem dX5_allCharge_41 : decode cX5_allCharge 41 = .ok (.ireturn, 1) := by decide +kernel
theorem dX5_count_0 : decode cX5_count 0 = .ok (.iload_n 1, 1) := by decide +kernel
theorem dX5_count_1 : decode cX5_count 1 = .ok (.tableswitch 76 8 14 #[43, 48, 53, 53, 53, 66, 71], 43) := by decide +kernel
theorem dX5_count_44 : decode cX5_count 44 = .ok (.aload_n 0, 1) := by decide +kernel
theorem dX5_count_45 : decode cX5_count 45 = .ok (.invokevirtual 67, 3) := by decide +kernel
theorem dX5_count_48 : decode cX5_count 48 = .ok (.ireturn, 1) := by decide +kernel
theorem dX5_count_49 : decode cX5_count 49 = .ok (.aload_n 0, 1) := by decide +kernel
theorem dX5_count_50 : decode cX5_count 50 = .ok (.invokevirtual 125, 3) := by decide +kernel
theorem dX5_count_53 : decode cX5_count 53 = .ok (.ireturn, 1) := by decide +kernel
theorem dX5_count_54 : decode cX5_count 54 = .ok (.aload_n 0, 1) := by decide +kernel
theorem dX5_count_55 : decode cX5_count 55 = .ok (.getfield 7, 3) := by decide +kernel
theorem dX5_count_58 : decode cX5_count 58 = .ok (.bipush 9, 2) := by decide +kernel
theorem dX5_count_60 : decode cX5_count 60 = .ok (.iload_n 1, 1) := by decide +kernel
theorem dX5_count_61 : decode cX5_count 61 = .ok (.iadd, 1) := by decide +kernel
theorem dX5_count_62 : decode cX5_count 62 = .ok (.bipush 10, 2) := by decide +kernel
theorem dX5_count_64 : decode cX5_count 64 = .ok (.isub, 1) := by decide +kernel
theorem dX5_count_65 : decode cX5_count 65 = .ok (.iaload, 1) := by decide +kernel
theorem dX5_count_66 : decode cX5_count 66 = .ok (.ireturn, 1) := by decide +kernel
theorem dX5_count_67 : decode cX5_count 67 = .ok (.aload_n 0, 1) := by decide +kernel
theorem dX5_count_68 : decode cX5_count 68 = .ok (.getfield 128, 3) := by decide +kernel
theorem dX5_count_71 : decode cX5_count 71 = .ok (.ireturn, 1) := by decide +kernel
theorem dX5_count_72 : decode cX5_count 72 = .ok (.aload_n 0, 1) := by decide +kernel
theorem dX5_count_73 : decode cX5_count 73 = .ok (.getfield 28, 3) := by decide +kernel
theorem dX5_count_76 : decode cX5_count 76 = .ok (.ireturn, 1) := by decide +kernel
theorem dX5_count_77 : decode cX5_count 77 = .ok (.iload_n 1, 1) := by decide +kernel
theorem dX5_count_78 : decode cX5_count 78 = .ok (.i2l, 1) := by decide +kernel
theorem dX5_count_79 : decode cX5_count 79 = .ok (.lconst 0, 1) := by decide +kernel
theorem dX5_count_80 : decode cX5_count 80 = .ok (.ldc2_w 131, 3) := by decide +kernel
theorem dX5_count_83 : decode cX5_count 83 = .ok (.invokestatic 75, 3) := by decide +kernel
theorem dX5_count_86 : decode cX5_count 86 = .ok (.ifCond .eq 12, 3) := by decide +kernel
theorem dX5_count_89 : decode cX5_count 89 = .ok (.aload_n 0, 1) := by decide +kernel
theorem dX5_count_90 : decode cX5_count 90 = .ok (.getfield 7, 3) := by decide +kernel
theorem dX5_count_93 : decode cX5_count 93 = .ok (.iload_n 1, 1) := by decide +kernel
theorem dX5_count_94 : decode cX5_count 94 = .ok (.iaload, 1) := by decide +kernel
theorem dX5_count_95 : decode cX5_count 95 = .ok (.goto 5, 3) := by decide +kernel
theorem dX5_count_98 : decode cX5_count 98 = .ok (.ldc 91, 2) := by decide +kernel
theorem dX5_count_100 : decode cX5_count 100 = .ok (.ireturn, 1) := by decide +kernel
theorem dX5_nextSpark_0 : decode cX5_nextSpark 0 = .ok (.aload_n 0, 1) := by decide +kernel
theorem dX5_nextSpark_1 : decode cX5_nextSpark 1 = .ok (.invokevirtual 133, 3) := by decide +kernel
theorem dX5_nextSpark_4 : decode cX5_nextSpark 4 = .ok (.aload_n 0, 1) := by decide +kernel
theorem dX5_nextSpark_5 : decode cX5_nextSpark 5 = .ok (.getfield 7, 3) := by decide +kernel
theorem dX5_nextSpark_8 : decode cX5_nextSpark 8 = .ok (.bipush 6, 2) := by decide +kernel
theorem dX5_nextSpark_10 : decode cX5_nextSpark 10 = .ok (.iaload, 1) := by decide +kernel
theorem dX5_nextSpark_11 : decode cX5_nextSpark 11 = .ok (.istore_n 2, 1) := by decide +kernel
theorem dX5_nextSpark_12 : decode cX5_nextSpark 12 = .ok (.iconst 0, 1) := by decide +kernel
theorem dX5_nextSpark_13 : decode cX5_nextSpark 13 = .ok (.istore_n 3, 1) := by decide +kernel
theorem dX5_nextSpark_14 : decode cX5_nextSpark 14 = .ok (.iload_n 3, 1) := by decide +kernel
theorem dX5_nextSpark_15 : decode cX5_nextSpark 15 = .ok (.iload_n 1, 1) := by decide +kernel
theorem dX5_nextSpark_16 : decode cX5_nextSpark 16 = .ok (.if_icmp .gt 24, 3) := by decide +kernel
theorem dX5_nextSpark_19 : decode cX5_nextSpark 19 = .ok (.aload_n 0, 1) := by decide +kernel
theorem dX5_nextSpark_20 : decode cX5_nextSpark 20 = .ok (.getfield 7, 3) := by decide +kernel
theorem dX5_nextSpark_23 : decode cX5_nextSpark 23 = .ok (.bipush 6, 2) := by decide +kernel
theorem dX5_nextSpark_25 : decode cX5_nextSpark 25 = .ok (.iaload, 1) := by decide +kernel
theorem dX5_nextSpark_26 : decode cX5_nextSpark 26 = .ok (.iload_n 2, 1) := by decide +kernel
theorem dX5_nextSpark_27 : decode cX5_nextSpark 27 = .ok (.if_icmp .ne 13, 3) := by decide +kernel
theorem dX5_nextSpark_30 : decode cX5_nextSpark 30 = .ok (.aload_n 0, 1) := by decide +kernel
theorem dX5_nextSpark_31 : decode cX5_nextSpark 31 = .ok (.invokevirtual 70, 3) := by decide +kernel
theorem dX5_nextSpark_34 : decode cX5_nextSpark 34 = .ok (.iinc 3 1, 3) := by decide +kernel
theorem dX5_nextSpark_37 : decode cX5_nextSpark 37 = .ok (.goto (-23), 3) := by decide +kernel
theorem dX5_nextSpark_40 : decode cX5_nextSpark 40 = .ok (.aload_n 0, 1) := by decide +kernel
theorem dX5_nextSpark_41 : decode cX5_nextSpark 41 = .ok (.invokevirtual 136, 3) := by decide +kernel
theorem dX5_nextSpark_44 : decode cX5_nextSpark 44 = .ok (.iload_n 3, 1) := by decide +kernel
theorem dX5_nextSpark_45 : decode cX5_nextSpark 45 = .ok (.iload_n 1, 1) := by decide +kernel
theorem dX5_nextSpark_46 : decode cX5_nextSpark 46 = .ok (.if_icmp .le 8, 3) := by decide +kernel
theorem dX5_nextSpark_49 : decode cX5_nextSpark 49 = .ok (.ldc 124, 2) := by decide +kernel
theorem dX5_nextSpark_51 : decode cX5_nextSpark 51 = .ok (.goto 4, 3) := by decide +kernel
theorem dX5_nextSpark_54 : decode cX5_nextSpark 54 = .ok (.iload_n 3, 1) := by decide +kernel
theorem dX5_nextSpark_55 : decode cX5_nextSpark 55 = .ok (.ireturn, 1) := by decide +kernel
theorem dX5_untilSpark_0 : decode cX5_untilSpark 0 = .ok (.aload_n 0, 1) := by decide +kernel
theorem dX5_untilSpark_1 : decode cX5_untilSpark 1 = .ok (.sipush 400, 3) := by decide +kernel
theorem dX5_untilSpark_4 : decode cX5_untilSpark 4 = .ok (.invokevirtual 139, 3) := by decide +kernel
theorem dX5_untilSpark_7 : decode cX5_untilSpark 7 = .ok (.ireturn, 1) := by decide +kernel
theorem dX5_ifTurned_0 : decode cX5_ifTurned 0 = .ok (.iload_n 1, 1) := by decide +kernel
theorem dX5_ifTurned_1 : decode cX5_ifTurned 1 = .ok (.i2l, 1) := by decide +kernel
theorem dX5_ifTurned_2 : decode cX5_ifTurned 2 = .ok (.lconst 1, 1) := by decide +kernel
theorem dX5_ifTurned_3 : decode cX5_ifTurned 3 = .ok (.ldc2_w 142, 3) := by decide +kernel
theorem dX5_ifTurned_6 : decode cX5_ifTurned 6 = .ok (.invokestatic 75, 3) := by decide +kernel
theorem dX5_ifTurned_9 : decode cX5_ifTurned 9 = .ok (.ifCond .eq 15, 3) := by decide +kernel
theorem dX5_ifTurned_12 : decode cX5_ifTurned 12 = .ok (.iload_n 2, 1) := by decide +kernel
theorem dX5_ifTurned_13 : decode cX5_ifTurned 13 = .ok (.i2l, 1) := by decide +kernel
theorem dX5_ifTurned_14 : decode cX5_ifTurned 14 = .ok (.lconst 0, 1) := by decide +kernel
theorem dX5_ifTurned_15 : decode cX5_ifTurned 15 = .ok (.ldc2_w 144, 3) := by decide +kernel
theorem dX5_ifTurned_18 : decode cX5_ifTurned 18 = .ok (.invokestatic 75, 3) := by decide +kernel
theorem dX5_ifTurned_21 : decode cX5_ifTurned 21 = .ok (.ifCond .ne 6, 3) := by decide +kernel
theorem dX5_ifTurned_24 : decode cX5_ifTurned 24 = .ok (.ldc 91, 2) := by decide +kernel
theorem dX5_ifTurned_26 : decode cX5_ifTurned 26 = .ok (.ireturn, 1) := by decide +kernel
theorem dX5_ifTurned_27 : decode cX5_ifTurned 27 = .ok (.aload_n 0, 1) := by decide +kernel
theorem dX5_ifTurned_28 : decode cX5_ifTurned 28 = .ok (.getfield 7, 3) := by decide +kernel
theorem dX5_ifTurned_31 : decode cX5_ifTurned 31 = .ok (.bipush 7, 2) := by decide +kernel
theorem dX5_ifTurned_33 : decode cX5_ifTurned 33 = .ok (.iaload, 1) := by decide +kernel
theorem dX5_ifTurned_34 : decode cX5_ifTurned 34 = .ok (.istore_n 3, 1) := by decide +kernel
theorem dX5_ifTurned_35 : decode cX5_ifTurned 35 = .ok (.aload_n 0, 1) := by decide +kernel
theorem dX5_ifTurned_36 : decode cX5_ifTurned 36 = .ok (.invokevirtual 133, 3) := by decide +kernel
theorem dX5_ifTurned_39 : decode cX5_ifTurned 39 = .ok (.iconst 0, 1) := by decide +kernel
theorem dX5_ifTurned_40 : decode cX5_ifTurned 40 = .ok (.istore 4, 2) := by decide +kernel
theorem dX5_ifTurned_42 : decode cX5_ifTurned 42 = .ok (.iconst 0, 1) := by decide +kernel
theorem dX5_ifTurned_43 : decode cX5_ifTurned 43 = .ok (.istore 5, 2) := by decide +kernel
theorem dX5_ifTurned_45 : decode cX5_ifTurned 45 = .ok (.iconst 0, 1) := by decide +kernel
theorem dX5_ifTurned_46 : decode cX5_ifTurned 46 = .ok (.istore 6, 2) := by decide +kernel
theorem dX5_ifTurned_48 : decode cX5_ifTurned 48 = .ok (.iload 6, 2) := by decide +kernel
theorem dX5_ifTurned_50 : decode cX5_ifTurned 50 = .ok (.iload_n 1, 1) := by decide +kernel
theorem dX5_ifTurned_51 : decode cX5_ifTurned 51 = .ok (.if_icmp .ge 39, 3) := by decide +kernel
theorem dX5_ifTurned_54 : decode cX5_ifTurned 54 = .ok (.iload 5, 2) := by decide +kernel
theorem dX5_ifTurned_56 : decode cX5_ifTurned 56 = .ok (.aload_n 0, 1) := by decide +kernel
theorem dX5_ifTurned_57 : decode cX5_ifTurned 57 = .ok (.iconst 1, 1) := by decide +kernel
theorem dX5_ifTurned_58 : decode cX5_ifTurned 58 = .ok (.invokevirtual 115, 3) := by decide +kernel
theorem dX5_ifTurned_61 : decode cX5_ifTurned 61 = .ok (.iadd, 1) := by decide +kernel
theorem dX5_ifTurned_62 : decode cX5_ifTurned 62 = .ok (.istore 5, 2) := by decide +kernel
theorem dX5_ifTurned_64 : decode cX5_ifTurned 64 = .ok (.aload_n 0, 1) := by decide +kernel
theorem dX5_ifTurned_65 : decode cX5_ifTurned 65 = .ok (.invokevirtual 40, 3) := by decide +kernel
theorem dX5_ifTurned_68 : decode cX5_ifTurned 68 = .ok (.iload 4, 2) := by decide +kernel
theorem dX5_ifTurned_70 : decode cX5_ifTurned 70 = .ok (.if_icmp .le 10, 3) := by decide +kernel
theorem dX5_ifTurned_73 : decode cX5_ifTurned 73 = .ok (.aload_n 0, 1) := by decide +kernel
theorem dX5_ifTurned_74 : decode cX5_ifTurned 74 = .ok (.invokevirtual 40, 3) := by decide +kernel
theorem dX5_ifTurned_77 : decode cX5_ifTurned 77 = .ok (.goto 5, 3) := by decide +kernel
theorem dX5_ifTurned_80 : decode cX5_ifTurned 80 = .ok (.iload 4, 2) := by decide +kernel
theorem dX5_ifTurned_82 : decode cX5_ifTurned 82 = .ok (.istore 4, 2) := by decide +kernel
theorem dX5_ifTurned_84 : decode cX5_ifTurned 84 = .ok (.iinc 6 1, 3) := by decide +kernel
theorem dX5_ifTurned_87 : decode cX5_ifTurned 87 = .ok (.goto (-39), 3) := by decide +kernel
theorem dX5_ifTurned_90 : decode cX5_ifTurned 90 = .ok (.iload_n 2, 1) := by decide +kernel
theorem dX5_ifTurned_91 : decode cX5_ifTurned 91 = .ok (.ifCond .ne 8, 3) := by decide +kernel
theorem dX5_ifTurned_94 : decode cX5_ifTurned 94 = .ok (.iload 5, 2) := by decide +kernel
theorem dX5_ifTurned_96 : decode cX5_ifTurned 96 = .ok (.goto 53, 3) := by decide +kernel
theorem dX5_ifTurned_99 : decode cX5_ifTurned 99 = .ok (.iload_n 2, 1) := by decide +kernel
theorem dX5_ifTurned_100 : decode cX5_ifTurned 100 = .ok (.iconst 1, 1) := by decide +kernel
theorem dX5_ifTurned_101 : decode cX5_ifTurned 101 = .ok (.if_icmp .ne 15, 3) := by decide +kernel
theorem dX5_ifTurned_104 : decode cX5_ifTurned 104 = .ok (.aload_n 0, 1) := by decide +kernel
theorem dX5_ifTurned_105 : decode cX5_ifTurned 105 = .ok (.getfield 7, 3) := by decide +kernel
theorem dX5_ifTurned_108 : decode cX5_ifTurned 108 = .ok (.bipush 7, 2) := by decide +kernel
theorem dX5_ifTurned_110 : decode cX5_ifTurned 110 = .ok (.iaload, 1) := by decide +kernel
theorem dX5_ifTurned_111 : decode cX5_ifTurned 111 = .ok (.iload_n 3, 1) := by decide +kernel
theorem dX5_ifTurned_112 : decode cX5_ifTurned 112 = .ok (.isub, 1) := by decide +kernel
theorem dX5_ifTurned_113 : decode cX5_ifTurned 113 = .ok (.goto 36, 3) := by decide +kernel
theorem dX5_ifTurned_116 : decode cX5_ifTurned 116 = .ok (.iload_n 2, 1) := by decide +kernel
theorem dX5_ifTurned_117 : decode cX5_ifTurned 117 = .ok (.iconst 4, 1) := by decide +kernel
theorem dX5_ifTurned_118 : decode cX5_ifTurned 118 = .ok (.if_icmp .ne 8, 3) := by decide +kernel
theorem dX5_ifTurned_121 : decode cX5_ifTurned 121 = .ok (.iload 4, 2) := by decide +kernel
theorem dX5_ifTurned_123 : decode cX5_ifTurned 123 = .ok (.goto 26, 3) := by decide +kernel
theorem dX5_ifTurned_126 : decode cX5_ifTurned 126 = .ok (.iload_n 2, 1) := by decide +kernel
theorem dX5_ifTurned_127 : decode cX5_ifTurned 127 = .ok (.iconst 5, 1) := by decide +kernel
theorem dX5_ifTurned_128 : decode cX5_ifTurned 128 = .ok (.if_icmp .ne 10, 3) := by decide +kernel
theorem dX5_ifTurned_131 : decode cX5_ifTurned 131 = .ok (.aload_n 0, 1) := by decide +kernel
theorem dX5_ifTurned_132 : decode cX5_ifTurned 132 = .ok (.invokevirtual 125, 3) := by decide +kernel
theorem dX5_ifTurned_135 : decode cX5_ifTurned 135 = .ok (.goto 14, 3) := by decide +kernel
theorem dX5_ifTurned_138 : decode cX5_ifTurned 138 = .ok (.aload_n 0, 1) := by decide +kernel
theorem dX5_ifTurned_139 : decode cX5_ifTurned 139 = .ok (.getfield 7, 3) := by decide +kernel
theorem dX5_ifTurned_142 : decode cX5_ifTurned 142 = .ok (.bipush 37, 2) := by decide +kernel
theorem dX5_ifTurned_144 : decode cX5_ifTurned 144 = .ok (.iload_n 2, 1) := by decide +kernel
theorem dX5_ifTurned_145 : decode cX5_ifTurned 145 = .ok (.iadd, 1) := by decide +kernel
theorem dX5_ifTurned_146 : decode cX5_ifTurned 146 = .ok (.iconst 2, 1) := by decide +kernel
theorem dX5_ifTurned_147 : decode cX5_ifTurned 147 = .ok (.isub, 1) := by decide +kernel
theorem dX5_ifTurned_148 : decode cX5_ifTurned 148 = .ok (.iaload, 1) := by decide +kernel
theorem dX5_ifTurned_149 : decode cX5_ifTurned 149 = .ok (.istore 6, 2) := by decide +kernel
theorem dX5_ifTurned_151 : decode cX5_ifTurned 151 = .ok (.aload_n 0, 1) := by decide +kernel
theorem dX5_ifTurned_152 : decode cX5_ifTurned 152 = .ok (.invokevirtual 136, 3) := by decide +kernel
theorem dX5_ifTurned_155 : decode cX5_ifTurned 155 = .ok (.iload 6, 2) := by decide +kernel
theorem dX5_ifTurned_157 : decode cX5_ifTurned 157 = .ok (.ireturn, 1) := by decide +kernel
theorem dX5_widestGap_0 : decode cX5_widestGap 0 = .ok (.aload_n 0, 1) := by decide +kernel
theorem dX5_widestGap_1 : decode cX5_widestGap 1 = .ok (.invokevirtual 133, 3) := by decide +kernel
theorem dX5_widestGap_4 : decode cX5_widestGap 4 = .ok (.iconst 0, 1) := by decide +kernel
theorem dX5_widestGap_5 : decode cX5_widestGap 5 = .ok (.istore_n 1, 1) := by decide +kernel
theorem dX5_widestGap_6 : decode cX5_widestGap 6 = .ok (.iconst 0, 1) := by decide +kernel
theorem dX5_widestGap_7 : decode cX5_widestGap 7 = .ok (.istore_n 2, 1) := by decide +kernel
theorem dX5_widestGap_8 : decode cX5_widestGap 8 = .ok (.iload_n 2, 1) := by decide +kernel
theorem dX5_widestGap_9 : decode cX5_widestGap 9 = .ok (.sipush 200, 3) := by decide +kernel
theorem dX5_widestGap_12 : decode cX5_widestGap 12 = .ok (.if_icmp .ge 30, 3) := by decide +kernel
theorem dX5_widestGap_15 : decode cX5_widestGap 15 = .ok (.aload_n 0, 1) := by decide +kernel
theorem dX5_widestGap_16 : decode cX5_widestGap 16 = .ok (.invokevirtual 61, 3) := by decide +kernel
theorem dX5_widestGap_19 : decode cX5_widestGap 19 = .ok (.aload_n 0, 1) := by decide +kernel
theorem dX5_widestGap_20 : decode cX5_widestGap 20 = .ok (.invokevirtual 40, 3) := by decide +kernel
theorem dX5_widestGap_23 : decode cX5_widestGap 23 = .ok (.iload_n 1, 1) := by decide +kernel
theorem dX5_widestGap_24 : decode cX5_widestGap 24 = .ok (.if_icmp .le 10, 3) := by decide +kernel
theorem dX5_widestGap_27 : decode cX5_widestGap 27 = .ok (.aload_n 0, 1) := by decide +kernel
theorem dX5_widestGap_28 : decode cX5_widestGap 28 = .ok (.invokevirtual 40, 3) := by decide +kernel
theorem dX5_widestGap_31 : decode cX5_widestGap 31 = .ok (.goto 4, 3) := by decide +kernel
theorem dX5_widestGap_34 : decode cX5_widestGap 34 = .ok (.iload_n 1, 1) := by decide +kernel
theorem dX5_widestGap_35 : decode cX5_widestGap 35 = .ok (.istore_n 1, 1) := by decide +kernel
theorem dX5_widestGap_36 : decode cX5_widestGap 36 = .ok (.iinc 2 1, 3) := by decide +kernel
theorem dX5_widestGap_39 : decode cX5_widestGap 39 = .ok (.goto (-31), 3) := by decide +kernel
theorem dX5_widestGap_42 : decode cX5_widestGap 42 = .ok (.aload_n 0, 1) := by decide +kernel
theorem dX5_widestGap_43 : decode cX5_widestGap 43 = .ok (.invokevirtual 136, 3) := by decide +kernel
theorem dX5_widestGap_46 : decode cX5_widestGap 46 = .ok (.iload_n 1, 1) := by decide +kernel
theorem dX5_widestGap_47 : decode cX5_widestGap 47 = .ok (.bipush 10, 2) := by decide +kernel
theorem dX5_widestGap_49 : decode cX5_widestGap 49 = .ok (.if_icmp .ge 8, 3) := by decide +kernel
theorem dX5_widestGap_52 : decode cX5_widestGap 52 = .ok (.ldc 124, 2) := by decide +kernel
theorem dX5_widestGap_54 : decode cX5_widestGap 54 = .ok (.goto 20, 3) := by decide +kernel
theorem dX5_widestGap_57 : decode cX5_widestGap 57 = .ok (.iload_n 1, 1) := by decide +kernel
theorem dX5_widestGap_58 : decode cX5_widestGap 58 = .ok (.sipush 2000, 3) := by decide +kernel
theorem dX5_widestGap_61 : decode cX5_widestGap 61 = .ok (.if_icmp .le 9, 3) := by decide +kernel
theorem dX5_widestGap_64 : decode cX5_widestGap 64 = .ok (.sipush 200, 3) := by decide +kernel
theorem dX5_widestGap_67 : decode cX5_widestGap 67 = .ok (.goto 7, 3) := by decide +kernel
theorem dX5_widestGap_70 : decode cX5_widestGap 70 = .ok (.iload_n 1, 1) := by decide +kernel
theorem dX5_widestGap_71 : decode cX5_widestGap 71 = .ok (.bipush 10, 2) := by decide +kernel
theorem dX5_widestGap_73 : decode cX5_widestGap 73 = .ok (.idiv, 1) := by decide +kernel
theorem dX5_widestGap_74 : decode cX5_widestGap 74 = .ok (.ireturn, 1) := by decide +kernel
theorem dX5_mostDamp_0 : decode cX5_mostDamp 0 = .ok (.aload_n 0, 1) := by decide +kernel
theorem dX5_mostDamp_1 : decode cX5_mostDamp 1 = .ok (.getfield 7, 3) := by decide +kernel
theorem dX5_mostDamp_4 : decode cX5_mostDamp 4 = .ok (.iconst 1, 1) := by decide +kernel
theorem dX5_mostDamp_5 : decode cX5_mostDamp 5 = .ok (.iaload, 1) := by decide +kernel
theorem dX5_mostDamp_6 : decode cX5_mostDamp 6 = .ok (.istore_n 1, 1) := by decide +kernel
theorem dX5_mostDamp_7 : decode cX5_mostDamp 7 = .ok (.bipush 61, 2) := by decide +kernel
theorem dX5_mostDamp_9 : decode cX5_mostDamp 9 = .ok (.istore_n 2, 1) := by decide +kernel
theorem dX5_mostDamp_10 : decode cX5_mostDamp 10 = .ok (.iconst 0, 1) := by decide +kernel
theorem dX5_mostDamp_11 : decode cX5_mostDamp 11 = .ok (.istore_n 3, 1) := by decide +kernel
theorem dX5_mostDamp_12 : decode cX5_mostDamp 12 = .ok (.iload_n 2, 1) := by decide +kernel
theorem dX5_mostDamp_13 : decode cX5_mostDamp 13 = .ok (.ifCond .le 38, 3) := by decide +kernel
theorem dX5_mostDamp_16 : decode cX5_mostDamp 16 = .ok (.iload_n 3, 1) := by decide +kernel
theorem dX5_mostDamp_17 : decode cX5_mostDamp 17 = .ok (.ifCond .ne 34, 3) := by decide +kernel
theorem dX5_mostDamp_20 : decode cX5_mostDamp 20 = .ok (.iinc 2 (-1), 3) := by decide +kernel
theorem dX5_mostDamp_23 : decode cX5_mostDamp 23 = .ok (.aload_n 0, 1) := by decide +kernel
theorem dX5_mostDamp_24 : decode cX5_mostDamp 24 = .ok (.getfield 7, 3) := by decide +kernel
theorem dX5_mostDamp_27 : decode cX5_mostDamp 27 = .ok (.iconst 1, 1) := by decide +kernel
theorem dX5_mostDamp_28 : decode cX5_mostDamp 28 = .ok (.iload_n 2, 1) := by decide +kernel
theorem dX5_mostDamp_29 : decode cX5_mostDamp 29 = .ok (.iastore, 1) := by decide +kernel
theorem dX5_mostDamp_30 : decode cX5_mostDamp 30 = .ok (.aload_n 0, 1) := by decide +kernel
theorem dX5_mostDamp_31 : decode cX5_mostDamp 31 = .ok (.sipush 200, 3) := by decide +kernel
theorem dX5_mostDamp_34 : decode cX5_mostDamp 34 = .ok (.invokevirtual 139, 3) := by decide +kernel
theorem dX5_mostDamp_37 : decode cX5_mostDamp 37 = .ok (.ldc 124, 2) := by decide +kernel
theorem dX5_mostDamp_39 : decode cX5_mostDamp 39 = .ok (.if_icmp .eq 7, 3) := by decide +kernel
theorem dX5_mostDamp_42 : decode cX5_mostDamp 42 = .ok (.iconst 1, 1) := by decide +kernel
theorem dX5_mostDamp_43 : decode cX5_mostDamp 43 = .ok (.goto 4, 3) := by decide +kernel
theorem dX5_mostDamp_46 : decode cX5_mostDamp 46 = .ok (.iconst 0, 1) := by decide +kernel
theorem dX5_mostDamp_47 : decode cX5_mostDamp 47 = .ok (.istore_n 3, 1) := by decide +kernel
theorem dX5_mostDamp_48 : decode cX5_mostDamp 48 = .ok (.goto (-36), 3) := by decide +kernel
theorem dX5_mostDamp_51 : decode cX5_mostDamp 51 = .ok (.aload_n 0, 1) := by decide +kernel
theorem dX5_mostDamp_52 : decode cX5_mostDamp 52 = .ok (.getfield 7, 3) := by decide +kernel
theorem dX5_mostDamp_55 : decode cX5_mostDamp 55 = .ok (.iconst 1, 1) := by decide +kernel
theorem dX5_mostDamp_56 : decode cX5_mostDamp 56 = .ok (.iload_n 1, 1) := by decide +kernel
theorem dX5_mostDamp_57 : decode cX5_mostDamp 57 = .ok (.iastore, 1) := by decide +kernel
theorem dX5_mostDamp_58 : decode cX5_mostDamp 58 = .ok (.iload_n 3, 1) := by decide +kernel
theorem dX5_mostDamp_59 : decode cX5_mostDamp 59 = .ok (.ifCond .eq 7, 3) := by decide +kernel
theorem dX5_mostDamp_62 : decode cX5_mostDamp 62 = .ok (.iload_n 2, 1) := by decide +kernel
theorem dX5_mostDamp_63 : decode cX5_mostDamp 63 = .ok (.goto 5, 3) := by decide +kernel
theorem dX5_mostDamp_66 : decode cX5_mostDamp 66 = .ok (.ldc 124, 2) := by decide +kernel
theorem dX5_mostDamp_68 : decode cX5_mostDamp 68 = .ok (.ireturn, 1) := by decide +kernel
theorem dX5_charactersOf_0 : decode cX5_charactersOf 0 = .ok (.lload_n 0, 1) := by decide +kernel
theorem dX5_charactersOf_1 : decode cX5_charactersOf 1 = .ok (.lstore_n 2, 1) := by decide +kernel
theorem dX5_charactersOf_2 : decode cX5_charactersOf 2 = .ok (.iconst 0, 1) := by decide +kernel
theorem dX5_charactersOf_3 : decode cX5_charactersOf 3 = .ok (.istore 4, 2) := by decide +kernel
theorem dX5_charactersOf_5 : decode cX5_charactersOf 5 = .ok (.iload 4, 2) := by decide +kernel
theorem dX5_charactersOf_7 : decode cX5_charactersOf 7 = .ok (.bipush 8, 2) := by decide +kernel
theorem dX5_charactersOf_9 : decode cX5_charactersOf 9 = .ok (.if_icmp .ge 31, 3) := by decide +kernel
theorem dX5_charactersOf_12 : decode cX5_charactersOf 12 = .ok (.lload_n 2, 1) := by decide +kernel
theorem dX5_charactersOf_13 : decode cX5_charactersOf 13 = .ok (.ldc2_w 146, 3) := by decide +kernel
theorem dX5_charactersOf_16 : decode cX5_charactersOf 16 = .ok (.land, 1) := by decide +kernel
theorem dX5_charactersOf_17 : decode cX5_charactersOf 17 = .ok (.ldc2_w 148, 3) := by decide +kernel
theorem dX5_charactersOf_20 : decode cX5_charactersOf 20 = .ok (.ldc2_w 150, 3) := by decide +kernel
theorem dX5_charactersOf_23 : decode cX5_charactersOf 23 = .ok (.invokestatic 75, 3) := by decide +kernel
theorem dX5_charactersOf_26 : decode cX5_charactersOf 26 = .ok (.ifCond .eq 14, 3) := by decide +kernel
theorem dX5_charactersOf_29 : decode cX5_charactersOf 29 = .ok (.lload_n 2, 1) := by decide +kernel
theorem dX5_charactersOf_30 : decode cX5_charactersOf 30 = .ok (.bipush 8, 2) := by decide +kernel
theorem dX5_charactersOf_32 : decode cX5_charactersOf 32 = .ok (.lushr, 1) := by decide +kernel
theorem dX5_charactersOf_33 : decode cX5_charactersOf 33 = .ok (.lstore_n 2, 1) := by decide +kernel
theorem dX5_charactersOf_34 : decode cX5_charactersOf 34 = .ok (.iinc 4 1, 3) := by decide +kernel
theorem dX5_charactersOf_37 : decode cX5_charactersOf 37 = .ok (.goto (-32), 3) := by decide +kernel
theorem dX5_charactersOf_40 : decode cX5_charactersOf 40 = .ok (.lload_n 2, 1) := by decide +kernel
theorem dX5_charactersOf_41 : decode cX5_charactersOf 41 = .ok (.lconst 0, 1) := by decide +kernel
theorem dX5_charactersOf_42 : decode cX5_charactersOf 42 = .ok (.lcmp, 1) := by decide +kernel
theorem dX5_charactersOf_43 : decode cX5_charactersOf 43 = .ok (.ifCond .ne 8, 3) := by decide +kernel
theorem dX5_charactersOf_46 : decode cX5_charactersOf 46 = .ok (.iload 4, 2) := by decide +kernel
theorem dX5_charactersOf_48 : decode cX5_charactersOf 48 = .ok (.goto 4, 3) := by decide +kernel
theorem dX5_charactersOf_51 : decode cX5_charactersOf 51 = .ok (.iconst 0, 1) := by decide +kernel
theorem dX5_charactersOf_52 : decode cX5_charactersOf 52 = .ok (.ireturn, 1) := by decide +kernel
theorem dX5_put_0 : decode cX5_put 0 = .ok (.lload_n 1, 1) := by decide +kernel
theorem dX5_put_1 : decode cX5_put 1 = .ok (.invokestatic 152, 3) := by decide +kernel
theorem dX5_put_4 : decode cX5_put 4 = .ok (.istore_n 3, 1) := by decide +kernel
theorem dX5_put_5 : decode cX5_put 5 = .ok (.iload_n 3, 1) := by decide +kernel
theorem dX5_put_6 : decode cX5_put 6 = .ok (.ifCond .ne 6, 3) := by decide +kernel
theorem dX5_put_9 : decode cX5_put 9 = .ok (.ldc 91, 2) := by decide +kernel
theorem dX5_put_11 : decode cX5_put 11 = .ok (.ireturn, 1) := by decide +kernel
theorem dX5_put_12 : decode cX5_put 12 = .ok (.aload_n 0, 1) := by decide +kernel
theorem dX5_put_13 : decode cX5_put 13 = .ok (.getfield 128, 3) := by decide +kernel
theorem dX5_put_16 : decode cX5_put 16 = .ok (.iload_n 3, 1) := by decide +kernel
theorem dX5_put_17 : decode cX5_put 17 = .ok (.iadd, 1) := by decide +kernel
theorem dX5_put_18 : decode cX5_put 18 = .ok (.bipush 60, 2) := by decide +kernel
theorem dX5_put_20 : decode cX5_put 20 = .ok (.if_icmp .le 6, 3) := by decide +kernel
theorem dX5_put_23 : decode cX5_put 23 = .ok (.ldc 114, 2) := by decide +kernel
theorem dX5_put_25 : decode cX5_put 25 = .ok (.ireturn, 1) := by decide +kernel
theorem dX5_put_26 : decode cX5_put 26 = .ok (.iconst 0, 1) := by decide +kernel
theorem dX5_put_27 : decode cX5_put 27 = .ok (.istore 4, 2) := by decide +kernel
theorem dX5_put_29 : decode cX5_put 29 = .ok (.iload 4, 2) := by decide +kernel
theorem dX5_put_31 : decode cX5_put 31 = .ok (.iload_n 3, 1) := by decide +kernel
theorem dX5_put_32 : decode cX5_put 32 = .ok (.if_icmp .ge 37, 3) := by decide +kernel
theorem dX5_put_35 : decode cX5_put 35 = .ok (.aload_n 0, 1) := by decide +kernel
theorem dX5_put_36 : decode cX5_put 36 = .ok (.getfield 25, 3) := by decide +kernel
theorem dX5_put_39 : decode cX5_put 39 = .ok (.aload_n 0, 1) := by decide +kernel
theorem dX5_put_40 : decode cX5_put 40 = .ok (.getfield 128, 3) := by decide +kernel
theorem dX5_put_43 : decode cX5_put 43 = .ok (.iload 4, 2) := by decide +kernel
theorem dX5_put_45 : decode cX5_put 45 = .ok (.iadd, 1) := by decide +kernel
theorem dX5_put_46 : decode cX5_put 46 = .ok (.lload_n 1, 1) := by decide +kernel
theorem dX5_put_47 : decode cX5_put 47 = .ok (.bipush 8, 2) := by decide +kernel
theorem dX5_put_49 : decode cX5_put 49 = .ok (.iload_n 3, 1) := by decide +kernel
theorem dX5_put_50 : decode cX5_put 50 = .ok (.iconst 1, 1) := by decide +kernel
theorem dX5_put_51 : decode cX5_put 51 = .ok (.isub, 1) := by decide +kernel
theorem dX5_put_52 : decode cX5_put 52 = .ok (.iload 4, 2) := by decide +kernel
theorem dX5_put_54 : decode cX5_put 54 = .ok (.isub, 1) := by decide +kernel
theorem dX5_put_55 : decode cX5_put 55 = .ok (.imul, 1) := by decide +kernel
theorem dX5_put_56 : decode cX5_put 56 = .ok (.lushr, 1) := by decide +kernel
theorem dX5_put_57 : decode cX5_put 57 = .ok (.ldc2_w 146, 3) := by decide +kernel
theorem dX5_put_60 : decode cX5_put 60 = .ok (.land, 1) := by decide +kernel
theorem dX5_put_61 : decode cX5_put 61 = .ok (.l2i, 1) := by decide +kernel
theorem dX5_put_62 : decode cX5_put 62 = .ok (.iastore, 1) := by decide +kernel
theorem dX5_put_63 : decode cX5_put 63 = .ok (.iinc 4 1, 3) := by decide +kernel
theorem dX5_put_66 : decode cX5_put 66 = .ok (.goto (-37), 3) := by decide +kernel
theorem dX5_put_69 : decode cX5_put 69 = .ok (.aload_n 0, 1) := by decide +kernel
theorem dX5_put_70 : decode cX5_put 70 = .ok (.dup, 1) := by decide +kernel
theorem dX5_put_71 : decode cX5_put 71 = .ok (.getfield 128, 3) := by decide +kernel
theorem dX5_put_74 : decode cX5_put 74 = .ok (.iload_n 3, 1) := by decide +kernel
theorem dX5_put_75 : decode cX5_put 75 = .ok (.iadd, 1) := by decide +kernel
theorem dX5_put_76 : decode cX5_put 76 = .ok (.putfield 128, 3) := by decide +kernel
theorem dX5_put_79 : decode cX5_put 79 = .ok (.aload_n 0, 1) := by decide +kernel
theorem dX5_put_80 : decode cX5_put 80 = .ok (.getfield 128, 3) := by decide +kernel
theorem dX5_put_83 : decode cX5_put 83 = .ok (.ireturn, 1) := by decide +kernel
theorem dX5_wipe_0 : decode cX5_wipe 0 = .ok (.aload_n 0, 1) := by decide +kernel
theorem dX5_wipe_1 : decode cX5_wipe 1 = .ok (.getfield 128, 3) := by decide +kernel
theorem dX5_wipe_4 : decode cX5_wipe 4 = .ok (.istore_n 1, 1) := by decide +kernel
theorem dX5_wipe_5 : decode cX5_wipe 5 = .ok (.aload_n 0, 1) := by decide +kernel
theorem dX5_wipe_6 : decode cX5_wipe 6 = .ok (.iconst 0, 1) := by decide +kernel
theorem dX5_wipe_7 : decode cX5_wipe 7 = .ok (.putfield 128, 3) := by decide +kernel
theorem dX5_wipe_10 : decode cX5_wipe 10 = .ok (.iload_n 1, 1) := by decide +kernel
theorem dX5_wipe_11 : decode cX5_wipe 11 = .ok (.ireturn, 1) := by decide +kernel
theorem dX5_isHere_0 : decode cX5_isHere 0 = .ok (.aload_n 0, 1) := by decide +kernel
theorem dX5_isHere_1 : decode cX5_isHere 1 = .ok (.getfield 156, 3) := by decide +kernel
theorem dX5_isHere_4 : decode cX5_isHere 4 = .ok (.aload_n 0, 1) := by decide +kernel
theorem dX5_isHere_5 : decode cX5_isHere 5 = .ok (.getfield 128, 3) := by decide +kernel
theorem dX5_isHere_8 : decode cX5_isHere 8 = .ok (.if_icmp .ge 27, 3) := by decide +kernel
theorem dX5_isHere_11 : decode cX5_isHere 11 = .ok (.aload_n 0, 1) := by decide +kernel
theorem dX5_isHere_12 : decode cX5_isHere 12 = .ok (.getfield 25, 3) := by decide +kernel
theorem dX5_isHere_15 : decode cX5_isHere 15 = .ok (.aload_n 0, 1) := by decide +kernel
theorem dX5_isHere_16 : decode cX5_isHere 16 = .ok (.getfield 156, 3) := by decide +kernel
theorem dX5_isHere_19 : decode cX5_isHere 19 = .ok (.iaload, 1) := by decide +kernel
theorem dX5_isHere_20 : decode cX5_isHere 20 = .ok (.i2l, 1) := by decide +kernel
theorem dX5_isHere_21 : decode cX5_isHere 21 = .ok (.iload_n 1, 1) := by decide +kernel
theorem dX5_isHere_22 : decode cX5_isHere 22 = .ok (.i2l, 1) := by decide +kernel
theorem dX5_isHere_23 : decode cX5_isHere 23 = .ok (.iload_n 2, 1) := by decide +kernel
theorem dX5_isHere_24 : decode cX5_isHere 24 = .ok (.i2l, 1) := by decide +kernel
theorem dX5_isHere_25 : decode cX5_isHere 25 = .ok (.invokestatic 75, 3) := by decide +kernel
theorem dX5_isHere_28 : decode cX5_isHere 28 = .ok (.ifCond .eq 7, 3) := by decide +kernel
theorem dX5_isHere_31 : decode cX5_isHere 31 = .ok (.iconst 1, 1) := by decide +kernel
theorem dX5_isHere_32 : decode cX5_isHere 32 = .ok (.goto 4, 3) := by decide +kernel
theorem dX5_isHere_35 : decode cX5_isHere 35 = .ok (.iconst 0, 1) := by decide +kernel
theorem dX5_isHere_36 : decode cX5_isHere 36 = .ok (.ireturn, 1) := by decide +kernel
theorem dX5_takesOne_0 : decode cX5_takesOne 0 = .ok (.aload_n 0, 1) := by decide +kernel
theorem dX5_takesOne_1 : decode cX5_takesOne 1 = .ok (.iload_n 1, 1) := by decide +kernel
theorem dX5_takesOne_2 : decode cX5_takesOne 2 = .ok (.iload_n 1, 1) := by decide +kernel
theorem dX5_takesOne_3 : decode cX5_takesOne 3 = .ok (.invokevirtual 159, 3) := by decide +kernel
theorem dX5_takesOne_6 : decode cX5_takesOne 6 = .ok (.istore_n 2, 1) := by decide +kernel
theorem dX5_takesOne_7 : decode cX5_takesOne 7 = .ok (.aload_n 0, 1) := by decide +kernel
theorem dX5_takesOne_8 : decode cX5_takesOne 8 = .ok (.dup, 1) := by decide +kernel
theorem dX5_takesOne_9 : decode cX5_takesOne 9 = .ok (.getfield 156, 3) := by decide +kernel
theorem dX5_takesOne_12 : decode cX5_takesOne 12 = .ok (.iload_n 2, 1) := by decide +kernel
theorem dX5_takesOne_13 : decode cX5_takesOne 13 = .ok (.ifCond .eq 7, 3) := by decide +kernel
theorem dX5_takesOne_16 : decode cX5_takesOne 16 = .ok (.iconst 1, 1) := by decide +kernel
theorem dX5_takesOne_17 : decode cX5_takesOne 17 = .ok (.goto 4, 3) := by decide +kernel
theorem dX5_takesOne_20 : decode cX5_takesOne 20 = .ok (.iconst 0, 1) := by decide +kernel
theorem dX5_takesOne_21 : decode cX5_takesOne 21 = .ok (.iadd, 1) := by decide +kernel
theorem dX5_takesOne_22 : decode cX5_takesOne 22 = .ok (.putfield 156, 3) := by decide +kernel
theorem dX5_takesOne_25 : decode cX5_takesOne 25 = .ok (.iload_n 2, 1) := by decide +kernel
theorem dX5_takesOne_26 : decode cX5_takesOne 26 = .ok (.ireturn, 1) := by decide +kernel
theorem dX5_readsNumber_0 : decode cX5_readsNumber 0 = .ok (.aload_n 0, 1) := by decide +kernel
theorem dX5_readsNumber_1 : decode cX5_readsNumber 1 = .ok (.bipush 48, 2) := by decide +kernel
theorem dX5_readsNumber_3 : decode cX5_readsNumber 3 = .ok (.iload_n 1, 1) := by decide +kernel
theorem dX5_readsNumber_4 : decode cX5_readsNumber 4 = .ok (.iadd, 1) := by decide +kernel
theorem dX5_readsNumber_5 : decode cX5_readsNumber 5 = .ok (.bipush 57, 2) := by decide +kernel
theorem dX5_readsNumber_7 : decode cX5_readsNumber 7 = .ok (.invokevirtual 159, 3) := by decide +kernel
theorem dX5_readsNumber_10 : decode cX5_readsNumber 10 = .ok (.ifCond .ne 5, 3) := by decide +kernel
theorem dX5_readsNumber_13 : decode cX5_readsNumber 13 = .ok (.iconst 0, 1) := by decide +kernel
theorem dX5_readsNumber_14 : decode cX5_readsNumber 14 = .ok (.ireturn, 1) := by decide +kernel
theorem dX5_readsNumber_15 : decode cX5_readsNumber 15 = .ok (.aload_n 0, 1) := by decide +kernel
theorem dX5_readsNumber_16 : decode cX5_readsNumber 16 = .ok (.aload_n 0, 1) := by decide +kernel
theorem dX5_readsNumber_17 : decode cX5_readsNumber 17 = .ok (.getfield 25, 3) := by decide +kernel
theorem dX5_readsNumber_20 : decode cX5_readsNumber 20 = .ok (.aload_n 0, 1) := by decide +kernel
theorem dX5_readsNumber_21 : decode cX5_readsNumber 21 = .ok (.getfield 156, 3) := by decide +kernel
theorem dX5_readsNumber_24 : decode cX5_readsNumber 24 = .ok (.iaload, 1) := by decide +kernel
theorem dX5_readsNumber_25 : decode cX5_readsNumber 25 = .ok (.bipush 48, 2) := by decide +kernel
theorem dX5_readsNumber_27 : decode cX5_readsNumber 27 = .ok (.isub, 1) := by decide +kernel
theorem dX5_readsNumber_28 : decode cX5_readsNumber 28 = .ok (.putfield 162, 3) := by decide +kernel
theorem dX5_readsNumber_31 : decode cX5_readsNumber 31 = .ok (.aload_n 0, 1) := by decide +kernel
theorem dX5_readsNumber_32 : decode cX5_readsNumber 32 = .ok (.dup, 1) := by decide +kernel
theorem dX5_readsNumber_33 : decode cX5_readsNumber 33 = .ok (.getfield 156, 3) := by decide +kernel
theorem dX5_readsNumber_36 : decode cX5_readsNumber 36 = .ok (.iconst 1, 1) := by decide +kernel
theorem dX5_readsNumber_37 : decode cX5_readsNumber 37 = .ok (.iadd, 1) := by decide +kernel
theorem dX5_readsNumber_38 : decode cX5_readsNumber 38 = .ok (.putfield 156, 3) := by decide +kernel
theorem dX5_readsNumber_41 : decode cX5_readsNumber 41 = .ok (.aload_n 0, 1) := by decide +kernel
theorem dX5_readsNumber_42 : decode cX5_readsNumber 42 = .ok (.getfield 162, 3) := by decide +kernel
theorem dX5_readsNumber_45 : decode cX5_readsNumber 45 = .ok (.ifCond .le 72, 3) := by decide +kernel
theorem dX5_readsNumber_48 : decode cX5_readsNumber 48 = .ok (.aload_n 0, 1) := by decide +kernel
theorem dX5_readsNumber_49 : decode cX5_readsNumber 49 = .ok (.bipush 48, 2) := by decide +kernel
theorem dX5_readsNumber_51 : decode cX5_readsNumber 51 = .ok (.bipush 57, 2) := by decide +kernel
theorem dX5_readsNumber_53 : decode cX5_readsNumber 53 = .ok (.invokevirtual 159, 3) := by decide +kernel
theorem dX5_readsNumber_56 : decode cX5_readsNumber 56 = .ok (.ifCond .eq 61, 3) := by decide +kernel
theorem dX5_readsNumber_59 : decode cX5_readsNumber 59 = .ok (.bipush 10, 2) := by decide +kernel
theorem dX5_readsNumber_61 : decode cX5_readsNumber 61 = .ok (.aload_n 0, 1) := by decide +kernel
theorem dX5_readsNumber_62 : decode cX5_readsNumber 62 = .ok (.getfield 162, 3) := by decide +kernel
theorem dX5_readsNumber_65 : decode cX5_readsNumber 65 = .ok (.imul, 1) := by decide +kernel
theorem dX5_readsNumber_66 : decode cX5_readsNumber 66 = .ok (.aload_n 0, 1) := by decide +kernel
theorem dX5_readsNumber_67 : decode cX5_readsNumber 67 = .ok (.getfield 25, 3) := by decide +kernel
theorem dX5_readsNumber_70 : decode cX5_readsNumber 70 = .ok (.aload_n 0, 1) := by decide +kernel
theorem dX5_readsNumber_71 : decode cX5_readsNumber 71 = .ok (.getfield 156, 3) := by decide +kernel
theorem dX5_readsNumber_74 : decode cX5_readsNumber 74 = .ok (.iaload, 1) := by decide +kernel
theorem dX5_readsNumber_75 : decode cX5_readsNumber 75 = .ok (.iadd, 1) := by decide +kernel
theorem dX5_readsNumber_76 : decode cX5_readsNumber 76 = .ok (.bipush 48, 2) := by decide +kernel
theorem dX5_readsNumber_78 : decode cX5_readsNumber 78 = .ok (.isub, 1) := by decide +kernel
theorem dX5_readsNumber_79 : decode cX5_readsNumber 79 = .ok (.iload_n 2, 1) := by decide +kernel
theorem dX5_readsNumber_80 : decode cX5_readsNumber 80 = .ok (.if_icmp .gt 37, 3) := by decide +kernel
theorem dX5_readsNumber_83 : decode cX5_readsNumber 83 = .ok (.aload_n 0, 1) := by decide +kernel
theorem dX5_readsNumber_84 : decode cX5_readsNumber 84 = .ok (.bipush 10, 2) := by decide +kernel
theorem dX5_readsNumber_86 : decode cX5_readsNumber 86 = .ok (.aload_n 0, 1) := by decide +kernel
theorem dX5_readsNumber_87 : decode cX5_readsNumber 87 = .ok (.getfield 162, 3) := by decide +kernel
theorem dX5_readsNumber_90 : decode cX5_readsNumber 90 = .ok (.imul, 1) := by decide +kernel
theorem dX5_readsNumber_91 : decode cX5_readsNumber 91 = .ok (.aload_n 0, 1) := by decide +kernel
theorem dX5_readsNumber_92 : decode cX5_readsNumber 92 = .ok (.getfield 25, 3) := by decide +kernel
theorem dX5_readsNumber_95 : decode cX5_readsNumber 95 = .ok (.aload_n 0, 1) := by decide +kernel
theorem dX5_readsNumber_96 : decode cX5_readsNumber 96 = .ok (.getfield 156, 3) := by decide +kernel
theorem dX5_readsNumber_99 : decode cX5_readsNumber 99 = .ok (.iaload, 1) := by decide +kernel
theorem dX5_readsNumber_100 : decode cX5_readsNumber 100 = .ok (.iadd, 1) := by decide +kernel
theorem dX5_readsNumber_101 : decode cX5_readsNumber 101 = .ok (.bipush 48, 2) := by decide +kernel
theorem dX5_readsNumber_103 : decode cX5_readsNumber 103 = .ok (.isub, 1) := by decide +kernel
theorem dX5_readsNumber_104 : decode cX5_readsNumber 104 = .ok (.putfield 162, 3) := by decide +kernel
theorem dX5_readsNumber_107 : decode cX5_readsNumber 107 = .ok (.aload_n 0, 1) := by decide +kernel
theorem dX5_readsNumber_108 : decode cX5_readsNumber 108 = .ok (.dup, 1) := by decide +kernel
theorem dX5_readsNumber_109 : decode cX5_readsNumber 109 = .ok (.getfield 156, 3) := by decide +kernel
theorem dX5_readsNumber_112 : decode cX5_readsNumber 112 = .ok (.iconst 1, 1) := by decide +kernel
theorem dX5_readsNumber_113 : decode cX5_readsNumber 113 = .ok (.iadd, 1) := by decide +kernel
theorem dX5_readsNumber_114 : decode cX5_readsNumber 114 = .ok (.putfield 156, 3) := by decide +kernel
theorem dX5_readsNumber_117 : decode cX5_readsNumber 117 = .ok (.iconst 1, 1) := by decide +kernel
theorem dX5_readsNumber_118 : decode cX5_readsNumber 118 = .ok (.ireturn, 1) := by decide +kernel
theorem dX5_readsTouch_0 : decode cX5_readsTouch 0 = .ok (.aload_n 0, 1) := by decide +kernel
theorem dX5_readsTouch_1 : decode cX5_readsTouch 1 = .ok (.iconst 0, 1) := by decide +kernel
theorem dX5_readsTouch_2 : decode cX5_readsTouch 2 = .ok (.bipush 11, 2) := by decide +kernel
theorem dX5_readsTouch_4 : decode cX5_readsTouch 4 = .ok (.invokevirtual 165, 3) := by decide +kernel
theorem dX5_readsTouch_7 : decode cX5_readsTouch 7 = .ok (.istore_n 1, 1) := by decide +kernel
theorem dX5_readsTouch_8 : decode cX5_readsTouch 8 = .ok (.aload_n 0, 1) := by decide +kernel
theorem dX5_readsTouch_9 : decode cX5_readsTouch 9 = .ok (.aload_n 0, 1) := by decide +kernel
theorem dX5_readsTouch_10 : decode cX5_readsTouch 10 = .ok (.getfield 162, 3) := by decide +kernel
theorem dX5_readsTouch_13 : decode cX5_readsTouch 13 = .ok (.putfield 168, 3) := by decide +kernel
theorem dX5_readsTouch_16 : decode cX5_readsTouch 16 = .ok (.iload_n 1, 1) := by decide +kernel
theorem dX5_readsTouch_17 : decode cX5_readsTouch 17 = .ok (.ifCond .eq 12, 3) := by decide +kernel
theorem dX5_readsTouch_20 : decode cX5_readsTouch 20 = .ok (.aload_n 0, 1) := by decide +kernel
theorem dX5_readsTouch_21 : decode cX5_readsTouch 21 = .ok (.bipush 61, 2) := by decide +kernel
theorem dX5_readsTouch_23 : decode cX5_readsTouch 23 = .ok (.invokevirtual 171, 3) := by decide +kernel
theorem dX5_readsTouch_26 : decode cX5_readsTouch 26 = .ok (.ifCond .ne 5, 3) := by decide +kernel
theorem dX5_readsTouch_29 : decode cX5_readsTouch 29 = .ok (.iconst 0, 1) := by decide +kernel
theorem dX5_readsTouch_30 : decode cX5_readsTouch 30 = .ok (.ireturn, 1) := by decide +kernel
theorem dX5_readsTouch_31 : decode cX5_readsTouch 31 = .ok (.aload_n 0, 1) := by decide +kernel
theorem dX5_readsTouch_32 : decode cX5_readsTouch 32 = .ok (.bipush 45, 2) := by decide +kernel
theorem dX5_readsTouch_34 : decode cX5_readsTouch 34 = .ok (.invokevirtual 171, 3) := by decide +kernel
theorem dX5_readsTouch_37 : decode cX5_readsTouch 37 = .ok (.istore_n 2, 1) := by decide +kernel
theorem dX5_readsTouch_38 : decode cX5_readsTouch 38 = .ok (.aload_n 0, 1) := by decide +kernel
theorem dX5_readsTouch_39 : decode cX5_readsTouch 39 = .ok (.iconst 0, 1) := by decide +kernel
theorem dX5_readsTouch_40 : decode cX5_readsTouch 40 = .ok (.bipush 99, 2) := by decide +kernel
theorem dX5_readsTouch_42 : decode cX5_readsTouch 42 = .ok (.invokevirtual 165, 3) := by decide +kernel
theorem dX5_readsTouch_45 : decode cX5_readsTouch 45 = .ok (.istore_n 3, 1) := by decide +kernel
theorem dX5_readsTouch_46 : decode cX5_readsTouch 46 = .ok (.aload_n 0, 1) := by decide +kernel
theorem dX5_readsTouch_47 : decode cX5_readsTouch 47 = .ok (.iload_n 2, 1) := by decide +kernel
theorem dX5_readsTouch_48 : decode cX5_readsTouch 48 = .ok (.ifCond .eq 11, 3) := by decide +kernel
theorem dX5_readsTouch_51 : decode cX5_readsTouch 51 = .ok (.aload_n 0, 1) := by decide +kernel
theorem dX5_readsTouch_52 : decode cX5_readsTouch 52 = .ok (.getfield 162, 3) := by decide +kernel
theorem dX5_readsTouch_55 : decode cX5_readsTouch 55 = .ok (.ineg, 1) := by decide +kernel
theorem dX5_readsTouch_56 : decode cX5_readsTouch 56 = .ok (.goto 7, 3) := by decide +kernel
theorem dX5_readsTouch_59 : decode cX5_readsTouch 59 = .ok (.aload_n 0, 1) := by decide +kernel
theorem dX5_readsTouch_60 : decode cX5_readsTouch 60 = .ok (.getfield 162, 3) := by decide +kernel
theorem dX5_readsTouch_63 : decode cX5_readsTouch 63 = .ok (.putfield 174, 3) := by decide +kernel
theorem dX5_readsTouch_66 : decode cX5_readsTouch 66 = .ok (.iload_n 3, 1) := by decide +kernel
theorem dX5_readsTouch_67 : decode cX5_readsTouch 67 = .ok (.ireturn, 1) := by decide +kernel
theorem dX5_readsDeed_0 : decode cX5_readsDeed 0 = .ok (.aload_n 0, 1) := by decide +kernel
theorem dX5_readsDeed_1 : decode cX5_readsDeed 1 = .ok (.aload_n 0, 1) := by decide +kernel
theorem dX5_readsDeed_2 : decode cX5_readsDeed 2 = .ok (.getfield 156, 3) := by decide +kernel
theorem dX5_readsDeed_5 : decode cX5_readsDeed 5 = .ok (.aload_n 0, 1) := by decide +kernel
theorem dX5_readsDeed_6 : decode cX5_readsDeed 6 = .ok (.getfield 128, 3) := by decide +kernel
theorem dX5_readsDeed_9 : decode cX5_readsDeed 9 = .ok (.if_icmp .ge 15, 3) := by decide +kernel
theorem dX5_readsDeed_12 : decode cX5_readsDeed 12 = .ok (.aload_n 0, 1) := by decide +kernel
theorem dX5_readsDeed_13 : decode cX5_readsDeed 13 = .ok (.getfield 25, 3) := by decide +kernel
theorem dX5_readsDeed_16 : decode cX5_readsDeed 16 = .ok (.aload_n 0, 1) := by decide +kernel
theorem dX5_readsDeed_17 : decode cX5_readsDeed 17 = .ok (.getfield 156, 3) := by decide +kernel
theorem dX5_readsDeed_20 : decode cX5_readsDeed 20 = .ok (.iaload, 1) := by decide +kernel
theorem dX5_readsDeed_21 : decode cX5_readsDeed 21 = .ok (.goto 4, 3) := by decide +kernel
theorem dX5_readsDeed_24 : decode cX5_readsDeed 24 = .ok (.iconst 0, 1) := by decide +kernel
theorem dX5_readsDeed_25 : decode cX5_readsDeed 25 = .ok (.putfield 177, 3) := by decide +kernel
theorem dX5_readsDeed_28 : decode cX5_readsDeed 28 = .ok (.aload_n 0, 1) := by decide +kernel
theorem dX5_readsDeed_29 : decode cX5_readsDeed 29 = .ok (.bipush 120, 2) := by decide +kernel
theorem dX5_readsDeed_31 : decode cX5_readsDeed 31 = .ok (.invokevirtual 171, 3) := by decide +kernel
theorem dX5_readsDeed_34 : decode cX5_readsDeed 34 = .ok (.ifCond .eq 5, 3) := by decide +kernel
theorem dX5_readsDeed_37 : decode cX5_readsDeed 37 = .ok (.iconst 1, 1) := by decide +kernel
theorem dX5_readsDeed_38 : decode cX5_readsDeed 38 = .ok (.ireturn, 1) := by decide +kernel
theorem dX5_readsDeed_39 : decode cX5_readsDeed 39 = .ok (.aload_n 0, 1) := by decide +kernel
theorem dX5_readsDeed_40 : decode cX5_readsDeed 40 = .ok (.bipush 46, 2) := by decide +kernel
theorem dX5_readsDeed_42 : decode cX5_readsDeed 42 = .ok (.invokevirtual 171, 3) := by decide +kernel
theorem dX5_readsDeed_45 : decode cX5_readsDeed 45 = .ok (.ifCond .eq 11, 3) := by decide +kernel
theorem dX5_readsDeed_48 : decode cX5_readsDeed 48 = .ok (.aload_n 0, 1) := by decide +kernel
theorem dX5_readsDeed_49 : decode cX5_readsDeed 49 = .ok (.iconst 1, 1) := by decide +kernel
theorem dX5_readsDeed_50 : decode cX5_readsDeed 50 = .ok (.bipush 99, 2) := by decide +kernel
theorem dX5_readsDeed_52 : decode cX5_readsDeed 52 = .ok (.invokevirtual 165, 3) := by decide +kernel
theorem dX5_readsDeed_55 : decode cX5_readsDeed 55 = .ok (.ireturn, 1) := by decide +kernel
theorem dX5_readsDeed_56 : decode cX5_readsDeed 56 = .ok (.aload_n 0, 1) := by decide +kernel
theorem dX5_readsDeed_57 : decode cX5_readsDeed 57 = .ok (.bipush 102, 2) := by decide +kernel
theorem dX5_readsDeed_59 : decode cX5_readsDeed 59 = .ok (.invokevirtual 171, 3) := by decide +kernel
theorem dX5_readsDeed_62 : decode cX5_readsDeed 62 = .ok (.ifCond .ne 12, 3) := by decide +kernel
theorem dX5_readsDeed_65 : decode cX5_readsDeed 65 = .ok (.aload_n 0, 1) := by decide +kernel
theorem dX5_readsDeed_66 : decode cX5_readsDeed 66 = .ok (.bipush 98, 2) := by decide +kernel
theorem dX5_readsDeed_68 : decode cX5_readsDeed 68 = .ok (.invokevirtual 171, 3) := by decide +kernel
theorem dX5_readsDeed_71 : decode cX5_readsDeed 71 = .ok (.ifCond .eq 14, 3) := by decide +kernel
theorem dX5_readsDeed_74 : decode cX5_readsDeed 74 = .ok (.aload_n 0, 1) := by decide +kernel
theorem dX5_readsDeed_75 : decode cX5_readsDeed 75 = .ok (.invokevirtual 180, 3) := by decide +kernel
theorem dX5_readsDeed_78 : decode cX5_readsDeed 78 = .ok (.ifCond .eq 7, 3) := by decide +kernel
theorem dX5_readsDeed_81 : decode cX5_readsDeed 81 = .ok (.iconst 1, 1) := by decide +kernel
theorem dX5_readsDeed_82 : decode cX5_readsDeed 82 = .ok (.goto 4, 3) := by decide +kernel
theorem dX5_readsDeed_85 : decode cX5_readsDeed 85 = .ok (.iconst 0, 1) := by decide +kernel
theorem dX5_readsDeed_86 : decode cX5_readsDeed 86 = .ok (.ireturn, 1) := by decide +kernel
theorem dX5_fault_0 : decode cX5_fault 0 = .ok (.aload_n 0, 1) := by decide +kernel
theorem dX5_fault_1 : decode cX5_fault 1 = .ok (.iconst 0, 1) := by decide +kernel
theorem dX5_fault_2 : decode cX5_fault 2 = .ok (.putfield 156, 3) := by decide +kernel
theorem dX5_fault_5 : decode cX5_fault 5 = .ok (.iconst 1, 1) := by decide +kernel
theorem dX5_fault_6 : decode cX5_fault 6 = .ok (.istore_n 1, 1) := by decide +kernel
theorem dX5_fault_7 : decode cX5_fault 7 = .ok (.iload_n 1, 1) := by decide +kernel
theorem dX5_fault_8 : decode cX5_fault 8 = .ok (.ifCond .eq 25, 3) := by decide +kernel
theorem dX5_fault_11 : decode cX5_fault 11 = .ok (.aload_n 0, 1) := by decide +kernel
theorem dX5_fault_12 : decode cX5_fault 12 = .ok (.invokevirtual 184, 3) := by decide +kernel
theorem dX5_fault_15 : decode cX5_fault 15 = .ok (.ifCond .ne 8, 3) := by decide +kernel
theorem dX5_fault_18 : decode cX5_fault 18 = .ok (.aload_n 0, 1) := by decide +kernel
theorem dX5_fault_19 : decode cX5_fault 19 = .ok (.getfield 156, 3) := by decide +kernel
theorem dX5_fault_22 : decode cX5_fault 22 = .ok (.ireturn, 1) := by decide +kernel
theorem dX5_fault_23 : decode cX5_fault 23 = .ok (.aload_n 0, 1) := by decide +kernel
theorem dX5_fault_24 : decode cX5_fault 24 = .ok (.bipush 59, 2) := by decide +kernel
theorem dX5_fault_26 : decode cX5_fault 26 = .ok (.invokevirtual 171, 3) := by decide +kernel
theorem dX5_fault_29 : decode cX5_fault 29 = .ok (.istore_n 1, 1) := by decide +kernel
theorem dX5_fault_30 : decode cX5_fault 30 = .ok (.goto (-23), 3) := by decide +kernel
theorem dX5_fault_33 : decode cX5_fault 33 = .ok (.aload_n 0, 1) := by decide +kernel
theorem dX5_fault_34 : decode cX5_fault 34 = .ok (.getfield 156, 3) := by decide +kernel
theorem dX5_fault_37 : decode cX5_fault 37 = .ok (.aload_n 0, 1) := by decide +kernel
theorem dX5_fault_38 : decode cX5_fault 38 = .ok (.getfield 128, 3) := by decide +kernel
theorem dX5_fault_41 : decode cX5_fault 41 = .ok (.if_icmp .ne 8, 3) := by decide +kernel
theorem dX5_fault_44 : decode cX5_fault 44 = .ok (.ldc 124, 2) := by decide +kernel
theorem dX5_fault_46 : decode cX5_fault 46 = .ok (.goto 7, 3) := by decide +kernel
theorem dX5_fault_49 : decode cX5_fault 49 = .ok (.aload_n 0, 1) := by decide +kernel
theorem dX5_fault_50 : decode cX5_fault 50 = .ok (.getfield 156, 3) := by decide +kernel
theorem dX5_fault_53 : decode cX5_fault 53 = .ok (.ireturn, 1) := by decide +kernel
theorem dX5_does_0 : decode cX5_does 0 = .ok (.aload_n 0, 1) := by decide +kernel
theorem dX5_does_1 : decode cX5_does 1 = .ok (.getfield 177, 3) := by decide +kernel
theorem dX5_does_4 : decode cX5_does 4 = .ok (.bipush 46, 2) := by decide +kernel
theorem dX5_does_6 : decode cX5_does 6 = .ok (.if_icmp .ne 32, 3) := by decide +kernel
theorem dX5_does_9 : decode cX5_does 9 = .ok (.aload_n 0, 1) := by decide +kernel
theorem dX5_does_10 : decode cX5_does 10 = .ok (.getfield 7, 3) := by decide +kernel
theorem dX5_does_13 : decode cX5_does 13 = .ok (.iconst 5, 1) := by decide +kernel
theorem dX5_does_14 : decode cX5_does 14 = .ok (.iaload, 1) := by decide +kernel
theorem dX5_does_15 : decode cX5_does 15 = .ok (.aload_n 0, 1) := by decide +kernel
theorem dX5_does_16 : decode cX5_does 16 = .ok (.getfield 162, 3) := by decide +kernel
theorem dX5_does_19 : decode cX5_does 19 = .ok (.iadd, 1) := by decide +kernel
theorem dX5_does_20 : decode cX5_does 20 = .ok (.ldc 113, 2) := by decide +kernel
theorem dX5_does_22 : decode cX5_does 22 = .ok (.if_icmp .le 7, 3) := by decide +kernel
theorem dX5_does_25 : decode cX5_does 25 = .ok (.iconst 0, 1) := by decide +kernel
theorem dX5_does_26 : decode cX5_does 26 = .ok (.goto 11, 3) := by decide +kernel
theorem dX5_does_29 : decode cX5_does 29 = .ok (.aload_n 0, 1) := by decide +kernel
theorem dX5_does_30 : decode cX5_does 30 = .ok (.aload_n 0, 1) := by decide +kernel
theorem dX5_does_31 : decode cX5_does 31 = .ok (.getfield 162, 3) := by decide +kernel
theorem dX5_does_34 : decode cX5_does 34 = .ok (.invokevirtual 115, 3) := by decide +kernel
theorem dX5_does_37 : decode cX5_does 37 = .ok (.ireturn, 1) := by decide +kernel
theorem dX5_does_38 : decode cX5_does 38 = .ok (.aload_n 0, 1) := by decide +kernel
theorem dX5_does_39 : decode cX5_does 39 = .ok (.getfield 177, 3) := by decide +kernel
theorem dX5_does_42 : decode cX5_does 42 = .ok (.bipush 120, 2) := by decide +kernel
theorem dX5_does_44 : decode cX5_does 44 = .ok (.if_icmp .ne 10, 3) := by decide +kernel
theorem dX5_does_47 : decode cX5_does 47 = .ok (.aload_n 0, 1) := by decide +kernel
theorem dX5_does_48 : decode cX5_does 48 = .ok (.invokevirtual 119, 3) := by decide +kernel
theorem dX5_does_51 : decode cX5_does 51 = .ok (.istore_n 1, 1) := by decide +kernel
theorem dX5_does_52 : decode cX5_does 52 = .ok (.iconst 0, 1) := by decide +kernel
theorem dX5_does_53 : decode cX5_does 53 = .ok (.ireturn, 1) := by decide +kernel
theorem dX5_does_54 : decode cX5_does 54 = .ok (.aload_n 0, 1) := by decide +kernel
theorem dX5_does_55 : decode cX5_does 55 = .ok (.aload_n 0, 1) := by decide +kernel
theorem dX5_does_56 : decode cX5_does 56 = .ok (.getfield 177, 3) := by decide +kernel
theorem dX5_does_59 : decode cX5_does 59 = .ok (.bipush 102, 2) := by decide +kernel
theorem dX5_does_61 : decode cX5_does 61 = .ok (.if_icmp .ne 7, 3) := by decide +kernel
theorem dX5_does_64 : decode cX5_does 64 = .ok (.iconst 0, 1) := by decide +kernel
theorem dX5_does_65 : decode cX5_does 65 = .ok (.goto 4, 3) := by decide +kernel
theorem dX5_does_68 : decode cX5_does 68 = .ok (.iconst 1, 1) := by decide +kernel
theorem dX5_does_69 : decode cX5_does 69 = .ok (.aload_n 0, 1) := by decide +kernel
theorem dX5_does_70 : decode cX5_does 70 = .ok (.getfield 168, 3) := by decide +kernel
theorem dX5_does_73 : decode cX5_does 73 = .ok (.aload_n 0, 1) := by decide +kernel
theorem dX5_does_74 : decode cX5_does 74 = .ok (.getfield 174, 3) := by decide +kernel
theorem dX5_does_77 : decode cX5_does 77 = .ok (.invokevirtual 110, 3) := by decide +kernel
theorem dX5_does_80 : decode cX5_does 80 = .ok (.iconst 0, 1) := by decide +kernel
theorem dX5_does_81 : decode cX5_does 81 = .ok (.ireturn, 1) := by decide +kernel
theorem dX5_run_0 : decode cX5_run 0 = .ok (.aload_n 0, 1) := by decide +kernel
theorem dX5_run_1 : decode cX5_run 1 = .ok (.invokevirtual 187, 3) := by decide +kernel
theorem dX5_run_4 : decode cX5_run 4 = .ok (.ldc 124, 2) := by decide +kernel
theorem dX5_run_6 : decode cX5_run 6 = .ok (.if_icmp .eq 6, 3) := by decide +kernel
theorem dX5_run_9 : decode cX5_run 9 = .ok (.ldc 190, 2) := by decide +kernel
theorem dX5_run_11 : decode cX5_run 11 = .ok (.ireturn, 1) := by decide +kernel
theorem dX5_run_12 : decode cX5_run 12 = .ok (.aload_n 0, 1) := by decide +kernel
theorem dX5_run_13 : decode cX5_run 13 = .ok (.invokevirtual 93, 3) := by decide +kernel
theorem dX5_run_16 : decode cX5_run 16 = .ok (.aload_n 0, 1) := by decide +kernel
theorem dX5_run_17 : decode cX5_run 17 = .ok (.iconst 0, 1) := by decide +kernel
theorem dX5_run_18 : decode cX5_run 18 = .ok (.putfield 156, 3) := by decide +kernel
theorem dX5_run_21 : decode cX5_run 21 = .ok (.iconst 0, 1) := by decide +kernel
theorem dX5_run_22 : decode cX5_run 22 = .ok (.istore_n 1, 1) := by decide +kernel
theorem dX5_run_23 : decode cX5_run 23 = .ok (.iconst 1, 1) := by decide +kernel
theorem dX5_run_24 : decode cX5_run 24 = .ok (.istore_n 2, 1) := by decide +kernel
theorem dX5_run_25 : decode cX5_run 25 = .ok (.iload_n 2, 1) := by decide +kernel
theorem dX5_run_26 : decode cX5_run 26 = .ok (.ifCond .eq 25, 3) := by decide +kernel
theorem dX5_run_29 : decode cX5_run 29 = .ok (.aload_n 0, 1) := by decide +kernel
theorem dX5_run_30 : decode cX5_run 30 = .ok (.invokevirtual 184, 3) := by decide +kernel
theorem dX5_run_33 : decode cX5_run 33 = .ok (.istore_n 3, 1) := by decide +kernel
theorem dX5_run_34 : decode cX5_run 34 = .ok (.iload_n 1, 1) := by decide +kernel
theorem dX5_run_35 : decode cX5_run 35 = .ok (.aload_n 0, 1) := by decide +kernel
theorem dX5_run_36 : decode cX5_run 36 = .ok (.invokevirtual 191, 3) := by decide +kernel
theorem dX5_run_39 : decode cX5_run 39 = .ok (.iadd, 1) := by decide +kernel
theorem dX5_run_40 : decode cX5_run 40 = .ok (.istore_n 1, 1) := by decide +kernel
theorem dX5_run_41 : decode cX5_run 41 = .ok (.aload_n 0, 1) := by decide +kernel
theorem dX5_run_42 : decode cX5_run 42 = .ok (.bipush 59, 2) := by decide +kernel
theorem dX5_run_44 : decode cX5_run 44 = .ok (.invokevirtual 171, 3) := by decide +kernel
theorem dX5_run_47 : decode cX5_run 47 = .ok (.istore_n 2, 1) := by decide +kernel
theorem dX5_run_48 : decode cX5_run 48 = .ok (.goto (-23), 3) := by decide +kernel
theorem dX5_run_51 : decode cX5_run 51 = .ok (.aload_n 0, 1) := by decide +kernel
theorem dX5_run_52 : decode cX5_run 52 = .ok (.iconst 0, 1) := by decide +kernel
theorem dX5_run_53 : decode cX5_run 53 = .ok (.putfield 128, 3) := by decide +kernel
theorem dX5_run_56 : decode cX5_run 56 = .ok (.iload_n 1, 1) := by decide +kernel
theorem dX5_run_57 : decode cX5_run 57 = .ok (.ireturn, 1) := by decide +kernel
theorem dX5_undo_0 : decode cX5_undo 0 = .ok (.aload_n 0, 1) := by decide +kernel
theorem dX5_undo_1 : decode cX5_undo 1 = .ok (.getfield 28, 3) := by decide +kernel
theorem dX5_undo_4 : decode cX5_undo 4 = .ok (.ifCond .ne 6, 3) := by decide +kernel
theorem dX5_undo_7 : decode cX5_undo 7 = .ok (.ldc 92, 2) := by decide +kernel
theorem dX5_undo_9 : decode cX5_undo 9 = .ok (.ireturn, 1) := by decide +kernel
theorem dX5_undo_10 : decode cX5_undo 10 = .ok (.aload_n 0, 1) := by decide +kernel
theorem dX5_undo_11 : decode cX5_undo 11 = .ok (.dup, 1) := by decide +kernel
theorem dX5_undo_12 : decode cX5_undo 12 = .ok (.getfield 28, 3) := by decide +kernel
theorem dX5_undo_15 : decode cX5_undo 15 = .ok (.iconst 1, 1) := by decide +kernel
theorem dX5_undo_16 : decode cX5_undo 16 = .ok (.isub, 1) := by decide +kernel
theorem dX5_undo_17 : decode cX5_undo 17 = .ok (.putfield 28, 3) := by decide +kernel
theorem dX5_undo_20 : decode cX5_undo 20 = .ok (.iconst 0, 1) := by decide +kernel
theorem dX5_undo_21 : decode cX5_undo 21 = .ok (.istore_n 1, 1) := by decide +kernel
theorem dX5_undo_22 : decode cX5_undo 22 = .ok (.iload_n 1, 1) := by decide +kernel
theorem dX5_undo_23 : decode cX5_undo 23 = .ok (.bipush 67, 2) := by decide +kernel
theorem dX5_undo_25 : decode cX5_undo 25 = .ok (.if_icmp .ge 29, 3) := by decide +kernel
theorem dX5_undo_28 : decode cX5_undo 28 = .ok (.aload_n 0, 1) := by decide +kernel
theorem dX5_undo_29 : decode cX5_undo 29 = .ok (.getfield 7, 3) := by decide +kernel
theorem dX5_undo_32 : decode cX5_undo 32 = .ok (.iload_n 1, 1) := by decide +kernel
theorem dX5_undo_33 : decode cX5_undo 33 = .ok (.aload_n 0, 1) := by decide +kernel
theorem dX5_undo_34 : decode cX5_undo 34 = .ok (.getfield 16, 3) := by decide +kernel
theorem dX5_undo_37 : decode cX5_undo 37 = .ok (.bipush 67, 2) := by decide +kernel
theorem dX5_undo_39 : decode cX5_undo 39 = .ok (.aload_n 0, 1) := by decide +kernel
theorem dX5_undo_40 : decode cX5_undo 40 = .ok (.getfield 28, 3) := by decide +kernel
theorem dX5_undo_43 : decode cX5_undo 43 = .ok (.imul, 1) := by decide +kernel
theorem dX5_undo_44 : decode cX5_undo 44 = .ok (.iload_n 1, 1) := by decide +kernel
theorem dX5_undo_45 : decode cX5_undo 45 = .ok (.iadd, 1) := by decide +kernel
theorem dX5_undo_46 : decode cX5_undo 46 = .ok (.iaload, 1) := by decide +kernel
theorem dX5_undo_47 : decode cX5_undo 47 = .ok (.iastore, 1) := by decide +kernel
theorem dX5_undo_48 : decode cX5_undo 48 = .ok (.iinc 1 1, 3) := by decide +kernel
theorem dX5_undo_51 : decode cX5_undo 51 = .ok (.goto (-29), 3) := by decide +kernel
theorem dX5_undo_54 : decode cX5_undo 54 = .ok (.aload_n 0, 1) := by decide +kernel
theorem dX5_undo_55 : decode cX5_undo 55 = .ok (.getfield 28, 3) := by decide +kernel
theorem dX5_undo_58 : decode cX5_undo 58 = .ok (.ireturn, 1) := by decide +kernel
theorem dX5_save_0 : decode cX5_save 0 = .ok (.iload_n 1, 1) := by decide +kernel
theorem dX5_save_1 : decode cX5_save 1 = .ok (.invokestatic 98, 3) := by decide +kernel
theorem dX5_save_4 : decode cX5_save 4 = .ok (.ifCond .ne 6, 3) := by decide +kernel
theorem dX5_save_7 : decode cX5_save 7 = .ok (.ldc 91, 2) := by decide +kernel
theorem dX5_save_9 : decode cX5_save 9 = .ok (.ireturn, 1) := by decide +kernel
theorem dX5_save_10 : decode cX5_save 10 = .ok (.iconst 0, 1) := by decide +kernel
theorem dX5_save_11 : decode cX5_save 11 = .ok (.istore_n 2, 1) := by decide +kernel
theorem dX5_save_12 : decode cX5_save 12 = .ok (.iload_n 2, 1) := by decide +kernel
theorem dX5_save_13 : decode cX5_save 13 = .ok (.bipush 67, 2) := by decide +kernel
theorem dX5_save_15 : decode cX5_save 15 = .ok (.if_icmp .ge 26, 3) := by decide +kernel
theorem dX5_save_18 : decode cX5_save 18 = .ok (.aload_n 0, 1) := by decide +kernel
theorem dX5_save_19 : decode cX5_save 19 = .ok (.getfield 19, 3) := by decide +kernel
theorem dX5_save_22 : decode cX5_save 22 = .ok (.bipush 67, 2) := by decide +kernel
theorem dX5_save_24 : decode cX5_save 24 = .ok (.iload_n 1, 1) := by decide +kernel
theorem dX5_save_25 : decode cX5_save 25 = .ok (.imul, 1) := by decide +kernel
theorem dX5_save_26 : decode cX5_save 26 = .ok (.iload_n 2, 1) := by decide +kernel
theorem dX5_save_27 : decode cX5_save 27 = .ok (.iadd, 1) := by decide +kernel
theorem dX5_save_28 : decode cX5_save 28 = .ok (.aload_n 0, 1) := by decide +kernel
theorem dX5_save_29 : decode cX5_save 29 = .ok (.getfield 7, 3) := by decide +kernel
theorem dX5_save_32 : decode cX5_save 32 = .ok (.iload_n 2, 1) := by decide +kernel
theorem dX5_save_33 : decode cX5_save 33 = .ok (.iaload, 1) := by decide +kernel
theorem dX5_save_34 : decode cX5_save 34 = .ok (.iastore, 1) := by decide +kernel
theorem dX5_save_35 : decode cX5_save 35 = .ok (.iinc 2 1, 3) := by decide +kernel
theorem dX5_save_38 : decode cX5_save 38 = .ok (.goto (-26), 3) := by decide +kernel
theorem dX5_save_41 : decode cX5_save 41 = .ok (.aload_n 0, 1) := by decide +kernel
theorem dX5_save_42 : decode cX5_save 42 = .ok (.getfield 22, 3) := by decide +kernel
theorem dX5_save_45 : decode cX5_save 45 = .ok (.iload_n 1, 1) := by decide +kernel
theorem dX5_save_46 : decode cX5_save 46 = .ok (.iconst 1, 1) := by decide +kernel
theorem dX5_save_47 : decode cX5_save 47 = .ok (.iastore, 1) := by decide +kernel
theorem dX5_save_48 : decode cX5_save 48 = .ok (.aload_n 0, 1) := by decide +kernel
theorem dX5_save_49 : decode cX5_save 49 = .ok (.getfield 7, 3) := by decide +kernel
theorem dX5_save_52 : decode cX5_save 52 = .ok (.iconst 5, 1) := by decide +kernel
theorem dX5_save_53 : decode cX5_save 53 = .ok (.iaload, 1) := by decide +kernel
theorem dX5_save_54 : decode cX5_save 54 = .ok (.ireturn, 1) := by decide +kernel
theorem dX5_restore_0 : decode cX5_restore 0 = .ok (.iload_n 1, 1) := by decide +kernel
theorem dX5_restore_1 : decode cX5_restore 1 = .ok (.invokestatic 98, 3) := by decide +kernel
theorem dX5_restore_4 : decode cX5_restore 4 = .ok (.ifCond .ne 6, 3) := by decide +kernel
theorem dX5_restore_7 : decode cX5_restore 7 = .ok (.ldc 91, 2) := by decide +kernel
theorem dX5_restore_9 : decode cX5_restore 9 = .ok (.ireturn, 1) := by decide +kernel
theorem dX5_restore_10 : decode cX5_restore 10 = .ok (.aload_n 0, 1) := by decide +kernel
theorem dX5_restore_11 : decode cX5_restore 11 = .ok (.getfield 22, 3) := by decide +kernel
theorem dX5_restore_14 : decode cX5_restore 14 = .ok (.iload_n 1, 1) := by decide +kernel
theorem dX5_restore_15 : decode cX5_restore 15 = .ok (.iaload, 1) := by decide +kernel
theorem dX5_restore_16 : decode cX5_restore 16 = .ok (.ifCond .ne 6, 3) := by decide +kernel
theorem dX5_restore_19 : decode cX5_restore 19 = .ok (.ldc 92, 2) := by decide +kernel
theorem dX5_restore_21 : decode cX5_restore 21 = .ok (.ireturn, 1) := by decide +kernel
theorem dX5_restore_22 : decode cX5_restore 22 = .ok (.aload_n 0, 1) := by decide +kernel
theorem dX5_restore_23 : decode cX5_restore 23 = .ok (.invokevirtual 93, 3) := by decide +kernel
theorem dX5_restore_26 : decode cX5_restore 26 = .ok (.iconst 0, 1) := by decide +kernel
theorem dX5_restore_27 : decode cX5_restore 27 = .ok (.istore_n 2, 1) := by decide +kernel
theorem dX5_restore_28 : decode cX5_restore 28 = .ok (.iload_n 2, 1) := by decide +kernel
theorem dX5_restore_29 : decode cX5_restore 29 = .ok (.bipush 67, 2) := by decide +kernel
theorem dX5_restore_31 : decode cX5_restore 31 = .ok (.if_icmp .ge 26, 3) := by decide +kernel
theorem dX5_restore_34 : decode cX5_restore 34 = .ok (.aload_n 0, 1) := by decide +kernel
theorem dX5_restore_35 : decode cX5_restore 35 = .ok (.getfield 7, 3) := by decide +kernel
theorem dX5_restore_38 : decode cX5_restore 38 = .ok (.iload_n 2, 1) := by decide +kernel
theorem dX5_restore_39 : decode cX5_restore 39 = .ok (.aload_n 0, 1) := by decide +kernel
theorem dX5_restore_40 : decode cX5_restore 40 = .ok (.getfield 19, 3) := by decide +kernel
theorem dX5_restore_43 : decode cX5_restore 43 = .ok (.bipush 67, 2) := by decide +kernel
theorem dX5_restore_45 : decode cX5_restore 45 = .ok (.iload_n 1, 1) := by decide +kernel
theorem dX5_restore_46 : decode cX5_restore 46 = .ok (.imul, 1) := by decide +kernel
theorem dX5_restore_47 : decode cX5_restore 47 = .ok (.iload_n 2, 1) := by decide +kernel
theorem dX5_restore_48 : decode cX5_restore 48 = .ok (.iadd, 1) := by decide +kernel
theorem dX5_restore_49 : decode cX5_restore 49 = .ok (.iaload, 1) := by decide +kernel
theorem dX5_restore_50 : decode cX5_restore 50 = .ok (.iastore, 1) := by decide +kernel
theorem dX5_restore_51 : decode cX5_restore 51 = .ok (.iinc 2 1, 3) := by decide +kernel
theorem dX5_restore_54 : decode cX5_restore 54 = .ok (.goto (-26), 3) := by decide +kernel
theorem dX5_restore_57 : decode cX5_restore 57 = .ok (.aload_n 0, 1) := by decide +kernel
theorem dX5_restore_58 : decode cX5_restore 58 = .ok (.getfield 7, 3) := by decide +kernel
theorem dX5_restore_61 : decode cX5_restore 61 = .ok (.iconst 5, 1) := by decide +kernel
theorem dX5_restore_62 : decode cX5_restore 62 = .ok (.iaload, 1) := by decide +kernel
theorem dX5_restore_63 : decode cX5_restore 63 = .ok (.ireturn, 1) := by decide +kernel
theorem dJ6_signum_0f7a4_0 : decode cJ6_signum_0f7a4 0 = .ok (.iload_n 0, 1) := by decide +kernel
theorem dJ6_signum_0f7a4_1 : decode cJ6_signum_0f7a4 1 = .ok (.bipush 31, 2) := by decide +kernel
theorem dJ6_signum_0f7a4_3 : decode cJ6_signum_0f7a4 3 = .ok (.ishr, 1) := by decide +kernel
theorem dJ6_signum_0f7a4_4 : decode cJ6_signum_0f7a4 4 = .ok (.iload_n 0, 1) := by decide +kernel
theorem dJ6_signum_0f7a4_5 : decode cJ6_signum_0f7a4 5 = .ok (.ineg, 1) := by decide +kernel
theorem dJ6_signum_0f7a4_6 : decode cJ6_signum_0f7a4 6 = .ok (.bipush 31, 2) := by decide +kernel
theorem dJ6_signum_0f7a4_8 : decode cJ6_signum_0f7a4 8 = .ok (.iushr, 1) := by decide +kernel
theorem dJ6_signum_0f7a4_9 : decode cJ6_signum_0f7a4 9 = .ok (.ior, 1) := by decide +kernel
theorem dJ6_signum_0f7a4_10 : decode cJ6_signum_0f7a4 10 = .ok (.ireturn, 1) := by decide +kernel
theorem dJ9_floorMod_7cf53_0 : decode cJ9_floorMod_7cf53 0 = .ok (.iload_n 0, 1) := by decide +kernel
theorem dJ9_floorMod_7cf53_1 : decode cJ9_floorMod_7cf53 1 = .ok (.iload_n 1, 1) := by decide +kernel
theorem dJ9_floorMod_7cf53_2 : decode cJ9_floorMod_7cf53 2 = .ok (.irem, 1) := by decide +kernel
theorem dJ9_floorMod_7cf53_3 : decode cJ9_floorMod_7cf53 3 = .ok (.istore_n 2, 1) := by decide +kernel
theorem dJ9_floorMod_7cf53_4 : decode cJ9_floorMod_7cf53 4 = .ok (.iload_n 0, 1) := by decide +kernel
theorem dJ9_floorMod_7cf53_5 : decode cJ9_floorMod_7cf53 5 = .ok (.iload_n 1, 1) := by decide +kernel
theorem dJ9_floorMod_7cf53_6 : decode cJ9_floorMod_7cf53 6 = .ok (.ixor, 1) := by decide +kernel
theorem dJ9_floorMod_7cf53_7 : decode cJ9_floorMod_7cf53 7 = .ok (.ifCond .ge 11, 3) := by decide +kernel
theorem dJ9_floorMod_7cf53_10 : decode cJ9_floorMod_7cf53 10 = .ok (.iload_n 2, 1) := by decide +kernel
theorem dJ9_floorMod_7cf53_11 : decode cJ9_floorMod_7cf53 11 = .ok (.ifCond .eq 7, 3) := by decide +kernel
theorem dJ9_floorMod_7cf53_14 : decode cJ9_floorMod_7cf53 14 = .ok (.iload_n 2, 1) := by decide +kernel
theorem dJ9_floorMod_7cf53_15 : decode cJ9_floorMod_7cf53 15 = .ok (.iload_n 1, 1) := by decide +kernel
theorem dJ9_floorMod_7cf53_16 : decode cJ9_floorMod_7cf53 16 = .ok (.iadd, 1) := by decide +kernel
theorem dJ9_floorMod_7cf53_17 : decode cJ9_floorMod_7cf53 17 = .ok (.ireturn, 1) := by decide +kernel
theorem dJ9_floorMod_7cf53_18 : decode cJ9_floorMod_7cf53 18 = .ok (.iload_n 2, 1) := by decide +kernel
theorem dJ9_floorMod_7cf53_19 : decode cJ9_floorMod_7cf53 19 = .ok (.ireturn, 1) := by decide +kernel
theorem dJ9_abs_0f7a4_0 : decode cJ9_abs_0f7a4 0 = .ok (.iload_n 0, 1) := by decide +kernel
theorem dJ9_abs_0f7a4_1 : decode cJ9_abs_0f7a4 1 = .ok (.ifCond .ge 8, 3) := by decide +kernel
theorem dJ9_abs_0f7a4_4 : decode cJ9_abs_0f7a4 4 = .ok (.iload_n 0, 1) := by decide +kernel
theorem dJ9_abs_0f7a4_5 : decode cJ9_abs_0f7a4 5 = .ok (.ineg, 1) := by decide +kernel
theorem dJ9_abs_0f7a4_6 : decode cJ9_abs_0f7a4 6 = .ok (.goto 4, 3) := by decide +kernel
theorem dJ9_abs_0f7a4_9 : decode cJ9_abs_0f7a4 9 = .ok (.iload_n 0, 1) := by decide +kernel
theorem dJ9_abs_0f7a4_10 : decode cJ9_abs_0f7a4 10 = .ok (.ireturn, 1) := by decide +kernel
theorem dJ9_max_7cf53_0 : decode cJ9_max_7cf53 0 = .ok (.iload_n 0, 1) := by decide +kernel
theorem dJ9_max_7cf53_1 : decode cJ9_max_7cf53 1 = .ok (.iload_n 1, 1) := by decide +kernel
theorem dJ9_max_7cf53_2 : decode cJ9_max_7cf53 2 = .ok (.if_icmp .lt 7, 3) := by decide +kernel
theorem dJ9_max_7cf53_5 : decode cJ9_max_7cf53 5 = .ok (.iload_n 0, 1) := by decide +kernel
theorem dJ9_max_7cf53_6 : decode cJ9_max_7cf53 6 = .ok (.goto 4, 3) := by decide +kernel
theorem dJ9_max_7cf53_9 : decode cJ9_max_7cf53 9 = .ok (.iload_n 1, 1) := by decide +kernel
theorem dJ9_max_7cf53_10 : decode cJ9_max_7cf53 10 = .ok (.ireturn, 1) := by decide +kernel
theorem dJ9_min_7cf53_0 : decode cJ9_min_7cf53 0 = .ok (.iload_n 0, 1) := by decide +kernel
theorem dJ9_min_7cf53_1 : decode cJ9_min_7cf53 1 = .ok (.iload_n 1, 1) := by decide +kernel
theorem dJ9_min_7cf53_2 : decode cJ9_min_7cf53 2 = .ok (.if_icmp .gt 7, 3) := by decide +kernel
theorem dJ9_min_7cf53_5 : decode cJ9_min_7cf53 5 = .ok (.iload_n 0, 1) := by decide +kernel
theorem dJ9_min_7cf53_6 : decode cJ9_min_7cf53 6 = .ok (.goto 4, 3) := by decide +kernel
theorem dJ9_min_7cf53_9 : decode cJ9_min_7cf53 9 = .ok (.iload_n 1, 1) := by decide +kernel
theorem dJ9_min_7cf53_10 : decode cJ9_min_7cf53 10 = .ok (.ireturn, 1) := by decide +kernel
theorem dL_law_0 : decode cL_law 0 = .ok (.new 7, 3) := by decide +kernel
theorem dL_law_3 : decode cL_law 3 = .ok (.dup, 1) := by decide +kernel
theorem dL_law_4 : decode cL_law 4 = .ok (.invokespecial 9, 3) := by decide +kernel
theorem dL_law_7 : decode cL_law 7 = .ok (.astore_n 1, 1) := by decide +kernel
theorem dL_law_8 : decode cL_law 8 = .ok (.new 10, 3) := by decide +kernel
theorem dL_law_11 : decode cL_law 11 = .ok (.dup, 1) := by decide +kernel
theorem dL_law_12 : decode cL_law 12 = .ok (.invokespecial 12, 3) := by decide +kernel
theorem dL_law_15 : decode cL_law 15 = .ok (.astore_n 2, 1) := by decide +kernel
theorem dL_law_16 : decode cL_law 16 = .ok (.iconst 0, 1) := by decide +kernel
theorem dL_law_17 : decode cL_law 17 = .ok (.istore_n 3, 1) := by decide +kernel
theorem dL_law_18 : decode cL_law 18 = .ok (.iload_n 3, 1) := by decide +kernel
theorem dL_law_19 : decode cL_law 19 = .ok (.aload_n 0, 1) := by decide +kernel
theorem dL_law_20 : decode cL_law 20 = .ok (.arraylength, 1) := by decide +kernel
theorem dL_law_21 : decode cL_law 21 = .ok (.iconst 4, 1) := by decide +kernel
theorem dL_law_22 : decode cL_law 22 = .ok (.isub, 1) := by decide +kernel
theorem dL_law_23 : decode cL_law 23 = .ok (.if_icmp .gt 628, 3) := by decide +kernel
theorem dL_law_26 : decode cL_law 26 = .ok (.aload_n 0, 1) := by decide +kernel
theorem dL_law_27 : decode cL_law 27 = .ok (.iload_n 3, 1) := by decide +kernel
theorem dL_law_28 : decode cL_law 28 = .ok (.iaload, 1) := by decide +kernel
theorem dL_law_29 : decode cL_law 29 = .ok (.bipush 31, 2) := by decide +kernel
theorem dL_law_31 : decode cL_law 31 = .ok (.iand, 1) := by decide +kernel
theorem dL_law_32 : decode cL_law 32 = .ok (.tableswitch 613 0 20 #[100, 133, 176, 199, 212, 235, 248, 281, 314, 347, 380, 403, 416, 449, 462, 475, 528, 541, 554, 567, 590], 100) := by decide +kernel
theorem dL_law_132 : decode cL_law 132 = .ok (.aload_n 1, 1) := by decide +kernel
theorem dL_law_133 : decode cL_law 133 = .ok (.aload_n 0, 1) := by decide +kernel
theorem dL_law_134 : decode cL_law 134 = .ok (.iload_n 3, 1) := by decide +kernel
theorem dL_law_135 : decode cL_law 135 = .ok (.iconst 1, 1) := by decide +kernel
theorem dL_law_136 : decode cL_law 136 = .ok (.iadd, 1) := by decide +kernel
theorem dL_law_137 : decode cL_law 137 = .ok (.iaload, 1) := by decide +kernel
theorem dL_law_138 : decode cL_law 138 = .ok (.aload_n 0, 1) := by decide +kernel
theorem dL_law_139 : decode cL_law 139 = .ok (.iload_n 3, 1) := by decide +kernel
theorem dL_law_140 : decode cL_law 140 = .ok (.iconst 2, 1) := by decide +kernel
theorem dL_law_141 : decode cL_law 141 = .ok (.iadd, 1) := by decide +kernel
theorem dL_law_142 : decode cL_law 142 = .ok (.iaload, 1) := by decide +kernel
theorem dL_law_143 : decode cL_law 143 = .ok (.invokevirtual 13, 3) := by decide +kernel
theorem dL_law_146 : decode cL_law 146 = .ok (.aload_n 2, 1) := by decide +kernel
theorem dL_law_147 : decode cL_law 147 = .ok (.aload_n 0, 1) := by decide +kernel
theorem dL_law_148 : decode cL_law 148 = .ok (.iload_n 3, 1) := by decide +kernel
theorem dL_law_149 : decode cL_law 149 = .ok (.iconst 1, 1) := by decide +kernel
theorem dL_law_150 : decode cL_law 150 = .ok (.iadd, 1) := by decide +kernel
theorem dL_law_151 : decode cL_law 151 = .ok (.iaload, 1) := by decide +kernel
theorem dL_law_152 : decode cL_law 152 = .ok (.aload_n 0, 1) := by decide +kernel
theorem dL_law_153 : decode cL_law 153 = .ok (.iload_n 3, 1) := by decide +kernel
theorem dL_law_154 : decode cL_law 154 = .ok (.iconst 2, 1) := by decide +kernel
theorem dL_law_155 : decode cL_law 155 = .ok (.iadd, 1) := by decide +kernel
theorem dL_law_156 : decode cL_law 156 = .ok (.iaload, 1) := by decide +kernel
theorem dL_law_157 : decode cL_law 157 = .ok (.invokevirtual 17, 3) := by decide +kernel
theorem dL_law_160 : decode cL_law 160 = .ok (.if_icmp .eq 485, 3) := by decide +kernel
theorem dL_law_163 : decode cL_law 163 = .ok (.iconst 0, 1) := by decide +kernel
theorem dL_law_164 : decode cL_law 164 = .ok (.ireturn, 1) := by decide +kernel
theorem dL_law_165 : decode cL_law 165 = .ok (.aload_n 1, 1) := by decide +kernel
theorem dL_law_166 : decode cL_law 166 = .ok (.aload_n 0, 1) := by decide +kernel
theorem dL_law_167 : decode cL_law 167 = .ok (.iload_n 3, 1) := by decide +kernel
theorem dL_law_168 : decode cL_law 168 = .ok (.iconst 1, 1) := by decide +kernel
theorem dL_law_169 : decode cL_law 169 = .ok (.iadd, 1) := by decide +kernel
theorem dL_law_170 : decode cL_law 170 = .ok (.iaload, 1) := by decide +kernel
theorem dL_law_171 : decode cL_law 171 = .ok (.aload_n 0, 1) := by decide +kernel
theorem dL_law_172 : decode cL_law 172 = .ok (.iload_n 3, 1) := by decide +kernel
theorem dL_law_173 : decode cL_law 173 = .ok (.iconst 2, 1) := by decide +kernel
theorem dL_law_174 : decode cL_law 174 = .ok (.iadd, 1) := by decide +kernel
theorem dL_law_175 : decode cL_law 175 = .ok (.iaload, 1) := by decide +kernel
theorem dL_law_176 : decode cL_law 176 = .ok (.aload_n 0, 1) := by decide +kernel
theorem dL_law_177 : decode cL_law 177 = .ok (.iload_n 3, 1) := by decide +kernel
theorem dL_law_178 : decode cL_law 178 = .ok (.iconst 3, 1) := by decide +kernel
theorem dL_law_179 : decode cL_law 179 = .ok (.iadd, 1) := by decide +kernel
theorem dL_law_180 : decode cL_law 180 = .ok (.iaload, 1) := by decide +kernel
theorem dL_law_181 : decode cL_law 181 = .ok (.invokevirtual 18, 3) := by decide +kernel
theorem dL_law_184 : decode cL_law 184 = .ok (.aload_n 2, 1) := by decide +kernel
theorem dL_law_185 : decode cL_law 185 = .ok (.aload_n 0, 1) := by decide +kernel
theorem dL_law_186 : decode cL_law 186 = .ok (.iload_n 3, 1) := by decide +kernel
theorem dL_law_187 : decode cL_law 187 = .ok (.iconst 1, 1) := by decide +kernel
theorem dL_law_188 : decode cL_law 188 = .ok (.iadd, 1) := by decide +kernel
theorem dL_law_189 : decode cL_law 189 = .ok (.iaload, 1) := by decide +kernel
theorem dL_law_190 : decode cL_law 190 = .ok (.aload_n 0, 1) := by decide +kernel
theorem dL_law_191 : decode cL_law 191 = .ok (.iload_n 3, 1) := by decide +kernel
theorem dL_law_192 : decode cL_law 192 = .ok (.iconst 2, 1) := by decide +kernel
theorem dL_law_193 : decode cL_law 193 = .ok (.iadd, 1) := by decide +kernel
theorem dL_law_194 : decode cL_law 194 = .ok (.iaload, 1) := by decide +kernel
theorem dL_law_195 : decode cL_law 195 = .ok (.aload_n 0, 1) := by decide +kernel
theorem dL_law_196 : decode cL_law 196 = .ok (.iload_n 3, 1) := by decide +kernel
theorem dL_law_197 : decode cL_law 197 = .ok (.iconst 3, 1) := by decide +kernel
theorem dL_law_198 : decode cL_law 198 = .ok (.iadd, 1) := by decide +kernel
theorem dL_law_199 : decode cL_law 199 = .ok (.iaload, 1) := by decide +kernel
theorem dL_law_200 : decode cL_law 200 = .ok (.invokevirtual 22, 3) := by decide +kernel
theorem dL_law_203 : decode cL_law 203 = .ok (.if_icmp .eq 442, 3) := by decide +kernel
theorem dL_law_206 : decode cL_law 206 = .ok (.iconst 0, 1) := by decide +kernel
theorem dL_law_207 : decode cL_law 207 = .ok (.ireturn, 1) := by decide +kernel
theorem dL_law_208 : decode cL_law 208 = .ok (.aload_n 1, 1) := by decide +kernel
theorem dL_law_209 : decode cL_law 209 = .ok (.aload_n 0, 1) := by decide +kernel
theorem dL_law_210 : decode cL_law 210 = .ok (.iload_n 3, 1) := by decide +kernel
theorem dL_law_211 : decode cL_law 211 = .ok (.iconst 1, 1) := by decide +kernel
theorem dL_law_212 : decode cL_law 212 = .ok (.iadd, 1) := by decide +kernel
theorem dL_law_213 : decode cL_law 213 = .ok (.iaload, 1) := by decide +kernel
theorem dL_law_214 : decode cL_law 214 = .ok (.invokevirtual 23, 3) := by decide +kernel
theorem dL_law_217 : decode cL_law 217 = .ok (.aload_n 2, 1) := by decide +kernel
theorem dL_law_218 : decode cL_law 218 = .ok (.aload_n 0, 1) := by decide +kernel
theorem dL_law_219 : decode cL_law 219 = .ok (.iload_n 3, 1) := by decide +kernel
theorem dL_law_220 : decode cL_law 220 = .ok (.iconst 1, 1) := by decide +kernel
theorem dL_law_221 : decode cL_law 221 = .ok (.iadd, 1) := by decide +kernel
theorem dL_law_222 : decode cL_law 222 = .ok (.iaload, 1) := by decide +kernel
theorem dL_law_223 : decode cL_law 223 = .ok (.invokevirtual 27, 3) := by decide +kernel
theorem dL_law_226 : decode cL_law 226 = .ok (.if_icmp .eq 419, 3) := by decide +kernel
theorem dL_law_229 : decode cL_law 229 = .ok (.iconst 0, 1) := by decide +kernel
theorem dL_law_230 : decode cL_law 230 = .ok (.ireturn, 1) := by decide +kernel
theorem dL_law_231 : decode cL_law 231 = .ok (.aload_n 1, 1) := by decide +kernel
theorem dL_law_232 : decode cL_law 232 = .ok (.invokevirtual 28, 3) := by decide +kernel
theorem dL_law_235 : decode cL_law 235 = .ok (.aload_n 2, 1) := by decide +kernel
theorem dL_law_236 : decode cL_law 236 = .ok (.invokevirtual 32, 3) := by decide +kernel
theorem dL_law_239 : decode cL_law 239 = .ok (.if_icmp .eq 406, 3) := by decide +kernel
theorem dL_law_242 : decode cL_law 242 = .ok (.iconst 0, 1) := by decide +kernel
theorem dL_law_243 : decode cL_law 243 = .ok (.ireturn, 1) := by decide +kernel
theorem dL_law_244 : decode cL_law 244 = .ok (.aload_n 1, 1) := by decide +kernel
theorem dL_law_245 : decode cL_law 245 = .ok (.aload_n 0, 1) := by decide +kernel
theorem dL_law_246 : decode cL_law 246 = .ok (.iload_n 3, 1) := by decide +kernel
theorem dL_law_247 : decode cL_law 247 = .ok (.iconst 1, 1) := by decide +kernel
theorem dL_law_248 : decode cL_law 248 = .ok (.iadd, 1) := by decide +kernel
theorem dL_law_249 : decode cL_law 249 = .ok (.iaload, 1) := by decide +kernel
theorem dL_law_250 : decode cL_law 250 = .ok (.invokevirtual 33, 3) := by decide +kernel
theorem dL_law_253 : decode cL_law 253 = .ok (.aload_n 2, 1) := by decide +kernel
theorem dL_law_254 : decode cL_law 254 = .ok (.aload_n 0, 1) := by decide +kernel
theorem dL_law_255 : decode cL_law 255 = .ok (.iload_n 3, 1) := by decide +kernel
theorem dL_law_256 : decode cL_law 256 = .ok (.iconst 1, 1) := by decide +kernel
theorem dL_law_257 : decode cL_law 257 = .ok (.iadd, 1) := by decide +kernel
theorem dL_law_258 : decode cL_law 258 = .ok (.iaload, 1) := by decide +kernel
theorem dL_law_259 : decode cL_law 259 = .ok (.invokevirtual 36, 3) := by decide +kernel
theorem dL_law_262 : decode cL_law 262 = .ok (.if_icmp .eq 383, 3) := by decide +kernel
theorem dL_law_265 : decode cL_law 265 = .ok (.iconst 0, 1) := by decide +kernel
theorem dL_law_266 : decode cL_law 266 = .ok (.ireturn, 1) := by decide +kernel
theorem dL_law_267 : decode cL_law 267 = .ok (.aload_n 1, 1) := by decide +kernel
theorem dL_law_268 : decode cL_law 268 = .ok (.invokevirtual 37, 3) := by decide +kernel
theorem dL_law_271 : decode cL_law 271 = .ok (.aload_n 2, 1) := by decide +kernel
theorem dL_law_272 : decode cL_law 272 = .ok (.invokevirtual 40, 3) := by decide +kernel
theorem dL_law_275 : decode cL_law 275 = .ok (.if_icmp .eq 370, 3) := by decide +kernel
theorem dL_law_278 : decode cL_law 278 = .ok (.iconst 0, 1) := by decide +kernel
theorem dL_law_279 : decode cL_law 279 = .ok (.ireturn, 1) := by decide +kernel
theorem dL_law_280 : decode cL_law 280 = .ok (.aload_n 1, 1) := by decide +kernel
theorem dL_law_281 : decode cL_law 281 = .ok (.aload_n 0, 1) := by decide +kernel
theorem dL_law_282 : decode cL_law 282 = .ok (.iload_n 3, 1) := by decide +kernel
theorem dL_law_283 : decode cL_law 283 = .ok (.iconst 1, 1) := by decide +kernel
theorem dL_law_284 : decode cL_law 284 = .ok (.iadd, 1) := by decide +kernel
theorem dL_law_285 : decode cL_law 285 = .ok (.iaload, 1) := by decide +kernel
theorem dL_law_286 : decode cL_law 286 = .ok (.aload_n 0, 1) := by decide +kernel
theorem dL_law_287 : decode cL_law 287 = .ok (.iload_n 3, 1) := by decide +kernel
theorem dL_law_288 : decode cL_law 288 = .ok (.iconst 2, 1) := by decide +kernel
theorem dL_law_289 : decode cL_law 289 = .ok (.iadd, 1) := by decide +kernel
theorem dL_law_290 : decode cL_law 290 = .ok (.iaload, 1) := by decide +kernel
theorem dL_law_291 : decode cL_law 291 = .ok (.invokevirtual 41, 3) := by decide +kernel
theorem dL_law_294 : decode cL_law 294 = .ok (.aload_n 2, 1) := by decide +kernel
theorem dL_law_295 : decode cL_law 295 = .ok (.aload_n 0, 1) := by decide +kernel
theorem dL_law_296 : decode cL_law 296 = .ok (.iload_n 3, 1) := by decide +kernel
theorem dL_law_297 : decode cL_law 297 = .ok (.iconst 1, 1) := by decide +kernel
theorem dL_law_298 : decode cL_law 298 = .ok (.iadd, 1) := by decide +kernel
theorem dL_law_299 : decode cL_law 299 = .ok (.iaload, 1) := by decide +kernel
theorem dL_law_300 : decode cL_law 300 = .ok (.aload_n 0, 1) := by decide +kernel
theorem dL_law_301 : decode cL_law 301 = .ok (.iload_n 3, 1) := by decide +kernel
theorem dL_law_302 : decode cL_law 302 = .ok (.iconst 2, 1) := by decide +kernel
theorem dL_law_303 : decode cL_law 303 = .ok (.iadd, 1) := by decide +kernel
theorem dL_law_304 : decode cL_law 304 = .ok (.iaload, 1) := by decide +kernel
theorem dL_law_305 : decode cL_law 305 = .ok (.invokevirtual 44, 3) := by decide +kernel
theorem dL_law_308 : decode cL_law 308 = .ok (.if_icmp .eq 337, 3) := by decide +kernel
theorem dL_law_311 : decode cL_law 311 = .ok (.iconst 0, 1) := by decide +kernel
theorem dL_law_312 : decode cL_law 312 = .ok (.ireturn, 1) := by decide +kernel
theorem dL_law_313 : decode cL_law 313 = .ok (.aload_n 1, 1) := by decide +kernel
theorem dL_law_314 : decode cL_law 314 = .ok (.aload_n 0, 1) := by decide +kernel
theorem dL_law_315 : decode cL_law 315 = .ok (.iload_n 3, 1) := by decide +kernel
theorem dL_law_316 : decode cL_law 316 = .ok (.iconst 1, 1) := by decide +kernel
theorem dL_law_317 : decode cL_law 317 = .ok (.iadd, 1) := by decide +kernel
theorem dL_law_318 : decode cL_law 318 = .ok (.iaload, 1) := by decide +kernel
theorem dL_law_319 : decode cL_law 319 = .ok (.aload_n 0, 1) := by decide +kernel
theorem dL_law_320 : decode cL_law 320 = .ok (.iload_n 3, 1) := by decide +kernel
theorem dL_law_321 : decode cL_law 321 = .ok (.iconst 2, 1) := by decide +kernel
theorem dL_law_322 : decode cL_law 322 = .ok (.iadd, 1) := by decide +kernel
theorem dL_law_323 : decode cL_law 323 = .ok (.iaload, 1) := by decide +kernel
theorem dL_law_324 : decode cL_law 324 = .ok (.invokevirtual 45, 3) := by decide +kernel
theorem dL_law_327 : decode cL_law 327 = .ok (.aload_n 2, 1) := by decide +kernel
theorem dL_law_328 : decode cL_law 328 = .ok (.aload_n 0, 1) := by decide +kernel
theorem dL_law_329 : decode cL_law 329 = .ok (.iload_n 3, 1) := by decide +kernel
theorem dL_law_330 : decode cL_law 330 = .ok (.iconst 1, 1) := by decide +kernel
theorem dL_law_331 : decode cL_law 331 = .ok (.iadd, 1) := by decide +kernel
theorem dL_law_332 : decode cL_law 332 = .ok (.iaload, 1) := by decide +kernel
theorem dL_law_333 : decode cL_law 333 = .ok (.aload_n 0, 1) := by decide +kernel
theorem dL_law_334 : decode cL_law 334 = .ok (.iload_n 3, 1) := by decide +kernel
theorem dL_law_335 : decode cL_law 335 = .ok (.iconst 2, 1) := by decide +kernel
theorem dL_law_336 : decode cL_law 336 = .ok (.iadd, 1) := by decide +kernel
theorem dL_law_337 : decode cL_law 337 = .ok (.iaload, 1) := by decide +kernel
theorem dL_law_338 : decode cL_law 338 = .ok (.invokevirtual 48, 3) := by decide +kernel
theorem dL_law_341 : decode cL_law 341 = .ok (.if_icmp .eq 304, 3) := by decide +kernel
theorem dL_law_344 : decode cL_law 344 = .ok (.iconst 0, 1) := by decide +kernel
theorem dL_law_345 : decode cL_law 345 = .ok (.ireturn, 1) := by decide +kernel
theorem dL_law_346 : decode cL_law 346 = .ok (.aload_n 1, 1) := by decide +kernel
theorem dL_law_347 : decode cL_law 347 = .ok (.aload_n 0, 1) := by decide +kernel
theorem dL_law_348 : decode cL_law 348 = .ok (.iload_n 3, 1) := by decide +kernel
theorem dL_law_349 : decode cL_law 349 = .ok (.iconst 1, 1) := by decide +kernel
theorem dL_law_350 : decode cL_law 350 = .ok (.iadd, 1) := by decide +kernel
theorem dL_law_351 : decode cL_law 351 = .ok (.iaload, 1) := by decide +kernel
theorem dL_law_352 : decode cL_law 352 = .ok (.aload_n 0, 1) := by decide +kernel
theorem dL_law_353 : decode cL_law 353 = .ok (.iload_n 3, 1) := by decide +kernel
theorem dL_law_354 : decode cL_law 354 = .ok (.iconst 2, 1) := by decide +kernel
theorem dL_law_355 : decode cL_law 355 = .ok (.iadd, 1) := by decide +kernel
theorem dL_law_356 : decode cL_law 356 = .ok (.iaload, 1) := by decide +kernel
theorem dL_law_357 : decode cL_law 357 = .ok (.invokevirtual 49, 3) := by decide +kernel
theorem dL_law_360 : decode cL_law 360 = .ok (.aload_n 2, 1) := by decide +kernel
theorem dL_law_361 : decode cL_law 361 = .ok (.aload_n 0, 1) := by decide +kernel
theorem dL_law_362 : decode cL_law 362 = .ok (.iload_n 3, 1) := by decide +kernel
theorem dL_law_363 : decode cL_law 363 = .ok (.iconst 1, 1) := by decide +kernel
theorem dL_law_364 : decode cL_law 364 = .ok (.iadd, 1) := by decide +kernel
theorem dL_law_365 : decode cL_law 365 = .ok (.iaload, 1) := by decide +kernel
theorem dL_law_366 : decode cL_law 366 = .ok (.aload_n 0, 1) := by decide +kernel
theorem dL_law_367 : decode cL_law 367 = .ok (.iload_n 3, 1) := by decide +kernel
theorem dL_law_368 : decode cL_law 368 = .ok (.iconst 2, 1) := by decide +kernel
theorem dL_law_369 : decode cL_law 369 = .ok (.iadd, 1) := by decide +kernel
theorem dL_law_370 : decode cL_law 370 = .ok (.iaload, 1) := by decide +kernel
theorem dL_law_371 : decode cL_law 371 = .ok (.invokevirtual 52, 3) := by decide +kernel
theorem dL_law_374 : decode cL_law 374 = .ok (.if_icmp .eq 271, 3) := by decide +kernel
theorem dL_law_377 : decode cL_law 377 = .ok (.iconst 0, 1) := by decide +kernel
theorem dL_law_378 : decode cL_law 378 = .ok (.ireturn, 1) := by decide +kernel
theorem dL_law_379 : decode cL_law 379 = .ok (.aload_n 1, 1) := by decide +kernel
theorem dL_law_380 : decode cL_law 380 = .ok (.aload_n 0, 1) := by decide +kernel
theorem dL_law_381 : decode cL_law 381 = .ok (.iload_n 3, 1) := by decide +kernel
theorem dL_law_382 : decode cL_law 382 = .ok (.iconst 1, 1) := by decide +kernel
theorem dL_law_383 : decode cL_law 383 = .ok (.iadd, 1) := by decide +kernel
theorem dL_law_384 : decode cL_law 384 = .ok (.iaload, 1) := by decide +kernel
theorem dL_law_385 : decode cL_law 385 = .ok (.aload_n 0, 1) := by decide +kernel
theorem dL_law_386 : decode cL_law 386 = .ok (.iload_n 3, 1) := by decide +kernel
theorem dL_law_387 : decode cL_law 387 = .ok (.iconst 2, 1) := by decide +kernel
theorem dL_law_388 : decode cL_law 388 = .ok (.iadd, 1) := by decide +kernel
theorem dL_law_389 : decode cL_law 389 = .ok (.iaload, 1) := by decide +kernel
theorem dL_law_390 : decode cL_law 390 = .ok (.invokevirtual 53, 3) := by decide +kernel
theorem dL_law_393 : decode cL_law 393 = .ok (.aload_n 2, 1) := by decide +kernel
theorem dL_law_394 : decode cL_law 394 = .ok (.aload_n 0, 1) := by decide +kernel
theorem dL_law_395 : decode cL_law 395 = .ok (.iload_n 3, 1) := by decide +kernel
theorem dL_law_396 : decode cL_law 396 = .ok (.iconst 1, 1) := by decide +kernel
theorem dL_law_397 : decode cL_law 397 = .ok (.iadd, 1) := by decide +kernel
theorem dL_law_398 : decode cL_law 398 = .ok (.iaload, 1) := by decide +kernel
theorem dL_law_399 : decode cL_law 399 = .ok (.aload_n 0, 1) := by decide +kernel
theorem dL_law_400 : decode cL_law 400 = .ok (.iload_n 3, 1) := by decide +kernel
theorem dL_law_401 : decode cL_law 401 = .ok (.iconst 2, 1) := by decide +kernel
theorem dL_law_402 : decode cL_law 402 = .ok (.iadd, 1) := by decide +kernel
theorem dL_law_403 : decode cL_law 403 = .ok (.iaload, 1) := by decide +kernel
theorem dL_law_404 : decode cL_law 404 = .ok (.invokevirtual 56, 3) := by decide +kernel
theorem dL_law_407 : decode cL_law 407 = .ok (.if_icmp .eq 238, 3) := by decide +kernel
theorem dL_law_410 : decode cL_law 410 = .ok (.iconst 0, 1) := by decide +kernel
theorem dL_law_411 : decode cL_law 411 = .ok (.ireturn, 1) := by decide +kernel
theorem dL_law_412 : decode cL_law 412 = .ok (.aload_n 1, 1) := by decide +kernel
theorem dL_law_413 : decode cL_law 413 = .ok (.aload_n 0, 1) := by decide +kernel
theorem dL_law_414 : decode cL_law 414 = .ok (.iload_n 3, 1) := by decide +kernel
theorem dL_law_415 : decode cL_law 415 = .ok (.iconst 1, 1) := by decide +kernel
theorem dL_law_416 : decode cL_law 416 = .ok (.iadd, 1) := by decide +kernel
theorem dL_law_417 : decode cL_law 417 = .ok (.iaload, 1) := by decide +kernel
theorem dL_law_418 : decode cL_law 418 = .ok (.invokevirtual 57, 3) := by decide +kernel
theorem dL_law_421 : decode cL_law 421 = .ok (.aload_n 2, 1) := by decide +kernel
theorem dL_law_422 : decode cL_law 422 = .ok (.aload_n 0, 1) := by decide +kernel
theorem dL_law_423 : decode cL_law 423 = .ok (.iload_n 3, 1) := by decide +kernel
theorem dL_law_424 : decode cL_law 424 = .ok (.iconst 1, 1) := by decide +kernel
theorem dL_law_425 : decode cL_law 425 = .ok (.iadd, 1) := by decide +kernel
theorem dL_law_426 : decode cL_law 426 = .ok (.iaload, 1) := by decide +kernel
theorem dL_law_427 : decode cL_law 427 = .ok (.invokevirtual 60, 3) := by decide +kernel
theorem dL_law_430 : decode cL_law 430 = .ok (.if_icmp .eq 215, 3) := by decide +kernel
theorem dL_law_433 : decode cL_law 433 = .ok (.iconst 0, 1) := by decide +kernel
theorem dL_law_434 : decode cL_law 434 = .ok (.ireturn, 1) := by decide +kernel
theorem dL_law_435 : decode cL_law 435 = .ok (.aload_n 1, 1) := by decide +kernel
theorem dL_law_436 : decode cL_law 436 = .ok (.invokevirtual 61, 3) := by decide +kernel
theorem dL_law_439 : decode cL_law 439 = .ok (.aload_n 2, 1) := by decide +kernel
theorem dL_law_440 : decode cL_law 440 = .ok (.invokevirtual 64, 3) := by decide +kernel
theorem dL_law_443 : decode cL_law 443 = .ok (.if_icmp .eq 202, 3) := by decide +kernel
theorem dL_law_446 : decode cL_law 446 = .ok (.iconst 0, 1) := by decide +kernel
theorem dL_law_447 : decode cL_law 447 = .ok (.ireturn, 1) := by decide +kernel
theorem dL_law_448 : decode cL_law 448 = .ok (.aload_n 1, 1) := by decide +kernel
theorem dL_law_449 : decode cL_law 449 = .ok (.aload_n 0, 1) := by decide +kernel
theorem dL_law_450 : decode cL_law 450 = .ok (.iload_n 3, 1) := by decide +kernel
theorem dL_law_451 : decode cL_law 451 = .ok (.iconst 1, 1) := by decide +kernel
theorem dL_law_452 : decode cL_law 452 = .ok (.iadd, 1) := by decide +kernel
theorem dL_law_453 : decode cL_law 453 = .ok (.iaload, 1) := by decide +kernel
theorem dL_law_454 : decode cL_law 454 = .ok (.aload_n 0, 1) := by decide +kernel
theorem dL_law_455 : decode cL_law 455 = .ok (.iload_n 3, 1) := by decide +kernel
theorem dL_law_456 : decode cL_law 456 = .ok (.iconst 2, 1) := by decide +kernel
theorem dL_law_457 : decode cL_law 457 = .ok (.iadd, 1) := by decide +kernel
theorem dL_law_458 : decode cL_law 458 = .ok (.iaload, 1) := by decide +kernel
theorem dL_law_459 : decode cL_law 459 = .ok (.invokevirtual 65, 3) := by decide +kernel
theorem dL_law_462 : decode cL_law 462 = .ok (.aload_n 2, 1) := by decide +kernel
theorem dL_law_463 : decode cL_law 463 = .ok (.aload_n 0, 1) := by decide +kernel
theorem dL_law_464 : decode cL_law 464 = .ok (.iload_n 3, 1) := by decide +kernel
theorem dL_law_465 : decode cL_law 465 = .ok (.iconst 1, 1) := by decide +kernel
theorem dL_law_466 : decode cL_law 466 = .ok (.iadd, 1) := by decide +kernel
theorem dL_law_467 : decode cL_law 467 = .ok (.iaload, 1) := by decide +kernel
theorem dL_law_468 : decode cL_law 468 = .ok (.aload_n 0, 1) := by decide +kernel
theorem dL_law_469 : decode cL_law 469 = .ok (.iload_n 3, 1) := by decide +kernel
theorem dL_law_470 : decode cL_law 470 = .ok (.iconst 2, 1) := by decide +kernel
theorem dL_law_471 : decode cL_law 471 = .ok (.iadd, 1) := by decide +kernel
theorem dL_law_472 : decode cL_law 472 = .ok (.iaload, 1) := by decide +kernel
theorem dL_law_473 : decode cL_law 473 = .ok (.invokevirtual 68, 3) := by decide +kernel
theorem dL_law_476 : decode cL_law 476 = .ok (.if_icmp .eq 169, 3) := by decide +kernel
theorem dL_law_479 : decode cL_law 479 = .ok (.iconst 0, 1) := by decide +kernel
theorem dL_law_480 : decode cL_law 480 = .ok (.ireturn, 1) := by decide +kernel
theorem dL_law_481 : decode cL_law 481 = .ok (.aload_n 1, 1) := by decide +kernel
theorem dL_law_482 : decode cL_law 482 = .ok (.invokevirtual 69, 3) := by decide +kernel
theorem dL_law_485 : decode cL_law 485 = .ok (.aload_n 2, 1) := by decide +kernel
theorem dL_law_486 : decode cL_law 486 = .ok (.invokevirtual 72, 3) := by decide +kernel
theorem dL_law_489 : decode cL_law 489 = .ok (.if_icmp .eq 156, 3) := by decide +kernel
theorem dL_law_492 : decode cL_law 492 = .ok (.iconst 0, 1) := by decide +kernel
theorem dL_law_493 : decode cL_law 493 = .ok (.ireturn, 1) := by decide +kernel
theorem dL_law_494 : decode cL_law 494 = .ok (.aload_n 1, 1) := by decide +kernel
theorem dL_law_495 : decode cL_law 495 = .ok (.invokevirtual 73, 3) := by decide +kernel
theorem dL_law_498 : decode cL_law 498 = .ok (.aload_n 2, 1) := by decide +kernel
theorem dL_law_499 : decode cL_law 499 = .ok (.invokevirtual 76, 3) := by decide +kernel
theorem dL_law_502 : decode cL_law 502 = .ok (.if_icmp .eq 143, 3) := by decide +kernel
theorem dL_law_505 : decode cL_law 505 = .ok (.iconst 0, 1) := by decide +kernel
theorem dL_law_506 : decode cL_law 506 = .ok (.ireturn, 1) := by decide +kernel
theorem dL_law_507 : decode cL_law 507 = .ok (.aload_n 1, 1) := by decide +kernel
theorem dL_law_508 : decode cL_law 508 = .ok (.aload_n 0, 1) := by decide +kernel
theorem dL_law_509 : decode cL_law 509 = .ok (.iload_n 3, 1) := by decide +kernel
theorem dL_law_510 : decode cL_law 510 = .ok (.iconst 1, 1) := by decide +kernel
theorem dL_law_511 : decode cL_law 511 = .ok (.iadd, 1) := by decide +kernel
theorem dL_law_512 : decode cL_law 512 = .ok (.iaload, 1) := by decide +kernel
theorem dL_law_513 : decode cL_law 513 = .ok (.i2l, 1) := by decide +kernel
theorem dL_law_514 : decode cL_law 514 = .ok (.bipush 32, 2) := by decide +kernel
theorem dL_law_516 : decode cL_law 516 = .ok (.lshl, 1) := by decide +kernel
theorem dL_law_517 : decode cL_law 517 = .ok (.aload_n 0, 1) := by decide +kernel
theorem dL_law_518 : decode cL_law 518 = .ok (.iload_n 3, 1) := by decide +kernel
theorem dL_law_519 : decode cL_law 519 = .ok (.iconst 2, 1) := by decide +kernel
theorem dL_law_520 : decode cL_law 520 = .ok (.iadd, 1) := by decide +kernel
theorem dL_law_521 : decode cL_law 521 = .ok (.iaload, 1) := by decide +kernel
theorem dL_law_522 : decode cL_law 522 = .ok (.i2l, 1) := by decide +kernel
theorem dL_law_523 : decode cL_law 523 = .ok (.ldc2_w 77, 3) := by decide +kernel
theorem dL_law_526 : decode cL_law 526 = .ok (.land, 1) := by decide +kernel
theorem dL_law_527 : decode cL_law 527 = .ok (.lor, 1) := by decide +kernel
theorem dL_law_528 : decode cL_law 528 = .ok (.invokevirtual 79, 3) := by decide +kernel
theorem dL_law_531 : decode cL_law 531 = .ok (.aload_n 2, 1) := by decide +kernel
theorem dL_law_532 : decode cL_law 532 = .ok (.aload_n 0, 1) := by decide +kernel
theorem dL_law_533 : decode cL_law 533 = .ok (.iload_n 3, 1) := by decide +kernel
theorem dL_law_534 : decode cL_law 534 = .ok (.iconst 1, 1) := by decide +kernel
theorem dL_law_535 : decode cL_law 535 = .ok (.iadd, 1) := by decide +kernel
theorem dL_law_536 : decode cL_law 536 = .ok (.iaload, 1) := by decide +kernel
theorem dL_law_537 : decode cL_law 537 = .ok (.i2l, 1) := by decide +kernel
theorem dL_law_538 : decode cL_law 538 = .ok (.bipush 32, 2) := by decide +kernel
theorem dL_law_540 : decode cL_law 540 = .ok (.lshl, 1) := by decide +kernel
theorem dL_law_541 : decode cL_law 541 = .ok (.aload_n 0, 1) := by decide +kernel
theorem dL_law_542 : decode cL_law 542 = .ok (.iload_n 3, 1) := by decide +kernel
theorem dL_law_543 : decode cL_law 543 = .ok (.iconst 2, 1) := by decide +kernel
theorem dL_law_544 : decode cL_law 544 = .ok (.iadd, 1) := by decide +kernel
theorem dL_law_545 : decode cL_law 545 = .ok (.iaload, 1) := by decide +kernel
theorem dL_law_546 : decode cL_law 546 = .ok (.i2l, 1) := by decide +kernel
theorem dL_law_547 : decode cL_law 547 = .ok (.ldc2_w 77, 3) := by decide +kernel
theorem dL_law_550 : decode cL_law 550 = .ok (.land, 1) := by decide +kernel
theorem dL_law_551 : decode cL_law 551 = .ok (.lor, 1) := by decide +kernel
theorem dL_law_552 : decode cL_law 552 = .ok (.invokevirtual 83, 3) := by decide +kernel
theorem dL_law_555 : decode cL_law 555 = .ok (.if_icmp .eq 90, 3) := by decide +kernel
theorem dL_law_558 : decode cL_law 558 = .ok (.iconst 0, 1) := by decide +kernel
theorem dL_law_559 : decode cL_law 559 = .ok (.ireturn, 1) := by decide +kernel
theorem dL_law_560 : decode cL_law 560 = .ok (.aload_n 1, 1) := by decide +kernel
theorem dL_law_561 : decode cL_law 561 = .ok (.invokevirtual 84, 3) := by decide +kernel
theorem dL_law_564 : decode cL_law 564 = .ok (.aload_n 2, 1) := by decide +kernel
theorem dL_law_565 : decode cL_law 565 = .ok (.invokevirtual 87, 3) := by decide +kernel
theorem dL_law_568 : decode cL_law 568 = .ok (.if_icmp .eq 77, 3) := by decide +kernel
theorem dL_law_571 : decode cL_law 571 = .ok (.iconst 0, 1) := by decide +kernel
theorem dL_law_572 : decode cL_law 572 = .ok (.ireturn, 1) := by decide +kernel
theorem dL_law_573 : decode cL_law 573 = .ok (.aload_n 1, 1) := by decide +kernel
theorem dL_law_574 : decode cL_law 574 = .ok (.invokevirtual 88, 3) := by decide +kernel
theorem dL_law_577 : decode cL_law 577 = .ok (.aload_n 2, 1) := by decide +kernel
theorem dL_law_578 : decode cL_law 578 = .ok (.invokevirtual 91, 3) := by decide +kernel
theorem dL_law_581 : decode cL_law 581 = .ok (.if_icmp .eq 64, 3) := by decide +kernel
theorem dL_law_584 : decode cL_law 584 = .ok (.iconst 0, 1) := by decide +kernel
theorem dL_law_585 : decode cL_law 585 = .ok (.ireturn, 1) := by decide +kernel
theorem dL_law_586 : decode cL_law 586 = .ok (.aload_n 1, 1) := by decide +kernel
theorem dL_law_587 : decode cL_law 587 = .ok (.invokevirtual 92, 3) := by decide +kernel
theorem dL_law_590 : decode cL_law 590 = .ok (.aload_n 2, 1) := by decide +kernel
theorem dL_law_591 : decode cL_law 591 = .ok (.invokevirtual 95, 3) := by decide +kernel
theorem dL_law_594 : decode cL_law 594 = .ok (.if_icmp .eq 51, 3) := by decide +kernel
theorem dL_law_597 : decode cL_law 597 = .ok (.iconst 0, 1) := by decide +kernel
theorem dL_law_598 : decode cL_law 598 = .ok (.ireturn, 1) := by decide +kernel
theorem dL_law_599 : decode cL_law 599 = .ok (.aload_n 1, 1) := by decide +kernel
theorem dL_law_600 : decode cL_law 600 = .ok (.aload_n 0, 1) := by decide +kernel
theorem dL_law_601 : decode cL_law 601 = .ok (.iload_n 3, 1) := by decide +kernel
theorem dL_law_602 : decode cL_law 602 = .ok (.iconst 1, 1) := by decide +kernel
theorem dL_law_603 : decode cL_law 603 = .ok (.iadd, 1) := by decide +kernel
theorem dL_law_604 : decode cL_law 604 = .ok (.iaload, 1) := by decide +kernel
theorem dL_law_605 : decode cL_law 605 = .ok (.invokevirtual 96, 3) := by decide +kernel
theorem dL_law_608 : decode cL_law 608 = .ok (.aload_n 2, 1) := by decide +kernel
theorem dL_law_609 : decode cL_law 609 = .ok (.aload_n 0, 1) := by decide +kernel
theorem dL_law_610 : decode cL_law 610 = .ok (.iload_n 3, 1) := by decide +kernel
theorem dL_law_611 : decode cL_law 611 = .ok (.iconst 1, 1) := by decide +kernel
theorem dL_law_612 : decode cL_law 612 = .ok (.iadd, 1) := by decide +kernel
theorem dL_law_613 : decode cL_law 613 = .ok (.iaload, 1) := by decide +kernel
theorem dL_law_614 : decode cL_law 614 = .ok (.invokevirtual 99, 3) := by decide +kernel
theorem dL_law_617 : decode cL_law 617 = .ok (.if_icmp .eq 28, 3) := by decide +kernel
theorem dL_law_620 : decode cL_law 620 = .ok (.iconst 0, 1) := by decide +kernel
theorem dL_law_621 : decode cL_law 621 = .ok (.ireturn, 1) := by decide +kernel
theorem dL_law_622 : decode cL_law 622 = .ok (.aload_n 1, 1) := by decide +kernel
theorem dL_law_623 : decode cL_law 623 = .ok (.aload_n 0, 1) := by decide +kernel
theorem dL_law_624 : decode cL_law 624 = .ok (.iload_n 3, 1) := by decide +kernel
theorem dL_law_625 : decode cL_law 625 = .ok (.iconst 1, 1) := by decide +kernel
theorem dL_law_626 : decode cL_law 626 = .ok (.iadd, 1) := by decide +kernel
theorem dL_law_627 : decode cL_law 627 = .ok (.iaload, 1) := by decide +kernel
theorem dL_law_628 : decode cL_law 628 = .ok (.invokevirtual 100, 3) := by decide +kernel
theorem dL_law_631 : decode cL_law 631 = .ok (.aload_n 2, 1) := by decide +kernel
theorem dL_law_632 : decode cL_law 632 = .ok (.aload_n 0, 1) := by decide +kernel
theorem dL_law_633 : decode cL_law 633 = .ok (.iload_n 3, 1) := by decide +kernel
theorem dL_law_634 : decode cL_law 634 = .ok (.iconst 1, 1) := by decide +kernel
theorem dL_law_635 : decode cL_law 635 = .ok (.iadd, 1) := by decide +kernel
theorem dL_law_636 : decode cL_law 636 = .ok (.iaload, 1) := by decide +kernel
theorem dL_law_637 : decode cL_law 637 = .ok (.invokevirtual 103, 3) := by decide +kernel
theorem dL_law_640 : decode cL_law 640 = .ok (.if_icmp .eq 5, 3) := by decide +kernel
theorem dL_law_643 : decode cL_law 643 = .ok (.iconst 0, 1) := by decide +kernel
theorem dL_law_644 : decode cL_law 644 = .ok (.ireturn, 1) := by decide +kernel
theorem dL_law_645 : decode cL_law 645 = .ok (.iinc 3 4, 3) := by decide +kernel
theorem dL_law_648 : decode cL_law 648 = .ok (.goto (-630), 3) := by decide +kernel
theorem dL_law_651 : decode cL_law 651 = .ok (.iconst 1, 1) := by decide +kernel
theorem dL_law_652 : decode cL_law 652 = .ok (.ireturn, 1) := by decide +kernel
end
section
/-! ===== contracts that say the answer and the new world outright; calls by them ===== -/
abbrev jk_G : Type := ClassId × ClassId × ClassId
abbrev jk_T (g : jk_G) : List (ClassId × FieldType) := [(g.1, .int), (g.2.1, .char), (g.2.2, .object RX2)]
/-- the nest mates' links, which no word list holds -/
def jk_N (U : State) : Prop := va_Nw (.methodLinkNest RX4 9 yX2_init RX4) U ∧ va_Nw (.methodLinkNest RX4 21 yX1_init RX4) U ∧ va_Nw (.methodLinkNest RX4 32 yX0_init RX4) U ∧ va_Nw (.methodLinkNest RX0 11 yX3_init RX4) U ∧ va_Nw (.methodLinkNest RX1 30 yX2_init RX4) U ∧ va_Nw (.methodLinkNest RX2 30 yX4_copyNumbers RX4) U ∧ va_Nw (.methodLinkNest RX2 127 yX4_limited RX4) U
theorem jk_N.warm {s U : State} (hW : s.WarmedH U.vm) (h : jk_N s) : jk_N U := ⟨va_Nw.warmM hW h.1, va_Nw.warmM hW h.2.1, va_Nw.warmM hW h.2.2.1, va_Nw.warmM hW h.2.2.2.1, va_Nw.warmM hW h.2.2.2.2.1, va_Nw.warmM hW h.2.2.2.2.2.1, va_Nw.warmM hW h.2.2.2.2.2.2⟩
theorem jk_N.same {u U : State} (e : u.vm = U.vm) (h : jk_N u) : jk_N U := ⟨va_Nw.same rfl e h.1, va_Nw.same rfl e h.2.1, va_Nw.same rfl e h.2.2.1, va_Nw.same rfl e h.2.2.2.1, va_Nw.same rfl e h.2.2.2.2.1, va_Nw.same rfl e h.2.2.2.2.2.1, va_Nw.same rfl e h.2.2.2.2.2.2⟩
def jk_B (D : va_G) (g : jk_G) (w : va_W) (sz : Nat) (U : State) : Prop := U.heap.size = sz ∧ va_P D vwCl w U.heap ∧ va_K D vwCl (jk_T g) U ∧ va_D (fun _ => True) w ∧ jk_N U
def jk_Q (o : Option Value) (D : va_G) (w' : va_W) (A : Nat → Prop) : Array Value → State → Outcome → State → Prop := fun _ st oc t => oc = .returned o ∧ va_P D vwCl w' t.heap ∧ va_F A st t
/-- in every heap that holds the world w, with the arguments av: the method answers o, and the heap then holds w' -/
def jk_M (l : Launch) (D : va_G) (g : jk_G) (y : MethodName) (ws : List Cond) (fr lo : Nat) (av : List Value) (w : va_W) (o : Option Value) (w' : va_W) : Prop :=
  ∀ sz : Nat, Met l y ws ({ frames := fr, cells := 0, slots := 0, locals := lo }) (va_Pc av (jk_B D g w sz)) (jk_Q o D w' (va_A w sz)) 0 0 (va_A w sz)
theorem jk_blind {D : va_G} {g : jk_G} {w : va_W} {sz : Nat} {av : List Value} : FrameBlind (va_Pc av (jk_B D g w sz)) := fun a U gg mk q => by
  obtain ⟨q0, q1, qP, qK, qD, qN⟩ := q
  exact ⟨q0, q1, qP, va_K.moved (u := U) (U := U.calling gg mk a) (Vm.Alike.refl U.vm) qK, qD, jk_N.same (u := U) (U := U.calling gg mk a) rfl qN⟩
theorem jk_pay {A : Nat → Prop} {s : State} {H : Heap} {D : va_G} {g : jk_G} {w : va_W} {av : List Value} (hP : va_P D vwCl w H) (hK : va_K D vwCl (jk_T g) s) (hD : va_D A w) (hN : jk_N s) : ∀ U : State, U.heap = H → s.WarmedH U.vm → va_Pc av (jk_B D g w H.size) av.toArray U := fun U hU hW => ⟨rfl, by rw [hU], by rw [hU]; exact hP, va_K.moved hW.alike hK, hD.weaken (fun _ _ _ _ => trivial), jk_N.warm hW hN⟩
/-- worlds by their members -/
theorem jk_P.mem {D : va_G} {cl : List vw_C} {ws : va_W} {H : Heap} : va_P D cl ws H ↔ ∀ x ∈ ws, va_at D cl x H := by
  constructor
  · intro h x hx
    obtain ⟨k, hk⟩ := List.getElem?_of_mem hx
    exact h k x hk
  · intro h k q hq
    exact h q (List.mem_of_getElem? hq)
theorem jk_D.pair {A : Nat → Prop} {ws : va_W} (h : va_D A ws) : ws.Pairwise (fun p q => p.1 ≠ q.1) ∧ ∀ x ∈ ws, A x.1 := by
  refine ⟨List.pairwise_iff_getElem.mpr (fun i j hi hj hij e => ?_), fun x hx => ?_⟩
  · have := h.1 i j _ _ (List.getElem?_eq_getElem hi) (List.getElem?_eq_getElem hj) e
    omega
  · obtain ⟨k, hk⟩ := List.getElem?_of_mem hx
    exact h.2 k x hk
theorem jk_D.of {A : Nat → Prop} {ws : va_W} (h1 : ws.Pairwise (fun p q => p.1 ≠ q.1)) (h2 : ∀ x ∈ ws, A x.1) : va_D A ws := by
  refine ⟨fun i j p q hi hj e => ?_, fun k q hk => h2 q (List.mem_of_getElem? hk)⟩
  obtain ⟨hi1, hi2⟩ := List.getElem?_eq_some_iff.mp hi
  obtain ⟨hj1, hj2⟩ := List.getElem?_eq_some_iff.mp hj
  rw [List.pairwise_iff_getElem] at h1
  rcases Nat.lt_trichotomy i j with c | c | c
  · exact absurd (by rw [hi2, hj2]; exact e) (h1 i j hi1 hj1 c)
  · exact c
  · exact absurd (by rw [hi2, hj2]; exact e.symm) (h1 j i hj1 hi1 c)
theorem jk_D.same {A : Nat → Prop} {ws ws1 : va_W} (h : va_D A ws) (e : ws1.map Prod.fst = ws.map Prod.fst) : va_D A ws1 := by
  have key : ∀ (k : Nat) (q : Nat × va_E), ws1[k]? = some q → ∃ q0, ws[k]? = some q0 ∧ q0.1 = q.1 := by
    intro k q hk
    have h1 : (ws1.map Prod.fst)[k]? = some q.1 := by rw [List.getElem?_map, hk]; rfl
    rw [e, List.getElem?_map] at h1
    cases hq : ws[k]? with
    | none => rw [hq] at h1; cases h1
    | some q0 => rw [hq] at h1; exact ⟨q0, rfl, Option.some.inj h1⟩
  refine ⟨fun i j p q hi hj hpq => ?_, fun k q hk => ?_⟩
  · obtain ⟨p0, a1, a2⟩ := key i p hi
    obtain ⟨q0, b1, b2⟩ := key j q hj
    exact h.1 i j p0 q0 a1 b1 (a2.trans (hpq.trans b2.symm))
  · obtain ⟨q0, a1, a2⟩ := key k q hk
    rw [← a2]
    exact h.2 k q0 a1
/-- behind a call that has no world of its own: all stays -/
theorem jk_keep {D : va_G} {cl : List vw_C} {ws : va_W} {H H1 : Heap} (hP : va_P D cl ws H) (hk : ∀ q : Nat, q < H.size → ¬ va_A [] H.size q → H1[q]? = H[q]?) : va_P D cl ws H1 :=
  hP.kept (fun k q hq => hk q.1 (hP k q hq).lt (fun h => by
    rcases h with ⟨k2, e, h⟩ | h
    · simp at h
    · have := (hP k q hq).lt
      omega))
theorem jk_free0 {A0 : Nat → Prop} {H0 H : Heap} {locs : List Loc} (hS : va_S A0 H0 H locs) (hA : ∀ q, H0.size ≤ q → A0 q) : ∀ q, va_A [] H.size q → A0 q := by
  intro q h
  rcases h with ⟨k, e, h⟩ | h
  · simp at h
  · exact hA q (Nat.le_trans hS.1 h)
theorem jk_freeA {A0 : Nat → Prop} {ws : va_W} {H0 H : Heap} {locs : List Loc} (hD : va_D A0 ws) (hS : va_S A0 H0 H locs) (hA : ∀ q, H0.size ≤ q → A0 q) : ∀ q, va_A ws H.size q → A0 q := by
  intro q h
  rcases h with ⟨k, e, h⟩ | h
  · exact hD.2 k _ h
  · exact hA q (Nat.le_trans hS.1 h)
theorem jk_freeM {A0 : Nat → Prop} {ws wc : va_W} {H0 H : Heap} {locs : List Loc} (hD : va_D A0 ws) (hS : va_S A0 H0 H locs) (hA : ∀ q, H0.size ≤ q → A0 q) (hm : ∀ x ∈ wc, x ∈ ws) : ∀ q, va_A wc H.size q → A0 q := by
  intro q h
  rcases h with ⟨k, e, h⟩ | h
  · exact (jk_D.pair hD).2 (q, e) (hm _ (List.mem_of_getElem? h))
  · exact hA q (Nat.le_trans hS.1 h)
theorem jk_nilD {A : Nat → Prop} : va_D A [] := ⟨fun i j p q h => by simp at h, fun k q h => by simp at h⟩
theorem jk_nilP {D : va_G} {cl : List vw_C} {H : Heap} : va_P D cl [] H := fun k q h => by simp at h
/-- a part of a world that lies in segments -/
theorem jk_segMem {L : List va_W} {isC : List Nat} {x : Nat × va_E} (h : x ∈ (isC.map (fun i => L.getD i [])).flatten) : ∃ i ∈ isC, x ∈ L.getD i [] := by
  obtain ⟨s, hs, hx⟩ := List.mem_flatten.mp h
  obtain ⟨i, hi, rfl⟩ := List.mem_map.mp hs
  exact ⟨i, hi, hx⟩
theorem jk_getD {L : List va_W} {i : Nat} {x : Nat × va_E} (h : x ∈ L.getD i []) : ∃ s, L[i]? = some s ∧ x ∈ s := by
  rw [List.getD_eq_getElem?_getD] at h
  cases hs : L[i]? with
  | none => rw [hs] at h; simp at h
  | some s => rw [hs] at h; exact ⟨s, rfl, h⟩
theorem jk_segIn {L : List va_W} {isC : List Nat} : ∀ x ∈ (isC.map (fun i => L.getD i [])).flatten, x ∈ L.flatten := by
  intro x h
  obtain ⟨i, -, hx⟩ := jk_segMem h
  obtain ⟨s, hs, hx⟩ := jk_getD hx
  exact List.mem_flatten.mpr ⟨s, List.mem_of_getElem? hs, hx⟩
theorem jk_segSub {D : va_G} {cl : List vw_C} {L : List va_W} {H : Heap} (hP : va_P D cl L.flatten H) (isC : List Nat) : va_P D cl ((isC.map (fun i => L.getD i [])).flatten) H :=
  jk_P.mem.mpr fun x hx => jk_P.mem.mp hP x (jk_segIn x hx)
theorem jk_segApart {A : Nat → Prop} {L : List va_W} (hD : va_D A L.flatten) {i j : Nat} (hij : i ≠ j) {x y : Nat × va_E} (hx : x ∈ L.getD i []) (hy : y ∈ L.getD j []) : x.1 ≠ y.1 := by
  have h := (List.pairwise_flatten.mp (jk_D.pair hD).1).2
  obtain ⟨s, hs, hx⟩ := jk_getD hx
  obtain ⟨t, ht, hy⟩ := jk_getD hy
  obtain ⟨hi1, hi2⟩ := List.getElem?_eq_some_iff.mp hs
  obtain ⟨hj1, hj2⟩ := List.getElem?_eq_some_iff.mp ht
  rw [List.pairwise_iff_getElem] at h
  rcases Nat.lt_or_gt_of_ne hij with c | c
  · exact h i j hi1 hj1 c x (by rw [hi2]; exact hx) y (by rw [hj2]; exact hy)
  · exact fun e => h j i hj1 hi1 c y (by rw [hj2]; exact hy) x (by rw [hi2]; exact hx) e.symm
theorem jk_segSubD {A : Nat → Prop} {L : List va_W} (hD : va_D A L.flatten) (isC : List Nat) (hn : isC.Nodup) : va_D A ((isC.map (fun i => L.getD i [])).flatten) := by
  refine jk_D.of (List.pairwise_flatten.mpr ⟨fun s hs => ?_, ?_⟩) (fun x hx => (jk_D.pair hD).2 x (jk_segIn x hx))
  · obtain ⟨i, -, rfl⟩ := List.mem_map.mp hs
    rw [List.getD_eq_getElem?_getD]
    cases hs : L[i]? with
    | none => exact List.Pairwise.nil
    | some t => exact (List.pairwise_flatten.mp (jk_D.pair hD).1).1 t (List.mem_of_getElem? hs)
  · rw [List.pairwise_map]
    exact hn.imp (fun hij x hx y hy => jk_segApart hD hij hx hy)
/-- behind a call that had some segments: those as it left them, the rest as it was -/
theorem jk_seg {A : Nat → Prop} {D : va_G} {cl : List vw_C} {L L' T : List va_W} {w1 : va_W} {H : Heap} (hP : va_P D cl L.flatten H) (hD : va_D A L.flatten) (isC : List Nat) (cs : List (Bool × Nat)) (h1 : w1 = T.flatten)
    (hc : cs.all (fun c => c.1 || !(isC.contains c.2)) = true) (hL : L' = cs.map (fun c => if c.1 then T.getD c.2 [] else L.getD c.2 [])) :
    ∀ H1 : Heap, va_P D cl w1 H1 → (∀ q : Nat, q < H.size → ¬ va_A ((isC.map (fun i => L.getD i [])).flatten) H.size q → H1[q]? = H[q]?) → va_P D cl L'.flatten H1 := by
  intro H1 hP1 hk
  subst h1
  refine jk_P.mem.mpr fun x hx => ?_
  obtain ⟨s, hs, hx⟩ := List.mem_flatten.mp hx
  rw [hL] at hs
  obtain ⟨⟨b, j⟩, hj, rfl⟩ := List.mem_map.mp hs
  have hb := List.all_eq_true.mp hc _ hj
  cases b with
  | true =>
    have hx : x ∈ T.getD j [] := hx
    obtain ⟨t, ht, hx⟩ := jk_getD hx
    exact jk_P.mem.mp hP1 x (List.mem_flatten.mpr ⟨t, List.mem_of_getElem? ht, hx⟩)
  | false =>
    have hx : x ∈ L.getD j [] := hx
    have hjC : j ∉ isC := by
      intro q
      simp at hb
      exact hb q
    obtain ⟨t, ht, hx2⟩ := jk_getD hx
    have hat := jk_P.mem.mp hP x (List.mem_flatten.mpr ⟨t, List.mem_of_getElem? ht, hx2⟩)
    refine hat.kept (hk x.1 hat.lt (fun h => ?_))
    rcases h with ⟨k2, e, h⟩ | h
    · obtain ⟨i, hi, hy⟩ := jk_segMem (List.mem_of_getElem? h)
      exact jk_segApart hD (i := i) (j := j) (fun z => hjC (z ▸ hi)) hy hx rfl
    · have := hat.lt
      omega
theorem jk_one {D : va_G} {cl : List vw_C} {w : va_W} {H : Heap} : va_P D cl (List.flatten [w]) H ↔ va_P D cl w H := by simp
theorem jk_oneD {A : Nat → Prop} {w : va_W} : va_D A (List.flatten [w]) ↔ va_D A w := by simp
theorem jk_seg1 {A : Nat → Prop} {D : va_G} {cl : List vw_C} {L L' : List va_W} {T : va_W} {H : Heap} (hP : va_P D cl L.flatten H) (hD : va_D A L.flatten) (i : Nat) (cs : List (Bool × Nat))
    (hc : cs.all (fun c => c.1 || !(c.2 == i)) = true) (hL : L' = cs.map (fun c => if c.1 then T else L.getD c.2 [])) :
    ∀ H1 : Heap, va_P D cl T H1 → (∀ q : Nat, q < H.size → ¬ va_A (L.getD i []) H.size q → H1[q]? = H[q]?) → va_P D cl L'.flatten H1 := by
  intro H1 hP1 hk
  refine jk_P.mem.mpr fun x hx => ?_
  obtain ⟨s, hs, hx⟩ := List.mem_flatten.mp hx
  rw [hL] at hs
  obtain ⟨⟨b, j⟩, hj, rfl⟩ := List.mem_map.mp hs
  have hb := List.all_eq_true.mp hc _ hj
  cases b with
  | true => exact jk_P.mem.mp hP1 x hx
  | false =>
    have hx : x ∈ L.getD j [] := hx
    have hji : j ≠ i := by
      intro q
      simp at hb
      exact hb q
    obtain ⟨t, ht, hx2⟩ := jk_getD hx
    have hat := jk_P.mem.mp hP x (List.mem_flatten.mpr ⟨t, List.mem_of_getElem? ht, hx2⟩)
    refine hat.kept (hk x.1 hat.lt (fun h => ?_))
    rcases h with ⟨k2, e, h⟩ | h
    · exact jk_segApart hD hji hx (List.mem_of_getElem? h) rfl
    · have := hat.lt
      omega
theorem jk_inC {i : Int32} {n : Nat} (h : decide (¬ (i < 0 ∨ n ≤ i.toNatClampNeg)) = true) : vp_in i n := by unfold vp_in; exact of_decide_eq_true h
theorem jk_ofW {l : Launch} {y : MethodName} {ws ws' : List Cond} {rm : Room} {Pc : Array Value → State → Prop} {Qc : Array Value → State → Outcome → State → Prop} {mc ms : Nat} {free : Addr → Prop} {cc : ByteArray} {maxL : Nat} {ret : Option FieldType}
    (hy : plainFor y = true) (hw : ws = Cond.code y cc maxL ret :: ws')
    (body : ∀ p e s m args below meth c s₁, BodyLoose p l y (headSpec ws rm) cc maxL ret e s m args below meth c s₁ → c.maxLocals = maxL → Pc args s →
      W p l e (headSpec ws rm).room s m args below meth c s.heap [] 0 0 (MQ below Qc args s mc ms free) (entryFrame m args maxL)) : Met l y ws rm Pc Qc mc ms free := by
  refine MetFree.of_bodySF (code := cc) (maxLocals := maxL) (ret := ret) hy ?_ ?_
  · intro args s m h hn
    obtain ⟨meth, c, h1, h2, h3, h4, h5, h6, -, -⟩ := Cond.code_spec hn (atoms_spec (ws := ws) h _ (by rw [hw]; exact List.mem_cons_self))
    exact ⟨meth, c, h1, h2, h3, h4, h5, h6⟩
  · intro p e s m args below meth c s₁ B hml hP _
    have hh0 : s₁.heap = s.heap := by rw [B.state]; rfl
    obtain ⟨t, a1, o, b1, b2, b3⟩ := body p e s m args below meth c s₁ B hml hP s₁ hh0 (Stand.of_body B)
    exact ⟨t, o, a1, b1, b2, ⟨b3.1, b3.2⟩⟩
theorem jk_of {l : Launch} {D : va_G} {g : jk_G} {y : MethodName} {ws ws' : List Cond} {fr lo : Nat} {av : List Value} {w : va_W} {o : Option Value} {w' : va_W} {cc : ByteArray} {maxL : Nat} {ret : Option FieldType} (hy : plainFor y = true) (hw : ws = Cond.code y cc maxL ret :: ws') (hav : (lg_sl av).length ≤ maxL)
    (body : ∀ (p : Program) (e : Env) (s : State) (m : MethodId) (args : Array Value) (below : List Frame) (meth : Method) (c : Code), p.tables.exec = Jvm.exec → c.code = cc → meth.sig.returnType = ret → c.maxLocals = maxL → (∀ w ∈ ws, w.before args s = true) → s.vm.findClass y.cls = some m.cls → meth.locks = false → va_K D vwCl (jk_T g) s → jk_N s →
      ∀ (A : Nat → Prop) (H : Heap) (locs : List Loc), va_P D vwCl w H → va_D A w → (∀ q, s.heap.size ≤ q → A q) → va_S A s.heap H locs → ∀ ls : Array Slot, lv_has ls maxL (lv_args 0 av) →
        W p l e ({ frames := fr, cells := 0, slots := 0, locals := lo }) s m args below meth c H locs 0 0 (MQ below (jk_Q o D w' A) args s 0 0 A) (F0 m 0 ls [])) : jk_M l D g y ws fr lo av w o w' := by
  intro sz
  refine jk_ofW (cc := cc) (maxL := maxL) (ret := ret) hy hw ?_
  intro p e s m args below meth c s₁ B hml hv
  obtain ⟨rfl, hsz, hP, hK, hD0, hN⟩ := hv
  subst hsz
  rw [lg_entry_eq]
  exact body p e s m _ below meth c B.exec B.bytes B.returns hml (atoms_spec (ws := ws) B.pre) (findClass_of_methodNamed B.named) B.notSynchronized hK hN _ _ _ hP hD0.self (fun q h => Or.inr h) va_S.rf _ (lv_entry av hav)
section JKR
variable {p : Program} {l : Launch} {e : Env} {R : Room} {s : State} {m : MethodId} {args : Array Value} {below : List Frame} {meth : Method} {c : Code} {H : Heap} {locs : List Loc} {cells slots : Nat} {Q : State → Prop}
variable {cc : ByteArray} {D : va_G} {g : jk_G} {A A0 A1 : Nat → Prop} {w1 w' ws ws1 wc : va_W} {pc : Nat} {ls : Array Slot}
theorem jk_iret {v v' : Int32} (hx : p.tables.exec = Jvm.exec) (hb : c.code = cc) (hr : meth.sig.returnType = some .int) (hlocks : meth.locks = false) (hP : va_P D vwCl w1 H) (hS : va_S A s.heap H locs) (hv : v = v') (hw : w1 = w') (hdg : decode cc pc = .ok (.ireturn, 1)) : W p l e R s m args below meth c H locs cells slots (MQ below (jk_Q (some (.int v')) D w' A) args s cells slots A) (F0 m pc ls [.int v]) := by
  subst hv; subst hw
  exact W.iret hx hb hr (fun t ht hW => ⟨rfl, by rw [ht]; exact hP, hS.F ht⟩) hS.2.2 hdg hlocks
theorem jk_zret {v v' : Int32} {ty : FieldType} (hx : p.tables.exec = Jvm.exec) (hb : c.code = cc) (hr : meth.sig.returnType = some ty) (hn : narrow ty (.int v) = .int v) (hlocks : meth.locks = false) (hP : va_P D vwCl w1 H) (hS : va_S A s.heap H locs) (hv : v = v') (hw : w1 = w') (hdg : decode cc pc = .ok (.ireturn, 1)) : W p l e R s m args below meth c H locs cells slots (MQ below (jk_Q (some (.int v')) D w' A) args s cells slots A) (F0 m pc ls [.int v]) := by
  subst hv; subst hw
  exact W.zret hx hb hr hn (fun t ht hW => ⟨rfl, by rw [ht]; exact hP, hS.F ht⟩) hS.2.2 hdg hlocks
theorem jk_vret (hx : p.tables.exec = Jvm.exec) (hb : c.code = cc) (hr : meth.sig.returnType = none) (hlocks : meth.locks = false) (hP : va_P D vwCl w1 H) (hS : va_S A s.heap H locs) (hw : w1 = w') (hdg : decode cc pc = .ok (.return_, 1)) : W p l e R s m args below meth c H locs cells slots (MQ below (jk_Q none D w' A) args s cells slots A) (F0 m pc ls []) := by
  subst hw
  exact W.vret hx hb hr (fun t ht hW => ⟨rfl, by rw [ht]; exact hP, hS.F ht⟩) hS.2.2 hdg hlocks
theorem jk_go {st0 rest : List Value} {a : Array Value} {H0 : Heap} {o : Option Value} (hr : va_Run p l e R s m args below meth c H locs cells slots 0 0 (F0 m pc ls st0) rest (jk_Q o D w1 A1 a) A1) (hS : va_S A0 H0 H locs) (hF : ∀ q, A1 q → A0 q)
    (hj : ∀ H1 : Heap, va_P D vwCl w1 H1 → (∀ q : Nat, q < H.size → ¬ A1 q → H1[q]? = H[q]?) → va_P D vwCl ws1 H1)
    (kk : ∀ (H1 : Heap) (locs1 : List Loc), va_P D vwCl ws1 H1 → va_S A0 H0 H1 locs1 → W p l e R s m args below meth c H1 locs1 cells slots Q (F0 m (pc + 3) ls (o.toList ++ rest))) : W p l e R s m args below meth c H locs cells slots Q (F0 m pc ls st0) := by
  intro T hT X
  obtain ⟨v, st₀, t, T', L, h0, X', hL, e1, e2, ⟨hv, hp, hz, hk⟩, st⟩ := hr T hT X
  cases hv
  rw [h0] at hz hk
  obtain ⟨t2, a1, b1⟩ := kk T'.heap (locs ++ L) (hj _ (by rw [e1]; exact hp) (fun q h1 h2 => by rw [e1]; exact hk q h1 h2))
    ⟨Nat.le_trans hS.1 (by rw [e1]; exact hz), fun q h1 h2 => by rw [e1, hk q (Nat.lt_of_lt_of_le h1 hS.1) (fun z => h2 (hF q z))]; exact hS.2.1 q h1 h2, fun q hq => by
      rcases List.mem_append.mp hq with h | h
      · exact hS.2.2 q h
      · exact hF _ (hL q h)⟩ T' rfl X'
  exact ⟨t2, st t2 a1, b1⟩
variable {y : MethodName} {bytes : ByteArray} {maxL nL n index fr lo b : Nat} {ret : Option FieldType} {wsy Ts : List Cond} {own C host : String} {As rest st0 : List Value} {o : Option Value} {H0 : Heap} {lv : List (Nat × Value)}
theorem jk_callV (S : CallFix p m c cc nL s args Ts own) (hM : jk_M l D g y wsy fr lo (.ref b :: As) wc o w1) (cw : CallW R s args own C index y bytes maxL ret wsy ({ frames := fr, cells := 0, slots := 0, locals := lo }) 0 0 n) (hrec : ∃ cell : Cell, H[b]? = some cell ∧ cell.vm.isStatics = false ∧ s.vm.findClass C = some cell.cls)
    (hPc : va_P D vwCl wc H) (hDc : va_D A0 wc) (hK : va_K D vwCl (jk_T g) s) (hN : jk_N s) (hn : As.length = n) (hl : lv_has ls nL lv) (hst : st0 = As.reverse ++ .ref b :: rest) (hW : (rest.map fun v => v.category).sum ≤ 8) (hdg : decode cc pc = .ok (.invokevirtual index, 3)) (hc : cells ≤ R.cells ∧ slots ≤ R.slots)
    (hS : va_S A0 H0 H locs) (hA : ∀ q, H0.size ≤ q → A0 q) (hj : ∀ H1 : Heap, va_P D vwCl w1 H1 → (∀ q : Nat, q < H.size → ¬ va_A wc H.size q → H1[q]? = H[q]?) → va_P D vwCl ws1 H1)
    (kk : ∀ (H1 : Heap) (locs1 : List Loc), va_P D vwCl ws1 H1 → va_S A0 H0 H1 locs1 → W p l e R s m args below meth c H1 locs1 cells slots Q (F0 m (pc + 3) ls (o.toList ++ rest))) : W p l e R s m args below meth c H locs cells slots Q (F0 m pc ls st0) :=
  jk_go (va_runV (As := As) (rest := rest) S (hM H.size) cw ⟨jk_blind, hrec, jk_pay hPc hK hDc hN⟩ rfl hn hl.1 hst (lv_room (m := m) (pc := pc) (ls := ls) (rest := st0) hW) hdg ⟨hc.1, hc.2⟩) hS (jk_freeA hDc hS hA) hj kk
theorem jk_callVN (S : CallFix p m c cc nL s args Ts own) (hM : jk_M l D g y wsy fr lo (.ref b :: As) wc o w1) (cw : va_CN R s args own index y host bytes maxL ret wsy ({ frames := fr, cells := 0, slots := 0, locals := lo }) 0 0 n ∧ (Cond.instanceMethod y).before args s = true ∧ (Cond.selects C y y).before args s = true) (hrec : ∃ cell : Cell, H[b]? = some cell ∧ cell.vm.isStatics = false ∧ s.vm.findClass C = some cell.cls)
    (hPc : va_P D vwCl wc H) (hDc : va_D A0 wc) (hK : va_K D vwCl (jk_T g) s) (hN : jk_N s) (hn : As.length = n) (hl : lv_has ls nL lv) (hst : st0 = As.reverse ++ .ref b :: rest) (hW : (rest.map fun v => v.category).sum ≤ 8) (hdg : decode cc pc = .ok (.invokevirtual index, 3)) (hc : cells ≤ R.cells ∧ slots ≤ R.slots)
    (hS : va_S A0 H0 H locs) (hA : ∀ q, H0.size ≤ q → A0 q) (hj : ∀ H1 : Heap, va_P D vwCl w1 H1 → (∀ q : Nat, q < H.size → ¬ va_A wc H.size q → H1[q]? = H[q]?) → va_P D vwCl ws1 H1)
    (kk : ∀ (H1 : Heap) (locs1 : List Loc), va_P D vwCl ws1 H1 → va_S A0 H0 H1 locs1 → W p l e R s m args below meth c H1 locs1 cells slots Q (F0 m (pc + 3) ls (o.toList ++ rest))) : W p l e R s m args below meth c H locs cells slots Q (F0 m pc ls st0) :=
  jk_go (va_runVN (As := As) (rest := rest) S (hM H.size) cw ⟨jk_blind, hrec, jk_pay hPc hK hDc hN⟩ rfl hn hl.1 hst (lv_room (m := m) (pc := pc) (ls := ls) (rest := st0) hW) hdg ⟨hc.1, hc.2⟩) hS (jk_freeA hDc hS hA) hj kk
theorem jk_callS (S : CallFix p m c cc nL s args Ts own) (hM : jk_M l D g y wsy fr lo As wc o w1) (cw : CallB R s args own index y bytes maxL ret wsy ({ frames := fr, cells := 0, slots := 0, locals := lo }) 0 0 n ∧ (Cond.static y).before args s = true)
    (hPc : va_P D vwCl wc H) (hDc : va_D A0 wc) (hK : va_K D vwCl (jk_T g) s) (hN : jk_N s) (hn : As.length = n) (hl : lv_has ls nL lv) (hst : st0 = As.reverse ++ rest) (hW : (rest.map fun v => v.category).sum ≤ 8) (hdg : decode cc pc = .ok (.invokestatic index, 3)) (hc : cells ≤ R.cells ∧ slots ≤ R.slots)
    (hS : va_S A0 H0 H locs) (hA : ∀ q, H0.size ≤ q → A0 q) (hj : ∀ H1 : Heap, va_P D vwCl w1 H1 → (∀ q : Nat, q < H.size → ¬ va_A wc H.size q → H1[q]? = H[q]?) → va_P D vwCl ws1 H1)
    (kk : ∀ (H1 : Heap) (locs1 : List Loc), va_P D vwCl ws1 H1 → va_S A0 H0 H1 locs1 → W p l e R s m args below meth c H1 locs1 cells slots Q (F0 m (pc + 3) ls (o.toList ++ rest))) : W p l e R s m args below meth c H locs cells slots Q (F0 m pc ls st0) :=
  jk_go (va_runS (As := As) (rest := rest) S (hM H.size) cw ⟨jk_blind, jk_pay hPc hK hDc hN⟩ rfl hn hl.1 hst (lv_room (m := m) (pc := pc) (ls := ls) (rest := st0) hW) hdg ⟨hc.1, hc.2⟩) hS (jk_freeA hDc hS hA) hj kk
theorem jk_callSN (S : CallFix p m c cc nL s args Ts own) (hM : jk_M l D g y wsy fr lo As wc o w1) (cw : va_CN R s args own index y host bytes maxL ret wsy ({ frames := fr, cells := 0, slots := 0, locals := lo }) 0 0 n ∧ (Cond.static y).before args s = true ∧ True)
    (hPc : va_P D vwCl wc H) (hDc : va_D A0 wc) (hK : va_K D vwCl (jk_T g) s) (hN : jk_N s) (hn : As.length = n) (hl : lv_has ls nL lv) (hst : st0 = As.reverse ++ rest) (hW : (rest.map fun v => v.category).sum ≤ 8) (hdg : decode cc pc = .ok (.invokestatic index, 3)) (hc : cells ≤ R.cells ∧ slots ≤ R.slots)
    (hS : va_S A0 H0 H locs) (hA : ∀ q, H0.size ≤ q → A0 q) (hj : ∀ H1 : Heap, va_P D vwCl w1 H1 → (∀ q : Nat, q < H.size → ¬ va_A wc H.size q → H1[q]? = H[q]?) → va_P D vwCl ws1 H1)
    (kk : ∀ (H1 : Heap) (locs1 : List Loc), va_P D vwCl ws1 H1 → va_S A0 H0 H1 locs1 → W p l e R s m args below meth c H1 locs1 cells slots Q (F0 m (pc + 3) ls (o.toList ++ rest))) : W p l e R s m args below meth c H locs cells slots Q (F0 m pc ls st0) :=
  jk_go (va_runSN (As := As) (rest := rest) S (hM H.size) cw ⟨jk_blind, jk_pay hPc hK hDc hN⟩ rfl hn hl.1 hst (lv_room (m := m) (pc := pc) (ls := ls) (rest := st0) hW) hdg ⟨hc.1, hc.2⟩) hS (jk_freeA hDc hS hA) hj kk
end JKR
end
section
/-! ===== states: the numbers of a world, by name ===== -/
abbrev jm_T : Type := (Nat → Int32) × (Nat → Int32) × (Nat → Int32) × (Nat → Int32) × (Nat → Int32) × (Nat → Int32) × Int32 × Int32 × Int32 × Int32 × Int32 × Int32 × Int32
def jm_se (M : jm_T) : (Nat → Int32) := M.1
def jm_ch (M : jm_T) : (Nat → Int32) := M.2.1
def jm_ja (M : jm_T) : (Nat → Int32) := M.2.2.1
def jm_tk (M : jm_T) : (Nat → Int32) := M.2.2.2.1
def jm_lj (M : jm_T) : (Nat → Int32) := M.2.2.2.2.1
def jm_lo (M : jm_T) : (Nat → Int32) := M.2.2.2.2.2.1
def jm_tu (M : jm_T) : Int32 := M.2.2.2.2.2.2.1
def jm_sp (M : jm_T) : Int32 := M.2.2.2.2.2.2.2.1
def jm_rv (M : jm_T) : Int32 := M.2.2.2.2.2.2.2.2.1
def jm_ls (M : jm_T) : Int32 := M.2.2.2.2.2.2.2.2.2.1
def jm_lk (M : jm_T) : Int32 := M.2.2.2.2.2.2.2.2.2.2.1
def jm_po (M : jm_T) : Int32 := M.2.2.2.2.2.2.2.2.2.2.2.1
def jm_to (M : jm_T) : Int32 := M.2.2.2.2.2.2.2.2.2.2.2.2
def jm_use (M : jm_T) (x : (Nat → Int32)) : jm_T := (x, jm_ch M, jm_ja M, jm_tk M, jm_lj M, jm_lo M, jm_tu M, jm_sp M, jm_rv M, jm_ls M, jm_lk M, jm_po M, jm_to M)
def jm_uch (M : jm_T) (x : (Nat → Int32)) : jm_T := (jm_se M, x, jm_ja M, jm_tk M, jm_lj M, jm_lo M, jm_tu M, jm_sp M, jm_rv M, jm_ls M, jm_lk M, jm_po M, jm_to M)
def jm_uja (M : jm_T) (x : (Nat → Int32)) : jm_T := (jm_se M, jm_ch M, x, jm_tk M, jm_lj M, jm_lo M, jm_tu M, jm_sp M, jm_rv M, jm_ls M, jm_lk M, jm_po M, jm_to M)
def jm_utk (M : jm_T) (x : (Nat → Int32)) : jm_T := (jm_se M, jm_ch M, jm_ja M, x, jm_lj M, jm_lo M, jm_tu M, jm_sp M, jm_rv M, jm_ls M, jm_lk M, jm_po M, jm_to M)
def jm_ulj (M : jm_T) (x : (Nat → Int32)) : jm_T := (jm_se M, jm_ch M, jm_ja M, jm_tk M, x, jm_lo M, jm_tu M, jm_sp M, jm_rv M, jm_ls M, jm_lk M, jm_po M, jm_to M)
def jm_ulo (M : jm_T) (x : (Nat → Int32)) : jm_T := (jm_se M, jm_ch M, jm_ja M, jm_tk M, jm_lj M, x, jm_tu M, jm_sp M, jm_rv M, jm_ls M, jm_lk M, jm_po M, jm_to M)
def jm_utu (M : jm_T) (x : Int32) : jm_T := (jm_se M, jm_ch M, jm_ja M, jm_tk M, jm_lj M, jm_lo M, x, jm_sp M, jm_rv M, jm_ls M, jm_lk M, jm_po M, jm_to M)
def jm_usp (M : jm_T) (x : Int32) : jm_T := (jm_se M, jm_ch M, jm_ja M, jm_tk M, jm_lj M, jm_lo M, jm_tu M, x, jm_rv M, jm_ls M, jm_lk M, jm_po M, jm_to M)
def jm_urv (M : jm_T) (x : Int32) : jm_T := (jm_se M, jm_ch M, jm_ja M, jm_tk M, jm_lj M, jm_lo M, jm_tu M, jm_sp M, x, jm_ls M, jm_lk M, jm_po M, jm_to M)
def jm_uls (M : jm_T) (x : Int32) : jm_T := (jm_se M, jm_ch M, jm_ja M, jm_tk M, jm_lj M, jm_lo M, jm_tu M, jm_sp M, jm_rv M, x, jm_lk M, jm_po M, jm_to M)
def jm_ulk (M : jm_T) (x : Int32) : jm_T := (jm_se M, jm_ch M, jm_ja M, jm_tk M, jm_lj M, jm_lo M, jm_tu M, jm_sp M, jm_rv M, jm_ls M, x, jm_po M, jm_to M)
def jm_upo (M : jm_T) (x : Int32) : jm_T := (jm_se M, jm_ch M, jm_ja M, jm_tk M, jm_lj M, jm_lo M, jm_tu M, jm_sp M, jm_rv M, jm_ls M, jm_lk M, x, jm_to M)
def jm_uto (M : jm_T) (x : Int32) : jm_T := (jm_se M, jm_ch M, jm_ja M, jm_tk M, jm_lj M, jm_lo M, jm_tu M, jm_sp M, jm_rv M, jm_ls M, jm_lk M, jm_po M, x)
def jm_W (g : jk_G) (a : Nat → Nat) (M : jm_T) : va_W := [(a 0, .inr (2, [.ref (a 1), .ref (a 2), .ref (a 3), .ref (a 4), .ref (a 5), .ref (a 6), .int (jm_tu M), .int (jm_sp M), .int (jm_rv M), .int (jm_ls M), .int (jm_lk M), .int (jm_po M), .int (jm_to M)])), (a 1, .inl (g.1, 5, .inl (jm_se M))), (a 2, .inl (g.1, 24, .inl (jm_ch M))), (a 3, .inl (g.1, 2, .inl (jm_ja M))), (a 4, .inl (g.1, 2, .inl (jm_tk M))), (a 5, .inl (g.1, 2, .inl (jm_lj M))), (a 6, .inl (g.1, 24, .inl (jm_lo M)))]
abbrev jx_T : Type := (Nat → Int32) × (Nat → Int32) × (Nat → Int32) × (Nat → Int32) × (Nat → Int32) × (Nat → Int32) × Int32 × Int32 × Int32 × Int32 × Int32 × Int32 × Int32
def jx_al (M : jx_T) : (Nat → Int32) := M.1
def jx_kp (M : jx_T) : (Nat → Int32) := M.2.1
def jx_hi (M : jx_T) : (Nat → Int32) := M.2.2.1
def jx_sl (M : jx_T) : (Nat → Int32) := M.2.2.2.1
def jx_sv (M : jx_T) : (Nat → Int32) := M.2.2.2.2.1
def jx_tx (M : jx_T) : (Nat → Int32) := M.2.2.2.2.2.1
def jx_hl (M : jx_T) : Int32 := M.2.2.2.2.2.2.1
def jx_tl (M : jx_T) : Int32 := M.2.2.2.2.2.2.2.1
def jx_sp (M : jx_T) : Int32 := M.2.2.2.2.2.2.2.2.1
def jx_nu (M : jx_T) : Int32 := M.2.2.2.2.2.2.2.2.2.1
def jx_le (M : jx_T) : Int32 := M.2.2.2.2.2.2.2.2.2.2.1
def jx_pl (M : jx_T) : Int32 := M.2.2.2.2.2.2.2.2.2.2.2.1
def jx_cg (M : jx_T) : Int32 := M.2.2.2.2.2.2.2.2.2.2.2.2
def jx_ual (M : jx_T) (x : (Nat → Int32)) : jx_T := (x, jx_kp M, jx_hi M, jx_sl M, jx_sv M, jx_tx M, jx_hl M, jx_tl M, jx_sp M, jx_nu M, jx_le M, jx_pl M, jx_cg M)
def jx_ukp (M : jx_T) (x : (Nat → Int32)) : jx_T := (jx_al M, x, jx_hi M, jx_sl M, jx_sv M, jx_tx M, jx_hl M, jx_tl M, jx_sp M, jx_nu M, jx_le M, jx_pl M, jx_cg M)
def jx_uhi (M : jx_T) (x : (Nat → Int32)) : jx_T := (jx_al M, jx_kp M, x, jx_sl M, jx_sv M, jx_tx M, jx_hl M, jx_tl M, jx_sp M, jx_nu M, jx_le M, jx_pl M, jx_cg M)
def jx_usl (M : jx_T) (x : (Nat → Int32)) : jx_T := (jx_al M, jx_kp M, jx_hi M, x, jx_sv M, jx_tx M, jx_hl M, jx_tl M, jx_sp M, jx_nu M, jx_le M, jx_pl M, jx_cg M)
def jx_usv (M : jx_T) (x : (Nat → Int32)) : jx_T := (jx_al M, jx_kp M, jx_hi M, jx_sl M, x, jx_tx M, jx_hl M, jx_tl M, jx_sp M, jx_nu M, jx_le M, jx_pl M, jx_cg M)
def jx_utx (M : jx_T) (x : (Nat → Int32)) : jx_T := (jx_al M, jx_kp M, jx_hi M, jx_sl M, jx_sv M, x, jx_hl M, jx_tl M, jx_sp M, jx_nu M, jx_le M, jx_pl M, jx_cg M)
def jx_uhl (M : jx_T) (x : Int32) : jx_T := (jx_al M, jx_kp M, jx_hi M, jx_sl M, jx_sv M, jx_tx M, x, jx_tl M, jx_sp M, jx_nu M, jx_le M, jx_pl M, jx_cg M)
def jx_utl (M : jx_T) (x : Int32) : jx_T := (jx_al M, jx_kp M, jx_hi M, jx_sl M, jx_sv M, jx_tx M, jx_hl M, x, jx_sp M, jx_nu M, jx_le M, jx_pl M, jx_cg M)
def jx_usp (M : jx_T) (x : Int32) : jx_T := (jx_al M, jx_kp M, jx_hi M, jx_sl M, jx_sv M, jx_tx M, jx_hl M, jx_tl M, x, jx_nu M, jx_le M, jx_pl M, jx_cg M)
def jx_unu (M : jx_T) (x : Int32) : jx_T := (jx_al M, jx_kp M, jx_hi M, jx_sl M, jx_sv M, jx_tx M, jx_hl M, jx_tl M, jx_sp M, x, jx_le M, jx_pl M, jx_cg M)
def jx_ule (M : jx_T) (x : Int32) : jx_T := (jx_al M, jx_kp M, jx_hi M, jx_sl M, jx_sv M, jx_tx M, jx_hl M, jx_tl M, jx_sp M, jx_nu M, x, jx_pl M, jx_cg M)
def jx_upl (M : jx_T) (x : Int32) : jx_T := (jx_al M, jx_kp M, jx_hi M, jx_sl M, jx_sv M, jx_tx M, jx_hl M, jx_tl M, jx_sp M, jx_nu M, jx_le M, x, jx_cg M)
def jx_ucg (M : jx_T) (x : Int32) : jx_T := (jx_al M, jx_kp M, jx_hi M, jx_sl M, jx_sv M, jx_tx M, jx_hl M, jx_tl M, jx_sp M, jx_nu M, jx_le M, jx_pl M, x)
def jx_W (g : jk_G) (a : Nat → Nat) (M : jx_T) : va_W := [(a 0, .inr (5, [.ref (a 1), .ref (a 2), .ref (a 3), .int (jx_hl M), .ref (a 4), .ref (a 5), .ref (a 6), .int (jx_tl M), .int (jx_sp M), .int (jx_nu M), .int (jx_le M), .int (jx_pl M), .int (jx_cg M)])), (a 1, .inl (g.1, 67, .inl (jx_al M))), (a 2, .inl (g.1, 67, .inl (jx_kp M))), (a 3, .inl (g.1, 402, .inl (jx_hi M))), (a 4, .inl (g.1, 134, .inl (jx_sl M))), (a 5, .inl (g.1, 2, .inl (jx_sv M))), (a 6, .inl (g.1, 60, .inl (jx_tx M)))]
abbrev jp_T : Type := (Nat → Int32) × Int32
def jp_sg (M : jp_T) : (Nat → Int32) := M.1
def jp_ln (M : jp_T) : Int32 := M.2
def jp_usg (M : jp_T) (x : (Nat → Int32)) : jp_T := (x, jp_ln M)
def jp_uln (M : jp_T) (x : Int32) : jp_T := (jp_sg M, x)
def jp_W (g : jk_G) (a : Nat → Nat) (M : jp_T) : va_W := [(a 0, .inr (3, [.ref (a 1), .int (jp_ln M)])), (a 1, .inl (g.2.1, 60, .inl (jp_sg M)))]
abbrev jd_T : Type := Int32 × Int32 × Int32 × Int32 × Int32
def jd_at (M : jd_T) : Int32 := M.1
def jd_de (M : jd_T) : Int32 := M.2.1
def jd_di (M : jd_T) : Int32 := M.2.2.1
def jd_pl (M : jd_T) : Int32 := M.2.2.2.1
def jd_am (M : jd_T) : Int32 := M.2.2.2.2
def jd_uat (M : jd_T) (x : Int32) : jd_T := (x, jd_de M, jd_di M, jd_pl M, jd_am M)
def jd_ude (M : jd_T) (x : Int32) : jd_T := (jd_at M, x, jd_di M, jd_pl M, jd_am M)
def jd_udi (M : jd_T) (x : Int32) : jd_T := (jd_at M, jd_de M, x, jd_pl M, jd_am M)
def jd_upl (M : jd_T) (x : Int32) : jd_T := (jd_at M, jd_de M, jd_di M, x, jd_am M)
def jd_uam (M : jd_T) (x : Int32) : jd_T := (jd_at M, jd_de M, jd_di M, jd_pl M, x)
def jd_W (g : jk_G) (a : Nat → Nat) (M : jd_T) : va_W := [(a 0, .inr (0, [.ref (a 1), .int (jd_at M), .int (jd_de M), .int (jd_di M), .int (jd_pl M), .int (jd_am M)]))]
end
section
def rJ9_floorMod_7cf53 (x : Int32) (y : Int32) : Int32 := if 0 ≤ (x ^^^ y) then (x - x / y * y) else (if (x - x / y * y) = 0 then (x - x / y * y) else ((x - x / y * y) + y))
set_option maxHeartbeats 4000000 in
set_option maxRecDepth 100000 in
theorem c_J9_floorMod_7cf53 (l : Launch) (D : va_G) (g : jk_G) (x : Int32) (y : Int32) (hy : ¬ y = 0) : jk_M l D g yJ9_floorMod_7cf53 wsJ9_floorMod_7cf53 0 0 [.int x, .int y] [] (some (.int (rJ9_floorMod_7cf53 x y))) [] := by
  refine jk_of (cc := cJ9_floorMod_7cf53) (maxL := 3) (ret := (some .int)) (by decide +kernel) rfl (Nat.le_of_ble_eq_true rfl) ?_
  intro p e s m args below meth c hx hb hr hml hts hown hlocks hK hN A H locs hP hD hA hS ls hl
  have hown : s.vm.findClass RJ9 = some m.cls := hown
  have hl : lv_has ls 3 [(0, .int x), (1, .int y)] := hl
  refine lv_iload_n hx hb dJ9_floorMod_7cf53_0 rfl (lv_at hl 0 rfl) ?_
  refine lv_iload_n hx hb dJ9_floorMod_7cf53_1 rfl (lv_at hl 1 rfl) ?_
  refine lv_irem hx hb dJ9_floorMod_7cf53_2 hy ?_
  refine lv_istore_n (lv' := [(2, .int (x - x / y * y)), (0, .int x), (1, .int y)]) hx hb dJ9_floorMod_7cf53_3 rfl hl (by decide) rfl (fun ls hl => ?_)
  refine lv_iload_n hx hb dJ9_floorMod_7cf53_4 rfl (lv_at hl 1 rfl) ?_
  refine lv_iload_n hx hb dJ9_floorMod_7cf53_5 rfl (lv_at hl 2 rfl) ?_
  refine lv_ixor hx hb dJ9_floorMod_7cf53_6 ?_
  refine lv_if_ge (tgt := 18) hx hb dJ9_floorMod_7cf53_7 (by decide) (fun c1 => ?_) (fun c1 => ?_)
  · refine lv_iload_n hx hb dJ9_floorMod_7cf53_18 rfl (lv_at hl 0 rfl) ?_
    exact jk_iret hx hb hr hlocks hP hS ((if_pos c1).trans (rfl)).symm rfl dJ9_floorMod_7cf53_19
  · refine lv_iload_n hx hb dJ9_floorMod_7cf53_10 rfl (lv_at hl 0 rfl) ?_
    refine lv_if_eq (tgt := 18) hx hb dJ9_floorMod_7cf53_11 (by decide) (fun c2 => ?_) (fun c2 => ?_)
    · refine lv_iload_n hx hb dJ9_floorMod_7cf53_18 rfl (lv_at hl 0 rfl) ?_
      exact jk_iret hx hb hr hlocks hP hS ((if_neg c1).trans ((if_pos c2).trans (rfl))).symm rfl dJ9_floorMod_7cf53_19
    · refine lv_iload_n hx hb dJ9_floorMod_7cf53_14 rfl (lv_at hl 0 rfl) ?_
      refine lv_iload_n hx hb dJ9_floorMod_7cf53_15 rfl (lv_at hl 2 rfl) ?_
      refine lv_iadd hx hb dJ9_floorMod_7cf53_16 ?_
      exact jk_iret hx hb hr hlocks hP hS ((if_neg c1).trans ((if_neg c2).trans (rfl))).symm rfl dJ9_floorMod_7cf53_17

def rJ6_signum_0f7a4 (x : Int32) : Int32 := let x1 : Int32 := (((-x) : Int32).toUInt32 >>> (((31 : Int32)).toUInt32 &&& Int32.toUInt32 31)).toInt32; (x >>> (31 &&& 31)) ||| x1
set_option maxHeartbeats 4000000 in
set_option maxRecDepth 100000 in
theorem c_J6_signum_0f7a4 (l : Launch) (D : va_G) (g : jk_G) (x : Int32)  : jk_M l D g yJ6_signum_0f7a4 wsJ6_signum_0f7a4 0 0 [.int x] [] (some (.int (rJ6_signum_0f7a4 x))) [] := by
  refine jk_of (cc := cJ6_signum_0f7a4) (maxL := 1) (ret := (some .int)) (by decide +kernel) rfl (Nat.le_of_ble_eq_true rfl) ?_
  intro p e s m args below meth c hx hb hr hml hts hown hlocks hK hN A H locs hP hD hA hS ls hl
  have hown : s.vm.findClass RJ6 = some m.cls := hown
  have hl : lv_has ls 1 [(0, .int x)] := hl
  refine lv_iload_n hx hb dJ6_signum_0f7a4_0 rfl (lv_at hl 0 rfl) ?_
  refine lv_bipush (v := 31) hx hb dJ6_signum_0f7a4_1 (by decide) ?_
  refine lv_ishr hx hb dJ6_signum_0f7a4_3 ?_
  refine lv_iload_n hx hb dJ6_signum_0f7a4_4 rfl (lv_at hl 0 rfl) ?_
  refine lv_ineg hx hb dJ6_signum_0f7a4_5 ?_
  refine lv_bipush (v := 31) hx hb dJ6_signum_0f7a4_6 (by decide) ?_
  refine lv_iushr hx hb dJ6_signum_0f7a4_8 rfl ?_
  refine lv_topi (fun x1 ex1 => ?_)
  refine lv_ior hx hb dJ6_signum_0f7a4_9 ?_
  subst ex1
  exact jk_iret hx hb hr hlocks hP hS (rfl).symm rfl dJ6_signum_0f7a4_10

def rX2_indexOf (vd : Int32) (vp : Int32) (vt : Int32) : Int32 := if vd = 0 then (let x3 : Int32 := rJ9_floorMod_7cf53 (vp - vt) 12; x3) else (let x2 : Int32 := rJ9_floorMod_7cf53 (vp + vt) 12; 12 + x2)
set_option maxHeartbeats 4000000 in
set_option maxRecDepth 100000 in
theorem c_X2_indexOf (l : Launch) (D : va_G) (g : jk_G) (vd : Int32) (vp : Int32) (vt : Int32)  : jk_M l D g yX2_indexOf wsX2_indexOf 1 22 [.int vd, .int vp, .int vt] [] (some (.int (rX2_indexOf vd vp vt))) [] := by
  refine jk_of (cc := cX2_indexOf) (maxL := 3) (ret := (some .int)) (by decide +kernel) rfl (Nat.le_of_ble_eq_true rfl) ?_
  intro p e s m args below meth c hx hb hr hml hts hown hlocks hK hN A H locs hP hD hA hS ls hl
  have hown : s.vm.findClass RX2 = some m.cls := hown
  have hl : lv_has ls 3 [(0, .int vd), (1, .int vp), (2, .int vt)] := hl
  refine lv_iload_n hx hb dX2_indexOf_0 rfl (lv_at hl 0 rfl) ?_
  refine lv_if_ne (tgt := 13) hx hb dX2_indexOf_1 (by decide) (fun c1 => ?_) (fun c1 => ?_)
  · refine lv_bipush (v := 12) hx hb dX2_indexOf_13 (by decide) ?_
    refine lv_iload_n hx hb dX2_indexOf_15 rfl (lv_at hl 1 rfl) ?_
    refine lv_iload_n hx hb dX2_indexOf_16 rfl (lv_at hl 2 rfl) ?_
    refine lv_iadd hx hb dX2_indexOf_17 ?_
    refine lv_bipush (v := 12) hx hb dX2_indexOf_18 (by decide) ?_
    refine jk_callS (As := [.int (vp + vt), .int 12]) (rest := [.int 12]) (ws1 := []) ⟨hx, hb, hml, hown, hts⟩ (c_J9_floorMod_7cf53 l D g (vp + vt) 12 (by decide)) (va_cwS 2 hts gX2_indexOf_J9_floorMod_7cf53 rfl rfl rfl (by decide +kernel) ⟨Nat.le_of_ble_eq_true rfl, Nat.le_of_ble_eq_true rfl⟩) jk_nilP (jk_nilD (A := A)) hK hN rfl hl rfl (Nat.le_of_ble_eq_true rfl) dX2_indexOf_20 ⟨Nat.zero_le _, Nat.zero_le _⟩ hS hA (fun _ _ hk => jk_keep hP hk) (fun H locs hP hS => ?_)
    refine W.eq (g2 := F0 m 23 ls [.int (rJ9_floorMod_7cf53 (vp + vt) 12), .int 12]) rfl ?_
    refine lv_topi (fun x2 ex2 => ?_)
    refine lv_iadd hx hb dX2_indexOf_23 ?_
    subst ex2
    exact jk_iret hx hb hr hlocks hP hS ((if_neg c1).trans (rfl)).symm rfl dX2_indexOf_24
  · refine lv_iload_n hx hb dX2_indexOf_4 rfl (lv_at hl 1 rfl) ?_
    refine lv_iload_n hx hb dX2_indexOf_5 rfl (lv_at hl 2 rfl) ?_
    refine lv_isub hx hb dX2_indexOf_6 ?_
    refine lv_bipush (v := 12) hx hb dX2_indexOf_7 (by decide) ?_
    refine jk_callS (As := [.int (vp - vt), .int 12]) (rest := []) (ws1 := []) ⟨hx, hb, hml, hown, hts⟩ (c_J9_floorMod_7cf53 l D g (vp - vt) 12 (by decide)) (va_cwS 2 hts gX2_indexOf_J9_floorMod_7cf53 rfl rfl rfl (by decide +kernel) ⟨Nat.le_of_ble_eq_true rfl, Nat.le_of_ble_eq_true rfl⟩) jk_nilP (jk_nilD (A := A)) hK hN rfl hl rfl (Nat.le_of_ble_eq_true rfl) dX2_indexOf_9 ⟨Nat.zero_le _, Nat.zero_le _⟩ hS hA (fun _ _ hk => jk_keep hP hk) (fun H locs hP hS => ?_)
    refine W.eq (g2 := F0 m 12 ls [.int (rJ9_floorMod_7cf53 (vp - vt) 12)]) rfl ?_
    refine lv_topi (fun x3 ex3 => ?_)
    subst ex3
    exact jk_iret hx hb hr hlocks hP hS ((if_pos c1).trans (rfl)).symm rfl dX2_indexOf_12

def rX2_firstIndexOf (vd : Int32) : Int32 := if vd = 0 then (0) else (12)
set_option maxHeartbeats 4000000 in
set_option maxRecDepth 100000 in
theorem c_X2_firstIndexOf (l : Launch) (D : va_G) (g : jk_G) (vd : Int32)  : jk_M l D g yX2_firstIndexOf wsX2_firstIndexOf 0 0 [.int vd] [] (some (.int (rX2_firstIndexOf vd))) [] := by
  refine jk_of (cc := cX2_firstIndexOf) (maxL := 1) (ret := (some .int)) (by decide +kernel) rfl (Nat.le_of_ble_eq_true rfl) ?_
  intro p e s m args below meth c hx hb hr hml hts hown hlocks hK hN A H locs hP hD hA hS ls hl
  have hown : s.vm.findClass RX2 = some m.cls := hown
  have hl : lv_has ls 1 [(0, .int vd)] := hl
  refine lv_iload_n hx hb dX2_firstIndexOf_0 rfl (lv_at hl 0 rfl) ?_
  refine lv_if_ne (tgt := 8) hx hb dX2_firstIndexOf_1 (by decide) (fun c1 => ?_) (fun c1 => ?_)
  · refine lv_bipush (v := 12) hx hb dX2_firstIndexOf_8 (by decide) ?_
    exact jk_iret hx hb hr hlocks hP hS ((if_neg c1).trans (rfl)).symm rfl dX2_firstIndexOf_10
  · refine lv_iconst (v := 0) hx hb dX2_firstIndexOf_4 (by decide) ?_
    refine lv_goto (tgt := 10) hx hb dX2_firstIndexOf_5 (by decide) ?_
    exact jk_iret hx hb hr hlocks hP hS ((if_pos c1).trans (rfl)).symm rfl dX2_firstIndexOf_10

def rX2_logIndexOf (vk : Int32) : Int32 := let x1 : Int32 := 3 * (rJ9_floorMod_7cf53 vk 8); x1
set_option maxHeartbeats 4000000 in
set_option maxRecDepth 100000 in
theorem c_X2_logIndexOf (l : Launch) (D : va_G) (g : jk_G) (vk : Int32)  : jk_M l D g yX2_logIndexOf wsX2_logIndexOf 1 22 [.int vk] [] (some (.int (rX2_logIndexOf vk))) [] := by
  refine jk_of (cc := cX2_logIndexOf) (maxL := 1) (ret := (some .int)) (by decide +kernel) rfl (Nat.le_of_ble_eq_true rfl) ?_
  intro p e s m args below meth c hx hb hr hml hts hown hlocks hK hN A H locs hP hD hA hS ls hl
  have hown : s.vm.findClass RX2 = some m.cls := hown
  have hl : lv_has ls 1 [(0, .int vk)] := hl
  refine lv_iconst (v := 3) hx hb dX2_logIndexOf_0 (by decide) ?_
  refine lv_iload_n hx hb dX2_logIndexOf_1 rfl (lv_at hl 0 rfl) ?_
  refine lv_bipush (v := 8) hx hb dX2_logIndexOf_2 (by decide) ?_
  refine jk_callS (As := [.int vk, .int 8]) (rest := [.int 3]) (ws1 := []) ⟨hx, hb, hml, hown, hts⟩ (c_J9_floorMod_7cf53 l D g vk 8 (by decide)) (va_cwS 2 hts gX2_logIndexOf_J9_floorMod_7cf53 rfl rfl rfl (by decide +kernel) ⟨Nat.le_of_ble_eq_true rfl, Nat.le_of_ble_eq_true rfl⟩) jk_nilP (jk_nilD (A := A)) hK hN rfl hl rfl (Nat.le_of_ble_eq_true rfl) dX2_logIndexOf_4 ⟨Nat.zero_le _, Nat.zero_le _⟩ hS hA (fun _ _ hk => jk_keep hP hk) (fun H locs hP hS => ?_)
  refine W.eq (g2 := F0 m 7 ls [.int (rJ9_floorMod_7cf53 vk 8), .int 3]) rfl ?_
  refine lv_imul hx hb dX2_logIndexOf_7 ?_
  refine lv_topi (fun x1 ex1 => ?_)
  subst ex1
  exact jk_iret hx hb hr hlocks hP hS (rfl).symm rfl dX2_logIndexOf_8

def rX4_limited (v : Int32) (lo : Int32) (hi : Int32) : Int32 := let x1 : Int32 := if v < hi then v else hi; let x2 : Int32 := if lo < x1 then x1 else lo; x2
set_option maxHeartbeats 4000000 in
set_option maxRecDepth 100000 in
theorem c_X4_limited (l : Launch) (D : va_G) (g : jk_G) (v : Int32) (lo : Int32) (hi : Int32)  : jk_M l D g yX4_limited wsX4_limited 1 14 [.int v, .int lo, .int hi] [] (some (.int (rX4_limited v lo hi))) [] := by
  refine jk_of (cc := cX4_limited) (maxL := 3) (ret := (some .int)) (by decide +kernel) rfl (Nat.le_of_ble_eq_true rfl) ?_
  intro p e s m args below meth c hx hb hr hml hts hown hlocks hK hN A H locs hP hD hA hS ls hl
  have hown : s.vm.findClass RX4 = some m.cls := hown
  have hl : lv_has ls 3 [(0, .int v), (1, .int lo), (2, .int hi)] := hl
  have hm_209 := hts (.methodLink RX4 209 Lib.Math.min.name) (by decide +kernel)
  have hs_min := hts (.static Lib.Math.min.name) (by decide +kernel)
  have hi_Math := hts (.initialized "java/lang/Math") (by decide +kernel)
  have hc_min := hts (.code Lib.Math.min.name Lib.Math.min.code 2 (some .int)) (by exact List.mem_of_getElem? (i := 4) rfl)
  have hm_204 := hts (.methodLink RX4 204 Lib.Math.max.name) (by decide +kernel)
  have hs_max := hts (.static Lib.Math.max.name) (by decide +kernel)
  have hc_max := hts (.code Lib.Math.max.name Lib.Math.max.code 2 (some .int)) (by exact List.mem_of_getElem? (i := 7) rfl)
  refine lv_iload_n hx hb dX4_limited_0 rfl (lv_at hl 1 rfl) ?_
  refine lv_iload_n hx hb dX4_limited_1 rfl (lv_at hl 2 rfl) ?_
  refine lv_iload_n hx hb dX4_limited_2 rfl (lv_at hl 0 rfl) ?_
  refine va_mmin hx hb (by rw [hml]; exact hl.1.symm) hown hm_209 hs_min hi_Math hc_min (Nat.le_of_ble_eq_true rfl) (Nat.le_of_ble_eq_true rfl) (Nat.zero_le _) (Nat.zero_le _) dX4_limited_3 ?_
  refine lv_topi (fun x1 ex1 => ?_)
  refine va_mmax hx hb (by rw [hml]; exact hl.1.symm) hown hm_204 hs_max hi_Math hc_max (Nat.le_of_ble_eq_true rfl) (Nat.le_of_ble_eq_true rfl) (Nat.zero_le _) (Nat.zero_le _) dX4_limited_6 ?_
  refine lv_topi (fun x2 ex2 => ?_)
  subst ex2
  subst ex1
  exact jk_iret hx hb hr hlocks hP hS (rfl).symm rfl dX4_limited_9

def rX4_isNoDisc (vd : Int32) : Int32 := if vd < 0 then (1) else (if vd < 2 then (0) else (1))
set_option maxHeartbeats 4000000 in
set_option maxRecDepth 100000 in
theorem c_X4_isNoDisc (l : Launch) (D : va_G) (g : jk_G) (vd : Int32)  : jk_M l D g yX4_isNoDisc wsX4_isNoDisc 0 0 [.int vd] [] (some (.int (rX4_isNoDisc vd))) [] := by
  refine jk_of (cc := cX4_isNoDisc) (maxL := 1) (ret := (some .boolean)) (by decide +kernel) rfl (Nat.le_of_ble_eq_true rfl) ?_
  intro p e s m args below meth c hx hb hr hml hts hown hlocks hK hN A H locs hP hD hA hS ls hl
  have hown : s.vm.findClass RX4 = some m.cls := hown
  have hl : lv_has ls 1 [(0, .int vd)] := hl
  refine lv_iload_n hx hb dX4_isNoDisc_0 rfl (lv_at hl 0 rfl) ?_
  refine lv_if_lt (tgt := 9) hx hb dX4_isNoDisc_1 (by decide) (fun c1 => ?_) (fun c1 => ?_)
  · refine lv_iconst (v := 1) hx hb dX4_isNoDisc_9 (by decide) ?_
    refine lv_goto (tgt := 14) hx hb dX4_isNoDisc_10 (by decide) ?_
    exact jk_zret hx hb hr rfl hlocks hP hS ((if_pos c1).trans (rfl)).symm rfl dX4_isNoDisc_14
  · refine lv_iload_n hx hb dX4_isNoDisc_4 rfl (lv_at hl 0 rfl) ?_
    refine lv_iconst (v := 2) hx hb dX4_isNoDisc_5 (by decide) ?_
    refine lv_icmp_lt (tgt := 13) hx hb dX4_isNoDisc_6 (by decide) (fun c2 => ?_) (fun c2 => ?_)
    · refine lv_iconst (v := 0) hx hb dX4_isNoDisc_13 (by decide) ?_
      exact jk_zret hx hb hr rfl hlocks hP hS ((if_neg c1).trans ((if_pos c2).trans (rfl))).symm rfl dX4_isNoDisc_14
    · refine lv_iconst (v := 1) hx hb dX4_isNoDisc_9 (by decide) ?_
      refine lv_goto (tgt := 14) hx hb dX4_isNoDisc_10 (by decide) ?_
      exact jk_zret hx hb hr rfl hlocks hP hS ((if_neg c1).trans ((if_neg c2).trans (rfl))).symm rfl dX4_isNoDisc_14

def rX4_isNoPlace (vq : Int32) : Int32 := if vq < 0 then (1) else (if vq < 12 then (0) else (1))
set_option maxHeartbeats 4000000 in
set_option maxRecDepth 100000 in
theorem c_X4_isNoPlace (l : Launch) (D : va_G) (g : jk_G) (vq : Int32)  : jk_M l D g yX4_isNoPlace wsX4_isNoPlace 0 0 [.int vq] [] (some (.int (rX4_isNoPlace vq))) [] := by
  refine jk_of (cc := cX4_isNoPlace) (maxL := 1) (ret := (some .boolean)) (by decide +kernel) rfl (Nat.le_of_ble_eq_true rfl) ?_
  intro p e s m args below meth c hx hb hr hml hts hown hlocks hK hN A H locs hP hD hA hS ls hl
  have hown : s.vm.findClass RX4 = some m.cls := hown
  have hl : lv_has ls 1 [(0, .int vq)] := hl
  refine lv_iload_n hx hb dX4_isNoPlace_0 rfl (lv_at hl 0 rfl) ?_
  refine lv_if_lt (tgt := 10) hx hb dX4_isNoPlace_1 (by decide) (fun c1 => ?_) (fun c1 => ?_)
  · refine lv_iconst (v := 1) hx hb dX4_isNoPlace_10 (by decide) ?_
    refine lv_goto (tgt := 15) hx hb dX4_isNoPlace_11 (by decide) ?_
    exact jk_zret hx hb hr rfl hlocks hP hS ((if_pos c1).trans (rfl)).symm rfl dX4_isNoPlace_15
  · refine lv_iload_n hx hb dX4_isNoPlace_4 rfl (lv_at hl 0 rfl) ?_
    refine lv_bipush (v := 12) hx hb dX4_isNoPlace_5 (by decide) ?_
    refine lv_icmp_lt (tgt := 14) hx hb dX4_isNoPlace_7 (by decide) (fun c2 => ?_) (fun c2 => ?_)
    · refine lv_iconst (v := 0) hx hb dX4_isNoPlace_14 (by decide) ?_
      exact jk_zret hx hb hr rfl hlocks hP hS ((if_neg c1).trans ((if_pos c2).trans (rfl))).symm rfl dX4_isNoPlace_15
    · refine lv_iconst (v := 1) hx hb dX4_isNoPlace_10 (by decide) ?_
      refine lv_goto (tgt := 15) hx hb dX4_isNoPlace_11 (by decide) ?_
      exact jk_zret hx hb hr rfl hlocks hP hS ((if_neg c1).trans ((if_neg c2).trans (rfl))).symm rfl dX4_isNoPlace_15

def rX2_fullestJar (M : jm_T) : Int32 := let x1 : Int32 := if 0 ≤ ((jm_ja M) 0) then ((jm_ja M) 0) else 0 - ((jm_ja M) 0); let x2 : Int32 := if 0 ≤ ((jm_ja M) 1) then ((jm_ja M) 1) else 0 - ((jm_ja M) 1); let x3 : Int32 := if x1 < x2 then x2 else x1; x3
set_option maxHeartbeats 4000000 in
set_option maxRecDepth 100000 in
theorem c_X2_fullestJar (l : Launch) (D : va_G) (g : jk_G) (a : Nat → Nat) (M : jm_T)  : jk_M l D g yX2_fullestJar wsX2_fullestJar 1 14 [.ref (a 0)] (jm_W g a M) (some (.int (rX2_fullestJar M))) (jm_W g a M) := by
  refine jk_of (cc := cX2_fullestJar) (maxL := 1) (ret := (some .int)) (by decide +kernel) rfl (Nat.le_of_ble_eq_true rfl) ?_
  intro p e s m args below meth c hx hb hr hml hts hown hlocks hK hN A H locs hP hD hA hS ls hl
  have hown : s.vm.findClass RX2 = some m.cls := hown
  have hl : lv_has ls 1 [(0, .ref (a 0))] := hl
  have hf_18 := hts (.fieldLink RX2 18 "InfluenceJars$Machine" "jars" "[I") (by decide +kernel)
  have hi_2 : ∀ w ∈ u_ws RX2 TX2 13, w ∈ wsX2_fullestJar := by decide +kernel
  have hm_80 := hts (.methodLink RX2 80 Lib.Math.abs.name) (by decide +kernel)
  have hs_abs := hts (.static Lib.Math.abs.name) (by decide +kernel)
  have hi_Math := hts (.initialized "java/lang/Math") (by decide +kernel)
  have hc_abs := hts (.code Lib.Math.abs.name Lib.Math.abs.code 1 (some .int)) (by exact List.mem_of_getElem? (i := 5) rfl)
  have hm_71 := hts (.methodLink RX2 71 Lib.Math.max.name) (by decide +kernel)
  have hs_max := hts (.static Lib.Math.max.name) (by decide +kernel)
  have hc_max := hts (.code Lib.Math.max.name Lib.Math.max.code 2 (some .int)) (by exact List.mem_of_getElem? (i := 8) rfl)
  refine lv_aload_n hx hb dX2_fullestJar_0 rfl (lv_at hl 0 rfl) ?_
  refine va_get (D := D) (ci := 2) (v := .ref (a 3)) (C := RX2) (T := TX2) (N := 13) hx hb hts hi_2 hown hK hP 0 rfl rfl 2 (by decide) hf_18 (fun _ h9 => h9) rfl dX2_fullestJar_1 ?_
  refine lv_iconst (v := 0) hx hb dX2_fullestJar_4 (by decide) ?_
  refine va_iald (f := (jm_ja M)) hx hb hK hP 3 0 rfl rfl (jk_inC (by decide +kernel)) dX2_fullestJar_5 ?_
  refine W.eq (g2 := F0 m 6 ls [.int ((jm_ja M) 0)]) rfl ?_
  refine va_mabs hx hb (by rw [hml]; exact hl.1.symm) hown hm_80 hs_abs hi_Math hc_abs (Nat.le_of_ble_eq_true rfl) (Nat.le_of_ble_eq_true rfl) (Nat.zero_le _) (Nat.zero_le _) dX2_fullestJar_6 ?_
  refine lv_topi (fun x1 ex1 => ?_)
  refine lv_aload_n hx hb dX2_fullestJar_9 rfl (lv_at hl 0 rfl) ?_
  refine va_get (D := D) (ci := 2) (v := .ref (a 3)) (C := RX2) (T := TX2) (N := 13) hx hb hts hi_2 hown hK hP 0 rfl rfl 2 (by decide) hf_18 (fun _ h9 => h9) rfl dX2_fullestJar_10 ?_
  refine lv_iconst (v := 1) hx hb dX2_fullestJar_13 (by decide) ?_
  refine va_iald (f := (jm_ja M)) hx hb hK hP 3 0 rfl rfl (jk_inC (by decide +kernel)) dX2_fullestJar_14 ?_
  refine W.eq (g2 := F0 m 15 ls [.int ((jm_ja M) 1), .int x1]) rfl ?_
  refine va_mabs hx hb (by rw [hml]; exact hl.1.symm) hown hm_80 hs_abs hi_Math hc_abs (Nat.le_of_ble_eq_true rfl) (Nat.le_of_ble_eq_true rfl) (Nat.zero_le _) (Nat.zero_le _) dX2_fullestJar_15 ?_
  refine lv_topi (fun x2 ex2 => ?_)
  refine va_mmax hx hb (by rw [hml]; exact hl.1.symm) hown hm_71 hs_max hi_Math hc_max (Nat.le_of_ble_eq_true rfl) (Nat.le_of_ble_eq_true rfl) (Nat.zero_le _) (Nat.zero_le _) dX2_fullestJar_18 ?_
  refine lv_topi (fun x3 ex3 => ?_)
  subst ex3
  subst ex2
  subst ex1
  exact jk_iret hx hb hr hlocks hP hS (rfl).symm rfl dX2_fullestJar_21

def rX2_difference (M : jm_T) : Int32 := let x1 : Int32 := ((jm_ja M) 0) - ((jm_ja M) 1); let x2 : Int32 := if 0 ≤ x1 then x1 else 0 - x1; x2
set_option maxHeartbeats 4000000 in
set_option maxRecDepth 100000 in
theorem c_X2_difference (l : Launch) (D : va_G) (g : jk_G) (a : Nat → Nat) (M : jm_T)  : jk_M l D g yX2_difference wsX2_difference 1 13 [.ref (a 0)] (jm_W g a M) (some (.int (rX2_difference M))) (jm_W g a M) := by
  refine jk_of (cc := cX2_difference) (maxL := 1) (ret := (some .int)) (by decide +kernel) rfl (Nat.le_of_ble_eq_true rfl) ?_
  intro p e s m args below meth c hx hb hr hml hts hown hlocks hK hN A H locs hP hD hA hS ls hl
  have hown : s.vm.findClass RX2 = some m.cls := hown
  have hl : lv_has ls 1 [(0, .ref (a 0))] := hl
  have hf_18 := hts (.fieldLink RX2 18 "InfluenceJars$Machine" "jars" "[I") (by decide +kernel)
  have hi_2 : ∀ w ∈ u_ws RX2 TX2 13, w ∈ wsX2_difference := by decide +kernel
  have hm_80 := hts (.methodLink RX2 80 Lib.Math.abs.name) (by decide +kernel)
  have hs_abs := hts (.static Lib.Math.abs.name) (by decide +kernel)
  have hi_Math := hts (.initialized "java/lang/Math") (by decide +kernel)
  have hc_abs := hts (.code Lib.Math.abs.name Lib.Math.abs.code 1 (some .int)) (by exact List.mem_of_getElem? (i := 5) rfl)
  refine lv_aload_n hx hb dX2_difference_0 rfl (lv_at hl 0 rfl) ?_
  refine va_get (D := D) (ci := 2) (v := .ref (a 3)) (C := RX2) (T := TX2) (N := 13) hx hb hts hi_2 hown hK hP 0 rfl rfl 2 (by decide) hf_18 (fun _ h9 => h9) rfl dX2_difference_1 ?_
  refine lv_iconst (v := 0) hx hb dX2_difference_4 (by decide) ?_
  refine va_iald (f := (jm_ja M)) hx hb hK hP 3 0 rfl rfl (jk_inC (by decide +kernel)) dX2_difference_5 ?_
  refine W.eq (g2 := F0 m 6 ls [.int ((jm_ja M) 0)]) rfl ?_
  refine lv_aload_n hx hb dX2_difference_6 rfl (lv_at hl 0 rfl) ?_
  refine va_get (D := D) (ci := 2) (v := .ref (a 3)) (C := RX2) (T := TX2) (N := 13) hx hb hts hi_2 hown hK hP 0 rfl rfl 2 (by decide) hf_18 (fun _ h9 => h9) rfl dX2_difference_7 ?_
  refine lv_iconst (v := 1) hx hb dX2_difference_10 (by decide) ?_
  refine va_iald (f := (jm_ja M)) hx hb hK hP 3 0 rfl rfl (jk_inC (by decide +kernel)) dX2_difference_11 ?_
  refine W.eq (g2 := F0 m 12 ls [.int ((jm_ja M) 1), .int ((jm_ja M) 0)]) rfl ?_
  refine lv_isub hx hb dX2_difference_12 ?_
  refine lv_topi (fun x1 ex1 => ?_)
  refine va_mabs hx hb (by rw [hml]; exact hl.1.symm) hown hm_80 hs_abs hi_Math hc_abs (Nat.le_of_ble_eq_true rfl) (Nat.le_of_ble_eq_true rfl) (Nat.zero_le _) (Nat.zero_le _) dX2_difference_13 ?_
  refine lv_topi (fun x2 ex2 => ?_)
  subst ex2
  subst ex1
  exact jk_iret hx hb hr hlocks hP hS (rfl).symm rfl dX2_difference_16

def rX2_sign (M : jm_T) : Int32 := let x1 : Int32 := ((jm_ja M) 0) - ((jm_ja M) 1); rJ6_signum_0f7a4 x1
set_option maxHeartbeats 4000000 in
set_option maxRecDepth 100000 in
theorem c_X2_sign (l : Launch) (D : va_G) (g : jk_G) (a : Nat → Nat) (M : jm_T)  : jk_M l D g yX2_sign wsX2_sign 1 20 [.ref (a 0)] (jm_W g a M) (some (.int (rX2_sign M))) (jm_W g a M) := by
  refine jk_of (cc := cX2_sign) (maxL := 1) (ret := (some .int)) (by decide +kernel) rfl (Nat.le_of_ble_eq_true rfl) ?_
  intro p e s m args below meth c hx hb hr hml hts hown hlocks hK hN A H locs hP hD hA hS ls hl
  have hown : s.vm.findClass RX2 = some m.cls := hown
  have hl : lv_has ls 1 [(0, .ref (a 0))] := hl
  have hf_18 := hts (.fieldLink RX2 18 "InfluenceJars$Machine" "jars" "[I") (by decide +kernel)
  have hi_2 : ∀ w ∈ u_ws RX2 TX2 13, w ∈ wsX2_sign := by decide +kernel
  refine lv_aload_n hx hb dX2_sign_0 rfl (lv_at hl 0 rfl) ?_
  refine va_get (D := D) (ci := 2) (v := .ref (a 3)) (C := RX2) (T := TX2) (N := 13) hx hb hts hi_2 hown hK hP 0 rfl rfl 2 (by decide) hf_18 (fun _ h9 => h9) rfl dX2_sign_1 ?_
  refine lv_iconst (v := 0) hx hb dX2_sign_4 (by decide) ?_
  refine va_iald (f := (jm_ja M)) hx hb hK hP 3 0 rfl rfl (jk_inC (by decide +kernel)) dX2_sign_5 ?_
  refine W.eq (g2 := F0 m 6 ls [.int ((jm_ja M) 0)]) rfl ?_
  refine lv_aload_n hx hb dX2_sign_6 rfl (lv_at hl 0 rfl) ?_
  refine va_get (D := D) (ci := 2) (v := .ref (a 3)) (C := RX2) (T := TX2) (N := 13) hx hb hts hi_2 hown hK hP 0 rfl rfl 2 (by decide) hf_18 (fun _ h9 => h9) rfl dX2_sign_7 ?_
  refine lv_iconst (v := 1) hx hb dX2_sign_10 (by decide) ?_
  refine va_iald (f := (jm_ja M)) hx hb hK hP 3 0 rfl rfl (jk_inC (by decide +kernel)) dX2_sign_11 ?_
  refine W.eq (g2 := F0 m 12 ls [.int ((jm_ja M) 1), .int ((jm_ja M) 0)]) rfl ?_
  refine lv_isub hx hb dX2_sign_12 ?_
  refine lv_topi (fun x1 ex1 => ?_)
  refine jk_callS (As := [.int x1]) (rest := []) (ws1 := (jm_W g a M)) ⟨hx, hb, hml, hown, hts⟩ (c_J6_signum_0f7a4 l D g x1) (va_cwS 1 hts gX2_sign_J6_signum_0f7a4 rfl rfl rfl (by decide +kernel) ⟨Nat.le_of_ble_eq_true rfl, Nat.le_of_ble_eq_true rfl⟩) jk_nilP (jk_nilD (A := A)) hK hN rfl hl rfl (Nat.le_of_ble_eq_true rfl) dX2_sign_13 ⟨Nat.zero_le _, Nat.zero_le _⟩ hS hA (fun _ _ hk => jk_keep hP hk) (fun H locs hP hS => ?_)
  refine W.eq (g2 := F0 m 16 ls [.int (rJ6_signum_0f7a4 x1)]) rfl ?_
  subst ex1
  exact jk_iret hx hb hr hlocks hP hS (rfl).symm rfl dX2_sign_16

def rX2_hasTurnsLeft (M : jm_T) (vn : Int32) : Int32 := if 99999 < ((jm_tu M) + vn) then (0) else (1)
set_option maxHeartbeats 4000000 in
set_option maxRecDepth 100000 in
theorem c_X2_hasTurnsLeft (l : Launch) (D : va_G) (g : jk_G) (a : Nat → Nat) (M : jm_T) (vn : Int32)  : jk_M l D g yX2_hasTurnsLeft wsX2_hasTurnsLeft 0 0 [.ref (a 0), .int vn] (jm_W g a M) (some (.int (rX2_hasTurnsLeft M vn))) (jm_W g a M) := by
  refine jk_of (cc := cX2_hasTurnsLeft) (maxL := 2) (ret := (some .boolean)) (by decide +kernel) rfl (Nat.le_of_ble_eq_true rfl) ?_
  intro p e s m args below meth c hx hb hr hml hts hown hlocks hK hN A H locs hP hD hA hS ls hl
  have hown : s.vm.findClass RX2 = some m.cls := hown
  have hl : lv_has ls 2 [(0, .ref (a 0)), (1, .int vn)] := hl
  have hf_34 := hts (.fieldLink RX2 34 "InfluenceJars$Machine" "turns" "I") (by decide +kernel)
  have hi_2 : ∀ w ∈ u_ws RX2 TX2 13, w ∈ wsX2_hasTurnsLeft := by decide +kernel
  have hk_83 := hts (.constant RX2 83 99999) (by decide +kernel)
  refine lv_aload_n hx hb dX2_hasTurnsLeft_0 rfl (lv_at hl 0 rfl) ?_
  refine va_get (D := D) (ci := 2) (v := .int (jm_tu M)) (C := RX2) (T := TX2) (N := 13) hx hb hts hi_2 hown hK hP 0 rfl rfl 6 (by decide) hf_34 (fun _ h9 => h9) rfl dX2_hasTurnsLeft_1 ?_
  refine lv_iload_n hx hb dX2_hasTurnsLeft_4 rfl (lv_at hl 1 rfl) ?_
  refine lv_iadd hx hb dX2_hasTurnsLeft_5 ?_
  refine lv_ldc hx hb hown hk_83 dX2_hasTurnsLeft_6 ?_
  refine lv_icmp_gt (tgt := 15) hx hb dX2_hasTurnsLeft_8 (by decide) (fun c1 => ?_) (fun c1 => ?_)
  · refine lv_iconst (v := 0) hx hb dX2_hasTurnsLeft_15 (by decide) ?_
    exact jk_zret hx hb hr rfl hlocks hP hS ((if_pos c1).trans (rfl)).symm rfl dX2_hasTurnsLeft_16
  · refine lv_iconst (v := 1) hx hb dX2_hasTurnsLeft_11 (by decide) ?_
    refine lv_goto (tgt := 16) hx hb dX2_hasTurnsLeft_12 (by decide) ?_
    exact jk_zret hx hb hr rfl hlocks hP hS ((if_neg c1).trans (rfl)).symm rfl dX2_hasTurnsLeft_16
end
section
/-! ===== numbers of loops ===== -/
theorem jk_ge {k N : Nat} (hN : N < 2 ^ 31) (hk : k ≤ N) (h : nI N ≤ nI k) : k = N := by
  rcases Nat.lt_or_ge k N with q | q
  · exact absurd h (nI_ge q hN)
  · omega
theorem jk_lt {k N : Nat} (hN : N < 2 ^ 31) (hk : k ≤ N) (h : ¬ nI N ≤ nI k) : k < N := by
  rcases Nat.lt_or_ge k N with q | q
  · exact q
  · exact absurd (nI_le q (by omega)) h
/-- a bound that is any int: as often as it says, if it is above 0 -/
theorem jk_bge {k : Nat} {x : Int32} (hk : k ≤ x.toNatClampNeg) (h : x ≤ nI k) : k = x.toNatClampNeg := by
  have h1 : (x.toInt.toNat : Int) = x.toInt ∨ x.toInt < 0 := by omega
  have hx : x.toNatClampNeg = x.toInt.toNat := rfl
  have hlt : x.toInt < 2 ^ 31 := x.toInt_lt
  rw [hx] at hk ⊢
  have hkk : (nI k).toInt = k := nI_toInt (by omega)
  rw [Int32.le_iff_toInt_le, hkk] at h
  omega
theorem jk_blt {k : Nat} {x : Int32} (hk : k ≤ x.toNatClampNeg) (h : ¬ x ≤ nI k) : k < x.toNatClampNeg := by
  have hx : x.toNatClampNeg = x.toInt.toNat := rfl
  have hlt : x.toInt < 2 ^ 31 := x.toInt_lt
  rw [hx] at hk ⊢
  have hkk : (nI k).toInt = k := nI_toInt (by omega)
  rw [Int32.le_iff_toInt_le, hkk] at h
  omega
theorem jk_sge {k : Nat} {x : Int32} (hx9 : x.toNatClampNeg < 1000000) (hk : k ≤ x.toNatClampNeg) (h : x < nI (k + 1)) : k = x.toNatClampNeg := by
  have hx : x.toNatClampNeg = x.toInt.toNat := rfl
  rw [hx] at hk hx9 ⊢
  have hkk : (nI (k + 1)).toInt = ((k + 1 : Nat) : Int) := nI_toInt (by omega)
  rw [Int32.lt_iff_toInt_lt, hkk] at h
  omega
theorem jk_slt {k : Nat} {x : Int32} (hx9 : x.toNatClampNeg < 1000000) (hk : k ≤ x.toNatClampNeg) (h : ¬ x < nI (k + 1)) : k < x.toNatClampNeg := by
  have hx : x.toNatClampNeg = x.toInt.toNat := rfl
  rw [hx] at hk hx9 ⊢
  have hkk : (nI (k + 1)).toInt = ((k + 1 : Nat) : Int) := nI_toInt (by omega)
  rw [Int32.lt_iff_toInt_lt, hkk] at h
  omega
/-- the remainder by 12 or 8 that is never below 0 -/
theorem jk_toInt_sub (x y : Int32) : (x - y).toInt = (x.toInt - y.toInt).bmod (2 ^ 32) := Int32.toInt_sub x y
theorem jk_rem_toInt (x y : Int32) (h0 : 0 < y.toInt) : (x - x / y * y).toInt = x.toInt.tmod y.toInt := by
  have hx1 : -2147483648 ≤ x.toInt := x.le_toInt
  have hx2 : x.toInt < 2147483648 := x.toInt_lt
  have hy2 : y.toInt < 2147483648 := y.toInt_lt
  have hd : (x / y).toInt = (x.toInt.tdiv y.toInt).bmod (2 ^ 32) := Int32.toInt_div x y
  have ha := Int.mul_tdiv_add_tmod x.toInt y.toInt
  have hm1 : (x.toInt.tmod y.toInt).natAbs < y.toInt.natAbs := by
    rw [Int.natAbs_tmod]
    exact Nat.mod_lt _ (by omega)
  rw [Int32.toInt_sub, Int32.toInt_mul, hd]
  have e1 : (x.toInt - ((x.toInt.tdiv y.toInt).bmod (2 ^ 32) * y.toInt).bmod (2 ^ 32)).bmod (2 ^ 32) = (x.toInt - x.toInt.tdiv y.toInt * y.toInt).bmod (2 ^ 32) := by
    rw [Int.bmod_mul_bmod, Int.sub_bmod_bmod]
  rw [e1]
  have e2 : x.toInt - x.toInt.tdiv y.toInt * y.toInt = x.toInt.tmod y.toInt := by
    rw [Int.mul_comm]
    omega
  rw [e2]
  exact Int.bmod_eq_of_le (by omega) (by omega)
theorem jk_xor_ge (x y : Int32) (h : 0 ≤ y.toInt) : 0 ≤ (x ^^^ y) ↔ 0 ≤ x.toInt := by
  rw [Int32.le_iff_toInt_le, Int32.toInt_zero]
  have e1 : (x ^^^ y).toInt = (x.toBitVec ^^^ y.toBitVec).toInt := rfl
  have e2 : x.toInt = x.toBitVec.toInt := rfl
  have e3 : y.toInt = y.toBitVec.toInt := rfl
  rw [e3] at h
  rw [e1, e2]
  have a1 := @BitVec.msb_eq_toInt 32 (x.toBitVec ^^^ y.toBitVec)
  have a2 := @BitVec.msb_eq_toInt 32 x.toBitVec
  have a3 := @BitVec.msb_eq_toInt 32 y.toBitVec
  rw [BitVec.msb_xor, a2, a3] at a1
  rw [decide_eq_false (by omega : ¬ y.toBitVec.toInt < 0), Bool.xor_false] at a1
  have a4 := decide_eq_decide.mp a1
  omega
theorem jk_fm (x y : Int32) (h0 : 0 < y.toInt) : (rJ9_floorMod_7cf53 x y).toInt = x.toInt % y.toInt := by
  have hr := jk_rem_toInt x y h0
  have hx1 : -2147483648 ≤ x.toInt := x.le_toInt
  have hx2 : x.toInt < 2147483648 := x.toInt_lt
  have hy2 : y.toInt < 2147483648 := y.toInt_lt
  have hm := Int.emod_nonneg x.toInt (show y.toInt ≠ 0 by omega)
  have hm2 := Int.emod_lt_of_pos x.toInt h0
  unfold rJ9_floorMod_7cf53
  by_cases c1 : 0 ≤ (x ^^^ y)
  · rw [if_pos c1, hr]
    have hx := (jk_xor_ge x y (by omega)).mp c1
    exact Int.tmod_eq_emod_of_nonneg hx
  · rw [if_neg c1]
    have hx : x.toInt < 0 := by
      rcases Int.lt_or_le x.toInt 0 with q | q
      · exact q
      · exact absurd ((jk_xor_ge x y (by omega)).mpr q) c1
    have ht : x.toInt.tmod y.toInt = x.toInt % y.toInt - ((if 0 ≤ x.toInt ∨ y.toInt ∣ x.toInt then 0 else y.toInt.natAbs : Nat) : Int) := Int.tmod_eq_emod
    by_cases c2 : (x - x / y * y) = 0
    · rw [if_pos c2, hr]
      have h3 : x.toInt.tmod y.toInt = 0 := by rw [← hr, c2]; rfl
      rw [h3]
      have hd : y.toInt ∣ x.toInt := Int.dvd_of_tmod_eq_zero h3
      exact (Int.emod_eq_zero_of_dvd hd).symm
    · rw [if_neg c2, Int32.toInt_add, hr]
      have h3 : ¬ x.toInt.tmod y.toInt = 0 := fun q => c2 (Int32.toInt_inj.mp (by rw [hr, q]; rfl))
      have hnd : ¬ y.toInt ∣ x.toInt := fun q => h3 (Int.tmod_eq_zero_of_dvd q)
      rw [if_neg (by rintro (q | q); omega; exact hnd q)] at ht
      rw [ht, show (y.toInt.natAbs : Int) = y.toInt by omega, Int.sub_add_cancel]
      exact Int.bmod_eq_of_le (by omega) (by omega)
theorem jk_12 : (12 : Int32).toInt = 12 := by decide
theorem jk_8 : (8 : Int32).toInt = 8 := by decide
theorem jk_ix_toInt (d p t : Int32) : 0 ≤ (rX2_indexOf d p t).toInt ∧ (rX2_indexOf d p t).toInt < 24 := by
  have a1 := jk_fm (p - t) 12 (by decide)
  have a2 := jk_fm (p + t) 12 (by decide)
  rw [jk_12] at a1 a2
  unfold rX2_indexOf
  by_cases c : d = 0
  · rw [if_pos c]
    show 0 ≤ (rJ9_floorMod_7cf53 (p - t) 12).toInt ∧ (rJ9_floorMod_7cf53 (p - t) 12).toInt < 24
    omega
  · rw [if_neg c]
    show 0 ≤ (12 + rJ9_floorMod_7cf53 (p + t) 12).toInt ∧ (12 + rJ9_floorMod_7cf53 (p + t) 12).toInt < 24
    rw [Int32.toInt_add, jk_12, Int.bmod_eq_of_le (by omega) (by omega)]
    omega
theorem jk_ix_in (d p t : Int32) : vp_in (rX2_indexOf d p t) 24 := vp_in_iff.mpr (jk_ix_toInt d p t)
theorem jk_lg_toInt (k : Int32) : (rX2_logIndexOf k).toInt = 3 * (k.toInt % 8) := by
  have a1 := jk_fm k 8 (by decide)
  rw [jk_8] at a1
  show (3 * rJ9_floorMod_7cf53 k 8).toInt = _
  have h3 : (3 : Int32).toInt = 3 := by decide
  rw [Int32.toInt_mul, h3, a1, Int.bmod_eq_of_le (by omega) (by omega)]
theorem jk_lg_in (k : Int32) : vp_in (rX2_logIndexOf k) 24 := vp_in_iff.mpr (by rw [jk_lg_toInt]; omega)
theorem jk_lg_in1 (k : Int32) : vp_in (rX2_logIndexOf k + 1) 24 := vp_in_iff.mpr (by
  have h3 : (1 : Int32).toInt = 1 := by decide
  rw [Int32.toInt_add, jk_lg_toInt, h3, Int.bmod_eq_of_le (by omega) (by omega)]; omega)
theorem jk_lg_in2 (k : Int32) : vp_in (rX2_logIndexOf k + 2) 24 := vp_in_iff.mpr (by
  have h3 : (2 : Int32).toInt = 2 := by decide
  rw [Int32.toInt_add, jk_lg_toInt, h3, Int.bmod_eq_of_le (by omega) (by omega)]; omega)
theorem jk_fi (d : Int32) : rX2_firstIndexOf d = nI 0 ∨ rX2_firstIndexOf d = nI 12 := by
  unfold rX2_firstIndexOf
  by_cases c : d = 0
  · rw [if_pos c]; exact Or.inl rfl
  · rw [if_neg c]; exact Or.inr rfl
theorem jk_fi_ix (d : Int32) {k : Nat} (h : k < 12) : vp_in (rX2_firstIndexOf d + nI k) 24 := by
  rcases jk_fi d with e | e <;> rw [e, nI_add] <;> exact vp_in_nI (by omega) (by decide)
theorem jk_fi_exit {d : Int32} {k : Nat} (hk : k ≤ 12) (h : rX2_firstIndexOf d + 12 ≤ rX2_firstIndexOf d + nI k) : k = 12 := by
  have e12 : (12 : Int32) = nI 12 := rfl
  rw [e12] at h
  rcases jk_fi d with e | e <;> rw [e, nI_add, nI_add] at h <;> have := (nI_leI (by omega) (by omega)).mp h <;> omega
theorem jk_fi_in {d : Int32} {k : Nat} (hk : k ≤ 12) (h : ¬ rX2_firstIndexOf d + 12 ≤ rX2_firstIndexOf d + nI k) : k < 12 := by
  have e12 : (12 : Int32) = nI 12 := rfl
  rw [e12] at h
  rcases Nat.lt_or_ge k 12 with q | q
  · exact q
  · have hk2 : k = 12 := by omega
    subst hk2
    exact absurd (Int32.le_refl _) h
/-! ===== loops over a disc: b is its first place, k places are done ===== -/
def lp_sum (f : Nat → Int32) (b : Int32) : Nat → Int32
  | 0 => 0
  | k + 1 => lp_sum f b k + f (b + nI k).toNatClampNeg
def lp_sgn (f : Nat → Int32) (b sg : Int32) : Nat → Int32
  | 0 => 0
  | k + 1 => if rJ6_signum_0f7a4 (f (b + nI k).toNatClampNeg) = sg then lp_sgn f b sg k + 1 else lp_sgn f b sg k
def lp_max (f : Nat → Int32) (b : Int32) : Nat → Int32
  | 0 => -99
  | k + 1 => if lp_max f b k < f (b + nI k).toNatClampNeg then f (b + nI k).toNatClampNeg else lp_max f b k
def lp_min (f : Nat → Int32) (b : Int32) : Nat → Int32
  | 0 => 99
  | k + 1 => if f (b + nI k).toNatClampNeg < lp_min f b k then f (b + nI k).toNatClampNeg else lp_min f b k
def lp_zero (f : Nat → Int32) (b : Int32) : Nat → Nat → Int32
  | 0 => f
  | k + 1 => upd (lp_zero f b k) (b + nI k).toNatClampNeg 0
def lp_lk (M : jm_T) : Nat → jm_T
  | 0 => M
  | k + 1 => jm_ulk (jm_uch (lp_lk M k) (upd (jm_ch (lp_lk M k)) (nI k).toNatClampNeg (jm_ch (lp_lk M k) (nI k).toNatClampNeg - jm_ch (lp_lk M k) (nI k).toNatClampNeg * jm_se (lp_lk M k) 1 / 100))) (jm_lk (lp_lk M k) + jm_ch (lp_lk M k) (nI k).toNatClampNeg * jm_se (lp_lk M k) 1 / 100)
end
section
def rX2_putCharge (M : jm_T) (vd : Int32) (vp : Int32) (x0 : Int32) : Int32 := let x1 : Int32 := rX2_indexOf vd vp (jm_tu M); let f2 : (Nat → Int32) := upd (jm_ch M) x1.toNatClampNeg x0; let x3 : Int32 := x0 - ((jm_ch M) x1.toNatClampNeg); (jm_ch M) x1.toNatClampNeg
def sX2_putCharge (M : jm_T) (vd : Int32) (vp : Int32) (x0 : Int32) : jm_T := let x1 : Int32 := rX2_indexOf vd vp (jm_tu M); let f2 : (Nat → Int32) := upd (jm_ch M) x1.toNatClampNeg x0; let x3 : Int32 := x0 - ((jm_ch M) x1.toNatClampNeg); (jm_upo (jm_uch M f2) ((jm_po M) + x3))
def rX2_emptyJars (M : jm_T) : Int32 := let x1 : Int32 := rX2_difference M; let x2 : Int32 := ((jm_ja M) 0) + ((jm_ja M) 1); x1
def sX2_emptyJars (M : jm_T) : jm_T := let x1 : Int32 := rX2_difference M; let x2 : Int32 := ((jm_ja M) 0) + ((jm_ja M) 1); (jm_uto (jm_uja M (upd (upd (jm_ja M) 0 0) 1 0)) ((jm_to M) + x2))
def sX2_join_0 (M : jm_T) : jm_T := let x1 : Int32 := rX2_indexOf (0 : Int32) (2 : Int32) (jm_tu M); let x2 : Int32 := rX2_indexOf (0 : Int32) (8 : Int32) (jm_tu M); let x3 : Int32 := rX2_indexOf (1 : Int32) (2 : Int32) (jm_tu M); let x4 : Int32 := rX2_indexOf (1 : Int32) (8 : Int32) (jm_tu M); let x5 : Int32 := ((jm_ch M) x1.toNatClampNeg) + ((jm_ch M) x2.toNatClampNeg); let x6 : Int32 := ((jm_ch M) x4.toNatClampNeg) - ((jm_ch M) x3.toNatClampNeg); let x7 : Int32 := (x5 / 2) + ((x6 * ((jm_se M) 0)) / 32); let x8 : Int32 := (-99) - ((jm_ch M) x1.toNatClampNeg); let x9 : Int32 := ((jm_ch M) x2.toNatClampNeg) - 99; let x10 : Int32 := if x8 < x9 then x9 else x8; let x11 : Int32 := 99 - ((jm_ch M) x1.toNatClampNeg); let x12 : Int32 := ((jm_ch M) x2.toNatClampNeg) + 99; let x13 : Int32 := if x12 < x11 then x12 else x11; let x14 : Int32 := x7 - ((jm_ch M) x1.toNatClampNeg); let x15 : Int32 := rX4_limited x14 x10 x13; let x16 : Int32 := ((jm_ch M) x1.toNatClampNeg) + x15; let f17 : (Nat → Int32) := upd (jm_ch M) x1.toNatClampNeg x16; let x18 : Int32 := ((jm_ch M) x2.toNatClampNeg) - x15; let f19 : (Nat → Int32) := upd f17 x2.toNatClampNeg x18; (jm_uch M f19)
def sX2_join_1 (M : jm_T) : jm_T := let x1 : Int32 := rX2_indexOf (1 : Int32) (4 : Int32) (jm_tu M); let x2 : Int32 := rX2_indexOf (1 : Int32) (10 : Int32) (jm_tu M); let x3 : Int32 := rX2_indexOf (0 : Int32) (4 : Int32) (jm_tu M); let x4 : Int32 := rX2_indexOf (0 : Int32) (10 : Int32) (jm_tu M); let x5 : Int32 := ((jm_ch M) x1.toNatClampNeg) + ((jm_ch M) x2.toNatClampNeg); let x6 : Int32 := ((jm_ch M) x4.toNatClampNeg) - ((jm_ch M) x3.toNatClampNeg); let x7 : Int32 := (x5 / 2) + ((x6 * ((jm_se M) 0)) / 32); let x8 : Int32 := (-99) - ((jm_ch M) x1.toNatClampNeg); let x9 : Int32 := ((jm_ch M) x2.toNatClampNeg) - 99; let x10 : Int32 := if x8 < x9 then x9 else x8; let x11 : Int32 := 99 - ((jm_ch M) x1.toNatClampNeg); let x12 : Int32 := ((jm_ch M) x2.toNatClampNeg) + 99; let x13 : Int32 := if x12 < x11 then x12 else x11; let x14 : Int32 := x7 - ((jm_ch M) x1.toNatClampNeg); let x15 : Int32 := rX4_limited x14 x10 x13; let x16 : Int32 := ((jm_ch M) x1.toNatClampNeg) + x15; let f17 : (Nat → Int32) := upd (jm_ch M) x1.toNatClampNeg x16; let x18 : Int32 := ((jm_ch M) x2.toNatClampNeg) - x15; let f19 : (Nat → Int32) := upd f17 x2.toNatClampNeg x18; (jm_uch M f19)
def sX2_gather_0 (M : jm_T) : jm_T := let x2 : Int32 := rX2_indexOf (0 : Int32) (0 : Int32) (jm_tu M); let x3 : Int32 := (-((jm_se M) 4)) - ((jm_ja M) 0); let x4 : Int32 := ((jm_se M) 4) - ((jm_ja M) 0); let x5 : Int32 := rX4_limited ((jm_ch M) x2.toNatClampNeg) x3 x4; let x6 : Int32 := ((jm_ch M) x2.toNatClampNeg) - x5; let f7 : (Nat → Int32) := upd (jm_ch M) x2.toNatClampNeg x6; let x9 : Int32 := rX2_indexOf (1 : Int32) (0 : Int32) (jm_tu M); let x10 : Int32 := (-((jm_se M) 4)) - (((jm_ja M) 0) + x5); let x11 : Int32 := ((jm_se M) 4) - (((jm_ja M) 0) + x5); let x12 : Int32 := rX4_limited (f7 x9.toNatClampNeg) x10 x11; let f13 : (Nat → Int32) := upd f7 x9.toNatClampNeg ((f7 x9.toNatClampNeg) - x12); (jm_utk (jm_uja (jm_uch M f13) (upd (upd (jm_ja M) 0 (((jm_ja M) 0) + x5)) 0 ((((jm_ja M) 0) + x5) + x12))) (upd (upd (jm_tk M) 0 (((jm_tk M) 0) + x5)) 0 ((((jm_tk M) 0) + x5) + x12)))
def sX2_gather_1 (M : jm_T) : jm_T := let x2 : Int32 := rX2_indexOf (0 : Int32) (6 : Int32) (jm_tu M); let x3 : Int32 := (-((jm_se M) 4)) - ((jm_ja M) 1); let x4 : Int32 := ((jm_se M) 4) - ((jm_ja M) 1); let x5 : Int32 := rX4_limited ((jm_ch M) x2.toNatClampNeg) x3 x4; let x6 : Int32 := ((jm_ch M) x2.toNatClampNeg) - x5; let f7 : (Nat → Int32) := upd (jm_ch M) x2.toNatClampNeg x6; let x9 : Int32 := rX2_indexOf (1 : Int32) (6 : Int32) (jm_tu M); let x10 : Int32 := (-((jm_se M) 4)) - (((jm_ja M) 1) + x5); let x11 : Int32 := ((jm_se M) 4) - (((jm_ja M) 1) + x5); let x12 : Int32 := rX4_limited (f7 x9.toNatClampNeg) x10 x11; let f13 : (Nat → Int32) := upd f7 x9.toNatClampNeg ((f7 x9.toNatClampNeg) - x12); (jm_utk (jm_uja (jm_uch M f13) (upd (upd (jm_ja M) 1 (((jm_ja M) 1) + x5)) 1 ((((jm_ja M) 1) + x5) + x12))) (upd (upd (jm_tk M) 1 (((jm_tk M) 1) + x5)) 1 ((((jm_tk M) 1) + x5) + x12)))
def sX2_leakFromJar_0 (M : jm_T) : jm_T := let x1 : Int32 := ((jm_ja M) 0) * ((jm_se M) 1); (jm_ulk (jm_ulj (jm_uja M (upd (jm_ja M) 0 (((jm_ja M) 0) - (x1 / 200)))) (upd (jm_lj M) 0 (((jm_lj M) 0) + (x1 / 200)))) ((jm_lk M) + (x1 / 200)))
def sX2_leakFromJar_1 (M : jm_T) : jm_T := let x1 : Int32 := ((jm_ja M) 1) * ((jm_se M) 1); (jm_ulk (jm_ulj (jm_uja M (upd (jm_ja M) 1 (((jm_ja M) 1) - (x1 / 200)))) (upd (jm_lj M) 1 (((jm_lj M) 1) + (x1 / 200)))) ((jm_lk M) + (x1 / 200)))
def rX2_isSparkDue (M : jm_T) : Int32 := let x1 : Int32 := rX2_difference M; if x1 < (10 * ((jm_se M) 2)) then (0) else (1)
def sX2_letJump (M : jm_T) : jm_T := let x1 : Int32 := rX2_logIndexOf (jm_sp M); let f2 : (Nat → Int32) := upd (jm_lo M) x1.toNatClampNeg (jm_tu M); let f3 : (Nat → Int32) := upd f2 (x1 + 1).toNatClampNeg ((jm_ja M) 0); let f4 : (Nat → Int32) := upd f3 (x1 + 2).toNatClampNeg ((jm_ja M) 1); let x5 : Int32 := ((jm_ja M) 0) + ((jm_ja M) 1); let x6 : Int32 := (((jm_ja M) 0) - (x5 / 2)) * ((jm_se M) 3); let x7 : Int32 := x5 - ((x5 / 2) - (x6 / 100)); (jm_usp (jm_ulo (jm_uja M (upd (upd (jm_ja M) 0 ((x5 / 2) - (x6 / 100))) 1 x7)) f4) ((jm_sp M) + 1))
set_option maxHeartbeats 4000000 in
set_option maxRecDepth 100000 in
theorem c_X2_letJump (l : Launch) (D : va_G) (g : jk_G) (a : Nat → Nat) (M : jm_T)  : jk_M l D g yX2_letJump wsX2_letJump 2 42 [.ref (a 0)] (jm_W g a M) none (jm_W g a (sX2_letJump M)) := by
  refine jk_of (cc := cX2_letJump) (maxL := 4) (ret := none) (by decide +kernel) rfl (Nat.le_of_ble_eq_true rfl) ?_
  intro p e s m args below meth c hx hb hr hml hts hown hlocks hK hN A H locs hP hD hA hS ls hl
  have hown : s.vm.findClass RX2 = some m.cls := hown
  have hl : lv_has ls 4 [(0, .ref (a 0))] := hl
  have hf_38 := hts (.fieldLink RX2 38 "InfluenceJars$Machine" "sparks" "I") (by decide +kernel)
  have hi_2 : ∀ w ∈ u_ws RX2 TX2 13, w ∈ wsX2_letJump := by decide +kernel
  have hf_27 := hts (.fieldLink RX2 27 "InfluenceJars$Machine" "sparkLog" "[I") (by decide +kernel)
  have hf_34 := hts (.fieldLink RX2 34 "InfluenceJars$Machine" "turns" "I") (by decide +kernel)
  have hf_18 := hts (.fieldLink RX2 18 "InfluenceJars$Machine" "jars" "[I") (by decide +kernel)
  have hf_9 := hts (.fieldLink RX2 9 "InfluenceJars$Machine" "settings" "[I") (by decide +kernel)
  refine lv_aload_n hx hb dX2_letJump_0 rfl (lv_at hl 0 rfl) ?_
  refine va_get (D := D) (ci := 2) (v := .int (jm_sp M)) (C := RX2) (T := TX2) (N := 13) hx hb hts hi_2 hown hK hP 0 rfl rfl 7 (by decide) hf_38 (fun _ h9 => h9) rfl dX2_letJump_1 ?_
  refine jk_callS (As := [.int (jm_sp M)]) (rest := []) (ws1 := (jm_W g a M)) ⟨hx, hb, hml, hown, hts⟩ (c_X2_logIndexOf l D g (jm_sp M)) (va_cwS 1 hts gX2_letJump_X2_logIndexOf rfl rfl rfl (by decide +kernel) ⟨Nat.le_of_ble_eq_true rfl, Nat.le_of_ble_eq_true rfl⟩) jk_nilP (jk_nilD (A := A)) hK hN rfl hl rfl (Nat.le_of_ble_eq_true rfl) dX2_letJump_4 ⟨Nat.zero_le _, Nat.zero_le _⟩ hS hA (fun _ _ hk => jk_keep hP hk) (fun H locs hP hS => ?_)
  refine W.eq (g2 := F0 m 7 ls [.int (rX2_logIndexOf (jm_sp M))]) rfl ?_
  refine lv_topi (fun x1 ex1 => ?_)
  refine lv_istore_n (lv' := [(1, .int x1), (0, .ref (a 0))]) hx hb dX2_letJump_7 rfl hl (by decide) rfl (fun ls hl => ?_)
  refine lv_aload_n hx hb dX2_letJump_8 rfl (lv_at hl 1 rfl) ?_
  refine va_get (D := D) (ci := 2) (v := .ref (a 6)) (C := RX2) (T := TX2) (N := 13) hx hb hts hi_2 hown hK hP 0 rfl rfl 5 (by decide) hf_27 (fun _ h9 => h9) rfl dX2_letJump_9 ?_
  refine lv_iload_n hx hb dX2_letJump_12 rfl (lv_at hl 0 rfl) ?_
  refine lv_aload_n hx hb dX2_letJump_13 rfl (lv_at hl 1 rfl) ?_
  refine va_get (D := D) (ci := 2) (v := .int (jm_tu M)) (C := RX2) (T := TX2) (N := 13) hx hb hts hi_2 hown hK hP 0 rfl rfl 6 (by decide) hf_34 (fun _ h9 => h9) rfl dX2_letJump_14 ?_
  refine va_iast (f := (jm_lo M)) hx hb hK hP hD hS 6 0 rfl rfl (by subst_vars; exact jk_lg_in _) dX2_letJump_17 (fun H locs hP hD hS => ?_)
  obtain ⟨f2, ef2⟩ : ∃ z : Nat → Int32, z = (upd (jm_lo M) x1.toNatClampNeg (jm_tu M)) := ⟨_, rfl⟩
  rw [← ef2] at hP hD
  have hP : va_P D vwCl (jm_W g a (jm_ulo M f2)) H := hP
  have hD : va_D A (jm_W g a (jm_ulo M f2)) := hD
  refine lv_aload_n hx hb dX2_letJump_18 rfl (lv_at hl 1 rfl) ?_
  refine va_get (D := D) (ci := 2) (v := .ref (a 6)) (C := RX2) (T := TX2) (N := 13) hx hb hts hi_2 hown hK hP 0 rfl rfl 5 (by decide) hf_27 (fun _ h9 => h9) rfl dX2_letJump_19 ?_
  refine lv_iload_n hx hb dX2_letJump_22 rfl (lv_at hl 0 rfl) ?_
  refine lv_iconst (v := 1) hx hb dX2_letJump_23 (by decide) ?_
  refine lv_iadd hx hb dX2_letJump_24 ?_
  refine lv_aload_n hx hb dX2_letJump_25 rfl (lv_at hl 1 rfl) ?_
  refine va_get (D := D) (ci := 2) (v := .ref (a 3)) (C := RX2) (T := TX2) (N := 13) hx hb hts hi_2 hown hK hP 0 rfl rfl 2 (by decide) hf_18 (fun _ h9 => h9) rfl dX2_letJump_26 ?_
  refine lv_iconst (v := 0) hx hb dX2_letJump_29 (by decide) ?_
  refine va_iald (f := (jm_ja M)) hx hb hK hP 3 0 rfl rfl (jk_inC (by decide +kernel)) dX2_letJump_30 ?_
  refine W.eq (g2 := F0 m 31 ls [.int ((jm_ja M) 0), .int (x1 + 1), .ref (a 6)]) rfl ?_
  refine va_iast (f := f2) hx hb hK hP hD hS 6 0 rfl rfl (by subst_vars; exact jk_lg_in1 _) dX2_letJump_31 (fun H locs hP hD hS => ?_)
  obtain ⟨f3, ef3⟩ : ∃ z : Nat → Int32, z = (upd f2 (x1 + 1).toNatClampNeg ((jm_ja M) 0)) := ⟨_, rfl⟩
  rw [← ef3] at hP hD
  have hP : va_P D vwCl (jm_W g a (jm_ulo M f3)) H := hP
  have hD : va_D A (jm_W g a (jm_ulo M f3)) := hD
  refine lv_aload_n hx hb dX2_letJump_32 rfl (lv_at hl 1 rfl) ?_
  refine va_get (D := D) (ci := 2) (v := .ref (a 6)) (C := RX2) (T := TX2) (N := 13) hx hb hts hi_2 hown hK hP 0 rfl rfl 5 (by decide) hf_27 (fun _ h9 => h9) rfl dX2_letJump_33 ?_
  refine lv_iload_n hx hb dX2_letJump_36 rfl (lv_at hl 0 rfl) ?_
  refine lv_iconst (v := 2) hx hb dX2_letJump_37 (by decide) ?_
  refine lv_iadd hx hb dX2_letJump_38 ?_
  refine lv_aload_n hx hb dX2_letJump_39 rfl (lv_at hl 1 rfl) ?_
  refine va_get (D := D) (ci := 2) (v := .ref (a 3)) (C := RX2) (T := TX2) (N := 13) hx hb hts hi_2 hown hK hP 0 rfl rfl 2 (by decide) hf_18 (fun _ h9 => h9) rfl dX2_letJump_40 ?_
  refine lv_iconst (v := 1) hx hb dX2_letJump_43 (by decide) ?_
  refine va_iald (f := (jm_ja M)) hx hb hK hP 3 0 rfl rfl (jk_inC (by decide +kernel)) dX2_letJump_44 ?_
  refine W.eq (g2 := F0 m 45 ls [.int ((jm_ja M) 1), .int (x1 + 2), .ref (a 6)]) rfl ?_
  refine va_iast (f := f3) hx hb hK hP hD hS 6 0 rfl rfl (by subst_vars; exact jk_lg_in2 _) dX2_letJump_45 (fun H locs hP hD hS => ?_)
  obtain ⟨f4, ef4⟩ : ∃ z : Nat → Int32, z = (upd f3 (x1 + 2).toNatClampNeg ((jm_ja M) 1)) := ⟨_, rfl⟩
  rw [← ef4] at hP hD
  have hP : va_P D vwCl (jm_W g a (jm_ulo M f4)) H := hP
  have hD : va_D A (jm_W g a (jm_ulo M f4)) := hD
  refine lv_aload_n hx hb dX2_letJump_46 rfl (lv_at hl 1 rfl) ?_
  refine lv_dup hx hb dX2_letJump_47 rfl ?_
  refine va_get (D := D) (ci := 2) (v := .int (jm_sp M)) (C := RX2) (T := TX2) (N := 13) hx hb hts hi_2 hown hK hP 0 rfl rfl 7 (by decide) hf_38 (fun _ h9 => h9) rfl dX2_letJump_48 ?_
  refine lv_iconst (v := 1) hx hb dX2_letJump_51 (by decide) ?_
  refine lv_iadd hx hb dX2_letJump_52 ?_
  refine va_put (D := D) (ci := 2) (v := .int ((jm_sp M) + 1)) (ty := .int) (C := RX2) (T := TX2) (N := 13) hx hb hts hi_2 tyX2 tyX2_ok nmX2 hown hK hP hD hS 0 rfl rfl 7 (by decide) hf_38 (fun _ h9 => h9) rfl (by decide +kernel) rfl rfl (Nat.le_of_ble_eq_true rfl) dX2_letJump_53 (fun H locs hP hD hS => ?_)
  have hP : va_P D vwCl (jm_W g a (jm_usp (jm_ulo M f4) ((jm_sp M) + 1))) H := hP
  have hD : va_D A (jm_W g a (jm_usp (jm_ulo M f4) ((jm_sp M) + 1))) := hD
  refine lv_aload_n hx hb dX2_letJump_56 rfl (lv_at hl 1 rfl) ?_
  refine va_get (D := D) (ci := 2) (v := .ref (a 3)) (C := RX2) (T := TX2) (N := 13) hx hb hts hi_2 hown hK hP 0 rfl rfl 2 (by decide) hf_18 (fun _ h9 => h9) rfl dX2_letJump_57 ?_
  refine lv_iconst (v := 0) hx hb dX2_letJump_60 (by decide) ?_
  refine va_iald (f := (jm_ja M)) hx hb hK hP 3 0 rfl rfl (jk_inC (by decide +kernel)) dX2_letJump_61 ?_
  refine W.eq (g2 := F0 m 62 ls [.int ((jm_ja M) 0)]) rfl ?_
  refine lv_aload_n hx hb dX2_letJump_62 rfl (lv_at hl 1 rfl) ?_
  refine va_get (D := D) (ci := 2) (v := .ref (a 3)) (C := RX2) (T := TX2) (N := 13) hx hb hts hi_2 hown hK hP 0 rfl rfl 2 (by decide) hf_18 (fun _ h9 => h9) rfl dX2_letJump_63 ?_
  refine lv_iconst (v := 1) hx hb dX2_letJump_66 (by decide) ?_
  refine va_iald (f := (jm_ja M)) hx hb hK hP 3 0 rfl rfl (jk_inC (by decide +kernel)) dX2_letJump_67 ?_
  refine W.eq (g2 := F0 m 68 ls [.int ((jm_ja M) 1), .int ((jm_ja M) 0)]) rfl ?_
  refine lv_iadd hx hb dX2_letJump_68 ?_
  refine lv_topi (fun x5 ex5 => ?_)
  refine lv_istore_n (lv' := [(2, .int x5), (1, .int x1), (0, .ref (a 0))]) hx hb dX2_letJump_69 rfl hl (by decide) rfl (fun ls hl => ?_)
  refine lv_iload_n hx hb dX2_letJump_70 rfl (lv_at hl 0 rfl) ?_
  refine lv_iconst (v := 2) hx hb dX2_letJump_71 (by decide) ?_
  refine lv_idiv hx hb dX2_letJump_72 (by decide) ?_
  refine lv_istore_n (lv' := [(3, .int (x5 / 2)), (2, .int x5), (1, .int x1), (0, .ref (a 0))]) hx hb dX2_letJump_73 rfl hl (by decide) rfl (fun ls hl => ?_)
  refine lv_aload_n hx hb dX2_letJump_74 rfl (lv_at hl 3 rfl) ?_
  refine va_get (D := D) (ci := 2) (v := .ref (a 3)) (C := RX2) (T := TX2) (N := 13) hx hb hts hi_2 hown hK hP 0 rfl rfl 2 (by decide) hf_18 (fun _ h9 => h9) rfl dX2_letJump_75 ?_
  refine lv_iconst (v := 0) hx hb dX2_letJump_78 (by decide) ?_
  refine lv_iload_n hx hb dX2_letJump_79 rfl (lv_at hl 0 rfl) ?_
  refine lv_aload_n hx hb dX2_letJump_80 rfl (lv_at hl 3 rfl) ?_
  refine va_get (D := D) (ci := 2) (v := .ref (a 3)) (C := RX2) (T := TX2) (N := 13) hx hb hts hi_2 hown hK hP 0 rfl rfl 2 (by decide) hf_18 (fun _ h9 => h9) rfl dX2_letJump_81 ?_
  refine lv_iconst (v := 0) hx hb dX2_letJump_84 (by decide) ?_
  refine va_iald (f := (jm_ja M)) hx hb hK hP 3 0 rfl rfl (jk_inC (by decide +kernel)) dX2_letJump_85 ?_
  refine W.eq (g2 := F0 m 86 ls [.int ((jm_ja M) 0), .int (x5 / 2), .int 0, .ref (a 3)]) rfl ?_
  refine lv_iload_n hx hb dX2_letJump_86 rfl (lv_at hl 0 rfl) ?_
  refine lv_isub hx hb dX2_letJump_87 ?_
  refine lv_aload_n hx hb dX2_letJump_88 rfl (lv_at hl 3 rfl) ?_
  refine va_get (D := D) (ci := 2) (v := .ref (a 1)) (C := RX2) (T := TX2) (N := 13) hx hb hts hi_2 hown hK hP 0 rfl rfl 0 (by decide) hf_9 (fun _ h9 => h9) rfl dX2_letJump_89 ?_
  refine lv_iconst (v := 3) hx hb dX2_letJump_92 (by decide) ?_
  refine va_iald (f := (jm_se M)) hx hb hK hP 1 0 rfl rfl (jk_inC (by decide +kernel)) dX2_letJump_93 ?_
  refine W.eq (g2 := F0 m 94 ls [.int ((jm_se M) 3), .int (((jm_ja M) 0) - (x5 / 2)), .int (x5 / 2), .int 0, .ref (a 3)]) rfl ?_
  refine lv_imul hx hb dX2_letJump_94 ?_
  refine lv_topi (fun x6 ex6 => ?_)
  refine lv_bipush (v := 100) hx hb dX2_letJump_95 (by decide) ?_
  refine lv_idiv hx hb dX2_letJump_97 (by decide) ?_
  refine lv_isub hx hb dX2_letJump_98 ?_
  refine va_iast (f := (jm_ja M)) hx hb hK hP hD hS 3 0 rfl rfl (jk_inC (by decide +kernel)) dX2_letJump_99 (fun H locs hP hD hS => ?_)
  have hP : va_P D vwCl (jm_W g a (jm_usp (jm_ulo (jm_uja M (upd (jm_ja M) 0 ((x5 / 2) - (x6 / 100)))) f4) ((jm_sp M) + 1))) H := hP
  have hD : va_D A (jm_W g a (jm_usp (jm_ulo (jm_uja M (upd (jm_ja M) 0 ((x5 / 2) - (x6 / 100)))) f4) ((jm_sp M) + 1))) := hD
  refine lv_aload_n hx hb dX2_letJump_100 rfl (lv_at hl 3 rfl) ?_
  refine va_get (D := D) (ci := 2) (v := .ref (a 3)) (C := RX2) (T := TX2) (N := 13) hx hb hts hi_2 hown hK hP 0 rfl rfl 2 (by decide) hf_18 (fun _ h9 => h9) rfl dX2_letJump_101 ?_
  refine lv_iconst (v := 1) hx hb dX2_letJump_104 (by decide) ?_
  refine lv_iload_n hx hb dX2_letJump_105 rfl (lv_at hl 1 rfl) ?_
  refine lv_aload_n hx hb dX2_letJump_106 rfl (lv_at hl 3 rfl) ?_
  refine va_get (D := D) (ci := 2) (v := .ref (a 3)) (C := RX2) (T := TX2) (N := 13) hx hb hts hi_2 hown hK hP 0 rfl rfl 2 (by decide) hf_18 (fun _ h9 => h9) rfl dX2_letJump_107 ?_
  refine lv_iconst (v := 0) hx hb dX2_letJump_110 (by decide) ?_
  refine va_iald (f := (upd (jm_ja M) 0 ((x5 / 2) - (x6 / 100)))) hx hb hK hP 3 0 rfl rfl (jk_inC (by decide +kernel)) dX2_letJump_111 ?_
  refine W.eq (g2 := F0 m 112 ls [.int ((x5 / 2) - (x6 / 100)), .int x5, .int 1, .ref (a 3)]) rfl ?_
  refine lv_isub hx hb dX2_letJump_112 ?_
  refine lv_topi (fun x7 ex7 => ?_)
  refine va_iast (f := (upd (jm_ja M) 0 ((x5 / 2) - (x6 / 100)))) hx hb hK hP hD hS 3 0 rfl rfl (jk_inC (by decide +kernel)) dX2_letJump_113 (fun H locs hP hD hS => ?_)
  have hP : va_P D vwCl (jm_W g a (jm_usp (jm_ulo (jm_uja M (upd (upd (jm_ja M) 0 ((x5 / 2) - (x6 / 100))) 1 x7)) f4) ((jm_sp M) + 1))) H := hP
  have hD : va_D A (jm_W g a (jm_usp (jm_ulo (jm_uja M (upd (upd (jm_ja M) 0 ((x5 / 2) - (x6 / 100))) 1 x7)) f4) ((jm_sp M) + 1))) := hD
  subst ex7
  subst ex6
  subst ex5
  subst ef4
  subst ef3
  subst ef2
  subst ex1
  exact jk_vret hx hb hr hlocks hP hS (congrArg (fun z => (jm_W g a z)) ((rfl).symm)) dX2_letJump_114

def sX2_noteSign (M : jm_T) : jm_T := let x1 : Int32 := rX2_sign M; if x1 = 0 then (M) else (if x1 = (-(jm_ls M)) then ((jm_uls (jm_urv M ((jm_rv M) + 1)) x1)) else ((jm_uls M x1)))
def rX2_chargeOfAll (M : jm_T) : Int32 := let x1 : Int32 := lp_sum (jm_ch M) (rX2_firstIndexOf (0 : Int32)) 12; let x2 : Int32 := lp_sum (jm_ch M) (rX2_firstIndexOf (1 : Int32)) 12; let x3 : Int32 := ((x1 + x2) + ((jm_ja M) 0)) + ((jm_ja M) 1); x3
def sX2_turnAheadOfSpark (M : jm_T) : jm_T := let S1 : jm_T := sX2_join_0 (jm_utu M ((jm_tu M) + 1)); let S2 : jm_T := sX2_join_1 S1; let S3 : jm_T := sX2_gather_0 S2; let S4 : jm_T := sX2_gather_1 S3; let S5 : jm_T := lp_lk S4 24; let S6 : jm_T := sX2_leakFromJar_0 S5; let S7 : jm_T := sX2_leakFromJar_1 S6; S7
def sX2_turnOnce (M : jm_T) : jm_T := let S1 : jm_T := sX2_turnAheadOfSpark M; let x2 : Int32 := rX2_isSparkDue S1; if x2 = 0 then (let S4 : jm_T := sX2_noteSign S1; S4) else (let S5 : jm_T := sX2_letJump S1; let S6 : jm_T := sX2_noteSign S5; S6)
end
