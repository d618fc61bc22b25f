section
-- ===== PART A: goes FIRST, ahead of the names: the tables' words, and 'selects' of the private methods out of them =====
/-- a private method of a class that the tables say can be made, by its rows of tables_1 -/
def lw_okq (q : MethodName × Nat) : Prop := (q.1.cls ≠ "java/lang/invoke/MethodHandle" ∧ q.1.cls ≠ "java/lang/invoke/VarHandle") ∧ Cond.instantiable q.1.cls q.2 ∈ tables_1 ∧ Cond.privateMethod q.1 ∈ tables_1 ∧ Cond.instanceMethod q.1 ∈ tables_1
theorem lw_p0 : lw_okq (⟨"java/lang/Throwable", "fillInStackTrace", "(I)Ljava/lang/Throwable;"⟩, 6) := ⟨⟨by decide +kernel, by decide +kernel⟩, List.mem_of_getElem? (i := 92) (by decide +kernel), List.mem_of_getElem? (i := 90) (by decide +kernel), List.mem_of_getElem? (i := 91) (by decide +kernel)⟩
theorem lw_p1 : lw_okq (⟨"Twotimes", "draftSpan", "(IIII)V"⟩, 4) := ⟨⟨by decide +kernel, by decide +kernel⟩, List.mem_of_getElem? (i := 12) (by decide +kernel), List.mem_of_getElem? (i := 132) (by decide +kernel), List.mem_of_getElem? (i := 133) (by decide +kernel)⟩
theorem lw_p2 : lw_okq (⟨"Twotimes", "knownOn", "(III)I"⟩, 4) := ⟨⟨by decide +kernel, by decide +kernel⟩, List.mem_of_getElem? (i := 12) (by decide +kernel), List.mem_of_getElem? (i := 136) (by decide +kernel), List.mem_of_getElem? (i := 137) (by decide +kernel)⟩
theorem lw_p3 : lw_okq (⟨"Twotimes", "recordDraft", "(II)I"⟩, 4) := ⟨⟨by decide +kernel, by decide +kernel⟩, List.mem_of_getElem? (i := 12) (by decide +kernel), List.mem_of_getElem? (i := 143) (by decide +kernel), List.mem_of_getElem? (i := 144) (by decide +kernel)⟩
theorem lw_p4 : lw_okq (⟨"Twotimes", "draftKeepsReferences", "(II)Z"⟩, 4) := ⟨⟨by decide +kernel, by decide +kernel⟩, List.mem_of_getElem? (i := 12) (by decide +kernel), List.mem_of_getElem? (i := 147) (by decide +kernel), List.mem_of_getElem? (i := 148) (by decide +kernel)⟩
theorem lw_p5 : lw_okq (⟨"Twotimes", "isReferredTo", "(II)Z"⟩, 4) := ⟨⟨by decide +kernel, by decide +kernel⟩, List.mem_of_getElem? (i := 12) (by decide +kernel), List.mem_of_getElem? (i := 151) (by decide +kernel), List.mem_of_getElem? (i := 152) (by decide +kernel)⟩
theorem lw_p6 : lw_okq (⟨"Twotimes", "recordToday", "(III)V"⟩, 4) := ⟨⟨by decide +kernel, by decide +kernel⟩, List.mem_of_getElem? (i := 12) (by decide +kernel), List.mem_of_getElem? (i := 171) (by decide +kernel), List.mem_of_getElem? (i := 172) (by decide +kernel)⟩
theorem lw_p7 : lw_okq (⟨"Twotimes", "loseWithReferences", "(II)I"⟩, 4) := ⟨⟨by decide +kernel, by decide +kernel⟩, List.mem_of_getElem? (i := 12) (by decide +kernel), List.mem_of_getElem? (i := 189) (by decide +kernel), List.mem_of_getElem? (i := 190) (by decide +kernel)⟩
theorem lw_p8 : lw_okq (⟨"Twotimes", "lose", "(II)I"⟩, 4) := ⟨⟨by decide +kernel, by decide +kernel⟩, List.mem_of_getElem? (i := 12) (by decide +kernel), List.mem_of_getElem? (i := 193) (by decide +kernel), List.mem_of_getElem? (i := 194) (by decide +kernel)⟩
theorem lw_p9 : lw_okq (⟨"Twotimes", "needRecord", "(I)V"⟩, 4) := ⟨⟨by decide +kernel, by decide +kernel⟩, List.mem_of_getElem? (i := 12) (by decide +kernel), List.mem_of_getElem? (i := 205) (by decide +kernel), List.mem_of_getElem? (i := 206) (by decide +kernel)⟩
theorem lw_p10 : lw_okq (⟨"Twotimes", "draftRecord", "(II)V"⟩, 4) := ⟨⟨by decide +kernel, by decide +kernel⟩, List.mem_of_getElem? (i := 12) (by decide +kernel), List.mem_of_getElem? (i := 225) (by decide +kernel), List.mem_of_getElem? (i := 226) (by decide +kernel)⟩
theorem lw_p11 : lw_okq (⟨"Twotimes", "keepOn", "(II)V"⟩, 4) := ⟨⟨by decide +kernel, by decide +kernel⟩, List.mem_of_getElem? (i := 12) (by decide +kernel), List.mem_of_getElem? (i := 238) (by decide +kernel), List.mem_of_getElem? (i := 239) (by decide +kernel)⟩
theorem lw_p12 : lw_okq (⟨"Twotimes", "copyDay", "(II)V"⟩, 4) := ⟨⟨by decide +kernel, by decide +kernel⟩, List.mem_of_getElem? (i := 12) (by decide +kernel), List.mem_of_getElem? (i := 242) (by decide +kernel), List.mem_of_getElem? (i := 243) (by decide +kernel)⟩
theorem lw_p13 : lw_okq (⟨"Twotimes", "joinedOn", "(III)I"⟩, 4) := ⟨⟨by decide +kernel, by decide +kernel⟩, List.mem_of_getElem? (i := 12) (by decide +kernel), List.mem_of_getElem? (i := 270) (by decide +kernel), List.mem_of_getElem? (i := 271) (by decide +kernel)⟩
theorem lw_p14 : lw_okq (⟨"Twotimes", "startsRun", "(III)Z"⟩, 4) := ⟨⟨by decide +kernel, by decide +kernel⟩, List.mem_of_getElem? (i := 12) (by decide +kernel), List.mem_of_getElem? (i := 281) (by decide +kernel), List.mem_of_getElem? (i := 282) (by decide +kernel)⟩
theorem lw_p15 : lw_okq (⟨"Twotimes", "firstDayOfRun", "(III)I"⟩, 4) := ⟨⟨by decide +kernel, by decide +kernel⟩, List.mem_of_getElem? (i := 12) (by decide +kernel), List.mem_of_getElem? (i := 292) (by decide +kernel), List.mem_of_getElem? (i := 293) (by decide +kernel)⟩
def lw_privs_1 : List (MethodName × Nat) := [(⟨"java/lang/Throwable", "fillInStackTrace", "(I)Ljava/lang/Throwable;"⟩, 6), (⟨"Twotimes", "draftSpan", "(IIII)V"⟩, 4), (⟨"Twotimes", "knownOn", "(III)I"⟩, 4), (⟨"Twotimes", "recordDraft", "(II)I"⟩, 4), (⟨"Twotimes", "draftKeepsReferences", "(II)Z"⟩, 4), (⟨"Twotimes", "isReferredTo", "(II)Z"⟩, 4), (⟨"Twotimes", "recordToday", "(III)V"⟩, 4), (⟨"Twotimes", "loseWithReferences", "(II)I"⟩, 4), (⟨"Twotimes", "lose", "(II)I"⟩, 4), (⟨"Twotimes", "needRecord", "(I)V"⟩, 4), (⟨"Twotimes", "draftRecord", "(II)V"⟩, 4), (⟨"Twotimes", "keepOn", "(II)V"⟩, 4), (⟨"Twotimes", "copyDay", "(II)V"⟩, 4), (⟨"Twotimes", "joinedOn", "(III)I"⟩, 4), (⟨"Twotimes", "startsRun", "(III)Z"⟩, 4), (⟨"Twotimes", "firstDayOfRun", "(III)I"⟩, 4)]
theorem lw_r1 : ∀ q ∈ lw_privs_1, lw_okq q := List.forall_mem_cons.mpr ⟨lw_p0, List.forall_mem_cons.mpr ⟨lw_p1, List.forall_mem_cons.mpr ⟨lw_p2, List.forall_mem_cons.mpr ⟨lw_p3, List.forall_mem_cons.mpr ⟨lw_p4, List.forall_mem_cons.mpr ⟨lw_p5, List.forall_mem_cons.mpr ⟨lw_p6, List.forall_mem_cons.mpr ⟨lw_p7, List.forall_mem_cons.mpr ⟨lw_p8, List.forall_mem_cons.mpr ⟨lw_p9, List.forall_mem_cons.mpr ⟨lw_p10, List.forall_mem_cons.mpr ⟨lw_p11, List.forall_mem_cons.mpr ⟨lw_p12, List.forall_mem_cons.mpr ⟨lw_p13, List.forall_mem_cons.mpr ⟨lw_p14, List.forall_mem_cons.mpr ⟨lw_p15, fun _ h => absurd h List.not_mem_nil⟩⟩⟩⟩⟩⟩⟩⟩⟩⟩⟩⟩⟩⟩⟩⟩
theorem lw_p16 : lw_okq (⟨"Twotimes", "runNumber", "(III)I"⟩, 4) := ⟨⟨by decide +kernel, by decide +kernel⟩, List.mem_of_getElem? (i := 12) (by decide +kernel), List.mem_of_getElem? (i := 297) (by decide +kernel), List.mem_of_getElem? (i := 298) (by decide +kernel)⟩
theorem lw_p17 : lw_okq (⟨"Twotimes", "endOfRun", "(III)I"⟩, 4) := ⟨⟨by decide +kernel, by decide +kernel⟩, List.mem_of_getElem? (i := 12) (by decide +kernel), List.mem_of_getElem? (i := 301) (by decide +kernel), List.mem_of_getElem? (i := 302) (by decide +kernel)⟩
theorem lw_p18 : lw_okq (⟨"Twotimes", "startsJoinedRun", "(III)Z"⟩, 4) := ⟨⟨by decide +kernel, by decide +kernel⟩, List.mem_of_getElem? (i := 12) (by decide +kernel), List.mem_of_getElem? (i := 312) (by decide +kernel), List.mem_of_getElem? (i := 313) (by decide +kernel)⟩
theorem lw_p19 : lw_okq (⟨"Twotimes", "isKept", "(I)Z"⟩, 4) := ⟨⟨by decide +kernel, by decide +kernel⟩, List.mem_of_getElem? (i := 12) (by decide +kernel), List.mem_of_getElem? (i := 323) (by decide +kernel), List.mem_of_getElem? (i := 324) (by decide +kernel)⟩
theorem lw_p20 : lw_okq (⟨"Twotimes", "startsRow", "(III)Z"⟩, 4) := ⟨⟨by decide +kernel, by decide +kernel⟩, List.mem_of_getElem? (i := 12) (by decide +kernel), List.mem_of_getElem? (i := 327) (by decide +kernel), List.mem_of_getElem? (i := 328) (by decide +kernel)⟩
theorem lw_p21 : lw_okq (⟨"Twotimes", "sameRun", "(IIII)Z"⟩, 4) := ⟨⟨by decide +kernel, by decide +kernel⟩, List.mem_of_getElem? (i := 12) (by decide +kernel), List.mem_of_getElem? (i := 331) (by decide +kernel), List.mem_of_getElem? (i := 332) (by decide +kernel)⟩
theorem lw_p22 : lw_okq (⟨"Twotimes", "startOfRow", "(II)I"⟩, 4) := ⟨⟨by decide +kernel, by decide +kernel⟩, List.mem_of_getElem? (i := 12) (by decide +kernel), List.mem_of_getElem? (i := 342) (by decide +kernel), List.mem_of_getElem? (i := 343) (by decide +kernel)⟩
theorem lw_p23 : lw_okq (⟨"TwotimesModel", "mayAll", "(IIIII)Z"⟩, 6) := ⟨⟨by decide +kernel, by decide +kernel⟩, List.mem_of_getElem? (i := 393) (by decide +kernel), List.mem_of_getElem? (i := 439) (by decide +kernel), List.mem_of_getElem? (i := 440) (by decide +kernel)⟩
theorem lw_p24 : lw_okq (⟨"TwotimesModel", "may", "(IIII)Z"⟩, 6) := ⟨⟨by decide +kernel, by decide +kernel⟩, List.mem_of_getElem? (i := 393) (by decide +kernel), List.mem_of_getElem? (i := 443) (by decide +kernel), List.mem_of_getElem? (i := 444) (by decide +kernel)⟩
theorem lw_p25 : lw_okq (⟨"TwotimesModel", "isReferred", "(II)Z"⟩, 6) := ⟨⟨by decide +kernel, by decide +kernel⟩, List.mem_of_getElem? (i := 393) (by decide +kernel), List.mem_of_getElem? (i := 447) (by decide +kernel), List.mem_of_getElem? (i := 448) (by decide +kernel)⟩
theorem lw_p26 : lw_okq (⟨"TwotimesModel", "of", "(IIII)I"⟩, 6) := ⟨⟨by decide +kernel, by decide +kernel⟩, List.mem_of_getElem? (i := 393) (by decide +kernel), List.mem_of_getElem? (i := 451) (by decide +kernel), List.mem_of_getElem? (i := 452) (by decide +kernel)⟩
theorem lw_p27 : lw_okq (⟨"TwotimesModel", "holds", "(I)Z"⟩, 6) := ⟨⟨by decide +kernel, by decide +kernel⟩, List.mem_of_getElem? (i := 393) (by decide +kernel), List.mem_of_getElem? (i := 458) (by decide +kernel), List.mem_of_getElem? (i := 459) (by decide +kernel)⟩
theorem lw_p28 : lw_okq (⟨"TwotimesModel", "setsAll", "(IIIII)I"⟩, 6) := ⟨⟨by decide +kernel, by decide +kernel⟩, List.mem_of_getElem? (i := 393) (by decide +kernel), List.mem_of_getElem? (i := 462) (by decide +kernel), List.mem_of_getElem? (i := 463) (by decide +kernel)⟩
theorem lw_p29 : lw_okq (⟨"TwotimesModel", "sets", "(IIII)I"⟩, 6) := ⟨⟨by decide +kernel, by decide +kernel⟩, List.mem_of_getElem? (i := 393) (by decide +kernel), List.mem_of_getElem? (i := 466) (by decide +kernel), List.mem_of_getElem? (i := 467) (by decide +kernel)⟩
theorem lw_p30 : lw_okq (⟨"TwotimesModel", "errorOfRecord", "(ZI)I"⟩, 6) := ⟨⟨by decide +kernel, by decide +kernel⟩, List.mem_of_getElem? (i := 393) (by decide +kernel), List.mem_of_getElem? (i := 482) (by decide +kernel), List.mem_of_getElem? (i := 483) (by decide +kernel)⟩
theorem lw_p31 : lw_okq (⟨"TwotimesModel", "joinedOf", "(III)I"⟩, 6) := ⟨⟨by decide +kernel, by decide +kernel⟩, List.mem_of_getElem? (i := 393) (by decide +kernel), List.mem_of_getElem? (i := 506) (by decide +kernel), List.mem_of_getElem? (i := 507) (by decide +kernel)⟩
def lw_privs_2 : List (MethodName × Nat) := [(⟨"Twotimes", "runNumber", "(III)I"⟩, 4), (⟨"Twotimes", "endOfRun", "(III)I"⟩, 4), (⟨"Twotimes", "startsJoinedRun", "(III)Z"⟩, 4), (⟨"Twotimes", "isKept", "(I)Z"⟩, 4), (⟨"Twotimes", "startsRow", "(III)Z"⟩, 4), (⟨"Twotimes", "sameRun", "(IIII)Z"⟩, 4), (⟨"Twotimes", "startOfRow", "(II)I"⟩, 4), (⟨"TwotimesModel", "mayAll", "(IIIII)Z"⟩, 6), (⟨"TwotimesModel", "may", "(IIII)Z"⟩, 6), (⟨"TwotimesModel", "isReferred", "(II)Z"⟩, 6), (⟨"TwotimesModel", "of", "(IIII)I"⟩, 6), (⟨"TwotimesModel", "holds", "(I)Z"⟩, 6), (⟨"TwotimesModel", "setsAll", "(IIIII)I"⟩, 6), (⟨"TwotimesModel", "sets", "(IIII)I"⟩, 6), (⟨"TwotimesModel", "errorOfRecord", "(ZI)I"⟩, 6), (⟨"TwotimesModel", "joinedOf", "(III)I"⟩, 6)]
theorem lw_r2 : ∀ q ∈ lw_privs_2, lw_okq q := List.forall_mem_cons.mpr ⟨lw_p16, List.forall_mem_cons.mpr ⟨lw_p17, List.forall_mem_cons.mpr ⟨lw_p18, List.forall_mem_cons.mpr ⟨lw_p19, List.forall_mem_cons.mpr ⟨lw_p20, List.forall_mem_cons.mpr ⟨lw_p21, List.forall_mem_cons.mpr ⟨lw_p22, List.forall_mem_cons.mpr ⟨lw_p23, List.forall_mem_cons.mpr ⟨lw_p24, List.forall_mem_cons.mpr ⟨lw_p25, List.forall_mem_cons.mpr ⟨lw_p26, List.forall_mem_cons.mpr ⟨lw_p27, List.forall_mem_cons.mpr ⟨lw_p28, List.forall_mem_cons.mpr ⟨lw_p29, List.forall_mem_cons.mpr ⟨lw_p30, List.forall_mem_cons.mpr ⟨lw_p31, fun _ h => absurd h List.not_mem_nil⟩⟩⟩⟩⟩⟩⟩⟩⟩⟩⟩⟩⟩⟩⟩⟩
theorem lw_p32 : lw_okq (⟨"TwotimesModel", "runsOf", "(III)I"⟩, 6) := ⟨⟨by decide +kernel, by decide +kernel⟩, List.mem_of_getElem? (i := 393) (by decide +kernel), List.mem_of_getElem? (i := 514) (by decide +kernel), List.mem_of_getElem? (i := 515) (by decide +kernel)⟩
theorem lw_p33 : lw_okq (⟨"TwotimesModel", "begins", "(IIII)Z"⟩, 6) := ⟨⟨by decide +kernel, by decide +kernel⟩, List.mem_of_getElem? (i := 393) (by decide +kernel), List.mem_of_getElem? (i := 518) (by decide +kernel), List.mem_of_getElem? (i := 519) (by decide +kernel)⟩
theorem lw_p34 : lw_okq (⟨"TwotimesModel", "told", "(IIII)I"⟩, 6) := ⟨⟨by decide +kernel, by decide +kernel⟩, List.mem_of_getElem? (i := 393) (by decide +kernel), List.mem_of_getElem? (i := 526) (by decide +kernel), List.mem_of_getElem? (i := 527) (by decide +kernel)⟩
theorem lw_p35 : lw_okq (⟨"TwotimesModel", "end", "(IIII)I"⟩, 6) := ⟨⟨by decide +kernel, by decide +kernel⟩, List.mem_of_getElem? (i := 393) (by decide +kernel), List.mem_of_getElem? (i := 530) (by decide +kernel), List.mem_of_getElem? (i := 531) (by decide +kernel)⟩
theorem lw_p36 : lw_okq (⟨"TwotimesModel", "rowsOf", "(III)I"⟩, 6) := ⟨⟨by decide +kernel, by decide +kernel⟩, List.mem_of_getElem? (i := 393) (by decide +kernel), List.mem_of_getElem? (i := 542) (by decide +kernel), List.mem_of_getElem? (i := 543) (by decide +kernel)⟩
theorem lw_p37 : lw_okq (⟨"TwotimesModel", "errorOfRow", "(III)I"⟩, 6) := ⟨⟨by decide +kernel, by decide +kernel⟩, List.mem_of_getElem? (i := 393) (by decide +kernel), List.mem_of_getElem? (i := 550) (by decide +kernel), List.mem_of_getElem? (i := 551) (by decide +kernel)⟩
def lw_privs_3 : List (MethodName × Nat) := [(⟨"TwotimesModel", "runsOf", "(III)I"⟩, 6), (⟨"TwotimesModel", "begins", "(IIII)Z"⟩, 6), (⟨"TwotimesModel", "told", "(IIII)I"⟩, 6), (⟨"TwotimesModel", "end", "(IIII)I"⟩, 6), (⟨"TwotimesModel", "rowsOf", "(III)I"⟩, 6), (⟨"TwotimesModel", "errorOfRow", "(III)I"⟩, 6)]
theorem lw_r3 : ∀ q ∈ lw_privs_3, lw_okq q := List.forall_mem_cons.mpr ⟨lw_p32, List.forall_mem_cons.mpr ⟨lw_p33, List.forall_mem_cons.mpr ⟨lw_p34, List.forall_mem_cons.mpr ⟨lw_p35, List.forall_mem_cons.mpr ⟨lw_p36, List.forall_mem_cons.mpr ⟨lw_p37, fun _ h => absurd h List.not_mem_nil⟩⟩⟩⟩⟩⟩
def lw_privs : List (MethodName × Nat) := lw_privs_1 ++ (lw_privs_2 ++ (lw_privs_3))
def lw_tbl : List Cond := k2_sels lw_privs ++ tables_1
theorem lw_privs_ok : ∀ q ∈ lw_privs, lw_okq q := by
  show ∀ q ∈ lw_privs_1 ++ (lw_privs_2 ++ (lw_privs_3)), lw_okq q
  exact List.forall_mem_append.mpr ⟨lw_r1, List.forall_mem_append.mpr ⟨lw_r2, lw_r3⟩⟩
/-- the streams that the claim lets the run draw from -/
abbrev lw_cs : List Choice := [Jvm.Choice.named "NaN.bits"]
theorem lw_bits : nanBits ∈ lw_cs := by first | decide | exact List.mem_cons_self | simp [lw_cs, nanBits]
end
section
/-! ===== BEGIN words of one list among another's, by their places ===== -/
theorem goodIn_r {big : List Cond} (ws : List Cond) (ps : List Nat) (hp : ws = ps.filterMap (fun i => big[i]?)) (h : ws.all goodWord = true) : GoodIn big ws := by
  intro w hw
  have h1 := List.all_eq_true.mp h w hw
  rw [hp] at hw
  obtain ⟨i, -, hi⟩ := List.mem_filterMap.mp hw
  have hm : w ∈ big := by first | exact List.mem_of_getElem? hi | exact List.getElem?_mem hi
  exact ⟨hm, good_of_word h1⟩
theorem goodIn_app {big a b : List Cond} (ha : GoodIn big a) (hb : GoodIn big b) : GoodIn big (a ++ b) := fun w h => (List.mem_append.mp h).elim (ha w) (hb w)
theorem goodIn_ca {big a b : List Cond} {c : Cond} (ha : GoodIn big (c :: a)) (hb : GoodIn big b) : GoodIn big (c :: (a ++ b)) := fun w h => (List.mem_cons.mp h).elim (fun e => ha w (List.mem_cons.mpr (Or.inl e))) (fun h => (List.mem_append.mp h).elim (fun h => ha w (List.mem_cons.mpr (Or.inr h))) (hb w))
theorem goodIn_sub {big ws : List Cond} (hm : ∀ w ∈ ws, w ∈ big) (h : ws.all goodWord = true) : GoodIn big ws := fun w hw => ⟨hm w hw, good_of_word (List.all_eq_true.mp h w hw)⟩
/-! ===== END ===== -/

/-! ===== BEGIN exceptions that leave a method, and their catching by the caller (launches without stack traces) ===== -/
section VXA
/-! The laws vx_back, vx_callV, vx_callS, vx_callSW, vx_throw0, vx_throwS follow proofs of the library, with one case more: JvmDerived/Free/Laws.lean (Back.of_free), Shelf42/LK1.lean (callV, callS), Shelf/KitTraced.lean (throwNew0V, throwNewS). -/
/-- where a method has thrown q: the class by its name, the cell, what was written, the world -/
def vx_T (XC : String → State → State → Prop) (st : State) (q : Addr) (t : State) (mc ms : Nat) (free : Addr → Prop) : Prop :=
  ∃ (E : String) (ce : Cell) (L : List Loc), XC E st t ∧ t.heap[q]? = some ce ∧ ce.vm = .none ∧ st.vm.findClass E = some ce.cls ∧ st.WarmedH t.vm ∧ st.sameButNew ({ t with vm := st.vm } : State) L mc ms ∧ ∀ z ∈ L, free z.base
def vx_Q (Qc : Array Value → State → Outcome → State → Prop) (XC : String → State → State → Prop) (mc ms : Nat) (free : Addr → Prop) : Array Value → State → Outcome → State → Prop := fun a st o t =>
  (Qc a st o t ∧ ∃ L, FrameEnd st o t L mc ms ∧ ∀ q ∈ L, free q.base) ∨ ∃ q, o = .threw q ∧ vx_T XC st q t mc ms free
/-- a callee that returns or throws -/
def vx_Met (l : Launch) (y : MethodName) (ws : List Cond) (rm : Room) (Pc : Array Value → State → Prop) (Qc : Array Value → State → Outcome → State → Prop) (XC : String → State → State → Prop) (mc ms : Nat) (free : Addr → Prop) : Prop :=
  MetFree l y (headSpec ws rm) Pc (fun _ _ _ _ _ => True) (vx_Q Qc XC mc ms free)
def vx_Post (XC : String → State → State → Prop) (mc ms : Nat) (free : Addr → Prop) : Pt → Array Value → Addr → Pt → Prop := fun A a q B =>
  ∃ (g : JFrame) (mk : MethodId) (t : State) (L : List Loc) (E : String) (ce : Cell), B.U.heap = t.heap ∧ B.U.vm = t.vm ∧ XC E (A.U.calling g mk a) t ∧ t.heap[q]? = some ce ∧ ce.vm = .none ∧ A.U.vm.findClass E = some ce.cls ∧ B.locs = A.locs ++ L ∧ (∀ z ∈ L, free z.base) ∧ B.cells = A.cells + mc ∧ B.slots = A.slots + ms
def vx_Back (l : Launch) (R : Room) (p : Program) (e : Env) (below : List Frame) (s : State) (sargs : Array Value) (y : MethodName) (len W9 : Nat)
    (Pre : Pt → Array Value → Prop) (Post : Pt → Array Value → Option Value → Pt → Prop) (PostX : Pt → Array Value → Addr → Pt → Prop) : Prop :=
  ∀ (m : MethodId) (meth : Method) (c : Code) (A : Pt) (g : JFrame) (ig : Instr) (mk : MethodId) (a : Array Value),
    Stand p l e R s m sargs below meth c A.U A.locs A.cells A.slots → g.method = m → g.locals.size = c.maxLocals → decode c.code g.pc = .ok (ig, len) →
    2 * g.monitorRoom + (g.stack.map fun v => v.category).sum ≤ W9 → A.U.methodNamed? y = some mk → Pre A a →
    (∃ (v : Option Value) (B : Pt), Stand p l e R s m sargs below meth c B.U B.locs B.cells B.slots ∧ Post A a v B ∧
      Steps p.tables e below (doInvoke e (A.U.setTop g) [] mk a).1 (B.U.setTop { g with pc := g.pc + len, stack := v.toList ++ g.stack })) ∨
    (∃ (q : Addr) (B : Pt), Stand p l e R s m sargs below meth c B.U B.locs B.cells B.slots ∧ PostX A a q B ∧
      Steps p.tables e below (doInvoke e (A.U.setTop g) [] mk a).1 ((B.U.setTop g).pushFrame (.throwing q)))
section Payer
variable {l : Launch} {R : Room} {p : Program} {e : Env} {below : List Frame} {s : State} {sargs : Array Value} {y : MethodName} {len W9 : Nat}
theorem vx_back {ws : List Cond} {rm : Room} {Pc : Array Value → State → Prop} {Qc : Array Value → State → Outcome → State → Prop} {XC : String → State → State → Prop} {mc ms : Nat} {free : Addr → Prop} {bytes : ByteArray} {maxL : Nat} {ret : Option FieldType}
    (hM : vx_Met l y ws rm Pc Qc XC mc ms free) (hblind : FrameBlind Pc) (hrc : rm.cells = mc) (hrs : rm.slots = ms)
    (hframes : rm.frames + 1 ≤ R.frames) (hlocals : W9 + (maxL + 11) + rm.locals ≤ R.locals)
    (hws : ∀ w ∈ ws, ∀ a' U, s.WarmedH U.vm → w.before a' U = true) (hcode : Cond.code y bytes maxL ret ∈ ws) (hinit : ∀ a' U, s.WarmedH U.vm → (Cond.initialized y.cls).before a' U = true) :
    vx_Back l R p e below s sargs y len W9 (PreOf R mc ms Pc) (PostOf Qc mc ms free) (vx_Post XC mc ms free) := by
  intro m meth c A g ig mk a X hg hsize hdg hW hn hp
  have h1 : (headSpec ws rm).pre.before a A.U = true := atoms_intro fun w hw => hws w hw _ _ X.warmed
  have h2 : (Cond.code y bytes maxL ret).before a A.U = true := hws _ hcode _ _ X.warmed
  have h3 : (Cond.initialized y.cls).before a A.U = true := hinit _ _ X.warmed
  have h4 : A.cells + (headSpec ws rm).room.cells ≤ R.cells := by rw [show (headSpec ws rm).room.cells = mc from hrc]; exact hp.1
  have h5 : A.slots + (headSpec ws rm).room.slots ≤ R.slots := by rw [show (headSpec ws rm).room.slots = ms from hrs]; exact hp.2.1
  have hPc : Pc a (A.U.calling g mk a) := hblind _ _ _ _ hp.2.2
  obtain ⟨U, Ls, c0, s0⟩ := A
  dsimp only [Pt.U, Pt.locs, Pt.cells, Pt.slots] at h1 h2 h3 h4 h5 X hn hPc ⊢
  obtain ⟨methY, cY, hmY, hcY, -, hlY, -, -, -, -⟩ := Cond.code_spec hn h2
  obtain ⟨kY, hkY, -⟩ := className_of_methodNamed hn
  have hinitY : kY.init = .initialized := Cond.initialized_spec (findClass_of_methodNamed hn) hkY h3
  have h : At U g.method c below := by rw [hg]; exact X.here
  have hlocals9 : W9 + (maxL + 11) + (headSpec ws rm).room.locals ≤ R.locals := hlocals
  have happ : (headSpec ws rm).appliesLoose y e.platform (U.calling g mk a) = true :=
    Spec.appliesLoose_calling (g := g) h hdg hn hkY hinitY
      (X.room_calling (g := g) (R' := (headSpec ws rm).room) hsize hmY hcY hframes (by rw [hlY]; omega) h4 h5) h1
  obtain ⟨mid, hmid⟩ := h.above
  have hfr : (U.setTop g).frames = (.java g :: mid) ++ below := by rw [State.frames_setTop' g h.top, hmid]; rfl
  obtain ⟨o, s₂, hsteps, -, hend, hq⟩ := Steps.callFree hM p X.admits X.cas X.clock (acts := []) hfr happ hPc trivial
  have hq' : vx_Q Qc XC mc ms free a (U.calling g mk a) o s₂ := hq
  rw [State.frames_setTop' g h.top] at hend
  obtain ⟨g₀, hg0⟩ := Option.isSome_iff_exists.mp h.top
  obtain ⟨r, hr⟩ := State.topJava?_eq_some.mp hg0
  have hr' : (({ U with heap := s₂.heap, slotsUsed := s₂.slotsUsed } : State).setVm s₂.vm).frames = .java g₀ :: r := hr
  rcases hq' with ⟨hqc, L, hfe, hL⟩ | ⟨q, rfl, E, ce, L, hx, hce, hcv, hcl, hW₂, hsm, hL⟩
  · obtain ⟨⟨v, rfl⟩, hW₂, e2, q2, q3, q4, q5, q6⟩ := id hfe
    have e3 : s₂ = ({ (U.calling g mk a).setFrames s₂.frames with heap := s₂.heap, slotsUsed := s₂.slotsUsed } : State).setVm s₂.vm := by
      have : s₂ = ({ s₂ with vm := (U.calling g mk a).vm } : State).setVm s₂.vm := rfl
      rw [e2] at this
      exact this
    obtain ⟨c₂, i₂, len₂, hc₂, hd₂, hf₂⟩ := hend
    have hW' : U.WarmedH s₂.vm := hW₂
    have hcc : c₂ = c := by
      have h1 : s₂.code? g.method = U.code? g.method := by
        rw [State.code?_eq, State.code?_eq, hW'.alike.method?]
      exact Option.some.inj (hc₂.symm.trans (h1.trans h.code))
    subst hcc
    have hlen : len₂ = len := by rw [hdg] at hd₂; cases hd₂; rfl
    subst hlen
    have hs₂ : s₂ = (({ U with heap := s₂.heap, slotsUsed := s₂.slotsUsed } : State).setVm s₂.vm).setTop { g with pc := g.pc + len₂, stack := v.toList ++ g.stack } := by
      refine e3.trans ?_
      rw [hf₂, State.calling_eq h.top, State.setFrames_setFrames, State.setTop_of_frames _ hr', hr]
      rfl
    have hsame : U.sameButNew ({ U with heap := s₂.heap, slotsUsed := s₂.slotsUsed } : State) L mc ms := by
      refine ⟨?_, q2, q3, q4, q5, q6⟩
      obtain ⟨t, ht, -⟩ := State.frames_cons hr
      show ({ U with heap := s₂.heap, slotsUsed := s₂.slotsUsed } : State) = { U.setFrames U.frames with heap := s₂.heap, slotsUsed := s₂.slotsUsed }
      rw [State.setFrames_self ht]
    subst hg
    refine Or.inl ⟨v, ⟨(({ U with heap := s₂.heap, slotsUsed := s₂.slotsUsed } : State).setVm s₂.vm), Ls ++ L, c0 + mc, s0 + ms⟩,
      ⟨X.admits, X.cas, X.clock, X.frames, X.room, X.hears, X.method, X.code, (X.here.setHeapUsed s₂.heap s₂.slotsUsed).setVm hW'.alike, X.tail, State.WarmedH.trans X.warmed hW', X.limits, X.bytes, X.same.trans (hsame.setVm s.vm)⟩,
      ⟨g, mk, s₂, L, rfl, rfl, hqc, rfl, hL, rfl, rfl⟩, ?_⟩
    show Steps p.tables e below _ ((({ U with heap := s₂.heap, slotsUsed := s₂.slotsUsed } : State).setVm s₂.vm).setTop { g with pc := g.pc + len₂, stack := v.toList ++ g.stack })
    rw [← hs₂]
    exact hsteps
  · obtain ⟨e2, q2, q3, q4, q5, q6⟩ := id hsm
    have e3 : s₂ = ({ (U.calling g mk a).setFrames s₂.frames with heap := s₂.heap, slotsUsed := s₂.slotsUsed } : State).setVm s₂.vm := by
      have : s₂ = ({ s₂ with vm := (U.calling g mk a).vm } : State).setVm s₂.vm := rfl
      rw [e2] at this
      exact this
    have hf₂ : s₂.frames = .throwing q :: .java g :: U.frames.tail := hend
    have hW' : U.WarmedH s₂.vm := hW₂
    have hs₂ : s₂ = ((({ U with heap := s₂.heap, slotsUsed := s₂.slotsUsed } : State).setVm s₂.vm).setTop g).pushFrame (.throwing q) := by
      refine e3.trans ?_
      rw [hf₂, State.calling_eq h.top, State.setFrames_setFrames, State.pushFrame, State.frames_setTop _ hr', State.setTop_of_frames _ hr', State.setFrames_setFrames, hr]
      rfl
    have hsame : U.sameButNew ({ U with heap := s₂.heap, slotsUsed := s₂.slotsUsed } : State) L mc ms := by
      refine ⟨?_, q2, q3, q4, q5, q6⟩
      obtain ⟨t, ht, -⟩ := State.frames_cons hr
      show ({ U with heap := s₂.heap, slotsUsed := s₂.slotsUsed } : State) = { U.setFrames U.frames with heap := s₂.heap, slotsUsed := s₂.slotsUsed }
      rw [State.setFrames_self ht]
    subst hg
    refine Or.inr ⟨q, ⟨(({ U with heap := s₂.heap, slotsUsed := s₂.slotsUsed } : State).setVm s₂.vm), Ls ++ L, c0 + mc, s0 + ms⟩,
      ⟨X.admits, X.cas, X.clock, X.frames, X.room, X.hears, X.method, X.code, (X.here.setHeapUsed s₂.heap s₂.slotsUsed).setVm hW'.alike, X.tail, State.WarmedH.trans X.warmed hW', X.limits, X.bytes, X.same.trans (hsame.setVm s.vm)⟩,
      ⟨g, mk, s₂, L, E, ce, rfl, rfl, hx, hce, hcv, hcl, rfl, hL, rfl, rfl⟩, ?_⟩
    show Steps p.tables e below _ (((({ U with heap := s₂.heap, slotsUsed := s₂.slotsUsed } : State).setVm s₂.vm).setTop g).pushFrame (.throwing q))
    rw [← hs₂]
    exact hsteps
end Payer
section Calls
variable {p : Program} {l : Launch} {e : Env} {R : Room} {s : State} {m : MethodId} {args : Array Value} {below : List Frame} {meth : Method} {c : Code} {T : State} {locs : List Loc} {cells slots : Nat}
theorem vx_callV (X : Stand p l e R s m args below meth c T locs cells slots) (hexec : p.tables.exec = Jvm.exec) {own C : String} {index : Nat} {y : MethodName} {bytes : ByteArray} {maxL : Nat} {ret : Option FieldType}
    (hown : s.vm.findClass own = some m.cls) (hlink : (Cond.methodLink own index y).before args s = true) (hinst : (Cond.instanceMethod y).before args s = true) (hsel : (Cond.selects C y y).before args s = true)
    (hcode : (Cond.code y bytes maxL ret).before args s = true) (hy : y.cls ≠ "java/lang/invoke/MethodHandle" ∧ y.cls ≠ "java/lang/invoke/VarHandle")
    {W9 : Nat} {Pre : Pt → Array Value → Prop} {Post : Pt → Array Value → Option Value → Pt → Prop} {PostX : Pt → Array Value → Addr → Pt → Prop} (hK : vx_Back l R p e below s args y 3 W9 Pre Post PostX)
    {b : Addr} {cellB : Cell} (hcell : T.heap[b]? = some cellB) (hobj : cellB.vm.isStatics = false) (hcls : s.vm.findClass C = some cellB.cls)
    {g : JFrame} (hg : g.method = m) (hsize : g.locals.size = c.maxLocals) {argsL rest : List Value} (hlen : ∀ sig, parseMethodDescriptor y.desc = some sig → argsL.length = sig.parameters.length)
    (hstack : g.stack = argsL.reverse ++ .ref b :: rest) (hW : 2 * g.monitorRoom + (rest.map fun v => v.category).sum ≤ W9) (hdg : decode c.code g.pc = .ok (.invokevirtual index, 3))
    (hpre : ∀ vm₁, s.WarmedH vm₁ → Pre ⟨T.setVm vm₁, locs, cells, slots⟩ (Value.ref b :: argsL).toArray) :
    (∃ (v : Option Value) (vm₁ : Vm) (B : Pt), s.WarmedH vm₁ ∧ Stand p l e R s m args below meth c B.U B.locs B.cells B.slots ∧ Post ⟨T.setVm vm₁, locs, cells, slots⟩ (Value.ref b :: argsL).toArray v B ∧
      ∀ target, Steps p.tables e below (B.U.setTop { g with pc := g.pc + 3, stack := v.toList ++ rest }) target → Steps p.tables e below (T.setTop g) target) ∨
    (∃ (q : Addr) (vm₁ : Vm) (B : Pt), s.WarmedH vm₁ ∧ Stand p l e R s m args below meth c B.U B.locs B.cells B.slots ∧ PostX ⟨T.setVm vm₁, locs, cells, slots⟩ (Value.ref b :: argsL).toArray q B ∧
      Steps p.tables e below (T.setTop g) ((B.U.setTop { g with stack := rest }).pushFrame (.throwing q))) := by
  obtain ⟨mk, methM, hnamed, hmethM, hstM, habM⟩ := Cond.instanceMethod_spec hinst
  obtain ⟨methM', cM, hmethM', -, -, -, -, -, -, hsigM⟩ := Cond.code_spec hnamed hcode
  cases hmethM.symm.trans hmethM'
  obtain ⟨c2, r2, m2, q1, q2, q3, q4, kP, hkP, hkPi⟩ := Cond.selects_spec hsel
  cases hcls.symm.trans q1
  cases (State.methodFound?_of_named hnamed hy).symm.trans q2
  cases hnamed.symm.trans q3
  have hselP : selectMethod e.platform s.vm cellB.cls mk = .method mk := by rw [Launch.admits_selectMethod X.admits]; exact q4
  obtain ⟨vm₁, X₁, hstep₁⟩ := X.invokevirtual hexec hown hlink hnamed hmethM hstM hkP hkPi hy (a := b) (cell := cellB) hcell
    (fun z h => by rw [h] at hobj; cases hobj) hselP hmethM habM hkP hkPi (g := g) hg (argsL := argsL) (rest := rest) (hlen _ hsigM) hstack hdg
  rcases hK m meth c ⟨T.setVm vm₁, locs, cells, slots⟩ { g with stack := rest } (.invokevirtual index) mk (Value.ref b :: argsL).toArray X₁ hg hsize hdg hW (X₁.named hnamed) (hpre vm₁ X₁.warmed) with ⟨v, B, X', hpost, hsteps⟩ | ⟨q, B, X', hpost, hsteps⟩
  · exact Or.inl ⟨v, vm₁, B, X₁.warmed, X', hpost, fun target h => hstep₁ _ fun acts => by rw [doInvoke_state]; exact hsteps.trans h⟩
  · exact Or.inr ⟨q, vm₁, B, X₁.warmed, X', hpost, hstep₁ _ fun acts => by rw [doInvoke_state]; exact hsteps⟩
theorem vx_callS (X : Stand p l e R s m args below meth c T locs cells slots) (hexec : p.tables.exec = Jvm.exec) {own : String} {index : Nat} {y : MethodName} {bytes : ByteArray} {maxL : Nat} {ret : Option FieldType}
    (hown : s.vm.findClass own = some m.cls) (hlink : (Cond.methodLink own index y).before args s = true) (hstat : (Cond.static y).before args s = true) (hinit : (Cond.initialized y.cls).before args s = true)
    (hcode : (Cond.code y bytes maxL ret).before args s = true) (hy : y.cls ≠ "java/lang/invoke/MethodHandle" ∧ y.cls ≠ "java/lang/invoke/VarHandle")
    {W9 : Nat} {Pre : Pt → Array Value → Prop} {Post : Pt → Array Value → Option Value → Pt → Prop} {PostX : Pt → Array Value → Addr → Pt → Prop} (hK : vx_Back l R p e below s args y 3 W9 Pre Post PostX)
    {g : JFrame} (hg : g.method = m) (hsize : g.locals.size = c.maxLocals) {argsL rest : List Value} (hlen : ∀ sig, parseMethodDescriptor y.desc = some sig → argsL.length = sig.parameters.length)
    (hstack : g.stack = argsL.reverse ++ rest) (hW : 2 * g.monitorRoom + (rest.map fun v => v.category).sum ≤ W9) (hdg : decode c.code g.pc = .ok (.invokestatic index, 3))
    (hpre : ∀ vm₁, s.WarmedH vm₁ → Pre ⟨T.setVm vm₁, locs, cells, slots⟩ argsL.toArray) :
    (∃ (v : Option Value) (vm₁ : Vm) (B : Pt), s.WarmedH vm₁ ∧ Stand p l e R s m args below meth c B.U B.locs B.cells B.slots ∧ Post ⟨T.setVm vm₁, locs, cells, slots⟩ argsL.toArray v B ∧
      ∀ target, Steps p.tables e below (B.U.setTop { g with pc := g.pc + 3, stack := v.toList ++ rest }) target → Steps p.tables e below (T.setTop g) target) ∨
    (∃ (q : Addr) (vm₁ : Vm) (B : Pt), s.WarmedH vm₁ ∧ Stand p l e R s m args below meth c B.U B.locs B.cells B.slots ∧ PostX ⟨T.setVm vm₁, locs, cells, slots⟩ argsL.toArray q B ∧
      Steps p.tables e below (T.setTop g) ((B.U.setTop { g with stack := rest }).pushFrame (.throwing q))) := by
  obtain ⟨mk, hnamed⟩ := Cond.code_named hcode
  obtain ⟨methM, cM, hmethM, -, -, -, -, -, -, hsigM⟩ := Cond.code_spec hnamed hcode
  have hstatic : methM.isStatic = true := Cond.static_spec hnamed hmethM hstat
  obtain ⟨kP, hkP, -⟩ := className_of_methodNamed hnamed
  have hinitP : kP.init = .initialized := Cond.initialized_spec (findClass_of_methodNamed hnamed) hkP hinit
  obtain ⟨vm₁, X₁, hstep₁⟩ := X.invokestatic hexec hown hlink hnamed hmethM hstatic hkP hinitP hy (g := g) hg (argsL := argsL) (rest := rest) (hlen _ hsigM) hstack hdg
  rcases hK m meth c ⟨T.setVm vm₁, locs, cells, slots⟩ { g with stack := rest } (.invokestatic index) mk argsL.toArray X₁ hg hsize hdg hW (X₁.named hnamed) (hpre vm₁ X₁.warmed) with ⟨v, B, X', hpost, hsteps⟩ | ⟨q, B, X', hpost, hsteps⟩
  · exact Or.inl ⟨v, vm₁, B, X₁.warmed, X', hpost, fun target h => hstep₁ _ fun acts => by rw [doInvoke_state]; exact hsteps.trans h⟩
  · exact Or.inr ⟨q, vm₁, B, X₁.warmed, X', hpost, hstep₁ _ fun acts => by rw [doInvoke_state]; exact hsteps⟩
end Calls
theorem vx_cls {s : State} {T : State} {vm₁ : Vm} {E : String} {k : ClassId} (hW : s.WarmedH vm₁) (h : (T.setVm vm₁).vm.findClass E = some k) : s.vm.findClass E = some k := by
  have h1 : vm₁.findClass E = some k := h
  rw [hW.alike.findClass] at h1
  exact h1
/-- the method's frame g, with q thrown over it -/
def vx_W (p : Program) (l : Launch) (e : Env) (R : Room) (s : State) (m : MethodId) (args : Array Value) (below : List Frame) (meth : Method) (c : Code) (H : Heap) (locs : List Loc) (cells slots : Nat) (Q : State → Prop) (g : JFrame) (q : Addr) : Prop :=
  ∀ T : State, T.heap = H → Stand p l e R s m args below meth c T locs cells slots → ∃ t, Steps p.tables e below ((T.setTop g).pushFrame (.throwing q)) t ∧ Q t
def vx_Run (p : Program) (l : Launch) (e : Env) (R : Room) (s : State) (m : MethodId) (args : Array Value) (below : List Frame) (meth : Method) (c : Code) (H : Heap) (locs : List Loc) (cells slots mc ms : Nat) (g : JFrame) (rest : List Value) (Qa : State → Outcome → State → Prop) (XC : String → State → State → Prop) (free : Addr → Prop) : Prop :=
  ∀ T : State, T.heap = H → Stand p l e R s m args below meth c T locs cells slots →
    (∃ (v : Option Value) (st₀ t T' : State) (L : List Loc), st₀.heap = H ∧ Stand p l e R s m args below meth c T' (locs ++ L) (cells + mc) (slots + ms) ∧ (∀ q ∈ L, free q.base) ∧ T'.heap = t.heap ∧ T'.vm = t.vm ∧ Qa st₀ (.returned v) t ∧
      Goes p e below T g T' { g with pc := g.pc + 3, stack := v.toList ++ rest }) ∨
    (∃ (q : Addr) (st₀ t T' : State) (L : List Loc) (E : String) (ce : Cell), st₀.heap = H ∧ Stand p l e R s m args below meth c T' (locs ++ L) (cells + mc) (slots + ms) ∧ (∀ z ∈ L, free z.base) ∧ T'.heap = t.heap ∧ T'.vm = t.vm ∧ XC E st₀ t ∧ t.heap[q]? = some ce ∧ ce.vm = .none ∧ s.vm.findClass E = some ce.cls ∧
      Steps p.tables e below (T.setTop g) ((T'.setTop { g with stack := rest }).pushFrame (.throwing q)))
def vx_X {S : Type} (px : S → Prop) (B : String → S → State → Prop) (A : Nat → Prop) : String → State → State → Prop := fun E st t => ∃ u : S, px u ∧ B E u t ∧ va_F A st t
section Runs
variable {p : Program} {l : Launch} {e : Env} {R : Room} {s : State} {m : MethodId} {args : Array Value} {below : List Frame} {meth : Method} {c : Code} {H : Heap} {locs : List Loc} {cells slots : Nat}
variable {y : MethodName} {bytes cc : ByteArray} {maxL nL mc ms n index : Nat} {ret : Option FieldType} {ws : List Cond} {rm : Room} {Pc : Array Value → State → Prop} {Qc : Array Value → State → Outcome → State → Prop} {XC : String → State → State → Prop} {free : Addr → Prop} {Ts : List Cond} {own C : String} {b : Addr} {As rest : List Value} {g : JFrame}
theorem vx_callBack (cb : CallB R s args own index y bytes maxL ret ws rm mc ms n) (hM : vx_Met l y ws rm Pc Qc XC mc ms free) (hbl : FrameBlind Pc) : vx_Back l R p e below s args y 3 8 (PreOf R mc ms Pc) (PostOf Qc mc ms free) (vx_Post XC mc ms free) := by
  obtain ⟨hrc, hrs, hfr, hlo, hws, hcw, -, hini, -⟩ := cb
  exact vx_back (bytes := bytes) (maxL := maxL) (ret := ret) hM hbl hrc hrs hfr hlo hws hcw (fun a' U hW => word_at hW (Or.inl (by first | rfl | simp [Cond.onTables, Cond.keeps, Cond.steady])) hini)
theorem vx_runV (S : CallFix p m c cc nL s args Ts own) (hM : vx_Met l y ws rm Pc Qc XC mc ms free) (cw : CallW R s args own C index y bytes maxL ret ws rm mc ms n) (hp : PreV s H C b Pc As)
    (hg : g.method = m) (hn : As.length = n) (hsize : g.locals.size = nL) (hstack : g.stack = As.reverse ++ .ref b :: rest) (hW : 2 * g.monitorRoom + (rest.map fun v => v.category).sum ≤ 8) (hdg : decode cc g.pc = .ok (.invokevirtual index, 3)) (hf : cells + mc ≤ R.cells ∧ slots + ms ≤ R.slots) :
    vx_Run p l e R s m args below meth c H locs cells slots mc ms g rest (Qc (Value.ref b :: As).toArray) XC free := by
  have hK : vx_Back l R p e below s args y 3 8 (PreOf R mc ms Pc) (PostOf Qc mc ms free) (vx_Post XC mc ms free) := vx_callBack cw.1 hM hp.1
  obtain ⟨⟨-, -, -, -, -, -, hcode, -, hy, hlen, hl⟩, hin, hse⟩ := cw
  obtain ⟨hx, hb, hml, ho, -⟩ := S
  obtain ⟨-, ⟨cellB, hcB, hoB, hclB⟩, hPc⟩ := hp
  intro T hT X
  rcases vx_callV X hx (C := C) (bytes := bytes) (maxL := maxL) (ret := ret) ho hl hin hse hcode hy hK (by rw [hT]; exact hcB) hoB hclB hg (hsize.trans hml.symm) (argsL := As) (rest := rest) (fun sig h => hn.trans (hlen sig h)) hstack hW (by rw [hb]; exact hdg)
    (fun vm₁ hW₁ => ⟨hf.1, hf.2, hPc (T.setVm vm₁) hT hW₁⟩) with ⟨v, vm₁, ⟨U', l2, c2, s2⟩, hW₁, X', ⟨g', mk, t, L, e1, e2, hq, h1, hL, h2, h3⟩, st⟩ | ⟨q, vm₁, ⟨U', l2, c2, s2⟩, hW₁, X', ⟨g', mk, t, L, E, ce, e1, e2, hq, hce, hcv, hcl, h1, hL, h2, h3⟩, st⟩
  · dsimp only [Pt.U, Pt.locs, Pt.cells, Pt.slots] at X' e1 e2 h1 h2 h3 st
    subst h1; subst h2; subst h3
    exact Or.inl ⟨v, (T.setVm vm₁).calling g' mk (Value.ref b :: As).toArray, t, U', L, hT, X', hL, e1, e2, hq, st⟩
  · dsimp only [Pt.U, Pt.locs, Pt.cells, Pt.slots] at X' e1 e2 h1 h2 h3 st hcl
    subst h1; subst h2; subst h3
    exact Or.inr ⟨q, (T.setVm vm₁).calling g' mk (Value.ref b :: As).toArray, t, U', L, E, ce, hT, X', hL, e1, e2, hq, hce, hcv, vx_cls hW₁ hcl, st⟩
theorem vx_runS (S : CallFix p m c cc nL s args Ts own) (hM : vx_Met l y ws rm Pc Qc XC mc ms free) (cw : CallB R s args own index y bytes maxL ret ws rm mc ms n ∧ (Cond.static y).before args s = true) (hp : PreS s H Pc As)
    (hg : g.method = m) (hn : As.length = n) (hsize : g.locals.size = nL) (hstack : g.stack = As.reverse ++ rest) (hW : 2 * g.monitorRoom + (rest.map fun v => v.category).sum ≤ 8) (hdg : decode cc g.pc = .ok (.invokestatic index, 3)) (hf : cells + mc ≤ R.cells ∧ slots + ms ≤ R.slots) :
    vx_Run p l e R s m args below meth c H locs cells slots mc ms g rest (Qc As.toArray) XC free := by
  have hK : vx_Back l R p e below s args y 3 8 (PreOf R mc ms Pc) (PostOf Qc mc ms free) (vx_Post XC mc ms free) := vx_callBack cw.1 hM hp.1
  obtain ⟨⟨-, -, -, -, -, -, hcode, hini, hy, hlen, hl⟩, hstt⟩ := cw
  obtain ⟨hx, hb, hml, ho, -⟩ := S
  intro T hT X
  rcases vx_callS X hx (bytes := bytes) (maxL := maxL) (ret := ret) ho hl hstt hini hcode hy hK hg (hsize.trans hml.symm) (argsL := As) (rest := rest) (fun sig h => hn.trans (hlen sig h)) hstack hW (by rw [hb]; exact hdg)
    (fun vm₁ hW₁ => ⟨hf.1, hf.2, hp.2 (T.setVm vm₁) hT hW₁⟩) with ⟨v, vm₁, ⟨U', l2, c2, s2⟩, hW₁, X', ⟨g', mk, t, L, e1, e2, hq, h1, hL, h2, h3⟩, st⟩ | ⟨q, vm₁, ⟨U', l2, c2, s2⟩, hW₁, X', ⟨g', mk, t, L, E, ce, e1, e2, hq, hce, hcv, hcl, h1, hL, h2, h3⟩, st⟩
  · dsimp only [Pt.U, Pt.locs, Pt.cells, Pt.slots] at X' e1 e2 h1 h2 h3 st
    subst h1; subst h2; subst h3
    exact Or.inl ⟨v, (T.setVm vm₁).calling g' mk As.toArray, t, U', L, hT, X', hL, e1, e2, hq, st⟩
  · dsimp only [Pt.U, Pt.locs, Pt.cells, Pt.slots] at X' e1 e2 h1 h2 h3 st hcl
    subst h1; subst h2; subst h3
    exact Or.inr ⟨q, (T.setVm vm₁).calling g' mk As.toArray, t, U', L, E, ce, hT, X', hL, e1, e2, hq, hce, hcv, vx_cls hW₁ hcl, st⟩
end Runs
section Rows
variable {p : Program} {l : Launch} {e : Env} {R : Room} {s : State} {m : MethodId} {args : Array Value} {below : List Frame} {meth : Method} {c : Code} {H : Heap} {locs : List Loc} {cells slots : Nat} {Q : State → Prop}
variable {mc ms : Nat} {free : Addr → Prop} {A0 A1 : Nat → Prop} {H0 : Heap} {a : Array Value} {pc : Nat} {ls : Array Slot} {st0 rest : List Value}
theorem vx_keep {st₀ t T' : State} {L : List Loc} (h0 : st₀.heap = H) (e1 : T'.heap = t.heap) (hS : va_S A0 H0 H locs) (hA : ∀ q, q < H.size → A1 q → A0 q) (hf : ∀ q, free q → A0 q) (hL : ∀ q ∈ L, free q.base) (hF : va_F A1 st₀ t) :
    H.size ≤ T'.heap.size ∧ (∀ q : Nat, q < H.size → ¬ A1 q → T'.heap[q]? = H[q]?) ∧ va_S A0 H0 T'.heap (locs ++ L) := by
  obtain ⟨hz, hk⟩ := hF
  rw [h0] at hz hk
  exact ⟨by rw [e1]; exact hz, fun q h1 h2 => by rw [e1]; exact hk q h1 h2,
    ⟨Nat.le_trans hS.1 (by rw [e1]; exact hz), fun q h1 h2 => by rw [e1, hk q (Nat.lt_of_lt_of_le h1 hS.1) (fun z => h2 (hA q (Nat.lt_of_lt_of_le h1 hS.1) z))]; exact hS.2.1 q h1 h2, fun q hq => by
      rcases List.mem_append.mp hq with h | h
      · exact hS.2.2 q h
      · exact hf _ (hL q h)⟩⟩
theorem vx_calli {S SX : Type} {post : Int32 → S → Prop} {px : SX → Prop} {B : S → State → Prop} {BX : String → SX → State → Prop} {AX : Nat → Prop} (hr : vx_Run p l e R s m args below meth c H locs cells slots mc ms (F0 m pc ls st0) rest (va_Qi post B A1 a) (vx_X px BX AX) free) (hS : va_S A0 H0 H locs) (hA : ∀ q, q < H.size → A1 q → A0 q) (hf : ∀ q, free q → A0 q) (hAX : ∀ q, q < H.size → AX q → A0 q)
    (kx : ∀ (E : String) (ce : Cell) (q9 : Addr) (u : SX) (t : State) (H1 : Heap) (locs1 : List Loc), t.heap = H1 → s.vm.Alike t.vm → px u → BX E u t → H.size ≤ H1.size → (∀ q : Nat, q < H.size → ¬ AX q → H1[q]? = H[q]?) → va_S A0 H0 H1 locs1 → H1[q9]? = some ce → ce.vm = .none → s.vm.findClass E = some ce.cls → vx_W p l e R s m args below meth c H1 locs1 (cells + mc) (slots + ms) Q (F0 m pc ls rest) q9)
    (kk : ∀ (r : Int32) (u : S) (t : State) (H1 : Heap) (locs1 : List Loc), t.heap = H1 → s.vm.Alike t.vm → post r u → B u t → H.size ≤ H1.size → (∀ q : Nat, q < H.size → ¬ A1 q → H1[q]? = H[q]?) → va_S A0 H0 H1 locs1 → W p l e R s m args below meth c H1 locs1 (cells + mc) (slots + ms) Q (F0 m (pc + 3) ls (.int r :: rest))) : W p l e R s m args below meth c H locs cells slots Q (F0 m pc ls st0) := by
  intro T hT X
  rcases hr T hT X with ⟨v, st₀, t, T', L, h0, X', hL, e1, e2, ⟨⟨r, u, hv, hp, hb⟩, hF⟩, st⟩ | ⟨q, st₀, t, T', L, E, ce, h0, X', hL, e1, e2, ⟨u, hp, hb, hF⟩, hce, hcv, hcl, st⟩
  · cases hv
    obtain ⟨k1, k2, k3⟩ := vx_keep h0 e1 hS hA hf hL hF
    obtain ⟨t2, a1, b1⟩ := kk r u t T'.heap (locs ++ L) e1.symm (by rw [← e2]; exact X'.warmed.alike) hp hb k1 k2 k3 T' rfl X'
    exact ⟨t2, st t2 a1, b1⟩
  · obtain ⟨k1, k2, k3⟩ := vx_keep h0 e1 hS hAX hf hL hF
    obtain ⟨t2, a1, b1⟩ := kx E ce q u t T'.heap (locs ++ L) e1.symm (by rw [← e2]; exact X'.warmed.alike) hp hb k1 k2 k3 (by rw [e1]; exact hce) hcv hcl T' rfl X'
    exact ⟨t2, st.trans a1, b1⟩
theorem vx_calll {S SX : Type} {post : Int64 → S → Prop} {px : SX → Prop} {B : S → State → Prop} {BX : String → SX → State → Prop} {AX : Nat → Prop} (hr : vx_Run p l e R s m args below meth c H locs cells slots mc ms (F0 m pc ls st0) rest (va_Ql post B A1 a) (vx_X px BX AX) free) (hS : va_S A0 H0 H locs) (hA : ∀ q, q < H.size → A1 q → A0 q) (hf : ∀ q, free q → A0 q) (hAX : ∀ q, q < H.size → AX q → A0 q)
    (kx : ∀ (E : String) (ce : Cell) (q9 : Addr) (u : SX) (t : State) (H1 : Heap) (locs1 : List Loc), t.heap = H1 → s.vm.Alike t.vm → px u → BX E u t → H.size ≤ H1.size → (∀ q : Nat, q < H.size → ¬ AX q → H1[q]? = H[q]?) → va_S A0 H0 H1 locs1 → H1[q9]? = some ce → ce.vm = .none → s.vm.findClass E = some ce.cls → vx_W p l e R s m args below meth c H1 locs1 (cells + mc) (slots + ms) Q (F0 m pc ls rest) q9)
    (kk : ∀ (r : Int64) (u : S) (t : State) (H1 : Heap) (locs1 : List Loc), t.heap = H1 → s.vm.Alike t.vm → post r u → B u t → H.size ≤ H1.size → (∀ q : Nat, q < H.size → ¬ A1 q → H1[q]? = H[q]?) → va_S A0 H0 H1 locs1 → W p l e R s m args below meth c H1 locs1 (cells + mc) (slots + ms) Q (F0 m (pc + 3) ls (.long r :: rest))) : W p l e R s m args below meth c H locs cells slots Q (F0 m pc ls st0) := by
  intro T hT X
  rcases hr T hT X with ⟨v, st₀, t, T', L, h0, X', hL, e1, e2, ⟨⟨r, u, hv, hp, hb⟩, hF⟩, st⟩ | ⟨q, st₀, t, T', L, E, ce, h0, X', hL, e1, e2, ⟨u, hp, hb, hF⟩, hce, hcv, hcl, st⟩
  · cases hv
    obtain ⟨k1, k2, k3⟩ := vx_keep h0 e1 hS hA hf hL hF
    obtain ⟨t2, a1, b1⟩ := kk r u t T'.heap (locs ++ L) e1.symm (by rw [← e2]; exact X'.warmed.alike) hp hb k1 k2 k3 T' rfl X'
    exact ⟨t2, st t2 a1, b1⟩
  · obtain ⟨k1, k2, k3⟩ := vx_keep h0 e1 hS hAX hf hL hF
    obtain ⟨t2, a1, b1⟩ := kx E ce q u t T'.heap (locs ++ L) e1.symm (by rw [← e2]; exact X'.warmed.alike) hp hb k1 k2 k3 (by rw [e1]; exact hce) hcv hcl T' rfl X'
    exact ⟨t2, st.trans a1, b1⟩
theorem vx_callf {S SX : Type} {post : UInt32 → S → Prop} {px : SX → Prop} {B : S → State → Prop} {BX : String → SX → State → Prop} {AX : Nat → Prop} (hr : vx_Run p l e R s m args below meth c H locs cells slots mc ms (F0 m pc ls st0) rest (va_Qf post B A1 a) (vx_X px BX AX) free) (hS : va_S A0 H0 H locs) (hA : ∀ q, q < H.size → A1 q → A0 q) (hf : ∀ q, free q → A0 q) (hAX : ∀ q, q < H.size → AX q → A0 q)
    (kx : ∀ (E : String) (ce : Cell) (q9 : Addr) (u : SX) (t : State) (H1 : Heap) (locs1 : List Loc), t.heap = H1 → s.vm.Alike t.vm → px u → BX E u t → H.size ≤ H1.size → (∀ q : Nat, q < H.size → ¬ AX q → H1[q]? = H[q]?) → va_S A0 H0 H1 locs1 → H1[q9]? = some ce → ce.vm = .none → s.vm.findClass E = some ce.cls → vx_W p l e R s m args below meth c H1 locs1 (cells + mc) (slots + ms) Q (F0 m pc ls rest) q9)
    (kk : ∀ (r : UInt32) (u : S) (t : State) (H1 : Heap) (locs1 : List Loc), t.heap = H1 → s.vm.Alike t.vm → post r u → B u t → H.size ≤ H1.size → (∀ q : Nat, q < H.size → ¬ A1 q → H1[q]? = H[q]?) → va_S A0 H0 H1 locs1 → W p l e R s m args below meth c H1 locs1 (cells + mc) (slots + ms) Q (F0 m (pc + 3) ls (.float r :: rest))) : W p l e R s m args below meth c H locs cells slots Q (F0 m pc ls st0) := by
  intro T hT X
  rcases hr T hT X with ⟨v, st₀, t, T', L, h0, X', hL, e1, e2, ⟨⟨r, u, hv, hp, hb⟩, hF⟩, st⟩ | ⟨q, st₀, t, T', L, E, ce, h0, X', hL, e1, e2, ⟨u, hp, hb, hF⟩, hce, hcv, hcl, st⟩
  · cases hv
    obtain ⟨k1, k2, k3⟩ := vx_keep h0 e1 hS hA hf hL hF
    obtain ⟨t2, a1, b1⟩ := kk r u t T'.heap (locs ++ L) e1.symm (by rw [← e2]; exact X'.warmed.alike) hp hb k1 k2 k3 T' rfl X'
    exact ⟨t2, st t2 a1, b1⟩
  · obtain ⟨k1, k2, k3⟩ := vx_keep h0 e1 hS hAX hf hL hF
    obtain ⟨t2, a1, b1⟩ := kx E ce q u t T'.heap (locs ++ L) e1.symm (by rw [← e2]; exact X'.warmed.alike) hp hb k1 k2 k3 (by rw [e1]; exact hce) hcv hcl T' rfl X'
    exact ⟨t2, st.trans a1, b1⟩
theorem vx_calld {S SX : Type} {post : UInt64 → S → Prop} {px : SX → Prop} {B : S → State → Prop} {BX : String → SX → State → Prop} {AX : Nat → Prop} (hr : vx_Run p l e R s m args below meth c H locs cells slots mc ms (F0 m pc ls st0) rest (va_Qd post B A1 a) (vx_X px BX AX) free) (hS : va_S A0 H0 H locs) (hA : ∀ q, q < H.size → A1 q → A0 q) (hf : ∀ q, free q → A0 q) (hAX : ∀ q, q < H.size → AX q → A0 q)
    (kx : ∀ (E : String) (ce : Cell) (q9 : Addr) (u : SX) (t : State) (H1 : Heap) (locs1 : List Loc), t.heap = H1 → s.vm.Alike t.vm → px u → BX E u t → H.size ≤ H1.size → (∀ q : Nat, q < H.size → ¬ AX q → H1[q]? = H[q]?) → va_S A0 H0 H1 locs1 → H1[q9]? = some ce → ce.vm = .none → s.vm.findClass E = some ce.cls → vx_W p l e R s m args below meth c H1 locs1 (cells + mc) (slots + ms) Q (F0 m pc ls rest) q9)
    (kk : ∀ (r : UInt64) (u : S) (t : State) (H1 : Heap) (locs1 : List Loc), t.heap = H1 → s.vm.Alike t.vm → post r u → B u t → H.size ≤ H1.size → (∀ q : Nat, q < H.size → ¬ A1 q → H1[q]? = H[q]?) → va_S A0 H0 H1 locs1 → W p l e R s m args below meth c H1 locs1 (cells + mc) (slots + ms) Q (F0 m (pc + 3) ls (.double r :: rest))) : W p l e R s m args below meth c H locs cells slots Q (F0 m pc ls st0) := by
  intro T hT X
  rcases hr T hT X with ⟨v, st₀, t, T', L, h0, X', hL, e1, e2, ⟨⟨r, u, hv, hp, hb⟩, hF⟩, st⟩ | ⟨q, st₀, t, T', L, E, ce, h0, X', hL, e1, e2, ⟨u, hp, hb, hF⟩, hce, hcv, hcl, st⟩
  · cases hv
    obtain ⟨k1, k2, k3⟩ := vx_keep h0 e1 hS hA hf hL hF
    obtain ⟨t2, a1, b1⟩ := kk r u t T'.heap (locs ++ L) e1.symm (by rw [← e2]; exact X'.warmed.alike) hp hb k1 k2 k3 T' rfl X'
    exact ⟨t2, st t2 a1, b1⟩
  · obtain ⟨k1, k2, k3⟩ := vx_keep h0 e1 hS hAX hf hL hF
    obtain ⟨t2, a1, b1⟩ := kx E ce q u t T'.heap (locs ++ L) e1.symm (by rw [← e2]; exact X'.warmed.alike) hp hb k1 k2 k3 (by rw [e1]; exact hce) hcv hcl T' rfl X'
    exact ⟨t2, st.trans a1, b1⟩
theorem vx_callv {S SX : Type} {post : S → Prop} {px : SX → Prop} {B : S → State → Prop} {BX : String → SX → State → Prop} {AX : Nat → Prop} (hr : vx_Run p l e R s m args below meth c H locs cells slots mc ms (F0 m pc ls st0) rest (va_Qv post B A1 a) (vx_X px BX AX) free) (hS : va_S A0 H0 H locs) (hA : ∀ q, q < H.size → A1 q → A0 q) (hf : ∀ q, free q → A0 q) (hAX : ∀ q, q < H.size → AX q → A0 q)
    (kx : ∀ (E : String) (ce : Cell) (q9 : Addr) (u : SX) (t : State) (H1 : Heap) (locs1 : List Loc), t.heap = H1 → s.vm.Alike t.vm → px u → BX E u t → H.size ≤ H1.size → (∀ q : Nat, q < H.size → ¬ AX q → H1[q]? = H[q]?) → va_S A0 H0 H1 locs1 → H1[q9]? = some ce → ce.vm = .none → s.vm.findClass E = some ce.cls → vx_W p l e R s m args below meth c H1 locs1 (cells + mc) (slots + ms) Q (F0 m pc ls rest) q9)
    (kk : ∀ (u : S) (t : State) (H1 : Heap) (locs1 : List Loc), t.heap = H1 → s.vm.Alike t.vm → post u → B u t → H.size ≤ H1.size → (∀ q : Nat, q < H.size → ¬ A1 q → H1[q]? = H[q]?) → va_S A0 H0 H1 locs1 → W p l e R s m args below meth c H1 locs1 (cells + mc) (slots + ms) Q (F0 m (pc + 3) ls (rest))) : W p l e R s m args below meth c H locs cells slots Q (F0 m pc ls st0) := by
  intro T hT X
  rcases hr T hT X with ⟨v, st₀, t, T', L, h0, X', hL, e1, e2, ⟨⟨u, hv, hp, hb⟩, hF⟩, st⟩ | ⟨q, st₀, t, T', L, E, ce, h0, X', hL, e1, e2, ⟨u, hp, hb, hF⟩, hce, hcv, hcl, st⟩
  · cases hv
    obtain ⟨k1, k2, k3⟩ := vx_keep h0 e1 hS hA hf hL hF
    obtain ⟨t2, a1, b1⟩ := kk u t T'.heap (locs ++ L) e1.symm (by rw [← e2]; exact X'.warmed.alike) hp hb k1 k2 k3 T' rfl X'
    exact ⟨t2, st t2 a1, b1⟩
  · obtain ⟨k1, k2, k3⟩ := vx_keep h0 e1 hS hAX hf hL hF
    obtain ⟨t2, a1, b1⟩ := kx E ce q u t T'.heap (locs ++ L) e1.symm (by rw [← e2]; exact X'.warmed.alike) hp hb k1 k2 k3 (by rw [e1]; exact hce) hcv hcl T' rfl X'
    exact ⟨t2, st.trans a1, b1⟩
/-- caught by the row x of this method's table; the rows ahead don't take it -/
theorem vx_catch {own name : String} {E : String} {ce : Cell} {q : Addr} (hown : s.vm.findClass own = some m.cls) (pre : List ExceptionTableEntry) (x : ExceptionTableEntry) (suf : List ExceptionTableEntry) (hsplit : c.exceptionTable.toList = pre ++ x :: suf)
    (hpass : ∀ z ∈ pre, covers z pc = false ∨ (z.catchType ≠ 0 ∧ ∃ nm : String, (Cond.classLink own z.catchType nm).before args s = true ∧ va_Nc E nm s)) (hx : covers x pc = true) (h0 : x.catchType ≠ 0)
    (hlink : (Cond.classLink own x.catchType name).before args s = true) (hcast : (Cond.castable E name).before args s = true) (hcell : H[q]? = some ce) (hv : ce.vm = .none) (hcl : s.vm.findClass E = some ce.cls)
    (kk : W p l e R s m args below meth c H locs cells slots Q (F0 m x.handlerPc ls [.ref q])) : vx_W p l e R s m args below meth c H locs cells slots Q (F0 m pc ls rest) q := by
  intro T hT X
  have hpl : e.platform.magicAccessors = ({} : Platform).magicAccessors := by rw [X.admits.platform]
  obtain ⟨c3, c4, hc3, hc4, hasg⟩ := Cond.castable_spec hcast
  cases Option.some.inj (hc3.symm.trans hcl)
  obtain ⟨c5, hc5, hcl5⟩ := Cond.classLink_spec hown hlink e.platform hpl
  cases Option.some.inj (hc4.symm.trans hc5)
  obtain ⟨vm', X', st⟩ := X.thenCaughtThrough q (g := F0 m pc ls rest) rfl (Steps.refl _) (by rw [hT]; exact hcell) (by rw [hv]; rfl) (by obtain ⟨k9, h9, -⟩ := Vm.findClass_spec hcl; exact ⟨k9, h9⟩) pre x suf hsplit
    (fun z hz => by
      rcases hpass z hz with h | ⟨hz0, nm, hl1, hn1⟩
      · exact Or.inl h
      · obtain ⟨c6, hc6, hcl6⟩ := Cond.classLink_spec hown hl1 e.platform hpl
        obtain ⟨a8, b8, h1, h2, h3⟩ := hn1
        cases Option.some.inj (h1.symm.trans hcl)
        cases Option.some.inj (h2.symm.trans hc6)
        exact Or.inr ⟨hz0, _, hcl6, h3⟩) hx (Or.inr ⟨h0, c4, hcl5, hasg⟩)
  obtain ⟨t, a1, b1⟩ := kk (T.setVm vm') hT X'
  exact ⟨t, st.trans a1, b1⟩
end Rows
section Ends
variable {p : Program} {l : Launch} {e : Env} {R : Room} {s : State} {m : MethodId} {args : Array Value} {below : List Frame} {meth : Method} {c : Code} {H : Heap} {locs : List Loc} {cells slots : Nat} {Q : State → Prop}
variable {mc ms : Nat} {free : Addr → Prop} {A0 A1 : Nat → Prop} {H0 : Heap} {a : Array Value} {ls : Array Slot} {st0 rest : List Value}
variable {Qc : Array Value → State → Outcome → State → Prop} {XC : String → State → State → Prop}
/-- what a body that may throw owes at its end -/
def vx_MQ (below : List Frame) (Qc : Array Value → State → Outcome → State → Prop) (XC : String → State → State → Prop) (a : Array Value) (s : State) (mc ms : Nat) (free : Addr → Prop) : State → Prop := fun t =>
  ∃ o, t.status = .running ∧ Ended t below o ∧ vx_Q Qc XC mc ms free a s o t
theorem vx_ret {g : JFrame} {mc ms : Nat} (k : W p l e R s m args below meth c H locs cells slots (MQ below Qc args s mc ms free) g) : W p l e R s m args below meth c H locs cells slots (vx_MQ below Qc XC args s mc ms free) g := by
  intro T hT X
  obtain ⟨t, a1, o, b1, b2, b3, b4⟩ := k T hT X
  exact ⟨t, a1, o, b1, b2, Or.inl ⟨b3, b4⟩⟩
/-- not caught here: it goes on to the caller -/
theorem vx_widen {g : JFrame} {q : Addr} {k n : Nat} (h1 : cells ≤ k) (h2 : slots ≤ n) (kk : vx_W p l e R s m args below meth c H locs k n Q g q) : vx_W p l e R s m args below meth c H locs cells slots Q g q := fun T hT X => kk T hT (stand_widen X h1 h2)
theorem vx_out {pc : Nat} {E : String} {ce : Cell} {q : Addr} {mc ms : Nat} (hout : ∀ x ∈ c.exceptionTable.toList, covers x pc = false) (hlocks : meth.locks = false) (hcell : H[q]? = some ce) (hv : ce.vm = .none) (hcl : s.vm.findClass E = some ce.cls)
    (hx : ∀ t : State, t.heap = H → s.vm.Alike t.vm → XC E s t) (hf : ∀ z ∈ locs, free z.base) (hc : cells ≤ mc) (hs : slots ≤ ms) :
    vx_W p l e R s m args below meth c H locs cells slots (vx_MQ below Qc XC args s mc ms free) (F0 m pc ls rest) q := by
  intro T hT X
  obtain ⟨st1, hrun, hend, hW, hsm⟩ := X.leaveThrown q (g := F0 m pc ls rest) rfl rfl rfl hout hlocks
  have hcell9 : (T.setFrames (.throwing q :: below)).heap[q]? = some ce := by
    show T.heap[q]? = some ce
    rw [hT]; exact hcell
  exact ⟨_, st1, .threw q, hrun, hend, Or.inr ⟨q, rfl, E, ce, locs, hx _ hT hW.alike, hcell9, hv, hcl, hW, hsm.mono hc hs, hf⟩⟩
theorem vx_frame {U : State} {k n : Nat} (h : s.sameButNew ({ U with vm := s.vm } : State) locs k n) : s.heap.size ≤ U.heap.size ∧ ∀ q : Nat, q < s.heap.size → (∀ z ∈ locs, z.base ≠ q) → U.heap[q]? = s.heap[q]? := by
  obtain ⟨-, h2, -, -, -, h6⟩ := h
  refine ⟨h2, fun q hq hz => ?_⟩
  obtain ⟨c9, e1, e2, e3, e4⟩ := h6 q _ (Array.getElem?_eq_getElem hq)
  have hs : c9.slots = (s.heap[q]).slots := Array.ext_getElem? fun i => e4 i fun hm => hz _ hm rfl
  have h9 : c9 = s.heap[q] := by
    rw [hs] at e2
    exact e2
  have e5 : U.heap[q]? = some c9 := e1
  rw [e5, h9, Array.getElem?_eq_getElem hq]
/-- the words of a throw but the four that speak of the heap -/
def vx_no (w : Cond) : Bool := decide (w ≠ .isRef (.static Bundle.tN "UNASSIGNED_STACK" Bundle.steD)) && decide (w ≠ .isRef (.static Bundle.tN "SUPPRESSED_SENTINEL" Bundle.listD)) && decide (w ≠ .laysStatic Bundle.tN "UNASSIGNED_STACK" Bundle.steD) && decide (w ≠ .laysStatic Bundle.tN "SUPPRESSED_SENTINEL" Bundle.listD)
def vx_at0 (own : String) (ic : Nat) (X : String) (names : List String) : List Cond := (Bundle.ownAtoms0 own ic X names).filter vx_no
def vx_atS (own : String) (ic : Nat) (X : String) (names : List String) : List Cond := (Bundle.ownAtoms own ic X names).filter vx_no
/-- a word that the tables alone decide, or a good one -/
def vx_ot (w : Cond) : Bool := w.onTables || goodWord w
theorem vx_ot_at {args a' : Array Value} {s U : State} {w : Cond} (hW : s.WarmedH U.vm) (hvm : s.vm = U.vm) (hg : vx_ot w = true) (h : w.before args s = true) : w.before a' U = true := by
  simp only [vx_ot, Bool.or_eq_true] at hg
  rcases hg with hg | hg
  · exact va_tabs hg hvm h
  · exact word_at hW (good_of_word hg) h
/-- a list's words: the good ones out of the method's own list, the others by premises of their own -/
theorem vx_hat {args : Array Value} {s : State} {L B : List Cond} (h1 : ∀ w ∈ L.filter goodWord, w.before args s = true) (h2 : ∀ w ∈ L.filter (fun w => !goodWord w), w ∈ B) (h3 : ∀ w ∈ B, w.before args s = true) : ∀ w ∈ L, w.before args s = true := by
  intro w hw
  by_cases g : goodWord w = true
  · exact h1 w (List.mem_filter.mpr ⟨hw, g⟩)
  · refine h3 w (h2 w (List.mem_filter.mpr ⟨hw, ?_⟩))
    show (!goodWord w) = true
    cases hgw : goodWord w
    · rfl
    · exact absurd hgw g
theorem vx_c {args : Array Value} {s : State} {w : Cond} {B : List Cond} (h : w.before args s = true) (t : ∀ w ∈ B, w.before args s = true) : ∀ w' ∈ w :: B, w'.before args s = true := fun w' h' => (List.mem_cons.mp h').elim (fun e => by rw [e]; exact h) (t w')
theorem vx_n {args : Array Value} {s : State} : ∀ w ∈ ([] : List Cond), w.before args s = true := fun _ h => nomatch h
theorem vx_own {args : Array Value} {s : State} {L : List Cond} (h1 : ∀ w ∈ L.filter vx_no, w.before args s = true)
    (hU : (Cond.isRef (.static Bundle.tN "UNASSIGNED_STACK" Bundle.steD)).before args s = true) (hN : (Cond.isRef (.static Bundle.tN "SUPPRESSED_SENTINEL" Bundle.listD)).before args s = true)
    (lU : (Cond.laysStatic Bundle.tN "UNASSIGNED_STACK" Bundle.steD).before args s = true) (lN : (Cond.laysStatic Bundle.tN "SUPPRESSED_SENTINEL" Bundle.listD).before args s = true) : ∀ w ∈ L, w.before args s = true := by
  intro w hw
  by_cases e1 : w = .isRef (.static Bundle.tN "UNASSIGNED_STACK" Bundle.steD)
  · rw [e1]; exact hU
  · by_cases e2 : w = .isRef (.static Bundle.tN "SUPPRESSED_SENTINEL" Bundle.listD)
    · rw [e2]; exact hN
    · by_cases e3 : w = .laysStatic Bundle.tN "UNASSIGNED_STACK" Bundle.steD
      · rw [e3]; exact lU
      · by_cases e4 : w = .laysStatic Bundle.tN "SUPPRESSED_SENTINEL" Bundle.listD
        · rw [e4]; exact lN
        · exact h1 w (List.mem_filter.mpr ⟨hw, by unfold vx_no; rw [decide_eq_true e1, decide_eq_true e2, decide_eq_true e3, decide_eq_true e4]; rfl⟩)
/-- where a static field lies, its class's statics cell in H -/
def vx_L (C n d : String) (A : Nat → Prop) (U : State) (H : Heap) : Prop := ∃ (c : ClassId) (k : Class) (i : Nat) (f : Field) (a : Nat) (cell : Cell), U.vm.findClass C = some c ∧ U.fieldFound? C n d = some (c, k, i, f) ∧ f.isStatic = true ∧ k.statics = some a ∧ H[a]? = some cell ∧ cell.vm.isStatics = true ∧ cell.cls = c ∧ f.slot < cell.slots.size ∧ k.staticTypes[f.slot]? = some f.type ∧ ¬ A a
theorem vx_L.moved {C n d : String} {A : Nat → Prop} {u U : State} {H : Heap} (hvm : u.vm.Alike U.vm) (h : vx_L C n d A u H) : vx_L C n d A U H := by
  obtain ⟨c, k, i, f, a, cell, h1, h2, h3, h4, h5, h6, h7, h8, h9, h10⟩ := h
  obtain ⟨k', hi', he⟩ := State.fieldFound?_setVm hvm h2
  exact ⟨c, k', i, f, a, cell, by rw [hvm.findClass]; exact h1, hi', h3, by rw [he]; exact h4, h5, h6, h7, h8, by rw [he]; exact h9, h10⟩
theorem vx_L.kept {C n d : String} {A : Nat → Prop} {U : State} {H H1 : Heap} (h : vx_L C n d A U H) (hq : ∀ a : Nat, a < H.size → ¬ A a → H1[a]? = H[a]?) : vx_L C n d A U H1 := by
  obtain ⟨c, k, i, f, a, cell, h1, h2, h3, h4, h5, h6, h7, h8, h9, h10⟩ := h
  exact ⟨c, k, i, f, a, cell, h1, h2, h3, h4, by rw [hq a (Array.getElem?_eq_some_iff.mp h5).1 h10]; exact h5, h6, h7, h8, h9, h10⟩
theorem vx_L.narrow {C n d : String} {A B : Nat → Prop} {U : State} {H : Heap} (h : vx_L C n d A U H) (hAB : ∀ q, B q → A q) : vx_L C n d B U H := by
  obtain ⟨c, k, i, f, a, cell, h1, h2, h3, h4, h5, h6, h7, h8, h9, h10⟩ := h
  exact ⟨c, k, i, f, a, cell, h1, h2, h3, h4, h5, h6, h7, h8, h9, fun z => h10 (hAB _ z)⟩
theorem vx_L.word {C n d : String} {A : Nat → Prop} {s : State} {args : Array Value} (h : vx_L C n d A s s.heap) : (Cond.laysStatic C n d).before args s = true := by
  obtain ⟨c, k, i, f, a, cell, h1, h2, h3, h4, h5, h6, h7, h8, h9, -⟩ := h
  show (Cond.laysStatic C n d).holds args s none s [] = true
  exact Cond.laysStatic_of h1 h2 h3 h4 h5 h6 h7 h8 h9
/-- .. and what it holds: null or some reference -/
def vx_Zq (C n d : String) (A : Nat → Prop) (U : State) (H : Heap) : Prop := va_Zq C n d A U H ∧ vx_L C n d A U H
theorem vx_Zq.moved {C n d : String} {A : Nat → Prop} {u U : State} {H : Heap} (hvm : u.vm.Alike U.vm) (h : vx_Zq C n d A u H) : vx_Zq C n d A U H := ⟨va_Zq.moved hvm h.1, vx_L.moved hvm h.2⟩
theorem vx_Zq.kept {C n d : String} {A : Nat → Prop} {U : State} {H H1 : Heap} (h : vx_Zq C n d A U H) (hq : ∀ a : Nat, a < H.size → ¬ A a → H1[a]? = H[a]?) : vx_Zq C n d A U H1 := ⟨va_Zq.kept h.1 hq, vx_L.kept h.2 hq⟩
theorem vx_Zq.narrow {C n d : String} {A B : Nat → Prop} {U : State} {H : Heap} (h : vx_Zq C n d A U H) (hAB : ∀ q, B q → A q) : vx_Zq C n d B U H := ⟨va_Zq.narrow h.1 hAB, vx_L.narrow h.2 hAB⟩
theorem vx_Zqof {args : Array Value} {s : State} {C n d : String} {A : Nat → Prop} (hl : (Cond.laysStatic C n d).before args s = true) (hini : (Cond.initialized C).before args s = true) (h : (Cond.isRef (.static C n d)).before args s = true) (hA : ∀ a : Nat, a < s.heap.size → ¬ A a) : vx_Zq C n d A s s.heap := by
  refine ⟨va_Zqof hl hini h hA, ?_⟩
  obtain ⟨c, k, i, f, a, cell, h1, h2, h3, h4, h5, h6, h7, h8, h9⟩ := Cond.laysStatic_spec hl
  exact ⟨c, k, i, f, a, cell, h1, h2, h3, h4, h5, h6, h7, h8, h9, hA a (Array.getElem?_eq_some_iff.mp h5).1⟩
theorem vx_isRef {C n d : String} {v : Value} {A : Nat → Prop} {s : State} {args : Array Value} (h : va_Z C n d v A s s.heap) (hv : v.isRef = true) : (Cond.isRef (.static C n d)).before args s = true := by
  obtain ⟨cf, kf, fi, f, a, cell, h1, h2, h3, h4, h5, h6, h7, -⟩ := h
  have he : (Term.static C n d).eval args s none [] s = some v := by
    simp [Term.eval, State.fieldNamed?, h1, h2, h4, h5, h6, h7]
  simp only [Cond.before, Cond.holds, Cond.value, he]
  cases v <;> simp_all [Value.isRef]
theorem vx_isRefq {C n d : String} {A : Nat → Prop} {s : State} {args : Array Value} (h : va_Zq C n d A s s.heap) : (Cond.isRef (.static C n d)).before args s = true := by
  rcases h with h | ⟨t, h⟩
  · exact vx_isRef h rfl
  · exact vx_isRef h rfl
/-- the same frame, seen from here: as if the method were called anew in this heap -/
theorem vx_rebase {T : State} (X : Stand p l e R s m args below meth c T locs cells slots) {R' : Room} (hf : R'.frames ≤ R.frames) (hl : R'.locals ≤ R.locals) (hc : cells + R'.cells ≤ R.cells) (hs : slots + R'.slots ≤ R.slots) :
    Stand p l e R' ((T.setVm s.vm).setFrames (.invoking m args :: below)) m args below meth c T [] 0 0 := by
  have htop : (T.setVm s.vm).topJava?.isSome := X.here.top
  have hF : ((T.setVm s.vm).setFrames (.invoking m args :: below)).frames = .invoking m args :: below := State.frames_setFrames _ (State.cur_lt_of_top htop)
  obtain ⟨g₀, hg0⟩ := Option.isSome_iff_exists.mp htop
  obtain ⟨r, hr⟩ := State.topJava?_eq_some.mp hg0
  have hl9 : e.platform.stackLimits (T.setVm s.vm).me = e.platform.stackLimits s.me := X.limits
  have hb9 : (T.setVm s.vm).me.stackBytes = s.me.stackBytes := X.bytes
  refine ⟨X.admits, X.cas, X.clock, hF, ?_, X.hears, X.method, X.code, X.here, X.tail, X.warmed, ?_, ?_, ?_⟩
  · have h := X.room
    have hU : ((T.setVm s.vm).setFrames (.invoking m args :: below)).localsInUse = s.localsInUse := by
      rw [State.localsInUse_invoking hF (meth := meth) (c := c) X.method X.code, State.localsInUse_invoking X.frames X.method X.code]
    simp only [State.hasRoom, Bool.and_eq_true, decide_eq_true_eq] at h ⊢
    obtain ⟨⟨⟨⟨h1, h2, h3, h4, h5, h6⟩, h7⟩, h8⟩, h9⟩ := h
    rw [X.frames, List.length_cons] at h2 h3
    have q1 := X.heapSize
    have q2 := X.used
    simp only [hF, hU, List.length_cons, State.stackLimits_setFrames, State.stackBytes_setFrames, hl9, hb9]
    refine ⟨⟨⟨⟨by omega, by omega, by omega, by omega, by omega, h6⟩, ?_⟩, ?_⟩, X.book⟩
    · show T.heap.size + R'.cells ≤ e.platform.maxCells
      omega
    · show T.slotsUsed + R'.slots ≤ e.platform.maxSlots
      omega
  · rw [State.stackLimits_setFrames]; rfl
  · rw [State.stackBytes_setFrames]; rfl
  · refine ⟨?_, Nat.le_refl _, Nat.le_refl _, ?_, ?_, fun a c9 h9 => ⟨c9, h9, rfl, rfl, fun _ _ => rfl⟩⟩
    · obtain ⟨t, ht, -⟩ := State.frames_cons hr
      show T.setVm s.vm = { ((T.setVm s.vm).setFrames (.invoking m args :: below)).setFrames (T.setVm s.vm).frames with heap := T.heap, slotsUsed := T.slotsUsed }
      rw [State.setFrames_setFrames, State.setFrames_self ht]
      rfl
    · show T.slotsUsed = T.slotsUsed + ((T.heap.toList.drop T.heap.size).map (·.slots.size)).sum
      rw [List.drop_eq_nil_of_le (Nat.le_of_eq Array.length_toList)]
      rfl
    · show ((T.heap.toList.drop T.heap.size).map (·.slots.size)).sum ≤ 0
      rw [List.drop_eq_nil_of_le (Nat.le_of_eq Array.length_toList)]
      exact Nat.le_refl _
/-- 'throw new E()': new; dup; invokespecial; athrow -/
theorem vx_throw0 {cc : ByteArray} {pc : Nat} (hexec : p.tables.exec = Jvm.exec) (hb : c.code = cc) (hl : l.stackTraces = false) {own cls : String} {names : List String} {ik ic mc ms : Nat} {A : Nat → Prop}
    (hown : s.vm.findClass own = some m.cls) (hcls : Bundle.fit cls = true) (hnames : ∀ n ∈ names, Bundle.fit n = true)
    (hk : (Cond.classLink own ik cls).before args s = true) (hini : (Cond.initialized cls).before args s = true) (hat : ∀ w ∈ vx_at0 own ic cls names, w.before args s = true)
    (hgood : ∀ w ∈ Cond.classLink own ik cls :: Cond.initialized cls :: vx_at0 own ic cls names, vx_ot w = true)
    (hU : vx_Zq Bundle.tN "UNASSIGNED_STACK" Bundle.steD A s s.heap) (hN : vx_Zq Bundle.tN "SUPPRESSED_SENTINEL" Bundle.listD A s s.heap) (hS : va_S A s.heap H locs) (hsize : ls.size = c.maxLocals)
    (d0 : decode cc pc = .ok (.new ik, 3)) (d3 : decode cc (pc + 3) = .ok (.dup, 1)) (d4 : decode cc (pc + 4) = .ok (.invokespecial ic, 3)) (d7 : decode cc (pc + 7) = .ok (.athrow, 1))
    (hout : ∀ x ∈ c.exceptionTable.toList, covers x (pc + 7) = false)
    (hRframes : names.length + 3 < R.frames) (hRlocals : (rest.map fun v => v.category).sum + (13 * (names.length + 1) + 42) ≤ R.locals) (hRcells : cells + 1 ≤ R.cells) (hRslots : slots + 6 ≤ R.slots) (hlocks : meth.locks = false)
    (hx : ∀ t : State, s.vm.Alike t.vm → H.size ≤ t.heap.size → (∀ q : Nat, q < H.size → t.heap[q]? = H[q]?) → XC cls s t)
    (hf : ∀ z ∈ locs, free z.base) (hc : cells + 1 ≤ mc) (hs : slots + 6 ≤ ms) :
    W p l e R s m args below meth c H locs cells slots (vx_MQ below Qc XC args s mc ms free) (F0 m pc ls rest) := by
  intro T hT X
  have htr : e.platform.stackTraces = false := (show e.platform.stackTraces = l.stackTraces by rw [X.admits.platform]).trans hl
  have Y := vx_rebase X (R' := { frames := R.frames, locals := R.locals, cells := 1, slots := 6 }) (Nat.le_refl _) (Nat.le_refl _) hRcells hRslots
  obtain ⟨s', hA⟩ : ∃ z, z = (T.setVm s.vm).setFrames (.invoking m args :: below) := ⟨_, rfl⟩
  rw [← hA] at Y
  have hvm : s'.vm = s.vm := by rw [hA]; rfl
  have hhp : s'.heap = H := by rw [hA]; exact hT
  have hW0 : s.WarmedH s'.vm := by rw [hvm]; exact State.WarmedH.refl s
  have hat' : ∀ w ∈ vx_at0 own ic cls names, w.before args s' = true := fun w hw => vx_ot_at hW0 hvm.symm (hgood w (List.mem_cons_of_mem _ (List.mem_cons_of_mem _ hw))) (hat w hw)
  have hk' : (Cond.classLink own ik cls).before args s' = true := vx_ot_at hW0 hvm.symm (hgood _ List.mem_cons_self) hk
  have hini' : (Cond.initialized cls).before args s' = true := vx_ot_at hW0 hvm.symm (hgood _ (List.mem_cons_of_mem _ List.mem_cons_self)) hini
  have hU' : vx_Zq Bundle.tN "UNASSIGNED_STACK" Bundle.steD A s' s'.heap := by rw [hhp]; exact vx_Zq.moved hW0.alike (hU.kept hS.2.1)
  have hN' : vx_Zq Bundle.tN "SUPPRESSED_SENTINEL" Bundle.listD A s' s'.heap := by rw [hhp]; exact vx_Zq.moved hW0.alike (hN.kept hS.2.1)
  have h : ∀ w ∈ Bundle.ownAtoms0 own ic cls names, w.before args s' = true := vx_own hat' (vx_isRefq hU'.1) (vx_isRefq hN'.1) hU'.2.word hN'.2.word
  have hown' : s'.vm.findClass own = some m.cls := by rw [hvm]; exact hown
  have hins : (Cond.instantiable cls 6).before args s' = true := h _ (by simp [Bundle.ownAtoms0])
  obtain ⟨vm₁, cX, kX, hfX, hkX, -, -, X₁, st1⟩ := Y.newCold hexec (own := own) (C := cls) (index := ik) (n := 6) hown' hk' hins hini'
    (g := F0 m pc ls rest) rfl (by rw [hb]; exact d0) (Nat.le_refl _) (Nat.le_refl _)
  generalize hT1 : (T.setVm vm₁).pushCell { cls := cX, slots := kX.instanceTypes.map defaultValue, vm := .none } = T1 at X₁ st1
  have hcat : (Value.ref T.heap.size).category = 1 := rfl
  have hcellA : T1.heap[T.heap.size]? = some (freshCell cX kX) := by rw [← hT1]; exact State.heap_pushCell_size _ _
  have d3' : decode c.code (pc + 3) = .ok (.dup, 1) := by rw [hb]; exact d3
  obtain ⟨U, hsteps, hrun, hend, hW, hsame, ce, hce, hO⟩ := X₁.ctorThrow0 hexec htr (own := own) (cls := cls) (names := names) (ic := ic) hown' hcls hnames h (fun x hx => nomatch hx) hfX hkX hcellA (by rw [hhp, hT]; exact Nat.le_refl _)
    (g := { method := m, pc := pc + 4, locals := ls, stack := .ref T.heap.size :: .ref T.heap.size :: rest, locked := none }) rfl hsize rfl rfl (rest := rest) rfl
    (by rw [hb]; exact d4) (by rw [hb]; exact d7) hout hRframes (by simp only [List.map_cons, List.sum_cons, hcat]; omega) hlocks
  obtain ⟨f1, f2⟩ := vx_frame hsame
  rw [hhp] at f1 f2
  have hWs : s.WarmedH U.vm := State.WarmedH.trans hW0 hW
  have hcl : s.vm.findClass cls = some ce.cls := by
    have h9 := hO.cls
    rw [hvm] at h9
    exact h9
  have hall : s.sameButNew ({ U with vm := s.vm } : State) locs mc ms := by
    subst hA
    obtain ⟨e1, e2⟩ := hsame
    rw [State.setFrames_setFrames] at e1
    have h2 : (T.setVm s.vm).sameButNew ({ U with vm := s.vm } : State) [] (0 + 1) (0 + 6) := ⟨e1, e2⟩
    have h3 := X.same.trans h2
    rw [List.append_nil] at h3
    exact h3.mono hc hs
  refine ⟨U, ?_, .threw T.heap.size, hrun, hend, Or.inr ⟨T.heap.size, rfl, cls, ce, locs, hx U hWs.alike f1 (fun q hq => f2 q hq (fun z hz => nomatch hz)), hce, hO.vm, hcl, hWs, hall, hf⟩⟩
  refine st1 _ ?_
  show Steps p.tables e below (T1.setTop { method := m, pc := pc + 3, locals := ls, stack := .ref T.heap.size :: rest, locked := none }) _
  jvm_step X₁.here [X₁.here.top, hexec, d3', Value.category]
  exact hsteps
/-- 'throw new E("text")': new; dup; ldc; invokespecial; athrow -/
theorem vx_throwS {cc : ByteArray} {pc : Nat} (hexec : p.tables.exec = Jvm.exec) (hb : c.code = cc) (hl : l.stackTraces = false) {own cls text : String} {names : List String} {ik is ic mc ms sa : Nat} {A : Nat → Prop}
    (hown : s.vm.findClass own = some m.cls) (hcls : Bundle.fit cls = true) (hnames : ∀ n ∈ names, Bundle.fit n = true)
    (hk : (Cond.classLink own ik cls).before args s = true) (hini : (Cond.initialized cls).before args s = true) (hstr : vk_R own is text sa s) (hat : ∀ w ∈ vx_atS own ic cls names, w.before args s = true)
    (hgood : ∀ w ∈ Cond.classLink own ik cls :: Cond.initialized cls :: vx_atS own ic cls names, vx_ot w = true)
    (hU : vx_Zq Bundle.tN "UNASSIGNED_STACK" Bundle.steD A s s.heap) (hN : vx_Zq Bundle.tN "SUPPRESSED_SENTINEL" Bundle.listD A s s.heap) (hS : va_S A s.heap H locs) (hsize : ls.size = c.maxLocals)
    (d0 : decode cc pc = .ok (.new ik, 3)) (d3 : decode cc (pc + 3) = .ok (.dup, 1)) (d4 : decode cc (pc + 4) = .ok (.ldc is, 2)) (d6 : decode cc (pc + 6) = .ok (.invokespecial ic, 3)) (d9 : decode cc (pc + 9) = .ok (.athrow, 1))
    (hout : ∀ x ∈ c.exceptionTable.toList, covers x (pc + 9) = false)
    (hRframes : names.length + 3 < R.frames) (hRlocals : (rest.map fun v => v.category).sum + (13 * (names.length + 1) + 43) ≤ R.locals) (hRcells : cells + 1 ≤ R.cells) (hRslots : slots + 6 ≤ R.slots) (hlocks : meth.locks = false)
    (hx : ∀ t : State, s.vm.Alike t.vm → H.size ≤ t.heap.size → (∀ q : Nat, q < H.size → t.heap[q]? = H[q]?) → XC cls s t)
    (hf : ∀ z ∈ locs, free z.base) (hc : cells + 1 ≤ mc) (hs : slots + 6 ≤ ms) :
    W p l e R s m args below meth c H locs cells slots (vx_MQ below Qc XC args s mc ms free) (F0 m pc ls rest) := by
  intro T hT X
  have htr : e.platform.stackTraces = false := (show e.platform.stackTraces = l.stackTraces by rw [X.admits.platform]).trans hl
  have Y := vx_rebase X (R' := { frames := R.frames, locals := R.locals, cells := 1, slots := 6 }) (Nat.le_refl _) (Nat.le_refl _) hRcells hRslots
  obtain ⟨s', hA⟩ : ∃ z, z = (T.setVm s.vm).setFrames (.invoking m args :: below) := ⟨_, rfl⟩
  rw [← hA] at Y
  have hvm : s'.vm = s.vm := by rw [hA]; rfl
  have hhp : s'.heap = H := by rw [hA]; exact hT
  have hW0 : s.WarmedH s'.vm := by rw [hvm]; exact State.WarmedH.refl s
  have hat' : ∀ w ∈ vx_atS own ic cls names, w.before args s' = true := fun w hw => vx_ot_at hW0 hvm.symm (hgood w (List.mem_cons_of_mem _ (List.mem_cons_of_mem _ hw))) (hat w hw)
  have hk' : (Cond.classLink own ik cls).before args s' = true := vx_ot_at hW0 hvm.symm (hgood _ List.mem_cons_self) hk
  have hini' : (Cond.initialized cls).before args s' = true := vx_ot_at hW0 hvm.symm (hgood _ (List.mem_cons_of_mem _ List.mem_cons_self)) hini
  have hU' : vx_Zq Bundle.tN "UNASSIGNED_STACK" Bundle.steD A s' s'.heap := by rw [hhp]; exact vx_Zq.moved hW0.alike (hU.kept hS.2.1)
  have hN' : vx_Zq Bundle.tN "SUPPRESSED_SENTINEL" Bundle.listD A s' s'.heap := by rw [hhp]; exact vx_Zq.moved hW0.alike (hN.kept hS.2.1)
  have h : ∀ w ∈ Bundle.ownAtoms own ic cls names, w.before args s' = true := vx_own hat' (vx_isRefq hU'.1) (vx_isRefq hN'.1) hU'.2.word hN'.2.word
  have hown' : s'.vm.findClass own = some m.cls := by rw [hvm]; exact hown
  have hins : (Cond.instantiable cls 6).before args s' = true := h _ (by simp [Bundle.ownAtoms])
  obtain ⟨vm₁, cX, kX, hfX, hkX, -, -, X₁, st1⟩ := Y.newCold hexec (own := own) (C := cls) (index := ik) (n := 6) hown' hk' hins hini'
    (g := F0 m pc ls rest) rfl (by rw [hb]; exact d0) (Nat.le_refl _) (Nat.le_refl _)
  generalize hT1 : (T.setVm vm₁).pushCell { cls := cX, slots := kX.instanceTypes.map defaultValue, vm := .none } = T1 at X₁ st1
  have hcat : (Value.ref T.heap.size).category = 1 := rfl
  have hcellA : T1.heap[T.heap.size]? = some (freshCell cX kX) := by rw [← hT1]; exact State.heap_pushCell_size _ _
  have d3' : decode c.code (pc + 3) = .ok (.dup, 1) := by rw [hb]; exact d3
  have d4' : decode c.code (pc + 4) = .ok (.ldc is, 2) := by rw [hb]; exact d4
  have hstr' : vk_R own is text sa s' := vk_R.warm hW0 hstr
  obtain ⟨U, hsteps, hrun, hend, hW, hsame, ce, hce, hO⟩ := X₁.ctorThrowS hexec htr (own := own) (cls := cls) (names := names) (ic := ic) hown' hcls hnames h (fun x hx => nomatch hx) hfX hkX hcellA (by rw [hhp, hT]; exact Nat.le_refl _) (msg := .ref sa) rfl
    (g := { method := m, pc := pc + 6, locals := ls, stack := .ref sa :: .ref T.heap.size :: .ref T.heap.size :: rest, locked := none }) rfl hsize rfl rfl (rest := rest) rfl
    (by rw [hb]; exact d6) (by rw [hb]; exact d9) hout hRframes (by simp only [List.map_cons, List.sum_cons, hcat]; omega) hlocks
  obtain ⟨f1, f2⟩ := vx_frame hsame
  rw [hhp] at f1 f2
  have hWs : s.WarmedH U.vm := State.WarmedH.trans hW0 hW
  have hcl : s.vm.findClass cls = some ce.cls := by
    have h9 := hO.cls
    rw [hvm] at h9
    exact h9
  have hall : s.sameButNew ({ U with vm := s.vm } : State) locs mc ms := by
    subst hA
    obtain ⟨e1, e2⟩ := hsame
    rw [State.setFrames_setFrames] at e1
    have h2 : (T.setVm s.vm).sameButNew ({ U with vm := s.vm } : State) [] (0 + 1) (0 + 6) := ⟨e1, e2⟩
    have h3 := X.same.trans h2
    rw [List.append_nil] at h3
    exact h3.mono hc hs
  refine ⟨U, ?_, .threw T.heap.size, hrun, hend, Or.inr ⟨T.heap.size, rfl, cls, ce, locs, hx U hWs.alike f1 (fun q hq => f2 q hq (fun z hz => nomatch hz)), hce, hO.vm, hcl, hWs, hall, hf⟩⟩
  refine st1 _ ?_
  show Steps p.tables e below (T1.setTop { method := m, pc := pc + 3, locals := ls, stack := .ref T.heap.size :: rest, locked := none }) _
  jvm_step X₁.here [X₁.here.top, hexec, d3', Value.category]
  exact X₁.ldcString hexec (own := own) (text := text) (index := is) (a := sa) hown' hstr'.1 hstr'.2
    (g := { method := m, pc := pc + 4, locals := ls, stack := .ref T.heap.size :: .ref T.heap.size :: rest, locked := none }) rfl d4' _ hsteps
/-- 'throw new E("text")', the text by a wide index -/
theorem vx_throwSW {cc : ByteArray} {pc : Nat} (hexec : p.tables.exec = Jvm.exec) (hb : c.code = cc) (hl : l.stackTraces = false) {own cls text : String} {names : List String} {ik is ic mc ms sa : Nat} {A : Nat → Prop}
    (hown : s.vm.findClass own = some m.cls) (hcls : Bundle.fit cls = true) (hnames : ∀ n ∈ names, Bundle.fit n = true)
    (hk : (Cond.classLink own ik cls).before args s = true) (hini : (Cond.initialized cls).before args s = true) (hstr : vk_R own is text sa s) (hat : ∀ w ∈ vx_atS own ic cls names, w.before args s = true)
    (hgood : ∀ w ∈ Cond.classLink own ik cls :: Cond.initialized cls :: vx_atS own ic cls names, vx_ot w = true)
    (hU : vx_Zq Bundle.tN "UNASSIGNED_STACK" Bundle.steD A s s.heap) (hN : vx_Zq Bundle.tN "SUPPRESSED_SENTINEL" Bundle.listD A s s.heap) (hS : va_S A s.heap H locs) (hsize : ls.size = c.maxLocals)
    (d0 : decode cc pc = .ok (.new ik, 3)) (d3 : decode cc (pc + 3) = .ok (.dup, 1)) (d4 : decode cc (pc + 4) = .ok (.ldc_w is, 3)) (d7 : decode cc (pc + 7) = .ok (.invokespecial ic, 3)) (d10 : decode cc (pc + 10) = .ok (.athrow, 1))
    (hout : ∀ x ∈ c.exceptionTable.toList, covers x (pc + 10) = false)
    (hRframes : names.length + 3 < R.frames) (hRlocals : (rest.map fun v => v.category).sum + (13 * (names.length + 1) + 43) ≤ R.locals) (hRcells : cells + 1 ≤ R.cells) (hRslots : slots + 6 ≤ R.slots) (hlocks : meth.locks = false)
    (hx : ∀ t : State, s.vm.Alike t.vm → H.size ≤ t.heap.size → (∀ q : Nat, q < H.size → t.heap[q]? = H[q]?) → XC cls s t)
    (hf : ∀ z ∈ locs, free z.base) (hc : cells + 1 ≤ mc) (hs : slots + 6 ≤ ms) :
    W p l e R s m args below meth c H locs cells slots (vx_MQ below Qc XC args s mc ms free) (F0 m pc ls rest) := by
  intro T hT X
  have htr : e.platform.stackTraces = false := (show e.platform.stackTraces = l.stackTraces by rw [X.admits.platform]).trans hl
  have Y := vx_rebase X (R' := { frames := R.frames, locals := R.locals, cells := 1, slots := 6 }) (Nat.le_refl _) (Nat.le_refl _) hRcells hRslots
  obtain ⟨s', hA⟩ : ∃ z, z = (T.setVm s.vm).setFrames (.invoking m args :: below) := ⟨_, rfl⟩
  rw [← hA] at Y
  have hvm : s'.vm = s.vm := by rw [hA]; rfl
  have hhp : s'.heap = H := by rw [hA]; exact hT
  have hW0 : s.WarmedH s'.vm := by rw [hvm]; exact State.WarmedH.refl s
  have hat' : ∀ w ∈ vx_atS own ic cls names, w.before args s' = true := fun w hw => vx_ot_at hW0 hvm.symm (hgood w (List.mem_cons_of_mem _ (List.mem_cons_of_mem _ hw))) (hat w hw)
  have hk' : (Cond.classLink own ik cls).before args s' = true := vx_ot_at hW0 hvm.symm (hgood _ List.mem_cons_self) hk
  have hini' : (Cond.initialized cls).before args s' = true := vx_ot_at hW0 hvm.symm (hgood _ (List.mem_cons_of_mem _ List.mem_cons_self)) hini
  have hU' : vx_Zq Bundle.tN "UNASSIGNED_STACK" Bundle.steD A s' s'.heap := by rw [hhp]; exact vx_Zq.moved hW0.alike (hU.kept hS.2.1)
  have hN' : vx_Zq Bundle.tN "SUPPRESSED_SENTINEL" Bundle.listD A s' s'.heap := by rw [hhp]; exact vx_Zq.moved hW0.alike (hN.kept hS.2.1)
  have h : ∀ w ∈ Bundle.ownAtoms own ic cls names, w.before args s' = true := vx_own hat' (vx_isRefq hU'.1) (vx_isRefq hN'.1) hU'.2.word hN'.2.word
  have hown' : s'.vm.findClass own = some m.cls := by rw [hvm]; exact hown
  have hins : (Cond.instantiable cls 6).before args s' = true := h _ (by simp [Bundle.ownAtoms])
  obtain ⟨vm₁, cX, kX, hfX, hkX, -, -, X₁, st1⟩ := Y.newCold hexec (own := own) (C := cls) (index := ik) (n := 6) hown' hk' hins hini'
    (g := F0 m pc ls rest) rfl (by rw [hb]; exact d0) (Nat.le_refl _) (Nat.le_refl _)
  generalize hT1 : (T.setVm vm₁).pushCell { cls := cX, slots := kX.instanceTypes.map defaultValue, vm := .none } = T1 at X₁ st1
  have hcat : (Value.ref T.heap.size).category = 1 := rfl
  have hcellA : T1.heap[T.heap.size]? = some (freshCell cX kX) := by rw [← hT1]; exact State.heap_pushCell_size _ _
  have d3' : decode c.code (pc + 3) = .ok (.dup, 1) := by rw [hb]; exact d3
  have d4' : decode c.code (pc + 4) = .ok (.ldc_w is, 3) := by rw [hb]; exact d4
  have hstr' : vk_R own is text sa s' := vk_R.warm hW0 hstr
  obtain ⟨U, hsteps, hrun, hend, hW, hsame, ce, hce, hO⟩ := X₁.ctorThrowS hexec htr (own := own) (cls := cls) (names := names) (ic := ic) hown' hcls hnames h (fun x hx => nomatch hx) hfX hkX hcellA (by rw [hhp, hT]; exact Nat.le_refl _) (msg := .ref sa) rfl
    (g := { method := m, pc := pc + 7, locals := ls, stack := .ref sa :: .ref T.heap.size :: .ref T.heap.size :: rest, locked := none }) rfl hsize rfl rfl (rest := rest) rfl
    (by rw [hb]; exact d7) (by rw [hb]; exact d10) hout hRframes (by simp only [List.map_cons, List.sum_cons, hcat]; omega) hlocks
  obtain ⟨f1, f2⟩ := vx_frame hsame
  rw [hhp] at f1 f2
  have hWs : s.WarmedH U.vm := State.WarmedH.trans hW0 hW
  have hcl : s.vm.findClass cls = some ce.cls := by
    have h9 := hO.cls
    rw [hvm] at h9
    exact h9
  have hall : s.sameButNew ({ U with vm := s.vm } : State) locs mc ms := by
    subst hA
    obtain ⟨e1, e2⟩ := hsame
    rw [State.setFrames_setFrames] at e1
    have h2 : (T.setVm s.vm).sameButNew ({ U with vm := s.vm } : State) [] (0 + 1) (0 + 6) := ⟨e1, e2⟩
    have h3 := X.same.trans h2
    rw [List.append_nil] at h3
    exact h3.mono hc hs
  refine ⟨U, ?_, .threw T.heap.size, hrun, hend, Or.inr ⟨T.heap.size, rfl, cls, ce, locs, hx U hWs.alike f1 (fun q hq => f2 q hq (fun z hz => nomatch hz)), hce, hO.vm, hcl, hWs, hall, hf⟩⟩
  refine st1 _ ?_
  show Steps p.tables e below (T1.setTop { method := m, pc := pc + 3, locals := ls, stack := .ref T.heap.size :: rest, locked := none }) _
  jvm_step X₁.here [X₁.here.top, hexec, d3', Value.category]
  exact X₁.ldcStringW hexec (own := own) (text := text) (index := is) (a := sa) hown' hstr'.1 hstr'.2
    (g := { method := m, pc := pc + 4, locals := ls, stack := .ref T.heap.size :: .ref T.heap.size :: rest, locked := none }) rfl d4' _ hsteps
end Ends
section Bodies
variable {l : Launch}
theorem vx_ofW {y : MethodName} {ws ws' : List Cond} {rm : Room} {Pc : Array Value → State → Prop} {Qc : Array Value → State → Outcome → State → Prop} {XC : String → State → State → Prop} {mc ms : Nat} {free : Addr → Prop} {cc : ByteArray} {maxL : Nat} {ret : Option FieldType}
    (hy : plainName y.cls = true) (hw : ws = Cond.code y cc maxL ret :: ws')
    (body : ∀ p e s m args below meth c s₁, BodyLoose p l y (headSpec ws rm) cc maxL ret e s m args below meth c s₁ → c.maxLocals = maxL → (∀ x ∈ c.exceptionTable.toList, False) → Pc args s →
      W p l e (headSpec ws rm).room s m args below meth c s.heap [] 0 0 (vx_MQ below Qc XC args s mc ms free) (entryFrame m args maxL)) : vx_Met l y ws rm Pc Qc XC mc ms free := by
  refine MetFree.of_bodyS (code := cc) (maxLocals := maxL) (ret := ret) hy ?_ ?_
  · intro args s m h hn
    obtain ⟨meth, c, h1, h2, h3, h4, h5, h6, -, -⟩ := Cond.code_spec hn (atoms_spec (ws := ws) h _ (by rw [hw]; exact List.mem_cons_self))
    exact ⟨meth, c, h1, h2, h3, h4, h5, h6⟩
  · intro p e s m args below meth c s₁ B hml hP _
    have hh0 : s₁.heap = s.heap := by rw [B.state]; rfl
    have ht : ∀ x ∈ c.exceptionTable.toList, False := by
      obtain ⟨meth9, c9, h1, h2, -, -, -, -, h7, -⟩ := Cond.code_spec B.named (atoms_spec (ws := ws) B.pre _ (by rw [hw]; exact List.mem_cons_self))
      cases Option.some.inj (h1.symm.trans B.method)
      cases Option.some.inj (h2.symm.trans (Stand.of_body B).code)
      intro x hx
      rw [Array.isEmpty_iff.mp h7] at hx
      cases hx
    obtain ⟨t, a1, o, b1, b2, b3⟩ := body p e s m args below meth c s₁ B hml ht hP s₁ hh0 (Stand.of_body B)
    exact ⟨t, o, a1, b1, b2, b3⟩
/-- the table of a body with handlers -/
theorem vx_table {p : Program} {x y : MethodName} {S : Spec} {cc bytes : ByteArray} {maxL maxL' : Nat} {ret ret' : Option FieldType} {e : Env} {s s₁ : State} {m : MethodId} {args : Array Value} {below : List Frame} {meth : Method} {c : Code} {hh : List (Nat × Nat × Nat × Nat)}
    (B : BodyLoose p l y S cc maxL ret e s m args below meth c s₁) (h : (Cond.codeWith y bytes maxL' ret' hh).before args s = true) : c.exceptionTable.toList = tableOf hh := by
  obtain ⟨m9, meth9, c9, hn9, h1, h2, -, -, h6, -⟩ := Cond.codeWith_spec h
  cases Option.some.inj (hn9.symm.trans B.named)
  cases Option.some.inj (h1.symm.trans B.method)
  cases Option.some.inj (h2.symm.trans (Stand.of_body B).code)
  rw [← h6, table_eq]
end Bodies
end VXA
/-! ===== END ===== -/
/-! ===== BEGIN a static call of a method with an exception table ===== -/
section VXS
variable {p : Program} {l : Launch} {e : Env} {R : Room} {s : State} {m : MethodId} {args : Array Value} {below : List Frame} {meth : Method} {c : Code} {T : State} {H : Heap} {locs : List Loc} {cells slots : Nat}
abbrev vx_CSW (R : Room) (s : State) (args : Array Value) (own : String) (index : Nat) (y : MethodName) (bytes : ByteArray) (maxL : Nat) (ret : Option FieldType) (hh : List (Nat × Nat × Nat × Nat)) (ws : List Cond) (rm : Room) (mc ms n : Nat) : Prop :=
  (rm.cells = mc ∧ rm.slots = ms ∧ rm.frames + 1 ≤ R.frames ∧ 8 + (maxL + 11) + rm.locals ≤ R.locals ∧ (∀ w ∈ ws, ∀ (a' : Array Value) (U : State), s.WarmedH U.vm → w.before a' U = true) ∧ Cond.codeWith y bytes maxL ret hh ∈ ws) ∧
  (Cond.codeWith y bytes maxL ret hh).before args s = true ∧ (Cond.initialized y.cls).before args s = true ∧ (y.cls ≠ "java/lang/invoke/MethodHandle" ∧ y.cls ≠ "java/lang/invoke/VarHandle") ∧
  (∀ sig, parseMethodDescriptor y.desc = some sig → n = sig.parameters.length) ∧ (Cond.methodLink own index y).before args s = true ∧ (Cond.static y).before args s = true
theorem vx_cwSW {own : String} {index maxL mc ms : Nat} {y : MethodName} {bytes : ByteArray} {ret : Option FieldType} {hh : List (Nat × Nat × Nat × Nat)} {Ts ws ws' : List Cond} {rm : Room} (n : Nat) (ht : ∀ w ∈ Ts, w.before args s = true) (hT : GoodIn Ts (va_wsS own index y ws)) (hw : ws = Cond.codeWith y bytes maxL ret hh :: ws') (hrc : rm.cells = mc) (hrs : rm.slots = ms)
    (hd : y.cls ≠ "java/lang/invoke/MethodHandle" ∧ y.cls ≠ "java/lang/invoke/VarHandle" ∧ (parseMethodDescriptor y.desc).map (fun d => d.parameters.length) = some n) (hR : rm.frames + 1 ≤ R.frames ∧ 8 + (maxL + 11) + rm.locals ≤ R.locals) :
    vx_CSW R s args own index y bytes maxL ret hh ws rm mc ms n := by
  have ok : ∀ w ∈ va_wsS own index y ws, w.before args s = true := fun w h => ht w (hT w h).1
  have hG : GoodIn Ts ws := fun w h => hT w (by unfold va_wsS; exact List.mem_append_right _ h)
  have hc : Cond.codeWith y bytes maxL ret hh ∈ ws := by rw [hw]; exact List.mem_cons_self
  refine ⟨⟨hrc, hrs, hR.1, hR.2, pay_in ht hG, hc⟩, ht _ (hG _ hc).1, ok _ (by simp [va_wsS]), ⟨hd.1, hd.2.1⟩, fun sig h => ?_, ok _ (by simp [va_wsS]), ok _ (by simp [va_wsS])⟩
  have h2 := hd.2.2
  rw [h] at h2
  exact (Option.some.inj h2).symm
theorem vx_callSW (X : Stand p l e R s m args below meth c T locs cells slots) (hexec : p.tables.exec = Jvm.exec) {own : String} {index : Nat} {y : MethodName} {bytes : ByteArray} {maxL : Nat} {ret : Option FieldType} {hh : List (Nat × Nat × Nat × Nat)}
    (hown : s.vm.findClass own = some m.cls) (hlink : (Cond.methodLink own index y).before args s = true) (hstat : (Cond.static y).before args s = true) (hinit : (Cond.initialized y.cls).before args s = true)
    (hcode : (Cond.codeWith y bytes maxL ret hh).before args s = true) (hy : y.cls ≠ "java/lang/invoke/MethodHandle" ∧ y.cls ≠ "java/lang/invoke/VarHandle")
    {W9 : Nat} {Pre : Pt → Array Value → Prop} {Post : Pt → Array Value → Option Value → Pt → Prop} (hK : Back l R p e below s args y 3 W9 Pre Post)
    {g : JFrame} (hg : g.method = m) (hsize : g.locals.size = c.maxLocals) {argsL rest : List Value} (hlen : ∀ sig, parseMethodDescriptor y.desc = some sig → argsL.length = sig.parameters.length)
    (hstack : g.stack = argsL.reverse ++ rest) (hW : 2 * g.monitorRoom + (rest.map fun v => v.category).sum ≤ W9) (hdg : decode c.code g.pc = .ok (.invokestatic index, 3))
    (hpre : ∀ vm₁, s.WarmedH vm₁ → Pre ⟨T.setVm vm₁, locs, cells, slots⟩ argsL.toArray) :
    ∃ (v : Option Value) (vm₁ : Vm) (B : Pt), s.WarmedH vm₁ ∧ Stand p l e R s m args below meth c B.U B.locs B.cells B.slots ∧ Post ⟨T.setVm vm₁, locs, cells, slots⟩ argsL.toArray v B ∧
      ∀ target, Steps p.tables e below (B.U.setTop { g with pc := g.pc + 3, stack := v.toList ++ rest }) target → Steps p.tables e below (T.setTop g) target := by
  obtain ⟨mk, methM, cM, hnamed, hmethM, -, -, -, -, -, -, hsigM⟩ := Cond.codeWith_spec hcode
  have hstatic : methM.isStatic = true := Cond.static_spec hnamed hmethM hstat
  obtain ⟨kP, hkP, -⟩ := className_of_methodNamed hnamed
  have hinitP : kP.init = .initialized := Cond.initialized_spec (findClass_of_methodNamed hnamed) hkP hinit
  obtain ⟨vm₁, X₁, hstep₁⟩ := X.invokestatic hexec hown hlink hnamed hmethM hstatic hkP hinitP hy (g := g) hg (argsL := argsL) (rest := rest) (hlen _ hsigM) hstack hdg
  obtain ⟨v, B, X', hpost, hsteps⟩ := hK m meth c ⟨T.setVm vm₁, locs, cells, slots⟩ { g with stack := rest } (.invokestatic index) mk argsL.toArray X₁ hg hsize hdg hW (X₁.named hnamed) (hpre vm₁ X₁.warmed)
  exact ⟨v, vm₁, B, X₁.warmed, X', hpost, fun target h => hstep₁ _ fun acts => by rw [doInvoke_state]; exact hsteps.trans h⟩
theorem vx_runSW {y : MethodName} {bytes cc : ByteArray} {maxL nL mc ms n index : Nat} {ret : Option FieldType} {hh : List (Nat × Nat × Nat × Nat)} {ws : List Cond} {rm : Room} {Pc : Array Value → State → Prop} {Qc : Array Value → State → Outcome → State → Prop} {free : Addr → Prop} {Ts : List Cond} {own : String} {As rest : List Value} {g : JFrame}
    (S : CallFix p m c cc nL s args Ts own) (hM : Met l y ws rm Pc Qc mc ms free) (cw : vx_CSW R s args own index y bytes maxL ret hh ws rm mc ms n) (hp : PreS s H Pc As)
    (hg : g.method = m) (hn : As.length = n) (hsize : g.locals.size = nL) (hstack : g.stack = As.reverse ++ rest) (hW : 2 * g.monitorRoom + (rest.map fun v => v.category).sum ≤ 8) (hdg : decode cc g.pc = .ok (.invokestatic index, 3)) (hf : cells + mc ≤ R.cells ∧ slots + ms ≤ R.slots) :
    va_Run p l e R s m args below meth c H locs cells slots mc ms g rest (Qc As.toArray) (free) := by
  obtain ⟨⟨hrc, hrs, hfr, hlo, hws, hcw⟩, hcode, hini, hy, hlen, hl, hstt⟩ := cw
  have hK : Back l R p e below s args y 3 8 (PreOf R mc ms Pc) (PostOf Qc mc ms free) := va_backW (hh := hh) (bytes := bytes) (maxL := maxL) (ret := ret) hM hp.1 hrc hrs hfr hlo hws hcw (fun a' U hW => word_at hW (Or.inl (by first | rfl | simp [Cond.onTables, Cond.keeps, Cond.steady])) hini)
  obtain ⟨hx, hb, hml, ho, -⟩ := S
  intro T hT X
  obtain ⟨v, vm₁, ⟨U', l2, c2, s2⟩, hW₁, X', ⟨g', mk, t, L, e1, e2, hq, h1, hL, h2, h3⟩, st⟩ := vx_callSW X hx (hh := hh) (bytes := bytes) (maxL := maxL) (ret := ret) ho hl hstt hini hcode hy hK hg (hsize.trans hml.symm) (argsL := As) (rest := rest) (fun sig h => hn.trans (hlen sig h)) hstack hW (by rw [hb]; exact hdg)
    (fun vm₁ hW₁ => ⟨hf.1, hf.2, hp.2 (T.setVm vm₁) hT hW₁⟩)
  dsimp only [Pt.U, Pt.locs, Pt.cells, Pt.slots] at X' e1 e2 h1 h2 h3 st
  subst h1; subst h2; subst h3
  exact ⟨v, (T.setVm vm₁).calling g' mk As.toArray, t, U', L, hT, X', hL, e1, e2, hq, st⟩
/-- not caught here, past rows that name other classes: it goes on to the caller -/
theorem vx_outP {p : Program} {l : Launch} {e : Env} {R : Room} {s : State} {m : MethodId} {args : Array Value} {below : List Frame} {meth : Method} {c : Code} {H : Heap} {locs : List Loc} {cells slots : Nat} {free : Addr → Prop} {ls : Array Slot} {rest : List Value} {Qc : Array Value → State → Outcome → State → Prop} {XC : String → State → State → Prop}
    {pc : Nat} {own E : String} {ce : Cell} {q : Addr} {mc ms : Nat} (hown : s.vm.findClass own = some m.cls) (hlocks : meth.locks = false)
    (hpass : ∀ z ∈ c.exceptionTable.toList, covers z pc = false ∨ (z.catchType ≠ 0 ∧ ∃ nm : String, (Cond.classLink own z.catchType nm).before args s = true ∧ va_Nc E nm s)) (hcell : H[q]? = some ce) (hv : ce.vm = .none) (hcl : s.vm.findClass E = some ce.cls)
    (hx : ∀ t : State, t.heap = H → s.vm.Alike t.vm → XC E s t) (hf : ∀ z ∈ locs, free z.base) (hc : cells ≤ mc) (hs : slots ≤ ms) :
    vx_W p l e R s m args below meth c H locs cells slots (vx_MQ below Qc XC args s mc ms free) (F0 m pc ls rest) q := by
  intro T hT X
  have hpl : e.platform.magicAccessors = ({} : Platform).magicAccessors := by rw [X.admits.platform]
  obtain ⟨vm', hW', X', st⟩ := X.outThrough hlocks q (g := F0 m pc ls rest) rfl rfl rfl (cell := ce) (by rw [hT]; exact hcell) (by rw [hv]; rfl)
    (by obtain ⟨k9, h9, -⟩ := Vm.findClass_spec hcl; exact ⟨k9, h9⟩) (fun z hz => by
      rcases hpass z hz with h | ⟨hz0, nm, hl1, hn1⟩
      · exact Or.inl h
      · obtain ⟨c6, hc6, hcl6⟩ := Cond.classLink_spec hown hl1 e.platform hpl
        obtain ⟨a8, b8, h1, h2, h3⟩ := hn1
        cases Option.some.inj (h1.symm.trans hcl)
        cases Option.some.inj (h2.symm.trans hc6)
        exact Or.inr ⟨hz0, _, hcl6, h3⟩)
  obtain ⟨g₀, hfr⟩ := X'.frames_eq
  have hcell9 : ((T.setVm vm').setFrames (.throwing q :: below)).heap[q]? = some ce := by
    show T.heap[q]? = some ce
    rw [hT]; exact hcell
  have hend : Ended ((T.setVm vm').setFrames (.throwing q :: below)) below (.threw q) := State.frames_setFrames _ (State.cur_lt_of_frames hfr)
  refine ⟨(T.setVm vm').setFrames (.throwing q :: below), ?_, .threw q, X'.here.running, hend, Or.inr ⟨q, rfl, E, ce, locs, hx _ hT (X'.ends _).1.alike, hcell9, hv, hcl, (X'.ends _).1, (X'.ends _).2.mono hc hs, hf⟩⟩
  rw [X.pushThrowing_eq]
  exact st
/-- a thing of a world lies in the heap -/
theorem vx_lt {D : va_G} {cl : List vw_C} {ws : va_W} {H1 : Heap} (h : va_P D cl ws H1) {k : Nat} {q : Nat × va_E} (hk : ws[k]? = some q) : q.1 < H1.size := (h k q hk).lt
end VXS
/-! ===== END ===== -/
/-! ===== BEGIN methods with a table of their own: called by a name, returning or throwing ===== -/
section VXH
/-! vx_backW, vx_callVX, vx_callSX, vx_callVW, vx_runVW, vx_runVX, vx_runSX, vx_ofWH follow the same proofs as their sisters above (Free/Laws.lean, Shelf42/LK1.lean); vx_outP calls Shelf42/NT130.lean (outThrough). -/
section
variable {l : Launch} {R : Room} {p : Program} {e : Env} {below : List Frame} {s : State} {sargs : Array Value} {y : MethodName} {len W9 : Nat}
theorem vx_backW {ws : List Cond} {rm : Room} {Pc : Array Value → State → Prop} {Qc : Array Value → State → Outcome → State → Prop} {XC : String → State → State → Prop} {mc ms : Nat} {free : Addr → Prop} {bytes : ByteArray} {maxL : Nat} {ret : Option FieldType} {hh : List (Nat × Nat × Nat × Nat)}
    (hM : vx_Met l y ws rm Pc Qc XC mc ms free) (hblind : FrameBlind Pc) (hrc : rm.cells = mc) (hrs : rm.slots = ms)
    (hframes : rm.frames + 1 ≤ R.frames) (hlocals : W9 + (maxL + 11) + rm.locals ≤ R.locals)
    (hws : ∀ w ∈ ws, ∀ a' U, s.WarmedH U.vm → w.before a' U = true) (hcode : Cond.codeWith y bytes maxL ret hh ∈ ws) (hinit : ∀ a' U, s.WarmedH U.vm → (Cond.initialized y.cls).before a' U = true) :
    vx_Back l R p e below s sargs y len W9 (PreOf R mc ms Pc) (PostOf Qc mc ms free) (vx_Post XC mc ms free) := by
  intro m meth c A g ig mk a X hg hsize hdg hW hn hp
  have h1 : (headSpec ws rm).pre.before a A.U = true := atoms_intro fun w hw => hws w hw _ _ X.warmed
  have h2 : (Cond.codeWith y bytes maxL ret hh).before a A.U = true := hws _ hcode _ _ X.warmed
  have h3 : (Cond.initialized y.cls).before a A.U = true := hinit _ _ X.warmed
  have h4 : A.cells + (headSpec ws rm).room.cells ≤ R.cells := by rw [show (headSpec ws rm).room.cells = mc from hrc]; exact hp.1
  have h5 : A.slots + (headSpec ws rm).room.slots ≤ R.slots := by rw [show (headSpec ws rm).room.slots = ms from hrs]; exact hp.2.1
  have hPc : Pc a (A.U.calling g mk a) := hblind _ _ _ _ hp.2.2
  obtain ⟨U, Ls, c0, s0⟩ := A
  dsimp only [Pt.U, Pt.locs, Pt.cells, Pt.slots] at h1 h2 h3 h4 h5 X hn hPc ⊢
  obtain ⟨m9, methY, cY, hn9, hmY, hcY, -, hlY, -⟩ := Cond.codeWith_spec h2
  cases Option.some.inj (hn9.symm.trans hn)
  obtain ⟨kY, hkY, -⟩ := className_of_methodNamed hn
  have hinitY : kY.init = .initialized := Cond.initialized_spec (findClass_of_methodNamed hn) hkY h3
  have h : At U g.method c below := by rw [hg]; exact X.here
  have hlocals9 : W9 + (maxL + 11) + (headSpec ws rm).room.locals ≤ R.locals := hlocals
  have happ : (headSpec ws rm).appliesLoose y e.platform (U.calling g mk a) = true :=
    Spec.appliesLoose_calling (g := g) h hdg hn hkY hinitY
      (X.room_calling (g := g) (R' := (headSpec ws rm).room) hsize hmY hcY hframes (by rw [hlY]; omega) h4 h5) h1
  obtain ⟨mid, hmid⟩ := h.above
  have hfr : (U.setTop g).frames = (.java g :: mid) ++ below := by rw [State.frames_setTop' g h.top, hmid]; rfl
  obtain ⟨o, s₂, hsteps, -, hend, hq⟩ := Steps.callFree hM p X.admits X.cas X.clock (acts := []) hfr happ hPc trivial
  have hq' : vx_Q Qc XC mc ms free a (U.calling g mk a) o s₂ := hq
  rw [State.frames_setTop' g h.top] at hend
  obtain ⟨g₀, hg0⟩ := Option.isSome_iff_exists.mp h.top
  obtain ⟨r, hr⟩ := State.topJava?_eq_some.mp hg0
  have hr' : (({ U with heap := s₂.heap, slotsUsed := s₂.slotsUsed } : State).setVm s₂.vm).frames = .java g₀ :: r := hr
  rcases hq' with ⟨hqc, L, hfe, hL⟩ | ⟨q, rfl, E, ce, L, hx, hce, hcv, hcl, hW₂, hsm, hL⟩
  · obtain ⟨⟨v, rfl⟩, hW₂, e2, q2, q3, q4, q5, q6⟩ := id hfe
    have e3 : s₂ = ({ (U.calling g mk a).setFrames s₂.frames with heap := s₂.heap, slotsUsed := s₂.slotsUsed } : State).setVm s₂.vm := by
      have : s₂ = ({ s₂ with vm := (U.calling g mk a).vm } : State).setVm s₂.vm := rfl
      rw [e2] at this
      exact this
    obtain ⟨c₂, i₂, len₂, hc₂, hd₂, hf₂⟩ := hend
    have hW' : U.WarmedH s₂.vm := hW₂
    have hcc : c₂ = c := by
      have h1 : s₂.code? g.method = U.code? g.method := by
        rw [State.code?_eq, State.code?_eq, hW'.alike.method?]
      exact Option.some.inj (hc₂.symm.trans (h1.trans h.code))
    subst hcc
    have hlen : len₂ = len := by rw [hdg] at hd₂; cases hd₂; rfl
    subst hlen
    have hs₂ : s₂ = (({ U with heap := s₂.heap, slotsUsed := s₂.slotsUsed } : State).setVm s₂.vm).setTop { g with pc := g.pc + len₂, stack := v.toList ++ g.stack } := by
      refine e3.trans ?_
      rw [hf₂, State.calling_eq h.top, State.setFrames_setFrames, State.setTop_of_frames _ hr', hr]
      rfl
    have hsame : U.sameButNew ({ U with heap := s₂.heap, slotsUsed := s₂.slotsUsed } : State) L mc ms := by
      refine ⟨?_, q2, q3, q4, q5, q6⟩
      obtain ⟨t, ht, -⟩ := State.frames_cons hr
      show ({ U with heap := s₂.heap, slotsUsed := s₂.slotsUsed } : State) = { U.setFrames U.frames with heap := s₂.heap, slotsUsed := s₂.slotsUsed }
      rw [State.setFrames_self ht]
    subst hg
    refine Or.inl ⟨v, ⟨(({ U with heap := s₂.heap, slotsUsed := s₂.slotsUsed } : State).setVm s₂.vm), Ls ++ L, c0 + mc, s0 + ms⟩,
      ⟨X.admits, X.cas, X.clock, X.frames, X.room, X.hears, X.method, X.code, (X.here.setHeapUsed s₂.heap s₂.slotsUsed).setVm hW'.alike, X.tail, State.WarmedH.trans X.warmed hW', X.limits, X.bytes, X.same.trans (hsame.setVm s.vm)⟩,
      ⟨g, mk, s₂, L, rfl, rfl, hqc, rfl, hL, rfl, rfl⟩, ?_⟩
    show Steps p.tables e below _ ((({ U with heap := s₂.heap, slotsUsed := s₂.slotsUsed } : State).setVm s₂.vm).setTop { g with pc := g.pc + len₂, stack := v.toList ++ g.stack })
    rw [← hs₂]
    exact hsteps
  · obtain ⟨e2, q2, q3, q4, q5, q6⟩ := id hsm
    have e3 : s₂ = ({ (U.calling g mk a).setFrames s₂.frames with heap := s₂.heap, slotsUsed := s₂.slotsUsed } : State).setVm s₂.vm := by
      have : s₂ = ({ s₂ with vm := (U.calling g mk a).vm } : State).setVm s₂.vm := rfl
      rw [e2] at this
      exact this
    have hf₂ : s₂.frames = .throwing q :: .java g :: U.frames.tail := hend
    have hW' : U.WarmedH s₂.vm := hW₂
    have hs₂ : s₂ = ((({ U with heap := s₂.heap, slotsUsed := s₂.slotsUsed } : State).setVm s₂.vm).setTop g).pushFrame (.throwing q) := by
      refine e3.trans ?_
      rw [hf₂, State.calling_eq h.top, State.setFrames_setFrames, State.pushFrame, State.frames_setTop _ hr', State.setTop_of_frames _ hr', State.setFrames_setFrames, hr]
      rfl
    have hsame : U.sameButNew ({ U with heap := s₂.heap, slotsUsed := s₂.slotsUsed } : State) L mc ms := by
      refine ⟨?_, q2, q3, q4, q5, q6⟩
      obtain ⟨t, ht, -⟩ := State.frames_cons hr
      show ({ U with heap := s₂.heap, slotsUsed := s₂.slotsUsed } : State) = { U.setFrames U.frames with heap := s₂.heap, slotsUsed := s₂.slotsUsed }
      rw [State.setFrames_self ht]
    subst hg
    refine Or.inr ⟨q, ⟨(({ U with heap := s₂.heap, slotsUsed := s₂.slotsUsed } : State).setVm s₂.vm), Ls ++ L, c0 + mc, s0 + ms⟩,
      ⟨X.admits, X.cas, X.clock, X.frames, X.room, X.hears, X.method, X.code, (X.here.setHeapUsed s₂.heap s₂.slotsUsed).setVm hW'.alike, X.tail, State.WarmedH.trans X.warmed hW', X.limits, X.bytes, X.same.trans (hsame.setVm s.vm)⟩,
      ⟨g, mk, s₂, L, E, ce, rfl, rfl, hx, hce, hcv, hcl, rfl, hL, rfl, rfl⟩, ?_⟩
    show Steps p.tables e below _ (((({ U with heap := s₂.heap, slotsUsed := s₂.slotsUsed } : State).setVm s₂.vm).setTop g).pushFrame (.throwing q))
    rw [← hs₂]
    exact hsteps
end
variable {p : Program} {l : Launch} {e : Env} {R : Room} {s : State} {m : MethodId} {args : Array Value} {below : List Frame} {meth : Method} {c : Code} {T : State} {H : Heap} {locs : List Loc} {cells slots : Nat}
theorem vx_callVX (X : Stand p l e R s m args below meth c T locs cells slots) (hexec : p.tables.exec = Jvm.exec) {own C : String} {index : Nat} {y : MethodName} {bytes : ByteArray} {maxL : Nat} {ret : Option FieldType} {hh : List (Nat × Nat × Nat × Nat)}
    (hown : s.vm.findClass own = some m.cls) (hlink : (Cond.methodLink own index y).before args s = true) (hinst : (Cond.instanceMethod y).before args s = true) (hsel : (Cond.selects C y y).before args s = true)
    (hcode : (Cond.codeWith y bytes maxL ret hh).before args s = true) (hy : y.cls ≠ "java/lang/invoke/MethodHandle" ∧ y.cls ≠ "java/lang/invoke/VarHandle")
    {W9 : Nat} {Pre : Pt → Array Value → Prop} {Post : Pt → Array Value → Option Value → Pt → Prop} {PostX : Pt → Array Value → Addr → Pt → Prop} (hK : vx_Back l R p e below s args y 3 W9 Pre Post PostX)
    {b : Addr} {cellB : Cell} (hcell : T.heap[b]? = some cellB) (hobj : cellB.vm.isStatics = false) (hcls : s.vm.findClass C = some cellB.cls)
    {g : JFrame} (hg : g.method = m) (hsize : g.locals.size = c.maxLocals) {argsL rest : List Value} (hlen : ∀ sig, parseMethodDescriptor y.desc = some sig → argsL.length = sig.parameters.length)
    (hstack : g.stack = argsL.reverse ++ .ref b :: rest) (hW : 2 * g.monitorRoom + (rest.map fun v => v.category).sum ≤ W9) (hdg : decode c.code g.pc = .ok (.invokevirtual index, 3))
    (hpre : ∀ vm₁, s.WarmedH vm₁ → Pre ⟨T.setVm vm₁, locs, cells, slots⟩ (Value.ref b :: argsL).toArray) :
    (∃ (v : Option Value) (vm₁ : Vm) (B : Pt), s.WarmedH vm₁ ∧ Stand p l e R s m args below meth c B.U B.locs B.cells B.slots ∧ Post ⟨T.setVm vm₁, locs, cells, slots⟩ (Value.ref b :: argsL).toArray v B ∧
      ∀ target, Steps p.tables e below (B.U.setTop { g with pc := g.pc + 3, stack := v.toList ++ rest }) target → Steps p.tables e below (T.setTop g) target) ∨
    (∃ (q : Addr) (vm₁ : Vm) (B : Pt), s.WarmedH vm₁ ∧ Stand p l e R s m args below meth c B.U B.locs B.cells B.slots ∧ PostX ⟨T.setVm vm₁, locs, cells, slots⟩ (Value.ref b :: argsL).toArray q B ∧
      Steps p.tables e below (T.setTop g) ((B.U.setTop { g with stack := rest }).pushFrame (.throwing q))) := by
  obtain ⟨mk, methM, hnamed, hmethM, hstM, habM⟩ := Cond.instanceMethod_spec hinst
  obtain ⟨m8, methM', cM, hn8, hmethM', -, -, -, -, -, -, hsigM⟩ := Cond.codeWith_spec hcode
  cases Option.some.inj (hn8.symm.trans hnamed)
  cases hmethM.symm.trans hmethM'
  obtain ⟨c2, r2, m2, q1, q2, q3, q4, kP, hkP, hkPi⟩ := Cond.selects_spec hsel
  cases hcls.symm.trans q1
  cases (State.methodFound?_of_named hnamed hy).symm.trans q2
  cases hnamed.symm.trans q3
  have hselP : selectMethod e.platform s.vm cellB.cls mk = .method mk := by rw [Launch.admits_selectMethod X.admits]; exact q4
  obtain ⟨vm₁, X₁, hstep₁⟩ := X.invokevirtual hexec hown hlink hnamed hmethM hstM hkP hkPi hy (a := b) (cell := cellB) hcell
    (fun z h => by rw [h] at hobj; cases hobj) hselP hmethM habM hkP hkPi (g := g) hg (argsL := argsL) (rest := rest) (hlen _ hsigM) hstack hdg
  rcases hK m meth c ⟨T.setVm vm₁, locs, cells, slots⟩ { g with stack := rest } (.invokevirtual index) mk (Value.ref b :: argsL).toArray X₁ hg hsize hdg hW (X₁.named hnamed) (hpre vm₁ X₁.warmed) with ⟨v, B, X', hpost, hsteps⟩ | ⟨q, B, X', hpost, hsteps⟩
  · exact Or.inl ⟨v, vm₁, B, X₁.warmed, X', hpost, fun target h => hstep₁ _ fun acts => by rw [doInvoke_state]; exact hsteps.trans h⟩
  · exact Or.inr ⟨q, vm₁, B, X₁.warmed, X', hpost, hstep₁ _ fun acts => by rw [doInvoke_state]; exact hsteps⟩
theorem vx_callSX (X : Stand p l e R s m args below meth c T locs cells slots) (hexec : p.tables.exec = Jvm.exec) {own : String} {index : Nat} {y : MethodName} {bytes : ByteArray} {maxL : Nat} {ret : Option FieldType} {hh : List (Nat × Nat × Nat × Nat)}
    (hown : s.vm.findClass own = some m.cls) (hlink : (Cond.methodLink own index y).before args s = true) (hstat : (Cond.static y).before args s = true) (hinit : (Cond.initialized y.cls).before args s = true)
    (hcode : (Cond.codeWith y bytes maxL ret hh).before args s = true) (hy : y.cls ≠ "java/lang/invoke/MethodHandle" ∧ y.cls ≠ "java/lang/invoke/VarHandle")
    {W9 : Nat} {Pre : Pt → Array Value → Prop} {Post : Pt → Array Value → Option Value → Pt → Prop} {PostX : Pt → Array Value → Addr → Pt → Prop} (hK : vx_Back l R p e below s args y 3 W9 Pre Post PostX)
    {g : JFrame} (hg : g.method = m) (hsize : g.locals.size = c.maxLocals) {argsL rest : List Value} (hlen : ∀ sig, parseMethodDescriptor y.desc = some sig → argsL.length = sig.parameters.length)
    (hstack : g.stack = argsL.reverse ++ rest) (hW : 2 * g.monitorRoom + (rest.map fun v => v.category).sum ≤ W9) (hdg : decode c.code g.pc = .ok (.invokestatic index, 3))
    (hpre : ∀ vm₁, s.WarmedH vm₁ → Pre ⟨T.setVm vm₁, locs, cells, slots⟩ argsL.toArray) :
    (∃ (v : Option Value) (vm₁ : Vm) (B : Pt), s.WarmedH vm₁ ∧ Stand p l e R s m args below meth c B.U B.locs B.cells B.slots ∧ Post ⟨T.setVm vm₁, locs, cells, slots⟩ argsL.toArray v B ∧
      ∀ target, Steps p.tables e below (B.U.setTop { g with pc := g.pc + 3, stack := v.toList ++ rest }) target → Steps p.tables e below (T.setTop g) target) ∨
    (∃ (q : Addr) (vm₁ : Vm) (B : Pt), s.WarmedH vm₁ ∧ Stand p l e R s m args below meth c B.U B.locs B.cells B.slots ∧ PostX ⟨T.setVm vm₁, locs, cells, slots⟩ argsL.toArray q B ∧
      Steps p.tables e below (T.setTop g) ((B.U.setTop { g with stack := rest }).pushFrame (.throwing q))) := by
  obtain ⟨mk, methM, cM, hnamed, hmethM, -, -, -, -, -, -, hsigM⟩ := Cond.codeWith_spec hcode
  have hstatic : methM.isStatic = true := Cond.static_spec hnamed hmethM hstat
  obtain ⟨kP, hkP, -⟩ := className_of_methodNamed hnamed
  have hinitP : kP.init = .initialized := Cond.initialized_spec (findClass_of_methodNamed hnamed) hkP hinit
  obtain ⟨vm₁, X₁, hstep₁⟩ := X.invokestatic hexec hown hlink hnamed hmethM hstatic hkP hinitP hy (g := g) hg (argsL := argsL) (rest := rest) (hlen _ hsigM) hstack hdg
  rcases hK m meth c ⟨T.setVm vm₁, locs, cells, slots⟩ { g with stack := rest } (.invokestatic index) mk argsL.toArray X₁ hg hsize hdg hW (X₁.named hnamed) (hpre vm₁ X₁.warmed) with ⟨v, B, X', hpost, hsteps⟩ | ⟨q, B, X', hpost, hsteps⟩
  · exact Or.inl ⟨v, vm₁, B, X₁.warmed, X', hpost, fun target h => hstep₁ _ fun acts => by rw [doInvoke_state]; exact hsteps.trans h⟩
  · exact Or.inr ⟨q, vm₁, B, X₁.warmed, X', hpost, hstep₁ _ fun acts => by rw [doInvoke_state]; exact hsteps⟩
theorem vx_callVW (X : Stand p l e R s m args below meth c T locs cells slots) (hexec : p.tables.exec = Jvm.exec) {own C : String} {index : Nat} {y : MethodName} {bytes : ByteArray} {maxL : Nat} {ret : Option FieldType} {hh : List (Nat × Nat × Nat × Nat)}
    (hown : s.vm.findClass own = some m.cls) (hlink : (Cond.methodLink own index y).before args s = true) (hinst : (Cond.instanceMethod y).before args s = true) (hsel : (Cond.selects C y y).before args s = true)
    (hcode : (Cond.codeWith y bytes maxL ret hh).before args s = true) (hy : y.cls ≠ "java/lang/invoke/MethodHandle" ∧ y.cls ≠ "java/lang/invoke/VarHandle")
    {W9 : Nat} {Pre : Pt → Array Value → Prop} {Post : Pt → Array Value → Option Value → Pt → Prop} (hK : Back l R p e below s args y 3 W9 Pre Post)
    {b : Addr} {cellB : Cell} (hcell : T.heap[b]? = some cellB) (hobj : cellB.vm.isStatics = false) (hcls : s.vm.findClass C = some cellB.cls)
    {g : JFrame} (hg : g.method = m) (hsize : g.locals.size = c.maxLocals) {argsL rest : List Value} (hlen : ∀ sig, parseMethodDescriptor y.desc = some sig → argsL.length = sig.parameters.length)
    (hstack : g.stack = argsL.reverse ++ .ref b :: rest) (hW : 2 * g.monitorRoom + (rest.map fun v => v.category).sum ≤ W9) (hdg : decode c.code g.pc = .ok (.invokevirtual index, 3))
    (hpre : ∀ vm₁, s.WarmedH vm₁ → Pre ⟨T.setVm vm₁, locs, cells, slots⟩ (Value.ref b :: argsL).toArray) :
    ∃ (v : Option Value) (vm₁ : Vm) (B : Pt), s.WarmedH vm₁ ∧ Stand p l e R s m args below meth c B.U B.locs B.cells B.slots ∧ Post ⟨T.setVm vm₁, locs, cells, slots⟩ (Value.ref b :: argsL).toArray v B ∧
      ∀ target, Steps p.tables e below (B.U.setTop { g with pc := g.pc + 3, stack := v.toList ++ rest }) target → Steps p.tables e below (T.setTop g) target := by
  obtain ⟨mk, methM, hnamed, hmethM, hstM, habM⟩ := Cond.instanceMethod_spec hinst
  obtain ⟨m8, methM', cM, hn8, hmethM', -, -, -, -, -, -, hsigM⟩ := Cond.codeWith_spec hcode
  cases Option.some.inj (hn8.symm.trans hnamed)
  cases hmethM.symm.trans hmethM'
  obtain ⟨c2, r2, m2, q1, q2, q3, q4, kP, hkP, hkPi⟩ := Cond.selects_spec hsel
  cases hcls.symm.trans q1
  cases (State.methodFound?_of_named hnamed hy).symm.trans q2
  cases hnamed.symm.trans q3
  have hselP : selectMethod e.platform s.vm cellB.cls mk = .method mk := by rw [Launch.admits_selectMethod X.admits]; exact q4
  obtain ⟨vm₁, X₁, hstep₁⟩ := X.invokevirtual hexec hown hlink hnamed hmethM hstM hkP hkPi hy (a := b) (cell := cellB) hcell
    (fun z h => by rw [h] at hobj; cases hobj) hselP hmethM habM hkP hkPi (g := g) hg (argsL := argsL) (rest := rest) (hlen _ hsigM) hstack hdg
  obtain ⟨v, B, X', hpost, hsteps⟩ := hK m meth c ⟨T.setVm vm₁, locs, cells, slots⟩ { g with stack := rest } (.invokevirtual index) mk (Value.ref b :: argsL).toArray X₁ hg hsize hdg hW (X₁.named hnamed) (hpre vm₁ X₁.warmed)
  exact ⟨v, vm₁, B, X₁.warmed, X', hpost, fun target h => hstep₁ _ fun acts => by rw [doInvoke_state]; exact hsteps.trans h⟩
abbrev vx_CVW (R : Room) (s : State) (args : Array Value) (own C : String) (index : Nat) (y : MethodName) (bytes : ByteArray) (maxL : Nat) (ret : Option FieldType) (hh : List (Nat × Nat × Nat × Nat)) (ws : List Cond) (rm : Room) (mc ms n : Nat) : Prop :=
  (rm.cells = mc ∧ rm.slots = ms ∧ rm.frames + 1 ≤ R.frames ∧ 8 + (maxL + 11) + rm.locals ≤ R.locals ∧ (∀ w ∈ ws, ∀ (a' : Array Value) (U : State), s.WarmedH U.vm → w.before a' U = true) ∧ Cond.codeWith y bytes maxL ret hh ∈ ws) ∧
  (Cond.codeWith y bytes maxL ret hh).before args s = true ∧ (Cond.initialized y.cls).before args s = true ∧ (y.cls ≠ "java/lang/invoke/MethodHandle" ∧ y.cls ≠ "java/lang/invoke/VarHandle") ∧
  (∀ sig, parseMethodDescriptor y.desc = some sig → n = sig.parameters.length) ∧ (Cond.methodLink own index y).before args s = true ∧ (Cond.instanceMethod y).before args s = true ∧ (Cond.selects C y y).before args s = true
theorem vx_cwVW {own C : String} {index maxL mc ms : Nat} {y : MethodName} {bytes : ByteArray} {ret : Option FieldType} {hh : List (Nat × Nat × Nat × Nat)} {Ts ws ws' : List Cond} {rm : Room} (n : Nat) (ht : ∀ w ∈ Ts, w.before args s = true) (hT : GoodIn Ts (wsV own index C y ws)) (hw : ws = Cond.codeWith y bytes maxL ret hh :: ws') (hrc : rm.cells = mc) (hrs : rm.slots = ms)
    (hd : y.cls = C ∧ y.cls ≠ "java/lang/invoke/MethodHandle" ∧ y.cls ≠ "java/lang/invoke/VarHandle" ∧ (parseMethodDescriptor y.desc).map (fun d => d.parameters.length) = some n) (hR : rm.frames + 1 ≤ R.frames ∧ 8 + (maxL + 11) + rm.locals ≤ R.locals) :
    vx_CVW R s args own C index y bytes maxL ret hh ws rm mc ms n := by
  obtain ⟨hC, hd⟩ := hd
  subst hC
  have ok : ∀ w ∈ wsV own index y.cls y ws, w.before args s = true := fun w h => ht w (hT w h).1
  have hG : GoodIn Ts ws := fun w h => hT w (by unfold wsV; exact List.mem_append_right _ h)
  have hc : Cond.codeWith y bytes maxL ret hh ∈ ws := by rw [hw]; exact List.mem_cons_self
  refine ⟨⟨hrc, hrs, hR.1, hR.2, pay_in ht hG, hc⟩, ht _ (hG _ hc).1, ok _ (by simp [wsV]), ⟨hd.1, hd.2.1⟩, fun sig h => ?_, ok _ (by simp [wsV]), ok _ (by simp [wsV]), ok _ (by simp [wsV])⟩
  have h2 := hd.2.2
  rw [h] at h2
  exact (Option.some.inj h2).symm
theorem vx_runVW {y : MethodName} {bytes cc : ByteArray} {maxL nL mc ms n index : Nat} {ret : Option FieldType} {hh : List (Nat × Nat × Nat × Nat)} {ws : List Cond} {rm : Room} {Pc : Array Value → State → Prop} {Qc : Array Value → State → Outcome → State → Prop} {free : Addr → Prop} {Ts : List Cond} {own C : String} {b : Addr} {As rest : List Value} {g : JFrame}
    (S : CallFix p m c cc nL s args Ts own) (hM : Met l y ws rm Pc Qc mc ms free) (cw : vx_CVW R s args own C index y bytes maxL ret hh ws rm mc ms n) (hp : PreV s H C b Pc As)
    (hg : g.method = m) (hn : As.length = n) (hsize : g.locals.size = nL) (hstack : g.stack = As.reverse ++ .ref b :: rest) (hW : 2 * g.monitorRoom + (rest.map fun v => v.category).sum ≤ 8) (hdg : decode cc g.pc = .ok (.invokevirtual index, 3)) (hf : cells + mc ≤ R.cells ∧ slots + ms ≤ R.slots) :
    va_Run p l e R s m args below meth c H locs cells slots mc ms g rest (Qc (Value.ref b :: As).toArray) free := by
  obtain ⟨⟨hrc, hrs, hfr, hlo, hws, hcw⟩, hcode, hini, hy, hlen, hl, hin, hse⟩ := cw
  have hK : Back l R p e below s args y 3 8 (PreOf R mc ms Pc) (PostOf Qc mc ms free) := va_backW (hh := hh) (bytes := bytes) (maxL := maxL) (ret := ret) hM hp.1 hrc hrs hfr hlo hws hcw (fun a' U hW => word_at hW (Or.inl (by first | rfl | simp [Cond.onTables, Cond.keeps, Cond.steady])) hini)
  obtain ⟨hx, hb, hml, ho, -⟩ := S
  obtain ⟨-, ⟨cellB, hcB, hoB, hclB⟩, hPc⟩ := hp
  intro T hT X
  obtain ⟨v, vm₁, ⟨U', l2, c2, s2⟩, hW₁, X', ⟨g', mk, t, L, e1, e2, hq, h1, hL, h2, h3⟩, st⟩ := vx_callVW X hx (C := C) (hh := hh) (bytes := bytes) (maxL := maxL) (ret := ret) ho hl hin hse hcode hy hK (by rw [hT]; exact hcB) hoB hclB hg (hsize.trans hml.symm) (argsL := As) (rest := rest) (fun sig h => hn.trans (hlen sig h)) hstack hW (by rw [hb]; exact hdg)
    (fun vm₁ hW₁ => ⟨hf.1, hf.2, hPc (T.setVm vm₁) hT hW₁⟩)
  dsimp only [Pt.U, Pt.locs, Pt.cells, Pt.slots] at X' e1 e2 h1 h2 h3 st
  subst h1; subst h2; subst h3
  exact ⟨v, (T.setVm vm₁).calling g' mk (Value.ref b :: As).toArray, t, U', L, hT, X', hL, e1, e2, hq, st⟩
section
variable {y : MethodName} {bytes cc : ByteArray} {maxL nL mc ms n index : Nat} {ret : Option FieldType} {ws : List Cond} {rm : Room} {Pc : Array Value → State → Prop} {Qc : Array Value → State → Outcome → State → Prop} {XC : String → State → State → Prop} {free : Addr → Prop} {Ts : List Cond} {own C : String} {b : Addr} {As rest : List Value} {g : JFrame}
theorem vx_runVX {hh : List (Nat × Nat × Nat × Nat)} (S : CallFix p m c cc nL s args Ts own) (hM : vx_Met l y ws rm Pc Qc XC mc ms free) (cw : vx_CVW R s args own C index y bytes maxL ret hh ws rm mc ms n) (hp : PreV s H C b Pc As)
    (hg : g.method = m) (hn : As.length = n) (hsize : g.locals.size = nL) (hstack : g.stack = As.reverse ++ .ref b :: rest) (hW : 2 * g.monitorRoom + (rest.map fun v => v.category).sum ≤ 8) (hdg : decode cc g.pc = .ok (.invokevirtual index, 3)) (hf : cells + mc ≤ R.cells ∧ slots + ms ≤ R.slots) :
    vx_Run p l e R s m args below meth c H locs cells slots mc ms g rest (Qc (Value.ref b :: As).toArray) XC free := by
  obtain ⟨⟨hrc, hrs, hfr, hlo, hws, hcw⟩, hcode, hini, hy, hlen, hl, hin, hse⟩ := cw
  have hK : vx_Back l R p e below s args y 3 8 (PreOf R mc ms Pc) (PostOf Qc mc ms free) (vx_Post XC mc ms free) := vx_backW (hh := hh) (bytes := bytes) (maxL := maxL) (ret := ret) hM hp.1 hrc hrs hfr hlo hws hcw (fun a' U hW => word_at hW (Or.inl (by first | rfl | simp [Cond.onTables, Cond.keeps, Cond.steady])) hini)
  obtain ⟨hx, hb, hml, ho, -⟩ := S
  obtain ⟨-, ⟨cellB, hcB, hoB, hclB⟩, hPc⟩ := hp
  intro T hT X
  rcases vx_callVX X hx (C := C) (hh := hh) (bytes := bytes) (maxL := maxL) (ret := ret) ho hl hin hse hcode hy hK (by rw [hT]; exact hcB) hoB hclB hg (hsize.trans hml.symm) (argsL := As) (rest := rest) (fun sig h => hn.trans (hlen sig h)) hstack hW (by rw [hb]; exact hdg)
    (fun vm₁ hW₁ => ⟨hf.1, hf.2, hPc (T.setVm vm₁) hT hW₁⟩) with ⟨v, vm₁, ⟨U', l2, c2, s2⟩, hW₁, X', ⟨g', mk, t, L, e1, e2, hq, h1, hL, h2, h3⟩, st⟩ | ⟨q, vm₁, ⟨U', l2, c2, s2⟩, hW₁, X', ⟨g', mk, t, L, E, ce, e1, e2, hq, hce, hcv, hcl, h1, hL, h2, h3⟩, st⟩
  · dsimp only [Pt.U, Pt.locs, Pt.cells, Pt.slots] at X' e1 e2 h1 h2 h3 st
    subst h1; subst h2; subst h3
    exact Or.inl ⟨v, (T.setVm vm₁).calling g' mk (Value.ref b :: As).toArray, t, U', L, hT, X', hL, e1, e2, hq, st⟩
  · dsimp only [Pt.U, Pt.locs, Pt.cells, Pt.slots] at X' e1 e2 h1 h2 h3 st hcl
    subst h1; subst h2; subst h3
    exact Or.inr ⟨q, (T.setVm vm₁).calling g' mk (Value.ref b :: As).toArray, t, U', L, E, ce, hT, X', hL, e1, e2, hq, hce, hcv, vx_cls hW₁ hcl, st⟩
theorem vx_runSX {hh : List (Nat × Nat × Nat × Nat)} (S : CallFix p m c cc nL s args Ts own) (hM : vx_Met l y ws rm Pc Qc XC mc ms free) (cw : vx_CSW R s args own index y bytes maxL ret hh ws rm mc ms n) (hp : PreS s H Pc As)
    (hg : g.method = m) (hn : As.length = n) (hsize : g.locals.size = nL) (hstack : g.stack = As.reverse ++ rest) (hW : 2 * g.monitorRoom + (rest.map fun v => v.category).sum ≤ 8) (hdg : decode cc g.pc = .ok (.invokestatic index, 3)) (hf : cells + mc ≤ R.cells ∧ slots + ms ≤ R.slots) :
    vx_Run p l e R s m args below meth c H locs cells slots mc ms g rest (Qc As.toArray) XC free := by
  obtain ⟨⟨hrc, hrs, hfr, hlo, hws, hcw⟩, hcode, hini, hy, hlen, hl, hstt⟩ := cw
  have hK : vx_Back l R p e below s args y 3 8 (PreOf R mc ms Pc) (PostOf Qc mc ms free) (vx_Post XC mc ms free) := vx_backW (hh := hh) (bytes := bytes) (maxL := maxL) (ret := ret) hM hp.1 hrc hrs hfr hlo hws hcw (fun a' U hW => word_at hW (Or.inl (by first | rfl | simp [Cond.onTables, Cond.keeps, Cond.steady])) hini)
  obtain ⟨hx, hb, hml, ho, -⟩ := S
  intro T hT X
  rcases vx_callSX X hx (hh := hh) (bytes := bytes) (maxL := maxL) (ret := ret) ho hl hstt hini hcode hy hK hg (hsize.trans hml.symm) (argsL := As) (rest := rest) (fun sig h => hn.trans (hlen sig h)) hstack hW (by rw [hb]; exact hdg)
    (fun vm₁ hW₁ => ⟨hf.1, hf.2, hp.2 (T.setVm vm₁) hT hW₁⟩) with ⟨v, vm₁, ⟨U', l2, c2, s2⟩, hW₁, X', ⟨g', mk, t, L, e1, e2, hq, h1, hL, h2, h3⟩, st⟩ | ⟨q, vm₁, ⟨U', l2, c2, s2⟩, hW₁, X', ⟨g', mk, t, L, E, ce, e1, e2, hq, hce, hcv, hcl, h1, hL, h2, h3⟩, st⟩
  · dsimp only [Pt.U, Pt.locs, Pt.cells, Pt.slots] at X' e1 e2 h1 h2 h3 st
    subst h1; subst h2; subst h3
    exact Or.inl ⟨v, (T.setVm vm₁).calling g' mk As.toArray, t, U', L, hT, X', hL, e1, e2, hq, st⟩
  · dsimp only [Pt.U, Pt.locs, Pt.cells, Pt.slots] at X' e1 e2 h1 h2 h3 st hcl
    subst h1; subst h2; subst h3
    exact Or.inr ⟨q, (T.setVm vm₁).calling g' mk As.toArray, t, U', L, E, ce, hT, X', hL, e1, e2, hq, hce, hcv, vx_cls hW₁ hcl, st⟩
end
end VXH
theorem vx_ofWH {l : Launch} {y : MethodName} {ws ws' : List Cond} {rm : Room} {Pc : Array Value → State → Prop} {Qc : Array Value → State → Outcome → State → Prop} {XC : String → State → State → Prop} {mc ms : Nat} {free : Addr → Prop} {cc : ByteArray} {maxL : Nat} {ret : Option FieldType} {hh : List (Nat × Nat × Nat × Nat)}
    (hy : plainName y.cls = true) (hw : ws = Cond.codeWith y cc maxL ret hh :: ws')
    (body : ∀ p e s m args below meth c s₁, BodyLoose p l y (headSpec ws rm) cc maxL ret e s m args below meth c s₁ → c.maxLocals = maxL → Pc args s →
      W p l e (headSpec ws rm).room s m args below meth c s.heap [] 0 0 (vx_MQ below Qc XC args s mc ms free) (entryFrame m args maxL)) : vx_Met l y ws rm Pc Qc XC mc ms free := by
  refine MetFree.of_bodyS (code := cc) (maxLocals := maxL) (ret := ret) hy ?_ ?_
  · intro args s m h hn
    obtain ⟨m9, meth, c, hn9, h1, h2, h3, h4, -, h5, h6, -⟩ := Cond.codeWith_spec (atoms_spec (ws := ws) h _ (by rw [hw]; exact List.mem_cons_self))
    cases hn.symm.trans hn9
    exact ⟨meth, c, h1, h2, h3, h4, h5, h6⟩
  · intro p e s m args below meth c s₁ B hml hP _
    have hh0 : s₁.heap = s.heap := by rw [B.state]; rfl
    obtain ⟨t, a1, o, b1, b2, b3⟩ := body p e s m args below meth c s₁ B hml hP s₁ hh0 (Stand.of_body B)
    exact ⟨t, o, a1, b1, b2, b3⟩
/-! ===== END ===== -/

def RX0 : String := "Twotimes"
def TX0 : u_T := fun k => match k with
  | 0 => ("Twotimes", "known", "[I", true)
  | 1 => ("Twotimes", "keptOn", "[I", true)
  | 2 => ("Twotimes", "draft", "[I", true)
  | _ => ("Twotimes", "today", "I", false)
def tyX0 : Nat → FieldType := fun k => match k with
  | 0 => .array .int
  | 1 => .array .int
  | 2 => .array .int
  | _ => .int
abbrev wsX00 : List Cond := u_ws RX0 TX0 4
theorem nmX0 : ∀ a, a < 4 → ∀ b, b < 4 → a ≠ b → (TX0 a).2.1 ≠ (TX0 b).2.1 := by decide +kernel
theorem tyX0_ok : ∀ k, k < 4 → parseFieldDescriptor (TX0 k).2.2.1 = some (tyX0 k) := by decide +kernel
abbrev cX0_init : ByteArray := prog_1_method_1_code
def yX0_init : MethodName := ⟨RX0, "<init>", "()V"⟩
abbrev cX0_put : ByteArray := prog_1_method_2_code
def yX0_put : MethodName := ⟨RX0, "put", "(IIIII)I"⟩
abbrev cX0_erase : ByteArray := prog_1_method_3_code
def yX0_erase : MethodName := ⟨RX0, "erase", "(IIII)I"⟩
abbrev cX0_eraseAll : ByteArray := prog_1_method_4_code
def yX0_eraseAll : MethodName := ⟨RX0, "eraseAll", "(III)I"⟩
abbrev cX0_restore : ByteArray := prog_1_method_5_code
def yX0_restore : MethodName := ⟨RX0, "restore", "(III)I"⟩
abbrev cX0_pass : ByteArray := prog_1_method_6_code
def yX0_pass : MethodName := ⟨RX0, "pass", "(I)I"⟩
abbrev cX0_today : ByteArray := prog_1_method_7_code
def yX0_today : MethodName := ⟨RX0, "today", "()I"⟩
abbrev cX0_value : ByteArray := prog_1_method_8_code
def yX0_value : MethodName := ⟨RX0, "value", "(IIII)I"⟩
abbrev cX0_keys : ByteArray := prog_1_method_9_code
def yX0_keys : MethodName := ⟨RX0, "keys", "(III)I"⟩
abbrev cX0_joined : ByteArray := prog_1_method_10_code
def yX0_joined : MethodName := ⟨RX0, "joined", "(III)I"⟩
abbrev cX0_runs : ByteArray := prog_1_method_11_code
def yX0_runs : MethodName := ⟨RX0, "runs", "(III)I"⟩
abbrev cX0_run : ByteArray := prog_1_method_12_code
def yX0_run : MethodName := ⟨RX0, "run", "(IIII)I"⟩
abbrev cX0_joinedRuns : ByteArray := prog_1_method_13_code
def yX0_joinedRuns : MethodName := ⟨RX0, "joinedRuns", "(II)I"⟩
abbrev cX0_rows : ByteArray := prog_1_method_14_code
def yX0_rows : MethodName := ⟨RX0, "rows", "(II)I"⟩
abbrev cX0_rowRun : ByteArray := prog_1_method_15_code
def yX0_rowRun : MethodName := ⟨RX0, "rowRun", "(III)I"⟩
abbrev cX0_rowFrom : ByteArray := prog_1_method_16_code
def yX0_rowFrom : MethodName := ⟨RX0, "rowFrom", "(III)I"⟩
abbrev cX0_rowTo : ByteArray := prog_1_method_17_code
def yX0_rowTo : MethodName := ⟨RX0, "rowTo", "(III)I"⟩
abbrev cX0_corrections : ByteArray := prog_1_method_18_code
def yX0_corrections : MethodName := ⟨RX0, "corrections", "(IIIII)I"⟩
abbrev cX0_longest : ByteArray := prog_1_method_19_code
def yX0_longest : MethodName := ⟨RX0, "longest", "(III)I"⟩
abbrev cX0_average : ByteArray := prog_1_method_20_code
def yX0_average : MethodName := ⟨RX0, "average", "(II)F"⟩
abbrev cX0_needRange : ByteArray := prog_1_method_21_code
def yX0_needRange : MethodName := ⟨RX0, "needRange", "(II)V"⟩
abbrev cX0_needTableAndKey : ByteArray := prog_1_method_22_code
def yX0_needTableAndKey : MethodName := ⟨RX0, "needTableAndKey", "(II)V"⟩
abbrev cX0_needSpan : ByteArray := prog_1_method_23_code
def yX0_needSpan : MethodName := ⟨RX0, "needSpan", "(II)V"⟩
abbrev cX0_needRecord : ByteArray := prog_1_method_24_code
def yX0_needRecord : MethodName := ⟨RX0, "needRecord", "(I)V"⟩
abbrev cX0_valuesOf : ByteArray := prog_1_method_25_code
def yX0_valuesOf : MethodName := ⟨RX0, "valuesOf", "(I)I"⟩
abbrev cX0_line : ByteArray := prog_1_method_26_code
def yX0_line : MethodName := ⟨RX0, "line", "(II)I"⟩
abbrev cX0_knownOn : ByteArray := prog_1_method_27_code
def yX0_knownOn : MethodName := ⟨RX0, "knownOn", "(III)I"⟩
abbrev cX0_recordToday : ByteArray := prog_1_method_28_code
def yX0_recordToday : MethodName := ⟨RX0, "recordToday", "(III)V"⟩
abbrev cX0_index : ByteArray := prog_1_method_29_code
def yX0_index : MethodName := ⟨RX0, "index", "(III)I"⟩
abbrev cX0_keepOn : ByteArray := prog_1_method_30_code
def yX0_keepOn : MethodName := ⟨RX0, "keepOn", "(II)V"⟩
abbrev cX0_copyDay : ByteArray := prog_1_method_31_code
def yX0_copyDay : MethodName := ⟨RX0, "copyDay", "(II)V"⟩
abbrev cX0_draftSpan : ByteArray := prog_1_method_32_code
def yX0_draftSpan : MethodName := ⟨RX0, "draftSpan", "(IIII)V"⟩
abbrev cX0_draftRecord : ByteArray := prog_1_method_33_code
def yX0_draftRecord : MethodName := ⟨RX0, "draftRecord", "(II)V"⟩
abbrev cX0_recordDraft : ByteArray := prog_1_method_34_code
def yX0_recordDraft : MethodName := ⟨RX0, "recordDraft", "(II)I"⟩
abbrev cX0_draftKeepsReferences : ByteArray := prog_1_method_35_code
def yX0_draftKeepsReferences : MethodName := ⟨RX0, "draftKeepsReferences", "(II)Z"⟩
abbrev cX0_isReferredTo : ByteArray := prog_1_method_36_code
def yX0_isReferredTo : MethodName := ⟨RX0, "isReferredTo", "(II)Z"⟩
abbrev cX0_loseWithReferences : ByteArray := prog_1_method_37_code
def yX0_loseWithReferences : MethodName := ⟨RX0, "loseWithReferences", "(II)I"⟩
abbrev cX0_lose : ByteArray := prog_1_method_38_code
def yX0_lose : MethodName := ⟨RX0, "lose", "(II)I"⟩
abbrev cX0_startsRun : ByteArray := prog_1_method_39_code
def yX0_startsRun : MethodName := ⟨RX0, "startsRun", "(III)Z"⟩
abbrev cX0_endOfRun : ByteArray := prog_1_method_40_code
def yX0_endOfRun : MethodName := ⟨RX0, "endOfRun", "(III)I"⟩
abbrev cX0_firstDayOfRun : ByteArray := prog_1_method_41_code
def yX0_firstDayOfRun : MethodName := ⟨RX0, "firstDayOfRun", "(III)I"⟩
abbrev cX0_runNumber : ByteArray := prog_1_method_42_code
def yX0_runNumber : MethodName := ⟨RX0, "runNumber", "(III)I"⟩
abbrev cX0_joinedOn : ByteArray := prog_1_method_43_code
def yX0_joinedOn : MethodName := ⟨RX0, "joinedOn", "(III)I"⟩
abbrev cX0_startsJoinedRun : ByteArray := prog_1_method_44_code
def yX0_startsJoinedRun : MethodName := ⟨RX0, "startsJoinedRun", "(III)Z"⟩
abbrev cX0_recordOfStart : ByteArray := prog_1_method_45_code
def yX0_recordOfStart : MethodName := ⟨RX0, "recordOfStart", "(I)I"⟩
abbrev cX0_validOfStart : ByteArray := prog_1_method_46_code
def yX0_validOfStart : MethodName := ⟨RX0, "validOfStart", "(I)I"⟩
abbrev cX0_startOfRow : ByteArray := prog_1_method_47_code
def yX0_startOfRow : MethodName := ⟨RX0, "startOfRow", "(II)I"⟩
abbrev cX0_isKept : ByteArray := prog_1_method_48_code
def yX0_isKept : MethodName := ⟨RX0, "isKept", "(I)Z"⟩
abbrev cX0_startsRow : ByteArray := prog_1_method_49_code
def yX0_startsRow : MethodName := ⟨RX0, "startsRow", "(III)Z"⟩
abbrev cX0_sameRun : ByteArray := prog_1_method_50_code
def yX0_sameRun : MethodName := ⟨RX0, "sameRun", "(IIII)Z"⟩
def RX1 : String := "TwotimesModel"
def TX1 : u_T := fun k => match k with
  | 0 => ("TwotimesModel", "thrown", "I", false)
  | 1 => ("TwotimesModel", "today", "I", false)
  | 2 => ("TwotimesModel", "known", "[I", true)
  | 3 => ("TwotimesModel", "rowFirst", "I", false)
  | 4 => ("TwotimesModel", "rowBegin", "I", false)
  | _ => ("TwotimesModel", "rowEnd", "I", false)
def tyX1 : Nat → FieldType := fun k => match k with
  | 0 => .int
  | 1 => .int
  | 2 => .array .int
  | 3 => .int
  | 4 => .int
  | _ => .int
abbrev wsX10 : List Cond := u_ws RX1 TX1 6
theorem nmX1 : ∀ a, a < 6 → ∀ b, b < 6 → a ≠ b → (TX1 a).2.1 ≠ (TX1 b).2.1 := by decide +kernel
theorem tyX1_ok : ∀ k, k < 6 → parseFieldDescriptor (TX1 k).2.2.1 = some (tyX1 k) := by decide +kernel
abbrev cX1_init : ByteArray := prog_3_method_1_code
def yX1_init : MethodName := ⟨RX1, "<init>", "()V"⟩
abbrev cX1_thrown : ByteArray := prog_3_method_2_code
def yX1_thrown : MethodName := ⟨RX1, "thrown", "()I"⟩
abbrev cX1_holds : ByteArray := prog_3_method_3_code
def yX1_holds : MethodName := ⟨RX1, "holds", "(I)Z"⟩
abbrev cX1_in : ByteArray := prog_3_method_4_code
def yX1_in : MethodName := ⟨RX1, "in", "(III)Z"⟩
abbrev cX1_isKey : ByteArray := prog_3_method_5_code
def yX1_isKey : MethodName := ⟨RX1, "isKey", "(II)Z"⟩
abbrev cX1_isDay : ByteArray := prog_3_method_6_code
def yX1_isDay : MethodName := ⟨RX1, "isDay", "(I)Z"⟩
abbrev cX1_isSpan : ByteArray := prog_3_method_7_code
def yX1_isSpan : MethodName := ⟨RX1, "isSpan", "(II)Z"⟩
abbrev cX1_place : ByteArray := prog_3_method_8_code
def yX1_place : MethodName := ⟨RX1, "place", "(IIII)I"⟩
abbrev cX1_of : ByteArray := prog_3_method_9_code
def yX1_of : MethodName := ⟨RX1, "of", "(IIII)I"⟩
abbrev cX1_isReferred : ByteArray := prog_3_method_10_code
def yX1_isReferred : MethodName := ⟨RX1, "isReferred", "(II)Z"⟩
abbrev cX1_may : ByteArray := prog_3_method_11_code
def yX1_may : MethodName := ⟨RX1, "may", "(IIII)Z"⟩
abbrev cX1_mayAll : ByteArray := prog_3_method_12_code
def yX1_mayAll : MethodName := ⟨RX1, "mayAll", "(IIIII)Z"⟩
abbrev cX1_sets : ByteArray := prog_3_method_13_code
def yX1_sets : MethodName := ⟨RX1, "sets", "(IIII)I"⟩
abbrev cX1_setsAll : ByteArray := prog_3_method_14_code
def yX1_setsAll : MethodName := ⟨RX1, "setsAll", "(IIIII)I"⟩
abbrev cX1_put : ByteArray := prog_3_method_15_code
def yX1_put : MethodName := ⟨RX1, "put", "(IIIII)I"⟩
abbrev cX1_erase : ByteArray := prog_3_method_16_code
def yX1_erase : MethodName := ⟨RX1, "erase", "(IIII)I"⟩
abbrev cX1_eraseAll : ByteArray := prog_3_method_17_code
def yX1_eraseAll : MethodName := ⟨RX1, "eraseAll", "(III)I"⟩
abbrev cX1_errorOfRecord : ByteArray := prog_3_method_18_code
def yX1_errorOfRecord : MethodName := ⟨RX1, "errorOfRecord", "(ZI)I"⟩
abbrev cX1_restore : ByteArray := prog_3_method_19_code
def yX1_restore : MethodName := ⟨RX1, "restore", "(III)I"⟩
abbrev cX1_pass : ByteArray := prog_3_method_20_code
def yX1_pass : MethodName := ⟨RX1, "pass", "(I)I"⟩
abbrev cX1_today : ByteArray := prog_3_method_21_code
def yX1_today : MethodName := ⟨RX1, "today", "()I"⟩
abbrev cX1_value : ByteArray := prog_3_method_22_code
def yX1_value : MethodName := ⟨RX1, "value", "(IIII)I"⟩
abbrev cX1_keys : ByteArray := prog_3_method_23_code
def yX1_keys : MethodName := ⟨RX1, "keys", "(III)I"⟩
abbrev cX1_joinedOf : ByteArray := prog_3_method_24_code
def yX1_joinedOf : MethodName := ⟨RX1, "joinedOf", "(III)I"⟩
abbrev cX1_joined : ByteArray := prog_3_method_25_code
def yX1_joined : MethodName := ⟨RX1, "joined", "(III)I"⟩
abbrev cX1_begins : ByteArray := prog_3_method_26_code
def yX1_begins : MethodName := ⟨RX1, "begins", "(IIII)Z"⟩
abbrev cX1_end : ByteArray := prog_3_method_27_code
def yX1_end : MethodName := ⟨RX1, "end", "(IIII)I"⟩
abbrev cX1_told : ByteArray := prog_3_method_28_code
def yX1_told : MethodName := ⟨RX1, "told", "(IIII)I"⟩
abbrev cX1_runsOf : ByteArray := prog_3_method_29_code
def yX1_runsOf : MethodName := ⟨RX1, "runsOf", "(III)I"⟩
abbrev cX1_runs : ByteArray := prog_3_method_30_code
def yX1_runs : MethodName := ⟨RX1, "runs", "(III)I"⟩
abbrev cX1_run : ByteArray := prog_3_method_31_code
def yX1_run : MethodName := ⟨RX1, "run", "(IIII)I"⟩
abbrev cX1_joinedRuns : ByteArray := prog_3_method_32_code
def yX1_joinedRuns : MethodName := ⟨RX1, "joinedRuns", "(II)I"⟩
abbrev cX1_rowsOf : ByteArray := prog_3_method_33_code
def yX1_rowsOf : MethodName := ⟨RX1, "rowsOf", "(III)I"⟩
abbrev cX1_rows : ByteArray := prog_3_method_34_code
def yX1_rows : MethodName := ⟨RX1, "rows", "(II)I"⟩
abbrev cX1_errorOfRow : ByteArray := prog_3_method_35_code
def yX1_errorOfRow : MethodName := ⟨RX1, "errorOfRow", "(III)I"⟩
abbrev cX1_rowRun : ByteArray := prog_3_method_36_code
def yX1_rowRun : MethodName := ⟨RX1, "rowRun", "(III)I"⟩
abbrev cX1_rowFrom : ByteArray := prog_3_method_37_code
def yX1_rowFrom : MethodName := ⟨RX1, "rowFrom", "(III)I"⟩
abbrev cX1_rowTo : ByteArray := prog_3_method_38_code
def yX1_rowTo : MethodName := ⟨RX1, "rowTo", "(III)I"⟩
abbrev cX1_corrections : ByteArray := prog_3_method_39_code
def yX1_corrections : MethodName := ⟨RX1, "corrections", "(IIIII)I"⟩
abbrev cX1_longest : ByteArray := prog_3_method_40_code
def yX1_longest : MethodName := ⟨RX1, "longest", "(III)I"⟩
abbrev cX1_average : ByteArray := prog_3_method_41_code
def yX1_average : MethodName := ⟨RX1, "average", "(II)F"⟩
def RJ9 : String := "java/lang/Math"
def TJ9 : u_T := fun k => match k with
  | _ => ("", "", "", false)
def tyJ9 : Nat → FieldType := fun k => match k with
  | _ => .int
abbrev wsJ90 : List Cond := u_ws RJ9 TJ9 0
theorem nmJ9 : ∀ a, a < 0 → ∀ b, b < 0 → a ≠ b → (TJ9 a).2.1 ≠ (TJ9 b).2.1 := by decide +kernel
theorem tyJ9_ok : ∀ k, k < 0 → parseFieldDescriptor (TJ9 k).2.2.1 = some (tyJ9 k) := by decide +kernel
abbrev cJ9_max_7cf53 : ByteArray := prog_8_method_65_code
def yJ9_max_7cf53 : MethodName := ⟨RJ9, "max", "(II)I"⟩
def RJ0 : String := "java/lang/String"
def TJ0 : u_T := fun k => match k with
  | _ => ("", "", "", false)
def tyJ0 : Nat → FieldType := fun k => match k with
  | _ => .int
abbrev wsJ00 : List Cond := u_ws RJ0 TJ0 0
theorem nmJ0 : ∀ a, a < 0 → ∀ b, b < 0 → a ≠ b → (TJ0 a).2.1 ≠ (TJ0 b).2.1 := by decide +kernel
theorem tyJ0_ok : ∀ k, k < 0 → parseFieldDescriptor (TJ0 k).2.2.1 = some (tyJ0 k) := by decide +kernel
def RJ10 : String := "java/lang/System"
def TJ10 : u_T := fun k => match k with
  | _ => ("", "", "", false)
def tyJ10 : Nat → FieldType := fun k => match k with
  | _ => .int
abbrev wsJ100 : List Cond := u_ws RJ10 TJ10 0
theorem nmJ10 : ∀ a, a < 0 → ∀ b, b < 0 → a ≠ b → (TJ10 a).2.1 ≠ (TJ10 b).2.1 := by decide +kernel
theorem tyJ10_ok : ∀ k, k < 0 → parseFieldDescriptor (TJ10 k).2.2.1 = some (tyJ10 k) := by decide +kernel
def RL : String := "TwotimesLaw"
abbrev cL_put : ByteArray := method_3_code
def yL_put : MethodName := ⟨RL, "put", "(LTwotimes;IIIII[J)I"⟩
abbrev cL_erase : ByteArray := method_4_code
def yL_erase : MethodName := ⟨RL, "erase", "(LTwotimes;IIII[J)I"⟩
abbrev cL_eraseAll : ByteArray := method_5_code
def yL_eraseAll : MethodName := ⟨RL, "eraseAll", "(LTwotimes;III[J)I"⟩
abbrev cL_restore : ByteArray := method_6_code
def yL_restore : MethodName := ⟨RL, "restore", "(LTwotimes;III[J)I"⟩
abbrev cL_pass : ByteArray := method_7_code
def yL_pass : MethodName := ⟨RL, "pass", "(LTwotimes;I[J)I"⟩
abbrev cL_value : ByteArray := method_8_code
def yL_value : MethodName := ⟨RL, "value", "(LTwotimes;IIII[J)I"⟩
abbrev cL_keys : ByteArray := method_9_code
def yL_keys : MethodName := ⟨RL, "keys", "(LTwotimes;III[J)I"⟩
abbrev cL_joined : ByteArray := method_10_code
def yL_joined : MethodName := ⟨RL, "joined", "(LTwotimes;III[J)I"⟩
abbrev cL_runs : ByteArray := method_11_code
def yL_runs : MethodName := ⟨RL, "runs", "(LTwotimes;III[J)I"⟩
abbrev cL_run : ByteArray := method_12_code
def yL_run : MethodName := ⟨RL, "run", "(LTwotimes;IIII[J)I"⟩
abbrev cL_joinedRuns : ByteArray := method_13_code
def yL_joinedRuns : MethodName := ⟨RL, "joinedRuns", "(LTwotimes;II[J)I"⟩
abbrev cL_rows : ByteArray := method_14_code
def yL_rows : MethodName := ⟨RL, "rows", "(LTwotimes;II[J)I"⟩
abbrev cL_rowRun : ByteArray := method_15_code
def yL_rowRun : MethodName := ⟨RL, "rowRun", "(LTwotimes;III[J)I"⟩
abbrev cL_rowFrom : ByteArray := method_16_code
def yL_rowFrom : MethodName := ⟨RL, "rowFrom", "(LTwotimes;III[J)I"⟩
abbrev cL_rowTo : ByteArray := method_17_code
def yL_rowTo : MethodName := ⟨RL, "rowTo", "(LTwotimes;III[J)I"⟩
abbrev cL_corrections : ByteArray := method_18_code
def yL_corrections : MethodName := ⟨RL, "corrections", "(LTwotimes;IIIII[J)I"⟩
abbrev cL_longest : ByteArray := method_19_code
def yL_longest : MethodName := ⟨RL, "longest", "(LTwotimes;III[J)I"⟩
abbrev cL_average : ByteArray := method_20_code
def yL_average : MethodName := ⟨RL, "average", "(LTwotimes;II[D)I"⟩
abbrev cL_law : ByteArray := code
def yL_law : MethodName := ⟨RL, "law", "([I)Z"⟩
theorem wsL_law_x0 : ∀ w ∈ (vx_atS RX0 59 "java/lang/IllegalArgumentException" ["java/lang/RuntimeException", "java/lang/Exception"]).filter goodWord, w ∈ lw_tbl := by decide +kernel
theorem wsL_law_x1 : ∀ w ∈ (vx_atS RX0 70 "java/lang/IllegalStateException" ["java/lang/RuntimeException", "java/lang/Exception"]).filter goodWord, w ∈ lw_tbl := by decide +kernel
theorem wsL_law_x2 : ∀ w ∈ (vx_atS RX0 95 "java/lang/IndexOutOfBoundsException" ["java/lang/RuntimeException", "java/lang/Exception"]).filter goodWord, w ∈ lw_tbl := by decide +kernel
theorem inJ9 : ∀ w ∈ wsJ90, w ∈ lw_tbl := by decide +kernel
theorem inJ0 : ∀ w ∈ wsJ00, w ∈ lw_tbl := by decide +kernel
theorem inJ10 : ∀ w ∈ wsJ100, w ∈ lw_tbl := by decide +kernel
abbrev vwCl : List vw_C := [(RX0, TX0, 4), (RX1, TX1, 6)]
end
section
theorem dX0_init_0 : decode cX0_init 0 = .ok (.aload_n 0, 1) := by decide +kernel
theorem dX0_init_1 : decode cX0_init 1 = .ok (.invokespecial 3, 3) := by decide +kernel
theorem dX0_init_4 : decode cX0_init 4 = .ok (.aload_n 0, 1) := by decide +kernel
theorem dX0_init_5 : decode cX0_init 5 = .ok (.ldc 9, 2) := by decide +kernel
theorem dX0_init_7 : decode cX0_init 7 = .ok (.newarray .int, 2) := by decide +kernel
theorem dX0_init_9 : decode cX0_init 9 = .ok (.putfield 10, 3) := by decide +kernel
theorem dX0_init_12 : decode cX0_init 12 = .ok (.aload_n 0, 1) := by decide +kernel
theorem dX0_init_13 : decode cX0_init 13 = .ok (.bipush 60, 2) := by decide +kernel
theorem dX0_init_15 : decode cX0_init 15 = .ok (.newarray .int, 2) := by decide +kernel
theorem dX0_init_17 : decode cX0_init 17 = .ok (.putfield 14, 3) := by decide +kernel
theorem dX0_init_20 : decode cX0_init 20 = .ok (.aload_n 0, 1) := by decide +kernel
theorem dX0_init_21 : decode cX0_init 21 = .ok (.bipush 60, 2) := by decide +kernel
theorem dX0_init_23 : decode cX0_init 23 = .ok (.newarray .int, 2) := by decide +kernel
theorem dX0_init_25 : decode cX0_init 25 = .ok (.putfield 17, 3) := by decide +kernel
theorem dX0_init_28 : decode cX0_init 28 = .ok (.iconst 0, 1) := by decide +kernel
theorem dX0_init_29 : decode cX0_init 29 = .ok (.istore_n 1, 1) := by decide +kernel
theorem dX0_init_30 : decode cX0_init 30 = .ok (.iload_n 1, 1) := by decide +kernel
theorem dX0_init_31 : decode cX0_init 31 = .ok (.sipush 960, 3) := by decide +kernel
theorem dX0_init_34 : decode cX0_init 34 = .ok (.if_icmp .ge 16, 3) := by decide +kernel
theorem dX0_init_37 : decode cX0_init 37 = .ok (.aload_n 0, 1) := by decide +kernel
theorem dX0_init_38 : decode cX0_init 38 = .ok (.getfield 10, 3) := by decide +kernel
theorem dX0_init_41 : decode cX0_init 41 = .ok (.iload_n 1, 1) := by decide +kernel
theorem dX0_init_42 : decode cX0_init 42 = .ok (.iconst (-1), 1) := by decide +kernel
theorem dX0_init_43 : decode cX0_init 43 = .ok (.iastore, 1) := by decide +kernel
theorem dX0_init_44 : decode cX0_init 44 = .ok (.iinc 1 1, 3) := by decide +kernel
theorem dX0_init_47 : decode cX0_init 47 = .ok (.goto (-17), 3) := by decide +kernel
theorem dX0_init_50 : decode cX0_init 50 = .ok (.return_, 1) := by decide +kernel
theorem dX0_put_0 : decode cX0_put 0 = .ok (.iload_n 1, 1) := by decide +kernel
theorem dX0_put_1 : decode cX0_put 1 = .ok (.iload_n 2, 1) := by decide +kernel
theorem dX0_put_2 : decode cX0_put 2 = .ok (.invokestatic 20, 3) := by decide +kernel
theorem dX0_put_5 : decode cX0_put 5 = .ok (.iload_n 3, 1) := by decide +kernel
theorem dX0_put_6 : decode cX0_put 6 = .ok (.iload_n 1, 1) := by decide +kernel
theorem dX0_put_7 : decode cX0_put 7 = .ok (.invokestatic 24, 3) := by decide +kernel
theorem dX0_put_10 : decode cX0_put 10 = .ok (.invokestatic 28, 3) := by decide +kernel
theorem dX0_put_13 : decode cX0_put 13 = .ok (.iload 4, 2) := by decide +kernel
theorem dX0_put_15 : decode cX0_put 15 = .ok (.iload 5, 2) := by decide +kernel
theorem dX0_put_17 : decode cX0_put 17 = .ok (.invokestatic 31, 3) := by decide +kernel
theorem dX0_put_20 : decode cX0_put 20 = .ok (.aload_n 0, 1) := by decide +kernel
theorem dX0_put_21 : decode cX0_put 21 = .ok (.iload_n 1, 1) := by decide +kernel
theorem dX0_put_22 : decode cX0_put 22 = .ok (.iload_n 2, 1) := by decide +kernel
theorem dX0_put_23 : decode cX0_put 23 = .ok (.invokestatic 34, 3) := by decide +kernel
theorem dX0_put_26 : decode cX0_put 26 = .ok (.iload 4, 2) := by decide +kernel
theorem dX0_put_28 : decode cX0_put 28 = .ok (.iload 5, 2) := by decide +kernel
theorem dX0_put_30 : decode cX0_put 30 = .ok (.iload_n 3, 1) := by decide +kernel
theorem dX0_put_31 : decode cX0_put 31 = .ok (.invokevirtual 38, 3) := by decide +kernel
theorem dX0_put_34 : decode cX0_put 34 = .ok (.aload_n 0, 1) := by decide +kernel
theorem dX0_put_35 : decode cX0_put 35 = .ok (.iload_n 1, 1) := by decide +kernel
theorem dX0_put_36 : decode cX0_put 36 = .ok (.iload_n 2, 1) := by decide +kernel
theorem dX0_put_37 : decode cX0_put 37 = .ok (.invokevirtual 42, 3) := by decide +kernel
theorem dX0_put_40 : decode cX0_put 40 = .ok (.ireturn, 1) := by decide +kernel
theorem dX0_erase_0 : decode cX0_erase 0 = .ok (.iload_n 1, 1) := by decide +kernel
theorem dX0_erase_1 : decode cX0_erase 1 = .ok (.iload_n 2, 1) := by decide +kernel
theorem dX0_erase_2 : decode cX0_erase 2 = .ok (.invokestatic 20, 3) := by decide +kernel
theorem dX0_erase_5 : decode cX0_erase 5 = .ok (.iload_n 3, 1) := by decide +kernel
theorem dX0_erase_6 : decode cX0_erase 6 = .ok (.iload 4, 2) := by decide +kernel
theorem dX0_erase_8 : decode cX0_erase 8 = .ok (.invokestatic 31, 3) := by decide +kernel
theorem dX0_erase_11 : decode cX0_erase 11 = .ok (.aload_n 0, 1) := by decide +kernel
theorem dX0_erase_12 : decode cX0_erase 12 = .ok (.iload_n 1, 1) := by decide +kernel
theorem dX0_erase_13 : decode cX0_erase 13 = .ok (.iload_n 2, 1) := by decide +kernel
theorem dX0_erase_14 : decode cX0_erase 14 = .ok (.invokestatic 34, 3) := by decide +kernel
theorem dX0_erase_17 : decode cX0_erase 17 = .ok (.iload_n 3, 1) := by decide +kernel
theorem dX0_erase_18 : decode cX0_erase 18 = .ok (.iload 4, 2) := by decide +kernel
theorem dX0_erase_20 : decode cX0_erase 20 = .ok (.iconst (-1), 1) := by decide +kernel
theorem dX0_erase_21 : decode cX0_erase 21 = .ok (.invokevirtual 38, 3) := by decide +kernel
theorem dX0_erase_24 : decode cX0_erase 24 = .ok (.aload_n 0, 1) := by decide +kernel
theorem dX0_erase_25 : decode cX0_erase 25 = .ok (.iload_n 1, 1) := by decide +kernel
theorem dX0_erase_26 : decode cX0_erase 26 = .ok (.iload_n 2, 1) := by decide +kernel
theorem dX0_erase_27 : decode cX0_erase 27 = .ok (.invokevirtual 42, 3) := by decide +kernel
theorem dX0_erase_30 : decode cX0_erase 30 = .ok (.ireturn, 1) := by decide +kernel
theorem dX0_eraseAll_0 : decode cX0_eraseAll 0 = .ok (.iload_n 1, 1) := by decide +kernel
theorem dX0_eraseAll_1 : decode cX0_eraseAll 1 = .ok (.bipush 8, 2) := by decide +kernel
theorem dX0_eraseAll_3 : decode cX0_eraseAll 3 = .ok (.invokestatic 28, 3) := by decide +kernel
theorem dX0_eraseAll_6 : decode cX0_eraseAll 6 = .ok (.iload_n 2, 1) := by decide +kernel
theorem dX0_eraseAll_7 : decode cX0_eraseAll 7 = .ok (.iload_n 3, 1) := by decide +kernel
theorem dX0_eraseAll_8 : decode cX0_eraseAll 8 = .ok (.invokestatic 31, 3) := by decide +kernel
theorem dX0_eraseAll_11 : decode cX0_eraseAll 11 = .ok (.iconst 0, 1) := by decide +kernel
theorem dX0_eraseAll_12 : decode cX0_eraseAll 12 = .ok (.istore 4, 2) := by decide +kernel
theorem dX0_eraseAll_14 : decode cX0_eraseAll 14 = .ok (.iload_n 2, 1) := by decide +kernel
theorem dX0_eraseAll_15 : decode cX0_eraseAll 15 = .ok (.istore 5, 2) := by decide +kernel
theorem dX0_eraseAll_17 : decode cX0_eraseAll 17 = .ok (.iload 5, 2) := by decide +kernel
theorem dX0_eraseAll_19 : decode cX0_eraseAll 19 = .ok (.iload_n 3, 1) := by decide +kernel
theorem dX0_eraseAll_20 : decode cX0_eraseAll 20 = .ok (.if_icmp .ge 21, 3) := by decide +kernel
theorem dX0_eraseAll_23 : decode cX0_eraseAll 23 = .ok (.iload 4, 2) := by decide +kernel
theorem dX0_eraseAll_25 : decode cX0_eraseAll 25 = .ok (.aload_n 0, 1) := by decide +kernel
theorem dX0_eraseAll_26 : decode cX0_eraseAll 26 = .ok (.iload_n 1, 1) := by decide +kernel
theorem dX0_eraseAll_27 : decode cX0_eraseAll 27 = .ok (.iload 5, 2) := by decide +kernel
theorem dX0_eraseAll_29 : decode cX0_eraseAll 29 = .ok (.invokevirtual 45, 3) := by decide +kernel
theorem dX0_eraseAll_32 : decode cX0_eraseAll 32 = .ok (.iadd, 1) := by decide +kernel
theorem dX0_eraseAll_33 : decode cX0_eraseAll 33 = .ok (.istore 4, 2) := by decide +kernel
theorem dX0_eraseAll_35 : decode cX0_eraseAll 35 = .ok (.iinc 5 1, 3) := by decide +kernel
theorem dX0_eraseAll_38 : decode cX0_eraseAll 38 = .ok (.goto (-21), 3) := by decide +kernel
theorem dX0_eraseAll_41 : decode cX0_eraseAll 41 = .ok (.iload 4, 2) := by decide +kernel
theorem dX0_eraseAll_43 : decode cX0_eraseAll 43 = .ok (.ireturn, 1) := by decide +kernel
theorem dX0_restore_0 : decode cX0_restore 0 = .ok (.iload_n 1, 1) := by decide +kernel
theorem dX0_restore_1 : decode cX0_restore 1 = .ok (.iload_n 2, 1) := by decide +kernel
theorem dX0_restore_2 : decode cX0_restore 2 = .ok (.invokestatic 20, 3) := by decide +kernel
theorem dX0_restore_5 : decode cX0_restore 5 = .ok (.aload_n 0, 1) := by decide +kernel
theorem dX0_restore_6 : decode cX0_restore 6 = .ok (.iload_n 3, 1) := by decide +kernel
theorem dX0_restore_7 : decode cX0_restore 7 = .ok (.invokevirtual 48, 3) := by decide +kernel
theorem dX0_restore_10 : decode cX0_restore 10 = .ok (.aload_n 0, 1) := by decide +kernel
theorem dX0_restore_11 : decode cX0_restore 11 = .ok (.iload_n 1, 1) := by decide +kernel
theorem dX0_restore_12 : decode cX0_restore 12 = .ok (.iload_n 2, 1) := by decide +kernel
theorem dX0_restore_13 : decode cX0_restore 13 = .ok (.invokestatic 34, 3) := by decide +kernel
theorem dX0_restore_16 : decode cX0_restore 16 = .ok (.iload_n 3, 1) := by decide +kernel
theorem dX0_restore_17 : decode cX0_restore 17 = .ok (.invokevirtual 52, 3) := by decide +kernel
theorem dX0_restore_20 : decode cX0_restore 20 = .ok (.aload_n 0, 1) := by decide +kernel
theorem dX0_restore_21 : decode cX0_restore 21 = .ok (.iload_n 1, 1) := by decide +kernel
theorem dX0_restore_22 : decode cX0_restore 22 = .ok (.iload_n 2, 1) := by decide +kernel
theorem dX0_restore_23 : decode cX0_restore 23 = .ok (.invokevirtual 42, 3) := by decide +kernel
theorem dX0_restore_26 : decode cX0_restore 26 = .ok (.ireturn, 1) := by decide +kernel
theorem dX0_pass_0 : decode cX0_pass 0 = .ok (.iload_n 1, 1) := by decide +kernel
theorem dX0_pass_1 : decode cX0_pass 1 = .ok (.iconst 1, 1) := by decide +kernel
theorem dX0_pass_2 : decode cX0_pass 2 = .ok (.if_icmp .lt 9, 3) := by decide +kernel
theorem dX0_pass_5 : decode cX0_pass 5 = .ok (.iload_n 1, 1) := by decide +kernel
theorem dX0_pass_6 : decode cX0_pass 6 = .ok (.bipush 60, 2) := by decide +kernel
theorem dX0_pass_8 : decode cX0_pass 8 = .ok (.if_icmp .lt 13, 3) := by decide +kernel
theorem dX0_pass_11 : decode cX0_pass 11 = .ok (.new 55, 3) := by decide +kernel
theorem dX0_pass_14 : decode cX0_pass 14 = .ok (.dup, 1) := by decide +kernel
theorem dX0_pass_15 : decode cX0_pass 15 = .ok (.ldc 57, 2) := by decide +kernel
theorem dX0_pass_17 : decode cX0_pass 17 = .ok (.invokespecial 59, 3) := by decide +kernel
theorem dX0_pass_20 : decode cX0_pass 20 = .ok (.athrow, 1) := by decide +kernel
theorem dX0_pass_21 : decode cX0_pass 21 = .ok (.aload_n 0, 1) := by decide +kernel
theorem dX0_pass_22 : decode cX0_pass 22 = .ok (.getfield 62, 3) := by decide +kernel
theorem dX0_pass_25 : decode cX0_pass 25 = .ok (.iload_n 1, 1) := by decide +kernel
theorem dX0_pass_26 : decode cX0_pass 26 = .ok (.iadd, 1) := by decide +kernel
theorem dX0_pass_27 : decode cX0_pass 27 = .ok (.bipush 60, 2) := by decide +kernel
theorem dX0_pass_29 : decode cX0_pass 29 = .ok (.if_icmp .lt 13, 3) := by decide +kernel
theorem dX0_pass_32 : decode cX0_pass 32 = .ok (.new 66, 3) := by decide +kernel
theorem dX0_pass_35 : decode cX0_pass 35 = .ok (.dup, 1) := by decide +kernel
theorem dX0_pass_36 : decode cX0_pass 36 = .ok (.ldc 68, 2) := by decide +kernel
theorem dX0_pass_38 : decode cX0_pass 38 = .ok (.invokespecial 70, 3) := by decide +kernel
theorem dX0_pass_41 : decode cX0_pass 41 = .ok (.athrow, 1) := by decide +kernel
theorem dX0_pass_42 : decode cX0_pass 42 = .ok (.aload_n 0, 1) := by decide +kernel
theorem dX0_pass_43 : decode cX0_pass 43 = .ok (.getfield 62, 3) := by decide +kernel
theorem dX0_pass_46 : decode cX0_pass 46 = .ok (.iload_n 1, 1) := by decide +kernel
theorem dX0_pass_47 : decode cX0_pass 47 = .ok (.iadd, 1) := by decide +kernel
theorem dX0_pass_48 : decode cX0_pass 48 = .ok (.istore_n 2, 1) := by decide +kernel
theorem dX0_pass_49 : decode cX0_pass 49 = .ok (.aload_n 0, 1) := by decide +kernel
theorem dX0_pass_50 : decode cX0_pass 50 = .ok (.getfield 62, 3) := by decide +kernel
theorem dX0_pass_53 : decode cX0_pass 53 = .ok (.iconst 1, 1) := by decide +kernel
theorem dX0_pass_54 : decode cX0_pass 54 = .ok (.iadd, 1) := by decide +kernel
theorem dX0_pass_55 : decode cX0_pass 55 = .ok (.istore_n 3, 1) := by decide +kernel
theorem dX0_pass_56 : decode cX0_pass 56 = .ok (.iload_n 3, 1) := by decide +kernel
theorem dX0_pass_57 : decode cX0_pass 57 = .ok (.iload_n 2, 1) := by decide +kernel
theorem dX0_pass_58 : decode cX0_pass 58 = .ok (.if_icmp .ge 18, 3) := by decide +kernel
theorem dX0_pass_61 : decode cX0_pass 61 = .ok (.aload_n 0, 1) := by decide +kernel
theorem dX0_pass_62 : decode cX0_pass 62 = .ok (.iload_n 3, 1) := by decide +kernel
theorem dX0_pass_63 : decode cX0_pass 63 = .ok (.aload_n 0, 1) := by decide +kernel
theorem dX0_pass_64 : decode cX0_pass 64 = .ok (.getfield 62, 3) := by decide +kernel
theorem dX0_pass_67 : decode cX0_pass 67 = .ok (.invokevirtual 71, 3) := by decide +kernel
theorem dX0_pass_70 : decode cX0_pass 70 = .ok (.iinc 3 1, 3) := by decide +kernel
theorem dX0_pass_73 : decode cX0_pass 73 = .ok (.goto (-17), 3) := by decide +kernel
theorem dX0_pass_76 : decode cX0_pass 76 = .ok (.aload_n 0, 1) := by decide +kernel
theorem dX0_pass_77 : decode cX0_pass 77 = .ok (.iload_n 2, 1) := by decide +kernel
theorem dX0_pass_78 : decode cX0_pass 78 = .ok (.iload_n 2, 1) := by decide +kernel
theorem dX0_pass_79 : decode cX0_pass 79 = .ok (.invokevirtual 71, 3) := by decide +kernel
theorem dX0_pass_82 : decode cX0_pass 82 = .ok (.aload_n 0, 1) := by decide +kernel
theorem dX0_pass_83 : decode cX0_pass 83 = .ok (.aload_n 0, 1) := by decide +kernel
theorem dX0_pass_84 : decode cX0_pass 84 = .ok (.getfield 62, 3) := by decide +kernel
theorem dX0_pass_87 : decode cX0_pass 87 = .ok (.iload_n 2, 1) := by decide +kernel
theorem dX0_pass_88 : decode cX0_pass 88 = .ok (.invokevirtual 74, 3) := by decide +kernel
theorem dX0_pass_91 : decode cX0_pass 91 = .ok (.aload_n 0, 1) := by decide +kernel
theorem dX0_pass_92 : decode cX0_pass 92 = .ok (.iload_n 2, 1) := by decide +kernel
theorem dX0_pass_93 : decode cX0_pass 93 = .ok (.putfield 62, 3) := by decide +kernel
theorem dX0_pass_96 : decode cX0_pass 96 = .ok (.aload_n 0, 1) := by decide +kernel
theorem dX0_pass_97 : decode cX0_pass 97 = .ok (.getfield 62, 3) := by decide +kernel
theorem dX0_pass_100 : decode cX0_pass 100 = .ok (.ireturn, 1) := by decide +kernel
theorem dX0_today_0 : decode cX0_today 0 = .ok (.aload_n 0, 1) := by decide +kernel
theorem dX0_today_1 : decode cX0_today 1 = .ok (.getfield 62, 3) := by decide +kernel
theorem dX0_today_4 : decode cX0_today 4 = .ok (.ireturn, 1) := by decide +kernel
theorem dX0_value_0 : decode cX0_value 0 = .ok (.iload_n 1, 1) := by decide +kernel
theorem dX0_value_1 : decode cX0_value 1 = .ok (.iload_n 2, 1) := by decide +kernel
theorem dX0_value_2 : decode cX0_value 2 = .ok (.invokestatic 20, 3) := by decide +kernel
theorem dX0_value_5 : decode cX0_value 5 = .ok (.iload_n 3, 1) := by decide +kernel
theorem dX0_value_6 : decode cX0_value 6 = .ok (.bipush 60, 2) := by decide +kernel
theorem dX0_value_8 : decode cX0_value 8 = .ok (.invokestatic 28, 3) := by decide +kernel
theorem dX0_value_11 : decode cX0_value 11 = .ok (.aload_n 0, 1) := by decide +kernel
theorem dX0_value_12 : decode cX0_value 12 = .ok (.iload 4, 2) := by decide +kernel
theorem dX0_value_14 : decode cX0_value 14 = .ok (.invokevirtual 48, 3) := by decide +kernel
theorem dX0_value_17 : decode cX0_value 17 = .ok (.aload_n 0, 1) := by decide +kernel
theorem dX0_value_18 : decode cX0_value 18 = .ok (.iload 4, 2) := by decide +kernel
theorem dX0_value_20 : decode cX0_value 20 = .ok (.iload_n 1, 1) := by decide +kernel
theorem dX0_value_21 : decode cX0_value 21 = .ok (.iload_n 2, 1) := by decide +kernel
theorem dX0_value_22 : decode cX0_value 22 = .ok (.invokestatic 34, 3) := by decide +kernel
theorem dX0_value_25 : decode cX0_value 25 = .ok (.iload_n 3, 1) := by decide +kernel
theorem dX0_value_26 : decode cX0_value 26 = .ok (.invokevirtual 77, 3) := by decide +kernel
theorem dX0_value_29 : decode cX0_value 29 = .ok (.ireturn, 1) := by decide +kernel
theorem dX0_keys_0 : decode cX0_keys 0 = .ok (.iload_n 1, 1) := by decide +kernel
theorem dX0_keys_1 : decode cX0_keys 1 = .ok (.iconst 2, 1) := by decide +kernel
theorem dX0_keys_2 : decode cX0_keys 2 = .ok (.invokestatic 28, 3) := by decide +kernel
theorem dX0_keys_5 : decode cX0_keys 5 = .ok (.iload_n 2, 1) := by decide +kernel
theorem dX0_keys_6 : decode cX0_keys 6 = .ok (.bipush 60, 2) := by decide +kernel
theorem dX0_keys_8 : decode cX0_keys 8 = .ok (.invokestatic 28, 3) := by decide +kernel
theorem dX0_keys_11 : decode cX0_keys 11 = .ok (.aload_n 0, 1) := by decide +kernel
theorem dX0_keys_12 : decode cX0_keys 12 = .ok (.iload_n 3, 1) := by decide +kernel
theorem dX0_keys_13 : decode cX0_keys 13 = .ok (.invokevirtual 48, 3) := by decide +kernel
theorem dX0_keys_16 : decode cX0_keys 16 = .ok (.iconst 0, 1) := by decide +kernel
theorem dX0_keys_17 : decode cX0_keys 17 = .ok (.istore 4, 2) := by decide +kernel
theorem dX0_keys_19 : decode cX0_keys 19 = .ok (.iconst 0, 1) := by decide +kernel
theorem dX0_keys_20 : decode cX0_keys 20 = .ok (.istore 5, 2) := by decide +kernel
theorem dX0_keys_22 : decode cX0_keys 22 = .ok (.iload 5, 2) := by decide +kernel
theorem dX0_keys_24 : decode cX0_keys 24 = .ok (.bipush 8, 2) := by decide +kernel
theorem dX0_keys_26 : decode cX0_keys 26 = .ok (.if_icmp .ge 34, 3) := by decide +kernel
theorem dX0_keys_29 : decode cX0_keys 29 = .ok (.aload_n 0, 1) := by decide +kernel
theorem dX0_keys_30 : decode cX0_keys 30 = .ok (.iload_n 3, 1) := by decide +kernel
theorem dX0_keys_31 : decode cX0_keys 31 = .ok (.iload_n 1, 1) := by decide +kernel
theorem dX0_keys_32 : decode cX0_keys 32 = .ok (.iload 5, 2) := by decide +kernel
theorem dX0_keys_34 : decode cX0_keys 34 = .ok (.invokestatic 34, 3) := by decide +kernel
theorem dX0_keys_37 : decode cX0_keys 37 = .ok (.iload_n 2, 1) := by decide +kernel
theorem dX0_keys_38 : decode cX0_keys 38 = .ok (.invokevirtual 77, 3) := by decide +kernel
theorem dX0_keys_41 : decode cX0_keys 41 = .ok (.iconst (-1), 1) := by decide +kernel
theorem dX0_keys_42 : decode cX0_keys 42 = .ok (.if_icmp .eq 12, 3) := by decide +kernel
theorem dX0_keys_45 : decode cX0_keys 45 = .ok (.iload 4, 2) := by decide +kernel
theorem dX0_keys_47 : decode cX0_keys 47 = .ok (.iconst 1, 1) := by decide +kernel
theorem dX0_keys_48 : decode cX0_keys 48 = .ok (.iload 5, 2) := by decide +kernel
theorem dX0_keys_50 : decode cX0_keys 50 = .ok (.ishl, 1) := by decide +kernel
theorem dX0_keys_51 : decode cX0_keys 51 = .ok (.ior, 1) := by decide +kernel
theorem dX0_keys_52 : decode cX0_keys 52 = .ok (.istore 4, 2) := by decide +kernel
theorem dX0_keys_54 : decode cX0_keys 54 = .ok (.iinc 5 1, 3) := by decide +kernel
theorem dX0_keys_57 : decode cX0_keys 57 = .ok (.goto (-35), 3) := by decide +kernel
theorem dX0_keys_60 : decode cX0_keys 60 = .ok (.iload 4, 2) := by decide +kernel
theorem dX0_keys_62 : decode cX0_keys 62 = .ok (.ireturn, 1) := by decide +kernel
theorem dX0_joined_0 : decode cX0_joined 0 = .ok (.iload_n 1, 1) := by decide +kernel
theorem dX0_joined_1 : decode cX0_joined 1 = .ok (.bipush 8, 2) := by decide +kernel
theorem dX0_joined_3 : decode cX0_joined 3 = .ok (.invokestatic 28, 3) := by decide +kernel
theorem dX0_joined_6 : decode cX0_joined 6 = .ok (.iload_n 2, 1) := by decide +kernel
theorem dX0_joined_7 : decode cX0_joined 7 = .ok (.bipush 60, 2) := by decide +kernel
theorem dX0_joined_9 : decode cX0_joined 9 = .ok (.invokestatic 28, 3) := by decide +kernel
theorem dX0_joined_12 : decode cX0_joined 12 = .ok (.aload_n 0, 1) := by decide +kernel
theorem dX0_joined_13 : decode cX0_joined 13 = .ok (.iload_n 3, 1) := by decide +kernel
theorem dX0_joined_14 : decode cX0_joined 14 = .ok (.invokevirtual 48, 3) := by decide +kernel
theorem dX0_joined_17 : decode cX0_joined 17 = .ok (.aload_n 0, 1) := by decide +kernel
theorem dX0_joined_18 : decode cX0_joined 18 = .ok (.iload_n 3, 1) := by decide +kernel
theorem dX0_joined_19 : decode cX0_joined 19 = .ok (.iload_n 1, 1) := by decide +kernel
theorem dX0_joined_20 : decode cX0_joined 20 = .ok (.iload_n 2, 1) := by decide +kernel
theorem dX0_joined_21 : decode cX0_joined 21 = .ok (.invokevirtual 81, 3) := by decide +kernel
theorem dX0_joined_24 : decode cX0_joined 24 = .ok (.ireturn, 1) := by decide +kernel
theorem dX0_runs_0 : decode cX0_runs 0 = .ok (.iload_n 1, 1) := by decide +kernel
theorem dX0_runs_1 : decode cX0_runs 1 = .ok (.iload_n 2, 1) := by decide +kernel
theorem dX0_runs_2 : decode cX0_runs 2 = .ok (.invokestatic 20, 3) := by decide +kernel
theorem dX0_runs_5 : decode cX0_runs 5 = .ok (.aload_n 0, 1) := by decide +kernel
theorem dX0_runs_6 : decode cX0_runs 6 = .ok (.iload_n 3, 1) := by decide +kernel
theorem dX0_runs_7 : decode cX0_runs 7 = .ok (.invokevirtual 48, 3) := by decide +kernel
theorem dX0_runs_10 : decode cX0_runs 10 = .ok (.iload_n 1, 1) := by decide +kernel
theorem dX0_runs_11 : decode cX0_runs 11 = .ok (.iload_n 2, 1) := by decide +kernel
theorem dX0_runs_12 : decode cX0_runs 12 = .ok (.invokestatic 34, 3) := by decide +kernel
theorem dX0_runs_15 : decode cX0_runs 15 = .ok (.istore 4, 2) := by decide +kernel
theorem dX0_runs_17 : decode cX0_runs 17 = .ok (.iconst 0, 1) := by decide +kernel
theorem dX0_runs_18 : decode cX0_runs 18 = .ok (.istore 5, 2) := by decide +kernel
theorem dX0_runs_20 : decode cX0_runs 20 = .ok (.iconst 0, 1) := by decide +kernel
theorem dX0_runs_21 : decode cX0_runs 21 = .ok (.istore 6, 2) := by decide +kernel
theorem dX0_runs_23 : decode cX0_runs 23 = .ok (.iload 6, 2) := by decide +kernel
theorem dX0_runs_25 : decode cX0_runs 25 = .ok (.bipush 60, 2) := by decide +kernel
theorem dX0_runs_27 : decode cX0_runs 27 = .ok (.if_icmp .ge 24, 3) := by decide +kernel
theorem dX0_runs_30 : decode cX0_runs 30 = .ok (.aload_n 0, 1) := by decide +kernel
theorem dX0_runs_31 : decode cX0_runs 31 = .ok (.iload_n 3, 1) := by decide +kernel
theorem dX0_runs_32 : decode cX0_runs 32 = .ok (.iload 4, 2) := by decide +kernel
theorem dX0_runs_34 : decode cX0_runs 34 = .ok (.iload 6, 2) := by decide +kernel
theorem dX0_runs_36 : decode cX0_runs 36 = .ok (.invokevirtual 84, 3) := by decide +kernel
theorem dX0_runs_39 : decode cX0_runs 39 = .ok (.ifCond .eq 6, 3) := by decide +kernel
theorem dX0_runs_42 : decode cX0_runs 42 = .ok (.iinc 5 1, 3) := by decide +kernel
theorem dX0_runs_45 : decode cX0_runs 45 = .ok (.iinc 6 1, 3) := by decide +kernel
theorem dX0_runs_48 : decode cX0_runs 48 = .ok (.goto (-25), 3) := by decide +kernel
theorem dX0_runs_51 : decode cX0_runs 51 = .ok (.iload 5, 2) := by decide +kernel
theorem dX0_runs_53 : decode cX0_runs 53 = .ok (.ireturn, 1) := by decide +kernel
theorem dX0_run_0 : decode cX0_run 0 = .ok (.iload_n 1, 1) := by decide +kernel
theorem dX0_run_1 : decode cX0_run 1 = .ok (.iload_n 2, 1) := by decide +kernel
theorem dX0_run_2 : decode cX0_run 2 = .ok (.invokestatic 20, 3) := by decide +kernel
theorem dX0_run_5 : decode cX0_run 5 = .ok (.aload_n 0, 1) := by decide +kernel
theorem dX0_run_6 : decode cX0_run 6 = .ok (.iload_n 3, 1) := by decide +kernel
theorem dX0_run_7 : decode cX0_run 7 = .ok (.invokevirtual 48, 3) := by decide +kernel
theorem dX0_run_10 : decode cX0_run 10 = .ok (.iload_n 1, 1) := by decide +kernel
theorem dX0_run_11 : decode cX0_run 11 = .ok (.iload_n 2, 1) := by decide +kernel
theorem dX0_run_12 : decode cX0_run 12 = .ok (.invokestatic 34, 3) := by decide +kernel
theorem dX0_run_15 : decode cX0_run 15 = .ok (.istore 5, 2) := by decide +kernel
theorem dX0_run_17 : decode cX0_run 17 = .ok (.aload_n 0, 1) := by decide +kernel
theorem dX0_run_18 : decode cX0_run 18 = .ok (.iload_n 3, 1) := by decide +kernel
theorem dX0_run_19 : decode cX0_run 19 = .ok (.iload 5, 2) := by decide +kernel
theorem dX0_run_21 : decode cX0_run 21 = .ok (.iload 4, 2) := by decide +kernel
theorem dX0_run_23 : decode cX0_run 23 = .ok (.invokevirtual 88, 3) := by decide +kernel
theorem dX0_run_26 : decode cX0_run 26 = .ok (.istore 6, 2) := by decide +kernel
theorem dX0_run_28 : decode cX0_run 28 = .ok (.iload 6, 2) := by decide +kernel
theorem dX0_run_30 : decode cX0_run 30 = .ok (.iconst (-1), 1) := by decide +kernel
theorem dX0_run_31 : decode cX0_run 31 = .ok (.if_icmp .ne 13, 3) := by decide +kernel
theorem dX0_run_34 : decode cX0_run 34 = .ok (.new 91, 3) := by decide +kernel
theorem dX0_run_37 : decode cX0_run 37 = .ok (.dup, 1) := by decide +kernel
theorem dX0_run_38 : decode cX0_run 38 = .ok (.ldc 93, 2) := by decide +kernel
theorem dX0_run_40 : decode cX0_run 40 = .ok (.invokespecial 95, 3) := by decide +kernel
theorem dX0_run_43 : decode cX0_run 43 = .ok (.athrow, 1) := by decide +kernel
theorem dX0_run_44 : decode cX0_run 44 = .ok (.aload_n 0, 1) := by decide +kernel
theorem dX0_run_45 : decode cX0_run 45 = .ok (.iload_n 3, 1) := by decide +kernel
theorem dX0_run_46 : decode cX0_run 46 = .ok (.iload 5, 2) := by decide +kernel
theorem dX0_run_48 : decode cX0_run 48 = .ok (.iload 6, 2) := by decide +kernel
theorem dX0_run_50 : decode cX0_run 50 = .ok (.invokevirtual 96, 3) := by decide +kernel
theorem dX0_run_53 : decode cX0_run 53 = .ok (.ireturn, 1) := by decide +kernel
theorem dX0_joinedRuns_0 : decode cX0_joinedRuns 0 = .ok (.iload_n 1, 1) := by decide +kernel
theorem dX0_joinedRuns_1 : decode cX0_joinedRuns 1 = .ok (.bipush 8, 2) := by decide +kernel
theorem dX0_joinedRuns_3 : decode cX0_joinedRuns 3 = .ok (.invokestatic 28, 3) := by decide +kernel
theorem dX0_joinedRuns_6 : decode cX0_joinedRuns 6 = .ok (.aload_n 0, 1) := by decide +kernel
theorem dX0_joinedRuns_7 : decode cX0_joinedRuns 7 = .ok (.iload_n 2, 1) := by decide +kernel
theorem dX0_joinedRuns_8 : decode cX0_joinedRuns 8 = .ok (.invokevirtual 48, 3) := by decide +kernel
theorem dX0_joinedRuns_11 : decode cX0_joinedRuns 11 = .ok (.iconst 0, 1) := by decide +kernel
theorem dX0_joinedRuns_12 : decode cX0_joinedRuns 12 = .ok (.istore_n 3, 1) := by decide +kernel
theorem dX0_joinedRuns_13 : decode cX0_joinedRuns 13 = .ok (.iconst 0, 1) := by decide +kernel
theorem dX0_joinedRuns_14 : decode cX0_joinedRuns 14 = .ok (.istore 4, 2) := by decide +kernel
theorem dX0_joinedRuns_16 : decode cX0_joinedRuns 16 = .ok (.iload 4, 2) := by decide +kernel
theorem dX0_joinedRuns_18 : decode cX0_joinedRuns 18 = .ok (.bipush 60, 2) := by decide +kernel
theorem dX0_joinedRuns_20 : decode cX0_joinedRuns 20 = .ok (.if_icmp .ge 23, 3) := by decide +kernel
theorem dX0_joinedRuns_23 : decode cX0_joinedRuns 23 = .ok (.aload_n 0, 1) := by decide +kernel
theorem dX0_joinedRuns_24 : decode cX0_joinedRuns 24 = .ok (.iload_n 2, 1) := by decide +kernel
theorem dX0_joinedRuns_25 : decode cX0_joinedRuns 25 = .ok (.iload_n 1, 1) := by decide +kernel
theorem dX0_joinedRuns_26 : decode cX0_joinedRuns 26 = .ok (.iload 4, 2) := by decide +kernel
theorem dX0_joinedRuns_28 : decode cX0_joinedRuns 28 = .ok (.invokevirtual 99, 3) := by decide +kernel
theorem dX0_joinedRuns_31 : decode cX0_joinedRuns 31 = .ok (.ifCond .eq 6, 3) := by decide +kernel
theorem dX0_joinedRuns_34 : decode cX0_joinedRuns 34 = .ok (.iinc 3 1, 3) := by decide +kernel
theorem dX0_joinedRuns_37 : decode cX0_joinedRuns 37 = .ok (.iinc 4 1, 3) := by decide +kernel
theorem dX0_joinedRuns_40 : decode cX0_joinedRuns 40 = .ok (.goto (-24), 3) := by decide +kernel
theorem dX0_joinedRuns_43 : decode cX0_joinedRuns 43 = .ok (.iload_n 3, 1) := by decide +kernel
theorem dX0_joinedRuns_44 : decode cX0_joinedRuns 44 = .ok (.ireturn, 1) := by decide +kernel
theorem dX0_rows_0 : decode cX0_rows 0 = .ok (.iload_n 1, 1) := by decide +kernel
theorem dX0_rows_1 : decode cX0_rows 1 = .ok (.iload_n 2, 1) := by decide +kernel
theorem dX0_rows_2 : decode cX0_rows 2 = .ok (.invokestatic 20, 3) := by decide +kernel
theorem dX0_rows_5 : decode cX0_rows 5 = .ok (.iload_n 1, 1) := by decide +kernel
theorem dX0_rows_6 : decode cX0_rows 6 = .ok (.iload_n 2, 1) := by decide +kernel
theorem dX0_rows_7 : decode cX0_rows 7 = .ok (.invokestatic 34, 3) := by decide +kernel
theorem dX0_rows_10 : decode cX0_rows 10 = .ok (.istore_n 3, 1) := by decide +kernel
theorem dX0_rows_11 : decode cX0_rows 11 = .ok (.iconst 0, 1) := by decide +kernel
theorem dX0_rows_12 : decode cX0_rows 12 = .ok (.istore 4, 2) := by decide +kernel
theorem dX0_rows_14 : decode cX0_rows 14 = .ok (.iconst 0, 1) := by decide +kernel
theorem dX0_rows_15 : decode cX0_rows 15 = .ok (.istore 5, 2) := by decide +kernel
theorem dX0_rows_17 : decode cX0_rows 17 = .ok (.iload 5, 2) := by decide +kernel
theorem dX0_rows_19 : decode cX0_rows 19 = .ok (.aload_n 0, 1) := by decide +kernel
theorem dX0_rows_20 : decode cX0_rows 20 = .ok (.getfield 62, 3) := by decide +kernel
theorem dX0_rows_23 : decode cX0_rows 23 = .ok (.if_icmp .gt 49, 3) := by decide +kernel
theorem dX0_rows_26 : decode cX0_rows 26 = .ok (.iconst 0, 1) := by decide +kernel
theorem dX0_rows_27 : decode cX0_rows 27 = .ok (.istore 6, 2) := by decide +kernel
theorem dX0_rows_29 : decode cX0_rows 29 = .ok (.iload 6, 2) := by decide +kernel
theorem dX0_rows_31 : decode cX0_rows 31 = .ok (.bipush 60, 2) := by decide +kernel
theorem dX0_rows_33 : decode cX0_rows 33 = .ok (.if_icmp .ge 33, 3) := by decide +kernel
theorem dX0_rows_36 : decode cX0_rows 36 = .ok (.aload_n 0, 1) := by decide +kernel
theorem dX0_rows_37 : decode cX0_rows 37 = .ok (.iload 5, 2) := by decide +kernel
theorem dX0_rows_39 : decode cX0_rows 39 = .ok (.invokevirtual 102, 3) := by decide +kernel
theorem dX0_rows_42 : decode cX0_rows 42 = .ok (.ifCond .eq 24, 3) := by decide +kernel
theorem dX0_rows_45 : decode cX0_rows 45 = .ok (.aload_n 0, 1) := by decide +kernel
theorem dX0_rows_46 : decode cX0_rows 46 = .ok (.iload 5, 2) := by decide +kernel
theorem dX0_rows_48 : decode cX0_rows 48 = .ok (.iload_n 3, 1) := by decide +kernel
theorem dX0_rows_49 : decode cX0_rows 49 = .ok (.iload 6, 2) := by decide +kernel
theorem dX0_rows_51 : decode cX0_rows 51 = .ok (.invokevirtual 106, 3) := by decide +kernel
theorem dX0_rows_54 : decode cX0_rows 54 = .ok (.ifCond .eq 6, 3) := by decide +kernel
theorem dX0_rows_57 : decode cX0_rows 57 = .ok (.iinc 4 1, 3) := by decide +kernel
theorem dX0_rows_60 : decode cX0_rows 60 = .ok (.iinc 6 1, 3) := by decide +kernel
theorem dX0_rows_63 : decode cX0_rows 63 = .ok (.goto (-34), 3) := by decide +kernel
theorem dX0_rows_66 : decode cX0_rows 66 = .ok (.iinc 5 1, 3) := by decide +kernel
theorem dX0_rows_69 : decode cX0_rows 69 = .ok (.goto (-52), 3) := by decide +kernel
theorem dX0_rows_72 : decode cX0_rows 72 = .ok (.iload 4, 2) := by decide +kernel
theorem dX0_rows_74 : decode cX0_rows 74 = .ok (.ireturn, 1) := by decide +kernel
theorem dX0_rowRun_0 : decode cX0_rowRun 0 = .ok (.iload_n 1, 1) := by decide +kernel
theorem dX0_rowRun_1 : decode cX0_rowRun 1 = .ok (.iload_n 2, 1) := by decide +kernel
theorem dX0_rowRun_2 : decode cX0_rowRun 2 = .ok (.invokestatic 20, 3) := by decide +kernel
theorem dX0_rowRun_5 : decode cX0_rowRun 5 = .ok (.iload_n 1, 1) := by decide +kernel
theorem dX0_rowRun_6 : decode cX0_rowRun 6 = .ok (.iload_n 2, 1) := by decide +kernel
theorem dX0_rowRun_7 : decode cX0_rowRun 7 = .ok (.invokestatic 34, 3) := by decide +kernel
theorem dX0_rowRun_10 : decode cX0_rowRun 10 = .ok (.istore 4, 2) := by decide +kernel
theorem dX0_rowRun_12 : decode cX0_rowRun 12 = .ok (.aload_n 0, 1) := by decide +kernel
theorem dX0_rowRun_13 : decode cX0_rowRun 13 = .ok (.iload 4, 2) := by decide +kernel
theorem dX0_rowRun_15 : decode cX0_rowRun 15 = .ok (.iload_n 3, 1) := by decide +kernel
theorem dX0_rowRun_16 : decode cX0_rowRun 16 = .ok (.invokevirtual 109, 3) := by decide +kernel
theorem dX0_rowRun_19 : decode cX0_rowRun 19 = .ok (.istore 5, 2) := by decide +kernel
theorem dX0_rowRun_21 : decode cX0_rowRun 21 = .ok (.aload_n 0, 1) := by decide +kernel
theorem dX0_rowRun_22 : decode cX0_rowRun 22 = .ok (.iload 5, 2) := by decide +kernel
theorem dX0_rowRun_24 : decode cX0_rowRun 24 = .ok (.invokestatic 112, 3) := by decide +kernel
theorem dX0_rowRun_27 : decode cX0_rowRun 27 = .ok (.iload 4, 2) := by decide +kernel
theorem dX0_rowRun_29 : decode cX0_rowRun 29 = .ok (.iload 5, 2) := by decide +kernel
theorem dX0_rowRun_31 : decode cX0_rowRun 31 = .ok (.invokestatic 115, 3) := by decide +kernel
theorem dX0_rowRun_34 : decode cX0_rowRun 34 = .ok (.invokevirtual 96, 3) := by decide +kernel
theorem dX0_rowRun_37 : decode cX0_rowRun 37 = .ok (.ireturn, 1) := by decide +kernel
theorem dX0_rowFrom_0 : decode cX0_rowFrom 0 = .ok (.iload_n 1, 1) := by decide +kernel
theorem dX0_rowFrom_1 : decode cX0_rowFrom 1 = .ok (.iload_n 2, 1) := by decide +kernel
theorem dX0_rowFrom_2 : decode cX0_rowFrom 2 = .ok (.invokestatic 20, 3) := by decide +kernel
theorem dX0_rowFrom_5 : decode cX0_rowFrom 5 = .ok (.aload_n 0, 1) := by decide +kernel
theorem dX0_rowFrom_6 : decode cX0_rowFrom 6 = .ok (.iload_n 1, 1) := by decide +kernel
theorem dX0_rowFrom_7 : decode cX0_rowFrom 7 = .ok (.iload_n 2, 1) := by decide +kernel
theorem dX0_rowFrom_8 : decode cX0_rowFrom 8 = .ok (.invokestatic 34, 3) := by decide +kernel
theorem dX0_rowFrom_11 : decode cX0_rowFrom 11 = .ok (.iload_n 3, 1) := by decide +kernel
theorem dX0_rowFrom_12 : decode cX0_rowFrom 12 = .ok (.invokevirtual 109, 3) := by decide +kernel
theorem dX0_rowFrom_15 : decode cX0_rowFrom 15 = .ok (.invokestatic 112, 3) := by decide +kernel
theorem dX0_rowFrom_18 : decode cX0_rowFrom 18 = .ok (.ireturn, 1) := by decide +kernel
theorem dX0_rowTo_0 : decode cX0_rowTo 0 = .ok (.iload_n 1, 1) := by decide +kernel
theorem dX0_rowTo_1 : decode cX0_rowTo 1 = .ok (.iload_n 2, 1) := by decide +kernel
theorem dX0_rowTo_2 : decode cX0_rowTo 2 = .ok (.invokestatic 20, 3) := by decide +kernel
theorem dX0_rowTo_5 : decode cX0_rowTo 5 = .ok (.iload_n 1, 1) := by decide +kernel
theorem dX0_rowTo_6 : decode cX0_rowTo 6 = .ok (.iload_n 2, 1) := by decide +kernel
theorem dX0_rowTo_7 : decode cX0_rowTo 7 = .ok (.invokestatic 34, 3) := by decide +kernel
theorem dX0_rowTo_10 : decode cX0_rowTo 10 = .ok (.istore 4, 2) := by decide +kernel
theorem dX0_rowTo_12 : decode cX0_rowTo 12 = .ok (.aload_n 0, 1) := by decide +kernel
theorem dX0_rowTo_13 : decode cX0_rowTo 13 = .ok (.iload 4, 2) := by decide +kernel
theorem dX0_rowTo_15 : decode cX0_rowTo 15 = .ok (.iload_n 3, 1) := by decide +kernel
theorem dX0_rowTo_16 : decode cX0_rowTo 16 = .ok (.invokevirtual 109, 3) := by decide +kernel
theorem dX0_rowTo_19 : decode cX0_rowTo 19 = .ok (.istore 5, 2) := by decide +kernel
theorem dX0_rowTo_21 : decode cX0_rowTo 21 = .ok (.iload 5, 2) := by decide +kernel
theorem dX0_rowTo_23 : decode cX0_rowTo 23 = .ok (.invokestatic 112, 3) := by decide +kernel
theorem dX0_rowTo_26 : decode cX0_rowTo 26 = .ok (.istore 6, 2) := by decide +kernel
theorem dX0_rowTo_28 : decode cX0_rowTo 28 = .ok (.iload 5, 2) := by decide +kernel
theorem dX0_rowTo_30 : decode cX0_rowTo 30 = .ok (.invokestatic 115, 3) := by decide +kernel
theorem dX0_rowTo_33 : decode cX0_rowTo 33 = .ok (.istore 7, 2) := by decide +kernel
theorem dX0_rowTo_35 : decode cX0_rowTo 35 = .ok (.iload 6, 2) := by decide +kernel
theorem dX0_rowTo_37 : decode cX0_rowTo 37 = .ok (.iconst 1, 1) := by decide +kernel
theorem dX0_rowTo_38 : decode cX0_rowTo 38 = .ok (.iadd, 1) := by decide +kernel
theorem dX0_rowTo_39 : decode cX0_rowTo 39 = .ok (.istore 8, 2) := by decide +kernel
theorem dX0_rowTo_41 : decode cX0_rowTo 41 = .ok (.iload 8, 2) := by decide +kernel
theorem dX0_rowTo_43 : decode cX0_rowTo 43 = .ok (.aload_n 0, 1) := by decide +kernel
theorem dX0_rowTo_44 : decode cX0_rowTo 44 = .ok (.getfield 62, 3) := by decide +kernel
theorem dX0_rowTo_47 : decode cX0_rowTo 47 = .ok (.if_icmp .gt 27, 3) := by decide +kernel
theorem dX0_rowTo_50 : decode cX0_rowTo 50 = .ok (.aload_n 0, 1) := by decide +kernel
theorem dX0_rowTo_51 : decode cX0_rowTo 51 = .ok (.iload 6, 2) := by decide +kernel
theorem dX0_rowTo_53 : decode cX0_rowTo 53 = .ok (.iload 8, 2) := by decide +kernel
theorem dX0_rowTo_55 : decode cX0_rowTo 55 = .ok (.iload 4, 2) := by decide +kernel
theorem dX0_rowTo_57 : decode cX0_rowTo 57 = .ok (.iload 7, 2) := by decide +kernel
theorem dX0_rowTo_59 : decode cX0_rowTo 59 = .ok (.invokevirtual 118, 3) := by decide +kernel
theorem dX0_rowTo_62 : decode cX0_rowTo 62 = .ok (.ifCond .ne 6, 3) := by decide +kernel
theorem dX0_rowTo_65 : decode cX0_rowTo 65 = .ok (.iload 8, 2) := by decide +kernel
theorem dX0_rowTo_67 : decode cX0_rowTo 67 = .ok (.ireturn, 1) := by decide +kernel
theorem dX0_rowTo_68 : decode cX0_rowTo 68 = .ok (.iinc 8 1, 3) := by decide +kernel
theorem dX0_rowTo_71 : decode cX0_rowTo 71 = .ok (.goto (-30), 3) := by decide +kernel
theorem dX0_rowTo_74 : decode cX0_rowTo 74 = .ok (.iconst (-1), 1) := by decide +kernel
theorem dX0_rowTo_75 : decode cX0_rowTo 75 = .ok (.ireturn, 1) := by decide +kernel
theorem dX0_corrections_0 : decode cX0_corrections 0 = .ok (.iload_n 1, 1) := by decide +kernel
theorem dX0_corrections_1 : decode cX0_corrections 1 = .ok (.iload_n 2, 1) := by decide +kernel
theorem dX0_corrections_2 : decode cX0_corrections 2 = .ok (.invokestatic 20, 3) := by decide +kernel
theorem dX0_corrections_5 : decode cX0_corrections 5 = .ok (.iload_n 3, 1) := by decide +kernel
theorem dX0_corrections_6 : decode cX0_corrections 6 = .ok (.bipush 60, 2) := by decide +kernel
theorem dX0_corrections_8 : decode cX0_corrections 8 = .ok (.invokestatic 28, 3) := by decide +kernel
theorem dX0_corrections_11 : decode cX0_corrections 11 = .ok (.iload 4, 2) := by decide +kernel
theorem dX0_corrections_13 : decode cX0_corrections 13 = .ok (.bipush 60, 2) := by decide +kernel
theorem dX0_corrections_15 : decode cX0_corrections 15 = .ok (.invokestatic 28, 3) := by decide +kernel
theorem dX0_corrections_18 : decode cX0_corrections 18 = .ok (.iload 5, 2) := by decide +kernel
theorem dX0_corrections_20 : decode cX0_corrections 20 = .ok (.iload 4, 2) := by decide +kernel
theorem dX0_corrections_22 : decode cX0_corrections 22 = .ok (.if_icmp .ge 13, 3) := by decide +kernel
theorem dX0_corrections_25 : decode cX0_corrections 25 = .ok (.new 55, 3) := by decide +kernel
theorem dX0_corrections_28 : decode cX0_corrections 28 = .ok (.dup, 1) := by decide +kernel
theorem dX0_corrections_29 : decode cX0_corrections 29 = .ok (.ldc 122, 2) := by decide +kernel
theorem dX0_corrections_31 : decode cX0_corrections 31 = .ok (.invokespecial 59, 3) := by decide +kernel
theorem dX0_corrections_34 : decode cX0_corrections 34 = .ok (.athrow, 1) := by decide +kernel
theorem dX0_corrections_35 : decode cX0_corrections 35 = .ok (.aload_n 0, 1) := by decide +kernel
theorem dX0_corrections_36 : decode cX0_corrections 36 = .ok (.iload 5, 2) := by decide +kernel
theorem dX0_corrections_38 : decode cX0_corrections 38 = .ok (.invokevirtual 48, 3) := by decide +kernel
theorem dX0_corrections_41 : decode cX0_corrections 41 = .ok (.iload_n 1, 1) := by decide +kernel
theorem dX0_corrections_42 : decode cX0_corrections 42 = .ok (.iload_n 2, 1) := by decide +kernel
theorem dX0_corrections_43 : decode cX0_corrections 43 = .ok (.invokestatic 34, 3) := by decide +kernel
theorem dX0_corrections_46 : decode cX0_corrections 46 = .ok (.istore 6, 2) := by decide +kernel
theorem dX0_corrections_48 : decode cX0_corrections 48 = .ok (.iconst 0, 1) := by decide +kernel
theorem dX0_corrections_49 : decode cX0_corrections 49 = .ok (.istore 7, 2) := by decide +kernel
theorem dX0_corrections_51 : decode cX0_corrections 51 = .ok (.iload 4, 2) := by decide +kernel
theorem dX0_corrections_53 : decode cX0_corrections 53 = .ok (.iconst 1, 1) := by decide +kernel
theorem dX0_corrections_54 : decode cX0_corrections 54 = .ok (.iadd, 1) := by decide +kernel
theorem dX0_corrections_55 : decode cX0_corrections 55 = .ok (.istore 8, 2) := by decide +kernel
theorem dX0_corrections_57 : decode cX0_corrections 57 = .ok (.iload 8, 2) := by decide +kernel
theorem dX0_corrections_59 : decode cX0_corrections 59 = .ok (.iload 5, 2) := by decide +kernel
theorem dX0_corrections_61 : decode cX0_corrections 61 = .ok (.if_icmp .gt 35, 3) := by decide +kernel
theorem dX0_corrections_64 : decode cX0_corrections 64 = .ok (.aload_n 0, 1) := by decide +kernel
theorem dX0_corrections_65 : decode cX0_corrections 65 = .ok (.iload 8, 2) := by decide +kernel
theorem dX0_corrections_67 : decode cX0_corrections 67 = .ok (.iload 6, 2) := by decide +kernel
theorem dX0_corrections_69 : decode cX0_corrections 69 = .ok (.iload_n 3, 1) := by decide +kernel
theorem dX0_corrections_70 : decode cX0_corrections 70 = .ok (.invokevirtual 77, 3) := by decide +kernel
theorem dX0_corrections_73 : decode cX0_corrections 73 = .ok (.aload_n 0, 1) := by decide +kernel
theorem dX0_corrections_74 : decode cX0_corrections 74 = .ok (.iload 8, 2) := by decide +kernel
theorem dX0_corrections_76 : decode cX0_corrections 76 = .ok (.iconst 1, 1) := by decide +kernel
theorem dX0_corrections_77 : decode cX0_corrections 77 = .ok (.isub, 1) := by decide +kernel
theorem dX0_corrections_78 : decode cX0_corrections 78 = .ok (.iload 6, 2) := by decide +kernel
theorem dX0_corrections_80 : decode cX0_corrections 80 = .ok (.iload_n 3, 1) := by decide +kernel
theorem dX0_corrections_81 : decode cX0_corrections 81 = .ok (.invokevirtual 77, 3) := by decide +kernel
theorem dX0_corrections_84 : decode cX0_corrections 84 = .ok (.if_icmp .eq 6, 3) := by decide +kernel
theorem dX0_corrections_87 : decode cX0_corrections 87 = .ok (.iinc 7 1, 3) := by decide +kernel
theorem dX0_corrections_90 : decode cX0_corrections 90 = .ok (.iinc 8 1, 3) := by decide +kernel
theorem dX0_corrections_93 : decode cX0_corrections 93 = .ok (.goto (-36), 3) := by decide +kernel
theorem dX0_corrections_96 : decode cX0_corrections 96 = .ok (.iload 7, 2) := by decide +kernel
theorem dX0_corrections_98 : decode cX0_corrections 98 = .ok (.ireturn, 1) := by decide +kernel
theorem dX0_longest_0 : decode cX0_longest 0 = .ok (.iload_n 1, 1) := by decide +kernel
theorem dX0_longest_1 : decode cX0_longest 1 = .ok (.iload_n 2, 1) := by decide +kernel
theorem dX0_longest_2 : decode cX0_longest 2 = .ok (.invokestatic 20, 3) := by decide +kernel
theorem dX0_longest_5 : decode cX0_longest 5 = .ok (.aload_n 0, 1) := by decide +kernel
theorem dX0_longest_6 : decode cX0_longest 6 = .ok (.iload_n 3, 1) := by decide +kernel
theorem dX0_longest_7 : decode cX0_longest 7 = .ok (.invokevirtual 48, 3) := by decide +kernel
theorem dX0_longest_10 : decode cX0_longest 10 = .ok (.iload_n 1, 1) := by decide +kernel
theorem dX0_longest_11 : decode cX0_longest 11 = .ok (.iload_n 2, 1) := by decide +kernel
theorem dX0_longest_12 : decode cX0_longest 12 = .ok (.invokestatic 34, 3) := by decide +kernel
theorem dX0_longest_15 : decode cX0_longest 15 = .ok (.istore 4, 2) := by decide +kernel
theorem dX0_longest_17 : decode cX0_longest 17 = .ok (.iconst 0, 1) := by decide +kernel
theorem dX0_longest_18 : decode cX0_longest 18 = .ok (.istore 5, 2) := by decide +kernel
theorem dX0_longest_20 : decode cX0_longest 20 = .ok (.iconst 0, 1) := by decide +kernel
theorem dX0_longest_21 : decode cX0_longest 21 = .ok (.istore 6, 2) := by decide +kernel
theorem dX0_longest_23 : decode cX0_longest 23 = .ok (.iload 6, 2) := by decide +kernel
theorem dX0_longest_25 : decode cX0_longest 25 = .ok (.bipush 60, 2) := by decide +kernel
theorem dX0_longest_27 : decode cX0_longest 27 = .ok (.if_icmp .ge 40, 3) := by decide +kernel
theorem dX0_longest_30 : decode cX0_longest 30 = .ok (.aload_n 0, 1) := by decide +kernel
theorem dX0_longest_31 : decode cX0_longest 31 = .ok (.iload_n 3, 1) := by decide +kernel
theorem dX0_longest_32 : decode cX0_longest 32 = .ok (.iload 4, 2) := by decide +kernel
theorem dX0_longest_34 : decode cX0_longest 34 = .ok (.iload 6, 2) := by decide +kernel
theorem dX0_longest_36 : decode cX0_longest 36 = .ok (.invokevirtual 84, 3) := by decide +kernel
theorem dX0_longest_39 : decode cX0_longest 39 = .ok (.ifCond .eq 22, 3) := by decide +kernel
theorem dX0_longest_42 : decode cX0_longest 42 = .ok (.iload 5, 2) := by decide +kernel
theorem dX0_longest_44 : decode cX0_longest 44 = .ok (.aload_n 0, 1) := by decide +kernel
theorem dX0_longest_45 : decode cX0_longest 45 = .ok (.iload_n 3, 1) := by decide +kernel
theorem dX0_longest_46 : decode cX0_longest 46 = .ok (.iload 4, 2) := by decide +kernel
theorem dX0_longest_48 : decode cX0_longest 48 = .ok (.iload 6, 2) := by decide +kernel
theorem dX0_longest_50 : decode cX0_longest 50 = .ok (.invokevirtual 124, 3) := by decide +kernel
theorem dX0_longest_53 : decode cX0_longest 53 = .ok (.iload 6, 2) := by decide +kernel
theorem dX0_longest_55 : decode cX0_longest 55 = .ok (.isub, 1) := by decide +kernel
theorem dX0_longest_56 : decode cX0_longest 56 = .ok (.invokestatic 127, 3) := by decide +kernel
theorem dX0_longest_59 : decode cX0_longest 59 = .ok (.istore 5, 2) := by decide +kernel
theorem dX0_longest_61 : decode cX0_longest 61 = .ok (.iinc 6 1, 3) := by decide +kernel
theorem dX0_longest_64 : decode cX0_longest 64 = .ok (.goto (-41), 3) := by decide +kernel
theorem dX0_longest_67 : decode cX0_longest 67 = .ok (.iload 5, 2) := by decide +kernel
theorem dX0_longest_69 : decode cX0_longest 69 = .ok (.ireturn, 1) := by decide +kernel
theorem dX0_average_0 : decode cX0_average 0 = .ok (.iload_n 1, 1) := by decide +kernel
theorem dX0_average_1 : decode cX0_average 1 = .ok (.bipush 8, 2) := by decide +kernel
theorem dX0_average_3 : decode cX0_average 3 = .ok (.invokestatic 28, 3) := by decide +kernel
theorem dX0_average_6 : decode cX0_average 6 = .ok (.aload_n 0, 1) := by decide +kernel
theorem dX0_average_7 : decode cX0_average 7 = .ok (.iload_n 2, 1) := by decide +kernel
theorem dX0_average_8 : decode cX0_average 8 = .ok (.invokevirtual 48, 3) := by decide +kernel
theorem dX0_average_11 : decode cX0_average 11 = .ok (.iconst 0, 1) := by decide +kernel
theorem dX0_average_12 : decode cX0_average 12 = .ok (.istore_n 3, 1) := by decide +kernel
theorem dX0_average_13 : decode cX0_average 13 = .ok (.iconst 0, 1) := by decide +kernel
theorem dX0_average_14 : decode cX0_average 14 = .ok (.istore 4, 2) := by decide +kernel
theorem dX0_average_16 : decode cX0_average 16 = .ok (.iconst 0, 1) := by decide +kernel
theorem dX0_average_17 : decode cX0_average 17 = .ok (.istore 5, 2) := by decide +kernel
theorem dX0_average_19 : decode cX0_average 19 = .ok (.iload 5, 2) := by decide +kernel
theorem dX0_average_21 : decode cX0_average 21 = .ok (.bipush 60, 2) := by decide +kernel
theorem dX0_average_23 : decode cX0_average 23 = .ok (.if_icmp .ge 37, 3) := by decide +kernel
theorem dX0_average_26 : decode cX0_average 26 = .ok (.aload_n 0, 1) := by decide +kernel
theorem dX0_average_27 : decode cX0_average 27 = .ok (.iload_n 2, 1) := by decide +kernel
theorem dX0_average_28 : decode cX0_average 28 = .ok (.iconst 0, 1) := by decide +kernel
theorem dX0_average_29 : decode cX0_average 29 = .ok (.iload_n 1, 1) := by decide +kernel
theorem dX0_average_30 : decode cX0_average 30 = .ok (.invokestatic 34, 3) := by decide +kernel
theorem dX0_average_33 : decode cX0_average 33 = .ok (.iload 5, 2) := by decide +kernel
theorem dX0_average_35 : decode cX0_average 35 = .ok (.invokevirtual 77, 3) := by decide +kernel
theorem dX0_average_38 : decode cX0_average 38 = .ok (.istore 6, 2) := by decide +kernel
theorem dX0_average_40 : decode cX0_average 40 = .ok (.iload 6, 2) := by decide +kernel
theorem dX0_average_42 : decode cX0_average 42 = .ok (.iconst (-1), 1) := by decide +kernel
theorem dX0_average_43 : decode cX0_average 43 = .ok (.if_icmp .eq 11, 3) := by decide +kernel
theorem dX0_average_46 : decode cX0_average 46 = .ok (.iload_n 3, 1) := by decide +kernel
theorem dX0_average_47 : decode cX0_average 47 = .ok (.iload 6, 2) := by decide +kernel
theorem dX0_average_49 : decode cX0_average 49 = .ok (.iadd, 1) := by decide +kernel
theorem dX0_average_50 : decode cX0_average 50 = .ok (.istore_n 3, 1) := by decide +kernel
theorem dX0_average_51 : decode cX0_average 51 = .ok (.iinc 4 1, 3) := by decide +kernel
theorem dX0_average_54 : decode cX0_average 54 = .ok (.iinc 5 1, 3) := by decide +kernel
theorem dX0_average_57 : decode cX0_average 57 = .ok (.goto (-38), 3) := by decide +kernel
theorem dX0_average_60 : decode cX0_average 60 = .ok (.iload 4, 2) := by decide +kernel
theorem dX0_average_62 : decode cX0_average 62 = .ok (.ifCond .ne 13, 3) := by decide +kernel
theorem dX0_average_65 : decode cX0_average 65 = .ok (.new 66, 3) := by decide +kernel
theorem dX0_average_68 : decode cX0_average 68 = .ok (.dup, 1) := by decide +kernel
theorem dX0_average_69 : decode cX0_average 69 = .ok (.ldc 132, 2) := by decide +kernel
theorem dX0_average_71 : decode cX0_average 71 = .ok (.invokespecial 70, 3) := by decide +kernel
theorem dX0_average_74 : decode cX0_average 74 = .ok (.athrow, 1) := by decide +kernel
theorem dX0_average_75 : decode cX0_average 75 = .ok (.iload_n 3, 1) := by decide +kernel
theorem dX0_average_76 : decode cX0_average 76 = .ok (.i2f, 1) := by decide +kernel
theorem dX0_average_77 : decode cX0_average 77 = .ok (.iload 4, 2) := by decide +kernel
theorem dX0_average_79 : decode cX0_average 79 = .ok (.i2f, 1) := by decide +kernel
theorem dX0_average_80 : decode cX0_average 80 = .ok (.fdiv, 1) := by decide +kernel
theorem dX0_average_81 : decode cX0_average 81 = .ok (.freturn, 1) := by decide +kernel
theorem dX0_needRange_0 : decode cX0_needRange 0 = .ok (.iload_n 0, 1) := by decide +kernel
theorem dX0_needRange_1 : decode cX0_needRange 1 = .ok (.ifCond .lt 8, 3) := by decide +kernel
theorem dX0_needRange_4 : decode cX0_needRange 4 = .ok (.iload_n 0, 1) := by decide +kernel
theorem dX0_needRange_5 : decode cX0_needRange 5 = .ok (.iload_n 1, 1) := by decide +kernel
theorem dX0_needRange_6 : decode cX0_needRange 6 = .ok (.if_icmp .lt 13, 3) := by decide +kernel
theorem dX0_needRange_9 : decode cX0_needRange 9 = .ok (.new 55, 3) := by decide +kernel
theorem dX0_needRange_12 : decode cX0_needRange 12 = .ok (.dup, 1) := by decide +kernel
theorem dX0_needRange_13 : decode cX0_needRange 13 = .ok (.ldc 134, 2) := by decide +kernel
theorem dX0_needRange_15 : decode cX0_needRange 15 = .ok (.invokespecial 59, 3) := by decide +kernel
theorem dX0_needRange_18 : decode cX0_needRange 18 = .ok (.athrow, 1) := by decide +kernel
theorem dX0_needRange_19 : decode cX0_needRange 19 = .ok (.return_, 1) := by decide +kernel
theorem dX0_needTableAndKey_0 : decode cX0_needTableAndKey 0 = .ok (.iload_n 0, 1) := by decide +kernel
theorem dX0_needTableAndKey_1 : decode cX0_needTableAndKey 1 = .ok (.iconst 2, 1) := by decide +kernel
theorem dX0_needTableAndKey_2 : decode cX0_needTableAndKey 2 = .ok (.invokestatic 28, 3) := by decide +kernel
theorem dX0_needTableAndKey_5 : decode cX0_needTableAndKey 5 = .ok (.iload_n 1, 1) := by decide +kernel
theorem dX0_needTableAndKey_6 : decode cX0_needTableAndKey 6 = .ok (.bipush 8, 2) := by decide +kernel
theorem dX0_needTableAndKey_8 : decode cX0_needTableAndKey 8 = .ok (.invokestatic 28, 3) := by decide +kernel
theorem dX0_needTableAndKey_11 : decode cX0_needTableAndKey 11 = .ok (.return_, 1) := by decide +kernel
theorem dX0_needSpan_0 : decode cX0_needSpan 0 = .ok (.iload_n 0, 1) := by decide +kernel
theorem dX0_needSpan_1 : decode cX0_needSpan 1 = .ok (.bipush 60, 2) := by decide +kernel
theorem dX0_needSpan_3 : decode cX0_needSpan 3 = .ok (.invokestatic 28, 3) := by decide +kernel
theorem dX0_needSpan_6 : decode cX0_needSpan 6 = .ok (.iload_n 1, 1) := by decide +kernel
theorem dX0_needSpan_7 : decode cX0_needSpan 7 = .ok (.iload_n 0, 1) := by decide +kernel
theorem dX0_needSpan_8 : decode cX0_needSpan 8 = .ok (.if_icmp .le 9, 3) := by decide +kernel
theorem dX0_needSpan_11 : decode cX0_needSpan 11 = .ok (.iload_n 1, 1) := by decide +kernel
theorem dX0_needSpan_12 : decode cX0_needSpan 12 = .ok (.bipush 60, 2) := by decide +kernel
theorem dX0_needSpan_14 : decode cX0_needSpan 14 = .ok (.if_icmp .le 13, 3) := by decide +kernel
theorem dX0_needSpan_17 : decode cX0_needSpan 17 = .ok (.new 55, 3) := by decide +kernel
theorem dX0_needSpan_20 : decode cX0_needSpan 20 = .ok (.dup, 1) := by decide +kernel
theorem dX0_needSpan_21 : decode cX0_needSpan 21 = .ok (.ldc 136, 2) := by decide +kernel
theorem dX0_needSpan_23 : decode cX0_needSpan 23 = .ok (.invokespecial 59, 3) := by decide +kernel
theorem dX0_needSpan_26 : decode cX0_needSpan 26 = .ok (.athrow, 1) := by decide +kernel
theorem dX0_needSpan_27 : decode cX0_needSpan 27 = .ok (.return_, 1) := by decide +kernel
theorem dX0_needRecord_0 : decode cX0_needRecord 0 = .ok (.iload_n 1, 1) := by decide +kernel
theorem dX0_needRecord_1 : decode cX0_needRecord 1 = .ok (.bipush 60, 2) := by decide +kernel
theorem dX0_needRecord_3 : decode cX0_needRecord 3 = .ok (.invokestatic 28, 3) := by decide +kernel
theorem dX0_needRecord_6 : decode cX0_needRecord 6 = .ok (.iload_n 1, 1) := by decide +kernel
theorem dX0_needRecord_7 : decode cX0_needRecord 7 = .ok (.aload_n 0, 1) := by decide +kernel
theorem dX0_needRecord_8 : decode cX0_needRecord 8 = .ok (.getfield 62, 3) := by decide +kernel
theorem dX0_needRecord_11 : decode cX0_needRecord 11 = .ok (.if_icmp .le 13, 3) := by decide +kernel
theorem dX0_needRecord_14 : decode cX0_needRecord 14 = .ok (.new 91, 3) := by decide +kernel
theorem dX0_needRecord_17 : decode cX0_needRecord 17 = .ok (.dup, 1) := by decide +kernel
theorem dX0_needRecord_18 : decode cX0_needRecord 18 = .ok (.ldc 138, 2) := by decide +kernel
theorem dX0_needRecord_20 : decode cX0_needRecord 20 = .ok (.invokespecial 95, 3) := by decide +kernel
theorem dX0_needRecord_23 : decode cX0_needRecord 23 = .ok (.athrow, 1) := by decide +kernel
theorem dX0_needRecord_24 : decode cX0_needRecord 24 = .ok (.return_, 1) := by decide +kernel
theorem dX0_valuesOf_0 : decode cX0_valuesOf 0 = .ok (.iload_n 0, 1) := by decide +kernel
theorem dX0_valuesOf_1 : decode cX0_valuesOf 1 = .ok (.ifCond .ne 8, 3) := by decide +kernel
theorem dX0_valuesOf_4 : decode cX0_valuesOf 4 = .ok (.bipush 100, 2) := by decide +kernel
theorem dX0_valuesOf_6 : decode cX0_valuesOf 6 = .ok (.goto 5, 3) := by decide +kernel
theorem dX0_valuesOf_9 : decode cX0_valuesOf 9 = .ok (.bipush 8, 2) := by decide +kernel
theorem dX0_valuesOf_11 : decode cX0_valuesOf 11 = .ok (.ireturn, 1) := by decide +kernel
theorem dX0_line_0 : decode cX0_line 0 = .ok (.iload_n 0, 1) := by decide +kernel
theorem dX0_line_1 : decode cX0_line 1 = .ok (.bipush 8, 2) := by decide +kernel
theorem dX0_line_3 : decode cX0_line 3 = .ok (.imul, 1) := by decide +kernel
theorem dX0_line_4 : decode cX0_line 4 = .ok (.iload_n 1, 1) := by decide +kernel
theorem dX0_line_5 : decode cX0_line 5 = .ok (.iadd, 1) := by decide +kernel
theorem dX0_line_6 : decode cX0_line 6 = .ok (.ireturn, 1) := by decide +kernel
theorem dX0_knownOn_0 : decode cX0_knownOn 0 = .ok (.iload_n 1, 1) := by decide +kernel
theorem dX0_knownOn_1 : decode cX0_knownOn 1 = .ok (.ifCond .lt 9, 3) := by decide +kernel
theorem dX0_knownOn_4 : decode cX0_knownOn 4 = .ok (.iload_n 1, 1) := by decide +kernel
theorem dX0_knownOn_5 : decode cX0_knownOn 5 = .ok (.bipush 60, 2) := by decide +kernel
theorem dX0_knownOn_7 : decode cX0_knownOn 7 = .ok (.if_icmp .lt 5, 3) := by decide +kernel
theorem dX0_knownOn_10 : decode cX0_knownOn 10 = .ok (.iconst (-1), 1) := by decide +kernel
theorem dX0_knownOn_11 : decode cX0_knownOn 11 = .ok (.ireturn, 1) := by decide +kernel
theorem dX0_knownOn_12 : decode cX0_knownOn 12 = .ok (.aload_n 0, 1) := by decide +kernel
theorem dX0_knownOn_13 : decode cX0_knownOn 13 = .ok (.getfield 14, 3) := by decide +kernel
theorem dX0_knownOn_16 : decode cX0_knownOn 16 = .ok (.iload_n 1, 1) := by decide +kernel
theorem dX0_knownOn_17 : decode cX0_knownOn 17 = .ok (.iaload, 1) := by decide +kernel
theorem dX0_knownOn_18 : decode cX0_knownOn 18 = .ok (.iload_n 2, 1) := by decide +kernel
theorem dX0_knownOn_19 : decode cX0_knownOn 19 = .ok (.iload_n 3, 1) := by decide +kernel
theorem dX0_knownOn_20 : decode cX0_knownOn 20 = .ok (.invokestatic 140, 3) := by decide +kernel
theorem dX0_knownOn_23 : decode cX0_knownOn 23 = .ok (.istore 4, 2) := by decide +kernel
theorem dX0_knownOn_25 : decode cX0_knownOn 25 = .ok (.iload 4, 2) := by decide +kernel
theorem dX0_knownOn_27 : decode cX0_knownOn 27 = .ok (.ifCond .lt 13, 3) := by decide +kernel
theorem dX0_knownOn_30 : decode cX0_knownOn 30 = .ok (.iload 4, 2) := by decide +kernel
theorem dX0_knownOn_32 : decode cX0_knownOn 32 = .ok (.aload_n 0, 1) := by decide +kernel
theorem dX0_knownOn_33 : decode cX0_knownOn 33 = .ok (.getfield 10, 3) := by decide +kernel
theorem dX0_knownOn_36 : decode cX0_knownOn 36 = .ok (.arraylength, 1) := by decide +kernel
theorem dX0_knownOn_37 : decode cX0_knownOn 37 = .ok (.if_icmp .lt 7, 3) := by decide +kernel
theorem dX0_knownOn_40 : decode cX0_knownOn 40 = .ok (.iconst (-1), 1) := by decide +kernel
theorem dX0_knownOn_41 : decode cX0_knownOn 41 = .ok (.goto 10, 3) := by decide +kernel
theorem dX0_knownOn_44 : decode cX0_knownOn 44 = .ok (.aload_n 0, 1) := by decide +kernel
theorem dX0_knownOn_45 : decode cX0_knownOn 45 = .ok (.getfield 10, 3) := by decide +kernel
theorem dX0_knownOn_48 : decode cX0_knownOn 48 = .ok (.iload 4, 2) := by decide +kernel
theorem dX0_knownOn_50 : decode cX0_knownOn 50 = .ok (.iaload, 1) := by decide +kernel
theorem dX0_knownOn_51 : decode cX0_knownOn 51 = .ok (.ireturn, 1) := by decide +kernel
theorem dX0_recordToday_0 : decode cX0_recordToday 0 = .ok (.aload_n 0, 1) := by decide +kernel
theorem dX0_recordToday_1 : decode cX0_recordToday 1 = .ok (.getfield 62, 3) := by decide +kernel
theorem dX0_recordToday_4 : decode cX0_recordToday 4 = .ok (.iload_n 1, 1) := by decide +kernel
theorem dX0_recordToday_5 : decode cX0_recordToday 5 = .ok (.iload_n 2, 1) := by decide +kernel
theorem dX0_recordToday_6 : decode cX0_recordToday 6 = .ok (.invokestatic 140, 3) := by decide +kernel
theorem dX0_recordToday_9 : decode cX0_recordToday 9 = .ok (.istore 4, 2) := by decide +kernel
theorem dX0_recordToday_11 : decode cX0_recordToday 11 = .ok (.iload 4, 2) := by decide +kernel
theorem dX0_recordToday_13 : decode cX0_recordToday 13 = .ok (.ifCond .lt 21, 3) := by decide +kernel
theorem dX0_recordToday_16 : decode cX0_recordToday 16 = .ok (.iload 4, 2) := by decide +kernel
theorem dX0_recordToday_18 : decode cX0_recordToday 18 = .ok (.aload_n 0, 1) := by decide +kernel
theorem dX0_recordToday_19 : decode cX0_recordToday 19 = .ok (.getfield 10, 3) := by decide +kernel
theorem dX0_recordToday_22 : decode cX0_recordToday 22 = .ok (.arraylength, 1) := by decide +kernel
theorem dX0_recordToday_23 : decode cX0_recordToday 23 = .ok (.if_icmp .ge 11, 3) := by decide +kernel
theorem dX0_recordToday_26 : decode cX0_recordToday 26 = .ok (.aload_n 0, 1) := by decide +kernel
theorem dX0_recordToday_27 : decode cX0_recordToday 27 = .ok (.getfield 10, 3) := by decide +kernel
theorem dX0_recordToday_30 : decode cX0_recordToday 30 = .ok (.iload 4, 2) := by decide +kernel
theorem dX0_recordToday_32 : decode cX0_recordToday 32 = .ok (.iload_n 3, 1) := by decide +kernel
theorem dX0_recordToday_33 : decode cX0_recordToday 33 = .ok (.iastore, 1) := by decide +kernel
theorem dX0_recordToday_34 : decode cX0_recordToday 34 = .ok (.return_, 1) := by decide +kernel
theorem dX0_index_0 : decode cX0_index 0 = .ok (.iload_n 0, 1) := by decide +kernel
theorem dX0_index_1 : decode cX0_index 1 = .ok (.bipush 16, 2) := by decide +kernel
theorem dX0_index_3 : decode cX0_index 3 = .ok (.imul, 1) := by decide +kernel
theorem dX0_index_4 : decode cX0_index 4 = .ok (.iload_n 1, 1) := by decide +kernel
theorem dX0_index_5 : decode cX0_index 5 = .ok (.iadd, 1) := by decide +kernel
theorem dX0_index_6 : decode cX0_index 6 = .ok (.bipush 60, 2) := by decide +kernel
theorem dX0_index_8 : decode cX0_index 8 = .ok (.imul, 1) := by decide +kernel
theorem dX0_index_9 : decode cX0_index 9 = .ok (.iload_n 2, 1) := by decide +kernel
theorem dX0_index_10 : decode cX0_index 10 = .ok (.iadd, 1) := by decide +kernel
theorem dX0_index_11 : decode cX0_index 11 = .ok (.ireturn, 1) := by decide +kernel
theorem dX0_keepOn_0 : decode cX0_keepOn 0 = .ok (.iload_n 1, 1) := by decide +kernel
theorem dX0_keepOn_1 : decode cX0_keepOn 1 = .ok (.ifCond .lt 16, 3) := by decide +kernel
theorem dX0_keepOn_4 : decode cX0_keepOn 4 = .ok (.iload_n 1, 1) := by decide +kernel
theorem dX0_keepOn_5 : decode cX0_keepOn 5 = .ok (.bipush 60, 2) := by decide +kernel
theorem dX0_keepOn_7 : decode cX0_keepOn 7 = .ok (.if_icmp .ge 10, 3) := by decide +kernel
theorem dX0_keepOn_10 : decode cX0_keepOn 10 = .ok (.aload_n 0, 1) := by decide +kernel
theorem dX0_keepOn_11 : decode cX0_keepOn 11 = .ok (.getfield 14, 3) := by decide +kernel
theorem dX0_keepOn_14 : decode cX0_keepOn 14 = .ok (.iload_n 1, 1) := by decide +kernel
theorem dX0_keepOn_15 : decode cX0_keepOn 15 = .ok (.iload_n 2, 1) := by decide +kernel
theorem dX0_keepOn_16 : decode cX0_keepOn 16 = .ok (.iastore, 1) := by decide +kernel
theorem dX0_keepOn_17 : decode cX0_keepOn 17 = .ok (.return_, 1) := by decide +kernel
theorem dX0_copyDay_0 : decode cX0_copyDay 0 = .ok (.iload_n 1, 1) := by decide +kernel
theorem dX0_copyDay_1 : decode cX0_copyDay 1 = .ok (.ifCond .lt 45, 3) := by decide +kernel
theorem dX0_copyDay_4 : decode cX0_copyDay 4 = .ok (.iload_n 1, 1) := by decide +kernel
theorem dX0_copyDay_5 : decode cX0_copyDay 5 = .ok (.bipush 60, 2) := by decide +kernel
theorem dX0_copyDay_7 : decode cX0_copyDay 7 = .ok (.if_icmp .ge 39, 3) := by decide +kernel
theorem dX0_copyDay_10 : decode cX0_copyDay 10 = .ok (.iload_n 2, 1) := by decide +kernel
theorem dX0_copyDay_11 : decode cX0_copyDay 11 = .ok (.ifCond .lt 35, 3) := by decide +kernel
theorem dX0_copyDay_14 : decode cX0_copyDay 14 = .ok (.iload_n 2, 1) := by decide +kernel
theorem dX0_copyDay_15 : decode cX0_copyDay 15 = .ok (.bipush 60, 2) := by decide +kernel
theorem dX0_copyDay_17 : decode cX0_copyDay 17 = .ok (.if_icmp .ge 29, 3) := by decide +kernel
theorem dX0_copyDay_20 : decode cX0_copyDay 20 = .ok (.aload_n 0, 1) := by decide +kernel
theorem dX0_copyDay_21 : decode cX0_copyDay 21 = .ok (.getfield 10, 3) := by decide +kernel
theorem dX0_copyDay_24 : decode cX0_copyDay 24 = .ok (.iload_n 1, 1) := by decide +kernel
theorem dX0_copyDay_25 : decode cX0_copyDay 25 = .ok (.iconst 0, 1) := by decide +kernel
theorem dX0_copyDay_26 : decode cX0_copyDay 26 = .ok (.iconst 0, 1) := by decide +kernel
theorem dX0_copyDay_27 : decode cX0_copyDay 27 = .ok (.invokestatic 140, 3) := by decide +kernel
theorem dX0_copyDay_30 : decode cX0_copyDay 30 = .ok (.aload_n 0, 1) := by decide +kernel
theorem dX0_copyDay_31 : decode cX0_copyDay 31 = .ok (.getfield 10, 3) := by decide +kernel
theorem dX0_copyDay_34 : decode cX0_copyDay 34 = .ok (.iload_n 2, 1) := by decide +kernel
theorem dX0_copyDay_35 : decode cX0_copyDay 35 = .ok (.iconst 0, 1) := by decide +kernel
theorem dX0_copyDay_36 : decode cX0_copyDay 36 = .ok (.iconst 0, 1) := by decide +kernel
theorem dX0_copyDay_37 : decode cX0_copyDay 37 = .ok (.invokestatic 140, 3) := by decide +kernel
theorem dX0_copyDay_40 : decode cX0_copyDay 40 = .ok (.sipush 960, 3) := by decide +kernel
theorem dX0_copyDay_43 : decode cX0_copyDay 43 = .ok (.invokestatic 143, 3) := by decide +kernel
theorem dX0_copyDay_46 : decode cX0_copyDay 46 = .ok (.return_, 1) := by decide +kernel
theorem dX0_draftSpan_0 : decode cX0_draftSpan 0 = .ok (.iconst 0, 1) := by decide +kernel
theorem dX0_draftSpan_1 : decode cX0_draftSpan 1 = .ok (.istore 5, 2) := by decide +kernel
theorem dX0_draftSpan_3 : decode cX0_draftSpan 3 = .ok (.iload 5, 2) := by decide +kernel
theorem dX0_draftSpan_5 : decode cX0_draftSpan 5 = .ok (.bipush 60, 2) := by decide +kernel
theorem dX0_draftSpan_7 : decode cX0_draftSpan 7 = .ok (.if_icmp .ge 44, 3) := by decide +kernel
theorem dX0_draftSpan_10 : decode cX0_draftSpan 10 = .ok (.aload_n 0, 1) := by decide +kernel
theorem dX0_draftSpan_11 : decode cX0_draftSpan 11 = .ok (.getfield 17, 3) := by decide +kernel
theorem dX0_draftSpan_14 : decode cX0_draftSpan 14 = .ok (.iload 5, 2) := by decide +kernel
theorem dX0_draftSpan_16 : decode cX0_draftSpan 16 = .ok (.iload 5, 2) := by decide +kernel
theorem dX0_draftSpan_18 : decode cX0_draftSpan 18 = .ok (.iload_n 2, 1) := by decide +kernel
theorem dX0_draftSpan_19 : decode cX0_draftSpan 19 = .ok (.if_icmp .lt 14, 3) := by decide +kernel
theorem dX0_draftSpan_22 : decode cX0_draftSpan 22 = .ok (.iload 5, 2) := by decide +kernel
theorem dX0_draftSpan_24 : decode cX0_draftSpan 24 = .ok (.iload_n 3, 1) := by decide +kernel
theorem dX0_draftSpan_25 : decode cX0_draftSpan 25 = .ok (.if_icmp .ge 8, 3) := by decide +kernel
theorem dX0_draftSpan_28 : decode cX0_draftSpan 28 = .ok (.iload 4, 2) := by decide +kernel
theorem dX0_draftSpan_30 : decode cX0_draftSpan 30 = .ok (.goto 14, 3) := by decide +kernel
theorem dX0_draftSpan_33 : decode cX0_draftSpan 33 = .ok (.aload_n 0, 1) := by decide +kernel
theorem dX0_draftSpan_34 : decode cX0_draftSpan 34 = .ok (.aload_n 0, 1) := by decide +kernel
theorem dX0_draftSpan_35 : decode cX0_draftSpan 35 = .ok (.getfield 62, 3) := by decide +kernel
theorem dX0_draftSpan_38 : decode cX0_draftSpan 38 = .ok (.iload_n 1, 1) := by decide +kernel
theorem dX0_draftSpan_39 : decode cX0_draftSpan 39 = .ok (.iload 5, 2) := by decide +kernel
theorem dX0_draftSpan_41 : decode cX0_draftSpan 41 = .ok (.invokevirtual 77, 3) := by decide +kernel
theorem dX0_draftSpan_44 : decode cX0_draftSpan 44 = .ok (.iastore, 1) := by decide +kernel
theorem dX0_draftSpan_45 : decode cX0_draftSpan 45 = .ok (.iinc 5 1, 3) := by decide +kernel
theorem dX0_draftSpan_48 : decode cX0_draftSpan 48 = .ok (.goto (-45), 3) := by decide +kernel
theorem dX0_draftSpan_51 : decode cX0_draftSpan 51 = .ok (.return_, 1) := by decide +kernel
theorem dX0_draftRecord_0 : decode cX0_draftRecord 0 = .ok (.iconst 0, 1) := by decide +kernel
theorem dX0_draftRecord_1 : decode cX0_draftRecord 1 = .ok (.istore_n 3, 1) := by decide +kernel
theorem dX0_draftRecord_2 : decode cX0_draftRecord 2 = .ok (.iload_n 3, 1) := by decide +kernel
theorem dX0_draftRecord_3 : decode cX0_draftRecord 3 = .ok (.bipush 60, 2) := by decide +kernel
theorem dX0_draftRecord_5 : decode cX0_draftRecord 5 = .ok (.if_icmp .ge 22, 3) := by decide +kernel
theorem dX0_draftRecord_8 : decode cX0_draftRecord 8 = .ok (.aload_n 0, 1) := by decide +kernel
theorem dX0_draftRecord_9 : decode cX0_draftRecord 9 = .ok (.getfield 17, 3) := by decide +kernel
theorem dX0_draftRecord_12 : decode cX0_draftRecord 12 = .ok (.iload_n 3, 1) := by decide +kernel
theorem dX0_draftRecord_13 : decode cX0_draftRecord 13 = .ok (.aload_n 0, 1) := by decide +kernel
theorem dX0_draftRecord_14 : decode cX0_draftRecord 14 = .ok (.iload_n 2, 1) := by decide +kernel
theorem dX0_draftRecord_15 : decode cX0_draftRecord 15 = .ok (.iload_n 1, 1) := by decide +kernel
theorem dX0_draftRecord_16 : decode cX0_draftRecord 16 = .ok (.iload_n 3, 1) := by decide +kernel
theorem dX0_draftRecord_17 : decode cX0_draftRecord 17 = .ok (.invokevirtual 77, 3) := by decide +kernel
theorem dX0_draftRecord_20 : decode cX0_draftRecord 20 = .ok (.iastore, 1) := by decide +kernel
theorem dX0_draftRecord_21 : decode cX0_draftRecord 21 = .ok (.iinc 3 1, 3) := by decide +kernel
theorem dX0_draftRecord_24 : decode cX0_draftRecord 24 = .ok (.goto (-22), 3) := by decide +kernel
theorem dX0_draftRecord_27 : decode cX0_draftRecord 27 = .ok (.return_, 1) := by decide +kernel
theorem dX0_recordDraft_0 : decode cX0_recordDraft 0 = .ok (.aload_n 0, 1) := by decide +kernel
theorem dX0_recordDraft_1 : decode cX0_recordDraft 1 = .ok (.iload_n 1, 1) := by decide +kernel
theorem dX0_recordDraft_2 : decode cX0_recordDraft 2 = .ok (.iload_n 2, 1) := by decide +kernel
theorem dX0_recordDraft_3 : decode cX0_recordDraft 3 = .ok (.invokevirtual 149, 3) := by decide +kernel
theorem dX0_recordDraft_6 : decode cX0_recordDraft 6 = .ok (.ifCond .ne 13, 3) := by decide +kernel
theorem dX0_recordDraft_9 : decode cX0_recordDraft 9 = .ok (.new 66, 3) := by decide +kernel
theorem dX0_recordDraft_12 : decode cX0_recordDraft 12 = .ok (.dup, 1) := by decide +kernel
theorem dX0_recordDraft_13 : decode cX0_recordDraft 13 = .ok (.ldc 153, 2) := by decide +kernel
theorem dX0_recordDraft_15 : decode cX0_recordDraft 15 = .ok (.invokespecial 70, 3) := by decide +kernel
theorem dX0_recordDraft_18 : decode cX0_recordDraft 18 = .ok (.athrow, 1) := by decide +kernel
theorem dX0_recordDraft_19 : decode cX0_recordDraft 19 = .ok (.iload_n 1, 1) := by decide +kernel
theorem dX0_recordDraft_20 : decode cX0_recordDraft 20 = .ok (.iload_n 2, 1) := by decide +kernel
theorem dX0_recordDraft_21 : decode cX0_recordDraft 21 = .ok (.invokestatic 34, 3) := by decide +kernel
theorem dX0_recordDraft_24 : decode cX0_recordDraft 24 = .ok (.istore_n 3, 1) := by decide +kernel
theorem dX0_recordDraft_25 : decode cX0_recordDraft 25 = .ok (.iconst 0, 1) := by decide +kernel
theorem dX0_recordDraft_26 : decode cX0_recordDraft 26 = .ok (.istore 4, 2) := by decide +kernel
theorem dX0_recordDraft_28 : decode cX0_recordDraft 28 = .ok (.iconst 0, 1) := by decide +kernel
theorem dX0_recordDraft_29 : decode cX0_recordDraft 29 = .ok (.istore 5, 2) := by decide +kernel
theorem dX0_recordDraft_31 : decode cX0_recordDraft 31 = .ok (.iload 5, 2) := by decide +kernel
theorem dX0_recordDraft_33 : decode cX0_recordDraft 33 = .ok (.bipush 60, 2) := by decide +kernel
theorem dX0_recordDraft_35 : decode cX0_recordDraft 35 = .ok (.if_icmp .ge 47, 3) := by decide +kernel
theorem dX0_recordDraft_38 : decode cX0_recordDraft 38 = .ok (.aload_n 0, 1) := by decide +kernel
theorem dX0_recordDraft_39 : decode cX0_recordDraft 39 = .ok (.aload_n 0, 1) := by decide +kernel
theorem dX0_recordDraft_40 : decode cX0_recordDraft 40 = .ok (.getfield 62, 3) := by decide +kernel
theorem dX0_recordDraft_43 : decode cX0_recordDraft 43 = .ok (.iload_n 3, 1) := by decide +kernel
theorem dX0_recordDraft_44 : decode cX0_recordDraft 44 = .ok (.iload 5, 2) := by decide +kernel
theorem dX0_recordDraft_46 : decode cX0_recordDraft 46 = .ok (.invokevirtual 77, 3) := by decide +kernel
theorem dX0_recordDraft_49 : decode cX0_recordDraft 49 = .ok (.aload_n 0, 1) := by decide +kernel
theorem dX0_recordDraft_50 : decode cX0_recordDraft 50 = .ok (.getfield 17, 3) := by decide +kernel
theorem dX0_recordDraft_53 : decode cX0_recordDraft 53 = .ok (.iload 5, 2) := by decide +kernel
theorem dX0_recordDraft_55 : decode cX0_recordDraft 55 = .ok (.iaload, 1) := by decide +kernel
theorem dX0_recordDraft_56 : decode cX0_recordDraft 56 = .ok (.if_icmp .eq 20, 3) := by decide +kernel
theorem dX0_recordDraft_59 : decode cX0_recordDraft 59 = .ok (.aload_n 0, 1) := by decide +kernel
theorem dX0_recordDraft_60 : decode cX0_recordDraft 60 = .ok (.iload_n 3, 1) := by decide +kernel
theorem dX0_recordDraft_61 : decode cX0_recordDraft 61 = .ok (.iload 5, 2) := by decide +kernel
theorem dX0_recordDraft_63 : decode cX0_recordDraft 63 = .ok (.aload_n 0, 1) := by decide +kernel
theorem dX0_recordDraft_64 : decode cX0_recordDraft 64 = .ok (.getfield 17, 3) := by decide +kernel
theorem dX0_recordDraft_67 : decode cX0_recordDraft 67 = .ok (.iload 5, 2) := by decide +kernel
theorem dX0_recordDraft_69 : decode cX0_recordDraft 69 = .ok (.iaload, 1) := by decide +kernel
theorem dX0_recordDraft_70 : decode cX0_recordDraft 70 = .ok (.invokevirtual 155, 3) := by decide +kernel
theorem dX0_recordDraft_73 : decode cX0_recordDraft 73 = .ok (.iinc 4 1, 3) := by decide +kernel
theorem dX0_recordDraft_76 : decode cX0_recordDraft 76 = .ok (.iinc 5 1, 3) := by decide +kernel
theorem dX0_recordDraft_79 : decode cX0_recordDraft 79 = .ok (.goto (-48), 3) := by decide +kernel
theorem dX0_recordDraft_82 : decode cX0_recordDraft 82 = .ok (.iload 4, 2) := by decide +kernel
theorem dX0_recordDraft_84 : decode cX0_recordDraft 84 = .ok (.ireturn, 1) := by decide +kernel
theorem dX0_draftKeepsReferences_0 : decode cX0_draftKeepsReferences 0 = .ok (.iconst 0, 1) := by decide +kernel
theorem dX0_draftKeepsReferences_1 : decode cX0_draftKeepsReferences 1 = .ok (.istore_n 3, 1) := by decide +kernel
theorem dX0_draftKeepsReferences_2 : decode cX0_draftKeepsReferences 2 = .ok (.iload_n 3, 1) := by decide +kernel
theorem dX0_draftKeepsReferences_3 : decode cX0_draftKeepsReferences 3 = .ok (.bipush 60, 2) := by decide +kernel
theorem dX0_draftKeepsReferences_5 : decode cX0_draftKeepsReferences 5 = .ok (.if_icmp .ge 70, 3) := by decide +kernel
theorem dX0_draftKeepsReferences_8 : decode cX0_draftKeepsReferences 8 = .ok (.aload_n 0, 1) := by decide +kernel
theorem dX0_draftKeepsReferences_9 : decode cX0_draftKeepsReferences 9 = .ok (.getfield 17, 3) := by decide +kernel
theorem dX0_draftKeepsReferences_12 : decode cX0_draftKeepsReferences 12 = .ok (.iload_n 3, 1) := by decide +kernel
theorem dX0_draftKeepsReferences_13 : decode cX0_draftKeepsReferences 13 = .ok (.iaload, 1) := by decide +kernel
theorem dX0_draftKeepsReferences_14 : decode cX0_draftKeepsReferences 14 = .ok (.istore 4, 2) := by decide +kernel
theorem dX0_draftKeepsReferences_16 : decode cX0_draftKeepsReferences 16 = .ok (.iload_n 1, 1) := by decide +kernel
theorem dX0_draftKeepsReferences_17 : decode cX0_draftKeepsReferences 17 = .ok (.ifCond .ne 20, 3) := by decide +kernel
theorem dX0_draftKeepsReferences_20 : decode cX0_draftKeepsReferences 20 = .ok (.iload 4, 2) := by decide +kernel
theorem dX0_draftKeepsReferences_22 : decode cX0_draftKeepsReferences 22 = .ok (.iconst (-1), 1) := by decide +kernel
theorem dX0_draftKeepsReferences_23 : decode cX0_draftKeepsReferences 23 = .ok (.if_icmp .ne 14, 3) := by decide +kernel
theorem dX0_draftKeepsReferences_26 : decode cX0_draftKeepsReferences 26 = .ok (.aload_n 0, 1) := by decide +kernel
theorem dX0_draftKeepsReferences_27 : decode cX0_draftKeepsReferences 27 = .ok (.iload_n 2, 1) := by decide +kernel
theorem dX0_draftKeepsReferences_28 : decode cX0_draftKeepsReferences 28 = .ok (.iload_n 3, 1) := by decide +kernel
theorem dX0_draftKeepsReferences_29 : decode cX0_draftKeepsReferences 29 = .ok (.invokevirtual 159, 3) := by decide +kernel
theorem dX0_draftKeepsReferences_32 : decode cX0_draftKeepsReferences 32 = .ok (.ifCond .eq 5, 3) := by decide +kernel
theorem dX0_draftKeepsReferences_35 : decode cX0_draftKeepsReferences 35 = .ok (.iconst 0, 1) := by decide +kernel
theorem dX0_draftKeepsReferences_36 : decode cX0_draftKeepsReferences 36 = .ok (.ireturn, 1) := by decide +kernel
theorem dX0_draftKeepsReferences_37 : decode cX0_draftKeepsReferences 37 = .ok (.iload_n 1, 1) := by decide +kernel
theorem dX0_draftKeepsReferences_38 : decode cX0_draftKeepsReferences 38 = .ok (.iconst 1, 1) := by decide +kernel
theorem dX0_draftKeepsReferences_39 : decode cX0_draftKeepsReferences 39 = .ok (.if_icmp .ne 30, 3) := by decide +kernel
theorem dX0_draftKeepsReferences_42 : decode cX0_draftKeepsReferences 42 = .ok (.iload 4, 2) := by decide +kernel
theorem dX0_draftKeepsReferences_44 : decode cX0_draftKeepsReferences 44 = .ok (.iconst (-1), 1) := by decide +kernel
theorem dX0_draftKeepsReferences_45 : decode cX0_draftKeepsReferences 45 = .ok (.if_icmp .eq 24, 3) := by decide +kernel
theorem dX0_draftKeepsReferences_48 : decode cX0_draftKeepsReferences 48 = .ok (.aload_n 0, 1) := by decide +kernel
theorem dX0_draftKeepsReferences_49 : decode cX0_draftKeepsReferences 49 = .ok (.aload_n 0, 1) := by decide +kernel
theorem dX0_draftKeepsReferences_50 : decode cX0_draftKeepsReferences 50 = .ok (.getfield 62, 3) := by decide +kernel
theorem dX0_draftKeepsReferences_53 : decode cX0_draftKeepsReferences 53 = .ok (.iconst 0, 1) := by decide +kernel
theorem dX0_draftKeepsReferences_54 : decode cX0_draftKeepsReferences 54 = .ok (.iload 4, 2) := by decide +kernel
theorem dX0_draftKeepsReferences_56 : decode cX0_draftKeepsReferences 56 = .ok (.invokestatic 34, 3) := by decide +kernel
theorem dX0_draftKeepsReferences_59 : decode cX0_draftKeepsReferences 59 = .ok (.iload_n 3, 1) := by decide +kernel
theorem dX0_draftKeepsReferences_60 : decode cX0_draftKeepsReferences 60 = .ok (.invokevirtual 77, 3) := by decide +kernel
theorem dX0_draftKeepsReferences_63 : decode cX0_draftKeepsReferences 63 = .ok (.iconst (-1), 1) := by decide +kernel
theorem dX0_draftKeepsReferences_64 : decode cX0_draftKeepsReferences 64 = .ok (.if_icmp .ne 5, 3) := by decide +kernel
theorem dX0_draftKeepsReferences_67 : decode cX0_draftKeepsReferences 67 = .ok (.iconst 0, 1) := by decide +kernel
theorem dX0_draftKeepsReferences_68 : decode cX0_draftKeepsReferences 68 = .ok (.ireturn, 1) := by decide +kernel
theorem dX0_draftKeepsReferences_69 : decode cX0_draftKeepsReferences 69 = .ok (.iinc 3 1, 3) := by decide +kernel
theorem dX0_draftKeepsReferences_72 : decode cX0_draftKeepsReferences 72 = .ok (.goto (-70), 3) := by decide +kernel
theorem dX0_draftKeepsReferences_75 : decode cX0_draftKeepsReferences 75 = .ok (.iconst 1, 1) := by decide +kernel
theorem dX0_draftKeepsReferences_76 : decode cX0_draftKeepsReferences 76 = .ok (.ireturn, 1) := by decide +kernel
theorem dX0_isReferredTo_0 : decode cX0_isReferredTo 0 = .ok (.iconst 0, 1) := by decide +kernel
theorem dX0_isReferredTo_1 : decode cX0_isReferredTo 1 = .ok (.istore_n 3, 1) := by decide +kernel
theorem dX0_isReferredTo_2 : decode cX0_isReferredTo 2 = .ok (.iload_n 3, 1) := by decide +kernel
theorem dX0_isReferredTo_3 : decode cX0_isReferredTo 3 = .ok (.bipush 8, 2) := by decide +kernel
theorem dX0_isReferredTo_5 : decode cX0_isReferredTo 5 = .ok (.if_icmp .ge 29, 3) := by decide +kernel
theorem dX0_isReferredTo_8 : decode cX0_isReferredTo 8 = .ok (.aload_n 0, 1) := by decide +kernel
theorem dX0_isReferredTo_9 : decode cX0_isReferredTo 9 = .ok (.aload_n 0, 1) := by decide +kernel
theorem dX0_isReferredTo_10 : decode cX0_isReferredTo 10 = .ok (.getfield 62, 3) := by decide +kernel
theorem dX0_isReferredTo_13 : decode cX0_isReferredTo 13 = .ok (.iconst 1, 1) := by decide +kernel
theorem dX0_isReferredTo_14 : decode cX0_isReferredTo 14 = .ok (.iload_n 3, 1) := by decide +kernel
theorem dX0_isReferredTo_15 : decode cX0_isReferredTo 15 = .ok (.invokestatic 34, 3) := by decide +kernel
theorem dX0_isReferredTo_18 : decode cX0_isReferredTo 18 = .ok (.iload_n 2, 1) := by decide +kernel
theorem dX0_isReferredTo_19 : decode cX0_isReferredTo 19 = .ok (.invokevirtual 77, 3) := by decide +kernel
theorem dX0_isReferredTo_22 : decode cX0_isReferredTo 22 = .ok (.iload_n 1, 1) := by decide +kernel
theorem dX0_isReferredTo_23 : decode cX0_isReferredTo 23 = .ok (.if_icmp .ne 5, 3) := by decide +kernel
theorem dX0_isReferredTo_26 : decode cX0_isReferredTo 26 = .ok (.iconst 1, 1) := by decide +kernel
theorem dX0_isReferredTo_27 : decode cX0_isReferredTo 27 = .ok (.ireturn, 1) := by decide +kernel
theorem dX0_isReferredTo_28 : decode cX0_isReferredTo 28 = .ok (.iinc 3 1, 3) := by decide +kernel
theorem dX0_isReferredTo_31 : decode cX0_isReferredTo 31 = .ok (.goto (-29), 3) := by decide +kernel
theorem dX0_isReferredTo_34 : decode cX0_isReferredTo 34 = .ok (.iconst 0, 1) := by decide +kernel
theorem dX0_isReferredTo_35 : decode cX0_isReferredTo 35 = .ok (.ireturn, 1) := by decide +kernel
theorem dX0_loseWithReferences_0 : decode cX0_loseWithReferences 0 = .ok (.aload_n 0, 1) := by decide +kernel
theorem dX0_loseWithReferences_1 : decode cX0_loseWithReferences 1 = .ok (.iconst 0, 1) := by decide +kernel
theorem dX0_loseWithReferences_2 : decode cX0_loseWithReferences 2 = .ok (.iload_n 1, 1) := by decide +kernel
theorem dX0_loseWithReferences_3 : decode cX0_loseWithReferences 3 = .ok (.invokestatic 34, 3) := by decide +kernel
theorem dX0_loseWithReferences_6 : decode cX0_loseWithReferences 6 = .ok (.iload_n 2, 1) := by decide +kernel
theorem dX0_loseWithReferences_7 : decode cX0_loseWithReferences 7 = .ok (.invokevirtual 162, 3) := by decide +kernel
theorem dX0_loseWithReferences_10 : decode cX0_loseWithReferences 10 = .ok (.istore_n 3, 1) := by decide +kernel
theorem dX0_loseWithReferences_11 : decode cX0_loseWithReferences 11 = .ok (.iconst 0, 1) := by decide +kernel
theorem dX0_loseWithReferences_12 : decode cX0_loseWithReferences 12 = .ok (.istore 4, 2) := by decide +kernel
theorem dX0_loseWithReferences_14 : decode cX0_loseWithReferences 14 = .ok (.iload 4, 2) := by decide +kernel
theorem dX0_loseWithReferences_16 : decode cX0_loseWithReferences 16 = .ok (.bipush 8, 2) := by decide +kernel
theorem dX0_loseWithReferences_18 : decode cX0_loseWithReferences 18 = .ok (.if_icmp .ge 42, 3) := by decide +kernel
theorem dX0_loseWithReferences_21 : decode cX0_loseWithReferences 21 = .ok (.aload_n 0, 1) := by decide +kernel
theorem dX0_loseWithReferences_22 : decode cX0_loseWithReferences 22 = .ok (.aload_n 0, 1) := by decide +kernel
theorem dX0_loseWithReferences_23 : decode cX0_loseWithReferences 23 = .ok (.getfield 62, 3) := by decide +kernel
theorem dX0_loseWithReferences_26 : decode cX0_loseWithReferences 26 = .ok (.iconst 1, 1) := by decide +kernel
theorem dX0_loseWithReferences_27 : decode cX0_loseWithReferences 27 = .ok (.iload 4, 2) := by decide +kernel
theorem dX0_loseWithReferences_29 : decode cX0_loseWithReferences 29 = .ok (.invokestatic 34, 3) := by decide +kernel
theorem dX0_loseWithReferences_32 : decode cX0_loseWithReferences 32 = .ok (.iload_n 2, 1) := by decide +kernel
theorem dX0_loseWithReferences_33 : decode cX0_loseWithReferences 33 = .ok (.invokevirtual 77, 3) := by decide +kernel
theorem dX0_loseWithReferences_36 : decode cX0_loseWithReferences 36 = .ok (.iload_n 1, 1) := by decide +kernel
theorem dX0_loseWithReferences_37 : decode cX0_loseWithReferences 37 = .ok (.if_icmp .ne 17, 3) := by decide +kernel
theorem dX0_loseWithReferences_40 : decode cX0_loseWithReferences 40 = .ok (.iload_n 3, 1) := by decide +kernel
theorem dX0_loseWithReferences_41 : decode cX0_loseWithReferences 41 = .ok (.aload_n 0, 1) := by decide +kernel
theorem dX0_loseWithReferences_42 : decode cX0_loseWithReferences 42 = .ok (.iconst 1, 1) := by decide +kernel
theorem dX0_loseWithReferences_43 : decode cX0_loseWithReferences 43 = .ok (.iload 4, 2) := by decide +kernel
theorem dX0_loseWithReferences_45 : decode cX0_loseWithReferences 45 = .ok (.invokestatic 34, 3) := by decide +kernel
theorem dX0_loseWithReferences_48 : decode cX0_loseWithReferences 48 = .ok (.iload_n 2, 1) := by decide +kernel
theorem dX0_loseWithReferences_49 : decode cX0_loseWithReferences 49 = .ok (.invokevirtual 162, 3) := by decide +kernel
theorem dX0_loseWithReferences_52 : decode cX0_loseWithReferences 52 = .ok (.iadd, 1) := by decide +kernel
theorem dX0_loseWithReferences_53 : decode cX0_loseWithReferences 53 = .ok (.istore_n 3, 1) := by decide +kernel
theorem dX0_loseWithReferences_54 : decode cX0_loseWithReferences 54 = .ok (.iinc 4 1, 3) := by decide +kernel
theorem dX0_loseWithReferences_57 : decode cX0_loseWithReferences 57 = .ok (.goto (-43), 3) := by decide +kernel
theorem dX0_loseWithReferences_60 : decode cX0_loseWithReferences 60 = .ok (.iload_n 3, 1) := by decide +kernel
theorem dX0_loseWithReferences_61 : decode cX0_loseWithReferences 61 = .ok (.ireturn, 1) := by decide +kernel
theorem dX0_lose_0 : decode cX0_lose 0 = .ok (.aload_n 0, 1) := by decide +kernel
theorem dX0_lose_1 : decode cX0_lose 1 = .ok (.aload_n 0, 1) := by decide +kernel
theorem dX0_lose_2 : decode cX0_lose 2 = .ok (.getfield 62, 3) := by decide +kernel
theorem dX0_lose_5 : decode cX0_lose 5 = .ok (.iload_n 1, 1) := by decide +kernel
theorem dX0_lose_6 : decode cX0_lose 6 = .ok (.iload_n 2, 1) := by decide +kernel
theorem dX0_lose_7 : decode cX0_lose 7 = .ok (.invokevirtual 77, 3) := by decide +kernel
theorem dX0_lose_10 : decode cX0_lose 10 = .ok (.iconst (-1), 1) := by decide +kernel
theorem dX0_lose_11 : decode cX0_lose 11 = .ok (.if_icmp .ne 5, 3) := by decide +kernel
theorem dX0_lose_14 : decode cX0_lose 14 = .ok (.iconst 0, 1) := by decide +kernel
theorem dX0_lose_15 : decode cX0_lose 15 = .ok (.ireturn, 1) := by decide +kernel
theorem dX0_lose_16 : decode cX0_lose 16 = .ok (.aload_n 0, 1) := by decide +kernel
theorem dX0_lose_17 : decode cX0_lose 17 = .ok (.iload_n 1, 1) := by decide +kernel
theorem dX0_lose_18 : decode cX0_lose 18 = .ok (.iload_n 2, 1) := by decide +kernel
theorem dX0_lose_19 : decode cX0_lose 19 = .ok (.iconst (-1), 1) := by decide +kernel
theorem dX0_lose_20 : decode cX0_lose 20 = .ok (.invokevirtual 155, 3) := by decide +kernel
theorem dX0_lose_23 : decode cX0_lose 23 = .ok (.iconst 1, 1) := by decide +kernel
theorem dX0_lose_24 : decode cX0_lose 24 = .ok (.ireturn, 1) := by decide +kernel
theorem dX0_startsRun_0 : decode cX0_startsRun 0 = .ok (.aload_n 0, 1) := by decide +kernel
theorem dX0_startsRun_1 : decode cX0_startsRun 1 = .ok (.iload_n 1, 1) := by decide +kernel
theorem dX0_startsRun_2 : decode cX0_startsRun 2 = .ok (.iload_n 2, 1) := by decide +kernel
theorem dX0_startsRun_3 : decode cX0_startsRun 3 = .ok (.iload_n 3, 1) := by decide +kernel
theorem dX0_startsRun_4 : decode cX0_startsRun 4 = .ok (.invokevirtual 77, 3) := by decide +kernel
theorem dX0_startsRun_7 : decode cX0_startsRun 7 = .ok (.istore 4, 2) := by decide +kernel
theorem dX0_startsRun_9 : decode cX0_startsRun 9 = .ok (.iload 4, 2) := by decide +kernel
theorem dX0_startsRun_11 : decode cX0_startsRun 11 = .ok (.iconst (-1), 1) := by decide +kernel
theorem dX0_startsRun_12 : decode cX0_startsRun 12 = .ok (.if_icmp .eq 25, 3) := by decide +kernel
theorem dX0_startsRun_15 : decode cX0_startsRun 15 = .ok (.iload_n 3, 1) := by decide +kernel
theorem dX0_startsRun_16 : decode cX0_startsRun 16 = .ok (.ifCond .eq 17, 3) := by decide +kernel
theorem dX0_startsRun_19 : decode cX0_startsRun 19 = .ok (.aload_n 0, 1) := by decide +kernel
theorem dX0_startsRun_20 : decode cX0_startsRun 20 = .ok (.iload_n 1, 1) := by decide +kernel
theorem dX0_startsRun_21 : decode cX0_startsRun 21 = .ok (.iload_n 2, 1) := by decide +kernel
theorem dX0_startsRun_22 : decode cX0_startsRun 22 = .ok (.iload_n 3, 1) := by decide +kernel
theorem dX0_startsRun_23 : decode cX0_startsRun 23 = .ok (.iconst 1, 1) := by decide +kernel
theorem dX0_startsRun_24 : decode cX0_startsRun 24 = .ok (.isub, 1) := by decide +kernel
theorem dX0_startsRun_25 : decode cX0_startsRun 25 = .ok (.invokevirtual 77, 3) := by decide +kernel
theorem dX0_startsRun_28 : decode cX0_startsRun 28 = .ok (.iload 4, 2) := by decide +kernel
theorem dX0_startsRun_30 : decode cX0_startsRun 30 = .ok (.if_icmp .eq 7, 3) := by decide +kernel
theorem dX0_startsRun_33 : decode cX0_startsRun 33 = .ok (.iconst 1, 1) := by decide +kernel
theorem dX0_startsRun_34 : decode cX0_startsRun 34 = .ok (.goto 4, 3) := by decide +kernel
theorem dX0_startsRun_37 : decode cX0_startsRun 37 = .ok (.iconst 0, 1) := by decide +kernel
theorem dX0_startsRun_38 : decode cX0_startsRun 38 = .ok (.ireturn, 1) := by decide +kernel
theorem dX0_endOfRun_0 : decode cX0_endOfRun 0 = .ok (.aload_n 0, 1) := by decide +kernel
theorem dX0_endOfRun_1 : decode cX0_endOfRun 1 = .ok (.iload_n 1, 1) := by decide +kernel
theorem dX0_endOfRun_2 : decode cX0_endOfRun 2 = .ok (.iload_n 2, 1) := by decide +kernel
theorem dX0_endOfRun_3 : decode cX0_endOfRun 3 = .ok (.iload_n 3, 1) := by decide +kernel
theorem dX0_endOfRun_4 : decode cX0_endOfRun 4 = .ok (.invokevirtual 77, 3) := by decide +kernel
theorem dX0_endOfRun_7 : decode cX0_endOfRun 7 = .ok (.istore 4, 2) := by decide +kernel
theorem dX0_endOfRun_9 : decode cX0_endOfRun 9 = .ok (.iload_n 3, 1) := by decide +kernel
theorem dX0_endOfRun_10 : decode cX0_endOfRun 10 = .ok (.iconst 1, 1) := by decide +kernel
theorem dX0_endOfRun_11 : decode cX0_endOfRun 11 = .ok (.iadd, 1) := by decide +kernel
theorem dX0_endOfRun_12 : decode cX0_endOfRun 12 = .ok (.istore 5, 2) := by decide +kernel
theorem dX0_endOfRun_14 : decode cX0_endOfRun 14 = .ok (.iload 5, 2) := by decide +kernel
theorem dX0_endOfRun_16 : decode cX0_endOfRun 16 = .ok (.bipush 60, 2) := by decide +kernel
theorem dX0_endOfRun_18 : decode cX0_endOfRun 18 = .ok (.if_icmp .ge 22, 3) := by decide +kernel
theorem dX0_endOfRun_21 : decode cX0_endOfRun 21 = .ok (.aload_n 0, 1) := by decide +kernel
theorem dX0_endOfRun_22 : decode cX0_endOfRun 22 = .ok (.iload_n 1, 1) := by decide +kernel
theorem dX0_endOfRun_23 : decode cX0_endOfRun 23 = .ok (.iload_n 2, 1) := by decide +kernel
theorem dX0_endOfRun_24 : decode cX0_endOfRun 24 = .ok (.iload 5, 2) := by decide +kernel
theorem dX0_endOfRun_26 : decode cX0_endOfRun 26 = .ok (.invokevirtual 77, 3) := by decide +kernel
theorem dX0_endOfRun_29 : decode cX0_endOfRun 29 = .ok (.iload 4, 2) := by decide +kernel
theorem dX0_endOfRun_31 : decode cX0_endOfRun 31 = .ok (.if_icmp .ne 9, 3) := by decide +kernel
theorem dX0_endOfRun_34 : decode cX0_endOfRun 34 = .ok (.iinc 5 1, 3) := by decide +kernel
theorem dX0_endOfRun_37 : decode cX0_endOfRun 37 = .ok (.goto (-23), 3) := by decide +kernel
theorem dX0_endOfRun_40 : decode cX0_endOfRun 40 = .ok (.iload 5, 2) := by decide +kernel
theorem dX0_endOfRun_42 : decode cX0_endOfRun 42 = .ok (.ireturn, 1) := by decide +kernel
theorem dX0_firstDayOfRun_0 : decode cX0_firstDayOfRun 0 = .ok (.iconst 0, 1) := by decide +kernel
theorem dX0_firstDayOfRun_1 : decode cX0_firstDayOfRun 1 = .ok (.istore 4, 2) := by decide +kernel
theorem dX0_firstDayOfRun_3 : decode cX0_firstDayOfRun 3 = .ok (.iconst 0, 1) := by decide +kernel
theorem dX0_firstDayOfRun_4 : decode cX0_firstDayOfRun 4 = .ok (.istore 5, 2) := by decide +kernel
theorem dX0_firstDayOfRun_6 : decode cX0_firstDayOfRun 6 = .ok (.iload 5, 2) := by decide +kernel
theorem dX0_firstDayOfRun_8 : decode cX0_firstDayOfRun 8 = .ok (.bipush 60, 2) := by decide +kernel
theorem dX0_firstDayOfRun_10 : decode cX0_firstDayOfRun 10 = .ok (.if_icmp .ge 32, 3) := by decide +kernel
theorem dX0_firstDayOfRun_13 : decode cX0_firstDayOfRun 13 = .ok (.aload_n 0, 1) := by decide +kernel
theorem dX0_firstDayOfRun_14 : decode cX0_firstDayOfRun 14 = .ok (.iload_n 1, 1) := by decide +kernel
theorem dX0_firstDayOfRun_15 : decode cX0_firstDayOfRun 15 = .ok (.iload_n 2, 1) := by decide +kernel
theorem dX0_firstDayOfRun_16 : decode cX0_firstDayOfRun 16 = .ok (.iload 5, 2) := by decide +kernel
theorem dX0_firstDayOfRun_18 : decode cX0_firstDayOfRun 18 = .ok (.invokevirtual 84, 3) := by decide +kernel
theorem dX0_firstDayOfRun_21 : decode cX0_firstDayOfRun 21 = .ok (.ifCond .eq 15, 3) := by decide +kernel
theorem dX0_firstDayOfRun_24 : decode cX0_firstDayOfRun 24 = .ok (.iload 4, 2) := by decide +kernel
theorem dX0_firstDayOfRun_26 : decode cX0_firstDayOfRun 26 = .ok (.iload_n 3, 1) := by decide +kernel
theorem dX0_firstDayOfRun_27 : decode cX0_firstDayOfRun 27 = .ok (.if_icmp .ne 6, 3) := by decide +kernel
theorem dX0_firstDayOfRun_30 : decode cX0_firstDayOfRun 30 = .ok (.iload 5, 2) := by decide +kernel
theorem dX0_firstDayOfRun_32 : decode cX0_firstDayOfRun 32 = .ok (.ireturn, 1) := by decide +kernel
theorem dX0_firstDayOfRun_33 : decode cX0_firstDayOfRun 33 = .ok (.iinc 4 1, 3) := by decide +kernel
theorem dX0_firstDayOfRun_36 : decode cX0_firstDayOfRun 36 = .ok (.iinc 5 1, 3) := by decide +kernel
theorem dX0_firstDayOfRun_39 : decode cX0_firstDayOfRun 39 = .ok (.goto (-33), 3) := by decide +kernel
theorem dX0_firstDayOfRun_42 : decode cX0_firstDayOfRun 42 = .ok (.iconst (-1), 1) := by decide +kernel
theorem dX0_firstDayOfRun_43 : decode cX0_firstDayOfRun 43 = .ok (.ireturn, 1) := by decide +kernel
theorem dX0_runNumber_0 : decode cX0_runNumber 0 = .ok (.sipush 10000, 3) := by decide +kernel
theorem dX0_runNumber_3 : decode cX0_runNumber 3 = .ok (.iload_n 3, 1) := by decide +kernel
theorem dX0_runNumber_4 : decode cX0_runNumber 4 = .ok (.imul, 1) := by decide +kernel
theorem dX0_runNumber_5 : decode cX0_runNumber 5 = .ok (.bipush 100, 2) := by decide +kernel
theorem dX0_runNumber_7 : decode cX0_runNumber 7 = .ok (.aload_n 0, 1) := by decide +kernel
theorem dX0_runNumber_8 : decode cX0_runNumber 8 = .ok (.iload_n 1, 1) := by decide +kernel
theorem dX0_runNumber_9 : decode cX0_runNumber 9 = .ok (.iload_n 2, 1) := by decide +kernel
theorem dX0_runNumber_10 : decode cX0_runNumber 10 = .ok (.iload_n 3, 1) := by decide +kernel
theorem dX0_runNumber_11 : decode cX0_runNumber 11 = .ok (.invokevirtual 124, 3) := by decide +kernel
theorem dX0_runNumber_14 : decode cX0_runNumber 14 = .ok (.imul, 1) := by decide +kernel
theorem dX0_runNumber_15 : decode cX0_runNumber 15 = .ok (.iadd, 1) := by decide +kernel
theorem dX0_runNumber_16 : decode cX0_runNumber 16 = .ok (.aload_n 0, 1) := by decide +kernel
theorem dX0_runNumber_17 : decode cX0_runNumber 17 = .ok (.iload_n 1, 1) := by decide +kernel
theorem dX0_runNumber_18 : decode cX0_runNumber 18 = .ok (.iload_n 2, 1) := by decide +kernel
theorem dX0_runNumber_19 : decode cX0_runNumber 19 = .ok (.iload_n 3, 1) := by decide +kernel
theorem dX0_runNumber_20 : decode cX0_runNumber 20 = .ok (.invokevirtual 77, 3) := by decide +kernel
theorem dX0_runNumber_23 : decode cX0_runNumber 23 = .ok (.iadd, 1) := by decide +kernel
theorem dX0_runNumber_24 : decode cX0_runNumber 24 = .ok (.ireturn, 1) := by decide +kernel
theorem dX0_joinedOn_0 : decode cX0_joinedOn 0 = .ok (.aload_n 0, 1) := by decide +kernel
theorem dX0_joinedOn_1 : decode cX0_joinedOn 1 = .ok (.iload_n 1, 1) := by decide +kernel
theorem dX0_joinedOn_2 : decode cX0_joinedOn 2 = .ok (.iconst 1, 1) := by decide +kernel
theorem dX0_joinedOn_3 : decode cX0_joinedOn 3 = .ok (.iload_n 2, 1) := by decide +kernel
theorem dX0_joinedOn_4 : decode cX0_joinedOn 4 = .ok (.invokestatic 34, 3) := by decide +kernel
theorem dX0_joinedOn_7 : decode cX0_joinedOn 7 = .ok (.iload_n 3, 1) := by decide +kernel
theorem dX0_joinedOn_8 : decode cX0_joinedOn 8 = .ok (.invokevirtual 77, 3) := by decide +kernel
theorem dX0_joinedOn_11 : decode cX0_joinedOn 11 = .ok (.istore 4, 2) := by decide +kernel
theorem dX0_joinedOn_13 : decode cX0_joinedOn 13 = .ok (.iload 4, 2) := by decide +kernel
theorem dX0_joinedOn_15 : decode cX0_joinedOn 15 = .ok (.iconst (-1), 1) := by decide +kernel
theorem dX0_joinedOn_16 : decode cX0_joinedOn 16 = .ok (.if_icmp .ne 7, 3) := by decide +kernel
theorem dX0_joinedOn_19 : decode cX0_joinedOn 19 = .ok (.iconst (-1), 1) := by decide +kernel
theorem dX0_joinedOn_20 : decode cX0_joinedOn 20 = .ok (.goto 15, 3) := by decide +kernel
theorem dX0_joinedOn_23 : decode cX0_joinedOn 23 = .ok (.aload_n 0, 1) := by decide +kernel
theorem dX0_joinedOn_24 : decode cX0_joinedOn 24 = .ok (.iload_n 1, 1) := by decide +kernel
theorem dX0_joinedOn_25 : decode cX0_joinedOn 25 = .ok (.iconst 0, 1) := by decide +kernel
theorem dX0_joinedOn_26 : decode cX0_joinedOn 26 = .ok (.iload 4, 2) := by decide +kernel
theorem dX0_joinedOn_28 : decode cX0_joinedOn 28 = .ok (.invokestatic 34, 3) := by decide +kernel
theorem dX0_joinedOn_31 : decode cX0_joinedOn 31 = .ok (.iload_n 3, 1) := by decide +kernel
theorem dX0_joinedOn_32 : decode cX0_joinedOn 32 = .ok (.invokevirtual 77, 3) := by decide +kernel
theorem dX0_joinedOn_35 : decode cX0_joinedOn 35 = .ok (.ireturn, 1) := by decide +kernel
theorem dX0_startsJoinedRun_0 : decode cX0_startsJoinedRun 0 = .ok (.aload_n 0, 1) := by decide +kernel
theorem dX0_startsJoinedRun_1 : decode cX0_startsJoinedRun 1 = .ok (.iload_n 1, 1) := by decide +kernel
theorem dX0_startsJoinedRun_2 : decode cX0_startsJoinedRun 2 = .ok (.iconst 1, 1) := by decide +kernel
theorem dX0_startsJoinedRun_3 : decode cX0_startsJoinedRun 3 = .ok (.iload_n 2, 1) := by decide +kernel
theorem dX0_startsJoinedRun_4 : decode cX0_startsJoinedRun 4 = .ok (.invokestatic 34, 3) := by decide +kernel
theorem dX0_startsJoinedRun_7 : decode cX0_startsJoinedRun 7 = .ok (.iload_n 3, 1) := by decide +kernel
theorem dX0_startsJoinedRun_8 : decode cX0_startsJoinedRun 8 = .ok (.invokevirtual 77, 3) := by decide +kernel
theorem dX0_startsJoinedRun_11 : decode cX0_startsJoinedRun 11 = .ok (.iconst (-1), 1) := by decide +kernel
theorem dX0_startsJoinedRun_12 : decode cX0_startsJoinedRun 12 = .ok (.if_icmp .ne 5, 3) := by decide +kernel
theorem dX0_startsJoinedRun_15 : decode cX0_startsJoinedRun 15 = .ok (.iconst 0, 1) := by decide +kernel
theorem dX0_startsJoinedRun_16 : decode cX0_startsJoinedRun 16 = .ok (.ireturn, 1) := by decide +kernel
theorem dX0_startsJoinedRun_17 : decode cX0_startsJoinedRun 17 = .ok (.aload_n 0, 1) := by decide +kernel
theorem dX0_startsJoinedRun_18 : decode cX0_startsJoinedRun 18 = .ok (.iload_n 1, 1) := by decide +kernel
theorem dX0_startsJoinedRun_19 : decode cX0_startsJoinedRun 19 = .ok (.iconst 1, 1) := by decide +kernel
theorem dX0_startsJoinedRun_20 : decode cX0_startsJoinedRun 20 = .ok (.iload_n 2, 1) := by decide +kernel
theorem dX0_startsJoinedRun_21 : decode cX0_startsJoinedRun 21 = .ok (.invokestatic 34, 3) := by decide +kernel
theorem dX0_startsJoinedRun_24 : decode cX0_startsJoinedRun 24 = .ok (.iload_n 3, 1) := by decide +kernel
theorem dX0_startsJoinedRun_25 : decode cX0_startsJoinedRun 25 = .ok (.invokevirtual 84, 3) := by decide +kernel
theorem dX0_startsJoinedRun_28 : decode cX0_startsJoinedRun 28 = .ok (.ifCond .ne 22, 3) := by decide +kernel
theorem dX0_startsJoinedRun_31 : decode cX0_startsJoinedRun 31 = .ok (.aload_n 0, 1) := by decide +kernel
theorem dX0_startsJoinedRun_32 : decode cX0_startsJoinedRun 32 = .ok (.iload_n 1, 1) := by decide +kernel
theorem dX0_startsJoinedRun_33 : decode cX0_startsJoinedRun 33 = .ok (.iload_n 2, 1) := by decide +kernel
theorem dX0_startsJoinedRun_34 : decode cX0_startsJoinedRun 34 = .ok (.iload_n 3, 1) := by decide +kernel
theorem dX0_startsJoinedRun_35 : decode cX0_startsJoinedRun 35 = .ok (.invokevirtual 81, 3) := by decide +kernel
theorem dX0_startsJoinedRun_38 : decode cX0_startsJoinedRun 38 = .ok (.aload_n 0, 1) := by decide +kernel
theorem dX0_startsJoinedRun_39 : decode cX0_startsJoinedRun 39 = .ok (.iload_n 1, 1) := by decide +kernel
theorem dX0_startsJoinedRun_40 : decode cX0_startsJoinedRun 40 = .ok (.iload_n 2, 1) := by decide +kernel
theorem dX0_startsJoinedRun_41 : decode cX0_startsJoinedRun 41 = .ok (.iload_n 3, 1) := by decide +kernel
theorem dX0_startsJoinedRun_42 : decode cX0_startsJoinedRun 42 = .ok (.iconst 1, 1) := by decide +kernel
theorem dX0_startsJoinedRun_43 : decode cX0_startsJoinedRun 43 = .ok (.isub, 1) := by decide +kernel
theorem dX0_startsJoinedRun_44 : decode cX0_startsJoinedRun 44 = .ok (.invokevirtual 81, 3) := by decide +kernel
theorem dX0_startsJoinedRun_47 : decode cX0_startsJoinedRun 47 = .ok (.if_icmp .eq 7, 3) := by decide +kernel
theorem dX0_startsJoinedRun_50 : decode cX0_startsJoinedRun 50 = .ok (.iconst 1, 1) := by decide +kernel
theorem dX0_startsJoinedRun_51 : decode cX0_startsJoinedRun 51 = .ok (.goto 4, 3) := by decide +kernel
theorem dX0_startsJoinedRun_54 : decode cX0_startsJoinedRun 54 = .ok (.iconst 0, 1) := by decide +kernel
theorem dX0_startsJoinedRun_55 : decode cX0_startsJoinedRun 55 = .ok (.ireturn, 1) := by decide +kernel
theorem dX0_recordOfStart_0 : decode cX0_recordOfStart 0 = .ok (.iload_n 0, 1) := by decide +kernel
theorem dX0_recordOfStart_1 : decode cX0_recordOfStart 1 = .ok (.bipush 60, 2) := by decide +kernel
theorem dX0_recordOfStart_3 : decode cX0_recordOfStart 3 = .ok (.idiv, 1) := by decide +kernel
theorem dX0_recordOfStart_4 : decode cX0_recordOfStart 4 = .ok (.ireturn, 1) := by decide +kernel
theorem dX0_validOfStart_0 : decode cX0_validOfStart 0 = .ok (.iload_n 0, 1) := by decide +kernel
theorem dX0_validOfStart_1 : decode cX0_validOfStart 1 = .ok (.bipush 60, 2) := by decide +kernel
theorem dX0_validOfStart_3 : decode cX0_validOfStart 3 = .ok (.irem, 1) := by decide +kernel
theorem dX0_validOfStart_4 : decode cX0_validOfStart 4 = .ok (.ireturn, 1) := by decide +kernel
theorem dX0_startOfRow_0 : decode cX0_startOfRow 0 = .ok (.iconst 0, 1) := by decide +kernel
theorem dX0_startOfRow_1 : decode cX0_startOfRow 1 = .ok (.istore_n 3, 1) := by decide +kernel
theorem dX0_startOfRow_2 : decode cX0_startOfRow 2 = .ok (.iconst 0, 1) := by decide +kernel
theorem dX0_startOfRow_3 : decode cX0_startOfRow 3 = .ok (.istore 4, 2) := by decide +kernel
theorem dX0_startOfRow_5 : decode cX0_startOfRow 5 = .ok (.iload 4, 2) := by decide +kernel
theorem dX0_startOfRow_7 : decode cX0_startOfRow 7 = .ok (.aload_n 0, 1) := by decide +kernel
theorem dX0_startOfRow_8 : decode cX0_startOfRow 8 = .ok (.getfield 62, 3) := by decide +kernel
theorem dX0_startOfRow_11 : decode cX0_startOfRow 11 = .ok (.if_icmp .gt 63, 3) := by decide +kernel
theorem dX0_startOfRow_14 : decode cX0_startOfRow 14 = .ok (.iconst 0, 1) := by decide +kernel
theorem dX0_startOfRow_15 : decode cX0_startOfRow 15 = .ok (.istore 5, 2) := by decide +kernel
theorem dX0_startOfRow_17 : decode cX0_startOfRow 17 = .ok (.iload 5, 2) := by decide +kernel
theorem dX0_startOfRow_19 : decode cX0_startOfRow 19 = .ok (.bipush 60, 2) := by decide +kernel
theorem dX0_startOfRow_21 : decode cX0_startOfRow 21 = .ok (.if_icmp .ge 47, 3) := by decide +kernel
theorem dX0_startOfRow_24 : decode cX0_startOfRow 24 = .ok (.aload_n 0, 1) := by decide +kernel
theorem dX0_startOfRow_25 : decode cX0_startOfRow 25 = .ok (.iload 4, 2) := by decide +kernel
theorem dX0_startOfRow_27 : decode cX0_startOfRow 27 = .ok (.invokevirtual 102, 3) := by decide +kernel
theorem dX0_startOfRow_30 : decode cX0_startOfRow 30 = .ok (.ifCond .eq 38, 3) := by decide +kernel
theorem dX0_startOfRow_33 : decode cX0_startOfRow 33 = .ok (.aload_n 0, 1) := by decide +kernel
theorem dX0_startOfRow_34 : decode cX0_startOfRow 34 = .ok (.iload 4, 2) := by decide +kernel
theorem dX0_startOfRow_36 : decode cX0_startOfRow 36 = .ok (.iload_n 1, 1) := by decide +kernel
theorem dX0_startOfRow_37 : decode cX0_startOfRow 37 = .ok (.iload 5, 2) := by decide +kernel
theorem dX0_startOfRow_39 : decode cX0_startOfRow 39 = .ok (.invokevirtual 106, 3) := by decide +kernel
theorem dX0_startOfRow_42 : decode cX0_startOfRow 42 = .ok (.ifCond .eq 20, 3) := by decide +kernel
theorem dX0_startOfRow_45 : decode cX0_startOfRow 45 = .ok (.iload_n 3, 1) := by decide +kernel
theorem dX0_startOfRow_46 : decode cX0_startOfRow 46 = .ok (.iload_n 2, 1) := by decide +kernel
theorem dX0_startOfRow_47 : decode cX0_startOfRow 47 = .ok (.if_icmp .ne 12, 3) := by decide +kernel
theorem dX0_startOfRow_50 : decode cX0_startOfRow 50 = .ok (.iload 4, 2) := by decide +kernel
theorem dX0_startOfRow_52 : decode cX0_startOfRow 52 = .ok (.bipush 60, 2) := by decide +kernel
theorem dX0_startOfRow_54 : decode cX0_startOfRow 54 = .ok (.imul, 1) := by decide +kernel
theorem dX0_startOfRow_55 : decode cX0_startOfRow 55 = .ok (.iload 5, 2) := by decide +kernel
theorem dX0_startOfRow_57 : decode cX0_startOfRow 57 = .ok (.iadd, 1) := by decide +kernel
theorem dX0_startOfRow_58 : decode cX0_startOfRow 58 = .ok (.ireturn, 1) := by decide +kernel
theorem dX0_startOfRow_59 : decode cX0_startOfRow 59 = .ok (.iinc 3 1, 3) := by decide +kernel
theorem dX0_startOfRow_62 : decode cX0_startOfRow 62 = .ok (.iinc 5 1, 3) := by decide +kernel
theorem dX0_startOfRow_65 : decode cX0_startOfRow 65 = .ok (.goto (-48), 3) := by decide +kernel
theorem dX0_startOfRow_68 : decode cX0_startOfRow 68 = .ok (.iinc 4 1, 3) := by decide +kernel
theorem dX0_startOfRow_71 : decode cX0_startOfRow 71 = .ok (.goto (-66), 3) := by decide +kernel
theorem dX0_startOfRow_74 : decode cX0_startOfRow 74 = .ok (.new 91, 3) := by decide +kernel
theorem dX0_startOfRow_77 : decode cX0_startOfRow 77 = .ok (.dup, 1) := by decide +kernel
theorem dX0_startOfRow_78 : decode cX0_startOfRow 78 = .ok (.ldc 165, 2) := by decide +kernel
theorem dX0_startOfRow_80 : decode cX0_startOfRow 80 = .ok (.invokespecial 95, 3) := by decide +kernel
theorem dX0_startOfRow_83 : decode cX0_startOfRow 83 = .ok (.athrow, 1) := by decide +kernel
theorem dX0_isKept_0 : decode cX0_isKept 0 = .ok (.iload_n 1, 1) := by decide +kernel
theorem dX0_isKept_1 : decode cX0_isKept 1 = .ok (.ifCond .lt 23, 3) := by decide +kernel
theorem dX0_isKept_4 : decode cX0_isKept 4 = .ok (.iload_n 1, 1) := by decide +kernel
theorem dX0_isKept_5 : decode cX0_isKept 5 = .ok (.bipush 60, 2) := by decide +kernel
theorem dX0_isKept_7 : decode cX0_isKept 7 = .ok (.if_icmp .ge 17, 3) := by decide +kernel
theorem dX0_isKept_10 : decode cX0_isKept 10 = .ok (.aload_n 0, 1) := by decide +kernel
theorem dX0_isKept_11 : decode cX0_isKept 11 = .ok (.getfield 14, 3) := by decide +kernel
theorem dX0_isKept_14 : decode cX0_isKept 14 = .ok (.iload_n 1, 1) := by decide +kernel
theorem dX0_isKept_15 : decode cX0_isKept 15 = .ok (.iaload, 1) := by decide +kernel
theorem dX0_isKept_16 : decode cX0_isKept 16 = .ok (.iload_n 1, 1) := by decide +kernel
theorem dX0_isKept_17 : decode cX0_isKept 17 = .ok (.if_icmp .ne 7, 3) := by decide +kernel
theorem dX0_isKept_20 : decode cX0_isKept 20 = .ok (.iconst 1, 1) := by decide +kernel
theorem dX0_isKept_21 : decode cX0_isKept 21 = .ok (.goto 4, 3) := by decide +kernel
theorem dX0_isKept_24 : decode cX0_isKept 24 = .ok (.iconst 0, 1) := by decide +kernel
theorem dX0_isKept_25 : decode cX0_isKept 25 = .ok (.ireturn, 1) := by decide +kernel
theorem dX0_startsRow_0 : decode cX0_startsRow 0 = .ok (.aload_n 0, 1) := by decide +kernel
theorem dX0_startsRow_1 : decode cX0_startsRow 1 = .ok (.iload_n 1, 1) := by decide +kernel
theorem dX0_startsRow_2 : decode cX0_startsRow 2 = .ok (.iload_n 2, 1) := by decide +kernel
theorem dX0_startsRow_3 : decode cX0_startsRow 3 = .ok (.iload_n 3, 1) := by decide +kernel
theorem dX0_startsRow_4 : decode cX0_startsRow 4 = .ok (.invokevirtual 84, 3) := by decide +kernel
theorem dX0_startsRow_7 : decode cX0_startsRow 7 = .ok (.ifCond .eq 24, 3) := by decide +kernel
theorem dX0_startsRow_10 : decode cX0_startsRow 10 = .ok (.iload_n 1, 1) := by decide +kernel
theorem dX0_startsRow_11 : decode cX0_startsRow 11 = .ok (.ifCond .eq 16, 3) := by decide +kernel
theorem dX0_startsRow_14 : decode cX0_startsRow 14 = .ok (.aload_n 0, 1) := by decide +kernel
theorem dX0_startsRow_15 : decode cX0_startsRow 15 = .ok (.iload_n 1, 1) := by decide +kernel
theorem dX0_startsRow_16 : decode cX0_startsRow 16 = .ok (.iload_n 1, 1) := by decide +kernel
theorem dX0_startsRow_17 : decode cX0_startsRow 17 = .ok (.iconst 1, 1) := by decide +kernel
theorem dX0_startsRow_18 : decode cX0_startsRow 18 = .ok (.isub, 1) := by decide +kernel
theorem dX0_startsRow_19 : decode cX0_startsRow 19 = .ok (.iload_n 2, 1) := by decide +kernel
theorem dX0_startsRow_20 : decode cX0_startsRow 20 = .ok (.iload_n 3, 1) := by decide +kernel
theorem dX0_startsRow_21 : decode cX0_startsRow 21 = .ok (.invokevirtual 118, 3) := by decide +kernel
theorem dX0_startsRow_24 : decode cX0_startsRow 24 = .ok (.ifCond .ne 7, 3) := by decide +kernel
theorem dX0_startsRow_27 : decode cX0_startsRow 27 = .ok (.iconst 1, 1) := by decide +kernel
theorem dX0_startsRow_28 : decode cX0_startsRow 28 = .ok (.goto 4, 3) := by decide +kernel
theorem dX0_startsRow_31 : decode cX0_startsRow 31 = .ok (.iconst 0, 1) := by decide +kernel
theorem dX0_startsRow_32 : decode cX0_startsRow 32 = .ok (.ireturn, 1) := by decide +kernel
theorem dX0_sameRun_0 : decode cX0_sameRun 0 = .ok (.aload_n 0, 1) := by decide +kernel
theorem dX0_sameRun_1 : decode cX0_sameRun 1 = .ok (.iload_n 2, 1) := by decide +kernel
theorem dX0_sameRun_2 : decode cX0_sameRun 2 = .ok (.iload_n 3, 1) := by decide +kernel
theorem dX0_sameRun_3 : decode cX0_sameRun 3 = .ok (.iload 4, 2) := by decide +kernel
theorem dX0_sameRun_5 : decode cX0_sameRun 5 = .ok (.invokevirtual 84, 3) := by decide +kernel
theorem dX0_sameRun_8 : decode cX0_sameRun 8 = .ok (.ifCond .eq 45, 3) := by decide +kernel
theorem dX0_sameRun_11 : decode cX0_sameRun 11 = .ok (.aload_n 0, 1) := by decide +kernel
theorem dX0_sameRun_12 : decode cX0_sameRun 12 = .ok (.iload_n 2, 1) := by decide +kernel
theorem dX0_sameRun_13 : decode cX0_sameRun 13 = .ok (.iload_n 3, 1) := by decide +kernel
theorem dX0_sameRun_14 : decode cX0_sameRun 14 = .ok (.iload 4, 2) := by decide +kernel
theorem dX0_sameRun_16 : decode cX0_sameRun 16 = .ok (.invokevirtual 77, 3) := by decide +kernel
theorem dX0_sameRun_19 : decode cX0_sameRun 19 = .ok (.aload_n 0, 1) := by decide +kernel
theorem dX0_sameRun_20 : decode cX0_sameRun 20 = .ok (.iload_n 1, 1) := by decide +kernel
theorem dX0_sameRun_21 : decode cX0_sameRun 21 = .ok (.iload_n 3, 1) := by decide +kernel
theorem dX0_sameRun_22 : decode cX0_sameRun 22 = .ok (.iload 4, 2) := by decide +kernel
theorem dX0_sameRun_24 : decode cX0_sameRun 24 = .ok (.invokevirtual 77, 3) := by decide +kernel
theorem dX0_sameRun_27 : decode cX0_sameRun 27 = .ok (.if_icmp .ne 26, 3) := by decide +kernel
theorem dX0_sameRun_30 : decode cX0_sameRun 30 = .ok (.aload_n 0, 1) := by decide +kernel
theorem dX0_sameRun_31 : decode cX0_sameRun 31 = .ok (.iload_n 2, 1) := by decide +kernel
theorem dX0_sameRun_32 : decode cX0_sameRun 32 = .ok (.iload_n 3, 1) := by decide +kernel
theorem dX0_sameRun_33 : decode cX0_sameRun 33 = .ok (.iload 4, 2) := by decide +kernel
theorem dX0_sameRun_35 : decode cX0_sameRun 35 = .ok (.invokevirtual 124, 3) := by decide +kernel
theorem dX0_sameRun_38 : decode cX0_sameRun 38 = .ok (.aload_n 0, 1) := by decide +kernel
theorem dX0_sameRun_39 : decode cX0_sameRun 39 = .ok (.iload_n 1, 1) := by decide +kernel
theorem dX0_sameRun_40 : decode cX0_sameRun 40 = .ok (.iload_n 3, 1) := by decide +kernel
theorem dX0_sameRun_41 : decode cX0_sameRun 41 = .ok (.iload 4, 2) := by decide +kernel
theorem dX0_sameRun_43 : decode cX0_sameRun 43 = .ok (.invokevirtual 124, 3) := by decide +kernel
theorem dX0_sameRun_46 : decode cX0_sameRun 46 = .ok (.if_icmp .ne 7, 3) := by decide +kernel
theorem dX0_sameRun_49 : decode cX0_sameRun 49 = .ok (.iconst 1, 1) := by decide +kernel
theorem dX0_sameRun_50 : decode cX0_sameRun 50 = .ok (.goto 4, 3) := by decide +kernel
theorem dX0_sameRun_53 : decode cX0_sameRun 53 = .ok (.iconst 0, 1) := by decide +kernel
theorem dX0_sameRun_54 : decode cX0_sameRun 54 = .ok (.ireturn, 1) := by decide +kernel
theorem dX1_init_0 : decode cX1_init 0 = .ok (.aload_n 0, 1) := by decide +kernel
theorem dX1_init_1 : decode cX1_init 1 = .ok (.invokespecial 1, 3) := by decide +kernel
theorem dX1_init_4 : decode cX1_init 4 = .ok (.aload_n 0, 1) := by decide +kernel
theorem dX1_init_5 : decode cX1_init 5 = .ok (.ldc 7, 2) := by decide +kernel
theorem dX1_init_7 : decode cX1_init 7 = .ok (.newarray .int, 2) := by decide +kernel
theorem dX1_init_9 : decode cX1_init 9 = .ok (.putfield 8, 3) := by decide +kernel
theorem dX1_init_12 : decode cX1_init 12 = .ok (.return_, 1) := by decide +kernel
theorem dX1_thrown_0 : decode cX1_thrown 0 = .ok (.aload_n 0, 1) := by decide +kernel
theorem dX1_thrown_1 : decode cX1_thrown 1 = .ok (.getfield 14, 3) := by decide +kernel
theorem dX1_thrown_4 : decode cX1_thrown 4 = .ok (.ireturn, 1) := by decide +kernel
theorem dX1_holds_0 : decode cX1_holds 0 = .ok (.aload_n 0, 1) := by decide +kernel
theorem dX1_holds_1 : decode cX1_holds 1 = .ok (.iload_n 1, 1) := by decide +kernel
theorem dX1_holds_2 : decode cX1_holds 2 = .ok (.putfield 14, 3) := by decide +kernel
theorem dX1_holds_5 : decode cX1_holds 5 = .ok (.iload_n 1, 1) := by decide +kernel
theorem dX1_holds_6 : decode cX1_holds 6 = .ok (.ifCond .ne 7, 3) := by decide +kernel
theorem dX1_holds_9 : decode cX1_holds 9 = .ok (.iconst 1, 1) := by decide +kernel
theorem dX1_holds_10 : decode cX1_holds 10 = .ok (.goto 4, 3) := by decide +kernel
theorem dX1_holds_13 : decode cX1_holds 13 = .ok (.iconst 0, 1) := by decide +kernel
theorem dX1_holds_14 : decode cX1_holds 14 = .ok (.ireturn, 1) := by decide +kernel
theorem dX1_in_0 : decode cX1_in 0 = .ok (.iload_n 0, 1) := by decide +kernel
theorem dX1_in_1 : decode cX1_in 1 = .ok (.iload_n 1, 1) := by decide +kernel
theorem dX1_in_2 : decode cX1_in 2 = .ok (.if_icmp .lt 12, 3) := by decide +kernel
theorem dX1_in_5 : decode cX1_in 5 = .ok (.iload_n 0, 1) := by decide +kernel
theorem dX1_in_6 : decode cX1_in 6 = .ok (.iload_n 2, 1) := by decide +kernel
theorem dX1_in_7 : decode cX1_in 7 = .ok (.if_icmp .gt 7, 3) := by decide +kernel
theorem dX1_in_10 : decode cX1_in 10 = .ok (.iconst 1, 1) := by decide +kernel
theorem dX1_in_11 : decode cX1_in 11 = .ok (.goto 4, 3) := by decide +kernel
theorem dX1_in_14 : decode cX1_in 14 = .ok (.iconst 0, 1) := by decide +kernel
theorem dX1_in_15 : decode cX1_in 15 = .ok (.ireturn, 1) := by decide +kernel
theorem dX1_isKey_0 : decode cX1_isKey 0 = .ok (.iload_n 0, 1) := by decide +kernel
theorem dX1_isKey_1 : decode cX1_isKey 1 = .ok (.iconst 0, 1) := by decide +kernel
theorem dX1_isKey_2 : decode cX1_isKey 2 = .ok (.iconst 1, 1) := by decide +kernel
theorem dX1_isKey_3 : decode cX1_isKey 3 = .ok (.invokestatic 18, 3) := by decide +kernel
theorem dX1_isKey_6 : decode cX1_isKey 6 = .ok (.ifCond .eq 17, 3) := by decide +kernel
theorem dX1_isKey_9 : decode cX1_isKey 9 = .ok (.iload_n 1, 1) := by decide +kernel
theorem dX1_isKey_10 : decode cX1_isKey 10 = .ok (.iconst 0, 1) := by decide +kernel
theorem dX1_isKey_11 : decode cX1_isKey 11 = .ok (.bipush 7, 2) := by decide +kernel
theorem dX1_isKey_13 : decode cX1_isKey 13 = .ok (.invokestatic 18, 3) := by decide +kernel
theorem dX1_isKey_16 : decode cX1_isKey 16 = .ok (.ifCond .eq 7, 3) := by decide +kernel
theorem dX1_isKey_19 : decode cX1_isKey 19 = .ok (.iconst 1, 1) := by decide +kernel
theorem dX1_isKey_20 : decode cX1_isKey 20 = .ok (.goto 4, 3) := by decide +kernel
theorem dX1_isKey_23 : decode cX1_isKey 23 = .ok (.iconst 0, 1) := by decide +kernel
theorem dX1_isKey_24 : decode cX1_isKey 24 = .ok (.ireturn, 1) := by decide +kernel
theorem dX1_isDay_0 : decode cX1_isDay 0 = .ok (.iload_n 0, 1) := by decide +kernel
theorem dX1_isDay_1 : decode cX1_isDay 1 = .ok (.iconst 0, 1) := by decide +kernel
theorem dX1_isDay_2 : decode cX1_isDay 2 = .ok (.bipush 59, 2) := by decide +kernel
theorem dX1_isDay_4 : decode cX1_isDay 4 = .ok (.invokestatic 18, 3) := by decide +kernel
theorem dX1_isDay_7 : decode cX1_isDay 7 = .ok (.ireturn, 1) := by decide +kernel
theorem dX1_isSpan_0 : decode cX1_isSpan 0 = .ok (.iload_n 0, 1) := by decide +kernel
theorem dX1_isSpan_1 : decode cX1_isSpan 1 = .ok (.invokestatic 22, 3) := by decide +kernel
theorem dX1_isSpan_4 : decode cX1_isSpan 4 = .ok (.ifCond .eq 19, 3) := by decide +kernel
theorem dX1_isSpan_7 : decode cX1_isSpan 7 = .ok (.iload_n 1, 1) := by decide +kernel
theorem dX1_isSpan_8 : decode cX1_isSpan 8 = .ok (.iload_n 0, 1) := by decide +kernel
theorem dX1_isSpan_9 : decode cX1_isSpan 9 = .ok (.iconst 1, 1) := by decide +kernel
theorem dX1_isSpan_10 : decode cX1_isSpan 10 = .ok (.iadd, 1) := by decide +kernel
theorem dX1_isSpan_11 : decode cX1_isSpan 11 = .ok (.bipush 60, 2) := by decide +kernel
theorem dX1_isSpan_13 : decode cX1_isSpan 13 = .ok (.invokestatic 18, 3) := by decide +kernel
theorem dX1_isSpan_16 : decode cX1_isSpan 16 = .ok (.ifCond .eq 7, 3) := by decide +kernel
theorem dX1_isSpan_19 : decode cX1_isSpan 19 = .ok (.iconst 1, 1) := by decide +kernel
theorem dX1_isSpan_20 : decode cX1_isSpan 20 = .ok (.goto 4, 3) := by decide +kernel
theorem dX1_isSpan_23 : decode cX1_isSpan 23 = .ok (.iconst 0, 1) := by decide +kernel
theorem dX1_isSpan_24 : decode cX1_isSpan 24 = .ok (.ireturn, 1) := by decide +kernel
theorem dX1_place_0 : decode cX1_place 0 = .ok (.iconst 2, 1) := by decide +kernel
theorem dX1_place_1 : decode cX1_place 1 = .ok (.iload_n 0, 1) := by decide +kernel
theorem dX1_place_2 : decode cX1_place 2 = .ok (.imul, 1) := by decide +kernel
theorem dX1_place_3 : decode cX1_place 3 = .ok (.iload_n 1, 1) := by decide +kernel
theorem dX1_place_4 : decode cX1_place 4 = .ok (.iadd, 1) := by decide +kernel
theorem dX1_place_5 : decode cX1_place 5 = .ok (.bipush 8, 2) := by decide +kernel
theorem dX1_place_7 : decode cX1_place 7 = .ok (.imul, 1) := by decide +kernel
theorem dX1_place_8 : decode cX1_place 8 = .ok (.iload_n 2, 1) := by decide +kernel
theorem dX1_place_9 : decode cX1_place 9 = .ok (.iadd, 1) := by decide +kernel
theorem dX1_place_10 : decode cX1_place 10 = .ok (.bipush 60, 2) := by decide +kernel
theorem dX1_place_12 : decode cX1_place 12 = .ok (.imul, 1) := by decide +kernel
theorem dX1_place_13 : decode cX1_place 13 = .ok (.iload_n 3, 1) := by decide +kernel
theorem dX1_place_14 : decode cX1_place 14 = .ok (.iadd, 1) := by decide +kernel
theorem dX1_place_15 : decode cX1_place 15 = .ok (.ireturn, 1) := by decide +kernel
theorem dX1_of_0 : decode cX1_of 0 = .ok (.aload_n 0, 1) := by decide +kernel
theorem dX1_of_1 : decode cX1_of 1 = .ok (.getfield 8, 3) := by decide +kernel
theorem dX1_of_4 : decode cX1_of 4 = .ok (.iload_n 1, 1) := by decide +kernel
theorem dX1_of_5 : decode cX1_of 5 = .ok (.iload_n 2, 1) := by decide +kernel
theorem dX1_of_6 : decode cX1_of 6 = .ok (.iload_n 3, 1) := by decide +kernel
theorem dX1_of_7 : decode cX1_of 7 = .ok (.iload 4, 2) := by decide +kernel
theorem dX1_of_9 : decode cX1_of 9 = .ok (.invokestatic 26, 3) := by decide +kernel
theorem dX1_of_12 : decode cX1_of 12 = .ok (.iaload, 1) := by decide +kernel
theorem dX1_of_13 : decode cX1_of 13 = .ok (.iconst 1, 1) := by decide +kernel
theorem dX1_of_14 : decode cX1_of 14 = .ok (.isub, 1) := by decide +kernel
theorem dX1_of_15 : decode cX1_of 15 = .ok (.ireturn, 1) := by decide +kernel
theorem dX1_isReferred_0 : decode cX1_isReferred 0 = .ok (.iconst 0, 1) := by decide +kernel
theorem dX1_isReferred_1 : decode cX1_isReferred 1 = .ok (.istore_n 3, 1) := by decide +kernel
theorem dX1_isReferred_2 : decode cX1_isReferred 2 = .ok (.iload_n 3, 1) := by decide +kernel
theorem dX1_isReferred_3 : decode cX1_isReferred 3 = .ok (.bipush 8, 2) := by decide +kernel
theorem dX1_isReferred_5 : decode cX1_isReferred 5 = .ok (.if_icmp .ge 26, 3) := by decide +kernel
theorem dX1_isReferred_8 : decode cX1_isReferred 8 = .ok (.aload_n 0, 1) := by decide +kernel
theorem dX1_isReferred_9 : decode cX1_isReferred 9 = .ok (.aload_n 0, 1) := by decide +kernel
theorem dX1_isReferred_10 : decode cX1_isReferred 10 = .ok (.getfield 30, 3) := by decide +kernel
theorem dX1_isReferred_13 : decode cX1_isReferred 13 = .ok (.iconst 1, 1) := by decide +kernel
theorem dX1_isReferred_14 : decode cX1_isReferred 14 = .ok (.iload_n 3, 1) := by decide +kernel
theorem dX1_isReferred_15 : decode cX1_isReferred 15 = .ok (.iload_n 2, 1) := by decide +kernel
theorem dX1_isReferred_16 : decode cX1_isReferred 16 = .ok (.invokevirtual 33, 3) := by decide +kernel
theorem dX1_isReferred_19 : decode cX1_isReferred 19 = .ok (.iload_n 1, 1) := by decide +kernel
theorem dX1_isReferred_20 : decode cX1_isReferred 20 = .ok (.if_icmp .ne 5, 3) := by decide +kernel
theorem dX1_isReferred_23 : decode cX1_isReferred 23 = .ok (.iconst 1, 1) := by decide +kernel
theorem dX1_isReferred_24 : decode cX1_isReferred 24 = .ok (.ireturn, 1) := by decide +kernel
theorem dX1_isReferred_25 : decode cX1_isReferred 25 = .ok (.iinc 3 1, 3) := by decide +kernel
theorem dX1_isReferred_28 : decode cX1_isReferred 28 = .ok (.goto (-26), 3) := by decide +kernel
theorem dX1_isReferred_31 : decode cX1_isReferred 31 = .ok (.iconst 0, 1) := by decide +kernel
theorem dX1_isReferred_32 : decode cX1_isReferred 32 = .ok (.ireturn, 1) := by decide +kernel
theorem dX1_may_0 : decode cX1_may 0 = .ok (.iload_n 1, 1) := by decide +kernel
theorem dX1_may_1 : decode cX1_may 1 = .ok (.ifCond .ne 26, 3) := by decide +kernel
theorem dX1_may_4 : decode cX1_may 4 = .ok (.iload_n 3, 1) := by decide +kernel
theorem dX1_may_5 : decode cX1_may 5 = .ok (.iconst (-1), 1) := by decide +kernel
theorem dX1_may_6 : decode cX1_may 6 = .ok (.if_icmp .ne 13, 3) := by decide +kernel
theorem dX1_may_9 : decode cX1_may 9 = .ok (.aload_n 0, 1) := by decide +kernel
theorem dX1_may_10 : decode cX1_may 10 = .ok (.iload_n 2, 1) := by decide +kernel
theorem dX1_may_11 : decode cX1_may 11 = .ok (.iload 4, 2) := by decide +kernel
theorem dX1_may_13 : decode cX1_may 13 = .ok (.invokevirtual 36, 3) := by decide +kernel
theorem dX1_may_16 : decode cX1_may 16 = .ok (.ifCond .ne 7, 3) := by decide +kernel
theorem dX1_may_19 : decode cX1_may 19 = .ok (.iconst 1, 1) := by decide +kernel
theorem dX1_may_20 : decode cX1_may 20 = .ok (.goto 33, 3) := by decide +kernel
theorem dX1_may_23 : decode cX1_may 23 = .ok (.iconst 0, 1) := by decide +kernel
theorem dX1_may_24 : decode cX1_may 24 = .ok (.goto 29, 3) := by decide +kernel
theorem dX1_may_27 : decode cX1_may 27 = .ok (.iload_n 3, 1) := by decide +kernel
theorem dX1_may_28 : decode cX1_may 28 = .ok (.iconst (-1), 1) := by decide +kernel
theorem dX1_may_29 : decode cX1_may 29 = .ok (.if_icmp .eq 19, 3) := by decide +kernel
theorem dX1_may_32 : decode cX1_may 32 = .ok (.aload_n 0, 1) := by decide +kernel
theorem dX1_may_33 : decode cX1_may 33 = .ok (.aload_n 0, 1) := by decide +kernel
theorem dX1_may_34 : decode cX1_may 34 = .ok (.getfield 30, 3) := by decide +kernel
theorem dX1_may_37 : decode cX1_may 37 = .ok (.iconst 0, 1) := by decide +kernel
theorem dX1_may_38 : decode cX1_may 38 = .ok (.iload_n 3, 1) := by decide +kernel
theorem dX1_may_39 : decode cX1_may 39 = .ok (.iload 4, 2) := by decide +kernel
theorem dX1_may_41 : decode cX1_may 41 = .ok (.invokevirtual 33, 3) := by decide +kernel
theorem dX1_may_44 : decode cX1_may 44 = .ok (.iconst (-1), 1) := by decide +kernel
theorem dX1_may_45 : decode cX1_may 45 = .ok (.if_icmp .eq 7, 3) := by decide +kernel
theorem dX1_may_48 : decode cX1_may 48 = .ok (.iconst 1, 1) := by decide +kernel
theorem dX1_may_49 : decode cX1_may 49 = .ok (.goto 4, 3) := by decide +kernel
theorem dX1_may_52 : decode cX1_may 52 = .ok (.iconst 0, 1) := by decide +kernel
theorem dX1_may_53 : decode cX1_may 53 = .ok (.ireturn, 1) := by decide +kernel
theorem dX1_mayAll_0 : decode cX1_mayAll 0 = .ok (.iload 4, 2) := by decide +kernel
theorem dX1_mayAll_2 : decode cX1_mayAll 2 = .ok (.istore 6, 2) := by decide +kernel
theorem dX1_mayAll_4 : decode cX1_mayAll 4 = .ok (.iload 6, 2) := by decide +kernel
theorem dX1_mayAll_6 : decode cX1_mayAll 6 = .ok (.iload 5, 2) := by decide +kernel
theorem dX1_mayAll_8 : decode cX1_mayAll 8 = .ok (.if_icmp .ge 23, 3) := by decide +kernel
theorem dX1_mayAll_11 : decode cX1_mayAll 11 = .ok (.aload_n 0, 1) := by decide +kernel
theorem dX1_mayAll_12 : decode cX1_mayAll 12 = .ok (.iload_n 1, 1) := by decide +kernel
theorem dX1_mayAll_13 : decode cX1_mayAll 13 = .ok (.iload_n 2, 1) := by decide +kernel
theorem dX1_mayAll_14 : decode cX1_mayAll 14 = .ok (.iload_n 3, 1) := by decide +kernel
theorem dX1_mayAll_15 : decode cX1_mayAll 15 = .ok (.iload 6, 2) := by decide +kernel
theorem dX1_mayAll_17 : decode cX1_mayAll 17 = .ok (.invokevirtual 40, 3) := by decide +kernel
theorem dX1_mayAll_20 : decode cX1_mayAll 20 = .ok (.ifCond .ne 5, 3) := by decide +kernel
theorem dX1_mayAll_23 : decode cX1_mayAll 23 = .ok (.iconst 0, 1) := by decide +kernel
theorem dX1_mayAll_24 : decode cX1_mayAll 24 = .ok (.ireturn, 1) := by decide +kernel
theorem dX1_mayAll_25 : decode cX1_mayAll 25 = .ok (.iinc 6 1, 3) := by decide +kernel
theorem dX1_mayAll_28 : decode cX1_mayAll 28 = .ok (.goto (-24), 3) := by decide +kernel
theorem dX1_mayAll_31 : decode cX1_mayAll 31 = .ok (.iconst 1, 1) := by decide +kernel
theorem dX1_mayAll_32 : decode cX1_mayAll 32 = .ok (.ireturn, 1) := by decide +kernel
theorem dX1_sets_0 : decode cX1_sets 0 = .ok (.aload_n 0, 1) := by decide +kernel
theorem dX1_sets_1 : decode cX1_sets 1 = .ok (.getfield 30, 3) := by decide +kernel
theorem dX1_sets_4 : decode cX1_sets 4 = .ok (.iload_n 1, 1) := by decide +kernel
theorem dX1_sets_5 : decode cX1_sets 5 = .ok (.iload_n 2, 1) := by decide +kernel
theorem dX1_sets_6 : decode cX1_sets 6 = .ok (.iload 4, 2) := by decide +kernel
theorem dX1_sets_8 : decode cX1_sets 8 = .ok (.invokestatic 26, 3) := by decide +kernel
theorem dX1_sets_11 : decode cX1_sets 11 = .ok (.istore 5, 2) := by decide +kernel
theorem dX1_sets_13 : decode cX1_sets 13 = .ok (.aload_n 0, 1) := by decide +kernel
theorem dX1_sets_14 : decode cX1_sets 14 = .ok (.getfield 8, 3) := by decide +kernel
theorem dX1_sets_17 : decode cX1_sets 17 = .ok (.iload 5, 2) := by decide +kernel
theorem dX1_sets_19 : decode cX1_sets 19 = .ok (.iaload, 1) := by decide +kernel
theorem dX1_sets_20 : decode cX1_sets 20 = .ok (.iload_n 3, 1) := by decide +kernel
theorem dX1_sets_21 : decode cX1_sets 21 = .ok (.iconst 1, 1) := by decide +kernel
theorem dX1_sets_22 : decode cX1_sets 22 = .ok (.iadd, 1) := by decide +kernel
theorem dX1_sets_23 : decode cX1_sets 23 = .ok (.if_icmp .eq 7, 3) := by decide +kernel
theorem dX1_sets_26 : decode cX1_sets 26 = .ok (.iconst 1, 1) := by decide +kernel
theorem dX1_sets_27 : decode cX1_sets 27 = .ok (.goto 4, 3) := by decide +kernel
theorem dX1_sets_30 : decode cX1_sets 30 = .ok (.iconst 0, 1) := by decide +kernel
theorem dX1_sets_31 : decode cX1_sets 31 = .ok (.istore 6, 2) := by decide +kernel
theorem dX1_sets_33 : decode cX1_sets 33 = .ok (.aload_n 0, 1) := by decide +kernel
theorem dX1_sets_34 : decode cX1_sets 34 = .ok (.getfield 8, 3) := by decide +kernel
theorem dX1_sets_37 : decode cX1_sets 37 = .ok (.iload 5, 2) := by decide +kernel
theorem dX1_sets_39 : decode cX1_sets 39 = .ok (.iload_n 3, 1) := by decide +kernel
theorem dX1_sets_40 : decode cX1_sets 40 = .ok (.iconst 1, 1) := by decide +kernel
theorem dX1_sets_41 : decode cX1_sets 41 = .ok (.iadd, 1) := by decide +kernel
theorem dX1_sets_42 : decode cX1_sets 42 = .ok (.iastore, 1) := by decide +kernel
theorem dX1_sets_43 : decode cX1_sets 43 = .ok (.iload 6, 2) := by decide +kernel
theorem dX1_sets_45 : decode cX1_sets 45 = .ok (.ifCond .eq 7, 3) := by decide +kernel
theorem dX1_sets_48 : decode cX1_sets 48 = .ok (.iconst 1, 1) := by decide +kernel
theorem dX1_sets_49 : decode cX1_sets 49 = .ok (.goto 4, 3) := by decide +kernel
theorem dX1_sets_52 : decode cX1_sets 52 = .ok (.iconst 0, 1) := by decide +kernel
theorem dX1_sets_53 : decode cX1_sets 53 = .ok (.ireturn, 1) := by decide +kernel
theorem dX1_setsAll_0 : decode cX1_setsAll 0 = .ok (.iconst 0, 1) := by decide +kernel
theorem dX1_setsAll_1 : decode cX1_setsAll 1 = .ok (.istore 6, 2) := by decide +kernel
theorem dX1_setsAll_3 : decode cX1_setsAll 3 = .ok (.iload 4, 2) := by decide +kernel
theorem dX1_setsAll_5 : decode cX1_setsAll 5 = .ok (.istore 7, 2) := by decide +kernel
theorem dX1_setsAll_7 : decode cX1_setsAll 7 = .ok (.iload 7, 2) := by decide +kernel
theorem dX1_setsAll_9 : decode cX1_setsAll 9 = .ok (.iload 5, 2) := by decide +kernel
theorem dX1_setsAll_11 : decode cX1_setsAll 11 = .ok (.if_icmp .ge 23, 3) := by decide +kernel
theorem dX1_setsAll_14 : decode cX1_setsAll 14 = .ok (.iload 6, 2) := by decide +kernel
theorem dX1_setsAll_16 : decode cX1_setsAll 16 = .ok (.aload_n 0, 1) := by decide +kernel
theorem dX1_setsAll_17 : decode cX1_setsAll 17 = .ok (.iload_n 1, 1) := by decide +kernel
theorem dX1_setsAll_18 : decode cX1_setsAll 18 = .ok (.iload_n 2, 1) := by decide +kernel
theorem dX1_setsAll_19 : decode cX1_setsAll 19 = .ok (.iload_n 3, 1) := by decide +kernel
theorem dX1_setsAll_20 : decode cX1_setsAll 20 = .ok (.iload 7, 2) := by decide +kernel
theorem dX1_setsAll_22 : decode cX1_setsAll 22 = .ok (.invokevirtual 44, 3) := by decide +kernel
theorem dX1_setsAll_25 : decode cX1_setsAll 25 = .ok (.iadd, 1) := by decide +kernel
theorem dX1_setsAll_26 : decode cX1_setsAll 26 = .ok (.istore 6, 2) := by decide +kernel
theorem dX1_setsAll_28 : decode cX1_setsAll 28 = .ok (.iinc 7 1, 3) := by decide +kernel
theorem dX1_setsAll_31 : decode cX1_setsAll 31 = .ok (.goto (-24), 3) := by decide +kernel
theorem dX1_setsAll_34 : decode cX1_setsAll 34 = .ok (.iload 6, 2) := by decide +kernel
theorem dX1_setsAll_36 : decode cX1_setsAll 36 = .ok (.ireturn, 1) := by decide +kernel
theorem dX1_put_0 : decode cX1_put 0 = .ok (.iload_n 1, 1) := by decide +kernel
theorem dX1_put_1 : decode cX1_put 1 = .ok (.iload_n 2, 1) := by decide +kernel
theorem dX1_put_2 : decode cX1_put 2 = .ok (.invokestatic 47, 3) := by decide +kernel
theorem dX1_put_5 : decode cX1_put 5 = .ok (.ifCond .eq 36, 3) := by decide +kernel
theorem dX1_put_8 : decode cX1_put 8 = .ok (.iload_n 3, 1) := by decide +kernel
theorem dX1_put_9 : decode cX1_put 9 = .ok (.iconst 0, 1) := by decide +kernel
theorem dX1_put_10 : decode cX1_put 10 = .ok (.iload_n 1, 1) := by decide +kernel
theorem dX1_put_11 : decode cX1_put 11 = .ok (.ifCond .ne 8, 3) := by decide +kernel
theorem dX1_put_14 : decode cX1_put 14 = .ok (.bipush 99, 2) := by decide +kernel
theorem dX1_put_16 : decode cX1_put 16 = .ok (.goto 5, 3) := by decide +kernel
theorem dX1_put_19 : decode cX1_put 19 = .ok (.bipush 7, 2) := by decide +kernel
theorem dX1_put_21 : decode cX1_put 21 = .ok (.invokestatic 18, 3) := by decide +kernel
theorem dX1_put_24 : decode cX1_put 24 = .ok (.ifCond .eq 17, 3) := by decide +kernel
theorem dX1_put_27 : decode cX1_put 27 = .ok (.iload 4, 2) := by decide +kernel
theorem dX1_put_29 : decode cX1_put 29 = .ok (.iload 5, 2) := by decide +kernel
theorem dX1_put_31 : decode cX1_put 31 = .ok (.invokestatic 50, 3) := by decide +kernel
theorem dX1_put_34 : decode cX1_put 34 = .ok (.ifCond .eq 7, 3) := by decide +kernel
theorem dX1_put_37 : decode cX1_put 37 = .ok (.iconst 1, 1) := by decide +kernel
theorem dX1_put_38 : decode cX1_put 38 = .ok (.goto 4, 3) := by decide +kernel
theorem dX1_put_41 : decode cX1_put 41 = .ok (.iconst 0, 1) := by decide +kernel
theorem dX1_put_42 : decode cX1_put 42 = .ok (.istore 6, 2) := by decide +kernel
theorem dX1_put_44 : decode cX1_put 44 = .ok (.aload_n 0, 1) := by decide +kernel
theorem dX1_put_45 : decode cX1_put 45 = .ok (.iload 6, 2) := by decide +kernel
theorem dX1_put_47 : decode cX1_put 47 = .ok (.ifCond .ne 7, 3) := by decide +kernel
theorem dX1_put_50 : decode cX1_put 50 = .ok (.iconst 1, 1) := by decide +kernel
theorem dX1_put_51 : decode cX1_put 51 = .ok (.goto 22, 3) := by decide +kernel
theorem dX1_put_54 : decode cX1_put 54 = .ok (.aload_n 0, 1) := by decide +kernel
theorem dX1_put_55 : decode cX1_put 55 = .ok (.iload_n 1, 1) := by decide +kernel
theorem dX1_put_56 : decode cX1_put 56 = .ok (.iload_n 2, 1) := by decide +kernel
theorem dX1_put_57 : decode cX1_put 57 = .ok (.iload_n 3, 1) := by decide +kernel
theorem dX1_put_58 : decode cX1_put 58 = .ok (.iload 4, 2) := by decide +kernel
theorem dX1_put_60 : decode cX1_put 60 = .ok (.iload 5, 2) := by decide +kernel
theorem dX1_put_62 : decode cX1_put 62 = .ok (.invokevirtual 53, 3) := by decide +kernel
theorem dX1_put_65 : decode cX1_put 65 = .ok (.ifCond .eq 7, 3) := by decide +kernel
theorem dX1_put_68 : decode cX1_put 68 = .ok (.iconst 0, 1) := by decide +kernel
theorem dX1_put_69 : decode cX1_put 69 = .ok (.goto 4, 3) := by decide +kernel
theorem dX1_put_72 : decode cX1_put 72 = .ok (.iconst 2, 1) := by decide +kernel
theorem dX1_put_73 : decode cX1_put 73 = .ok (.invokevirtual 57, 3) := by decide +kernel
theorem dX1_put_76 : decode cX1_put 76 = .ok (.ifCond .eq 17, 3) := by decide +kernel
theorem dX1_put_79 : decode cX1_put 79 = .ok (.aload_n 0, 1) := by decide +kernel
theorem dX1_put_80 : decode cX1_put 80 = .ok (.iload_n 1, 1) := by decide +kernel
theorem dX1_put_81 : decode cX1_put 81 = .ok (.iload_n 2, 1) := by decide +kernel
theorem dX1_put_82 : decode cX1_put 82 = .ok (.iload_n 3, 1) := by decide +kernel
theorem dX1_put_83 : decode cX1_put 83 = .ok (.iload 4, 2) := by decide +kernel
theorem dX1_put_85 : decode cX1_put 85 = .ok (.iload 5, 2) := by decide +kernel
theorem dX1_put_87 : decode cX1_put 87 = .ok (.invokevirtual 60, 3) := by decide +kernel
theorem dX1_put_90 : decode cX1_put 90 = .ok (.goto 4, 3) := by decide +kernel
theorem dX1_put_93 : decode cX1_put 93 = .ok (.iconst 0, 1) := by decide +kernel
theorem dX1_put_94 : decode cX1_put 94 = .ok (.ireturn, 1) := by decide +kernel
theorem dX1_erase_0 : decode cX1_erase 0 = .ok (.iload_n 1, 1) := by decide +kernel
theorem dX1_erase_1 : decode cX1_erase 1 = .ok (.iload_n 2, 1) := by decide +kernel
theorem dX1_erase_2 : decode cX1_erase 2 = .ok (.invokestatic 47, 3) := by decide +kernel
theorem dX1_erase_5 : decode cX1_erase 5 = .ok (.ifCond .eq 16, 3) := by decide +kernel
theorem dX1_erase_8 : decode cX1_erase 8 = .ok (.iload_n 3, 1) := by decide +kernel
theorem dX1_erase_9 : decode cX1_erase 9 = .ok (.iload 4, 2) := by decide +kernel
theorem dX1_erase_11 : decode cX1_erase 11 = .ok (.invokestatic 50, 3) := by decide +kernel
theorem dX1_erase_14 : decode cX1_erase 14 = .ok (.ifCond .eq 7, 3) := by decide +kernel
theorem dX1_erase_17 : decode cX1_erase 17 = .ok (.iconst 1, 1) := by decide +kernel
theorem dX1_erase_18 : decode cX1_erase 18 = .ok (.goto 4, 3) := by decide +kernel
theorem dX1_erase_21 : decode cX1_erase 21 = .ok (.iconst 0, 1) := by decide +kernel
theorem dX1_erase_22 : decode cX1_erase 22 = .ok (.istore 5, 2) := by decide +kernel
theorem dX1_erase_24 : decode cX1_erase 24 = .ok (.aload_n 0, 1) := by decide +kernel
theorem dX1_erase_25 : decode cX1_erase 25 = .ok (.iload 5, 2) := by decide +kernel
theorem dX1_erase_27 : decode cX1_erase 27 = .ok (.ifCond .ne 7, 3) := by decide +kernel
theorem dX1_erase_30 : decode cX1_erase 30 = .ok (.iconst 1, 1) := by decide +kernel
theorem dX1_erase_31 : decode cX1_erase 31 = .ok (.goto 21, 3) := by decide +kernel
theorem dX1_erase_34 : decode cX1_erase 34 = .ok (.aload_n 0, 1) := by decide +kernel
theorem dX1_erase_35 : decode cX1_erase 35 = .ok (.iload_n 1, 1) := by decide +kernel
theorem dX1_erase_36 : decode cX1_erase 36 = .ok (.iload_n 2, 1) := by decide +kernel
theorem dX1_erase_37 : decode cX1_erase 37 = .ok (.iconst (-1), 1) := by decide +kernel
theorem dX1_erase_38 : decode cX1_erase 38 = .ok (.iload_n 3, 1) := by decide +kernel
theorem dX1_erase_39 : decode cX1_erase 39 = .ok (.iload 4, 2) := by decide +kernel
theorem dX1_erase_41 : decode cX1_erase 41 = .ok (.invokevirtual 53, 3) := by decide +kernel
theorem dX1_erase_44 : decode cX1_erase 44 = .ok (.ifCond .eq 7, 3) := by decide +kernel
theorem dX1_erase_47 : decode cX1_erase 47 = .ok (.iconst 0, 1) := by decide +kernel
theorem dX1_erase_48 : decode cX1_erase 48 = .ok (.goto 4, 3) := by decide +kernel
theorem dX1_erase_51 : decode cX1_erase 51 = .ok (.iconst 2, 1) := by decide +kernel
theorem dX1_erase_52 : decode cX1_erase 52 = .ok (.invokevirtual 57, 3) := by decide +kernel
theorem dX1_erase_55 : decode cX1_erase 55 = .ok (.ifCond .eq 16, 3) := by decide +kernel
theorem dX1_erase_58 : decode cX1_erase 58 = .ok (.aload_n 0, 1) := by decide +kernel
theorem dX1_erase_59 : decode cX1_erase 59 = .ok (.iload_n 1, 1) := by decide +kernel
theorem dX1_erase_60 : decode cX1_erase 60 = .ok (.iload_n 2, 1) := by decide +kernel
theorem dX1_erase_61 : decode cX1_erase 61 = .ok (.iconst (-1), 1) := by decide +kernel
theorem dX1_erase_62 : decode cX1_erase 62 = .ok (.iload_n 3, 1) := by decide +kernel
theorem dX1_erase_63 : decode cX1_erase 63 = .ok (.iload 4, 2) := by decide +kernel
theorem dX1_erase_65 : decode cX1_erase 65 = .ok (.invokevirtual 60, 3) := by decide +kernel
theorem dX1_erase_68 : decode cX1_erase 68 = .ok (.goto 4, 3) := by decide +kernel
theorem dX1_erase_71 : decode cX1_erase 71 = .ok (.iconst 0, 1) := by decide +kernel
theorem dX1_erase_72 : decode cX1_erase 72 = .ok (.ireturn, 1) := by decide +kernel
theorem dX1_eraseAll_0 : decode cX1_eraseAll 0 = .ok (.aload_n 0, 1) := by decide +kernel
theorem dX1_eraseAll_1 : decode cX1_eraseAll 1 = .ok (.iconst 0, 1) := by decide +kernel
theorem dX1_eraseAll_2 : decode cX1_eraseAll 2 = .ok (.iload_n 1, 1) := by decide +kernel
theorem dX1_eraseAll_3 : decode cX1_eraseAll 3 = .ok (.invokestatic 47, 3) := by decide +kernel
theorem dX1_eraseAll_6 : decode cX1_eraseAll 6 = .ok (.ifCond .eq 15, 3) := by decide +kernel
theorem dX1_eraseAll_9 : decode cX1_eraseAll 9 = .ok (.iload_n 2, 1) := by decide +kernel
theorem dX1_eraseAll_10 : decode cX1_eraseAll 10 = .ok (.iload_n 3, 1) := by decide +kernel
theorem dX1_eraseAll_11 : decode cX1_eraseAll 11 = .ok (.invokestatic 50, 3) := by decide +kernel
theorem dX1_eraseAll_14 : decode cX1_eraseAll 14 = .ok (.ifCond .eq 7, 3) := by decide +kernel
theorem dX1_eraseAll_17 : decode cX1_eraseAll 17 = .ok (.iconst 0, 1) := by decide +kernel
theorem dX1_eraseAll_18 : decode cX1_eraseAll 18 = .ok (.goto 4, 3) := by decide +kernel
theorem dX1_eraseAll_21 : decode cX1_eraseAll 21 = .ok (.iconst 1, 1) := by decide +kernel
theorem dX1_eraseAll_22 : decode cX1_eraseAll 22 = .ok (.invokevirtual 57, 3) := by decide +kernel
theorem dX1_eraseAll_25 : decode cX1_eraseAll 25 = .ok (.ifCond .ne 5, 3) := by decide +kernel
theorem dX1_eraseAll_28 : decode cX1_eraseAll 28 = .ok (.iconst 0, 1) := by decide +kernel
theorem dX1_eraseAll_29 : decode cX1_eraseAll 29 = .ok (.ireturn, 1) := by decide +kernel
theorem dX1_eraseAll_30 : decode cX1_eraseAll 30 = .ok (.aload_n 0, 1) := by decide +kernel
theorem dX1_eraseAll_31 : decode cX1_eraseAll 31 = .ok (.iconst 0, 1) := by decide +kernel
theorem dX1_eraseAll_32 : decode cX1_eraseAll 32 = .ok (.iload_n 1, 1) := by decide +kernel
theorem dX1_eraseAll_33 : decode cX1_eraseAll 33 = .ok (.iconst (-1), 1) := by decide +kernel
theorem dX1_eraseAll_34 : decode cX1_eraseAll 34 = .ok (.iload_n 2, 1) := by decide +kernel
theorem dX1_eraseAll_35 : decode cX1_eraseAll 35 = .ok (.iload_n 3, 1) := by decide +kernel
theorem dX1_eraseAll_36 : decode cX1_eraseAll 36 = .ok (.invokevirtual 60, 3) := by decide +kernel
theorem dX1_eraseAll_39 : decode cX1_eraseAll 39 = .ok (.istore 4, 2) := by decide +kernel
theorem dX1_eraseAll_41 : decode cX1_eraseAll 41 = .ok (.iload_n 2, 1) := by decide +kernel
theorem dX1_eraseAll_42 : decode cX1_eraseAll 42 = .ok (.istore 5, 2) := by decide +kernel
theorem dX1_eraseAll_44 : decode cX1_eraseAll 44 = .ok (.iload 5, 2) := by decide +kernel
theorem dX1_eraseAll_46 : decode cX1_eraseAll 46 = .ok (.iload_n 3, 1) := by decide +kernel
theorem dX1_eraseAll_47 : decode cX1_eraseAll 47 = .ok (.if_icmp .ge 61, 3) := by decide +kernel
theorem dX1_eraseAll_50 : decode cX1_eraseAll 50 = .ok (.iconst 0, 1) := by decide +kernel
theorem dX1_eraseAll_51 : decode cX1_eraseAll 51 = .ok (.istore 6, 2) := by decide +kernel
theorem dX1_eraseAll_53 : decode cX1_eraseAll 53 = .ok (.iload 6, 2) := by decide +kernel
theorem dX1_eraseAll_55 : decode cX1_eraseAll 55 = .ok (.bipush 8, 2) := by decide +kernel
theorem dX1_eraseAll_57 : decode cX1_eraseAll 57 = .ok (.if_icmp .ge 45, 3) := by decide +kernel
theorem dX1_eraseAll_60 : decode cX1_eraseAll 60 = .ok (.iload 4, 2) := by decide +kernel
theorem dX1_eraseAll_62 : decode cX1_eraseAll 62 = .ok (.aload_n 0, 1) := by decide +kernel
theorem dX1_eraseAll_63 : decode cX1_eraseAll 63 = .ok (.aload_n 0, 1) := by decide +kernel
theorem dX1_eraseAll_64 : decode cX1_eraseAll 64 = .ok (.getfield 30, 3) := by decide +kernel
theorem dX1_eraseAll_67 : decode cX1_eraseAll 67 = .ok (.iconst 1, 1) := by decide +kernel
theorem dX1_eraseAll_68 : decode cX1_eraseAll 68 = .ok (.iload 6, 2) := by decide +kernel
theorem dX1_eraseAll_70 : decode cX1_eraseAll 70 = .ok (.iload 5, 2) := by decide +kernel
theorem dX1_eraseAll_72 : decode cX1_eraseAll 72 = .ok (.invokevirtual 33, 3) := by decide +kernel
theorem dX1_eraseAll_75 : decode cX1_eraseAll 75 = .ok (.iload_n 1, 1) := by decide +kernel
theorem dX1_eraseAll_76 : decode cX1_eraseAll 76 = .ok (.if_icmp .ne 16, 3) := by decide +kernel
theorem dX1_eraseAll_79 : decode cX1_eraseAll 79 = .ok (.aload_n 0, 1) := by decide +kernel
theorem dX1_eraseAll_80 : decode cX1_eraseAll 80 = .ok (.iconst 1, 1) := by decide +kernel
theorem dX1_eraseAll_81 : decode cX1_eraseAll 81 = .ok (.iload 6, 2) := by decide +kernel
theorem dX1_eraseAll_83 : decode cX1_eraseAll 83 = .ok (.iconst (-1), 1) := by decide +kernel
theorem dX1_eraseAll_84 : decode cX1_eraseAll 84 = .ok (.iload 5, 2) := by decide +kernel
theorem dX1_eraseAll_86 : decode cX1_eraseAll 86 = .ok (.invokevirtual 44, 3) := by decide +kernel
theorem dX1_eraseAll_89 : decode cX1_eraseAll 89 = .ok (.goto 4, 3) := by decide +kernel
theorem dX1_eraseAll_92 : decode cX1_eraseAll 92 = .ok (.iconst 0, 1) := by decide +kernel
theorem dX1_eraseAll_93 : decode cX1_eraseAll 93 = .ok (.iadd, 1) := by decide +kernel
theorem dX1_eraseAll_94 : decode cX1_eraseAll 94 = .ok (.istore 4, 2) := by decide +kernel
theorem dX1_eraseAll_96 : decode cX1_eraseAll 96 = .ok (.iinc 6 1, 3) := by decide +kernel
theorem dX1_eraseAll_99 : decode cX1_eraseAll 99 = .ok (.goto (-46), 3) := by decide +kernel
theorem dX1_eraseAll_102 : decode cX1_eraseAll 102 = .ok (.iinc 5 1, 3) := by decide +kernel
theorem dX1_eraseAll_105 : decode cX1_eraseAll 105 = .ok (.goto (-61), 3) := by decide +kernel
theorem dX1_eraseAll_108 : decode cX1_eraseAll 108 = .ok (.iload 4, 2) := by decide +kernel
theorem dX1_eraseAll_110 : decode cX1_eraseAll 110 = .ok (.ireturn, 1) := by decide +kernel
theorem dX1_errorOfRecord_0 : decode cX1_errorOfRecord 0 = .ok (.iload_n 1, 1) := by decide +kernel
theorem dX1_errorOfRecord_1 : decode cX1_errorOfRecord 1 = .ok (.ifCond .eq 10, 3) := by decide +kernel
theorem dX1_errorOfRecord_4 : decode cX1_errorOfRecord 4 = .ok (.iload_n 2, 1) := by decide +kernel
theorem dX1_errorOfRecord_5 : decode cX1_errorOfRecord 5 = .ok (.invokestatic 22, 3) := by decide +kernel
theorem dX1_errorOfRecord_8 : decode cX1_errorOfRecord 8 = .ok (.ifCond .ne 7, 3) := by decide +kernel
theorem dX1_errorOfRecord_11 : decode cX1_errorOfRecord 11 = .ok (.iconst 1, 1) := by decide +kernel
theorem dX1_errorOfRecord_12 : decode cX1_errorOfRecord 12 = .ok (.goto 16, 3) := by decide +kernel
theorem dX1_errorOfRecord_15 : decode cX1_errorOfRecord 15 = .ok (.iload_n 2, 1) := by decide +kernel
theorem dX1_errorOfRecord_16 : decode cX1_errorOfRecord 16 = .ok (.aload_n 0, 1) := by decide +kernel
theorem dX1_errorOfRecord_17 : decode cX1_errorOfRecord 17 = .ok (.getfield 30, 3) := by decide +kernel
theorem dX1_errorOfRecord_20 : decode cX1_errorOfRecord 20 = .ok (.if_icmp .le 7, 3) := by decide +kernel
theorem dX1_errorOfRecord_23 : decode cX1_errorOfRecord 23 = .ok (.iconst 2, 1) := by decide +kernel
theorem dX1_errorOfRecord_24 : decode cX1_errorOfRecord 24 = .ok (.goto 4, 3) := by decide +kernel
theorem dX1_errorOfRecord_27 : decode cX1_errorOfRecord 27 = .ok (.iconst 0, 1) := by decide +kernel
theorem dX1_errorOfRecord_28 : decode cX1_errorOfRecord 28 = .ok (.ireturn, 1) := by decide +kernel
theorem dX1_restore_0 : decode cX1_restore 0 = .ok (.aload_n 0, 1) := by decide +kernel
theorem dX1_restore_1 : decode cX1_restore 1 = .ok (.iload_n 1, 1) := by decide +kernel
theorem dX1_restore_2 : decode cX1_restore 2 = .ok (.iload_n 2, 1) := by decide +kernel
theorem dX1_restore_3 : decode cX1_restore 3 = .ok (.invokestatic 47, 3) := by decide +kernel
theorem dX1_restore_6 : decode cX1_restore 6 = .ok (.iload_n 3, 1) := by decide +kernel
theorem dX1_restore_7 : decode cX1_restore 7 = .ok (.invokevirtual 64, 3) := by decide +kernel
theorem dX1_restore_10 : decode cX1_restore 10 = .ok (.istore 4, 2) := by decide +kernel
theorem dX1_restore_12 : decode cX1_restore 12 = .ok (.iconst 0, 1) := by decide +kernel
theorem dX1_restore_13 : decode cX1_restore 13 = .ok (.istore 5, 2) := by decide +kernel
theorem dX1_restore_15 : decode cX1_restore 15 = .ok (.iload 5, 2) := by decide +kernel
theorem dX1_restore_17 : decode cX1_restore 17 = .ok (.bipush 60, 2) := by decide +kernel
theorem dX1_restore_19 : decode cX1_restore 19 = .ok (.if_icmp .ge 41, 3) := by decide +kernel
theorem dX1_restore_22 : decode cX1_restore 22 = .ok (.iload 4, 2) := by decide +kernel
theorem dX1_restore_24 : decode cX1_restore 24 = .ok (.ifCond .ne 36, 3) := by decide +kernel
theorem dX1_restore_27 : decode cX1_restore 27 = .ok (.aload_n 0, 1) := by decide +kernel
theorem dX1_restore_28 : decode cX1_restore 28 = .ok (.iload_n 1, 1) := by decide +kernel
theorem dX1_restore_29 : decode cX1_restore 29 = .ok (.iload_n 2, 1) := by decide +kernel
theorem dX1_restore_30 : decode cX1_restore 30 = .ok (.aload_n 0, 1) := by decide +kernel
theorem dX1_restore_31 : decode cX1_restore 31 = .ok (.iload_n 3, 1) := by decide +kernel
theorem dX1_restore_32 : decode cX1_restore 32 = .ok (.iload_n 1, 1) := by decide +kernel
theorem dX1_restore_33 : decode cX1_restore 33 = .ok (.iload_n 2, 1) := by decide +kernel
theorem dX1_restore_34 : decode cX1_restore 34 = .ok (.iload 5, 2) := by decide +kernel
theorem dX1_restore_36 : decode cX1_restore 36 = .ok (.invokevirtual 33, 3) := by decide +kernel
theorem dX1_restore_39 : decode cX1_restore 39 = .ok (.iload 5, 2) := by decide +kernel
theorem dX1_restore_41 : decode cX1_restore 41 = .ok (.invokevirtual 40, 3) := by decide +kernel
theorem dX1_restore_44 : decode cX1_restore 44 = .ok (.ifCond .eq 7, 3) := by decide +kernel
theorem dX1_restore_47 : decode cX1_restore 47 = .ok (.iconst 0, 1) := by decide +kernel
theorem dX1_restore_48 : decode cX1_restore 48 = .ok (.goto 4, 3) := by decide +kernel
theorem dX1_restore_51 : decode cX1_restore 51 = .ok (.iconst 3, 1) := by decide +kernel
theorem dX1_restore_52 : decode cX1_restore 52 = .ok (.istore 4, 2) := by decide +kernel
theorem dX1_restore_54 : decode cX1_restore 54 = .ok (.iinc 5 1, 3) := by decide +kernel
theorem dX1_restore_57 : decode cX1_restore 57 = .ok (.goto (-42), 3) := by decide +kernel
theorem dX1_restore_60 : decode cX1_restore 60 = .ok (.aload_n 0, 1) := by decide +kernel
theorem dX1_restore_61 : decode cX1_restore 61 = .ok (.iload 4, 2) := by decide +kernel
theorem dX1_restore_63 : decode cX1_restore 63 = .ok (.invokevirtual 57, 3) := by decide +kernel
theorem dX1_restore_66 : decode cX1_restore 66 = .ok (.ifCond .ne 5, 3) := by decide +kernel
theorem dX1_restore_69 : decode cX1_restore 69 = .ok (.iconst 0, 1) := by decide +kernel
theorem dX1_restore_70 : decode cX1_restore 70 = .ok (.ireturn, 1) := by decide +kernel
theorem dX1_restore_71 : decode cX1_restore 71 = .ok (.iconst 0, 1) := by decide +kernel
theorem dX1_restore_72 : decode cX1_restore 72 = .ok (.istore 5, 2) := by decide +kernel
theorem dX1_restore_74 : decode cX1_restore 74 = .ok (.iconst 0, 1) := by decide +kernel
theorem dX1_restore_75 : decode cX1_restore 75 = .ok (.istore 6, 2) := by decide +kernel
theorem dX1_restore_77 : decode cX1_restore 77 = .ok (.iload 6, 2) := by decide +kernel
theorem dX1_restore_79 : decode cX1_restore 79 = .ok (.bipush 60, 2) := by decide +kernel
theorem dX1_restore_81 : decode cX1_restore 81 = .ok (.if_icmp .ge 31, 3) := by decide +kernel
theorem dX1_restore_84 : decode cX1_restore 84 = .ok (.iload 5, 2) := by decide +kernel
theorem dX1_restore_86 : decode cX1_restore 86 = .ok (.aload_n 0, 1) := by decide +kernel
theorem dX1_restore_87 : decode cX1_restore 87 = .ok (.iload_n 1, 1) := by decide +kernel
theorem dX1_restore_88 : decode cX1_restore 88 = .ok (.iload_n 2, 1) := by decide +kernel
theorem dX1_restore_89 : decode cX1_restore 89 = .ok (.aload_n 0, 1) := by decide +kernel
theorem dX1_restore_90 : decode cX1_restore 90 = .ok (.iload_n 3, 1) := by decide +kernel
theorem dX1_restore_91 : decode cX1_restore 91 = .ok (.iload_n 1, 1) := by decide +kernel
theorem dX1_restore_92 : decode cX1_restore 92 = .ok (.iload_n 2, 1) := by decide +kernel
theorem dX1_restore_93 : decode cX1_restore 93 = .ok (.iload 6, 2) := by decide +kernel
theorem dX1_restore_95 : decode cX1_restore 95 = .ok (.invokevirtual 33, 3) := by decide +kernel
theorem dX1_restore_98 : decode cX1_restore 98 = .ok (.iload 6, 2) := by decide +kernel
theorem dX1_restore_100 : decode cX1_restore 100 = .ok (.invokevirtual 44, 3) := by decide +kernel
theorem dX1_restore_103 : decode cX1_restore 103 = .ok (.iadd, 1) := by decide +kernel
theorem dX1_restore_104 : decode cX1_restore 104 = .ok (.istore 5, 2) := by decide +kernel
theorem dX1_restore_106 : decode cX1_restore 106 = .ok (.iinc 6 1, 3) := by decide +kernel
theorem dX1_restore_109 : decode cX1_restore 109 = .ok (.goto (-32), 3) := by decide +kernel
theorem dX1_restore_112 : decode cX1_restore 112 = .ok (.iload 5, 2) := by decide +kernel
theorem dX1_restore_114 : decode cX1_restore 114 = .ok (.ireturn, 1) := by decide +kernel
theorem dX1_pass_0 : decode cX1_pass 0 = .ok (.aload_n 0, 1) := by decide +kernel
theorem dX1_pass_1 : decode cX1_pass 1 = .ok (.iload_n 1, 1) := by decide +kernel
theorem dX1_pass_2 : decode cX1_pass 2 = .ok (.iconst 1, 1) := by decide +kernel
theorem dX1_pass_3 : decode cX1_pass 3 = .ok (.bipush 59, 2) := by decide +kernel
theorem dX1_pass_5 : decode cX1_pass 5 = .ok (.invokestatic 18, 3) := by decide +kernel
theorem dX1_pass_8 : decode cX1_pass 8 = .ok (.ifCond .ne 7, 3) := by decide +kernel
theorem dX1_pass_11 : decode cX1_pass 11 = .ok (.iconst 1, 1) := by decide +kernel
theorem dX1_pass_12 : decode cX1_pass 12 = .ok (.goto 19, 3) := by decide +kernel
theorem dX1_pass_15 : decode cX1_pass 15 = .ok (.aload_n 0, 1) := by decide +kernel
theorem dX1_pass_16 : decode cX1_pass 16 = .ok (.getfield 30, 3) := by decide +kernel
theorem dX1_pass_19 : decode cX1_pass 19 = .ok (.iload_n 1, 1) := by decide +kernel
theorem dX1_pass_20 : decode cX1_pass 20 = .ok (.iadd, 1) := by decide +kernel
theorem dX1_pass_21 : decode cX1_pass 21 = .ok (.bipush 60, 2) := by decide +kernel
theorem dX1_pass_23 : decode cX1_pass 23 = .ok (.if_icmp .lt 7, 3) := by decide +kernel
theorem dX1_pass_26 : decode cX1_pass 26 = .ok (.iconst 2, 1) := by decide +kernel
theorem dX1_pass_27 : decode cX1_pass 27 = .ok (.goto 4, 3) := by decide +kernel
theorem dX1_pass_30 : decode cX1_pass 30 = .ok (.iconst 0, 1) := by decide +kernel
theorem dX1_pass_31 : decode cX1_pass 31 = .ok (.invokevirtual 57, 3) := by decide +kernel
theorem dX1_pass_34 : decode cX1_pass 34 = .ok (.ifCond .ne 5, 3) := by decide +kernel
theorem dX1_pass_37 : decode cX1_pass 37 = .ok (.iconst 0, 1) := by decide +kernel
theorem dX1_pass_38 : decode cX1_pass 38 = .ok (.ireturn, 1) := by decide +kernel
theorem dX1_pass_39 : decode cX1_pass 39 = .ok (.sipush 960, 3) := by decide +kernel
theorem dX1_pass_42 : decode cX1_pass 42 = .ok (.istore_n 2, 1) := by decide +kernel
theorem dX1_pass_43 : decode cX1_pass 43 = .ok (.iconst 0, 1) := by decide +kernel
theorem dX1_pass_44 : decode cX1_pass 44 = .ok (.istore_n 3, 1) := by decide +kernel
theorem dX1_pass_45 : decode cX1_pass 45 = .ok (.iload_n 3, 1) := by decide +kernel
theorem dX1_pass_46 : decode cX1_pass 46 = .ok (.iload_n 2, 1) := by decide +kernel
theorem dX1_pass_47 : decode cX1_pass 47 = .ok (.iload_n 1, 1) := by decide +kernel
theorem dX1_pass_48 : decode cX1_pass 48 = .ok (.imul, 1) := by decide +kernel
theorem dX1_pass_49 : decode cX1_pass 49 = .ok (.if_icmp .ge 37, 3) := by decide +kernel
theorem dX1_pass_52 : decode cX1_pass 52 = .ok (.aload_n 0, 1) := by decide +kernel
theorem dX1_pass_53 : decode cX1_pass 53 = .ok (.getfield 8, 3) := by decide +kernel
theorem dX1_pass_56 : decode cX1_pass 56 = .ok (.iload_n 2, 1) := by decide +kernel
theorem dX1_pass_57 : decode cX1_pass 57 = .ok (.aload_n 0, 1) := by decide +kernel
theorem dX1_pass_58 : decode cX1_pass 58 = .ok (.getfield 30, 3) := by decide +kernel
theorem dX1_pass_61 : decode cX1_pass 61 = .ok (.iconst 1, 1) := by decide +kernel
theorem dX1_pass_62 : decode cX1_pass 62 = .ok (.iadd, 1) := by decide +kernel
theorem dX1_pass_63 : decode cX1_pass 63 = .ok (.imul, 1) := by decide +kernel
theorem dX1_pass_64 : decode cX1_pass 64 = .ok (.iload_n 3, 1) := by decide +kernel
theorem dX1_pass_65 : decode cX1_pass 65 = .ok (.iadd, 1) := by decide +kernel
theorem dX1_pass_66 : decode cX1_pass 66 = .ok (.aload_n 0, 1) := by decide +kernel
theorem dX1_pass_67 : decode cX1_pass 67 = .ok (.getfield 8, 3) := by decide +kernel
theorem dX1_pass_70 : decode cX1_pass 70 = .ok (.iload_n 2, 1) := by decide +kernel
theorem dX1_pass_71 : decode cX1_pass 71 = .ok (.aload_n 0, 1) := by decide +kernel
theorem dX1_pass_72 : decode cX1_pass 72 = .ok (.getfield 30, 3) := by decide +kernel
theorem dX1_pass_75 : decode cX1_pass 75 = .ok (.imul, 1) := by decide +kernel
theorem dX1_pass_76 : decode cX1_pass 76 = .ok (.iload_n 3, 1) := by decide +kernel
theorem dX1_pass_77 : decode cX1_pass 77 = .ok (.iadd, 1) := by decide +kernel
theorem dX1_pass_78 : decode cX1_pass 78 = .ok (.iaload, 1) := by decide +kernel
theorem dX1_pass_79 : decode cX1_pass 79 = .ok (.iastore, 1) := by decide +kernel
theorem dX1_pass_80 : decode cX1_pass 80 = .ok (.iinc 3 1, 3) := by decide +kernel
theorem dX1_pass_83 : decode cX1_pass 83 = .ok (.goto (-38), 3) := by decide +kernel
theorem dX1_pass_86 : decode cX1_pass 86 = .ok (.aload_n 0, 1) := by decide +kernel
theorem dX1_pass_87 : decode cX1_pass 87 = .ok (.dup, 1) := by decide +kernel
theorem dX1_pass_88 : decode cX1_pass 88 = .ok (.getfield 30, 3) := by decide +kernel
theorem dX1_pass_91 : decode cX1_pass 91 = .ok (.iload_n 1, 1) := by decide +kernel
theorem dX1_pass_92 : decode cX1_pass 92 = .ok (.iadd, 1) := by decide +kernel
theorem dX1_pass_93 : decode cX1_pass 93 = .ok (.putfield 30, 3) := by decide +kernel
theorem dX1_pass_96 : decode cX1_pass 96 = .ok (.aload_n 0, 1) := by decide +kernel
theorem dX1_pass_97 : decode cX1_pass 97 = .ok (.getfield 30, 3) := by decide +kernel
theorem dX1_pass_100 : decode cX1_pass 100 = .ok (.ireturn, 1) := by decide +kernel
theorem dX1_today_0 : decode cX1_today 0 = .ok (.aload_n 0, 1) := by decide +kernel
theorem dX1_today_1 : decode cX1_today 1 = .ok (.iconst 0, 1) := by decide +kernel
theorem dX1_today_2 : decode cX1_today 2 = .ok (.putfield 14, 3) := by decide +kernel
theorem dX1_today_5 : decode cX1_today 5 = .ok (.aload_n 0, 1) := by decide +kernel
theorem dX1_today_6 : decode cX1_today 6 = .ok (.getfield 30, 3) := by decide +kernel
theorem dX1_today_9 : decode cX1_today 9 = .ok (.ireturn, 1) := by decide +kernel
theorem dX1_value_0 : decode cX1_value 0 = .ok (.aload_n 0, 1) := by decide +kernel
theorem dX1_value_1 : decode cX1_value 1 = .ok (.aload_n 0, 1) := by decide +kernel
theorem dX1_value_2 : decode cX1_value 2 = .ok (.iload_n 1, 1) := by decide +kernel
theorem dX1_value_3 : decode cX1_value 3 = .ok (.iload_n 2, 1) := by decide +kernel
theorem dX1_value_4 : decode cX1_value 4 = .ok (.invokestatic 47, 3) := by decide +kernel
theorem dX1_value_7 : decode cX1_value 7 = .ok (.ifCond .eq 14, 3) := by decide +kernel
theorem dX1_value_10 : decode cX1_value 10 = .ok (.iload_n 3, 1) := by decide +kernel
theorem dX1_value_11 : decode cX1_value 11 = .ok (.invokestatic 22, 3) := by decide +kernel
theorem dX1_value_14 : decode cX1_value 14 = .ok (.ifCond .eq 7, 3) := by decide +kernel
theorem dX1_value_17 : decode cX1_value 17 = .ok (.iconst 1, 1) := by decide +kernel
theorem dX1_value_18 : decode cX1_value 18 = .ok (.goto 4, 3) := by decide +kernel
theorem dX1_value_21 : decode cX1_value 21 = .ok (.iconst 0, 1) := by decide +kernel
theorem dX1_value_22 : decode cX1_value 22 = .ok (.iload 4, 2) := by decide +kernel
theorem dX1_value_24 : decode cX1_value 24 = .ok (.invokevirtual 64, 3) := by decide +kernel
theorem dX1_value_27 : decode cX1_value 27 = .ok (.invokevirtual 57, 3) := by decide +kernel
theorem dX1_value_30 : decode cX1_value 30 = .ok (.ifCond .eq 15, 3) := by decide +kernel
theorem dX1_value_33 : decode cX1_value 33 = .ok (.aload_n 0, 1) := by decide +kernel
theorem dX1_value_34 : decode cX1_value 34 = .ok (.iload 4, 2) := by decide +kernel
theorem dX1_value_36 : decode cX1_value 36 = .ok (.iload_n 1, 1) := by decide +kernel
theorem dX1_value_37 : decode cX1_value 37 = .ok (.iload_n 2, 1) := by decide +kernel
theorem dX1_value_38 : decode cX1_value 38 = .ok (.iload_n 3, 1) := by decide +kernel
theorem dX1_value_39 : decode cX1_value 39 = .ok (.invokevirtual 33, 3) := by decide +kernel
theorem dX1_value_42 : decode cX1_value 42 = .ok (.goto 4, 3) := by decide +kernel
theorem dX1_value_45 : decode cX1_value 45 = .ok (.iconst 0, 1) := by decide +kernel
theorem dX1_value_46 : decode cX1_value 46 = .ok (.ireturn, 1) := by decide +kernel
theorem dX1_keys_0 : decode cX1_keys 0 = .ok (.aload_n 0, 1) := by decide +kernel
theorem dX1_keys_1 : decode cX1_keys 1 = .ok (.aload_n 0, 1) := by decide +kernel
theorem dX1_keys_2 : decode cX1_keys 2 = .ok (.iload_n 1, 1) := by decide +kernel
theorem dX1_keys_3 : decode cX1_keys 3 = .ok (.iconst 0, 1) := by decide +kernel
theorem dX1_keys_4 : decode cX1_keys 4 = .ok (.iconst 1, 1) := by decide +kernel
theorem dX1_keys_5 : decode cX1_keys 5 = .ok (.invokestatic 18, 3) := by decide +kernel
theorem dX1_keys_8 : decode cX1_keys 8 = .ok (.ifCond .eq 14, 3) := by decide +kernel
theorem dX1_keys_11 : decode cX1_keys 11 = .ok (.iload_n 2, 1) := by decide +kernel
theorem dX1_keys_12 : decode cX1_keys 12 = .ok (.invokestatic 22, 3) := by decide +kernel
theorem dX1_keys_15 : decode cX1_keys 15 = .ok (.ifCond .eq 7, 3) := by decide +kernel
theorem dX1_keys_18 : decode cX1_keys 18 = .ok (.iconst 1, 1) := by decide +kernel
theorem dX1_keys_19 : decode cX1_keys 19 = .ok (.goto 4, 3) := by decide +kernel
theorem dX1_keys_22 : decode cX1_keys 22 = .ok (.iconst 0, 1) := by decide +kernel
theorem dX1_keys_23 : decode cX1_keys 23 = .ok (.iload_n 3, 1) := by decide +kernel
theorem dX1_keys_24 : decode cX1_keys 24 = .ok (.invokevirtual 64, 3) := by decide +kernel
theorem dX1_keys_27 : decode cX1_keys 27 = .ok (.invokevirtual 57, 3) := by decide +kernel
theorem dX1_keys_30 : decode cX1_keys 30 = .ok (.ifCond .ne 5, 3) := by decide +kernel
theorem dX1_keys_33 : decode cX1_keys 33 = .ok (.iconst 0, 1) := by decide +kernel
theorem dX1_keys_34 : decode cX1_keys 34 = .ok (.ireturn, 1) := by decide +kernel
theorem dX1_keys_35 : decode cX1_keys 35 = .ok (.iconst 0, 1) := by decide +kernel
theorem dX1_keys_36 : decode cX1_keys 36 = .ok (.istore 4, 2) := by decide +kernel
theorem dX1_keys_38 : decode cX1_keys 38 = .ok (.iconst 0, 1) := by decide +kernel
theorem dX1_keys_39 : decode cX1_keys 39 = .ok (.istore 5, 2) := by decide +kernel
theorem dX1_keys_41 : decode cX1_keys 41 = .ok (.iload 5, 2) := by decide +kernel
theorem dX1_keys_43 : decode cX1_keys 43 = .ok (.bipush 8, 2) := by decide +kernel
theorem dX1_keys_45 : decode cX1_keys 45 = .ok (.if_icmp .ge 35, 3) := by decide +kernel
theorem dX1_keys_48 : decode cX1_keys 48 = .ok (.iload 4, 2) := by decide +kernel
theorem dX1_keys_50 : decode cX1_keys 50 = .ok (.aload_n 0, 1) := by decide +kernel
theorem dX1_keys_51 : decode cX1_keys 51 = .ok (.iload_n 3, 1) := by decide +kernel
theorem dX1_keys_52 : decode cX1_keys 52 = .ok (.iload_n 1, 1) := by decide +kernel
theorem dX1_keys_53 : decode cX1_keys 53 = .ok (.iload 5, 2) := by decide +kernel
theorem dX1_keys_55 : decode cX1_keys 55 = .ok (.iload_n 2, 1) := by decide +kernel
theorem dX1_keys_56 : decode cX1_keys 56 = .ok (.invokevirtual 33, 3) := by decide +kernel
theorem dX1_keys_59 : decode cX1_keys 59 = .ok (.iconst (-1), 1) := by decide +kernel
theorem dX1_keys_60 : decode cX1_keys 60 = .ok (.if_icmp .ne 7, 3) := by decide +kernel
theorem dX1_keys_63 : decode cX1_keys 63 = .ok (.iconst 0, 1) := by decide +kernel
theorem dX1_keys_64 : decode cX1_keys 64 = .ok (.goto 7, 3) := by decide +kernel
theorem dX1_keys_67 : decode cX1_keys 67 = .ok (.iconst 1, 1) := by decide +kernel
theorem dX1_keys_68 : decode cX1_keys 68 = .ok (.iload 5, 2) := by decide +kernel
theorem dX1_keys_70 : decode cX1_keys 70 = .ok (.ishl, 1) := by decide +kernel
theorem dX1_keys_71 : decode cX1_keys 71 = .ok (.ior, 1) := by decide +kernel
theorem dX1_keys_72 : decode cX1_keys 72 = .ok (.istore 4, 2) := by decide +kernel
theorem dX1_keys_74 : decode cX1_keys 74 = .ok (.iinc 5 1, 3) := by decide +kernel
theorem dX1_keys_77 : decode cX1_keys 77 = .ok (.goto (-36), 3) := by decide +kernel
theorem dX1_keys_80 : decode cX1_keys 80 = .ok (.iload 4, 2) := by decide +kernel
theorem dX1_keys_82 : decode cX1_keys 82 = .ok (.ireturn, 1) := by decide +kernel
theorem dX1_joinedOf_0 : decode cX1_joinedOf 0 = .ok (.aload_n 0, 1) := by decide +kernel
theorem dX1_joinedOf_1 : decode cX1_joinedOf 1 = .ok (.iload_n 3, 1) := by decide +kernel
theorem dX1_joinedOf_2 : decode cX1_joinedOf 2 = .ok (.iconst 1, 1) := by decide +kernel
theorem dX1_joinedOf_3 : decode cX1_joinedOf 3 = .ok (.iload_n 1, 1) := by decide +kernel
theorem dX1_joinedOf_4 : decode cX1_joinedOf 4 = .ok (.iload_n 2, 1) := by decide +kernel
theorem dX1_joinedOf_5 : decode cX1_joinedOf 5 = .ok (.invokevirtual 33, 3) := by decide +kernel
theorem dX1_joinedOf_8 : decode cX1_joinedOf 8 = .ok (.istore 4, 2) := by decide +kernel
theorem dX1_joinedOf_10 : decode cX1_joinedOf 10 = .ok (.iload 4, 2) := by decide +kernel
theorem dX1_joinedOf_12 : decode cX1_joinedOf 12 = .ok (.iconst (-1), 1) := by decide +kernel
theorem dX1_joinedOf_13 : decode cX1_joinedOf 13 = .ok (.if_icmp .ne 7, 3) := by decide +kernel
theorem dX1_joinedOf_16 : decode cX1_joinedOf 16 = .ok (.iconst (-1), 1) := by decide +kernel
theorem dX1_joinedOf_17 : decode cX1_joinedOf 17 = .ok (.goto 12, 3) := by decide +kernel
theorem dX1_joinedOf_20 : decode cX1_joinedOf 20 = .ok (.aload_n 0, 1) := by decide +kernel
theorem dX1_joinedOf_21 : decode cX1_joinedOf 21 = .ok (.iload_n 3, 1) := by decide +kernel
theorem dX1_joinedOf_22 : decode cX1_joinedOf 22 = .ok (.iconst 0, 1) := by decide +kernel
theorem dX1_joinedOf_23 : decode cX1_joinedOf 23 = .ok (.iload 4, 2) := by decide +kernel
theorem dX1_joinedOf_25 : decode cX1_joinedOf 25 = .ok (.iload_n 2, 1) := by decide +kernel
theorem dX1_joinedOf_26 : decode cX1_joinedOf 26 = .ok (.invokevirtual 33, 3) := by decide +kernel
theorem dX1_joinedOf_29 : decode cX1_joinedOf 29 = .ok (.ireturn, 1) := by decide +kernel
theorem dX1_joined_0 : decode cX1_joined 0 = .ok (.aload_n 0, 1) := by decide +kernel
theorem dX1_joined_1 : decode cX1_joined 1 = .ok (.aload_n 0, 1) := by decide +kernel
theorem dX1_joined_2 : decode cX1_joined 2 = .ok (.iconst 1, 1) := by decide +kernel
theorem dX1_joined_3 : decode cX1_joined 3 = .ok (.iload_n 1, 1) := by decide +kernel
theorem dX1_joined_4 : decode cX1_joined 4 = .ok (.invokestatic 47, 3) := by decide +kernel
theorem dX1_joined_7 : decode cX1_joined 7 = .ok (.ifCond .eq 14, 3) := by decide +kernel
theorem dX1_joined_10 : decode cX1_joined 10 = .ok (.iload_n 2, 1) := by decide +kernel
theorem dX1_joined_11 : decode cX1_joined 11 = .ok (.invokestatic 22, 3) := by decide +kernel
theorem dX1_joined_14 : decode cX1_joined 14 = .ok (.ifCond .eq 7, 3) := by decide +kernel
theorem dX1_joined_17 : decode cX1_joined 17 = .ok (.iconst 1, 1) := by decide +kernel
theorem dX1_joined_18 : decode cX1_joined 18 = .ok (.goto 4, 3) := by decide +kernel
theorem dX1_joined_21 : decode cX1_joined 21 = .ok (.iconst 0, 1) := by decide +kernel
theorem dX1_joined_22 : decode cX1_joined 22 = .ok (.iload_n 3, 1) := by decide +kernel
theorem dX1_joined_23 : decode cX1_joined 23 = .ok (.invokevirtual 64, 3) := by decide +kernel
theorem dX1_joined_26 : decode cX1_joined 26 = .ok (.invokevirtual 57, 3) := by decide +kernel
theorem dX1_joined_29 : decode cX1_joined 29 = .ok (.ifCond .eq 13, 3) := by decide +kernel
theorem dX1_joined_32 : decode cX1_joined 32 = .ok (.aload_n 0, 1) := by decide +kernel
theorem dX1_joined_33 : decode cX1_joined 33 = .ok (.iload_n 1, 1) := by decide +kernel
theorem dX1_joined_34 : decode cX1_joined 34 = .ok (.iload_n 2, 1) := by decide +kernel
theorem dX1_joined_35 : decode cX1_joined 35 = .ok (.iload_n 3, 1) := by decide +kernel
theorem dX1_joined_36 : decode cX1_joined 36 = .ok (.invokevirtual 68, 3) := by decide +kernel
theorem dX1_joined_39 : decode cX1_joined 39 = .ok (.goto 4, 3) := by decide +kernel
theorem dX1_joined_42 : decode cX1_joined 42 = .ok (.iconst 0, 1) := by decide +kernel
theorem dX1_joined_43 : decode cX1_joined 43 = .ok (.ireturn, 1) := by decide +kernel
theorem dX1_begins_0 : decode cX1_begins 0 = .ok (.aload_n 0, 1) := by decide +kernel
theorem dX1_begins_1 : decode cX1_begins 1 = .ok (.iload_n 3, 1) := by decide +kernel
theorem dX1_begins_2 : decode cX1_begins 2 = .ok (.iload_n 1, 1) := by decide +kernel
theorem dX1_begins_3 : decode cX1_begins 3 = .ok (.iload_n 2, 1) := by decide +kernel
theorem dX1_begins_4 : decode cX1_begins 4 = .ok (.iload 4, 2) := by decide +kernel
theorem dX1_begins_6 : decode cX1_begins 6 = .ok (.invokevirtual 33, 3) := by decide +kernel
theorem dX1_begins_9 : decode cX1_begins 9 = .ok (.istore 5, 2) := by decide +kernel
theorem dX1_begins_11 : decode cX1_begins 11 = .ok (.iload 5, 2) := by decide +kernel
theorem dX1_begins_13 : decode cX1_begins 13 = .ok (.iconst (-1), 1) := by decide +kernel
theorem dX1_begins_14 : decode cX1_begins 14 = .ok (.if_icmp .eq 28, 3) := by decide +kernel
theorem dX1_begins_17 : decode cX1_begins 17 = .ok (.iload 4, 2) := by decide +kernel
theorem dX1_begins_19 : decode cX1_begins 19 = .ok (.ifCond .eq 19, 3) := by decide +kernel
theorem dX1_begins_22 : decode cX1_begins 22 = .ok (.aload_n 0, 1) := by decide +kernel
theorem dX1_begins_23 : decode cX1_begins 23 = .ok (.iload_n 3, 1) := by decide +kernel
theorem dX1_begins_24 : decode cX1_begins 24 = .ok (.iload_n 1, 1) := by decide +kernel
theorem dX1_begins_25 : decode cX1_begins 25 = .ok (.iload_n 2, 1) := by decide +kernel
theorem dX1_begins_26 : decode cX1_begins 26 = .ok (.iload 4, 2) := by decide +kernel
theorem dX1_begins_28 : decode cX1_begins 28 = .ok (.iconst 1, 1) := by decide +kernel
theorem dX1_begins_29 : decode cX1_begins 29 = .ok (.isub, 1) := by decide +kernel
theorem dX1_begins_30 : decode cX1_begins 30 = .ok (.invokevirtual 33, 3) := by decide +kernel
theorem dX1_begins_33 : decode cX1_begins 33 = .ok (.iload 5, 2) := by decide +kernel
theorem dX1_begins_35 : decode cX1_begins 35 = .ok (.if_icmp .eq 7, 3) := by decide +kernel
theorem dX1_begins_38 : decode cX1_begins 38 = .ok (.iconst 1, 1) := by decide +kernel
theorem dX1_begins_39 : decode cX1_begins 39 = .ok (.goto 4, 3) := by decide +kernel
theorem dX1_begins_42 : decode cX1_begins 42 = .ok (.iconst 0, 1) := by decide +kernel
theorem dX1_begins_43 : decode cX1_begins 43 = .ok (.ireturn, 1) := by decide +kernel
theorem dX1_end_0 : decode cX1_end 0 = .ok (.iload 4, 2) := by decide +kernel
theorem dX1_end_2 : decode cX1_end 2 = .ok (.istore 5, 2) := by decide +kernel
theorem dX1_end_4 : decode cX1_end 4 = .ok (.iload 5, 2) := by decide +kernel
theorem dX1_end_6 : decode cX1_end 6 = .ok (.bipush 60, 2) := by decide +kernel
theorem dX1_end_8 : decode cX1_end 8 = .ok (.if_icmp .ge 30, 3) := by decide +kernel
theorem dX1_end_11 : decode cX1_end 11 = .ok (.aload_n 0, 1) := by decide +kernel
theorem dX1_end_12 : decode cX1_end 12 = .ok (.iload_n 3, 1) := by decide +kernel
theorem dX1_end_13 : decode cX1_end 13 = .ok (.iload_n 1, 1) := by decide +kernel
theorem dX1_end_14 : decode cX1_end 14 = .ok (.iload_n 2, 1) := by decide +kernel
theorem dX1_end_15 : decode cX1_end 15 = .ok (.iload 5, 2) := by decide +kernel
theorem dX1_end_17 : decode cX1_end 17 = .ok (.invokevirtual 33, 3) := by decide +kernel
theorem dX1_end_20 : decode cX1_end 20 = .ok (.aload_n 0, 1) := by decide +kernel
theorem dX1_end_21 : decode cX1_end 21 = .ok (.iload_n 3, 1) := by decide +kernel
theorem dX1_end_22 : decode cX1_end 22 = .ok (.iload_n 1, 1) := by decide +kernel
theorem dX1_end_23 : decode cX1_end 23 = .ok (.iload_n 2, 1) := by decide +kernel
theorem dX1_end_24 : decode cX1_end 24 = .ok (.iload 4, 2) := by decide +kernel
theorem dX1_end_26 : decode cX1_end 26 = .ok (.invokevirtual 33, 3) := by decide +kernel
theorem dX1_end_29 : decode cX1_end 29 = .ok (.if_icmp .ne 9, 3) := by decide +kernel
theorem dX1_end_32 : decode cX1_end 32 = .ok (.iinc 5 1, 3) := by decide +kernel
theorem dX1_end_35 : decode cX1_end 35 = .ok (.goto (-31), 3) := by decide +kernel
theorem dX1_end_38 : decode cX1_end 38 = .ok (.iload 5, 2) := by decide +kernel
theorem dX1_end_40 : decode cX1_end 40 = .ok (.ireturn, 1) := by decide +kernel
theorem dX1_told_0 : decode cX1_told 0 = .ok (.aload_n 0, 1) := by decide +kernel
theorem dX1_told_1 : decode cX1_told 1 = .ok (.iload_n 1, 1) := by decide +kernel
theorem dX1_told_2 : decode cX1_told 2 = .ok (.iload_n 2, 1) := by decide +kernel
theorem dX1_told_3 : decode cX1_told 3 = .ok (.iload_n 3, 1) := by decide +kernel
theorem dX1_told_4 : decode cX1_told 4 = .ok (.iload 4, 2) := by decide +kernel
theorem dX1_told_6 : decode cX1_told 6 = .ok (.invokevirtual 72, 3) := by decide +kernel
theorem dX1_told_9 : decode cX1_told 9 = .ok (.ifCond .eq 35, 3) := by decide +kernel
theorem dX1_told_12 : decode cX1_told 12 = .ok (.sipush 10000, 3) := by decide +kernel
theorem dX1_told_15 : decode cX1_told 15 = .ok (.iload 4, 2) := by decide +kernel
theorem dX1_told_17 : decode cX1_told 17 = .ok (.imul, 1) := by decide +kernel
theorem dX1_told_18 : decode cX1_told 18 = .ok (.bipush 100, 2) := by decide +kernel
theorem dX1_told_20 : decode cX1_told 20 = .ok (.aload_n 0, 1) := by decide +kernel
theorem dX1_told_21 : decode cX1_told 21 = .ok (.iload_n 1, 1) := by decide +kernel
theorem dX1_told_22 : decode cX1_told 22 = .ok (.iload_n 2, 1) := by decide +kernel
theorem dX1_told_23 : decode cX1_told 23 = .ok (.iload_n 3, 1) := by decide +kernel
theorem dX1_told_24 : decode cX1_told 24 = .ok (.iload 4, 2) := by decide +kernel
theorem dX1_told_26 : decode cX1_told 26 = .ok (.invokevirtual 75, 3) := by decide +kernel
theorem dX1_told_29 : decode cX1_told 29 = .ok (.imul, 1) := by decide +kernel
theorem dX1_told_30 : decode cX1_told 30 = .ok (.iadd, 1) := by decide +kernel
theorem dX1_told_31 : decode cX1_told 31 = .ok (.aload_n 0, 1) := by decide +kernel
theorem dX1_told_32 : decode cX1_told 32 = .ok (.iload_n 3, 1) := by decide +kernel
theorem dX1_told_33 : decode cX1_told 33 = .ok (.iload_n 1, 1) := by decide +kernel
theorem dX1_told_34 : decode cX1_told 34 = .ok (.iload_n 2, 1) := by decide +kernel
theorem dX1_told_35 : decode cX1_told 35 = .ok (.iload 4, 2) := by decide +kernel
theorem dX1_told_37 : decode cX1_told 37 = .ok (.invokevirtual 33, 3) := by decide +kernel
theorem dX1_told_40 : decode cX1_told 40 = .ok (.iadd, 1) := by decide +kernel
theorem dX1_told_41 : decode cX1_told 41 = .ok (.goto 4, 3) := by decide +kernel
theorem dX1_told_44 : decode cX1_told 44 = .ok (.iconst (-1), 1) := by decide +kernel
theorem dX1_told_45 : decode cX1_told 45 = .ok (.ireturn, 1) := by decide +kernel
theorem dX1_runsOf_0 : decode cX1_runsOf 0 = .ok (.iconst 0, 1) := by decide +kernel
theorem dX1_runsOf_1 : decode cX1_runsOf 1 = .ok (.istore 4, 2) := by decide +kernel
theorem dX1_runsOf_3 : decode cX1_runsOf 3 = .ok (.iconst 0, 1) := by decide +kernel
theorem dX1_runsOf_4 : decode cX1_runsOf 4 = .ok (.istore 5, 2) := by decide +kernel
theorem dX1_runsOf_6 : decode cX1_runsOf 6 = .ok (.iload 5, 2) := by decide +kernel
theorem dX1_runsOf_8 : decode cX1_runsOf 8 = .ok (.bipush 60, 2) := by decide +kernel
theorem dX1_runsOf_10 : decode cX1_runsOf 10 = .ok (.if_icmp .ge 31, 3) := by decide +kernel
theorem dX1_runsOf_13 : decode cX1_runsOf 13 = .ok (.iload 4, 2) := by decide +kernel
theorem dX1_runsOf_15 : decode cX1_runsOf 15 = .ok (.aload_n 0, 1) := by decide +kernel
theorem dX1_runsOf_16 : decode cX1_runsOf 16 = .ok (.iload_n 1, 1) := by decide +kernel
theorem dX1_runsOf_17 : decode cX1_runsOf 17 = .ok (.iload_n 2, 1) := by decide +kernel
theorem dX1_runsOf_18 : decode cX1_runsOf 18 = .ok (.iload_n 3, 1) := by decide +kernel
theorem dX1_runsOf_19 : decode cX1_runsOf 19 = .ok (.iload 5, 2) := by decide +kernel
theorem dX1_runsOf_21 : decode cX1_runsOf 21 = .ok (.invokevirtual 72, 3) := by decide +kernel
theorem dX1_runsOf_24 : decode cX1_runsOf 24 = .ok (.ifCond .eq 7, 3) := by decide +kernel
theorem dX1_runsOf_27 : decode cX1_runsOf 27 = .ok (.iconst 1, 1) := by decide +kernel
theorem dX1_runsOf_28 : decode cX1_runsOf 28 = .ok (.goto 4, 3) := by decide +kernel
theorem dX1_runsOf_31 : decode cX1_runsOf 31 = .ok (.iconst 0, 1) := by decide +kernel
theorem dX1_runsOf_32 : decode cX1_runsOf 32 = .ok (.iadd, 1) := by decide +kernel
theorem dX1_runsOf_33 : decode cX1_runsOf 33 = .ok (.istore 4, 2) := by decide +kernel
theorem dX1_runsOf_35 : decode cX1_runsOf 35 = .ok (.iinc 5 1, 3) := by decide +kernel
theorem dX1_runsOf_38 : decode cX1_runsOf 38 = .ok (.goto (-32), 3) := by decide +kernel
theorem dX1_runsOf_41 : decode cX1_runsOf 41 = .ok (.iload 4, 2) := by decide +kernel
theorem dX1_runsOf_43 : decode cX1_runsOf 43 = .ok (.ireturn, 1) := by decide +kernel
theorem dX1_runs_0 : decode cX1_runs 0 = .ok (.aload_n 0, 1) := by decide +kernel
theorem dX1_runs_1 : decode cX1_runs 1 = .ok (.aload_n 0, 1) := by decide +kernel
theorem dX1_runs_2 : decode cX1_runs 2 = .ok (.iload_n 1, 1) := by decide +kernel
theorem dX1_runs_3 : decode cX1_runs 3 = .ok (.iload_n 2, 1) := by decide +kernel
theorem dX1_runs_4 : decode cX1_runs 4 = .ok (.invokestatic 47, 3) := by decide +kernel
theorem dX1_runs_7 : decode cX1_runs 7 = .ok (.iload_n 3, 1) := by decide +kernel
theorem dX1_runs_8 : decode cX1_runs 8 = .ok (.invokevirtual 64, 3) := by decide +kernel
theorem dX1_runs_11 : decode cX1_runs 11 = .ok (.invokevirtual 57, 3) := by decide +kernel
theorem dX1_runs_14 : decode cX1_runs 14 = .ok (.ifCond .eq 13, 3) := by decide +kernel
theorem dX1_runs_17 : decode cX1_runs 17 = .ok (.aload_n 0, 1) := by decide +kernel
theorem dX1_runs_18 : decode cX1_runs 18 = .ok (.iload_n 1, 1) := by decide +kernel
theorem dX1_runs_19 : decode cX1_runs 19 = .ok (.iload_n 2, 1) := by decide +kernel
theorem dX1_runs_20 : decode cX1_runs 20 = .ok (.iload_n 3, 1) := by decide +kernel
theorem dX1_runs_21 : decode cX1_runs 21 = .ok (.invokevirtual 78, 3) := by decide +kernel
theorem dX1_runs_24 : decode cX1_runs 24 = .ok (.goto 4, 3) := by decide +kernel
theorem dX1_runs_27 : decode cX1_runs 27 = .ok (.iconst 0, 1) := by decide +kernel
theorem dX1_runs_28 : decode cX1_runs 28 = .ok (.ireturn, 1) := by decide +kernel
theorem dX1_run_0 : decode cX1_run 0 = .ok (.aload_n 0, 1) := by decide +kernel
theorem dX1_run_1 : decode cX1_run 1 = .ok (.iload_n 1, 1) := by decide +kernel
theorem dX1_run_2 : decode cX1_run 2 = .ok (.iload_n 2, 1) := by decide +kernel
theorem dX1_run_3 : decode cX1_run 3 = .ok (.invokestatic 47, 3) := by decide +kernel
theorem dX1_run_6 : decode cX1_run 6 = .ok (.iload_n 3, 1) := by decide +kernel
theorem dX1_run_7 : decode cX1_run 7 = .ok (.invokevirtual 64, 3) := by decide +kernel
theorem dX1_run_10 : decode cX1_run 10 = .ok (.istore 5, 2) := by decide +kernel
theorem dX1_run_12 : decode cX1_run 12 = .ok (.aload_n 0, 1) := by decide +kernel
theorem dX1_run_13 : decode cX1_run 13 = .ok (.iload 5, 2) := by decide +kernel
theorem dX1_run_15 : decode cX1_run 15 = .ok (.ifCond .le 8, 3) := by decide +kernel
theorem dX1_run_18 : decode cX1_run 18 = .ok (.iload 5, 2) := by decide +kernel
theorem dX1_run_20 : decode cX1_run 20 = .ok (.goto 26, 3) := by decide +kernel
theorem dX1_run_23 : decode cX1_run 23 = .ok (.iload 4, 2) := by decide +kernel
theorem dX1_run_25 : decode cX1_run 25 = .ok (.iconst 0, 1) := by decide +kernel
theorem dX1_run_26 : decode cX1_run 26 = .ok (.aload_n 0, 1) := by decide +kernel
theorem dX1_run_27 : decode cX1_run 27 = .ok (.iload_n 1, 1) := by decide +kernel
theorem dX1_run_28 : decode cX1_run 28 = .ok (.iload_n 2, 1) := by decide +kernel
theorem dX1_run_29 : decode cX1_run 29 = .ok (.iload_n 3, 1) := by decide +kernel
theorem dX1_run_30 : decode cX1_run 30 = .ok (.invokevirtual 78, 3) := by decide +kernel
theorem dX1_run_33 : decode cX1_run 33 = .ok (.iconst 1, 1) := by decide +kernel
theorem dX1_run_34 : decode cX1_run 34 = .ok (.isub, 1) := by decide +kernel
theorem dX1_run_35 : decode cX1_run 35 = .ok (.invokestatic 18, 3) := by decide +kernel
theorem dX1_run_38 : decode cX1_run 38 = .ok (.ifCond .eq 7, 3) := by decide +kernel
theorem dX1_run_41 : decode cX1_run 41 = .ok (.iconst 0, 1) := by decide +kernel
theorem dX1_run_42 : decode cX1_run 42 = .ok (.goto 4, 3) := by decide +kernel
theorem dX1_run_45 : decode cX1_run 45 = .ok (.iconst 2, 1) := by decide +kernel
theorem dX1_run_46 : decode cX1_run 46 = .ok (.invokevirtual 57, 3) := by decide +kernel
theorem dX1_run_49 : decode cX1_run 49 = .ok (.ifCond .ne 5, 3) := by decide +kernel
theorem dX1_run_52 : decode cX1_run 52 = .ok (.iconst 0, 1) := by decide +kernel
theorem dX1_run_53 : decode cX1_run 53 = .ok (.ireturn, 1) := by decide +kernel
theorem dX1_run_54 : decode cX1_run 54 = .ok (.iconst 0, 1) := by decide +kernel
theorem dX1_run_55 : decode cX1_run 55 = .ok (.istore 6, 2) := by decide +kernel
theorem dX1_run_57 : decode cX1_run 57 = .ok (.iconst 0, 1) := by decide +kernel
theorem dX1_run_58 : decode cX1_run 58 = .ok (.istore 7, 2) := by decide +kernel
theorem dX1_run_60 : decode cX1_run 60 = .ok (.iload 6, 2) := by decide +kernel
theorem dX1_run_62 : decode cX1_run 62 = .ok (.iload 4, 2) := by decide +kernel
theorem dX1_run_64 : decode cX1_run 64 = .ok (.if_icmp .lt 15, 3) := by decide +kernel
theorem dX1_run_67 : decode cX1_run 67 = .ok (.aload_n 0, 1) := by decide +kernel
theorem dX1_run_68 : decode cX1_run 68 = .ok (.iload_n 1, 1) := by decide +kernel
theorem dX1_run_69 : decode cX1_run 69 = .ok (.iload_n 2, 1) := by decide +kernel
theorem dX1_run_70 : decode cX1_run 70 = .ok (.iload_n 3, 1) := by decide +kernel
theorem dX1_run_71 : decode cX1_run 71 = .ok (.iload 7, 2) := by decide +kernel
theorem dX1_run_73 : decode cX1_run 73 = .ok (.invokevirtual 72, 3) := by decide +kernel
theorem dX1_run_76 : decode cX1_run 76 = .ok (.ifCond .ne 31, 3) := by decide +kernel
theorem dX1_run_79 : decode cX1_run 79 = .ok (.iload 6, 2) := by decide +kernel
theorem dX1_run_81 : decode cX1_run 81 = .ok (.aload_n 0, 1) := by decide +kernel
theorem dX1_run_82 : decode cX1_run 82 = .ok (.iload_n 1, 1) := by decide +kernel
theorem dX1_run_83 : decode cX1_run 83 = .ok (.iload_n 2, 1) := by decide +kernel
theorem dX1_run_84 : decode cX1_run 84 = .ok (.iload_n 3, 1) := by decide +kernel
theorem dX1_run_85 : decode cX1_run 85 = .ok (.iload 7, 2) := by decide +kernel
theorem dX1_run_87 : decode cX1_run 87 = .ok (.invokevirtual 72, 3) := by decide +kernel
theorem dX1_run_90 : decode cX1_run 90 = .ok (.ifCond .eq 7, 3) := by decide +kernel
theorem dX1_run_93 : decode cX1_run 93 = .ok (.iconst 1, 1) := by decide +kernel
theorem dX1_run_94 : decode cX1_run 94 = .ok (.goto 4, 3) := by decide +kernel
theorem dX1_run_97 : decode cX1_run 97 = .ok (.iconst 0, 1) := by decide +kernel
theorem dX1_run_98 : decode cX1_run 98 = .ok (.iadd, 1) := by decide +kernel
theorem dX1_run_99 : decode cX1_run 99 = .ok (.istore 6, 2) := by decide +kernel
theorem dX1_run_101 : decode cX1_run 101 = .ok (.iinc 7 1, 3) := by decide +kernel
theorem dX1_run_104 : decode cX1_run 104 = .ok (.goto (-44), 3) := by decide +kernel
theorem dX1_run_107 : decode cX1_run 107 = .ok (.aload_n 0, 1) := by decide +kernel
theorem dX1_run_108 : decode cX1_run 108 = .ok (.iload_n 1, 1) := by decide +kernel
theorem dX1_run_109 : decode cX1_run 109 = .ok (.iload_n 2, 1) := by decide +kernel
theorem dX1_run_110 : decode cX1_run 110 = .ok (.iload_n 3, 1) := by decide +kernel
theorem dX1_run_111 : decode cX1_run 111 = .ok (.iload 7, 2) := by decide +kernel
theorem dX1_run_113 : decode cX1_run 113 = .ok (.invokevirtual 81, 3) := by decide +kernel
theorem dX1_run_116 : decode cX1_run 116 = .ok (.ireturn, 1) := by decide +kernel
theorem dX1_joinedRuns_0 : decode cX1_joinedRuns 0 = .ok (.aload_n 0, 1) := by decide +kernel
theorem dX1_joinedRuns_1 : decode cX1_joinedRuns 1 = .ok (.aload_n 0, 1) := by decide +kernel
theorem dX1_joinedRuns_2 : decode cX1_joinedRuns 2 = .ok (.iconst 1, 1) := by decide +kernel
theorem dX1_joinedRuns_3 : decode cX1_joinedRuns 3 = .ok (.iload_n 1, 1) := by decide +kernel
theorem dX1_joinedRuns_4 : decode cX1_joinedRuns 4 = .ok (.invokestatic 47, 3) := by decide +kernel
theorem dX1_joinedRuns_7 : decode cX1_joinedRuns 7 = .ok (.iload_n 2, 1) := by decide +kernel
theorem dX1_joinedRuns_8 : decode cX1_joinedRuns 8 = .ok (.invokevirtual 64, 3) := by decide +kernel
theorem dX1_joinedRuns_11 : decode cX1_joinedRuns 11 = .ok (.invokevirtual 57, 3) := by decide +kernel
theorem dX1_joinedRuns_14 : decode cX1_joinedRuns 14 = .ok (.ifCond .ne 5, 3) := by decide +kernel
theorem dX1_joinedRuns_17 : decode cX1_joinedRuns 17 = .ok (.iconst 0, 1) := by decide +kernel
theorem dX1_joinedRuns_18 : decode cX1_joinedRuns 18 = .ok (.ireturn, 1) := by decide +kernel
theorem dX1_joinedRuns_19 : decode cX1_joinedRuns 19 = .ok (.iconst 0, 1) := by decide +kernel
theorem dX1_joinedRuns_20 : decode cX1_joinedRuns 20 = .ok (.istore_n 3, 1) := by decide +kernel
theorem dX1_joinedRuns_21 : decode cX1_joinedRuns 21 = .ok (.iconst 0, 1) := by decide +kernel
theorem dX1_joinedRuns_22 : decode cX1_joinedRuns 22 = .ok (.istore 4, 2) := by decide +kernel
theorem dX1_joinedRuns_24 : decode cX1_joinedRuns 24 = .ok (.iload 4, 2) := by decide +kernel
theorem dX1_joinedRuns_26 : decode cX1_joinedRuns 26 = .ok (.bipush 60, 2) := by decide +kernel
theorem dX1_joinedRuns_28 : decode cX1_joinedRuns 28 = .ok (.if_icmp .ge 91, 3) := by decide +kernel
theorem dX1_joinedRuns_31 : decode cX1_joinedRuns 31 = .ok (.iload 4, 2) := by decide +kernel
theorem dX1_joinedRuns_33 : decode cX1_joinedRuns 33 = .ok (.ifCond .eq 47, 3) := by decide +kernel
theorem dX1_joinedRuns_36 : decode cX1_joinedRuns 36 = .ok (.aload_n 0, 1) := by decide +kernel
theorem dX1_joinedRuns_37 : decode cX1_joinedRuns 37 = .ok (.iload_n 2, 1) := by decide +kernel
theorem dX1_joinedRuns_38 : decode cX1_joinedRuns 38 = .ok (.iconst 1, 1) := by decide +kernel
theorem dX1_joinedRuns_39 : decode cX1_joinedRuns 39 = .ok (.iload_n 1, 1) := by decide +kernel
theorem dX1_joinedRuns_40 : decode cX1_joinedRuns 40 = .ok (.iload 4, 2) := by decide +kernel
theorem dX1_joinedRuns_42 : decode cX1_joinedRuns 42 = .ok (.invokevirtual 33, 3) := by decide +kernel
theorem dX1_joinedRuns_45 : decode cX1_joinedRuns 45 = .ok (.aload_n 0, 1) := by decide +kernel
theorem dX1_joinedRuns_46 : decode cX1_joinedRuns 46 = .ok (.iload_n 2, 1) := by decide +kernel
theorem dX1_joinedRuns_47 : decode cX1_joinedRuns 47 = .ok (.iconst 1, 1) := by decide +kernel
theorem dX1_joinedRuns_48 : decode cX1_joinedRuns 48 = .ok (.iload_n 1, 1) := by decide +kernel
theorem dX1_joinedRuns_49 : decode cX1_joinedRuns 49 = .ok (.iload 4, 2) := by decide +kernel
theorem dX1_joinedRuns_51 : decode cX1_joinedRuns 51 = .ok (.iconst 1, 1) := by decide +kernel
theorem dX1_joinedRuns_52 : decode cX1_joinedRuns 52 = .ok (.isub, 1) := by decide +kernel
theorem dX1_joinedRuns_53 : decode cX1_joinedRuns 53 = .ok (.invokevirtual 33, 3) := by decide +kernel
theorem dX1_joinedRuns_56 : decode cX1_joinedRuns 56 = .ok (.if_icmp .ne 24, 3) := by decide +kernel
theorem dX1_joinedRuns_59 : decode cX1_joinedRuns 59 = .ok (.aload_n 0, 1) := by decide +kernel
theorem dX1_joinedRuns_60 : decode cX1_joinedRuns 60 = .ok (.iload_n 1, 1) := by decide +kernel
theorem dX1_joinedRuns_61 : decode cX1_joinedRuns 61 = .ok (.iload 4, 2) := by decide +kernel
theorem dX1_joinedRuns_63 : decode cX1_joinedRuns 63 = .ok (.iload_n 2, 1) := by decide +kernel
theorem dX1_joinedRuns_64 : decode cX1_joinedRuns 64 = .ok (.invokevirtual 68, 3) := by decide +kernel
theorem dX1_joinedRuns_67 : decode cX1_joinedRuns 67 = .ok (.aload_n 0, 1) := by decide +kernel
theorem dX1_joinedRuns_68 : decode cX1_joinedRuns 68 = .ok (.iload_n 1, 1) := by decide +kernel
theorem dX1_joinedRuns_69 : decode cX1_joinedRuns 69 = .ok (.iload 4, 2) := by decide +kernel
theorem dX1_joinedRuns_71 : decode cX1_joinedRuns 71 = .ok (.iconst 1, 1) := by decide +kernel
theorem dX1_joinedRuns_72 : decode cX1_joinedRuns 72 = .ok (.isub, 1) := by decide +kernel
theorem dX1_joinedRuns_73 : decode cX1_joinedRuns 73 = .ok (.iload_n 2, 1) := by decide +kernel
theorem dX1_joinedRuns_74 : decode cX1_joinedRuns 74 = .ok (.invokevirtual 68, 3) := by decide +kernel
theorem dX1_joinedRuns_77 : decode cX1_joinedRuns 77 = .ok (.if_icmp .eq 7, 3) := by decide +kernel
theorem dX1_joinedRuns_80 : decode cX1_joinedRuns 80 = .ok (.iconst 1, 1) := by decide +kernel
theorem dX1_joinedRuns_81 : decode cX1_joinedRuns 81 = .ok (.goto 4, 3) := by decide +kernel
theorem dX1_joinedRuns_84 : decode cX1_joinedRuns 84 = .ok (.iconst 0, 1) := by decide +kernel
theorem dX1_joinedRuns_85 : decode cX1_joinedRuns 85 = .ok (.istore 5, 2) := by decide +kernel
theorem dX1_joinedRuns_87 : decode cX1_joinedRuns 87 = .ok (.iload_n 3, 1) := by decide +kernel
theorem dX1_joinedRuns_88 : decode cX1_joinedRuns 88 = .ok (.aload_n 0, 1) := by decide +kernel
theorem dX1_joinedRuns_89 : decode cX1_joinedRuns 89 = .ok (.iload_n 2, 1) := by decide +kernel
theorem dX1_joinedRuns_90 : decode cX1_joinedRuns 90 = .ok (.iconst 1, 1) := by decide +kernel
theorem dX1_joinedRuns_91 : decode cX1_joinedRuns 91 = .ok (.iload_n 1, 1) := by decide +kernel
theorem dX1_joinedRuns_92 : decode cX1_joinedRuns 92 = .ok (.iload 4, 2) := by decide +kernel
theorem dX1_joinedRuns_94 : decode cX1_joinedRuns 94 = .ok (.invokevirtual 33, 3) := by decide +kernel
theorem dX1_joinedRuns_97 : decode cX1_joinedRuns 97 = .ok (.iconst (-1), 1) := by decide +kernel
theorem dX1_joinedRuns_98 : decode cX1_joinedRuns 98 = .ok (.if_icmp .eq 12, 3) := by decide +kernel
theorem dX1_joinedRuns_101 : decode cX1_joinedRuns 101 = .ok (.iload 5, 2) := by decide +kernel
theorem dX1_joinedRuns_103 : decode cX1_joinedRuns 103 = .ok (.ifCond .eq 7, 3) := by decide +kernel
theorem dX1_joinedRuns_106 : decode cX1_joinedRuns 106 = .ok (.iconst 1, 1) := by decide +kernel
theorem dX1_joinedRuns_107 : decode cX1_joinedRuns 107 = .ok (.goto 4, 3) := by decide +kernel
theorem dX1_joinedRuns_110 : decode cX1_joinedRuns 110 = .ok (.iconst 0, 1) := by decide +kernel
theorem dX1_joinedRuns_111 : decode cX1_joinedRuns 111 = .ok (.iadd, 1) := by decide +kernel
theorem dX1_joinedRuns_112 : decode cX1_joinedRuns 112 = .ok (.istore_n 3, 1) := by decide +kernel
theorem dX1_joinedRuns_113 : decode cX1_joinedRuns 113 = .ok (.iinc 4 1, 3) := by decide +kernel
theorem dX1_joinedRuns_116 : decode cX1_joinedRuns 116 = .ok (.goto (-92), 3) := by decide +kernel
theorem dX1_joinedRuns_119 : decode cX1_joinedRuns 119 = .ok (.iload_n 3, 1) := by decide +kernel
theorem dX1_joinedRuns_120 : decode cX1_joinedRuns 120 = .ok (.ireturn, 1) := by decide +kernel
theorem dX1_rowsOf_0 : decode cX1_rowsOf 0 = .ok (.iconst 0, 1) := by decide +kernel
theorem dX1_rowsOf_1 : decode cX1_rowsOf 1 = .ok (.istore 4, 2) := by decide +kernel
theorem dX1_rowsOf_3 : decode cX1_rowsOf 3 = .ok (.iconst 0, 1) := by decide +kernel
theorem dX1_rowsOf_4 : decode cX1_rowsOf 4 = .ok (.istore 5, 2) := by decide +kernel
theorem dX1_rowsOf_6 : decode cX1_rowsOf 6 = .ok (.iload 5, 2) := by decide +kernel
theorem dX1_rowsOf_8 : decode cX1_rowsOf 8 = .ok (.bipush 60, 2) := by decide +kernel
theorem dX1_rowsOf_10 : decode cX1_rowsOf 10 = .ok (.aload_n 0, 1) := by decide +kernel
theorem dX1_rowsOf_11 : decode cX1_rowsOf 11 = .ok (.getfield 30, 3) := by decide +kernel
theorem dX1_rowsOf_14 : decode cX1_rowsOf 14 = .ok (.iconst 1, 1) := by decide +kernel
theorem dX1_rowsOf_15 : decode cX1_rowsOf 15 = .ok (.iadd, 1) := by decide +kernel
theorem dX1_rowsOf_16 : decode cX1_rowsOf 16 = .ok (.imul, 1) := by decide +kernel
theorem dX1_rowsOf_17 : decode cX1_rowsOf 17 = .ok (.if_icmp .ge 83, 3) := by decide +kernel
theorem dX1_rowsOf_20 : decode cX1_rowsOf 20 = .ok (.iload 4, 2) := by decide +kernel
theorem dX1_rowsOf_22 : decode cX1_rowsOf 22 = .ok (.iload_n 3, 1) := by decide +kernel
theorem dX1_rowsOf_23 : decode cX1_rowsOf 23 = .ok (.if_icmp .gt 77, 3) := by decide +kernel
theorem dX1_rowsOf_26 : decode cX1_rowsOf 26 = .ok (.iload 5, 2) := by decide +kernel
theorem dX1_rowsOf_28 : decode cX1_rowsOf 28 = .ok (.bipush 60, 2) := by decide +kernel
theorem dX1_rowsOf_30 : decode cX1_rowsOf 30 = .ok (.idiv, 1) := by decide +kernel
theorem dX1_rowsOf_31 : decode cX1_rowsOf 31 = .ok (.istore 6, 2) := by decide +kernel
theorem dX1_rowsOf_33 : decode cX1_rowsOf 33 = .ok (.aload_n 0, 1) := by decide +kernel
theorem dX1_rowsOf_34 : decode cX1_rowsOf 34 = .ok (.iload_n 1, 1) := by decide +kernel
theorem dX1_rowsOf_35 : decode cX1_rowsOf 35 = .ok (.iload_n 2, 1) := by decide +kernel
theorem dX1_rowsOf_36 : decode cX1_rowsOf 36 = .ok (.iload 6, 2) := by decide +kernel
theorem dX1_rowsOf_38 : decode cX1_rowsOf 38 = .ok (.iload 5, 2) := by decide +kernel
theorem dX1_rowsOf_40 : decode cX1_rowsOf 40 = .ok (.bipush 60, 2) := by decide +kernel
theorem dX1_rowsOf_42 : decode cX1_rowsOf 42 = .ok (.irem, 1) := by decide +kernel
theorem dX1_rowsOf_43 : decode cX1_rowsOf 43 = .ok (.invokevirtual 81, 3) := by decide +kernel
theorem dX1_rowsOf_46 : decode cX1_rowsOf 46 = .ok (.istore 7, 2) := by decide +kernel
theorem dX1_rowsOf_48 : decode cX1_rowsOf 48 = .ok (.iload 7, 2) := by decide +kernel
theorem dX1_rowsOf_50 : decode cX1_rowsOf 50 = .ok (.iconst (-1), 1) := by decide +kernel
theorem dX1_rowsOf_51 : decode cX1_rowsOf 51 = .ok (.if_icmp .eq 43, 3) := by decide +kernel
theorem dX1_rowsOf_54 : decode cX1_rowsOf 54 = .ok (.iload 6, 2) := by decide +kernel
theorem dX1_rowsOf_56 : decode cX1_rowsOf 56 = .ok (.ifCond .eq 23, 3) := by decide +kernel
theorem dX1_rowsOf_59 : decode cX1_rowsOf 59 = .ok (.aload_n 0, 1) := by decide +kernel
theorem dX1_rowsOf_60 : decode cX1_rowsOf 60 = .ok (.iload_n 1, 1) := by decide +kernel
theorem dX1_rowsOf_61 : decode cX1_rowsOf 61 = .ok (.iload_n 2, 1) := by decide +kernel
theorem dX1_rowsOf_62 : decode cX1_rowsOf 62 = .ok (.iload 6, 2) := by decide +kernel
theorem dX1_rowsOf_64 : decode cX1_rowsOf 64 = .ok (.iconst 1, 1) := by decide +kernel
theorem dX1_rowsOf_65 : decode cX1_rowsOf 65 = .ok (.isub, 1) := by decide +kernel
theorem dX1_rowsOf_66 : decode cX1_rowsOf 66 = .ok (.iload 5, 2) := by decide +kernel
theorem dX1_rowsOf_68 : decode cX1_rowsOf 68 = .ok (.bipush 60, 2) := by decide +kernel
theorem dX1_rowsOf_70 : decode cX1_rowsOf 70 = .ok (.irem, 1) := by decide +kernel
theorem dX1_rowsOf_71 : decode cX1_rowsOf 71 = .ok (.invokevirtual 81, 3) := by decide +kernel
theorem dX1_rowsOf_74 : decode cX1_rowsOf 74 = .ok (.iload 7, 2) := by decide +kernel
theorem dX1_rowsOf_76 : decode cX1_rowsOf 76 = .ok (.if_icmp .eq 18, 3) := by decide +kernel
theorem dX1_rowsOf_79 : decode cX1_rowsOf 79 = .ok (.aload_n 0, 1) := by decide +kernel
theorem dX1_rowsOf_80 : decode cX1_rowsOf 80 = .ok (.iload 7, 2) := by decide +kernel
theorem dX1_rowsOf_82 : decode cX1_rowsOf 82 = .ok (.putfield 84, 3) := by decide +kernel
theorem dX1_rowsOf_85 : decode cX1_rowsOf 85 = .ok (.aload_n 0, 1) := by decide +kernel
theorem dX1_rowsOf_86 : decode cX1_rowsOf 86 = .ok (.iload 6, 2) := by decide +kernel
theorem dX1_rowsOf_88 : decode cX1_rowsOf 88 = .ok (.putfield 87, 3) := by decide +kernel
theorem dX1_rowsOf_91 : decode cX1_rowsOf 91 = .ok (.iinc 4 1, 3) := by decide +kernel
theorem dX1_rowsOf_94 : decode cX1_rowsOf 94 = .ok (.iinc 5 1, 3) := by decide +kernel
theorem dX1_rowsOf_97 : decode cX1_rowsOf 97 = .ok (.goto (-91), 3) := by decide +kernel
theorem dX1_rowsOf_100 : decode cX1_rowsOf 100 = .ok (.iload 4, 2) := by decide +kernel
theorem dX1_rowsOf_102 : decode cX1_rowsOf 102 = .ok (.ireturn, 1) := by decide +kernel
theorem dX1_rows_0 : decode cX1_rows 0 = .ok (.aload_n 0, 1) := by decide +kernel
theorem dX1_rows_1 : decode cX1_rows 1 = .ok (.iload_n 1, 1) := by decide +kernel
theorem dX1_rows_2 : decode cX1_rows 2 = .ok (.iload_n 2, 1) := by decide +kernel
theorem dX1_rows_3 : decode cX1_rows 3 = .ok (.invokestatic 47, 3) := by decide +kernel
theorem dX1_rows_6 : decode cX1_rows 6 = .ok (.ifCond .eq 7, 3) := by decide +kernel
theorem dX1_rows_9 : decode cX1_rows 9 = .ok (.iconst 0, 1) := by decide +kernel
theorem dX1_rows_10 : decode cX1_rows 10 = .ok (.goto 4, 3) := by decide +kernel
theorem dX1_rows_13 : decode cX1_rows 13 = .ok (.iconst 1, 1) := by decide +kernel
theorem dX1_rows_14 : decode cX1_rows 14 = .ok (.invokevirtual 57, 3) := by decide +kernel
theorem dX1_rows_17 : decode cX1_rows 17 = .ok (.ifCond .eq 15, 3) := by decide +kernel
theorem dX1_rows_20 : decode cX1_rows 20 = .ok (.aload_n 0, 1) := by decide +kernel
theorem dX1_rows_21 : decode cX1_rows 21 = .ok (.iload_n 1, 1) := by decide +kernel
theorem dX1_rows_22 : decode cX1_rows 22 = .ok (.iload_n 2, 1) := by decide +kernel
theorem dX1_rows_23 : decode cX1_rows 23 = .ok (.sipush 3600, 3) := by decide +kernel
theorem dX1_rows_26 : decode cX1_rows 26 = .ok (.invokevirtual 90, 3) := by decide +kernel
theorem dX1_rows_29 : decode cX1_rows 29 = .ok (.goto 4, 3) := by decide +kernel
theorem dX1_rows_32 : decode cX1_rows 32 = .ok (.iconst 0, 1) := by decide +kernel
theorem dX1_rows_33 : decode cX1_rows 33 = .ok (.ireturn, 1) := by decide +kernel
theorem dX1_errorOfRow_0 : decode cX1_errorOfRow 0 = .ok (.iload_n 1, 1) := by decide +kernel
theorem dX1_errorOfRow_1 : decode cX1_errorOfRow 1 = .ok (.iload_n 2, 1) := by decide +kernel
theorem dX1_errorOfRow_2 : decode cX1_errorOfRow 2 = .ok (.invokestatic 47, 3) := by decide +kernel
theorem dX1_errorOfRow_5 : decode cX1_errorOfRow 5 = .ok (.ifCond .ne 5, 3) := by decide +kernel
theorem dX1_errorOfRow_8 : decode cX1_errorOfRow 8 = .ok (.iconst 1, 1) := by decide +kernel
theorem dX1_errorOfRow_9 : decode cX1_errorOfRow 9 = .ok (.ireturn, 1) := by decide +kernel
theorem dX1_errorOfRow_10 : decode cX1_errorOfRow 10 = .ok (.iload_n 3, 1) := by decide +kernel
theorem dX1_errorOfRow_11 : decode cX1_errorOfRow 11 = .ok (.ifCond .lt 21, 3) := by decide +kernel
theorem dX1_errorOfRow_14 : decode cX1_errorOfRow 14 = .ok (.iload_n 3, 1) := by decide +kernel
theorem dX1_errorOfRow_15 : decode cX1_errorOfRow 15 = .ok (.sipush 3600, 3) := by decide +kernel
theorem dX1_errorOfRow_18 : decode cX1_errorOfRow 18 = .ok (.if_icmp .gt 14, 3) := by decide +kernel
theorem dX1_errorOfRow_21 : decode cX1_errorOfRow 21 = .ok (.aload_n 0, 1) := by decide +kernel
theorem dX1_errorOfRow_22 : decode cX1_errorOfRow 22 = .ok (.iload_n 1, 1) := by decide +kernel
theorem dX1_errorOfRow_23 : decode cX1_errorOfRow 23 = .ok (.iload_n 2, 1) := by decide +kernel
theorem dX1_errorOfRow_24 : decode cX1_errorOfRow 24 = .ok (.iload_n 3, 1) := by decide +kernel
theorem dX1_errorOfRow_25 : decode cX1_errorOfRow 25 = .ok (.invokevirtual 90, 3) := by decide +kernel
theorem dX1_errorOfRow_28 : decode cX1_errorOfRow 28 = .ok (.iload_n 3, 1) := by decide +kernel
theorem dX1_errorOfRow_29 : decode cX1_errorOfRow 29 = .ok (.if_icmp .gt 7, 3) := by decide +kernel
theorem dX1_errorOfRow_32 : decode cX1_errorOfRow 32 = .ok (.iconst 2, 1) := by decide +kernel
theorem dX1_errorOfRow_33 : decode cX1_errorOfRow 33 = .ok (.goto 4, 3) := by decide +kernel
theorem dX1_errorOfRow_36 : decode cX1_errorOfRow 36 = .ok (.iconst 0, 1) := by decide +kernel
theorem dX1_errorOfRow_37 : decode cX1_errorOfRow 37 = .ok (.ireturn, 1) := by decide +kernel
theorem dX1_rowRun_0 : decode cX1_rowRun 0 = .ok (.aload_n 0, 1) := by decide +kernel
theorem dX1_rowRun_1 : decode cX1_rowRun 1 = .ok (.aload_n 0, 1) := by decide +kernel
theorem dX1_rowRun_2 : decode cX1_rowRun 2 = .ok (.iload_n 1, 1) := by decide +kernel
theorem dX1_rowRun_3 : decode cX1_rowRun 3 = .ok (.iload_n 2, 1) := by decide +kernel
theorem dX1_rowRun_4 : decode cX1_rowRun 4 = .ok (.iload_n 3, 1) := by decide +kernel
theorem dX1_rowRun_5 : decode cX1_rowRun 5 = .ok (.invokevirtual 93, 3) := by decide +kernel
theorem dX1_rowRun_8 : decode cX1_rowRun 8 = .ok (.invokevirtual 57, 3) := by decide +kernel
theorem dX1_rowRun_11 : decode cX1_rowRun 11 = .ok (.ifCond .eq 10, 3) := by decide +kernel
theorem dX1_rowRun_14 : decode cX1_rowRun 14 = .ok (.aload_n 0, 1) := by decide +kernel
theorem dX1_rowRun_15 : decode cX1_rowRun 15 = .ok (.getfield 84, 3) := by decide +kernel
theorem dX1_rowRun_18 : decode cX1_rowRun 18 = .ok (.goto 4, 3) := by decide +kernel
theorem dX1_rowRun_21 : decode cX1_rowRun 21 = .ok (.iconst 0, 1) := by decide +kernel
theorem dX1_rowRun_22 : decode cX1_rowRun 22 = .ok (.ireturn, 1) := by decide +kernel
theorem dX1_rowFrom_0 : decode cX1_rowFrom 0 = .ok (.aload_n 0, 1) := by decide +kernel
theorem dX1_rowFrom_1 : decode cX1_rowFrom 1 = .ok (.aload_n 0, 1) := by decide +kernel
theorem dX1_rowFrom_2 : decode cX1_rowFrom 2 = .ok (.iload_n 1, 1) := by decide +kernel
theorem dX1_rowFrom_3 : decode cX1_rowFrom 3 = .ok (.iload_n 2, 1) := by decide +kernel
theorem dX1_rowFrom_4 : decode cX1_rowFrom 4 = .ok (.iload_n 3, 1) := by decide +kernel
theorem dX1_rowFrom_5 : decode cX1_rowFrom 5 = .ok (.invokevirtual 93, 3) := by decide +kernel
theorem dX1_rowFrom_8 : decode cX1_rowFrom 8 = .ok (.invokevirtual 57, 3) := by decide +kernel
theorem dX1_rowFrom_11 : decode cX1_rowFrom 11 = .ok (.ifCond .eq 10, 3) := by decide +kernel
theorem dX1_rowFrom_14 : decode cX1_rowFrom 14 = .ok (.aload_n 0, 1) := by decide +kernel
theorem dX1_rowFrom_15 : decode cX1_rowFrom 15 = .ok (.getfield 87, 3) := by decide +kernel
theorem dX1_rowFrom_18 : decode cX1_rowFrom 18 = .ok (.goto 4, 3) := by decide +kernel
theorem dX1_rowFrom_21 : decode cX1_rowFrom 21 = .ok (.iconst 0, 1) := by decide +kernel
theorem dX1_rowFrom_22 : decode cX1_rowFrom 22 = .ok (.ireturn, 1) := by decide +kernel
theorem dX1_rowTo_0 : decode cX1_rowTo 0 = .ok (.aload_n 0, 1) := by decide +kernel
theorem dX1_rowTo_1 : decode cX1_rowTo 1 = .ok (.aload_n 0, 1) := by decide +kernel
theorem dX1_rowTo_2 : decode cX1_rowTo 2 = .ok (.iload_n 1, 1) := by decide +kernel
theorem dX1_rowTo_3 : decode cX1_rowTo 3 = .ok (.iload_n 2, 1) := by decide +kernel
theorem dX1_rowTo_4 : decode cX1_rowTo 4 = .ok (.iload_n 3, 1) := by decide +kernel
theorem dX1_rowTo_5 : decode cX1_rowTo 5 = .ok (.invokevirtual 93, 3) := by decide +kernel
theorem dX1_rowTo_8 : decode cX1_rowTo 8 = .ok (.invokevirtual 57, 3) := by decide +kernel
theorem dX1_rowTo_11 : decode cX1_rowTo 11 = .ok (.ifCond .ne 5, 3) := by decide +kernel
theorem dX1_rowTo_14 : decode cX1_rowTo 14 = .ok (.iconst 0, 1) := by decide +kernel
theorem dX1_rowTo_15 : decode cX1_rowTo 15 = .ok (.ireturn, 1) := by decide +kernel
theorem dX1_rowTo_16 : decode cX1_rowTo 16 = .ok (.aload_n 0, 1) := by decide +kernel
theorem dX1_rowTo_17 : decode cX1_rowTo 17 = .ok (.aload_n 0, 1) := by decide +kernel
theorem dX1_rowTo_18 : decode cX1_rowTo 18 = .ok (.getfield 87, 3) := by decide +kernel
theorem dX1_rowTo_21 : decode cX1_rowTo 21 = .ok (.putfield 96, 3) := by decide +kernel
theorem dX1_rowTo_24 : decode cX1_rowTo 24 = .ok (.aload_n 0, 1) := by decide +kernel
theorem dX1_rowTo_25 : decode cX1_rowTo 25 = .ok (.getfield 96, 3) := by decide +kernel
theorem dX1_rowTo_28 : decode cX1_rowTo 28 = .ok (.aload_n 0, 1) := by decide +kernel
theorem dX1_rowTo_29 : decode cX1_rowTo 29 = .ok (.getfield 30, 3) := by decide +kernel
theorem dX1_rowTo_32 : decode cX1_rowTo 32 = .ok (.if_icmp .gt 41, 3) := by decide +kernel
theorem dX1_rowTo_35 : decode cX1_rowTo 35 = .ok (.aload_n 0, 1) := by decide +kernel
theorem dX1_rowTo_36 : decode cX1_rowTo 36 = .ok (.iload_n 1, 1) := by decide +kernel
theorem dX1_rowTo_37 : decode cX1_rowTo 37 = .ok (.iload_n 2, 1) := by decide +kernel
theorem dX1_rowTo_38 : decode cX1_rowTo 38 = .ok (.aload_n 0, 1) := by decide +kernel
theorem dX1_rowTo_39 : decode cX1_rowTo 39 = .ok (.getfield 96, 3) := by decide +kernel
theorem dX1_rowTo_42 : decode cX1_rowTo 42 = .ok (.aload_n 0, 1) := by decide +kernel
theorem dX1_rowTo_43 : decode cX1_rowTo 43 = .ok (.getfield 84, 3) := by decide +kernel
theorem dX1_rowTo_46 : decode cX1_rowTo 46 = .ok (.sipush 10000, 3) := by decide +kernel
theorem dX1_rowTo_49 : decode cX1_rowTo 49 = .ok (.idiv, 1) := by decide +kernel
theorem dX1_rowTo_50 : decode cX1_rowTo 50 = .ok (.invokevirtual 81, 3) := by decide +kernel
theorem dX1_rowTo_53 : decode cX1_rowTo 53 = .ok (.aload_n 0, 1) := by decide +kernel
theorem dX1_rowTo_54 : decode cX1_rowTo 54 = .ok (.getfield 84, 3) := by decide +kernel
theorem dX1_rowTo_57 : decode cX1_rowTo 57 = .ok (.if_icmp .ne 16, 3) := by decide +kernel
theorem dX1_rowTo_60 : decode cX1_rowTo 60 = .ok (.aload_n 0, 1) := by decide +kernel
theorem dX1_rowTo_61 : decode cX1_rowTo 61 = .ok (.dup, 1) := by decide +kernel
theorem dX1_rowTo_62 : decode cX1_rowTo 62 = .ok (.getfield 96, 3) := by decide +kernel
theorem dX1_rowTo_65 : decode cX1_rowTo 65 = .ok (.iconst 1, 1) := by decide +kernel
theorem dX1_rowTo_66 : decode cX1_rowTo 66 = .ok (.iadd, 1) := by decide +kernel
theorem dX1_rowTo_67 : decode cX1_rowTo 67 = .ok (.putfield 96, 3) := by decide +kernel
theorem dX1_rowTo_70 : decode cX1_rowTo 70 = .ok (.goto (-46), 3) := by decide +kernel
theorem dX1_rowTo_73 : decode cX1_rowTo 73 = .ok (.aload_n 0, 1) := by decide +kernel
theorem dX1_rowTo_74 : decode cX1_rowTo 74 = .ok (.getfield 96, 3) := by decide +kernel
theorem dX1_rowTo_77 : decode cX1_rowTo 77 = .ok (.aload_n 0, 1) := by decide +kernel
theorem dX1_rowTo_78 : decode cX1_rowTo 78 = .ok (.getfield 30, 3) := by decide +kernel
theorem dX1_rowTo_81 : decode cX1_rowTo 81 = .ok (.if_icmp .le 7, 3) := by decide +kernel
theorem dX1_rowTo_84 : decode cX1_rowTo 84 = .ok (.iconst (-1), 1) := by decide +kernel
theorem dX1_rowTo_85 : decode cX1_rowTo 85 = .ok (.goto 7, 3) := by decide +kernel
theorem dX1_rowTo_88 : decode cX1_rowTo 88 = .ok (.aload_n 0, 1) := by decide +kernel
theorem dX1_rowTo_89 : decode cX1_rowTo 89 = .ok (.getfield 96, 3) := by decide +kernel
theorem dX1_rowTo_92 : decode cX1_rowTo 92 = .ok (.ireturn, 1) := by decide +kernel
theorem dX1_corrections_0 : decode cX1_corrections 0 = .ok (.iload_n 1, 1) := by decide +kernel
theorem dX1_corrections_1 : decode cX1_corrections 1 = .ok (.iload_n 2, 1) := by decide +kernel
theorem dX1_corrections_2 : decode cX1_corrections 2 = .ok (.invokestatic 47, 3) := by decide +kernel
theorem dX1_corrections_5 : decode cX1_corrections 5 = .ok (.ifCond .eq 29, 3) := by decide +kernel
theorem dX1_corrections_8 : decode cX1_corrections 8 = .ok (.iload_n 3, 1) := by decide +kernel
theorem dX1_corrections_9 : decode cX1_corrections 9 = .ok (.invokestatic 22, 3) := by decide +kernel
theorem dX1_corrections_12 : decode cX1_corrections 12 = .ok (.ifCond .eq 22, 3) := by decide +kernel
theorem dX1_corrections_15 : decode cX1_corrections 15 = .ok (.iload 4, 2) := by decide +kernel
theorem dX1_corrections_17 : decode cX1_corrections 17 = .ok (.invokestatic 22, 3) := by decide +kernel
theorem dX1_corrections_20 : decode cX1_corrections 20 = .ok (.ifCond .eq 14, 3) := by decide +kernel
theorem dX1_corrections_23 : decode cX1_corrections 23 = .ok (.iload 5, 2) := by decide +kernel
theorem dX1_corrections_25 : decode cX1_corrections 25 = .ok (.iload 4, 2) := by decide +kernel
theorem dX1_corrections_27 : decode cX1_corrections 27 = .ok (.if_icmp .lt 7, 3) := by decide +kernel
theorem dX1_corrections_30 : decode cX1_corrections 30 = .ok (.iconst 1, 1) := by decide +kernel
theorem dX1_corrections_31 : decode cX1_corrections 31 = .ok (.goto 4, 3) := by decide +kernel
theorem dX1_corrections_34 : decode cX1_corrections 34 = .ok (.iconst 0, 1) := by decide +kernel
theorem dX1_corrections_35 : decode cX1_corrections 35 = .ok (.istore 6, 2) := by decide +kernel
theorem dX1_corrections_37 : decode cX1_corrections 37 = .ok (.aload_n 0, 1) := by decide +kernel
theorem dX1_corrections_38 : decode cX1_corrections 38 = .ok (.aload_n 0, 1) := by decide +kernel
theorem dX1_corrections_39 : decode cX1_corrections 39 = .ok (.iload 6, 2) := by decide +kernel
theorem dX1_corrections_41 : decode cX1_corrections 41 = .ok (.iload 5, 2) := by decide +kernel
theorem dX1_corrections_43 : decode cX1_corrections 43 = .ok (.invokevirtual 64, 3) := by decide +kernel
theorem dX1_corrections_46 : decode cX1_corrections 46 = .ok (.invokevirtual 57, 3) := by decide +kernel
theorem dX1_corrections_49 : decode cX1_corrections 49 = .ok (.ifCond .ne 5, 3) := by decide +kernel
theorem dX1_corrections_52 : decode cX1_corrections 52 = .ok (.iconst 0, 1) := by decide +kernel
theorem dX1_corrections_53 : decode cX1_corrections 53 = .ok (.ireturn, 1) := by decide +kernel
theorem dX1_corrections_54 : decode cX1_corrections 54 = .ok (.iconst 0, 1) := by decide +kernel
theorem dX1_corrections_55 : decode cX1_corrections 55 = .ok (.istore 7, 2) := by decide +kernel
theorem dX1_corrections_57 : decode cX1_corrections 57 = .ok (.iload 4, 2) := by decide +kernel
theorem dX1_corrections_59 : decode cX1_corrections 59 = .ok (.iconst 1, 1) := by decide +kernel
theorem dX1_corrections_60 : decode cX1_corrections 60 = .ok (.iadd, 1) := by decide +kernel
theorem dX1_corrections_61 : decode cX1_corrections 61 = .ok (.istore 8, 2) := by decide +kernel
theorem dX1_corrections_63 : decode cX1_corrections 63 = .ok (.iload 8, 2) := by decide +kernel
theorem dX1_corrections_65 : decode cX1_corrections 65 = .ok (.iload 5, 2) := by decide +kernel
theorem dX1_corrections_67 : decode cX1_corrections 67 = .ok (.if_icmp .gt 42, 3) := by decide +kernel
theorem dX1_corrections_70 : decode cX1_corrections 70 = .ok (.iload 7, 2) := by decide +kernel
theorem dX1_corrections_72 : decode cX1_corrections 72 = .ok (.aload_n 0, 1) := by decide +kernel
theorem dX1_corrections_73 : decode cX1_corrections 73 = .ok (.iload 8, 2) := by decide +kernel
theorem dX1_corrections_75 : decode cX1_corrections 75 = .ok (.iload_n 1, 1) := by decide +kernel
theorem dX1_corrections_76 : decode cX1_corrections 76 = .ok (.iload_n 2, 1) := by decide +kernel
theorem dX1_corrections_77 : decode cX1_corrections 77 = .ok (.iload_n 3, 1) := by decide +kernel
theorem dX1_corrections_78 : decode cX1_corrections 78 = .ok (.invokevirtual 33, 3) := by decide +kernel
theorem dX1_corrections_81 : decode cX1_corrections 81 = .ok (.aload_n 0, 1) := by decide +kernel
theorem dX1_corrections_82 : decode cX1_corrections 82 = .ok (.iload 8, 2) := by decide +kernel
theorem dX1_corrections_84 : decode cX1_corrections 84 = .ok (.iconst 1, 1) := by decide +kernel
theorem dX1_corrections_85 : decode cX1_corrections 85 = .ok (.isub, 1) := by decide +kernel
theorem dX1_corrections_86 : decode cX1_corrections 86 = .ok (.iload_n 1, 1) := by decide +kernel
theorem dX1_corrections_87 : decode cX1_corrections 87 = .ok (.iload_n 2, 1) := by decide +kernel
theorem dX1_corrections_88 : decode cX1_corrections 88 = .ok (.iload_n 3, 1) := by decide +kernel
theorem dX1_corrections_89 : decode cX1_corrections 89 = .ok (.invokevirtual 33, 3) := by decide +kernel
theorem dX1_corrections_92 : decode cX1_corrections 92 = .ok (.if_icmp .ne 7, 3) := by decide +kernel
theorem dX1_corrections_95 : decode cX1_corrections 95 = .ok (.iconst 0, 1) := by decide +kernel
theorem dX1_corrections_96 : decode cX1_corrections 96 = .ok (.goto 4, 3) := by decide +kernel
theorem dX1_corrections_99 : decode cX1_corrections 99 = .ok (.iconst 1, 1) := by decide +kernel
theorem dX1_corrections_100 : decode cX1_corrections 100 = .ok (.iadd, 1) := by decide +kernel
theorem dX1_corrections_101 : decode cX1_corrections 101 = .ok (.istore 7, 2) := by decide +kernel
theorem dX1_corrections_103 : decode cX1_corrections 103 = .ok (.iinc 8 1, 3) := by decide +kernel
theorem dX1_corrections_106 : decode cX1_corrections 106 = .ok (.goto (-43), 3) := by decide +kernel
theorem dX1_corrections_109 : decode cX1_corrections 109 = .ok (.iload 7, 2) := by decide +kernel
theorem dX1_corrections_111 : decode cX1_corrections 111 = .ok (.ireturn, 1) := by decide +kernel
theorem dX1_longest_0 : decode cX1_longest 0 = .ok (.aload_n 0, 1) := by decide +kernel
theorem dX1_longest_1 : decode cX1_longest 1 = .ok (.aload_n 0, 1) := by decide +kernel
theorem dX1_longest_2 : decode cX1_longest 2 = .ok (.iload_n 1, 1) := by decide +kernel
theorem dX1_longest_3 : decode cX1_longest 3 = .ok (.iload_n 2, 1) := by decide +kernel
theorem dX1_longest_4 : decode cX1_longest 4 = .ok (.invokestatic 47, 3) := by decide +kernel
theorem dX1_longest_7 : decode cX1_longest 7 = .ok (.iload_n 3, 1) := by decide +kernel
theorem dX1_longest_8 : decode cX1_longest 8 = .ok (.invokevirtual 64, 3) := by decide +kernel
theorem dX1_longest_11 : decode cX1_longest 11 = .ok (.invokevirtual 57, 3) := by decide +kernel
theorem dX1_longest_14 : decode cX1_longest 14 = .ok (.ifCond .ne 5, 3) := by decide +kernel
theorem dX1_longest_17 : decode cX1_longest 17 = .ok (.iconst 0, 1) := by decide +kernel
theorem dX1_longest_18 : decode cX1_longest 18 = .ok (.ireturn, 1) := by decide +kernel
theorem dX1_longest_19 : decode cX1_longest 19 = .ok (.iconst 0, 1) := by decide +kernel
theorem dX1_longest_20 : decode cX1_longest 20 = .ok (.istore 4, 2) := by decide +kernel
theorem dX1_longest_22 : decode cX1_longest 22 = .ok (.iconst 0, 1) := by decide +kernel
theorem dX1_longest_23 : decode cX1_longest 23 = .ok (.istore 5, 2) := by decide +kernel
theorem dX1_longest_25 : decode cX1_longest 25 = .ok (.iload 5, 2) := by decide +kernel
theorem dX1_longest_27 : decode cX1_longest 27 = .ok (.bipush 60, 2) := by decide +kernel
theorem dX1_longest_29 : decode cX1_longest 29 = .ok (.if_icmp .ge 55, 3) := by decide +kernel
theorem dX1_longest_32 : decode cX1_longest 32 = .ok (.aload_n 0, 1) := by decide +kernel
theorem dX1_longest_33 : decode cX1_longest 33 = .ok (.iload_n 1, 1) := by decide +kernel
theorem dX1_longest_34 : decode cX1_longest 34 = .ok (.iload_n 2, 1) := by decide +kernel
theorem dX1_longest_35 : decode cX1_longest 35 = .ok (.iload_n 3, 1) := by decide +kernel
theorem dX1_longest_36 : decode cX1_longest 36 = .ok (.iload 5, 2) := by decide +kernel
theorem dX1_longest_38 : decode cX1_longest 38 = .ok (.invokevirtual 72, 3) := by decide +kernel
theorem dX1_longest_41 : decode cX1_longest 41 = .ok (.ifCond .eq 18, 3) := by decide +kernel
theorem dX1_longest_44 : decode cX1_longest 44 = .ok (.aload_n 0, 1) := by decide +kernel
theorem dX1_longest_45 : decode cX1_longest 45 = .ok (.iload_n 1, 1) := by decide +kernel
theorem dX1_longest_46 : decode cX1_longest 46 = .ok (.iload_n 2, 1) := by decide +kernel
theorem dX1_longest_47 : decode cX1_longest 47 = .ok (.iload_n 3, 1) := by decide +kernel
theorem dX1_longest_48 : decode cX1_longest 48 = .ok (.iload 5, 2) := by decide +kernel
theorem dX1_longest_50 : decode cX1_longest 50 = .ok (.invokevirtual 75, 3) := by decide +kernel
theorem dX1_longest_53 : decode cX1_longest 53 = .ok (.iload 5, 2) := by decide +kernel
theorem dX1_longest_55 : decode cX1_longest 55 = .ok (.isub, 1) := by decide +kernel
theorem dX1_longest_56 : decode cX1_longest 56 = .ok (.goto 4, 3) := by decide +kernel
theorem dX1_longest_59 : decode cX1_longest 59 = .ok (.iconst 0, 1) := by decide +kernel
theorem dX1_longest_60 : decode cX1_longest 60 = .ok (.istore 6, 2) := by decide +kernel
theorem dX1_longest_62 : decode cX1_longest 62 = .ok (.iload 6, 2) := by decide +kernel
theorem dX1_longest_64 : decode cX1_longest 64 = .ok (.iload 4, 2) := by decide +kernel
theorem dX1_longest_66 : decode cX1_longest 66 = .ok (.if_icmp .le 8, 3) := by decide +kernel
theorem dX1_longest_69 : decode cX1_longest 69 = .ok (.iload 6, 2) := by decide +kernel
theorem dX1_longest_71 : decode cX1_longest 71 = .ok (.goto 5, 3) := by decide +kernel
theorem dX1_longest_74 : decode cX1_longest 74 = .ok (.iload 4, 2) := by decide +kernel
theorem dX1_longest_76 : decode cX1_longest 76 = .ok (.istore 4, 2) := by decide +kernel
theorem dX1_longest_78 : decode cX1_longest 78 = .ok (.iinc 5 1, 3) := by decide +kernel
theorem dX1_longest_81 : decode cX1_longest 81 = .ok (.goto (-56), 3) := by decide +kernel
theorem dX1_longest_84 : decode cX1_longest 84 = .ok (.iload 4, 2) := by decide +kernel
theorem dX1_longest_86 : decode cX1_longest 86 = .ok (.ireturn, 1) := by decide +kernel
theorem dX1_average_0 : decode cX1_average 0 = .ok (.aload_n 0, 1) := by decide +kernel
theorem dX1_average_1 : decode cX1_average 1 = .ok (.iconst 0, 1) := by decide +kernel
theorem dX1_average_2 : decode cX1_average 2 = .ok (.iload_n 1, 1) := by decide +kernel
theorem dX1_average_3 : decode cX1_average 3 = .ok (.invokestatic 47, 3) := by decide +kernel
theorem dX1_average_6 : decode cX1_average 6 = .ok (.iload_n 2, 1) := by decide +kernel
theorem dX1_average_7 : decode cX1_average 7 = .ok (.invokevirtual 64, 3) := by decide +kernel
theorem dX1_average_10 : decode cX1_average 10 = .ok (.istore_n 3, 1) := by decide +kernel
theorem dX1_average_11 : decode cX1_average 11 = .ok (.iconst 0, 1) := by decide +kernel
theorem dX1_average_12 : decode cX1_average 12 = .ok (.istore 4, 2) := by decide +kernel
theorem dX1_average_14 : decode cX1_average 14 = .ok (.iconst 0, 1) := by decide +kernel
theorem dX1_average_15 : decode cX1_average 15 = .ok (.istore 5, 2) := by decide +kernel
theorem dX1_average_17 : decode cX1_average 17 = .ok (.iconst 0, 1) := by decide +kernel
theorem dX1_average_18 : decode cX1_average 18 = .ok (.istore 6, 2) := by decide +kernel
theorem dX1_average_20 : decode cX1_average 20 = .ok (.iload 6, 2) := by decide +kernel
theorem dX1_average_22 : decode cX1_average 22 = .ok (.bipush 60, 2) := by decide +kernel
theorem dX1_average_24 : decode cX1_average 24 = .ok (.if_icmp .ge 57, 3) := by decide +kernel
theorem dX1_average_27 : decode cX1_average 27 = .ok (.iload_n 3, 1) := by decide +kernel
theorem dX1_average_28 : decode cX1_average 28 = .ok (.ifCond .ne 53, 3) := by decide +kernel
theorem dX1_average_31 : decode cX1_average 31 = .ok (.aload_n 0, 1) := by decide +kernel
theorem dX1_average_32 : decode cX1_average 32 = .ok (.iload_n 2, 1) := by decide +kernel
theorem dX1_average_33 : decode cX1_average 33 = .ok (.iconst 0, 1) := by decide +kernel
theorem dX1_average_34 : decode cX1_average 34 = .ok (.iload_n 1, 1) := by decide +kernel
theorem dX1_average_35 : decode cX1_average 35 = .ok (.iload 6, 2) := by decide +kernel
theorem dX1_average_37 : decode cX1_average 37 = .ok (.invokevirtual 33, 3) := by decide +kernel
theorem dX1_average_40 : decode cX1_average 40 = .ok (.istore 7, 2) := by decide +kernel
theorem dX1_average_42 : decode cX1_average 42 = .ok (.iload 4, 2) := by decide +kernel
theorem dX1_average_44 : decode cX1_average 44 = .ok (.iload 7, 2) := by decide +kernel
theorem dX1_average_46 : decode cX1_average 46 = .ok (.iconst (-1), 1) := by decide +kernel
theorem dX1_average_47 : decode cX1_average 47 = .ok (.if_icmp .ne 7, 3) := by decide +kernel
theorem dX1_average_50 : decode cX1_average 50 = .ok (.iconst 0, 1) := by decide +kernel
theorem dX1_average_51 : decode cX1_average 51 = .ok (.goto 5, 3) := by decide +kernel
theorem dX1_average_54 : decode cX1_average 54 = .ok (.iload 7, 2) := by decide +kernel
theorem dX1_average_56 : decode cX1_average 56 = .ok (.iadd, 1) := by decide +kernel
theorem dX1_average_57 : decode cX1_average 57 = .ok (.istore 4, 2) := by decide +kernel
theorem dX1_average_59 : decode cX1_average 59 = .ok (.iload 5, 2) := by decide +kernel
theorem dX1_average_61 : decode cX1_average 61 = .ok (.iload 7, 2) := by decide +kernel
theorem dX1_average_63 : decode cX1_average 63 = .ok (.iconst (-1), 1) := by decide +kernel
theorem dX1_average_64 : decode cX1_average 64 = .ok (.if_icmp .ne 7, 3) := by decide +kernel
theorem dX1_average_67 : decode cX1_average 67 = .ok (.iconst 0, 1) := by decide +kernel
theorem dX1_average_68 : decode cX1_average 68 = .ok (.goto 4, 3) := by decide +kernel
theorem dX1_average_71 : decode cX1_average 71 = .ok (.iconst 1, 1) := by decide +kernel
theorem dX1_average_72 : decode cX1_average 72 = .ok (.iadd, 1) := by decide +kernel
theorem dX1_average_73 : decode cX1_average 73 = .ok (.istore 5, 2) := by decide +kernel
theorem dX1_average_75 : decode cX1_average 75 = .ok (.iinc 6 1, 3) := by decide +kernel
theorem dX1_average_78 : decode cX1_average 78 = .ok (.goto (-58), 3) := by decide +kernel
theorem dX1_average_81 : decode cX1_average 81 = .ok (.aload_n 0, 1) := by decide +kernel
theorem dX1_average_82 : decode cX1_average 82 = .ok (.iload_n 3, 1) := by decide +kernel
theorem dX1_average_83 : decode cX1_average 83 = .ok (.ifCond .le 7, 3) := by decide +kernel
theorem dX1_average_86 : decode cX1_average 86 = .ok (.iload_n 3, 1) := by decide +kernel
theorem dX1_average_87 : decode cX1_average 87 = .ok (.goto 13, 3) := by decide +kernel
theorem dX1_average_90 : decode cX1_average 90 = .ok (.iload 5, 2) := by decide +kernel
theorem dX1_average_92 : decode cX1_average 92 = .ok (.ifCond .ne 7, 3) := by decide +kernel
theorem dX1_average_95 : decode cX1_average 95 = .ok (.iconst 3, 1) := by decide +kernel
theorem dX1_average_96 : decode cX1_average 96 = .ok (.goto 4, 3) := by decide +kernel
theorem dX1_average_99 : decode cX1_average 99 = .ok (.iconst 0, 1) := by decide +kernel
theorem dX1_average_100 : decode cX1_average 100 = .ok (.invokevirtual 57, 3) := by decide +kernel
theorem dX1_average_103 : decode cX1_average 103 = .ok (.ifCond .eq 13, 3) := by decide +kernel
theorem dX1_average_106 : decode cX1_average 106 = .ok (.iload 4, 2) := by decide +kernel
theorem dX1_average_108 : decode cX1_average 108 = .ok (.i2f, 1) := by decide +kernel
theorem dX1_average_109 : decode cX1_average 109 = .ok (.iload 5, 2) := by decide +kernel
theorem dX1_average_111 : decode cX1_average 111 = .ok (.i2f, 1) := by decide +kernel
theorem dX1_average_112 : decode cX1_average 112 = .ok (.fdiv, 1) := by decide +kernel
theorem dX1_average_113 : decode cX1_average 113 = .ok (.goto 4, 3) := by decide +kernel
theorem dX1_average_116 : decode cX1_average 116 = .ok (.fconst 0, 1) := by decide +kernel
theorem dX1_average_117 : decode cX1_average 117 = .ok (.freturn, 1) := by decide +kernel
theorem dJ9_max_7cf53_0 : decode cJ9_max_7cf53 0 = .ok (.iload_n 0, 1) := by decide +kernel
theorem dJ9_max_7cf53_1 : decode cJ9_max_7cf53 1 = .ok (.iload_n 1, 1) := by decide +kernel
theorem dJ9_max_7cf53_2 : decode cJ9_max_7cf53 2 = .ok (.if_icmp .lt 7, 3) := by decide +kernel
theorem dJ9_max_7cf53_5 : decode cJ9_max_7cf53 5 = .ok (.iload_n 0, 1) := by decide +kernel
theorem dJ9_max_7cf53_6 : decode cJ9_max_7cf53 6 = .ok (.goto 4, 3) := by decide +kernel
theorem dJ9_max_7cf53_9 : decode cJ9_max_7cf53 9 = .ok (.iload_n 1, 1) := by decide +kernel
theorem dJ9_max_7cf53_10 : decode cJ9_max_7cf53 10 = .ok (.ireturn, 1) := by decide +kernel
theorem dL_put_0 : decode cL_put 0 = .ok (.aload 6, 2) := by decide +kernel
theorem dL_put_2 : decode cL_put 2 = .ok (.iconst 0, 1) := by decide +kernel
theorem dL_put_3 : decode cL_put 3 = .ok (.aload_n 0, 1) := by decide +kernel
theorem dL_put_4 : decode cL_put 4 = .ok (.iload_n 1, 1) := by decide +kernel
theorem dL_put_5 : decode cL_put 5 = .ok (.iload_n 2, 1) := by decide +kernel
theorem dL_put_6 : decode cL_put 6 = .ok (.iload_n 3, 1) := by decide +kernel
theorem dL_put_7 : decode cL_put 7 = .ok (.iload 4, 2) := by decide +kernel
theorem dL_put_9 : decode cL_put 9 = .ok (.iload 5, 2) := by decide +kernel
theorem dL_put_11 : decode cL_put 11 = .ok (.invokevirtual 7, 3) := by decide +kernel
theorem dL_put_14 : decode cL_put 14 = .ok (.i2l, 1) := by decide +kernel
theorem dL_put_15 : decode cL_put 15 = .ok (.lastore, 1) := by decide +kernel
theorem dL_put_16 : decode cL_put 16 = .ok (.goto 11, 3) := by decide +kernel
theorem dL_put_19 : decode cL_put 19 = .ok (.astore 7, 2) := by decide +kernel
theorem dL_put_21 : decode cL_put 21 = .ok (.iconst 1, 1) := by decide +kernel
theorem dL_put_22 : decode cL_put 22 = .ok (.ireturn, 1) := by decide +kernel
theorem dL_put_23 : decode cL_put 23 = .ok (.astore 7, 2) := by decide +kernel
theorem dL_put_25 : decode cL_put 25 = .ok (.iconst 2, 1) := by decide +kernel
theorem dL_put_26 : decode cL_put 26 = .ok (.ireturn, 1) := by decide +kernel
theorem dL_put_27 : decode cL_put 27 = .ok (.iconst 0, 1) := by decide +kernel
theorem dL_put_28 : decode cL_put 28 = .ok (.ireturn, 1) := by decide +kernel
theorem dL_erase_0 : decode cL_erase 0 = .ok (.aload 5, 2) := by decide +kernel
theorem dL_erase_2 : decode cL_erase 2 = .ok (.iconst 0, 1) := by decide +kernel
theorem dL_erase_3 : decode cL_erase 3 = .ok (.aload_n 0, 1) := by decide +kernel
theorem dL_erase_4 : decode cL_erase 4 = .ok (.iload_n 1, 1) := by decide +kernel
theorem dL_erase_5 : decode cL_erase 5 = .ok (.iload_n 2, 1) := by decide +kernel
theorem dL_erase_6 : decode cL_erase 6 = .ok (.iload_n 3, 1) := by decide +kernel
theorem dL_erase_7 : decode cL_erase 7 = .ok (.iload 4, 2) := by decide +kernel
theorem dL_erase_9 : decode cL_erase 9 = .ok (.invokevirtual 17, 3) := by decide +kernel
theorem dL_erase_12 : decode cL_erase 12 = .ok (.i2l, 1) := by decide +kernel
theorem dL_erase_13 : decode cL_erase 13 = .ok (.lastore, 1) := by decide +kernel
theorem dL_erase_14 : decode cL_erase 14 = .ok (.goto 11, 3) := by decide +kernel
theorem dL_erase_17 : decode cL_erase 17 = .ok (.astore 6, 2) := by decide +kernel
theorem dL_erase_19 : decode cL_erase 19 = .ok (.iconst 1, 1) := by decide +kernel
theorem dL_erase_20 : decode cL_erase 20 = .ok (.ireturn, 1) := by decide +kernel
theorem dL_erase_21 : decode cL_erase 21 = .ok (.astore 6, 2) := by decide +kernel
theorem dL_erase_23 : decode cL_erase 23 = .ok (.iconst 2, 1) := by decide +kernel
theorem dL_erase_24 : decode cL_erase 24 = .ok (.ireturn, 1) := by decide +kernel
theorem dL_erase_25 : decode cL_erase 25 = .ok (.iconst 0, 1) := by decide +kernel
theorem dL_erase_26 : decode cL_erase 26 = .ok (.ireturn, 1) := by decide +kernel
theorem dL_eraseAll_0 : decode cL_eraseAll 0 = .ok (.aload 4, 2) := by decide +kernel
theorem dL_eraseAll_2 : decode cL_eraseAll 2 = .ok (.iconst 0, 1) := by decide +kernel
theorem dL_eraseAll_3 : decode cL_eraseAll 3 = .ok (.aload_n 0, 1) := by decide +kernel
theorem dL_eraseAll_4 : decode cL_eraseAll 4 = .ok (.iload_n 1, 1) := by decide +kernel
theorem dL_eraseAll_5 : decode cL_eraseAll 5 = .ok (.iload_n 2, 1) := by decide +kernel
theorem dL_eraseAll_6 : decode cL_eraseAll 6 = .ok (.iload_n 3, 1) := by decide +kernel
theorem dL_eraseAll_7 : decode cL_eraseAll 7 = .ok (.invokevirtual 21, 3) := by decide +kernel
theorem dL_eraseAll_10 : decode cL_eraseAll 10 = .ok (.i2l, 1) := by decide +kernel
theorem dL_eraseAll_11 : decode cL_eraseAll 11 = .ok (.lastore, 1) := by decide +kernel
theorem dL_eraseAll_12 : decode cL_eraseAll 12 = .ok (.goto 7, 3) := by decide +kernel
theorem dL_eraseAll_15 : decode cL_eraseAll 15 = .ok (.astore 5, 2) := by decide +kernel
theorem dL_eraseAll_17 : decode cL_eraseAll 17 = .ok (.iconst 1, 1) := by decide +kernel
theorem dL_eraseAll_18 : decode cL_eraseAll 18 = .ok (.ireturn, 1) := by decide +kernel
theorem dL_eraseAll_19 : decode cL_eraseAll 19 = .ok (.iconst 0, 1) := by decide +kernel
theorem dL_eraseAll_20 : decode cL_eraseAll 20 = .ok (.ireturn, 1) := by decide +kernel
theorem dL_restore_0 : decode cL_restore 0 = .ok (.aload 4, 2) := by decide +kernel
theorem dL_restore_2 : decode cL_restore 2 = .ok (.iconst 0, 1) := by decide +kernel
theorem dL_restore_3 : decode cL_restore 3 = .ok (.aload_n 0, 1) := by decide +kernel
theorem dL_restore_4 : decode cL_restore 4 = .ok (.iload_n 1, 1) := by decide +kernel
theorem dL_restore_5 : decode cL_restore 5 = .ok (.iload_n 2, 1) := by decide +kernel
theorem dL_restore_6 : decode cL_restore 6 = .ok (.iload_n 3, 1) := by decide +kernel
theorem dL_restore_7 : decode cL_restore 7 = .ok (.invokevirtual 25, 3) := by decide +kernel
theorem dL_restore_10 : decode cL_restore 10 = .ok (.i2l, 1) := by decide +kernel
theorem dL_restore_11 : decode cL_restore 11 = .ok (.lastore, 1) := by decide +kernel
theorem dL_restore_12 : decode cL_restore 12 = .ok (.goto 15, 3) := by decide +kernel
theorem dL_restore_15 : decode cL_restore 15 = .ok (.astore 5, 2) := by decide +kernel
theorem dL_restore_17 : decode cL_restore 17 = .ok (.iconst 1, 1) := by decide +kernel
theorem dL_restore_18 : decode cL_restore 18 = .ok (.ireturn, 1) := by decide +kernel
theorem dL_restore_19 : decode cL_restore 19 = .ok (.astore 5, 2) := by decide +kernel
theorem dL_restore_21 : decode cL_restore 21 = .ok (.iconst 2, 1) := by decide +kernel
theorem dL_restore_22 : decode cL_restore 22 = .ok (.ireturn, 1) := by decide +kernel
theorem dL_restore_23 : decode cL_restore 23 = .ok (.astore 5, 2) := by decide +kernel
theorem dL_restore_25 : decode cL_restore 25 = .ok (.iconst 3, 1) := by decide +kernel
theorem dL_restore_26 : decode cL_restore 26 = .ok (.ireturn, 1) := by decide +kernel
theorem dL_restore_27 : decode cL_restore 27 = .ok (.iconst 0, 1) := by decide +kernel
theorem dL_restore_28 : decode cL_restore 28 = .ok (.ireturn, 1) := by decide +kernel
theorem dL_pass_0 : decode cL_pass 0 = .ok (.aload_n 2, 1) := by decide +kernel
theorem dL_pass_1 : decode cL_pass 1 = .ok (.iconst 0, 1) := by decide +kernel
theorem dL_pass_2 : decode cL_pass 2 = .ok (.aload_n 0, 1) := by decide +kernel
theorem dL_pass_3 : decode cL_pass 3 = .ok (.iload_n 1, 1) := by decide +kernel
theorem dL_pass_4 : decode cL_pass 4 = .ok (.invokevirtual 30, 3) := by decide +kernel
theorem dL_pass_7 : decode cL_pass 7 = .ok (.i2l, 1) := by decide +kernel
theorem dL_pass_8 : decode cL_pass 8 = .ok (.lastore, 1) := by decide +kernel
theorem dL_pass_9 : decode cL_pass 9 = .ok (.goto 9, 3) := by decide +kernel
theorem dL_pass_12 : decode cL_pass 12 = .ok (.astore_n 3, 1) := by decide +kernel
theorem dL_pass_13 : decode cL_pass 13 = .ok (.iconst 1, 1) := by decide +kernel
theorem dL_pass_14 : decode cL_pass 14 = .ok (.ireturn, 1) := by decide +kernel
theorem dL_pass_15 : decode cL_pass 15 = .ok (.astore_n 3, 1) := by decide +kernel
theorem dL_pass_16 : decode cL_pass 16 = .ok (.iconst 2, 1) := by decide +kernel
theorem dL_pass_17 : decode cL_pass 17 = .ok (.ireturn, 1) := by decide +kernel
theorem dL_pass_18 : decode cL_pass 18 = .ok (.iconst 0, 1) := by decide +kernel
theorem dL_pass_19 : decode cL_pass 19 = .ok (.ireturn, 1) := by decide +kernel
theorem dL_value_0 : decode cL_value 0 = .ok (.aload 5, 2) := by decide +kernel
theorem dL_value_2 : decode cL_value 2 = .ok (.iconst 0, 1) := by decide +kernel
theorem dL_value_3 : decode cL_value 3 = .ok (.aload_n 0, 1) := by decide +kernel
theorem dL_value_4 : decode cL_value 4 = .ok (.iload_n 1, 1) := by decide +kernel
theorem dL_value_5 : decode cL_value 5 = .ok (.iload_n 2, 1) := by decide +kernel
theorem dL_value_6 : decode cL_value 6 = .ok (.iload_n 3, 1) := by decide +kernel
theorem dL_value_7 : decode cL_value 7 = .ok (.iload 4, 2) := by decide +kernel
theorem dL_value_9 : decode cL_value 9 = .ok (.invokevirtual 34, 3) := by decide +kernel
theorem dL_value_12 : decode cL_value 12 = .ok (.i2l, 1) := by decide +kernel
theorem dL_value_13 : decode cL_value 13 = .ok (.lastore, 1) := by decide +kernel
theorem dL_value_14 : decode cL_value 14 = .ok (.goto 11, 3) := by decide +kernel
theorem dL_value_17 : decode cL_value 17 = .ok (.astore 6, 2) := by decide +kernel
theorem dL_value_19 : decode cL_value 19 = .ok (.iconst 1, 1) := by decide +kernel
theorem dL_value_20 : decode cL_value 20 = .ok (.ireturn, 1) := by decide +kernel
theorem dL_value_21 : decode cL_value 21 = .ok (.astore 6, 2) := by decide +kernel
theorem dL_value_23 : decode cL_value 23 = .ok (.iconst 2, 1) := by decide +kernel
theorem dL_value_24 : decode cL_value 24 = .ok (.ireturn, 1) := by decide +kernel
theorem dL_value_25 : decode cL_value 25 = .ok (.iconst 0, 1) := by decide +kernel
theorem dL_value_26 : decode cL_value 26 = .ok (.ireturn, 1) := by decide +kernel
theorem dL_keys_0 : decode cL_keys 0 = .ok (.aload 4, 2) := by decide +kernel
theorem dL_keys_2 : decode cL_keys 2 = .ok (.iconst 0, 1) := by decide +kernel
theorem dL_keys_3 : decode cL_keys 3 = .ok (.aload_n 0, 1) := by decide +kernel
theorem dL_keys_4 : decode cL_keys 4 = .ok (.iload_n 1, 1) := by decide +kernel
theorem dL_keys_5 : decode cL_keys 5 = .ok (.iload_n 2, 1) := by decide +kernel
theorem dL_keys_6 : decode cL_keys 6 = .ok (.iload_n 3, 1) := by decide +kernel
theorem dL_keys_7 : decode cL_keys 7 = .ok (.invokevirtual 37, 3) := by decide +kernel
theorem dL_keys_10 : decode cL_keys 10 = .ok (.i2l, 1) := by decide +kernel
theorem dL_keys_11 : decode cL_keys 11 = .ok (.lastore, 1) := by decide +kernel
theorem dL_keys_12 : decode cL_keys 12 = .ok (.goto 11, 3) := by decide +kernel
theorem dL_keys_15 : decode cL_keys 15 = .ok (.astore 5, 2) := by decide +kernel
theorem dL_keys_17 : decode cL_keys 17 = .ok (.iconst 1, 1) := by decide +kernel
theorem dL_keys_18 : decode cL_keys 18 = .ok (.ireturn, 1) := by decide +kernel
theorem dL_keys_19 : decode cL_keys 19 = .ok (.astore 5, 2) := by decide +kernel
theorem dL_keys_21 : decode cL_keys 21 = .ok (.iconst 2, 1) := by decide +kernel
theorem dL_keys_22 : decode cL_keys 22 = .ok (.ireturn, 1) := by decide +kernel
theorem dL_keys_23 : decode cL_keys 23 = .ok (.iconst 0, 1) := by decide +kernel
theorem dL_keys_24 : decode cL_keys 24 = .ok (.ireturn, 1) := by decide +kernel
theorem dL_joined_0 : decode cL_joined 0 = .ok (.aload 4, 2) := by decide +kernel
theorem dL_joined_2 : decode cL_joined 2 = .ok (.iconst 0, 1) := by decide +kernel
theorem dL_joined_3 : decode cL_joined 3 = .ok (.aload_n 0, 1) := by decide +kernel
theorem dL_joined_4 : decode cL_joined 4 = .ok (.iload_n 1, 1) := by decide +kernel
theorem dL_joined_5 : decode cL_joined 5 = .ok (.iload_n 2, 1) := by decide +kernel
theorem dL_joined_6 : decode cL_joined 6 = .ok (.iload_n 3, 1) := by decide +kernel
theorem dL_joined_7 : decode cL_joined 7 = .ok (.invokevirtual 40, 3) := by decide +kernel
theorem dL_joined_10 : decode cL_joined 10 = .ok (.i2l, 1) := by decide +kernel
theorem dL_joined_11 : decode cL_joined 11 = .ok (.lastore, 1) := by decide +kernel
theorem dL_joined_12 : decode cL_joined 12 = .ok (.goto 11, 3) := by decide +kernel
theorem dL_joined_15 : decode cL_joined 15 = .ok (.astore 5, 2) := by decide +kernel
theorem dL_joined_17 : decode cL_joined 17 = .ok (.iconst 1, 1) := by decide +kernel
theorem dL_joined_18 : decode cL_joined 18 = .ok (.ireturn, 1) := by decide +kernel
theorem dL_joined_19 : decode cL_joined 19 = .ok (.astore 5, 2) := by decide +kernel
theorem dL_joined_21 : decode cL_joined 21 = .ok (.iconst 2, 1) := by decide +kernel
theorem dL_joined_22 : decode cL_joined 22 = .ok (.ireturn, 1) := by decide +kernel
theorem dL_joined_23 : decode cL_joined 23 = .ok (.iconst 0, 1) := by decide +kernel
theorem dL_joined_24 : decode cL_joined 24 = .ok (.ireturn, 1) := by decide +kernel
theorem dL_runs_0 : decode cL_runs 0 = .ok (.aload 4, 2) := by decide +kernel
theorem dL_runs_2 : decode cL_runs 2 = .ok (.iconst 0, 1) := by decide +kernel
theorem dL_runs_3 : decode cL_runs 3 = .ok (.aload_n 0, 1) := by decide +kernel
theorem dL_runs_4 : decode cL_runs 4 = .ok (.iload_n 1, 1) := by decide +kernel
theorem dL_runs_5 : decode cL_runs 5 = .ok (.iload_n 2, 1) := by decide +kernel
theorem dL_runs_6 : decode cL_runs 6 = .ok (.iload_n 3, 1) := by decide +kernel
theorem dL_runs_7 : decode cL_runs 7 = .ok (.invokevirtual 43, 3) := by decide +kernel
theorem dL_runs_10 : decode cL_runs 10 = .ok (.i2l, 1) := by decide +kernel
theorem dL_runs_11 : decode cL_runs 11 = .ok (.lastore, 1) := by decide +kernel
theorem dL_runs_12 : decode cL_runs 12 = .ok (.goto 11, 3) := by decide +kernel
theorem dL_runs_15 : decode cL_runs 15 = .ok (.astore 5, 2) := by decide +kernel
theorem dL_runs_17 : decode cL_runs 17 = .ok (.iconst 1, 1) := by decide +kernel
theorem dL_runs_18 : decode cL_runs 18 = .ok (.ireturn, 1) := by decide +kernel
theorem dL_runs_19 : decode cL_runs 19 = .ok (.astore 5, 2) := by decide +kernel
theorem dL_runs_21 : decode cL_runs 21 = .ok (.iconst 2, 1) := by decide +kernel
theorem dL_runs_22 : decode cL_runs 22 = .ok (.ireturn, 1) := by decide +kernel
theorem dL_runs_23 : decode cL_runs 23 = .ok (.iconst 0, 1) := by decide +kernel
theorem dL_runs_24 : decode cL_runs 24 = .ok (.ireturn, 1) := by decide +kernel
theorem dL_run_0 : decode cL_run 0 = .ok (.aload 5, 2) := by decide +kernel
theorem dL_run_2 : decode cL_run 2 = .ok (.iconst 0, 1) := by decide +kernel
theorem dL_run_3 : decode cL_run 3 = .ok (.aload_n 0, 1) := by decide +kernel
theorem dL_run_4 : decode cL_run 4 = .ok (.iload_n 1, 1) := by decide +kernel
theorem dL_run_5 : decode cL_run 5 = .ok (.iload_n 2, 1) := by decide +kernel
theorem dL_run_6 : decode cL_run 6 = .ok (.iload_n 3, 1) := by decide +kernel
theorem dL_run_7 : decode cL_run 7 = .ok (.iload 4, 2) := by decide +kernel
theorem dL_run_9 : decode cL_run 9 = .ok (.invokevirtual 46, 3) := by decide +kernel
theorem dL_run_12 : decode cL_run 12 = .ok (.i2l, 1) := by decide +kernel
theorem dL_run_13 : decode cL_run 13 = .ok (.lastore, 1) := by decide +kernel
theorem dL_run_14 : decode cL_run 14 = .ok (.goto 11, 3) := by decide +kernel
theorem dL_run_17 : decode cL_run 17 = .ok (.astore 6, 2) := by decide +kernel
theorem dL_run_19 : decode cL_run 19 = .ok (.iconst 1, 1) := by decide +kernel
theorem dL_run_20 : decode cL_run 20 = .ok (.ireturn, 1) := by decide +kernel
theorem dL_run_21 : decode cL_run 21 = .ok (.astore 6, 2) := by decide +kernel
theorem dL_run_23 : decode cL_run 23 = .ok (.iconst 2, 1) := by decide +kernel
theorem dL_run_24 : decode cL_run 24 = .ok (.ireturn, 1) := by decide +kernel
theorem dL_run_25 : decode cL_run 25 = .ok (.iconst 0, 1) := by decide +kernel
theorem dL_run_26 : decode cL_run 26 = .ok (.ireturn, 1) := by decide +kernel
theorem dL_joinedRuns_0 : decode cL_joinedRuns 0 = .ok (.aload_n 3, 1) := by decide +kernel
theorem dL_joinedRuns_1 : decode cL_joinedRuns 1 = .ok (.iconst 0, 1) := by decide +kernel
theorem dL_joinedRuns_2 : decode cL_joinedRuns 2 = .ok (.aload_n 0, 1) := by decide +kernel
theorem dL_joinedRuns_3 : decode cL_joinedRuns 3 = .ok (.iload_n 1, 1) := by decide +kernel
theorem dL_joinedRuns_4 : decode cL_joinedRuns 4 = .ok (.iload_n 2, 1) := by decide +kernel
theorem dL_joinedRuns_5 : decode cL_joinedRuns 5 = .ok (.invokevirtual 49, 3) := by decide +kernel
theorem dL_joinedRuns_8 : decode cL_joinedRuns 8 = .ok (.i2l, 1) := by decide +kernel
theorem dL_joinedRuns_9 : decode cL_joinedRuns 9 = .ok (.lastore, 1) := by decide +kernel
theorem dL_joinedRuns_10 : decode cL_joinedRuns 10 = .ok (.goto 11, 3) := by decide +kernel
theorem dL_joinedRuns_13 : decode cL_joinedRuns 13 = .ok (.astore 4, 2) := by decide +kernel
theorem dL_joinedRuns_15 : decode cL_joinedRuns 15 = .ok (.iconst 1, 1) := by decide +kernel
theorem dL_joinedRuns_16 : decode cL_joinedRuns 16 = .ok (.ireturn, 1) := by decide +kernel
theorem dL_joinedRuns_17 : decode cL_joinedRuns 17 = .ok (.astore 4, 2) := by decide +kernel
theorem dL_joinedRuns_19 : decode cL_joinedRuns 19 = .ok (.iconst 2, 1) := by decide +kernel
theorem dL_joinedRuns_20 : decode cL_joinedRuns 20 = .ok (.ireturn, 1) := by decide +kernel
theorem dL_joinedRuns_21 : decode cL_joinedRuns 21 = .ok (.iconst 0, 1) := by decide +kernel
theorem dL_joinedRuns_22 : decode cL_joinedRuns 22 = .ok (.ireturn, 1) := by decide +kernel
theorem dL_rows_0 : decode cL_rows 0 = .ok (.aload_n 3, 1) := by decide +kernel
theorem dL_rows_1 : decode cL_rows 1 = .ok (.iconst 0, 1) := by decide +kernel
theorem dL_rows_2 : decode cL_rows 2 = .ok (.aload_n 0, 1) := by decide +kernel
theorem dL_rows_3 : decode cL_rows 3 = .ok (.iload_n 1, 1) := by decide +kernel
theorem dL_rows_4 : decode cL_rows 4 = .ok (.iload_n 2, 1) := by decide +kernel
theorem dL_rows_5 : decode cL_rows 5 = .ok (.invokevirtual 53, 3) := by decide +kernel
theorem dL_rows_8 : decode cL_rows 8 = .ok (.i2l, 1) := by decide +kernel
theorem dL_rows_9 : decode cL_rows 9 = .ok (.lastore, 1) := by decide +kernel
theorem dL_rows_10 : decode cL_rows 10 = .ok (.goto 7, 3) := by decide +kernel
theorem dL_rows_13 : decode cL_rows 13 = .ok (.astore 4, 2) := by decide +kernel
theorem dL_rows_15 : decode cL_rows 15 = .ok (.iconst 1, 1) := by decide +kernel
theorem dL_rows_16 : decode cL_rows 16 = .ok (.ireturn, 1) := by decide +kernel
theorem dL_rows_17 : decode cL_rows 17 = .ok (.iconst 0, 1) := by decide +kernel
theorem dL_rows_18 : decode cL_rows 18 = .ok (.ireturn, 1) := by decide +kernel
theorem dL_rowRun_0 : decode cL_rowRun 0 = .ok (.aload 4, 2) := by decide +kernel
theorem dL_rowRun_2 : decode cL_rowRun 2 = .ok (.iconst 0, 1) := by decide +kernel
theorem dL_rowRun_3 : decode cL_rowRun 3 = .ok (.aload_n 0, 1) := by decide +kernel
theorem dL_rowRun_4 : decode cL_rowRun 4 = .ok (.iload_n 1, 1) := by decide +kernel
theorem dL_rowRun_5 : decode cL_rowRun 5 = .ok (.iload_n 2, 1) := by decide +kernel
theorem dL_rowRun_6 : decode cL_rowRun 6 = .ok (.iload_n 3, 1) := by decide +kernel
theorem dL_rowRun_7 : decode cL_rowRun 7 = .ok (.invokevirtual 56, 3) := by decide +kernel
theorem dL_rowRun_10 : decode cL_rowRun 10 = .ok (.i2l, 1) := by decide +kernel
theorem dL_rowRun_11 : decode cL_rowRun 11 = .ok (.lastore, 1) := by decide +kernel
theorem dL_rowRun_12 : decode cL_rowRun 12 = .ok (.goto 11, 3) := by decide +kernel
theorem dL_rowRun_15 : decode cL_rowRun 15 = .ok (.astore 5, 2) := by decide +kernel
theorem dL_rowRun_17 : decode cL_rowRun 17 = .ok (.iconst 1, 1) := by decide +kernel
theorem dL_rowRun_18 : decode cL_rowRun 18 = .ok (.ireturn, 1) := by decide +kernel
theorem dL_rowRun_19 : decode cL_rowRun 19 = .ok (.astore 5, 2) := by decide +kernel
theorem dL_rowRun_21 : decode cL_rowRun 21 = .ok (.iconst 2, 1) := by decide +kernel
theorem dL_rowRun_22 : decode cL_rowRun 22 = .ok (.ireturn, 1) := by decide +kernel
theorem dL_rowRun_23 : decode cL_rowRun 23 = .ok (.iconst 0, 1) := by decide +kernel
theorem dL_rowRun_24 : decode cL_rowRun 24 = .ok (.ireturn, 1) := by decide +kernel
theorem dL_rowFrom_0 : decode cL_rowFrom 0 = .ok (.aload 4, 2) := by decide +kernel
theorem dL_rowFrom_2 : decode cL_rowFrom 2 = .ok (.iconst 0, 1) := by decide +kernel
theorem dL_rowFrom_3 : decode cL_rowFrom 3 = .ok (.aload_n 0, 1) := by decide +kernel
theorem dL_rowFrom_4 : decode cL_rowFrom 4 = .ok (.iload_n 1, 1) := by decide +kernel
theorem dL_rowFrom_5 : decode cL_rowFrom 5 = .ok (.iload_n 2, 1) := by decide +kernel
theorem dL_rowFrom_6 : decode cL_rowFrom 6 = .ok (.iload_n 3, 1) := by decide +kernel
theorem dL_rowFrom_7 : decode cL_rowFrom 7 = .ok (.invokevirtual 59, 3) := by decide +kernel
theorem dL_rowFrom_10 : decode cL_rowFrom 10 = .ok (.i2l, 1) := by decide +kernel
theorem dL_rowFrom_11 : decode cL_rowFrom 11 = .ok (.lastore, 1) := by decide +kernel
theorem dL_rowFrom_12 : decode cL_rowFrom 12 = .ok (.goto 11, 3) := by decide +kernel
theorem dL_rowFrom_15 : decode cL_rowFrom 15 = .ok (.astore 5, 2) := by decide +kernel
theorem dL_rowFrom_17 : decode cL_rowFrom 17 = .ok (.iconst 1, 1) := by decide +kernel
theorem dL_rowFrom_18 : decode cL_rowFrom 18 = .ok (.ireturn, 1) := by decide +kernel
theorem dL_rowFrom_19 : decode cL_rowFrom 19 = .ok (.astore 5, 2) := by decide +kernel
theorem dL_rowFrom_21 : decode cL_rowFrom 21 = .ok (.iconst 2, 1) := by decide +kernel
theorem dL_rowFrom_22 : decode cL_rowFrom 22 = .ok (.ireturn, 1) := by decide +kernel
theorem dL_rowFrom_23 : decode cL_rowFrom 23 = .ok (.iconst 0, 1) := by decide +kernel
theorem dL_rowFrom_24 : decode cL_rowFrom 24 = .ok (.ireturn, 1) := by decide +kernel
theorem dL_rowTo_0 : decode cL_rowTo 0 = .ok (.aload 4, 2) := by decide +kernel
theorem dL_rowTo_2 : decode cL_rowTo 2 = .ok (.iconst 0, 1) := by decide +kernel
theorem dL_rowTo_3 : decode cL_rowTo 3 = .ok (.aload_n 0, 1) := by decide +kernel
theorem dL_rowTo_4 : decode cL_rowTo 4 = .ok (.iload_n 1, 1) := by decide +kernel
theorem dL_rowTo_5 : decode cL_rowTo 5 = .ok (.iload_n 2, 1) := by decide +kernel
theorem dL_rowTo_6 : decode cL_rowTo 6 = .ok (.iload_n 3, 1) := by decide +kernel
theorem dL_rowTo_7 : decode cL_rowTo 7 = .ok (.invokevirtual 62, 3) := by decide +kernel
theorem dL_rowTo_10 : decode cL_rowTo 10 = .ok (.i2l, 1) := by decide +kernel
theorem dL_rowTo_11 : decode cL_rowTo 11 = .ok (.lastore, 1) := by decide +kernel
theorem dL_rowTo_12 : decode cL_rowTo 12 = .ok (.goto 11, 3) := by decide +kernel
theorem dL_rowTo_15 : decode cL_rowTo 15 = .ok (.astore 5, 2) := by decide +kernel
theorem dL_rowTo_17 : decode cL_rowTo 17 = .ok (.iconst 1, 1) := by decide +kernel
theorem dL_rowTo_18 : decode cL_rowTo 18 = .ok (.ireturn, 1) := by decide +kernel
theorem dL_rowTo_19 : decode cL_rowTo 19 = .ok (.astore 5, 2) := by decide +kernel
theorem dL_rowTo_21 : decode cL_rowTo 21 = .ok (.iconst 2, 1) := by decide +kernel
theorem dL_rowTo_22 : decode cL_rowTo 22 = .ok (.ireturn, 1) := by decide +kernel
theorem dL_rowTo_23 : decode cL_rowTo 23 = .ok (.iconst 0, 1) := by decide +kernel
theorem dL_rowTo_24 : decode cL_rowTo 24 = .ok (.ireturn, 1) := by decide +kernel
theorem dL_corrections_0 : decode cL_corrections 0 = .ok (.aload 6, 2) := by decide +kernel
theorem dL_corrections_2 : decode cL_corrections 2 = .ok (.iconst 0, 1) := by decide +kernel
theorem dL_corrections_3 : decode cL_corrections 3 = .ok (.aload_n 0, 1) := by decide +kernel
theorem dL_corrections_4 : decode cL_corrections 4 = .ok (.iload_n 1, 1) := by decide +kernel
theorem dL_corrections_5 : decode cL_corrections 5 = .ok (.iload_n 2, 1) := by decide +kernel
theorem dL_corrections_6 : decode cL_corrections 6 = .ok (.iload_n 3, 1) := by decide +kernel
theorem dL_corrections_7 : decode cL_corrections 7 = .ok (.iload 4, 2) := by decide +kernel
theorem dL_corrections_9 : decode cL_corrections 9 = .ok (.iload 5, 2) := by decide +kernel
theorem dL_corrections_11 : decode cL_corrections 11 = .ok (.invokevirtual 65, 3) := by decide +kernel
theorem dL_corrections_14 : decode cL_corrections 14 = .ok (.i2l, 1) := by decide +kernel
theorem dL_corrections_15 : decode cL_corrections 15 = .ok (.lastore, 1) := by decide +kernel
theorem dL_corrections_16 : decode cL_corrections 16 = .ok (.goto 11, 3) := by decide +kernel
theorem dL_corrections_19 : decode cL_corrections 19 = .ok (.astore 7, 2) := by decide +kernel
theorem dL_corrections_21 : decode cL_corrections 21 = .ok (.iconst 1, 1) := by decide +kernel
theorem dL_corrections_22 : decode cL_corrections 22 = .ok (.ireturn, 1) := by decide +kernel
theorem dL_corrections_23 : decode cL_corrections 23 = .ok (.astore 7, 2) := by decide +kernel
theorem dL_corrections_25 : decode cL_corrections 25 = .ok (.iconst 2, 1) := by decide +kernel
theorem dL_corrections_26 : decode cL_corrections 26 = .ok (.ireturn, 1) := by decide +kernel
theorem dL_corrections_27 : decode cL_corrections 27 = .ok (.iconst 0, 1) := by decide +kernel
theorem dL_corrections_28 : decode cL_corrections 28 = .ok (.ireturn, 1) := by decide +kernel
theorem dL_longest_0 : decode cL_longest 0 = .ok (.aload 4, 2) := by decide +kernel
theorem dL_longest_2 : decode cL_longest 2 = .ok (.iconst 0, 1) := by decide +kernel
theorem dL_longest_3 : decode cL_longest 3 = .ok (.aload_n 0, 1) := by decide +kernel
theorem dL_longest_4 : decode cL_longest 4 = .ok (.iload_n 1, 1) := by decide +kernel
theorem dL_longest_5 : decode cL_longest 5 = .ok (.iload_n 2, 1) := by decide +kernel
theorem dL_longest_6 : decode cL_longest 6 = .ok (.iload_n 3, 1) := by decide +kernel
theorem dL_longest_7 : decode cL_longest 7 = .ok (.invokevirtual 68, 3) := by decide +kernel
theorem dL_longest_10 : decode cL_longest 10 = .ok (.i2l, 1) := by decide +kernel
theorem dL_longest_11 : decode cL_longest 11 = .ok (.lastore, 1) := by decide +kernel
theorem dL_longest_12 : decode cL_longest 12 = .ok (.goto 11, 3) := by decide +kernel
theorem dL_longest_15 : decode cL_longest 15 = .ok (.astore 5, 2) := by decide +kernel
theorem dL_longest_17 : decode cL_longest 17 = .ok (.iconst 1, 1) := by decide +kernel
theorem dL_longest_18 : decode cL_longest 18 = .ok (.ireturn, 1) := by decide +kernel
theorem dL_longest_19 : decode cL_longest 19 = .ok (.astore 5, 2) := by decide +kernel
theorem dL_longest_21 : decode cL_longest 21 = .ok (.iconst 2, 1) := by decide +kernel
theorem dL_longest_22 : decode cL_longest 22 = .ok (.ireturn, 1) := by decide +kernel
theorem dL_longest_23 : decode cL_longest 23 = .ok (.iconst 0, 1) := by decide +kernel
theorem dL_longest_24 : decode cL_longest 24 = .ok (.ireturn, 1) := by decide +kernel
theorem dL_average_0 : decode cL_average 0 = .ok (.aload_n 3, 1) := by decide +kernel
theorem dL_average_1 : decode cL_average 1 = .ok (.iconst 0, 1) := by decide +kernel
theorem dL_average_2 : decode cL_average 2 = .ok (.aload_n 0, 1) := by decide +kernel
theorem dL_average_3 : decode cL_average 3 = .ok (.iload_n 1, 1) := by decide +kernel
theorem dL_average_4 : decode cL_average 4 = .ok (.iload_n 2, 1) := by decide +kernel
theorem dL_average_5 : decode cL_average 5 = .ok (.invokevirtual 71, 3) := by decide +kernel
theorem dL_average_8 : decode cL_average 8 = .ok (.f2d, 1) := by decide +kernel
theorem dL_average_9 : decode cL_average 9 = .ok (.dastore, 1) := by decide +kernel
theorem dL_average_10 : decode cL_average 10 = .ok (.goto 15, 3) := by decide +kernel
theorem dL_average_13 : decode cL_average 13 = .ok (.astore 4, 2) := by decide +kernel
theorem dL_average_15 : decode cL_average 15 = .ok (.iconst 1, 1) := by decide +kernel
theorem dL_average_16 : decode cL_average 16 = .ok (.ireturn, 1) := by decide +kernel
theorem dL_average_17 : decode cL_average 17 = .ok (.astore 4, 2) := by decide +kernel
theorem dL_average_19 : decode cL_average 19 = .ok (.iconst 2, 1) := by decide +kernel
theorem dL_average_20 : decode cL_average 20 = .ok (.ireturn, 1) := by decide +kernel
theorem dL_average_21 : decode cL_average 21 = .ok (.astore 4, 2) := by decide +kernel
theorem dL_average_23 : decode cL_average 23 = .ok (.iconst 3, 1) := by decide +kernel
theorem dL_average_24 : decode cL_average 24 = .ok (.ireturn, 1) := by decide +kernel
theorem dL_average_25 : decode cL_average 25 = .ok (.iconst 0, 1) := by decide +kernel
theorem dL_average_26 : decode cL_average 26 = .ok (.ireturn, 1) := by decide +kernel
theorem dL_law_0 : decode cL_law 0 = .ok (.new 8, 3) := by decide +kernel
theorem dL_law_3 : decode cL_law 3 = .ok (.dup, 1) := by decide +kernel
theorem dL_law_4 : decode cL_law 4 = .ok (.invokespecial 75, 3) := by decide +kernel
theorem dL_law_7 : decode cL_law 7 = .ok (.astore_n 1, 1) := by decide +kernel
theorem dL_law_8 : decode cL_law 8 = .ok (.new 76, 3) := by decide +kernel
theorem dL_law_11 : decode cL_law 11 = .ok (.dup, 1) := by decide +kernel
theorem dL_law_12 : decode cL_law 12 = .ok (.invokespecial 78, 3) := by decide +kernel
theorem dL_law_15 : decode cL_law 15 = .ok (.astore_n 2, 1) := by decide +kernel
theorem dL_law_16 : decode cL_law 16 = .ok (.iconst 1, 1) := by decide +kernel
theorem dL_law_17 : decode cL_law 17 = .ok (.newarray .long, 2) := by decide +kernel
theorem dL_law_19 : decode cL_law 19 = .ok (.astore_n 3, 1) := by decide +kernel
theorem dL_law_20 : decode cL_law 20 = .ok (.iconst 1, 1) := by decide +kernel
theorem dL_law_21 : decode cL_law 21 = .ok (.newarray .double, 2) := by decide +kernel
theorem dL_law_23 : decode cL_law 23 = .ok (.astore 4, 2) := by decide +kernel
theorem dL_law_25 : decode cL_law 25 = .ok (.iconst 0, 1) := by decide +kernel
theorem dL_law_26 : decode cL_law 26 = .ok (.istore 5, 2) := by decide +kernel
theorem dL_law_28 : decode cL_law 28 = .ok (.iload 5, 2) := by decide +kernel
theorem dL_law_30 : decode cL_law 30 = .ok (.aload_n 0, 1) := by decide +kernel
theorem dL_law_31 : decode cL_law 31 = .ok (.arraylength, 1) := by decide +kernel
theorem dL_law_32 : decode cL_law 32 = .ok (.bipush 6, 2) := by decide +kernel
theorem dL_law_34 : decode cL_law 34 = .ok (.isub, 1) := by decide +kernel
theorem dL_law_35 : decode cL_law 35 = .ok (.if_icmp .gt 1606, 3) := by decide +kernel
theorem dL_law_38 : decode cL_law 38 = .ok (.aload_n 0, 1) := by decide +kernel
theorem dL_law_39 : decode cL_law 39 = .ok (.iload 5, 2) := by decide +kernel
theorem dL_law_41 : decode cL_law 41 = .ok (.iaload, 1) := by decide +kernel
theorem dL_law_42 : decode cL_law 42 = .ok (.bipush 31, 2) := by decide +kernel
theorem dL_law_44 : decode cL_law 44 = .ok (.iand, 1) := by decide +kernel
theorem dL_law_45 : decode cL_law 45 = .ok (.tableswitch 1590 0 18 #[91, 195, 287, 367, 447, 503, 516, 608, 688, 768, 848, 940, 1008, 1076, 1156, 1236, 1316, 1420, 1500], 91) := by decide +kernel
theorem dL_law_136 : decode cL_law 136 = .ok (.aload_n 1, 1) := by decide +kernel
theorem dL_law_137 : decode cL_law 137 = .ok (.aload_n 0, 1) := by decide +kernel
theorem dL_law_138 : decode cL_law 138 = .ok (.iload 5, 2) := by decide +kernel
theorem dL_law_140 : decode cL_law 140 = .ok (.iconst 1, 1) := by decide +kernel
theorem dL_law_141 : decode cL_law 141 = .ok (.iadd, 1) := by decide +kernel
theorem dL_law_142 : decode cL_law 142 = .ok (.iaload, 1) := by decide +kernel
theorem dL_law_143 : decode cL_law 143 = .ok (.aload_n 0, 1) := by decide +kernel
theorem dL_law_144 : decode cL_law 144 = .ok (.iload 5, 2) := by decide +kernel
theorem dL_law_146 : decode cL_law 146 = .ok (.iconst 2, 1) := by decide +kernel
theorem dL_law_147 : decode cL_law 147 = .ok (.iadd, 1) := by decide +kernel
theorem dL_law_148 : decode cL_law 148 = .ok (.iaload, 1) := by decide +kernel
theorem dL_law_149 : decode cL_law 149 = .ok (.aload_n 0, 1) := by decide +kernel
theorem dL_law_150 : decode cL_law 150 = .ok (.iload 5, 2) := by decide +kernel
theorem dL_law_152 : decode cL_law 152 = .ok (.iconst 3, 1) := by decide +kernel
theorem dL_law_153 : decode cL_law 153 = .ok (.iadd, 1) := by decide +kernel
theorem dL_law_154 : decode cL_law 154 = .ok (.iaload, 1) := by decide +kernel
theorem dL_law_155 : decode cL_law 155 = .ok (.aload_n 0, 1) := by decide +kernel
theorem dL_law_156 : decode cL_law 156 = .ok (.iload 5, 2) := by decide +kernel
theorem dL_law_158 : decode cL_law 158 = .ok (.iconst 4, 1) := by decide +kernel
theorem dL_law_159 : decode cL_law 159 = .ok (.iadd, 1) := by decide +kernel
theorem dL_law_160 : decode cL_law 160 = .ok (.iaload, 1) := by decide +kernel
theorem dL_law_161 : decode cL_law 161 = .ok (.aload_n 0, 1) := by decide +kernel
theorem dL_law_162 : decode cL_law 162 = .ok (.iload 5, 2) := by decide +kernel
theorem dL_law_164 : decode cL_law 164 = .ok (.iconst 5, 1) := by decide +kernel
theorem dL_law_165 : decode cL_law 165 = .ok (.iadd, 1) := by decide +kernel
theorem dL_law_166 : decode cL_law 166 = .ok (.iaload, 1) := by decide +kernel
theorem dL_law_167 : decode cL_law 167 = .ok (.aload_n 3, 1) := by decide +kernel
theorem dL_law_168 : decode cL_law 168 = .ok (.invokestatic 79, 3) := by decide +kernel
theorem dL_law_171 : decode cL_law 171 = .ok (.istore 6, 2) := by decide +kernel
theorem dL_law_173 : decode cL_law 173 = .ok (.aload_n 2, 1) := by decide +kernel
theorem dL_law_174 : decode cL_law 174 = .ok (.aload_n 0, 1) := by decide +kernel
theorem dL_law_175 : decode cL_law 175 = .ok (.iload 5, 2) := by decide +kernel
theorem dL_law_177 : decode cL_law 177 = .ok (.iconst 1, 1) := by decide +kernel
theorem dL_law_178 : decode cL_law 178 = .ok (.iadd, 1) := by decide +kernel
theorem dL_law_179 : decode cL_law 179 = .ok (.iaload, 1) := by decide +kernel
theorem dL_law_180 : decode cL_law 180 = .ok (.aload_n 0, 1) := by decide +kernel
theorem dL_law_181 : decode cL_law 181 = .ok (.iload 5, 2) := by decide +kernel
theorem dL_law_183 : decode cL_law 183 = .ok (.iconst 2, 1) := by decide +kernel
theorem dL_law_184 : decode cL_law 184 = .ok (.iadd, 1) := by decide +kernel
theorem dL_law_185 : decode cL_law 185 = .ok (.iaload, 1) := by decide +kernel
theorem dL_law_186 : decode cL_law 186 = .ok (.aload_n 0, 1) := by decide +kernel
theorem dL_law_187 : decode cL_law 187 = .ok (.iload 5, 2) := by decide +kernel
theorem dL_law_189 : decode cL_law 189 = .ok (.iconst 3, 1) := by decide +kernel
theorem dL_law_190 : decode cL_law 190 = .ok (.iadd, 1) := by decide +kernel
theorem dL_law_191 : decode cL_law 191 = .ok (.iaload, 1) := by decide +kernel
theorem dL_law_192 : decode cL_law 192 = .ok (.aload_n 0, 1) := by decide +kernel
theorem dL_law_193 : decode cL_law 193 = .ok (.iload 5, 2) := by decide +kernel
theorem dL_law_195 : decode cL_law 195 = .ok (.iconst 4, 1) := by decide +kernel
theorem dL_law_196 : decode cL_law 196 = .ok (.iadd, 1) := by decide +kernel
theorem dL_law_197 : decode cL_law 197 = .ok (.iaload, 1) := by decide +kernel
theorem dL_law_198 : decode cL_law 198 = .ok (.aload_n 0, 1) := by decide +kernel
theorem dL_law_199 : decode cL_law 199 = .ok (.iload 5, 2) := by decide +kernel
theorem dL_law_201 : decode cL_law 201 = .ok (.iconst 5, 1) := by decide +kernel
theorem dL_law_202 : decode cL_law 202 = .ok (.iadd, 1) := by decide +kernel
theorem dL_law_203 : decode cL_law 203 = .ok (.iaload, 1) := by decide +kernel
theorem dL_law_204 : decode cL_law 204 = .ok (.invokevirtual 84, 3) := by decide +kernel
theorem dL_law_207 : decode cL_law 207 = .ok (.istore 7, 2) := by decide +kernel
theorem dL_law_209 : decode cL_law 209 = .ok (.aload_n 2, 1) := by decide +kernel
theorem dL_law_210 : decode cL_law 210 = .ok (.invokevirtual 85, 3) := by decide +kernel
theorem dL_law_213 : decode cL_law 213 = .ok (.iload 6, 2) := by decide +kernel
theorem dL_law_215 : decode cL_law 215 = .ok (.if_icmp .eq 5, 3) := by decide +kernel
theorem dL_law_218 : decode cL_law 218 = .ok (.iconst 0, 1) := by decide +kernel
theorem dL_law_219 : decode cL_law 219 = .ok (.ireturn, 1) := by decide +kernel
theorem dL_law_220 : decode cL_law 220 = .ok (.iload 6, 2) := by decide +kernel
theorem dL_law_222 : decode cL_law 222 = .ok (.ifCond .ne 15, 3) := by decide +kernel
theorem dL_law_225 : decode cL_law 225 = .ok (.aload_n 3, 1) := by decide +kernel
theorem dL_law_226 : decode cL_law 226 = .ok (.iconst 0, 1) := by decide +kernel
theorem dL_law_227 : decode cL_law 227 = .ok (.laload, 1) := by decide +kernel
theorem dL_law_228 : decode cL_law 228 = .ok (.iload 7, 2) := by decide +kernel
theorem dL_law_230 : decode cL_law 230 = .ok (.i2l, 1) := by decide +kernel
theorem dL_law_231 : decode cL_law 231 = .ok (.lcmp, 1) := by decide +kernel
theorem dL_law_232 : decode cL_law 232 = .ok (.ifCond .eq 5, 3) := by decide +kernel
theorem dL_law_235 : decode cL_law 235 = .ok (.iconst 0, 1) := by decide +kernel
theorem dL_law_236 : decode cL_law 236 = .ok (.ireturn, 1) := by decide +kernel
theorem dL_law_237 : decode cL_law 237 = .ok (.goto 1398, 3) := by decide +kernel
theorem dL_law_240 : decode cL_law 240 = .ok (.aload_n 1, 1) := by decide +kernel
theorem dL_law_241 : decode cL_law 241 = .ok (.aload_n 0, 1) := by decide +kernel
theorem dL_law_242 : decode cL_law 242 = .ok (.iload 5, 2) := by decide +kernel
theorem dL_law_244 : decode cL_law 244 = .ok (.iconst 1, 1) := by decide +kernel
theorem dL_law_245 : decode cL_law 245 = .ok (.iadd, 1) := by decide +kernel
theorem dL_law_246 : decode cL_law 246 = .ok (.iaload, 1) := by decide +kernel
theorem dL_law_247 : decode cL_law 247 = .ok (.aload_n 0, 1) := by decide +kernel
theorem dL_law_248 : decode cL_law 248 = .ok (.iload 5, 2) := by decide +kernel
theorem dL_law_250 : decode cL_law 250 = .ok (.iconst 2, 1) := by decide +kernel
theorem dL_law_251 : decode cL_law 251 = .ok (.iadd, 1) := by decide +kernel
theorem dL_law_252 : decode cL_law 252 = .ok (.iaload, 1) := by decide +kernel
theorem dL_law_253 : decode cL_law 253 = .ok (.aload_n 0, 1) := by decide +kernel
theorem dL_law_254 : decode cL_law 254 = .ok (.iload 5, 2) := by decide +kernel
theorem dL_law_256 : decode cL_law 256 = .ok (.iconst 3, 1) := by decide +kernel
theorem dL_law_257 : decode cL_law 257 = .ok (.iadd, 1) := by decide +kernel
theorem dL_law_258 : decode cL_law 258 = .ok (.iaload, 1) := by decide +kernel
theorem dL_law_259 : decode cL_law 259 = .ok (.aload_n 0, 1) := by decide +kernel
theorem dL_law_260 : decode cL_law 260 = .ok (.iload 5, 2) := by decide +kernel
theorem dL_law_262 : decode cL_law 262 = .ok (.iconst 4, 1) := by decide +kernel
theorem dL_law_263 : decode cL_law 263 = .ok (.iadd, 1) := by decide +kernel
theorem dL_law_264 : decode cL_law 264 = .ok (.iaload, 1) := by decide +kernel
theorem dL_law_265 : decode cL_law 265 = .ok (.aload_n 3, 1) := by decide +kernel
theorem dL_law_266 : decode cL_law 266 = .ok (.invokestatic 89, 3) := by decide +kernel
theorem dL_law_269 : decode cL_law 269 = .ok (.istore 6, 2) := by decide +kernel
theorem dL_law_271 : decode cL_law 271 = .ok (.aload_n 2, 1) := by decide +kernel
theorem dL_law_272 : decode cL_law 272 = .ok (.aload_n 0, 1) := by decide +kernel
theorem dL_law_273 : decode cL_law 273 = .ok (.iload 5, 2) := by decide +kernel
theorem dL_law_275 : decode cL_law 275 = .ok (.iconst 1, 1) := by decide +kernel
theorem dL_law_276 : decode cL_law 276 = .ok (.iadd, 1) := by decide +kernel
theorem dL_law_277 : decode cL_law 277 = .ok (.iaload, 1) := by decide +kernel
theorem dL_law_278 : decode cL_law 278 = .ok (.aload_n 0, 1) := by decide +kernel
theorem dL_law_279 : decode cL_law 279 = .ok (.iload 5, 2) := by decide +kernel
theorem dL_law_281 : decode cL_law 281 = .ok (.iconst 2, 1) := by decide +kernel
theorem dL_law_282 : decode cL_law 282 = .ok (.iadd, 1) := by decide +kernel
theorem dL_law_283 : decode cL_law 283 = .ok (.iaload, 1) := by decide +kernel
theorem dL_law_284 : decode cL_law 284 = .ok (.aload_n 0, 1) := by decide +kernel
theorem dL_law_285 : decode cL_law 285 = .ok (.iload 5, 2) := by decide +kernel
theorem dL_law_287 : decode cL_law 287 = .ok (.iconst 3, 1) := by decide +kernel
theorem dL_law_288 : decode cL_law 288 = .ok (.iadd, 1) := by decide +kernel
theorem dL_law_289 : decode cL_law 289 = .ok (.iaload, 1) := by decide +kernel
theorem dL_law_290 : decode cL_law 290 = .ok (.aload_n 0, 1) := by decide +kernel
theorem dL_law_291 : decode cL_law 291 = .ok (.iload 5, 2) := by decide +kernel
theorem dL_law_293 : decode cL_law 293 = .ok (.iconst 4, 1) := by decide +kernel
theorem dL_law_294 : decode cL_law 294 = .ok (.iadd, 1) := by decide +kernel
theorem dL_law_295 : decode cL_law 295 = .ok (.iaload, 1) := by decide +kernel
theorem dL_law_296 : decode cL_law 296 = .ok (.invokevirtual 92, 3) := by decide +kernel
theorem dL_law_299 : decode cL_law 299 = .ok (.istore 7, 2) := by decide +kernel
theorem dL_law_301 : decode cL_law 301 = .ok (.aload_n 2, 1) := by decide +kernel
theorem dL_law_302 : decode cL_law 302 = .ok (.invokevirtual 85, 3) := by decide +kernel
theorem dL_law_305 : decode cL_law 305 = .ok (.iload 6, 2) := by decide +kernel
theorem dL_law_307 : decode cL_law 307 = .ok (.if_icmp .eq 5, 3) := by decide +kernel
theorem dL_law_310 : decode cL_law 310 = .ok (.iconst 0, 1) := by decide +kernel
theorem dL_law_311 : decode cL_law 311 = .ok (.ireturn, 1) := by decide +kernel
theorem dL_law_312 : decode cL_law 312 = .ok (.iload 6, 2) := by decide +kernel
theorem dL_law_314 : decode cL_law 314 = .ok (.ifCond .ne 15, 3) := by decide +kernel
theorem dL_law_317 : decode cL_law 317 = .ok (.aload_n 3, 1) := by decide +kernel
theorem dL_law_318 : decode cL_law 318 = .ok (.iconst 0, 1) := by decide +kernel
theorem dL_law_319 : decode cL_law 319 = .ok (.laload, 1) := by decide +kernel
theorem dL_law_320 : decode cL_law 320 = .ok (.iload 7, 2) := by decide +kernel
theorem dL_law_322 : decode cL_law 322 = .ok (.i2l, 1) := by decide +kernel
theorem dL_law_323 : decode cL_law 323 = .ok (.lcmp, 1) := by decide +kernel
theorem dL_law_324 : decode cL_law 324 = .ok (.ifCond .eq 5, 3) := by decide +kernel
theorem dL_law_327 : decode cL_law 327 = .ok (.iconst 0, 1) := by decide +kernel
theorem dL_law_328 : decode cL_law 328 = .ok (.ireturn, 1) := by decide +kernel
theorem dL_law_329 : decode cL_law 329 = .ok (.goto 1306, 3) := by decide +kernel
theorem dL_law_332 : decode cL_law 332 = .ok (.aload_n 1, 1) := by decide +kernel
theorem dL_law_333 : decode cL_law 333 = .ok (.aload_n 0, 1) := by decide +kernel
theorem dL_law_334 : decode cL_law 334 = .ok (.iload 5, 2) := by decide +kernel
theorem dL_law_336 : decode cL_law 336 = .ok (.iconst 1, 1) := by decide +kernel
theorem dL_law_337 : decode cL_law 337 = .ok (.iadd, 1) := by decide +kernel
theorem dL_law_338 : decode cL_law 338 = .ok (.iaload, 1) := by decide +kernel
theorem dL_law_339 : decode cL_law 339 = .ok (.aload_n 0, 1) := by decide +kernel
theorem dL_law_340 : decode cL_law 340 = .ok (.iload 5, 2) := by decide +kernel
theorem dL_law_342 : decode cL_law 342 = .ok (.iconst 2, 1) := by decide +kernel
theorem dL_law_343 : decode cL_law 343 = .ok (.iadd, 1) := by decide +kernel
theorem dL_law_344 : decode cL_law 344 = .ok (.iaload, 1) := by decide +kernel
theorem dL_law_345 : decode cL_law 345 = .ok (.aload_n 0, 1) := by decide +kernel
theorem dL_law_346 : decode cL_law 346 = .ok (.iload 5, 2) := by decide +kernel
theorem dL_law_348 : decode cL_law 348 = .ok (.iconst 3, 1) := by decide +kernel
theorem dL_law_349 : decode cL_law 349 = .ok (.iadd, 1) := by decide +kernel
theorem dL_law_350 : decode cL_law 350 = .ok (.iaload, 1) := by decide +kernel
theorem dL_law_351 : decode cL_law 351 = .ok (.aload_n 3, 1) := by decide +kernel
theorem dL_law_352 : decode cL_law 352 = .ok (.invokestatic 93, 3) := by decide +kernel
theorem dL_law_355 : decode cL_law 355 = .ok (.istore 6, 2) := by decide +kernel
theorem dL_law_357 : decode cL_law 357 = .ok (.aload_n 2, 1) := by decide +kernel
theorem dL_law_358 : decode cL_law 358 = .ok (.aload_n 0, 1) := by decide +kernel
theorem dL_law_359 : decode cL_law 359 = .ok (.iload 5, 2) := by decide +kernel
theorem dL_law_361 : decode cL_law 361 = .ok (.iconst 1, 1) := by decide +kernel
theorem dL_law_362 : decode cL_law 362 = .ok (.iadd, 1) := by decide +kernel
theorem dL_law_363 : decode cL_law 363 = .ok (.iaload, 1) := by decide +kernel
theorem dL_law_364 : decode cL_law 364 = .ok (.aload_n 0, 1) := by decide +kernel
theorem dL_law_365 : decode cL_law 365 = .ok (.iload 5, 2) := by decide +kernel
theorem dL_law_367 : decode cL_law 367 = .ok (.iconst 2, 1) := by decide +kernel
theorem dL_law_368 : decode cL_law 368 = .ok (.iadd, 1) := by decide +kernel
theorem dL_law_369 : decode cL_law 369 = .ok (.iaload, 1) := by decide +kernel
theorem dL_law_370 : decode cL_law 370 = .ok (.aload_n 0, 1) := by decide +kernel
theorem dL_law_371 : decode cL_law 371 = .ok (.iload 5, 2) := by decide +kernel
theorem dL_law_373 : decode cL_law 373 = .ok (.iconst 3, 1) := by decide +kernel
theorem dL_law_374 : decode cL_law 374 = .ok (.iadd, 1) := by decide +kernel
theorem dL_law_375 : decode cL_law 375 = .ok (.iaload, 1) := by decide +kernel
theorem dL_law_376 : decode cL_law 376 = .ok (.invokevirtual 96, 3) := by decide +kernel
theorem dL_law_379 : decode cL_law 379 = .ok (.istore 7, 2) := by decide +kernel
theorem dL_law_381 : decode cL_law 381 = .ok (.aload_n 2, 1) := by decide +kernel
theorem dL_law_382 : decode cL_law 382 = .ok (.invokevirtual 85, 3) := by decide +kernel
theorem dL_law_385 : decode cL_law 385 = .ok (.iload 6, 2) := by decide +kernel
theorem dL_law_387 : decode cL_law 387 = .ok (.if_icmp .eq 5, 3) := by decide +kernel
theorem dL_law_390 : decode cL_law 390 = .ok (.iconst 0, 1) := by decide +kernel
theorem dL_law_391 : decode cL_law 391 = .ok (.ireturn, 1) := by decide +kernel
theorem dL_law_392 : decode cL_law 392 = .ok (.iload 6, 2) := by decide +kernel
theorem dL_law_394 : decode cL_law 394 = .ok (.ifCond .ne 15, 3) := by decide +kernel
theorem dL_law_397 : decode cL_law 397 = .ok (.aload_n 3, 1) := by decide +kernel
theorem dL_law_398 : decode cL_law 398 = .ok (.iconst 0, 1) := by decide +kernel
theorem dL_law_399 : decode cL_law 399 = .ok (.laload, 1) := by decide +kernel
theorem dL_law_400 : decode cL_law 400 = .ok (.iload 7, 2) := by decide +kernel
theorem dL_law_402 : decode cL_law 402 = .ok (.i2l, 1) := by decide +kernel
theorem dL_law_403 : decode cL_law 403 = .ok (.lcmp, 1) := by decide +kernel
theorem dL_law_404 : decode cL_law 404 = .ok (.ifCond .eq 5, 3) := by decide +kernel
theorem dL_law_407 : decode cL_law 407 = .ok (.iconst 0, 1) := by decide +kernel
theorem dL_law_408 : decode cL_law 408 = .ok (.ireturn, 1) := by decide +kernel
theorem dL_law_409 : decode cL_law 409 = .ok (.goto 1226, 3) := by decide +kernel
theorem dL_law_412 : decode cL_law 412 = .ok (.aload_n 1, 1) := by decide +kernel
theorem dL_law_413 : decode cL_law 413 = .ok (.aload_n 0, 1) := by decide +kernel
theorem dL_law_414 : decode cL_law 414 = .ok (.iload 5, 2) := by decide +kernel
theorem dL_law_416 : decode cL_law 416 = .ok (.iconst 1, 1) := by decide +kernel
theorem dL_law_417 : decode cL_law 417 = .ok (.iadd, 1) := by decide +kernel
theorem dL_law_418 : decode cL_law 418 = .ok (.iaload, 1) := by decide +kernel
theorem dL_law_419 : decode cL_law 419 = .ok (.aload_n 0, 1) := by decide +kernel
theorem dL_law_420 : decode cL_law 420 = .ok (.iload 5, 2) := by decide +kernel
theorem dL_law_422 : decode cL_law 422 = .ok (.iconst 2, 1) := by decide +kernel
theorem dL_law_423 : decode cL_law 423 = .ok (.iadd, 1) := by decide +kernel
theorem dL_law_424 : decode cL_law 424 = .ok (.iaload, 1) := by decide +kernel
theorem dL_law_425 : decode cL_law 425 = .ok (.aload_n 0, 1) := by decide +kernel
theorem dL_law_426 : decode cL_law 426 = .ok (.iload 5, 2) := by decide +kernel
theorem dL_law_428 : decode cL_law 428 = .ok (.iconst 3, 1) := by decide +kernel
theorem dL_law_429 : decode cL_law 429 = .ok (.iadd, 1) := by decide +kernel
theorem dL_law_430 : decode cL_law 430 = .ok (.iaload, 1) := by decide +kernel
theorem dL_law_431 : decode cL_law 431 = .ok (.aload_n 3, 1) := by decide +kernel
theorem dL_law_432 : decode cL_law 432 = .ok (.invokestatic 97, 3) := by decide +kernel
theorem dL_law_435 : decode cL_law 435 = .ok (.istore 6, 2) := by decide +kernel
theorem dL_law_437 : decode cL_law 437 = .ok (.aload_n 2, 1) := by decide +kernel
theorem dL_law_438 : decode cL_law 438 = .ok (.aload_n 0, 1) := by decide +kernel
theorem dL_law_439 : decode cL_law 439 = .ok (.iload 5, 2) := by decide +kernel
theorem dL_law_441 : decode cL_law 441 = .ok (.iconst 1, 1) := by decide +kernel
theorem dL_law_442 : decode cL_law 442 = .ok (.iadd, 1) := by decide +kernel
theorem dL_law_443 : decode cL_law 443 = .ok (.iaload, 1) := by decide +kernel
theorem dL_law_444 : decode cL_law 444 = .ok (.aload_n 0, 1) := by decide +kernel
theorem dL_law_445 : decode cL_law 445 = .ok (.iload 5, 2) := by decide +kernel
theorem dL_law_447 : decode cL_law 447 = .ok (.iconst 2, 1) := by decide +kernel
theorem dL_law_448 : decode cL_law 448 = .ok (.iadd, 1) := by decide +kernel
theorem dL_law_449 : decode cL_law 449 = .ok (.iaload, 1) := by decide +kernel
theorem dL_law_450 : decode cL_law 450 = .ok (.aload_n 0, 1) := by decide +kernel
theorem dL_law_451 : decode cL_law 451 = .ok (.iload 5, 2) := by decide +kernel
theorem dL_law_453 : decode cL_law 453 = .ok (.iconst 3, 1) := by decide +kernel
theorem dL_law_454 : decode cL_law 454 = .ok (.iadd, 1) := by decide +kernel
theorem dL_law_455 : decode cL_law 455 = .ok (.iaload, 1) := by decide +kernel
theorem dL_law_456 : decode cL_law 456 = .ok (.invokevirtual 99, 3) := by decide +kernel
theorem dL_law_459 : decode cL_law 459 = .ok (.istore 7, 2) := by decide +kernel
theorem dL_law_461 : decode cL_law 461 = .ok (.aload_n 2, 1) := by decide +kernel
theorem dL_law_462 : decode cL_law 462 = .ok (.invokevirtual 85, 3) := by decide +kernel
theorem dL_law_465 : decode cL_law 465 = .ok (.iload 6, 2) := by decide +kernel
theorem dL_law_467 : decode cL_law 467 = .ok (.if_icmp .eq 5, 3) := by decide +kernel
theorem dL_law_470 : decode cL_law 470 = .ok (.iconst 0, 1) := by decide +kernel
theorem dL_law_471 : decode cL_law 471 = .ok (.ireturn, 1) := by decide +kernel
theorem dL_law_472 : decode cL_law 472 = .ok (.iload 6, 2) := by decide +kernel
theorem dL_law_474 : decode cL_law 474 = .ok (.ifCond .ne 15, 3) := by decide +kernel
theorem dL_law_477 : decode cL_law 477 = .ok (.aload_n 3, 1) := by decide +kernel
theorem dL_law_478 : decode cL_law 478 = .ok (.iconst 0, 1) := by decide +kernel
theorem dL_law_479 : decode cL_law 479 = .ok (.laload, 1) := by decide +kernel
theorem dL_law_480 : decode cL_law 480 = .ok (.iload 7, 2) := by decide +kernel
theorem dL_law_482 : decode cL_law 482 = .ok (.i2l, 1) := by decide +kernel
theorem dL_law_483 : decode cL_law 483 = .ok (.lcmp, 1) := by decide +kernel
theorem dL_law_484 : decode cL_law 484 = .ok (.ifCond .eq 5, 3) := by decide +kernel
theorem dL_law_487 : decode cL_law 487 = .ok (.iconst 0, 1) := by decide +kernel
theorem dL_law_488 : decode cL_law 488 = .ok (.ireturn, 1) := by decide +kernel
theorem dL_law_489 : decode cL_law 489 = .ok (.goto 1146, 3) := by decide +kernel
theorem dL_law_492 : decode cL_law 492 = .ok (.aload_n 1, 1) := by decide +kernel
theorem dL_law_493 : decode cL_law 493 = .ok (.aload_n 0, 1) := by decide +kernel
theorem dL_law_494 : decode cL_law 494 = .ok (.iload 5, 2) := by decide +kernel
theorem dL_law_496 : decode cL_law 496 = .ok (.iconst 1, 1) := by decide +kernel
theorem dL_law_497 : decode cL_law 497 = .ok (.iadd, 1) := by decide +kernel
theorem dL_law_498 : decode cL_law 498 = .ok (.iaload, 1) := by decide +kernel
theorem dL_law_499 : decode cL_law 499 = .ok (.aload_n 3, 1) := by decide +kernel
theorem dL_law_500 : decode cL_law 500 = .ok (.invokestatic 100, 3) := by decide +kernel
theorem dL_law_503 : decode cL_law 503 = .ok (.istore 6, 2) := by decide +kernel
theorem dL_law_505 : decode cL_law 505 = .ok (.aload_n 2, 1) := by decide +kernel
theorem dL_law_506 : decode cL_law 506 = .ok (.aload_n 0, 1) := by decide +kernel
theorem dL_law_507 : decode cL_law 507 = .ok (.iload 5, 2) := by decide +kernel
theorem dL_law_509 : decode cL_law 509 = .ok (.iconst 1, 1) := by decide +kernel
theorem dL_law_510 : decode cL_law 510 = .ok (.iadd, 1) := by decide +kernel
theorem dL_law_511 : decode cL_law 511 = .ok (.iaload, 1) := by decide +kernel
theorem dL_law_512 : decode cL_law 512 = .ok (.invokevirtual 103, 3) := by decide +kernel
theorem dL_law_515 : decode cL_law 515 = .ok (.istore 7, 2) := by decide +kernel
theorem dL_law_517 : decode cL_law 517 = .ok (.aload_n 2, 1) := by decide +kernel
theorem dL_law_518 : decode cL_law 518 = .ok (.invokevirtual 85, 3) := by decide +kernel
theorem dL_law_521 : decode cL_law 521 = .ok (.iload 6, 2) := by decide +kernel
theorem dL_law_523 : decode cL_law 523 = .ok (.if_icmp .eq 5, 3) := by decide +kernel
theorem dL_law_526 : decode cL_law 526 = .ok (.iconst 0, 1) := by decide +kernel
theorem dL_law_527 : decode cL_law 527 = .ok (.ireturn, 1) := by decide +kernel
theorem dL_law_528 : decode cL_law 528 = .ok (.iload 6, 2) := by decide +kernel
theorem dL_law_530 : decode cL_law 530 = .ok (.ifCond .ne 15, 3) := by decide +kernel
theorem dL_law_533 : decode cL_law 533 = .ok (.aload_n 3, 1) := by decide +kernel
theorem dL_law_534 : decode cL_law 534 = .ok (.iconst 0, 1) := by decide +kernel
theorem dL_law_535 : decode cL_law 535 = .ok (.laload, 1) := by decide +kernel
theorem dL_law_536 : decode cL_law 536 = .ok (.iload 7, 2) := by decide +kernel
theorem dL_law_538 : decode cL_law 538 = .ok (.i2l, 1) := by decide +kernel
theorem dL_law_539 : decode cL_law 539 = .ok (.lcmp, 1) := by decide +kernel
theorem dL_law_540 : decode cL_law 540 = .ok (.ifCond .eq 5, 3) := by decide +kernel
theorem dL_law_543 : decode cL_law 543 = .ok (.iconst 0, 1) := by decide +kernel
theorem dL_law_544 : decode cL_law 544 = .ok (.ireturn, 1) := by decide +kernel
theorem dL_law_545 : decode cL_law 545 = .ok (.goto 1090, 3) := by decide +kernel
theorem dL_law_548 : decode cL_law 548 = .ok (.aload_n 1, 1) := by decide +kernel
theorem dL_law_549 : decode cL_law 549 = .ok (.invokevirtual 104, 3) := by decide +kernel
theorem dL_law_552 : decode cL_law 552 = .ok (.aload_n 2, 1) := by decide +kernel
theorem dL_law_553 : decode cL_law 553 = .ok (.invokevirtual 107, 3) := by decide +kernel
theorem dL_law_556 : decode cL_law 556 = .ok (.if_icmp .eq 1079, 3) := by decide +kernel
theorem dL_law_559 : decode cL_law 559 = .ok (.iconst 0, 1) := by decide +kernel
theorem dL_law_560 : decode cL_law 560 = .ok (.ireturn, 1) := by decide +kernel
theorem dL_law_561 : decode cL_law 561 = .ok (.aload_n 1, 1) := by decide +kernel
theorem dL_law_562 : decode cL_law 562 = .ok (.aload_n 0, 1) := by decide +kernel
theorem dL_law_563 : decode cL_law 563 = .ok (.iload 5, 2) := by decide +kernel
theorem dL_law_565 : decode cL_law 565 = .ok (.iconst 1, 1) := by decide +kernel
theorem dL_law_566 : decode cL_law 566 = .ok (.iadd, 1) := by decide +kernel
theorem dL_law_567 : decode cL_law 567 = .ok (.iaload, 1) := by decide +kernel
theorem dL_law_568 : decode cL_law 568 = .ok (.aload_n 0, 1) := by decide +kernel
theorem dL_law_569 : decode cL_law 569 = .ok (.iload 5, 2) := by decide +kernel
theorem dL_law_571 : decode cL_law 571 = .ok (.iconst 2, 1) := by decide +kernel
theorem dL_law_572 : decode cL_law 572 = .ok (.iadd, 1) := by decide +kernel
theorem dL_law_573 : decode cL_law 573 = .ok (.iaload, 1) := by decide +kernel
theorem dL_law_574 : decode cL_law 574 = .ok (.aload_n 0, 1) := by decide +kernel
theorem dL_law_575 : decode cL_law 575 = .ok (.iload 5, 2) := by decide +kernel
theorem dL_law_577 : decode cL_law 577 = .ok (.iconst 3, 1) := by decide +kernel
theorem dL_law_578 : decode cL_law 578 = .ok (.iadd, 1) := by decide +kernel
theorem dL_law_579 : decode cL_law 579 = .ok (.iaload, 1) := by decide +kernel
theorem dL_law_580 : decode cL_law 580 = .ok (.aload_n 0, 1) := by decide +kernel
theorem dL_law_581 : decode cL_law 581 = .ok (.iload 5, 2) := by decide +kernel
theorem dL_law_583 : decode cL_law 583 = .ok (.iconst 4, 1) := by decide +kernel
theorem dL_law_584 : decode cL_law 584 = .ok (.iadd, 1) := by decide +kernel
theorem dL_law_585 : decode cL_law 585 = .ok (.iaload, 1) := by decide +kernel
theorem dL_law_586 : decode cL_law 586 = .ok (.aload_n 3, 1) := by decide +kernel
theorem dL_law_587 : decode cL_law 587 = .ok (.invokestatic 108, 3) := by decide +kernel
theorem dL_law_590 : decode cL_law 590 = .ok (.istore 6, 2) := by decide +kernel
theorem dL_law_592 : decode cL_law 592 = .ok (.aload_n 2, 1) := by decide +kernel
theorem dL_law_593 : decode cL_law 593 = .ok (.aload_n 0, 1) := by decide +kernel
theorem dL_law_594 : decode cL_law 594 = .ok (.iload 5, 2) := by decide +kernel
theorem dL_law_596 : decode cL_law 596 = .ok (.iconst 1, 1) := by decide +kernel
theorem dL_law_597 : decode cL_law 597 = .ok (.iadd, 1) := by decide +kernel
theorem dL_law_598 : decode cL_law 598 = .ok (.iaload, 1) := by decide +kernel
theorem dL_law_599 : decode cL_law 599 = .ok (.aload_n 0, 1) := by decide +kernel
theorem dL_law_600 : decode cL_law 600 = .ok (.iload 5, 2) := by decide +kernel
theorem dL_law_602 : decode cL_law 602 = .ok (.iconst 2, 1) := by decide +kernel
theorem dL_law_603 : decode cL_law 603 = .ok (.iadd, 1) := by decide +kernel
theorem dL_law_604 : decode cL_law 604 = .ok (.iaload, 1) := by decide +kernel
theorem dL_law_605 : decode cL_law 605 = .ok (.aload_n 0, 1) := by decide +kernel
theorem dL_law_606 : decode cL_law 606 = .ok (.iload 5, 2) := by decide +kernel
theorem dL_law_608 : decode cL_law 608 = .ok (.iconst 3, 1) := by decide +kernel
theorem dL_law_609 : decode cL_law 609 = .ok (.iadd, 1) := by decide +kernel
theorem dL_law_610 : decode cL_law 610 = .ok (.iaload, 1) := by decide +kernel
theorem dL_law_611 : decode cL_law 611 = .ok (.aload_n 0, 1) := by decide +kernel
theorem dL_law_612 : decode cL_law 612 = .ok (.iload 5, 2) := by decide +kernel
theorem dL_law_614 : decode cL_law 614 = .ok (.iconst 4, 1) := by decide +kernel
theorem dL_law_615 : decode cL_law 615 = .ok (.iadd, 1) := by decide +kernel
theorem dL_law_616 : decode cL_law 616 = .ok (.iaload, 1) := by decide +kernel
theorem dL_law_617 : decode cL_law 617 = .ok (.invokevirtual 110, 3) := by decide +kernel
theorem dL_law_620 : decode cL_law 620 = .ok (.istore 7, 2) := by decide +kernel
theorem dL_law_622 : decode cL_law 622 = .ok (.aload_n 2, 1) := by decide +kernel
theorem dL_law_623 : decode cL_law 623 = .ok (.invokevirtual 85, 3) := by decide +kernel
theorem dL_law_626 : decode cL_law 626 = .ok (.iload 6, 2) := by decide +kernel
theorem dL_law_628 : decode cL_law 628 = .ok (.if_icmp .eq 5, 3) := by decide +kernel
theorem dL_law_631 : decode cL_law 631 = .ok (.iconst 0, 1) := by decide +kernel
theorem dL_law_632 : decode cL_law 632 = .ok (.ireturn, 1) := by decide +kernel
theorem dL_law_633 : decode cL_law 633 = .ok (.iload 6, 2) := by decide +kernel
theorem dL_law_635 : decode cL_law 635 = .ok (.ifCond .ne 15, 3) := by decide +kernel
theorem dL_law_638 : decode cL_law 638 = .ok (.aload_n 3, 1) := by decide +kernel
theorem dL_law_639 : decode cL_law 639 = .ok (.iconst 0, 1) := by decide +kernel
theorem dL_law_640 : decode cL_law 640 = .ok (.laload, 1) := by decide +kernel
theorem dL_law_641 : decode cL_law 641 = .ok (.iload 7, 2) := by decide +kernel
theorem dL_law_643 : decode cL_law 643 = .ok (.i2l, 1) := by decide +kernel
theorem dL_law_644 : decode cL_law 644 = .ok (.lcmp, 1) := by decide +kernel
theorem dL_law_645 : decode cL_law 645 = .ok (.ifCond .eq 5, 3) := by decide +kernel
theorem dL_law_648 : decode cL_law 648 = .ok (.iconst 0, 1) := by decide +kernel
theorem dL_law_649 : decode cL_law 649 = .ok (.ireturn, 1) := by decide +kernel
theorem dL_law_650 : decode cL_law 650 = .ok (.goto 985, 3) := by decide +kernel
theorem dL_law_653 : decode cL_law 653 = .ok (.aload_n 1, 1) := by decide +kernel
theorem dL_law_654 : decode cL_law 654 = .ok (.aload_n 0, 1) := by decide +kernel
theorem dL_law_655 : decode cL_law 655 = .ok (.iload 5, 2) := by decide +kernel
theorem dL_law_657 : decode cL_law 657 = .ok (.iconst 1, 1) := by decide +kernel
theorem dL_law_658 : decode cL_law 658 = .ok (.iadd, 1) := by decide +kernel
theorem dL_law_659 : decode cL_law 659 = .ok (.iaload, 1) := by decide +kernel
theorem dL_law_660 : decode cL_law 660 = .ok (.aload_n 0, 1) := by decide +kernel
theorem dL_law_661 : decode cL_law 661 = .ok (.iload 5, 2) := by decide +kernel
theorem dL_law_663 : decode cL_law 663 = .ok (.iconst 2, 1) := by decide +kernel
theorem dL_law_664 : decode cL_law 664 = .ok (.iadd, 1) := by decide +kernel
theorem dL_law_665 : decode cL_law 665 = .ok (.iaload, 1) := by decide +kernel
theorem dL_law_666 : decode cL_law 666 = .ok (.aload_n 0, 1) := by decide +kernel
theorem dL_law_667 : decode cL_law 667 = .ok (.iload 5, 2) := by decide +kernel
theorem dL_law_669 : decode cL_law 669 = .ok (.iconst 3, 1) := by decide +kernel
theorem dL_law_670 : decode cL_law 670 = .ok (.iadd, 1) := by decide +kernel
theorem dL_law_671 : decode cL_law 671 = .ok (.iaload, 1) := by decide +kernel
theorem dL_law_672 : decode cL_law 672 = .ok (.aload_n 3, 1) := by decide +kernel
theorem dL_law_673 : decode cL_law 673 = .ok (.invokestatic 111, 3) := by decide +kernel
theorem dL_law_676 : decode cL_law 676 = .ok (.istore 6, 2) := by decide +kernel
theorem dL_law_678 : decode cL_law 678 = .ok (.aload_n 2, 1) := by decide +kernel
theorem dL_law_679 : decode cL_law 679 = .ok (.aload_n 0, 1) := by decide +kernel
theorem dL_law_680 : decode cL_law 680 = .ok (.iload 5, 2) := by decide +kernel
theorem dL_law_682 : decode cL_law 682 = .ok (.iconst 1, 1) := by decide +kernel
theorem dL_law_683 : decode cL_law 683 = .ok (.iadd, 1) := by decide +kernel
theorem dL_law_684 : decode cL_law 684 = .ok (.iaload, 1) := by decide +kernel
theorem dL_law_685 : decode cL_law 685 = .ok (.aload_n 0, 1) := by decide +kernel
theorem dL_law_686 : decode cL_law 686 = .ok (.iload 5, 2) := by decide +kernel
theorem dL_law_688 : decode cL_law 688 = .ok (.iconst 2, 1) := by decide +kernel
theorem dL_law_689 : decode cL_law 689 = .ok (.iadd, 1) := by decide +kernel
theorem dL_law_690 : decode cL_law 690 = .ok (.iaload, 1) := by decide +kernel
theorem dL_law_691 : decode cL_law 691 = .ok (.aload_n 0, 1) := by decide +kernel
theorem dL_law_692 : decode cL_law 692 = .ok (.iload 5, 2) := by decide +kernel
theorem dL_law_694 : decode cL_law 694 = .ok (.iconst 3, 1) := by decide +kernel
theorem dL_law_695 : decode cL_law 695 = .ok (.iadd, 1) := by decide +kernel
theorem dL_law_696 : decode cL_law 696 = .ok (.iaload, 1) := by decide +kernel
theorem dL_law_697 : decode cL_law 697 = .ok (.invokevirtual 113, 3) := by decide +kernel
theorem dL_law_700 : decode cL_law 700 = .ok (.istore 7, 2) := by decide +kernel
theorem dL_law_702 : decode cL_law 702 = .ok (.aload_n 2, 1) := by decide +kernel
theorem dL_law_703 : decode cL_law 703 = .ok (.invokevirtual 85, 3) := by decide +kernel
theorem dL_law_706 : decode cL_law 706 = .ok (.iload 6, 2) := by decide +kernel
theorem dL_law_708 : decode cL_law 708 = .ok (.if_icmp .eq 5, 3) := by decide +kernel
theorem dL_law_711 : decode cL_law 711 = .ok (.iconst 0, 1) := by decide +kernel
theorem dL_law_712 : decode cL_law 712 = .ok (.ireturn, 1) := by decide +kernel
theorem dL_law_713 : decode cL_law 713 = .ok (.iload 6, 2) := by decide +kernel
theorem dL_law_715 : decode cL_law 715 = .ok (.ifCond .ne 15, 3) := by decide +kernel
theorem dL_law_718 : decode cL_law 718 = .ok (.aload_n 3, 1) := by decide +kernel
theorem dL_law_719 : decode cL_law 719 = .ok (.iconst 0, 1) := by decide +kernel
theorem dL_law_720 : decode cL_law 720 = .ok (.laload, 1) := by decide +kernel
theorem dL_law_721 : decode cL_law 721 = .ok (.iload 7, 2) := by decide +kernel
theorem dL_law_723 : decode cL_law 723 = .ok (.i2l, 1) := by decide +kernel
theorem dL_law_724 : decode cL_law 724 = .ok (.lcmp, 1) := by decide +kernel
theorem dL_law_725 : decode cL_law 725 = .ok (.ifCond .eq 5, 3) := by decide +kernel
theorem dL_law_728 : decode cL_law 728 = .ok (.iconst 0, 1) := by decide +kernel
theorem dL_law_729 : decode cL_law 729 = .ok (.ireturn, 1) := by decide +kernel
theorem dL_law_730 : decode cL_law 730 = .ok (.goto 905, 3) := by decide +kernel
theorem dL_law_733 : decode cL_law 733 = .ok (.aload_n 1, 1) := by decide +kernel
theorem dL_law_734 : decode cL_law 734 = .ok (.aload_n 0, 1) := by decide +kernel
theorem dL_law_735 : decode cL_law 735 = .ok (.iload 5, 2) := by decide +kernel
theorem dL_law_737 : decode cL_law 737 = .ok (.iconst 1, 1) := by decide +kernel
theorem dL_law_738 : decode cL_law 738 = .ok (.iadd, 1) := by decide +kernel
theorem dL_law_739 : decode cL_law 739 = .ok (.iaload, 1) := by decide +kernel
theorem dL_law_740 : decode cL_law 740 = .ok (.aload_n 0, 1) := by decide +kernel
theorem dL_law_741 : decode cL_law 741 = .ok (.iload 5, 2) := by decide +kernel
theorem dL_law_743 : decode cL_law 743 = .ok (.iconst 2, 1) := by decide +kernel
theorem dL_law_744 : decode cL_law 744 = .ok (.iadd, 1) := by decide +kernel
theorem dL_law_745 : decode cL_law 745 = .ok (.iaload, 1) := by decide +kernel
theorem dL_law_746 : decode cL_law 746 = .ok (.aload_n 0, 1) := by decide +kernel
theorem dL_law_747 : decode cL_law 747 = .ok (.iload 5, 2) := by decide +kernel
theorem dL_law_749 : decode cL_law 749 = .ok (.iconst 3, 1) := by decide +kernel
theorem dL_law_750 : decode cL_law 750 = .ok (.iadd, 1) := by decide +kernel
theorem dL_law_751 : decode cL_law 751 = .ok (.iaload, 1) := by decide +kernel
theorem dL_law_752 : decode cL_law 752 = .ok (.aload_n 3, 1) := by decide +kernel
theorem dL_law_753 : decode cL_law 753 = .ok (.invokestatic 114, 3) := by decide +kernel
theorem dL_law_756 : decode cL_law 756 = .ok (.istore 6, 2) := by decide +kernel
theorem dL_law_758 : decode cL_law 758 = .ok (.aload_n 2, 1) := by decide +kernel
theorem dL_law_759 : decode cL_law 759 = .ok (.aload_n 0, 1) := by decide +kernel
theorem dL_law_760 : decode cL_law 760 = .ok (.iload 5, 2) := by decide +kernel
theorem dL_law_762 : decode cL_law 762 = .ok (.iconst 1, 1) := by decide +kernel
theorem dL_law_763 : decode cL_law 763 = .ok (.iadd, 1) := by decide +kernel
theorem dL_law_764 : decode cL_law 764 = .ok (.iaload, 1) := by decide +kernel
theorem dL_law_765 : decode cL_law 765 = .ok (.aload_n 0, 1) := by decide +kernel
theorem dL_law_766 : decode cL_law 766 = .ok (.iload 5, 2) := by decide +kernel
theorem dL_law_768 : decode cL_law 768 = .ok (.iconst 2, 1) := by decide +kernel
theorem dL_law_769 : decode cL_law 769 = .ok (.iadd, 1) := by decide +kernel
theorem dL_law_770 : decode cL_law 770 = .ok (.iaload, 1) := by decide +kernel
theorem dL_law_771 : decode cL_law 771 = .ok (.aload_n 0, 1) := by decide +kernel
theorem dL_law_772 : decode cL_law 772 = .ok (.iload 5, 2) := by decide +kernel
theorem dL_law_774 : decode cL_law 774 = .ok (.iconst 3, 1) := by decide +kernel
theorem dL_law_775 : decode cL_law 775 = .ok (.iadd, 1) := by decide +kernel
theorem dL_law_776 : decode cL_law 776 = .ok (.iaload, 1) := by decide +kernel
theorem dL_law_777 : decode cL_law 777 = .ok (.invokevirtual 116, 3) := by decide +kernel
theorem dL_law_780 : decode cL_law 780 = .ok (.istore 7, 2) := by decide +kernel
theorem dL_law_782 : decode cL_law 782 = .ok (.aload_n 2, 1) := by decide +kernel
theorem dL_law_783 : decode cL_law 783 = .ok (.invokevirtual 85, 3) := by decide +kernel
theorem dL_law_786 : decode cL_law 786 = .ok (.iload 6, 2) := by decide +kernel
theorem dL_law_788 : decode cL_law 788 = .ok (.if_icmp .eq 5, 3) := by decide +kernel
theorem dL_law_791 : decode cL_law 791 = .ok (.iconst 0, 1) := by decide +kernel
theorem dL_law_792 : decode cL_law 792 = .ok (.ireturn, 1) := by decide +kernel
theorem dL_law_793 : decode cL_law 793 = .ok (.iload 6, 2) := by decide +kernel
theorem dL_law_795 : decode cL_law 795 = .ok (.ifCond .ne 15, 3) := by decide +kernel
theorem dL_law_798 : decode cL_law 798 = .ok (.aload_n 3, 1) := by decide +kernel
theorem dL_law_799 : decode cL_law 799 = .ok (.iconst 0, 1) := by decide +kernel
theorem dL_law_800 : decode cL_law 800 = .ok (.laload, 1) := by decide +kernel
theorem dL_law_801 : decode cL_law 801 = .ok (.iload 7, 2) := by decide +kernel
theorem dL_law_803 : decode cL_law 803 = .ok (.i2l, 1) := by decide +kernel
theorem dL_law_804 : decode cL_law 804 = .ok (.lcmp, 1) := by decide +kernel
theorem dL_law_805 : decode cL_law 805 = .ok (.ifCond .eq 5, 3) := by decide +kernel
theorem dL_law_808 : decode cL_law 808 = .ok (.iconst 0, 1) := by decide +kernel
theorem dL_law_809 : decode cL_law 809 = .ok (.ireturn, 1) := by decide +kernel
theorem dL_law_810 : decode cL_law 810 = .ok (.goto 825, 3) := by decide +kernel
theorem dL_law_813 : decode cL_law 813 = .ok (.aload_n 1, 1) := by decide +kernel
theorem dL_law_814 : decode cL_law 814 = .ok (.aload_n 0, 1) := by decide +kernel
theorem dL_law_815 : decode cL_law 815 = .ok (.iload 5, 2) := by decide +kernel
theorem dL_law_817 : decode cL_law 817 = .ok (.iconst 1, 1) := by decide +kernel
theorem dL_law_818 : decode cL_law 818 = .ok (.iadd, 1) := by decide +kernel
theorem dL_law_819 : decode cL_law 819 = .ok (.iaload, 1) := by decide +kernel
theorem dL_law_820 : decode cL_law 820 = .ok (.aload_n 0, 1) := by decide +kernel
theorem dL_law_821 : decode cL_law 821 = .ok (.iload 5, 2) := by decide +kernel
theorem dL_law_823 : decode cL_law 823 = .ok (.iconst 2, 1) := by decide +kernel
theorem dL_law_824 : decode cL_law 824 = .ok (.iadd, 1) := by decide +kernel
theorem dL_law_825 : decode cL_law 825 = .ok (.iaload, 1) := by decide +kernel
theorem dL_law_826 : decode cL_law 826 = .ok (.aload_n 0, 1) := by decide +kernel
theorem dL_law_827 : decode cL_law 827 = .ok (.iload 5, 2) := by decide +kernel
theorem dL_law_829 : decode cL_law 829 = .ok (.iconst 3, 1) := by decide +kernel
theorem dL_law_830 : decode cL_law 830 = .ok (.iadd, 1) := by decide +kernel
theorem dL_law_831 : decode cL_law 831 = .ok (.iaload, 1) := by decide +kernel
theorem dL_law_832 : decode cL_law 832 = .ok (.aload_n 3, 1) := by decide +kernel
theorem dL_law_833 : decode cL_law 833 = .ok (.invokestatic 117, 3) := by decide +kernel
theorem dL_law_836 : decode cL_law 836 = .ok (.istore 6, 2) := by decide +kernel
theorem dL_law_838 : decode cL_law 838 = .ok (.aload_n 2, 1) := by decide +kernel
theorem dL_law_839 : decode cL_law 839 = .ok (.aload_n 0, 1) := by decide +kernel
theorem dL_law_840 : decode cL_law 840 = .ok (.iload 5, 2) := by decide +kernel
theorem dL_law_842 : decode cL_law 842 = .ok (.iconst 1, 1) := by decide +kernel
theorem dL_law_843 : decode cL_law 843 = .ok (.iadd, 1) := by decide +kernel
theorem dL_law_844 : decode cL_law 844 = .ok (.iaload, 1) := by decide +kernel
theorem dL_law_845 : decode cL_law 845 = .ok (.aload_n 0, 1) := by decide +kernel
theorem dL_law_846 : decode cL_law 846 = .ok (.iload 5, 2) := by decide +kernel
theorem dL_law_848 : decode cL_law 848 = .ok (.iconst 2, 1) := by decide +kernel
theorem dL_law_849 : decode cL_law 849 = .ok (.iadd, 1) := by decide +kernel
theorem dL_law_850 : decode cL_law 850 = .ok (.iaload, 1) := by decide +kernel
theorem dL_law_851 : decode cL_law 851 = .ok (.aload_n 0, 1) := by decide +kernel
theorem dL_law_852 : decode cL_law 852 = .ok (.iload 5, 2) := by decide +kernel
theorem dL_law_854 : decode cL_law 854 = .ok (.iconst 3, 1) := by decide +kernel
theorem dL_law_855 : decode cL_law 855 = .ok (.iadd, 1) := by decide +kernel
theorem dL_law_856 : decode cL_law 856 = .ok (.iaload, 1) := by decide +kernel
theorem dL_law_857 : decode cL_law 857 = .ok (.invokevirtual 119, 3) := by decide +kernel
theorem dL_law_860 : decode cL_law 860 = .ok (.istore 7, 2) := by decide +kernel
theorem dL_law_862 : decode cL_law 862 = .ok (.aload_n 2, 1) := by decide +kernel
theorem dL_law_863 : decode cL_law 863 = .ok (.invokevirtual 85, 3) := by decide +kernel
theorem dL_law_866 : decode cL_law 866 = .ok (.iload 6, 2) := by decide +kernel
theorem dL_law_868 : decode cL_law 868 = .ok (.if_icmp .eq 5, 3) := by decide +kernel
theorem dL_law_871 : decode cL_law 871 = .ok (.iconst 0, 1) := by decide +kernel
theorem dL_law_872 : decode cL_law 872 = .ok (.ireturn, 1) := by decide +kernel
theorem dL_law_873 : decode cL_law 873 = .ok (.iload 6, 2) := by decide +kernel
theorem dL_law_875 : decode cL_law 875 = .ok (.ifCond .ne 15, 3) := by decide +kernel
theorem dL_law_878 : decode cL_law 878 = .ok (.aload_n 3, 1) := by decide +kernel
theorem dL_law_879 : decode cL_law 879 = .ok (.iconst 0, 1) := by decide +kernel
theorem dL_law_880 : decode cL_law 880 = .ok (.laload, 1) := by decide +kernel
theorem dL_law_881 : decode cL_law 881 = .ok (.iload 7, 2) := by decide +kernel
theorem dL_law_883 : decode cL_law 883 = .ok (.i2l, 1) := by decide +kernel
theorem dL_law_884 : decode cL_law 884 = .ok (.lcmp, 1) := by decide +kernel
theorem dL_law_885 : decode cL_law 885 = .ok (.ifCond .eq 5, 3) := by decide +kernel
theorem dL_law_888 : decode cL_law 888 = .ok (.iconst 0, 1) := by decide +kernel
theorem dL_law_889 : decode cL_law 889 = .ok (.ireturn, 1) := by decide +kernel
theorem dL_law_890 : decode cL_law 890 = .ok (.goto 745, 3) := by decide +kernel
theorem dL_law_893 : decode cL_law 893 = .ok (.aload_n 1, 1) := by decide +kernel
theorem dL_law_894 : decode cL_law 894 = .ok (.aload_n 0, 1) := by decide +kernel
theorem dL_law_895 : decode cL_law 895 = .ok (.iload 5, 2) := by decide +kernel
theorem dL_law_897 : decode cL_law 897 = .ok (.iconst 1, 1) := by decide +kernel
theorem dL_law_898 : decode cL_law 898 = .ok (.iadd, 1) := by decide +kernel
theorem dL_law_899 : decode cL_law 899 = .ok (.iaload, 1) := by decide +kernel
theorem dL_law_900 : decode cL_law 900 = .ok (.aload_n 0, 1) := by decide +kernel
theorem dL_law_901 : decode cL_law 901 = .ok (.iload 5, 2) := by decide +kernel
theorem dL_law_903 : decode cL_law 903 = .ok (.iconst 2, 1) := by decide +kernel
theorem dL_law_904 : decode cL_law 904 = .ok (.iadd, 1) := by decide +kernel
theorem dL_law_905 : decode cL_law 905 = .ok (.iaload, 1) := by decide +kernel
theorem dL_law_906 : decode cL_law 906 = .ok (.aload_n 0, 1) := by decide +kernel
theorem dL_law_907 : decode cL_law 907 = .ok (.iload 5, 2) := by decide +kernel
theorem dL_law_909 : decode cL_law 909 = .ok (.iconst 3, 1) := by decide +kernel
theorem dL_law_910 : decode cL_law 910 = .ok (.iadd, 1) := by decide +kernel
theorem dL_law_911 : decode cL_law 911 = .ok (.iaload, 1) := by decide +kernel
theorem dL_law_912 : decode cL_law 912 = .ok (.aload_n 0, 1) := by decide +kernel
theorem dL_law_913 : decode cL_law 913 = .ok (.iload 5, 2) := by decide +kernel
theorem dL_law_915 : decode cL_law 915 = .ok (.iconst 4, 1) := by decide +kernel
theorem dL_law_916 : decode cL_law 916 = .ok (.iadd, 1) := by decide +kernel
theorem dL_law_917 : decode cL_law 917 = .ok (.iaload, 1) := by decide +kernel
theorem dL_law_918 : decode cL_law 918 = .ok (.aload_n 3, 1) := by decide +kernel
theorem dL_law_919 : decode cL_law 919 = .ok (.invokestatic 120, 3) := by decide +kernel
theorem dL_law_922 : decode cL_law 922 = .ok (.istore 6, 2) := by decide +kernel
theorem dL_law_924 : decode cL_law 924 = .ok (.aload_n 2, 1) := by decide +kernel
theorem dL_law_925 : decode cL_law 925 = .ok (.aload_n 0, 1) := by decide +kernel
theorem dL_law_926 : decode cL_law 926 = .ok (.iload 5, 2) := by decide +kernel
theorem dL_law_928 : decode cL_law 928 = .ok (.iconst 1, 1) := by decide +kernel
theorem dL_law_929 : decode cL_law 929 = .ok (.iadd, 1) := by decide +kernel
theorem dL_law_930 : decode cL_law 930 = .ok (.iaload, 1) := by decide +kernel
theorem dL_law_931 : decode cL_law 931 = .ok (.aload_n 0, 1) := by decide +kernel
theorem dL_law_932 : decode cL_law 932 = .ok (.iload 5, 2) := by decide +kernel
theorem dL_law_934 : decode cL_law 934 = .ok (.iconst 2, 1) := by decide +kernel
theorem dL_law_935 : decode cL_law 935 = .ok (.iadd, 1) := by decide +kernel
theorem dL_law_936 : decode cL_law 936 = .ok (.iaload, 1) := by decide +kernel
theorem dL_law_937 : decode cL_law 937 = .ok (.aload_n 0, 1) := by decide +kernel
theorem dL_law_938 : decode cL_law 938 = .ok (.iload 5, 2) := by decide +kernel
theorem dL_law_940 : decode cL_law 940 = .ok (.iconst 3, 1) := by decide +kernel
theorem dL_law_941 : decode cL_law 941 = .ok (.iadd, 1) := by decide +kernel
theorem dL_law_942 : decode cL_law 942 = .ok (.iaload, 1) := by decide +kernel
theorem dL_law_943 : decode cL_law 943 = .ok (.aload_n 0, 1) := by decide +kernel
theorem dL_law_944 : decode cL_law 944 = .ok (.iload 5, 2) := by decide +kernel
theorem dL_law_946 : decode cL_law 946 = .ok (.iconst 4, 1) := by decide +kernel
theorem dL_law_947 : decode cL_law 947 = .ok (.iadd, 1) := by decide +kernel
theorem dL_law_948 : decode cL_law 948 = .ok (.iaload, 1) := by decide +kernel
theorem dL_law_949 : decode cL_law 949 = .ok (.invokevirtual 122, 3) := by decide +kernel
theorem dL_law_952 : decode cL_law 952 = .ok (.istore 7, 2) := by decide +kernel
theorem dL_law_954 : decode cL_law 954 = .ok (.aload_n 2, 1) := by decide +kernel
theorem dL_law_955 : decode cL_law 955 = .ok (.invokevirtual 85, 3) := by decide +kernel
theorem dL_law_958 : decode cL_law 958 = .ok (.iload 6, 2) := by decide +kernel
theorem dL_law_960 : decode cL_law 960 = .ok (.if_icmp .eq 5, 3) := by decide +kernel
theorem dL_law_963 : decode cL_law 963 = .ok (.iconst 0, 1) := by decide +kernel
theorem dL_law_964 : decode cL_law 964 = .ok (.ireturn, 1) := by decide +kernel
theorem dL_law_965 : decode cL_law 965 = .ok (.iload 6, 2) := by decide +kernel
theorem dL_law_967 : decode cL_law 967 = .ok (.ifCond .ne 15, 3) := by decide +kernel
theorem dL_law_970 : decode cL_law 970 = .ok (.aload_n 3, 1) := by decide +kernel
theorem dL_law_971 : decode cL_law 971 = .ok (.iconst 0, 1) := by decide +kernel
theorem dL_law_972 : decode cL_law 972 = .ok (.laload, 1) := by decide +kernel
theorem dL_law_973 : decode cL_law 973 = .ok (.iload 7, 2) := by decide +kernel
theorem dL_law_975 : decode cL_law 975 = .ok (.i2l, 1) := by decide +kernel
theorem dL_law_976 : decode cL_law 976 = .ok (.lcmp, 1) := by decide +kernel
theorem dL_law_977 : decode cL_law 977 = .ok (.ifCond .eq 5, 3) := by decide +kernel
theorem dL_law_980 : decode cL_law 980 = .ok (.iconst 0, 1) := by decide +kernel
theorem dL_law_981 : decode cL_law 981 = .ok (.ireturn, 1) := by decide +kernel
theorem dL_law_982 : decode cL_law 982 = .ok (.goto 653, 3) := by decide +kernel
theorem dL_law_985 : decode cL_law 985 = .ok (.aload_n 1, 1) := by decide +kernel
theorem dL_law_986 : decode cL_law 986 = .ok (.aload_n 0, 1) := by decide +kernel
theorem dL_law_987 : decode cL_law 987 = .ok (.iload 5, 2) := by decide +kernel
theorem dL_law_989 : decode cL_law 989 = .ok (.iconst 1, 1) := by decide +kernel
theorem dL_law_990 : decode cL_law 990 = .ok (.iadd, 1) := by decide +kernel
theorem dL_law_991 : decode cL_law 991 = .ok (.iaload, 1) := by decide +kernel
theorem dL_law_992 : decode cL_law 992 = .ok (.aload_n 0, 1) := by decide +kernel
theorem dL_law_993 : decode cL_law 993 = .ok (.iload 5, 2) := by decide +kernel
theorem dL_law_995 : decode cL_law 995 = .ok (.iconst 2, 1) := by decide +kernel
theorem dL_law_996 : decode cL_law 996 = .ok (.iadd, 1) := by decide +kernel
theorem dL_law_997 : decode cL_law 997 = .ok (.iaload, 1) := by decide +kernel
theorem dL_law_998 : decode cL_law 998 = .ok (.aload_n 3, 1) := by decide +kernel
theorem dL_law_999 : decode cL_law 999 = .ok (.invokestatic 123, 3) := by decide +kernel
theorem dL_law_1002 : decode cL_law 1002 = .ok (.istore 6, 2) := by decide +kernel
theorem dL_law_1004 : decode cL_law 1004 = .ok (.aload_n 2, 1) := by decide +kernel
theorem dL_law_1005 : decode cL_law 1005 = .ok (.aload_n 0, 1) := by decide +kernel
theorem dL_law_1006 : decode cL_law 1006 = .ok (.iload 5, 2) := by decide +kernel
theorem dL_law_1008 : decode cL_law 1008 = .ok (.iconst 1, 1) := by decide +kernel
theorem dL_law_1009 : decode cL_law 1009 = .ok (.iadd, 1) := by decide +kernel
theorem dL_law_1010 : decode cL_law 1010 = .ok (.iaload, 1) := by decide +kernel
theorem dL_law_1011 : decode cL_law 1011 = .ok (.aload_n 0, 1) := by decide +kernel
theorem dL_law_1012 : decode cL_law 1012 = .ok (.iload 5, 2) := by decide +kernel
theorem dL_law_1014 : decode cL_law 1014 = .ok (.iconst 2, 1) := by decide +kernel
theorem dL_law_1015 : decode cL_law 1015 = .ok (.iadd, 1) := by decide +kernel
theorem dL_law_1016 : decode cL_law 1016 = .ok (.iaload, 1) := by decide +kernel
theorem dL_law_1017 : decode cL_law 1017 = .ok (.invokevirtual 126, 3) := by decide +kernel
theorem dL_law_1020 : decode cL_law 1020 = .ok (.istore 7, 2) := by decide +kernel
theorem dL_law_1022 : decode cL_law 1022 = .ok (.aload_n 2, 1) := by decide +kernel
theorem dL_law_1023 : decode cL_law 1023 = .ok (.invokevirtual 85, 3) := by decide +kernel
theorem dL_law_1026 : decode cL_law 1026 = .ok (.iload 6, 2) := by decide +kernel
theorem dL_law_1028 : decode cL_law 1028 = .ok (.if_icmp .eq 5, 3) := by decide +kernel
theorem dL_law_1031 : decode cL_law 1031 = .ok (.iconst 0, 1) := by decide +kernel
theorem dL_law_1032 : decode cL_law 1032 = .ok (.ireturn, 1) := by decide +kernel
theorem dL_law_1033 : decode cL_law 1033 = .ok (.iload 6, 2) := by decide +kernel
theorem dL_law_1035 : decode cL_law 1035 = .ok (.ifCond .ne 15, 3) := by decide +kernel
theorem dL_law_1038 : decode cL_law 1038 = .ok (.aload_n 3, 1) := by decide +kernel
theorem dL_law_1039 : decode cL_law 1039 = .ok (.iconst 0, 1) := by decide +kernel
theorem dL_law_1040 : decode cL_law 1040 = .ok (.laload, 1) := by decide +kernel
theorem dL_law_1041 : decode cL_law 1041 = .ok (.iload 7, 2) := by decide +kernel
theorem dL_law_1043 : decode cL_law 1043 = .ok (.i2l, 1) := by decide +kernel
theorem dL_law_1044 : decode cL_law 1044 = .ok (.lcmp, 1) := by decide +kernel
theorem dL_law_1045 : decode cL_law 1045 = .ok (.ifCond .eq 5, 3) := by decide +kernel
theorem dL_law_1048 : decode cL_law 1048 = .ok (.iconst 0, 1) := by decide +kernel
theorem dL_law_1049 : decode cL_law 1049 = .ok (.ireturn, 1) := by decide +kernel
theorem dL_law_1050 : decode cL_law 1050 = .ok (.goto 585, 3) := by decide +kernel
theorem dL_law_1053 : decode cL_law 1053 = .ok (.aload_n 1, 1) := by decide +kernel
theorem dL_law_1054 : decode cL_law 1054 = .ok (.aload_n 0, 1) := by decide +kernel
theorem dL_law_1055 : decode cL_law 1055 = .ok (.iload 5, 2) := by decide +kernel
theorem dL_law_1057 : decode cL_law 1057 = .ok (.iconst 1, 1) := by decide +kernel
theorem dL_law_1058 : decode cL_law 1058 = .ok (.iadd, 1) := by decide +kernel
theorem dL_law_1059 : decode cL_law 1059 = .ok (.iaload, 1) := by decide +kernel
theorem dL_law_1060 : decode cL_law 1060 = .ok (.aload_n 0, 1) := by decide +kernel
theorem dL_law_1061 : decode cL_law 1061 = .ok (.iload 5, 2) := by decide +kernel
theorem dL_law_1063 : decode cL_law 1063 = .ok (.iconst 2, 1) := by decide +kernel
theorem dL_law_1064 : decode cL_law 1064 = .ok (.iadd, 1) := by decide +kernel
theorem dL_law_1065 : decode cL_law 1065 = .ok (.iaload, 1) := by decide +kernel
theorem dL_law_1066 : decode cL_law 1066 = .ok (.aload_n 3, 1) := by decide +kernel
theorem dL_law_1067 : decode cL_law 1067 = .ok (.invokestatic 127, 3) := by decide +kernel
theorem dL_law_1070 : decode cL_law 1070 = .ok (.istore 6, 2) := by decide +kernel
theorem dL_law_1072 : decode cL_law 1072 = .ok (.aload_n 2, 1) := by decide +kernel
theorem dL_law_1073 : decode cL_law 1073 = .ok (.aload_n 0, 1) := by decide +kernel
theorem dL_law_1074 : decode cL_law 1074 = .ok (.iload 5, 2) := by decide +kernel
theorem dL_law_1076 : decode cL_law 1076 = .ok (.iconst 1, 1) := by decide +kernel
theorem dL_law_1077 : decode cL_law 1077 = .ok (.iadd, 1) := by decide +kernel
theorem dL_law_1078 : decode cL_law 1078 = .ok (.iaload, 1) := by decide +kernel
theorem dL_law_1079 : decode cL_law 1079 = .ok (.aload_n 0, 1) := by decide +kernel
theorem dL_law_1080 : decode cL_law 1080 = .ok (.iload 5, 2) := by decide +kernel
theorem dL_law_1082 : decode cL_law 1082 = .ok (.iconst 2, 1) := by decide +kernel
theorem dL_law_1083 : decode cL_law 1083 = .ok (.iadd, 1) := by decide +kernel
theorem dL_law_1084 : decode cL_law 1084 = .ok (.iaload, 1) := by decide +kernel
theorem dL_law_1085 : decode cL_law 1085 = .ok (.invokevirtual 129, 3) := by decide +kernel
theorem dL_law_1088 : decode cL_law 1088 = .ok (.istore 7, 2) := by decide +kernel
theorem dL_law_1090 : decode cL_law 1090 = .ok (.aload_n 2, 1) := by decide +kernel
theorem dL_law_1091 : decode cL_law 1091 = .ok (.invokevirtual 85, 3) := by decide +kernel
theorem dL_law_1094 : decode cL_law 1094 = .ok (.iload 6, 2) := by decide +kernel
theorem dL_law_1096 : decode cL_law 1096 = .ok (.if_icmp .eq 5, 3) := by decide +kernel
theorem dL_law_1099 : decode cL_law 1099 = .ok (.iconst 0, 1) := by decide +kernel
theorem dL_law_1100 : decode cL_law 1100 = .ok (.ireturn, 1) := by decide +kernel
theorem dL_law_1101 : decode cL_law 1101 = .ok (.iload 6, 2) := by decide +kernel
theorem dL_law_1103 : decode cL_law 1103 = .ok (.ifCond .ne 15, 3) := by decide +kernel
theorem dL_law_1106 : decode cL_law 1106 = .ok (.aload_n 3, 1) := by decide +kernel
theorem dL_law_1107 : decode cL_law 1107 = .ok (.iconst 0, 1) := by decide +kernel
theorem dL_law_1108 : decode cL_law 1108 = .ok (.laload, 1) := by decide +kernel
theorem dL_law_1109 : decode cL_law 1109 = .ok (.iload 7, 2) := by decide +kernel
theorem dL_law_1111 : decode cL_law 1111 = .ok (.i2l, 1) := by decide +kernel
theorem dL_law_1112 : decode cL_law 1112 = .ok (.lcmp, 1) := by decide +kernel
theorem dL_law_1113 : decode cL_law 1113 = .ok (.ifCond .eq 5, 3) := by decide +kernel
theorem dL_law_1116 : decode cL_law 1116 = .ok (.iconst 0, 1) := by decide +kernel
theorem dL_law_1117 : decode cL_law 1117 = .ok (.ireturn, 1) := by decide +kernel
theorem dL_law_1118 : decode cL_law 1118 = .ok (.goto 517, 3) := by decide +kernel
theorem dL_law_1121 : decode cL_law 1121 = .ok (.aload_n 1, 1) := by decide +kernel
theorem dL_law_1122 : decode cL_law 1122 = .ok (.aload_n 0, 1) := by decide +kernel
theorem dL_law_1123 : decode cL_law 1123 = .ok (.iload 5, 2) := by decide +kernel
theorem dL_law_1125 : decode cL_law 1125 = .ok (.iconst 1, 1) := by decide +kernel
theorem dL_law_1126 : decode cL_law 1126 = .ok (.iadd, 1) := by decide +kernel
theorem dL_law_1127 : decode cL_law 1127 = .ok (.iaload, 1) := by decide +kernel
theorem dL_law_1128 : decode cL_law 1128 = .ok (.aload_n 0, 1) := by decide +kernel
theorem dL_law_1129 : decode cL_law 1129 = .ok (.iload 5, 2) := by decide +kernel
theorem dL_law_1131 : decode cL_law 1131 = .ok (.iconst 2, 1) := by decide +kernel
theorem dL_law_1132 : decode cL_law 1132 = .ok (.iadd, 1) := by decide +kernel
theorem dL_law_1133 : decode cL_law 1133 = .ok (.iaload, 1) := by decide +kernel
theorem dL_law_1134 : decode cL_law 1134 = .ok (.aload_n 0, 1) := by decide +kernel
theorem dL_law_1135 : decode cL_law 1135 = .ok (.iload 5, 2) := by decide +kernel
theorem dL_law_1137 : decode cL_law 1137 = .ok (.iconst 3, 1) := by decide +kernel
theorem dL_law_1138 : decode cL_law 1138 = .ok (.iadd, 1) := by decide +kernel
theorem dL_law_1139 : decode cL_law 1139 = .ok (.iaload, 1) := by decide +kernel
theorem dL_law_1140 : decode cL_law 1140 = .ok (.aload_n 3, 1) := by decide +kernel
theorem dL_law_1141 : decode cL_law 1141 = .ok (.invokestatic 130, 3) := by decide +kernel
theorem dL_law_1144 : decode cL_law 1144 = .ok (.istore 6, 2) := by decide +kernel
theorem dL_law_1146 : decode cL_law 1146 = .ok (.aload_n 2, 1) := by decide +kernel
theorem dL_law_1147 : decode cL_law 1147 = .ok (.aload_n 0, 1) := by decide +kernel
theorem dL_law_1148 : decode cL_law 1148 = .ok (.iload 5, 2) := by decide +kernel
theorem dL_law_1150 : decode cL_law 1150 = .ok (.iconst 1, 1) := by decide +kernel
theorem dL_law_1151 : decode cL_law 1151 = .ok (.iadd, 1) := by decide +kernel
theorem dL_law_1152 : decode cL_law 1152 = .ok (.iaload, 1) := by decide +kernel
theorem dL_law_1153 : decode cL_law 1153 = .ok (.aload_n 0, 1) := by decide +kernel
theorem dL_law_1154 : decode cL_law 1154 = .ok (.iload 5, 2) := by decide +kernel
theorem dL_law_1156 : decode cL_law 1156 = .ok (.iconst 2, 1) := by decide +kernel
theorem dL_law_1157 : decode cL_law 1157 = .ok (.iadd, 1) := by decide +kernel
theorem dL_law_1158 : decode cL_law 1158 = .ok (.iaload, 1) := by decide +kernel
theorem dL_law_1159 : decode cL_law 1159 = .ok (.aload_n 0, 1) := by decide +kernel
theorem dL_law_1160 : decode cL_law 1160 = .ok (.iload 5, 2) := by decide +kernel
theorem dL_law_1162 : decode cL_law 1162 = .ok (.iconst 3, 1) := by decide +kernel
theorem dL_law_1163 : decode cL_law 1163 = .ok (.iadd, 1) := by decide +kernel
theorem dL_law_1164 : decode cL_law 1164 = .ok (.iaload, 1) := by decide +kernel
theorem dL_law_1165 : decode cL_law 1165 = .ok (.invokevirtual 132, 3) := by decide +kernel
theorem dL_law_1168 : decode cL_law 1168 = .ok (.istore 7, 2) := by decide +kernel
theorem dL_law_1170 : decode cL_law 1170 = .ok (.aload_n 2, 1) := by decide +kernel
theorem dL_law_1171 : decode cL_law 1171 = .ok (.invokevirtual 85, 3) := by decide +kernel
theorem dL_law_1174 : decode cL_law 1174 = .ok (.iload 6, 2) := by decide +kernel
theorem dL_law_1176 : decode cL_law 1176 = .ok (.if_icmp .eq 5, 3) := by decide +kernel
theorem dL_law_1179 : decode cL_law 1179 = .ok (.iconst 0, 1) := by decide +kernel
theorem dL_law_1180 : decode cL_law 1180 = .ok (.ireturn, 1) := by decide +kernel
theorem dL_law_1181 : decode cL_law 1181 = .ok (.iload 6, 2) := by decide +kernel
theorem dL_law_1183 : decode cL_law 1183 = .ok (.ifCond .ne 15, 3) := by decide +kernel
theorem dL_law_1186 : decode cL_law 1186 = .ok (.aload_n 3, 1) := by decide +kernel
theorem dL_law_1187 : decode cL_law 1187 = .ok (.iconst 0, 1) := by decide +kernel
theorem dL_law_1188 : decode cL_law 1188 = .ok (.laload, 1) := by decide +kernel
theorem dL_law_1189 : decode cL_law 1189 = .ok (.iload 7, 2) := by decide +kernel
theorem dL_law_1191 : decode cL_law 1191 = .ok (.i2l, 1) := by decide +kernel
theorem dL_law_1192 : decode cL_law 1192 = .ok (.lcmp, 1) := by decide +kernel
theorem dL_law_1193 : decode cL_law 1193 = .ok (.ifCond .eq 5, 3) := by decide +kernel
theorem dL_law_1196 : decode cL_law 1196 = .ok (.iconst 0, 1) := by decide +kernel
theorem dL_law_1197 : decode cL_law 1197 = .ok (.ireturn, 1) := by decide +kernel
theorem dL_law_1198 : decode cL_law 1198 = .ok (.goto 437, 3) := by decide +kernel
theorem dL_law_1201 : decode cL_law 1201 = .ok (.aload_n 1, 1) := by decide +kernel
theorem dL_law_1202 : decode cL_law 1202 = .ok (.aload_n 0, 1) := by decide +kernel
theorem dL_law_1203 : decode cL_law 1203 = .ok (.iload 5, 2) := by decide +kernel
theorem dL_law_1205 : decode cL_law 1205 = .ok (.iconst 1, 1) := by decide +kernel
theorem dL_law_1206 : decode cL_law 1206 = .ok (.iadd, 1) := by decide +kernel
theorem dL_law_1207 : decode cL_law 1207 = .ok (.iaload, 1) := by decide +kernel
theorem dL_law_1208 : decode cL_law 1208 = .ok (.aload_n 0, 1) := by decide +kernel
theorem dL_law_1209 : decode cL_law 1209 = .ok (.iload 5, 2) := by decide +kernel
theorem dL_law_1211 : decode cL_law 1211 = .ok (.iconst 2, 1) := by decide +kernel
theorem dL_law_1212 : decode cL_law 1212 = .ok (.iadd, 1) := by decide +kernel
theorem dL_law_1213 : decode cL_law 1213 = .ok (.iaload, 1) := by decide +kernel
theorem dL_law_1214 : decode cL_law 1214 = .ok (.aload_n 0, 1) := by decide +kernel
theorem dL_law_1215 : decode cL_law 1215 = .ok (.iload 5, 2) := by decide +kernel
theorem dL_law_1217 : decode cL_law 1217 = .ok (.iconst 3, 1) := by decide +kernel
theorem dL_law_1218 : decode cL_law 1218 = .ok (.iadd, 1) := by decide +kernel
theorem dL_law_1219 : decode cL_law 1219 = .ok (.iaload, 1) := by decide +kernel
theorem dL_law_1220 : decode cL_law 1220 = .ok (.aload_n 3, 1) := by decide +kernel
theorem dL_law_1221 : decode cL_law 1221 = .ok (.invokestatic 133, 3) := by decide +kernel
theorem dL_law_1224 : decode cL_law 1224 = .ok (.istore 6, 2) := by decide +kernel
theorem dL_law_1226 : decode cL_law 1226 = .ok (.aload_n 2, 1) := by decide +kernel
theorem dL_law_1227 : decode cL_law 1227 = .ok (.aload_n 0, 1) := by decide +kernel
theorem dL_law_1228 : decode cL_law 1228 = .ok (.iload 5, 2) := by decide +kernel
theorem dL_law_1230 : decode cL_law 1230 = .ok (.iconst 1, 1) := by decide +kernel
theorem dL_law_1231 : decode cL_law 1231 = .ok (.iadd, 1) := by decide +kernel
theorem dL_law_1232 : decode cL_law 1232 = .ok (.iaload, 1) := by decide +kernel
theorem dL_law_1233 : decode cL_law 1233 = .ok (.aload_n 0, 1) := by decide +kernel
theorem dL_law_1234 : decode cL_law 1234 = .ok (.iload 5, 2) := by decide +kernel
theorem dL_law_1236 : decode cL_law 1236 = .ok (.iconst 2, 1) := by decide +kernel
theorem dL_law_1237 : decode cL_law 1237 = .ok (.iadd, 1) := by decide +kernel
theorem dL_law_1238 : decode cL_law 1238 = .ok (.iaload, 1) := by decide +kernel
theorem dL_law_1239 : decode cL_law 1239 = .ok (.aload_n 0, 1) := by decide +kernel
theorem dL_law_1240 : decode cL_law 1240 = .ok (.iload 5, 2) := by decide +kernel
theorem dL_law_1242 : decode cL_law 1242 = .ok (.iconst 3, 1) := by decide +kernel
theorem dL_law_1243 : decode cL_law 1243 = .ok (.iadd, 1) := by decide +kernel
theorem dL_law_1244 : decode cL_law 1244 = .ok (.iaload, 1) := by decide +kernel
theorem dL_law_1245 : decode cL_law 1245 = .ok (.invokevirtual 135, 3) := by decide +kernel
theorem dL_law_1248 : decode cL_law 1248 = .ok (.istore 7, 2) := by decide +kernel
theorem dL_law_1250 : decode cL_law 1250 = .ok (.aload_n 2, 1) := by decide +kernel
theorem dL_law_1251 : decode cL_law 1251 = .ok (.invokevirtual 85, 3) := by decide +kernel
theorem dL_law_1254 : decode cL_law 1254 = .ok (.iload 6, 2) := by decide +kernel
theorem dL_law_1256 : decode cL_law 1256 = .ok (.if_icmp .eq 5, 3) := by decide +kernel
theorem dL_law_1259 : decode cL_law 1259 = .ok (.iconst 0, 1) := by decide +kernel
theorem dL_law_1260 : decode cL_law 1260 = .ok (.ireturn, 1) := by decide +kernel
theorem dL_law_1261 : decode cL_law 1261 = .ok (.iload 6, 2) := by decide +kernel
theorem dL_law_1263 : decode cL_law 1263 = .ok (.ifCond .ne 15, 3) := by decide +kernel
theorem dL_law_1266 : decode cL_law 1266 = .ok (.aload_n 3, 1) := by decide +kernel
theorem dL_law_1267 : decode cL_law 1267 = .ok (.iconst 0, 1) := by decide +kernel
theorem dL_law_1268 : decode cL_law 1268 = .ok (.laload, 1) := by decide +kernel
theorem dL_law_1269 : decode cL_law 1269 = .ok (.iload 7, 2) := by decide +kernel
theorem dL_law_1271 : decode cL_law 1271 = .ok (.i2l, 1) := by decide +kernel
theorem dL_law_1272 : decode cL_law 1272 = .ok (.lcmp, 1) := by decide +kernel
theorem dL_law_1273 : decode cL_law 1273 = .ok (.ifCond .eq 5, 3) := by decide +kernel
theorem dL_law_1276 : decode cL_law 1276 = .ok (.iconst 0, 1) := by decide +kernel
theorem dL_law_1277 : decode cL_law 1277 = .ok (.ireturn, 1) := by decide +kernel
theorem dL_law_1278 : decode cL_law 1278 = .ok (.goto 357, 3) := by decide +kernel
theorem dL_law_1281 : decode cL_law 1281 = .ok (.aload_n 1, 1) := by decide +kernel
theorem dL_law_1282 : decode cL_law 1282 = .ok (.aload_n 0, 1) := by decide +kernel
theorem dL_law_1283 : decode cL_law 1283 = .ok (.iload 5, 2) := by decide +kernel
theorem dL_law_1285 : decode cL_law 1285 = .ok (.iconst 1, 1) := by decide +kernel
theorem dL_law_1286 : decode cL_law 1286 = .ok (.iadd, 1) := by decide +kernel
theorem dL_law_1287 : decode cL_law 1287 = .ok (.iaload, 1) := by decide +kernel
theorem dL_law_1288 : decode cL_law 1288 = .ok (.aload_n 0, 1) := by decide +kernel
theorem dL_law_1289 : decode cL_law 1289 = .ok (.iload 5, 2) := by decide +kernel
theorem dL_law_1291 : decode cL_law 1291 = .ok (.iconst 2, 1) := by decide +kernel
theorem dL_law_1292 : decode cL_law 1292 = .ok (.iadd, 1) := by decide +kernel
theorem dL_law_1293 : decode cL_law 1293 = .ok (.iaload, 1) := by decide +kernel
theorem dL_law_1294 : decode cL_law 1294 = .ok (.aload_n 0, 1) := by decide +kernel
theorem dL_law_1295 : decode cL_law 1295 = .ok (.iload 5, 2) := by decide +kernel
theorem dL_law_1297 : decode cL_law 1297 = .ok (.iconst 3, 1) := by decide +kernel
theorem dL_law_1298 : decode cL_law 1298 = .ok (.iadd, 1) := by decide +kernel
theorem dL_law_1299 : decode cL_law 1299 = .ok (.iaload, 1) := by decide +kernel
theorem dL_law_1300 : decode cL_law 1300 = .ok (.aload_n 3, 1) := by decide +kernel
theorem dL_law_1301 : decode cL_law 1301 = .ok (.invokestatic 136, 3) := by decide +kernel
theorem dL_law_1304 : decode cL_law 1304 = .ok (.istore 6, 2) := by decide +kernel
theorem dL_law_1306 : decode cL_law 1306 = .ok (.aload_n 2, 1) := by decide +kernel
theorem dL_law_1307 : decode cL_law 1307 = .ok (.aload_n 0, 1) := by decide +kernel
theorem dL_law_1308 : decode cL_law 1308 = .ok (.iload 5, 2) := by decide +kernel
theorem dL_law_1310 : decode cL_law 1310 = .ok (.iconst 1, 1) := by decide +kernel
theorem dL_law_1311 : decode cL_law 1311 = .ok (.iadd, 1) := by decide +kernel
theorem dL_law_1312 : decode cL_law 1312 = .ok (.iaload, 1) := by decide +kernel
theorem dL_law_1313 : decode cL_law 1313 = .ok (.aload_n 0, 1) := by decide +kernel
theorem dL_law_1314 : decode cL_law 1314 = .ok (.iload 5, 2) := by decide +kernel
theorem dL_law_1316 : decode cL_law 1316 = .ok (.iconst 2, 1) := by decide +kernel
theorem dL_law_1317 : decode cL_law 1317 = .ok (.iadd, 1) := by decide +kernel
theorem dL_law_1318 : decode cL_law 1318 = .ok (.iaload, 1) := by decide +kernel
theorem dL_law_1319 : decode cL_law 1319 = .ok (.aload_n 0, 1) := by decide +kernel
theorem dL_law_1320 : decode cL_law 1320 = .ok (.iload 5, 2) := by decide +kernel
theorem dL_law_1322 : decode cL_law 1322 = .ok (.iconst 3, 1) := by decide +kernel
theorem dL_law_1323 : decode cL_law 1323 = .ok (.iadd, 1) := by decide +kernel
theorem dL_law_1324 : decode cL_law 1324 = .ok (.iaload, 1) := by decide +kernel
theorem dL_law_1325 : decode cL_law 1325 = .ok (.invokevirtual 138, 3) := by decide +kernel
theorem dL_law_1328 : decode cL_law 1328 = .ok (.istore 7, 2) := by decide +kernel
theorem dL_law_1330 : decode cL_law 1330 = .ok (.aload_n 2, 1) := by decide +kernel
theorem dL_law_1331 : decode cL_law 1331 = .ok (.invokevirtual 85, 3) := by decide +kernel
theorem dL_law_1334 : decode cL_law 1334 = .ok (.iload 6, 2) := by decide +kernel
theorem dL_law_1336 : decode cL_law 1336 = .ok (.if_icmp .eq 5, 3) := by decide +kernel
theorem dL_law_1339 : decode cL_law 1339 = .ok (.iconst 0, 1) := by decide +kernel
theorem dL_law_1340 : decode cL_law 1340 = .ok (.ireturn, 1) := by decide +kernel
theorem dL_law_1341 : decode cL_law 1341 = .ok (.iload 6, 2) := by decide +kernel
theorem dL_law_1343 : decode cL_law 1343 = .ok (.ifCond .ne 15, 3) := by decide +kernel
theorem dL_law_1346 : decode cL_law 1346 = .ok (.aload_n 3, 1) := by decide +kernel
theorem dL_law_1347 : decode cL_law 1347 = .ok (.iconst 0, 1) := by decide +kernel
theorem dL_law_1348 : decode cL_law 1348 = .ok (.laload, 1) := by decide +kernel
theorem dL_law_1349 : decode cL_law 1349 = .ok (.iload 7, 2) := by decide +kernel
theorem dL_law_1351 : decode cL_law 1351 = .ok (.i2l, 1) := by decide +kernel
theorem dL_law_1352 : decode cL_law 1352 = .ok (.lcmp, 1) := by decide +kernel
theorem dL_law_1353 : decode cL_law 1353 = .ok (.ifCond .eq 5, 3) := by decide +kernel
theorem dL_law_1356 : decode cL_law 1356 = .ok (.iconst 0, 1) := by decide +kernel
theorem dL_law_1357 : decode cL_law 1357 = .ok (.ireturn, 1) := by decide +kernel
theorem dL_law_1358 : decode cL_law 1358 = .ok (.goto 277, 3) := by decide +kernel
theorem dL_law_1361 : decode cL_law 1361 = .ok (.aload_n 1, 1) := by decide +kernel
theorem dL_law_1362 : decode cL_law 1362 = .ok (.aload_n 0, 1) := by decide +kernel
theorem dL_law_1363 : decode cL_law 1363 = .ok (.iload 5, 2) := by decide +kernel
theorem dL_law_1365 : decode cL_law 1365 = .ok (.iconst 1, 1) := by decide +kernel
theorem dL_law_1366 : decode cL_law 1366 = .ok (.iadd, 1) := by decide +kernel
theorem dL_law_1367 : decode cL_law 1367 = .ok (.iaload, 1) := by decide +kernel
theorem dL_law_1368 : decode cL_law 1368 = .ok (.aload_n 0, 1) := by decide +kernel
theorem dL_law_1369 : decode cL_law 1369 = .ok (.iload 5, 2) := by decide +kernel
theorem dL_law_1371 : decode cL_law 1371 = .ok (.iconst 2, 1) := by decide +kernel
theorem dL_law_1372 : decode cL_law 1372 = .ok (.iadd, 1) := by decide +kernel
theorem dL_law_1373 : decode cL_law 1373 = .ok (.iaload, 1) := by decide +kernel
theorem dL_law_1374 : decode cL_law 1374 = .ok (.aload_n 0, 1) := by decide +kernel
theorem dL_law_1375 : decode cL_law 1375 = .ok (.iload 5, 2) := by decide +kernel
theorem dL_law_1377 : decode cL_law 1377 = .ok (.iconst 3, 1) := by decide +kernel
theorem dL_law_1378 : decode cL_law 1378 = .ok (.iadd, 1) := by decide +kernel
theorem dL_law_1379 : decode cL_law 1379 = .ok (.iaload, 1) := by decide +kernel
theorem dL_law_1380 : decode cL_law 1380 = .ok (.aload_n 0, 1) := by decide +kernel
theorem dL_law_1381 : decode cL_law 1381 = .ok (.iload 5, 2) := by decide +kernel
theorem dL_law_1383 : decode cL_law 1383 = .ok (.iconst 4, 1) := by decide +kernel
theorem dL_law_1384 : decode cL_law 1384 = .ok (.iadd, 1) := by decide +kernel
theorem dL_law_1385 : decode cL_law 1385 = .ok (.iaload, 1) := by decide +kernel
theorem dL_law_1386 : decode cL_law 1386 = .ok (.aload_n 0, 1) := by decide +kernel
theorem dL_law_1387 : decode cL_law 1387 = .ok (.iload 5, 2) := by decide +kernel
theorem dL_law_1389 : decode cL_law 1389 = .ok (.iconst 5, 1) := by decide +kernel
theorem dL_law_1390 : decode cL_law 1390 = .ok (.iadd, 1) := by decide +kernel
theorem dL_law_1391 : decode cL_law 1391 = .ok (.iaload, 1) := by decide +kernel
theorem dL_law_1392 : decode cL_law 1392 = .ok (.aload_n 3, 1) := by decide +kernel
theorem dL_law_1393 : decode cL_law 1393 = .ok (.invokestatic 139, 3) := by decide +kernel
theorem dL_law_1396 : decode cL_law 1396 = .ok (.istore 6, 2) := by decide +kernel
theorem dL_law_1398 : decode cL_law 1398 = .ok (.aload_n 2, 1) := by decide +kernel
theorem dL_law_1399 : decode cL_law 1399 = .ok (.aload_n 0, 1) := by decide +kernel
theorem dL_law_1400 : decode cL_law 1400 = .ok (.iload 5, 2) := by decide +kernel
theorem dL_law_1402 : decode cL_law 1402 = .ok (.iconst 1, 1) := by decide +kernel
theorem dL_law_1403 : decode cL_law 1403 = .ok (.iadd, 1) := by decide +kernel
theorem dL_law_1404 : decode cL_law 1404 = .ok (.iaload, 1) := by decide +kernel
theorem dL_law_1405 : decode cL_law 1405 = .ok (.aload_n 0, 1) := by decide +kernel
theorem dL_law_1406 : decode cL_law 1406 = .ok (.iload 5, 2) := by decide +kernel
theorem dL_law_1408 : decode cL_law 1408 = .ok (.iconst 2, 1) := by decide +kernel
theorem dL_law_1409 : decode cL_law 1409 = .ok (.iadd, 1) := by decide +kernel
theorem dL_law_1410 : decode cL_law 1410 = .ok (.iaload, 1) := by decide +kernel
theorem dL_law_1411 : decode cL_law 1411 = .ok (.aload_n 0, 1) := by decide +kernel
theorem dL_law_1412 : decode cL_law 1412 = .ok (.iload 5, 2) := by decide +kernel
theorem dL_law_1414 : decode cL_law 1414 = .ok (.iconst 3, 1) := by decide +kernel
theorem dL_law_1415 : decode cL_law 1415 = .ok (.iadd, 1) := by decide +kernel
theorem dL_law_1416 : decode cL_law 1416 = .ok (.iaload, 1) := by decide +kernel
theorem dL_law_1417 : decode cL_law 1417 = .ok (.aload_n 0, 1) := by decide +kernel
theorem dL_law_1418 : decode cL_law 1418 = .ok (.iload 5, 2) := by decide +kernel
theorem dL_law_1420 : decode cL_law 1420 = .ok (.iconst 4, 1) := by decide +kernel
theorem dL_law_1421 : decode cL_law 1421 = .ok (.iadd, 1) := by decide +kernel
theorem dL_law_1422 : decode cL_law 1422 = .ok (.iaload, 1) := by decide +kernel
theorem dL_law_1423 : decode cL_law 1423 = .ok (.aload_n 0, 1) := by decide +kernel
theorem dL_law_1424 : decode cL_law 1424 = .ok (.iload 5, 2) := by decide +kernel
theorem dL_law_1426 : decode cL_law 1426 = .ok (.iconst 5, 1) := by decide +kernel
theorem dL_law_1427 : decode cL_law 1427 = .ok (.iadd, 1) := by decide +kernel
theorem dL_law_1428 : decode cL_law 1428 = .ok (.iaload, 1) := by decide +kernel
theorem dL_law_1429 : decode cL_law 1429 = .ok (.invokevirtual 141, 3) := by decide +kernel
theorem dL_law_1432 : decode cL_law 1432 = .ok (.istore 7, 2) := by decide +kernel
theorem dL_law_1434 : decode cL_law 1434 = .ok (.aload_n 2, 1) := by decide +kernel
theorem dL_law_1435 : decode cL_law 1435 = .ok (.invokevirtual 85, 3) := by decide +kernel
theorem dL_law_1438 : decode cL_law 1438 = .ok (.iload 6, 2) := by decide +kernel
theorem dL_law_1440 : decode cL_law 1440 = .ok (.if_icmp .eq 5, 3) := by decide +kernel
theorem dL_law_1443 : decode cL_law 1443 = .ok (.iconst 0, 1) := by decide +kernel
theorem dL_law_1444 : decode cL_law 1444 = .ok (.ireturn, 1) := by decide +kernel
theorem dL_law_1445 : decode cL_law 1445 = .ok (.iload 6, 2) := by decide +kernel
theorem dL_law_1447 : decode cL_law 1447 = .ok (.ifCond .ne 15, 3) := by decide +kernel
theorem dL_law_1450 : decode cL_law 1450 = .ok (.aload_n 3, 1) := by decide +kernel
theorem dL_law_1451 : decode cL_law 1451 = .ok (.iconst 0, 1) := by decide +kernel
theorem dL_law_1452 : decode cL_law 1452 = .ok (.laload, 1) := by decide +kernel
theorem dL_law_1453 : decode cL_law 1453 = .ok (.iload 7, 2) := by decide +kernel
theorem dL_law_1455 : decode cL_law 1455 = .ok (.i2l, 1) := by decide +kernel
theorem dL_law_1456 : decode cL_law 1456 = .ok (.lcmp, 1) := by decide +kernel
theorem dL_law_1457 : decode cL_law 1457 = .ok (.ifCond .eq 5, 3) := by decide +kernel
theorem dL_law_1460 : decode cL_law 1460 = .ok (.iconst 0, 1) := by decide +kernel
theorem dL_law_1461 : decode cL_law 1461 = .ok (.ireturn, 1) := by decide +kernel
theorem dL_law_1462 : decode cL_law 1462 = .ok (.goto 173, 3) := by decide +kernel
theorem dL_law_1465 : decode cL_law 1465 = .ok (.aload_n 1, 1) := by decide +kernel
theorem dL_law_1466 : decode cL_law 1466 = .ok (.aload_n 0, 1) := by decide +kernel
theorem dL_law_1467 : decode cL_law 1467 = .ok (.iload 5, 2) := by decide +kernel
theorem dL_law_1469 : decode cL_law 1469 = .ok (.iconst 1, 1) := by decide +kernel
theorem dL_law_1470 : decode cL_law 1470 = .ok (.iadd, 1) := by decide +kernel
theorem dL_law_1471 : decode cL_law 1471 = .ok (.iaload, 1) := by decide +kernel
theorem dL_law_1472 : decode cL_law 1472 = .ok (.aload_n 0, 1) := by decide +kernel
theorem dL_law_1473 : decode cL_law 1473 = .ok (.iload 5, 2) := by decide +kernel
theorem dL_law_1475 : decode cL_law 1475 = .ok (.iconst 2, 1) := by decide +kernel
theorem dL_law_1476 : decode cL_law 1476 = .ok (.iadd, 1) := by decide +kernel
theorem dL_law_1477 : decode cL_law 1477 = .ok (.iaload, 1) := by decide +kernel
theorem dL_law_1478 : decode cL_law 1478 = .ok (.aload_n 0, 1) := by decide +kernel
theorem dL_law_1479 : decode cL_law 1479 = .ok (.iload 5, 2) := by decide +kernel
theorem dL_law_1481 : decode cL_law 1481 = .ok (.iconst 3, 1) := by decide +kernel
theorem dL_law_1482 : decode cL_law 1482 = .ok (.iadd, 1) := by decide +kernel
theorem dL_law_1483 : decode cL_law 1483 = .ok (.iaload, 1) := by decide +kernel
theorem dL_law_1484 : decode cL_law 1484 = .ok (.aload_n 3, 1) := by decide +kernel
theorem dL_law_1485 : decode cL_law 1485 = .ok (.invokestatic 142, 3) := by decide +kernel
theorem dL_law_1488 : decode cL_law 1488 = .ok (.istore 6, 2) := by decide +kernel
theorem dL_law_1490 : decode cL_law 1490 = .ok (.aload_n 2, 1) := by decide +kernel
theorem dL_law_1491 : decode cL_law 1491 = .ok (.aload_n 0, 1) := by decide +kernel
theorem dL_law_1492 : decode cL_law 1492 = .ok (.iload 5, 2) := by decide +kernel
theorem dL_law_1494 : decode cL_law 1494 = .ok (.iconst 1, 1) := by decide +kernel
theorem dL_law_1495 : decode cL_law 1495 = .ok (.iadd, 1) := by decide +kernel
theorem dL_law_1496 : decode cL_law 1496 = .ok (.iaload, 1) := by decide +kernel
theorem dL_law_1497 : decode cL_law 1497 = .ok (.aload_n 0, 1) := by decide +kernel
theorem dL_law_1498 : decode cL_law 1498 = .ok (.iload 5, 2) := by decide +kernel
theorem dL_law_1500 : decode cL_law 1500 = .ok (.iconst 2, 1) := by decide +kernel
theorem dL_law_1501 : decode cL_law 1501 = .ok (.iadd, 1) := by decide +kernel
theorem dL_law_1502 : decode cL_law 1502 = .ok (.iaload, 1) := by decide +kernel
theorem dL_law_1503 : decode cL_law 1503 = .ok (.aload_n 0, 1) := by decide +kernel
theorem dL_law_1504 : decode cL_law 1504 = .ok (.iload 5, 2) := by decide +kernel
theorem dL_law_1506 : decode cL_law 1506 = .ok (.iconst 3, 1) := by decide +kernel
theorem dL_law_1507 : decode cL_law 1507 = .ok (.iadd, 1) := by decide +kernel
theorem dL_law_1508 : decode cL_law 1508 = .ok (.iaload, 1) := by decide +kernel
theorem dL_law_1509 : decode cL_law 1509 = .ok (.invokevirtual 144, 3) := by decide +kernel
theorem dL_law_1512 : decode cL_law 1512 = .ok (.istore 7, 2) := by decide +kernel
theorem dL_law_1514 : decode cL_law 1514 = .ok (.aload_n 2, 1) := by decide +kernel
theorem dL_law_1515 : decode cL_law 1515 = .ok (.invokevirtual 85, 3) := by decide +kernel
theorem dL_law_1518 : decode cL_law 1518 = .ok (.iload 6, 2) := by decide +kernel
theorem dL_law_1520 : decode cL_law 1520 = .ok (.if_icmp .eq 5, 3) := by decide +kernel
theorem dL_law_1523 : decode cL_law 1523 = .ok (.iconst 0, 1) := by decide +kernel
theorem dL_law_1524 : decode cL_law 1524 = .ok (.ireturn, 1) := by decide +kernel
theorem dL_law_1525 : decode cL_law 1525 = .ok (.iload 6, 2) := by decide +kernel
theorem dL_law_1527 : decode cL_law 1527 = .ok (.ifCond .ne 15, 3) := by decide +kernel
theorem dL_law_1530 : decode cL_law 1530 = .ok (.aload_n 3, 1) := by decide +kernel
theorem dL_law_1531 : decode cL_law 1531 = .ok (.iconst 0, 1) := by decide +kernel
theorem dL_law_1532 : decode cL_law 1532 = .ok (.laload, 1) := by decide +kernel
theorem dL_law_1533 : decode cL_law 1533 = .ok (.iload 7, 2) := by decide +kernel
theorem dL_law_1535 : decode cL_law 1535 = .ok (.i2l, 1) := by decide +kernel
theorem dL_law_1536 : decode cL_law 1536 = .ok (.lcmp, 1) := by decide +kernel
theorem dL_law_1537 : decode cL_law 1537 = .ok (.ifCond .eq 5, 3) := by decide +kernel
theorem dL_law_1540 : decode cL_law 1540 = .ok (.iconst 0, 1) := by decide +kernel
theorem dL_law_1541 : decode cL_law 1541 = .ok (.ireturn, 1) := by decide +kernel
theorem dL_law_1542 : decode cL_law 1542 = .ok (.goto 93, 3) := by decide +kernel
theorem dL_law_1545 : decode cL_law 1545 = .ok (.aload_n 1, 1) := by decide +kernel
theorem dL_law_1546 : decode cL_law 1546 = .ok (.aload_n 0, 1) := by decide +kernel
theorem dL_law_1547 : decode cL_law 1547 = .ok (.iload 5, 2) := by decide +kernel
theorem dL_law_1549 : decode cL_law 1549 = .ok (.iconst 1, 1) := by decide +kernel
theorem dL_law_1550 : decode cL_law 1550 = .ok (.iadd, 1) := by decide +kernel
theorem dL_law_1551 : decode cL_law 1551 = .ok (.iaload, 1) := by decide +kernel
theorem dL_law_1552 : decode cL_law 1552 = .ok (.aload_n 0, 1) := by decide +kernel
theorem dL_law_1553 : decode cL_law 1553 = .ok (.iload 5, 2) := by decide +kernel
theorem dL_law_1555 : decode cL_law 1555 = .ok (.iconst 2, 1) := by decide +kernel
theorem dL_law_1556 : decode cL_law 1556 = .ok (.iadd, 1) := by decide +kernel
theorem dL_law_1557 : decode cL_law 1557 = .ok (.iaload, 1) := by decide +kernel
theorem dL_law_1558 : decode cL_law 1558 = .ok (.aload 4, 2) := by decide +kernel
theorem dL_law_1560 : decode cL_law 1560 = .ok (.invokestatic 145, 3) := by decide +kernel
theorem dL_law_1563 : decode cL_law 1563 = .ok (.istore 6, 2) := by decide +kernel
theorem dL_law_1565 : decode cL_law 1565 = .ok (.aload_n 2, 1) := by decide +kernel
theorem dL_law_1566 : decode cL_law 1566 = .ok (.aload_n 0, 1) := by decide +kernel
theorem dL_law_1567 : decode cL_law 1567 = .ok (.iload 5, 2) := by decide +kernel
theorem dL_law_1569 : decode cL_law 1569 = .ok (.iconst 1, 1) := by decide +kernel
theorem dL_law_1570 : decode cL_law 1570 = .ok (.iadd, 1) := by decide +kernel
theorem dL_law_1571 : decode cL_law 1571 = .ok (.iaload, 1) := by decide +kernel
theorem dL_law_1572 : decode cL_law 1572 = .ok (.aload_n 0, 1) := by decide +kernel
theorem dL_law_1573 : decode cL_law 1573 = .ok (.iload 5, 2) := by decide +kernel
theorem dL_law_1575 : decode cL_law 1575 = .ok (.iconst 2, 1) := by decide +kernel
theorem dL_law_1576 : decode cL_law 1576 = .ok (.iadd, 1) := by decide +kernel
theorem dL_law_1577 : decode cL_law 1577 = .ok (.iaload, 1) := by decide +kernel
theorem dL_law_1578 : decode cL_law 1578 = .ok (.invokevirtual 148, 3) := by decide +kernel
theorem dL_law_1581 : decode cL_law 1581 = .ok (.fstore 7, 2) := by decide +kernel
theorem dL_law_1583 : decode cL_law 1583 = .ok (.aload_n 2, 1) := by decide +kernel
theorem dL_law_1584 : decode cL_law 1584 = .ok (.invokevirtual 85, 3) := by decide +kernel
theorem dL_law_1587 : decode cL_law 1587 = .ok (.iload 6, 2) := by decide +kernel
theorem dL_law_1589 : decode cL_law 1589 = .ok (.if_icmp .eq 5, 3) := by decide +kernel
theorem dL_law_1592 : decode cL_law 1592 = .ok (.iconst 0, 1) := by decide +kernel
theorem dL_law_1593 : decode cL_law 1593 = .ok (.ireturn, 1) := by decide +kernel
theorem dL_law_1594 : decode cL_law 1594 = .ok (.iload 6, 2) := by decide +kernel
theorem dL_law_1596 : decode cL_law 1596 = .ok (.ifCond .ne 36, 3) := by decide +kernel
theorem dL_law_1599 : decode cL_law 1599 = .ok (.aload 4, 2) := by decide +kernel
theorem dL_law_1601 : decode cL_law 1601 = .ok (.iconst 0, 1) := by decide +kernel
theorem dL_law_1602 : decode cL_law 1602 = .ok (.daload, 1) := by decide +kernel
theorem dL_law_1603 : decode cL_law 1603 = .ok (.fload 7, 2) := by decide +kernel
theorem dL_law_1605 : decode cL_law 1605 = .ok (.f2d, 1) := by decide +kernel
theorem dL_law_1606 : decode cL_law 1606 = .ok (.dcmp .l, 1) := by decide +kernel
theorem dL_law_1607 : decode cL_law 1607 = .ok (.ifCond .eq 25, 3) := by decide +kernel
theorem dL_law_1610 : decode cL_law 1610 = .ok (.aload 4, 2) := by decide +kernel
theorem dL_law_1612 : decode cL_law 1612 = .ok (.iconst 0, 1) := by decide +kernel
theorem dL_law_1613 : decode cL_law 1613 = .ok (.daload, 1) := by decide +kernel
theorem dL_law_1614 : decode cL_law 1614 = .ok (.aload 4, 2) := by decide +kernel
theorem dL_law_1616 : decode cL_law 1616 = .ok (.iconst 0, 1) := by decide +kernel
theorem dL_law_1617 : decode cL_law 1617 = .ok (.daload, 1) := by decide +kernel
theorem dL_law_1618 : decode cL_law 1618 = .ok (.dcmp .l, 1) := by decide +kernel
theorem dL_law_1619 : decode cL_law 1619 = .ok (.ifCond .eq 11, 3) := by decide +kernel
theorem dL_law_1622 : decode cL_law 1622 = .ok (.fload 7, 2) := by decide +kernel
theorem dL_law_1624 : decode cL_law 1624 = .ok (.fload 7, 2) := by decide +kernel
theorem dL_law_1626 : decode cL_law 1626 = .ok (.fcmp .l, 1) := by decide +kernel
theorem dL_law_1627 : decode cL_law 1627 = .ok (.ifCond .ne 5, 3) := by decide +kernel
theorem dL_law_1630 : decode cL_law 1630 = .ok (.iconst 0, 1) := by decide +kernel
theorem dL_law_1631 : decode cL_law 1631 = .ok (.ireturn, 1) := by decide +kernel
theorem dL_law_1632 : decode cL_law 1632 = .ok (.goto 3, 3) := by decide +kernel
theorem dL_law_1635 : decode cL_law 1635 = .ok (.iinc 5 6, 3) := by decide +kernel
theorem dL_law_1638 : decode cL_law 1638 = .ok (.goto (-1610), 3) := by decide +kernel
theorem dL_law_1641 : decode cL_law 1641 = .ok (.iconst 1, 1) := by decide +kernel
theorem dL_law_1642 : decode cL_law 1642 = .ok (.ireturn, 1) := by decide +kernel
end
section
/-! the words of the tables, each by its place; what a call needs, by its callee -/
/-- all words that stay true under a shift of what has been resolved -/
def GW : List Cond := lw_tbl.filter goodWord
theorem gw_good : ∀ w ∈ GW, (w.onTables && w.keeps) = true ∨ ∃ ty, w = .arrayClass ty := fun w h => good_of_word (List.mem_filter.mp h).2
theorem gw_tbl : ∀ w ∈ GW, w ∈ lw_tbl := fun w h => (List.mem_filter.mp h).1
theorem gw_of {w : Cond} (h : w ∈ lw_tbl) (g : goodWord w = true) : w ∈ GW := List.mem_filter.mpr ⟨h, g⟩
theorem gw_1 {w : Cond} {i : Nat} (h : tables_1_1[i]? = some w) (g : goodWord w = true) : w ∈ GW := gw_of (List.mem_append_right _ (List.mem_append_left _ (List.mem_of_getElem? h))) g
theorem gw_2 {w : Cond} {i : Nat} (h : tables_1_2[i]? = some w) (g : goodWord w = true) : w ∈ GW := gw_of (List.mem_append_right _ (List.mem_append_right _ (List.mem_append_left _ (List.mem_of_getElem? h)))) g
theorem gw_3 {w : Cond} {i : Nat} (h : tables_1_3[i]? = some w) (g : goodWord w = true) : w ∈ GW := gw_of (List.mem_append_right _ (List.mem_append_right _ (List.mem_append_right _ (List.mem_of_getElem? h)))) g
theorem gw_p {y : MethodName} {q : MethodName × Nat} {i : Nat} (h : (k2_sels lw_privs)[i]? = some (.selects y.cls y y)) : Cond.selects y.cls y y ∈ GW := gw_of (List.mem_append_left _ (List.mem_of_getElem? h)) rfl
theorem gw_self (c0 : Cond) {ws : List Cond} (g : GoodIn GW ws) : GoodIn (c0 :: GW) ws := fun w h => ⟨List.mem_cons_of_mem _ (g w h).1, (g w h).2⟩
theorem gw_cons {c0 : Cond} (h : c0 ∈ GW) : GoodIn GW (c0 :: GW) := fun w hw => (List.mem_cons.mp hw).elim (fun e => by subst e; exact ⟨h, gw_good _ h⟩) (fun hw => ⟨hw, gw_good _ hw⟩)
theorem gw_list {a : List Cond} (h : ∀ w ∈ a, w ∈ GW) : GoodIn GW a := fun w hw => ⟨h w hw, gw_good _ (h w hw)⟩
theorem gw_V {own C : String} {idx : Nat} {y : MethodName} {c0 : Cond} (h1 : Cond.methodLink own idx y ∈ GW) (h2 : Cond.instanceMethod y ∈ GW) (h3 : Cond.selects C y y ∈ GW) (h4 : Cond.initialized C ∈ GW) (h5 : c0 ∈ GW) : GoodIn GW (wsV own idx C y (c0 :: GW)) := goodIn_app (gw_list (fun w hw => by simp only [List.mem_cons, List.not_mem_nil, or_false] at hw; rcases hw with rfl | rfl | rfl | rfl <;> assumption)) (gw_cons h5)
theorem gw_S {own : String} {idx : Nat} {y : MethodName} {c0 : Cond} (h1 : Cond.methodLink own idx y ∈ GW) (h2 : Cond.static y ∈ GW) (h3 : Cond.initialized y.cls ∈ GW) (h5 : c0 ∈ GW) : GoodIn GW (va_wsS own idx y (c0 :: GW)) := goodIn_app (gw_list (fun w hw => by simp only [List.mem_cons, List.not_mem_nil, or_false] at hw; rcases hw with rfl | rfl | rfl <;> assumption)) (gw_cons h5)
theorem wd_0 : Cond.classLink RL 8 RX0 ∈ GW := gw_1 (i := 11) rfl rfl
theorem wd_1 : Cond.instantiable RX0 4 ∈ GW := gw_1 (i := 12) rfl rfl
theorem wd_2 : Cond.initialized RX0 ∈ GW := gw_1 (i := 1) rfl rfl
theorem wd_3 : Cond.classLink RL 76 RX1 ∈ GW := gw_2 (i := 152) rfl rfl
theorem wd_4 : Cond.instantiable RX1 6 ∈ GW := gw_2 (i := 153) rfl rfl
theorem wd_5 : Cond.initialized RX1 ∈ GW := gw_1 (i := 2) rfl rfl
theorem wd_6 : Cond.arrayClass .long ∈ GW := gw_3 (i := 93) rfl rfl
theorem wd_7 : Cond.arrayClass .double ∈ GW := gw_3 (i := 94) rfl rfl
theorem wd_8 : Cond.methodLink RL 75 yX0_init ∈ GW := gw_1 (i := 13) rfl rfl
theorem wd_9 : Cond.instanceMethod yX0_init ∈ GW := gw_1 (i := 14) rfl rfl
theorem wd_10 : Cond.code yX0_init cX0_init 2 none ∈ GW := gw_1 (i := 15) rfl rfl
theorem wd_11 : Cond.methodLink RX0 3 objectInit ∈ GW := gw_1 (i := 16) rfl rfl
theorem wd_12 : Cond.instanceMethod objectInit ∈ GW := gw_1 (i := 17) rfl rfl
theorem wd_13 : Cond.code objectInit ⟨#[0xb1]⟩ 1 none ∈ GW := gw_1 (i := 18) (by decide +kernel) rfl
theorem wd_14 : Cond.constant RX0 9 (57600) ∈ GW := gw_1 (i := 19) rfl rfl
theorem wd_15 : Cond.arrayClass .int ∈ GW := gw_1 (i := 33) rfl rfl
theorem wd_16 : Cond.fieldLink RX0 10 "Twotimes" "known" "[I" ∈ GW := gw_1 (i := 20) rfl rfl
theorem wd_17 : Cond.fieldLink RX0 14 "Twotimes" "keptOn" "[I" ∈ GW := gw_1 (i := 21) rfl rfl
theorem wd_18 : Cond.fieldLink RX0 17 "Twotimes" "draft" "[I" ∈ GW := gw_1 (i := 22) rfl rfl
theorem wd_19 : Cond.methodLink RL 78 yX1_init ∈ GW := gw_2 (i := 154) rfl rfl
theorem wd_20 : Cond.instanceMethod yX1_init ∈ GW := gw_2 (i := 155) rfl rfl
theorem wd_21 : Cond.code yX1_init cX1_init 1 none ∈ GW := gw_2 (i := 156) rfl rfl
theorem wd_22 : Cond.methodLink RX1 1 objectInit ∈ GW := gw_2 (i := 157) rfl rfl
theorem wd_23 : Cond.constant RX1 7 (57600) ∈ GW := gw_2 (i := 158) rfl rfl
theorem wd_24 : Cond.fieldLink RX1 8 "TwotimesModel" "known" "[I" ∈ GW := gw_2 (i := 161) rfl rfl
theorem wd_25 : Cond.methodLink RL 79 yL_put ∈ GW := gw_1 (i := 38) rfl rfl
theorem wd_26 : Cond.static yL_put ∈ GW := gw_1 (i := 39) rfl rfl
theorem wd_27 : Cond.initialized RL ∈ GW := gw_1 (i := 0) rfl rfl
theorem wd_28 : Cond.codeWith yL_put cL_put 8 (some .int) [(0, 16, 19, 13), (0, 16, 23, 15)] ∈ GW := gw_1 (i := 40) rfl rfl
theorem wd_29 : Cond.classLink RL 13 "java/lang/IllegalArgumentException" ∈ GW := gw_1 (i := 41) rfl rfl
theorem wd_30 : Cond.classLink RL 15 "java/lang/IllegalStateException" ∈ GW := gw_1 (i := 42) rfl rfl
theorem wd_31 : Cond.methodLink RL 7 yX0_put ∈ GW := gw_1 (i := 43) rfl rfl
theorem wd_32 : Cond.instanceMethod yX0_put ∈ GW := gw_1 (i := 44) rfl rfl
theorem wd_33 : Cond.selects RX0 yX0_put yX0_put ∈ GW := gw_1 (i := 45) rfl rfl
theorem wd_34 : Cond.code yX0_put cX0_put 6 (some .int) ∈ GW := gw_1 (i := 46) rfl rfl
theorem wd_35 : Cond.methodLink RX0 20 yX0_needTableAndKey ∈ GW := gw_1 (i := 47) rfl rfl
theorem wd_36 : Cond.static yX0_needTableAndKey ∈ GW := gw_1 (i := 48) rfl rfl
theorem wd_37 : Cond.code yX0_needTableAndKey cX0_needTableAndKey 2 none ∈ GW := gw_1 (i := 49) rfl rfl
theorem wd_38 : Cond.methodLink RX0 28 yX0_needRange ∈ GW := gw_1 (i := 50) rfl rfl
theorem wd_39 : Cond.static yX0_needRange ∈ GW := gw_1 (i := 51) rfl rfl
theorem wd_40 : Cond.code yX0_needRange cX0_needRange 2 none ∈ GW := gw_1 (i := 52) rfl rfl
theorem wd_41 : Cond.classLink RX0 55 "java/lang/IllegalArgumentException" ∈ GW := gw_1 (i := 53) rfl rfl
theorem wd_42 : Cond.initialized "java/lang/IllegalArgumentException" ∈ GW := gw_1 (i := 6) rfl rfl
theorem wd_43 : Cond.methodLink RX0 24 yX0_valuesOf ∈ GW := gw_1 (i := 121) rfl rfl
theorem wd_44 : Cond.static yX0_valuesOf ∈ GW := gw_1 (i := 122) rfl rfl
theorem wd_45 : Cond.code yX0_valuesOf cX0_valuesOf 1 (some .int) ∈ GW := gw_1 (i := 123) rfl rfl
theorem wd_46 : Cond.methodLink RX0 31 yX0_needSpan ∈ GW := gw_1 (i := 124) rfl rfl
theorem wd_47 : Cond.static yX0_needSpan ∈ GW := gw_1 (i := 125) rfl rfl
theorem wd_48 : Cond.code yX0_needSpan cX0_needSpan 2 none ∈ GW := gw_1 (i := 126) rfl rfl
theorem wd_49 : Cond.methodLink RX0 34 yX0_line ∈ GW := gw_1 (i := 128) rfl rfl
theorem wd_50 : Cond.static yX0_line ∈ GW := gw_1 (i := 129) rfl rfl
theorem wd_51 : Cond.code yX0_line cX0_line 2 (some .int) ∈ GW := gw_1 (i := 130) rfl rfl
theorem wd_52 : Cond.methodLink RX0 38 yX0_draftSpan ∈ GW := gw_1 (i := 131) rfl rfl
theorem wd_53 : Cond.instanceMethod yX0_draftSpan ∈ GW := gw_1 (i := 133) rfl rfl
theorem wd_54 : Cond.selects RX0 yX0_draftSpan yX0_draftSpan ∈ GW := gw_of (List.mem_append_left _ (List.mem_of_getElem? (i := 1) (by decide +kernel))) rfl
theorem wd_55 : Cond.code yX0_draftSpan cX0_draftSpan 6 none ∈ GW := gw_1 (i := 134) rfl rfl
theorem wd_56 : Cond.fieldLink RX0 62 "Twotimes" "today" "I" ∈ GW := gw_1 (i := 23) rfl rfl
theorem wd_57 : Cond.methodLink RX0 77 yX0_knownOn ∈ GW := gw_1 (i := 135) rfl rfl
theorem wd_58 : Cond.instanceMethod yX0_knownOn ∈ GW := gw_1 (i := 137) rfl rfl
theorem wd_59 : Cond.selects RX0 yX0_knownOn yX0_knownOn ∈ GW := gw_of (List.mem_append_left _ (List.mem_of_getElem? (i := 2) (by decide +kernel))) rfl
theorem wd_60 : Cond.code yX0_knownOn cX0_knownOn 5 (some .int) ∈ GW := gw_1 (i := 138) rfl rfl
theorem wd_61 : Cond.methodLink RX0 140 yX0_index ∈ GW := gw_1 (i := 139) rfl rfl
theorem wd_62 : Cond.static yX0_index ∈ GW := gw_1 (i := 140) rfl rfl
theorem wd_63 : Cond.code yX0_index cX0_index 3 (some .int) ∈ GW := gw_1 (i := 141) rfl rfl
theorem wd_64 : Cond.methodLink RX0 42 yX0_recordDraft ∈ GW := gw_1 (i := 142) rfl rfl
theorem wd_65 : Cond.instanceMethod yX0_recordDraft ∈ GW := gw_1 (i := 144) rfl rfl
theorem wd_66 : Cond.selects RX0 yX0_recordDraft yX0_recordDraft ∈ GW := gw_of (List.mem_append_left _ (List.mem_of_getElem? (i := 3) (by decide +kernel))) rfl
theorem wd_67 : Cond.code yX0_recordDraft cX0_recordDraft 6 (some .int) ∈ GW := gw_1 (i := 145) rfl rfl
theorem wd_68 : Cond.classLink RX0 66 "java/lang/IllegalStateException" ∈ GW := gw_1 (i := 154) rfl rfl
theorem wd_69 : Cond.initialized "java/lang/IllegalStateException" ∈ GW := gw_1 (i := 7) rfl rfl
theorem wd_70 : Cond.methodLink RX0 149 yX0_draftKeepsReferences ∈ GW := gw_1 (i := 146) rfl rfl
theorem wd_71 : Cond.instanceMethod yX0_draftKeepsReferences ∈ GW := gw_1 (i := 148) rfl rfl
theorem wd_72 : Cond.selects RX0 yX0_draftKeepsReferences yX0_draftKeepsReferences ∈ GW := gw_of (List.mem_append_left _ (List.mem_of_getElem? (i := 4) (by decide +kernel))) rfl
theorem wd_73 : Cond.code yX0_draftKeepsReferences cX0_draftKeepsReferences 5 (some .boolean) ∈ GW := gw_1 (i := 149) rfl rfl
theorem wd_74 : Cond.methodLink RX0 159 yX0_isReferredTo ∈ GW := gw_1 (i := 150) rfl rfl
theorem wd_75 : Cond.instanceMethod yX0_isReferredTo ∈ GW := gw_1 (i := 152) rfl rfl
theorem wd_76 : Cond.selects RX0 yX0_isReferredTo yX0_isReferredTo ∈ GW := gw_of (List.mem_append_left _ (List.mem_of_getElem? (i := 5) (by decide +kernel))) rfl
theorem wd_77 : Cond.code yX0_isReferredTo cX0_isReferredTo 4 (some .boolean) ∈ GW := gw_1 (i := 153) rfl rfl
theorem wd_78 : Cond.methodLink RX0 155 yX0_recordToday ∈ GW := gw_1 (i := 170) rfl rfl
theorem wd_79 : Cond.instanceMethod yX0_recordToday ∈ GW := gw_1 (i := 172) rfl rfl
theorem wd_80 : Cond.selects RX0 yX0_recordToday yX0_recordToday ∈ GW := gw_of (List.mem_append_left _ (List.mem_of_getElem? (i := 6) (by decide +kernel))) rfl
theorem wd_81 : Cond.code yX0_recordToday cX0_recordToday 5 none ∈ GW := gw_1 (i := 173) rfl rfl
theorem wd_82 : Cond.methodLink RL 84 yX1_put ∈ GW := gw_2 (i := 182) rfl rfl
theorem wd_83 : Cond.instanceMethod yX1_put ∈ GW := gw_2 (i := 183) rfl rfl
theorem wd_84 : Cond.selects RX1 yX1_put yX1_put ∈ GW := gw_2 (i := 184) rfl rfl
theorem wd_85 : Cond.code yX1_put cX1_put 7 (some .int) ∈ GW := gw_2 (i := 185) rfl rfl
theorem wd_86 : Cond.methodLink RX1 47 yX1_isKey ∈ GW := gw_2 (i := 186) rfl rfl
theorem wd_87 : Cond.static yX1_isKey ∈ GW := gw_2 (i := 187) rfl rfl
theorem wd_88 : Cond.code yX1_isKey cX1_isKey 2 (some .boolean) ∈ GW := gw_2 (i := 188) rfl rfl
theorem wd_89 : Cond.methodLink RX1 18 yX1_in ∈ GW := gw_2 (i := 189) rfl rfl
theorem wd_90 : Cond.static yX1_in ∈ GW := gw_2 (i := 190) rfl rfl
theorem wd_91 : Cond.code yX1_in cX1_in 3 (some .boolean) ∈ GW := gw_2 (i := 191) rfl rfl
theorem wd_92 : Cond.methodLink RX1 50 yX1_isSpan ∈ GW := gw_2 (i := 192) rfl rfl
theorem wd_93 : Cond.static yX1_isSpan ∈ GW := gw_2 (i := 193) rfl rfl
theorem wd_94 : Cond.code yX1_isSpan cX1_isSpan 2 (some .boolean) ∈ GW := gw_2 (i := 194) rfl rfl
theorem wd_95 : Cond.methodLink RX1 22 yX1_isDay ∈ GW := gw_2 (i := 195) rfl rfl
theorem wd_96 : Cond.static yX1_isDay ∈ GW := gw_2 (i := 196) rfl rfl
theorem wd_97 : Cond.code yX1_isDay cX1_isDay 1 (some .boolean) ∈ GW := gw_2 (i := 197) rfl rfl
theorem wd_98 : Cond.methodLink RX1 53 yX1_mayAll ∈ GW := gw_2 (i := 198) rfl rfl
theorem wd_99 : Cond.instanceMethod yX1_mayAll ∈ GW := gw_2 (i := 200) rfl rfl
theorem wd_100 : Cond.selects RX1 yX1_mayAll yX1_mayAll ∈ GW := gw_of (List.mem_append_left _ (List.mem_of_getElem? (i := 23) (by decide +kernel))) rfl
theorem wd_101 : Cond.code yX1_mayAll cX1_mayAll 7 (some .boolean) ∈ GW := gw_2 (i := 201) rfl rfl
theorem wd_102 : Cond.methodLink RX1 40 yX1_may ∈ GW := gw_2 (i := 202) rfl rfl
theorem wd_103 : Cond.instanceMethod yX1_may ∈ GW := gw_2 (i := 204) rfl rfl
theorem wd_104 : Cond.selects RX1 yX1_may yX1_may ∈ GW := gw_of (List.mem_append_left _ (List.mem_of_getElem? (i := 24) (by decide +kernel))) rfl
theorem wd_105 : Cond.code yX1_may cX1_may 5 (some .boolean) ∈ GW := gw_2 (i := 205) rfl rfl
theorem wd_106 : Cond.fieldLink RX1 30 "TwotimesModel" "today" "I" ∈ GW := gw_2 (i := 160) rfl rfl
theorem wd_107 : Cond.methodLink RX1 36 yX1_isReferred ∈ GW := gw_2 (i := 206) rfl rfl
theorem wd_108 : Cond.instanceMethod yX1_isReferred ∈ GW := gw_2 (i := 208) rfl rfl
theorem wd_109 : Cond.selects RX1 yX1_isReferred yX1_isReferred ∈ GW := gw_of (List.mem_append_left _ (List.mem_of_getElem? (i := 25) (by decide +kernel))) rfl
theorem wd_110 : Cond.code yX1_isReferred cX1_isReferred 4 (some .boolean) ∈ GW := gw_2 (i := 209) rfl rfl
theorem wd_111 : Cond.methodLink RX1 33 yX1_of ∈ GW := gw_2 (i := 210) rfl rfl
theorem wd_112 : Cond.instanceMethod yX1_of ∈ GW := gw_2 (i := 212) rfl rfl
theorem wd_113 : Cond.selects RX1 yX1_of yX1_of ∈ GW := gw_of (List.mem_append_left _ (List.mem_of_getElem? (i := 26) (by decide +kernel))) rfl
theorem wd_114 : Cond.code yX1_of cX1_of 5 (some .int) ∈ GW := gw_2 (i := 213) rfl rfl
theorem wd_115 : Cond.methodLink RX1 26 yX1_place ∈ GW := gw_2 (i := 214) rfl rfl
theorem wd_116 : Cond.static yX1_place ∈ GW := gw_2 (i := 215) rfl rfl
theorem wd_117 : Cond.code yX1_place cX1_place 4 (some .int) ∈ GW := gw_2 (i := 216) rfl rfl
theorem wd_118 : Cond.methodLink RX1 57 yX1_holds ∈ GW := gw_2 (i := 217) rfl rfl
theorem wd_119 : Cond.instanceMethod yX1_holds ∈ GW := gw_2 (i := 219) rfl rfl
theorem wd_120 : Cond.selects RX1 yX1_holds yX1_holds ∈ GW := gw_of (List.mem_append_left _ (List.mem_of_getElem? (i := 27) (by decide +kernel))) rfl
theorem wd_121 : Cond.code yX1_holds cX1_holds 2 (some .boolean) ∈ GW := gw_2 (i := 220) rfl rfl
theorem wd_122 : Cond.fieldLink RX1 14 "TwotimesModel" "thrown" "I" ∈ GW := gw_2 (i := 159) rfl rfl
theorem wd_123 : Cond.methodLink RX1 60 yX1_setsAll ∈ GW := gw_2 (i := 221) rfl rfl
theorem wd_124 : Cond.instanceMethod yX1_setsAll ∈ GW := gw_2 (i := 223) rfl rfl
theorem wd_125 : Cond.selects RX1 yX1_setsAll yX1_setsAll ∈ GW := gw_of (List.mem_append_left _ (List.mem_of_getElem? (i := 28) (by decide +kernel))) rfl
theorem wd_126 : Cond.code yX1_setsAll cX1_setsAll 8 (some .int) ∈ GW := gw_2 (i := 224) rfl rfl
theorem wd_127 : Cond.methodLink RX1 44 yX1_sets ∈ GW := gw_2 (i := 225) rfl rfl
theorem wd_128 : Cond.instanceMethod yX1_sets ∈ GW := gw_2 (i := 227) rfl rfl
theorem wd_129 : Cond.selects RX1 yX1_sets yX1_sets ∈ GW := gw_of (List.mem_append_left _ (List.mem_of_getElem? (i := 29) (by decide +kernel))) rfl
theorem wd_130 : Cond.code yX1_sets cX1_sets 7 (some .int) ∈ GW := gw_2 (i := 228) rfl rfl
theorem wd_131 : Cond.methodLink RL 85 yX1_thrown ∈ GW := gw_2 (i := 178) rfl rfl
theorem wd_132 : Cond.instanceMethod yX1_thrown ∈ GW := gw_2 (i := 179) rfl rfl
theorem wd_133 : Cond.selects RX1 yX1_thrown yX1_thrown ∈ GW := gw_2 (i := 180) rfl rfl
theorem wd_134 : Cond.code yX1_thrown cX1_thrown 1 (some .int) ∈ GW := gw_2 (i := 181) rfl rfl
theorem wd_135 : Cond.methodLink RL 89 yL_erase ∈ GW := gw_1 (i := 174) rfl rfl
theorem wd_136 : Cond.static yL_erase ∈ GW := gw_1 (i := 175) rfl rfl
theorem wd_137 : Cond.codeWith yL_erase cL_erase 7 (some .int) [(0, 14, 17, 13), (0, 14, 21, 15)] ∈ GW := gw_1 (i := 176) rfl rfl
theorem wd_138 : Cond.methodLink RL 17 yX0_erase ∈ GW := gw_1 (i := 177) rfl rfl
theorem wd_139 : Cond.instanceMethod yX0_erase ∈ GW := gw_1 (i := 178) rfl rfl
theorem wd_140 : Cond.selects RX0 yX0_erase yX0_erase ∈ GW := gw_1 (i := 179) rfl rfl
theorem wd_141 : Cond.code yX0_erase cX0_erase 5 (some .int) ∈ GW := gw_1 (i := 180) rfl rfl
theorem wd_142 : Cond.methodLink RL 92 yX1_erase ∈ GW := gw_2 (i := 229) rfl rfl
theorem wd_143 : Cond.instanceMethod yX1_erase ∈ GW := gw_2 (i := 230) rfl rfl
theorem wd_144 : Cond.selects RX1 yX1_erase yX1_erase ∈ GW := gw_2 (i := 231) rfl rfl
theorem wd_145 : Cond.code yX1_erase cX1_erase 6 (some .int) ∈ GW := gw_2 (i := 232) rfl rfl
theorem wd_146 : Cond.methodLink RL 93 yL_eraseAll ∈ GW := gw_1 (i := 181) rfl rfl
theorem wd_147 : Cond.static yL_eraseAll ∈ GW := gw_1 (i := 182) rfl rfl
theorem wd_148 : Cond.codeWith yL_eraseAll cL_eraseAll 6 (some .int) [(0, 12, 15, 13)] ∈ GW := gw_1 (i := 183) rfl rfl
theorem wd_149 : Cond.methodLink RL 21 yX0_eraseAll ∈ GW := gw_1 (i := 184) rfl rfl
theorem wd_150 : Cond.instanceMethod yX0_eraseAll ∈ GW := gw_1 (i := 185) rfl rfl
theorem wd_151 : Cond.selects RX0 yX0_eraseAll yX0_eraseAll ∈ GW := gw_1 (i := 186) rfl rfl
theorem wd_152 : Cond.code yX0_eraseAll cX0_eraseAll 6 (some .int) ∈ GW := gw_1 (i := 187) rfl rfl
theorem wd_153 : Cond.methodLink RX0 45 yX0_loseWithReferences ∈ GW := gw_1 (i := 188) rfl rfl
theorem wd_154 : Cond.instanceMethod yX0_loseWithReferences ∈ GW := gw_1 (i := 190) rfl rfl
theorem wd_155 : Cond.selects RX0 yX0_loseWithReferences yX0_loseWithReferences ∈ GW := gw_of (List.mem_append_left _ (List.mem_of_getElem? (i := 7) (by decide +kernel))) rfl
theorem wd_156 : Cond.code yX0_loseWithReferences cX0_loseWithReferences 5 (some .int) ∈ GW := gw_1 (i := 191) rfl rfl
theorem wd_157 : Cond.methodLink RX0 162 yX0_lose ∈ GW := gw_1 (i := 192) rfl rfl
theorem wd_158 : Cond.instanceMethod yX0_lose ∈ GW := gw_1 (i := 194) rfl rfl
theorem wd_159 : Cond.selects RX0 yX0_lose yX0_lose ∈ GW := gw_of (List.mem_append_left _ (List.mem_of_getElem? (i := 8) (by decide +kernel))) rfl
theorem wd_160 : Cond.code yX0_lose cX0_lose 3 (some .int) ∈ GW := gw_1 (i := 195) rfl rfl
theorem wd_161 : Cond.methodLink RL 96 yX1_eraseAll ∈ GW := gw_2 (i := 233) rfl rfl
theorem wd_162 : Cond.instanceMethod yX1_eraseAll ∈ GW := gw_2 (i := 234) rfl rfl
theorem wd_163 : Cond.selects RX1 yX1_eraseAll yX1_eraseAll ∈ GW := gw_2 (i := 235) rfl rfl
theorem wd_164 : Cond.code yX1_eraseAll cX1_eraseAll 7 (some .int) ∈ GW := gw_2 (i := 236) rfl rfl
theorem wd_165 : Cond.methodLink RL 97 yL_restore ∈ GW := gw_1 (i := 196) rfl rfl
theorem wd_166 : Cond.static yL_restore ∈ GW := gw_1 (i := 197) rfl rfl
theorem wd_167 : Cond.codeWith yL_restore cL_restore 6 (some .int) [(0, 12, 15, 13), (0, 12, 19, 28), (0, 12, 23, 15)] ∈ GW := gw_1 (i := 198) rfl rfl
theorem wd_168 : Cond.classLink RL 28 "java/lang/IndexOutOfBoundsException" ∈ GW := gw_1 (i := 199) rfl rfl
theorem wd_169 : Cond.methodLink RL 25 yX0_restore ∈ GW := gw_1 (i := 200) rfl rfl
theorem wd_170 : Cond.instanceMethod yX0_restore ∈ GW := gw_1 (i := 201) rfl rfl
theorem wd_171 : Cond.selects RX0 yX0_restore yX0_restore ∈ GW := gw_1 (i := 202) rfl rfl
theorem wd_172 : Cond.code yX0_restore cX0_restore 4 (some .int) ∈ GW := gw_1 (i := 203) rfl rfl
theorem wd_173 : Cond.methodLink RX0 48 yX0_needRecord ∈ GW := gw_1 (i := 204) rfl rfl
theorem wd_174 : Cond.instanceMethod yX0_needRecord ∈ GW := gw_1 (i := 206) rfl rfl
theorem wd_175 : Cond.selects RX0 yX0_needRecord yX0_needRecord ∈ GW := gw_of (List.mem_append_left _ (List.mem_of_getElem? (i := 9) (by decide +kernel))) rfl
theorem wd_176 : Cond.code yX0_needRecord cX0_needRecord 2 none ∈ GW := gw_1 (i := 207) rfl rfl
theorem wd_177 : Cond.classLink RX0 91 "java/lang/IndexOutOfBoundsException" ∈ GW := gw_1 (i := 208) rfl rfl
theorem wd_178 : Cond.initialized "java/lang/IndexOutOfBoundsException" ∈ GW := gw_1 (i := 8) rfl rfl
theorem wd_179 : Cond.methodLink RX0 52 yX0_draftRecord ∈ GW := gw_1 (i := 224) rfl rfl
theorem wd_180 : Cond.instanceMethod yX0_draftRecord ∈ GW := gw_1 (i := 226) rfl rfl
theorem wd_181 : Cond.selects RX0 yX0_draftRecord yX0_draftRecord ∈ GW := gw_of (List.mem_append_left _ (List.mem_of_getElem? (i := 10) (by decide +kernel))) rfl
theorem wd_182 : Cond.code yX0_draftRecord cX0_draftRecord 4 none ∈ GW := gw_1 (i := 227) rfl rfl
theorem wd_183 : Cond.methodLink RL 99 yX1_restore ∈ GW := gw_2 (i := 237) rfl rfl
theorem wd_184 : Cond.instanceMethod yX1_restore ∈ GW := gw_2 (i := 238) rfl rfl
theorem wd_185 : Cond.selects RX1 yX1_restore yX1_restore ∈ GW := gw_2 (i := 239) rfl rfl
theorem wd_186 : Cond.code yX1_restore cX1_restore 7 (some .int) ∈ GW := gw_3 (i := 0) rfl rfl
theorem wd_187 : Cond.methodLink RX1 64 yX1_errorOfRecord ∈ GW := gw_3 (i := 1) rfl rfl
theorem wd_188 : Cond.instanceMethod yX1_errorOfRecord ∈ GW := gw_3 (i := 3) rfl rfl
theorem wd_189 : Cond.selects RX1 yX1_errorOfRecord yX1_errorOfRecord ∈ GW := gw_of (List.mem_append_left _ (List.mem_of_getElem? (i := 30) (by decide +kernel))) rfl
theorem wd_190 : Cond.code yX1_errorOfRecord cX1_errorOfRecord 3 (some .int) ∈ GW := gw_3 (i := 4) rfl rfl
theorem wd_191 : Cond.methodLink RL 100 yL_pass ∈ GW := gw_1 (i := 228) rfl rfl
theorem wd_192 : Cond.static yL_pass ∈ GW := gw_1 (i := 229) rfl rfl
theorem wd_193 : Cond.codeWith yL_pass cL_pass 4 (some .int) [(0, 9, 12, 13), (0, 9, 15, 15)] ∈ GW := gw_1 (i := 230) rfl rfl
theorem wd_194 : Cond.methodLink RL 30 yX0_pass ∈ GW := gw_1 (i := 231) rfl rfl
theorem wd_195 : Cond.instanceMethod yX0_pass ∈ GW := gw_1 (i := 232) rfl rfl
theorem wd_196 : Cond.selects RX0 yX0_pass yX0_pass ∈ GW := gw_1 (i := 233) rfl rfl
theorem wd_197 : Cond.code yX0_pass cX0_pass 4 (some .int) ∈ GW := gw_1 (i := 234) rfl rfl
theorem wd_198 : Cond.methodLink RX0 71 yX0_keepOn ∈ GW := gw_1 (i := 237) rfl rfl
theorem wd_199 : Cond.instanceMethod yX0_keepOn ∈ GW := gw_1 (i := 239) rfl rfl
theorem wd_200 : Cond.selects RX0 yX0_keepOn yX0_keepOn ∈ GW := gw_of (List.mem_append_left _ (List.mem_of_getElem? (i := 11) (by decide +kernel))) rfl
theorem wd_201 : Cond.code yX0_keepOn cX0_keepOn 3 none ∈ GW := gw_2 (i := 0) rfl rfl
theorem wd_202 : Cond.methodLink RX0 74 yX0_copyDay ∈ GW := gw_2 (i := 1) rfl rfl
theorem wd_203 : Cond.instanceMethod yX0_copyDay ∈ GW := gw_2 (i := 3) rfl rfl
theorem wd_204 : Cond.selects RX0 yX0_copyDay yX0_copyDay ∈ GW := gw_of (List.mem_append_left _ (List.mem_of_getElem? (i := 12) (by decide +kernel))) rfl
theorem wd_205 : Cond.code yX0_copyDay cX0_copyDay 3 none ∈ GW := gw_2 (i := 4) rfl rfl
theorem wd_206 : Cond.methodLink RX0 143 arraycopyName ∈ GW := gw_2 (i := 5) rfl rfl
theorem wd_207 : Cond.native arraycopyName ∈ GW := gw_2 (i := 7) rfl rfl
theorem wd_208 : Cond.static arraycopyName ∈ GW := gw_2 (i := 6) rfl rfl
theorem wd_209 : Cond.initialized "java/lang/System" ∈ GW := gw_1 (i := 9) rfl rfl
theorem wd_210 : Cond.methodLink RL 103 yX1_pass ∈ GW := gw_3 (i := 5) rfl rfl
theorem wd_211 : Cond.instanceMethod yX1_pass ∈ GW := gw_3 (i := 6) rfl rfl
theorem wd_212 : Cond.selects RX1 yX1_pass yX1_pass ∈ GW := gw_3 (i := 7) rfl rfl
theorem wd_213 : Cond.code yX1_pass cX1_pass 4 (some .int) ∈ GW := gw_3 (i := 8) rfl rfl
theorem wd_214 : Cond.methodLink RL 104 yX0_today ∈ GW := gw_1 (i := 34) rfl rfl
theorem wd_215 : Cond.instanceMethod yX0_today ∈ GW := gw_1 (i := 35) rfl rfl
theorem wd_216 : Cond.selects RX0 yX0_today yX0_today ∈ GW := gw_1 (i := 36) rfl rfl
theorem wd_217 : Cond.code yX0_today cX0_today 1 (some .int) ∈ GW := gw_1 (i := 37) rfl rfl
theorem wd_218 : Cond.methodLink RL 107 yX1_today ∈ GW := gw_3 (i := 9) rfl rfl
theorem wd_219 : Cond.instanceMethod yX1_today ∈ GW := gw_3 (i := 10) rfl rfl
theorem wd_220 : Cond.selects RX1 yX1_today yX1_today ∈ GW := gw_3 (i := 11) rfl rfl
theorem wd_221 : Cond.code yX1_today cX1_today 1 (some .int) ∈ GW := gw_3 (i := 12) rfl rfl
theorem wd_222 : Cond.methodLink RL 108 yL_value ∈ GW := gw_2 (i := 8) rfl rfl
theorem wd_223 : Cond.static yL_value ∈ GW := gw_2 (i := 9) rfl rfl
theorem wd_224 : Cond.codeWith yL_value cL_value 7 (some .int) [(0, 14, 17, 13), (0, 14, 21, 28)] ∈ GW := gw_2 (i := 10) rfl rfl
theorem wd_225 : Cond.methodLink RL 34 yX0_value ∈ GW := gw_2 (i := 11) rfl rfl
theorem wd_226 : Cond.instanceMethod yX0_value ∈ GW := gw_2 (i := 12) rfl rfl
theorem wd_227 : Cond.selects RX0 yX0_value yX0_value ∈ GW := gw_2 (i := 13) rfl rfl
theorem wd_228 : Cond.code yX0_value cX0_value 5 (some .int) ∈ GW := gw_2 (i := 14) rfl rfl
theorem wd_229 : Cond.methodLink RL 110 yX1_value ∈ GW := gw_3 (i := 13) rfl rfl
theorem wd_230 : Cond.instanceMethod yX1_value ∈ GW := gw_3 (i := 14) rfl rfl
theorem wd_231 : Cond.selects RX1 yX1_value yX1_value ∈ GW := gw_3 (i := 15) rfl rfl
theorem wd_232 : Cond.code yX1_value cX1_value 5 (some .int) ∈ GW := gw_3 (i := 16) rfl rfl
theorem wd_233 : Cond.methodLink RL 111 yL_keys ∈ GW := gw_2 (i := 15) rfl rfl
theorem wd_234 : Cond.static yL_keys ∈ GW := gw_2 (i := 16) rfl rfl
theorem wd_235 : Cond.codeWith yL_keys cL_keys 6 (some .int) [(0, 12, 15, 13), (0, 12, 19, 28)] ∈ GW := gw_2 (i := 17) rfl rfl
theorem wd_236 : Cond.methodLink RL 37 yX0_keys ∈ GW := gw_2 (i := 18) rfl rfl
theorem wd_237 : Cond.instanceMethod yX0_keys ∈ GW := gw_2 (i := 19) rfl rfl
theorem wd_238 : Cond.selects RX0 yX0_keys yX0_keys ∈ GW := gw_2 (i := 20) rfl rfl
theorem wd_239 : Cond.code yX0_keys cX0_keys 6 (some .int) ∈ GW := gw_2 (i := 21) rfl rfl
theorem wd_240 : Cond.methodLink RL 113 yX1_keys ∈ GW := gw_3 (i := 17) rfl rfl
theorem wd_241 : Cond.instanceMethod yX1_keys ∈ GW := gw_3 (i := 18) rfl rfl
theorem wd_242 : Cond.selects RX1 yX1_keys yX1_keys ∈ GW := gw_3 (i := 19) rfl rfl
theorem wd_243 : Cond.code yX1_keys cX1_keys 6 (some .int) ∈ GW := gw_3 (i := 20) rfl rfl
theorem wd_244 : Cond.methodLink RL 114 yL_joined ∈ GW := gw_2 (i := 22) rfl rfl
theorem wd_245 : Cond.static yL_joined ∈ GW := gw_2 (i := 23) rfl rfl
theorem wd_246 : Cond.codeWith yL_joined cL_joined 6 (some .int) [(0, 12, 15, 13), (0, 12, 19, 28)] ∈ GW := gw_2 (i := 24) rfl rfl
theorem wd_247 : Cond.methodLink RL 40 yX0_joined ∈ GW := gw_2 (i := 25) rfl rfl
theorem wd_248 : Cond.instanceMethod yX0_joined ∈ GW := gw_2 (i := 26) rfl rfl
theorem wd_249 : Cond.selects RX0 yX0_joined yX0_joined ∈ GW := gw_2 (i := 27) rfl rfl
theorem wd_250 : Cond.code yX0_joined cX0_joined 4 (some .int) ∈ GW := gw_2 (i := 28) rfl rfl
theorem wd_251 : Cond.methodLink RX0 81 yX0_joinedOn ∈ GW := gw_2 (i := 29) rfl rfl
theorem wd_252 : Cond.instanceMethod yX0_joinedOn ∈ GW := gw_2 (i := 31) rfl rfl
theorem wd_253 : Cond.selects RX0 yX0_joinedOn yX0_joinedOn ∈ GW := gw_of (List.mem_append_left _ (List.mem_of_getElem? (i := 13) (by decide +kernel))) rfl
theorem wd_254 : Cond.code yX0_joinedOn cX0_joinedOn 5 (some .int) ∈ GW := gw_2 (i := 32) rfl rfl
theorem wd_255 : Cond.methodLink RL 116 yX1_joined ∈ GW := gw_3 (i := 21) rfl rfl
theorem wd_256 : Cond.instanceMethod yX1_joined ∈ GW := gw_3 (i := 22) rfl rfl
theorem wd_257 : Cond.selects RX1 yX1_joined yX1_joined ∈ GW := gw_3 (i := 23) rfl rfl
theorem wd_258 : Cond.code yX1_joined cX1_joined 4 (some .int) ∈ GW := gw_3 (i := 24) rfl rfl
theorem wd_259 : Cond.methodLink RX1 68 yX1_joinedOf ∈ GW := gw_3 (i := 25) rfl rfl
theorem wd_260 : Cond.instanceMethod yX1_joinedOf ∈ GW := gw_3 (i := 27) rfl rfl
theorem wd_261 : Cond.selects RX1 yX1_joinedOf yX1_joinedOf ∈ GW := gw_of (List.mem_append_left _ (List.mem_of_getElem? (i := 31) (by decide +kernel))) rfl
theorem wd_262 : Cond.code yX1_joinedOf cX1_joinedOf 5 (some .int) ∈ GW := gw_3 (i := 28) rfl rfl
theorem wd_263 : Cond.methodLink RL 117 yL_runs ∈ GW := gw_2 (i := 33) rfl rfl
theorem wd_264 : Cond.static yL_runs ∈ GW := gw_2 (i := 34) rfl rfl
theorem wd_265 : Cond.codeWith yL_runs cL_runs 6 (some .int) [(0, 12, 15, 13), (0, 12, 19, 28)] ∈ GW := gw_2 (i := 35) rfl rfl
theorem wd_266 : Cond.methodLink RL 43 yX0_runs ∈ GW := gw_2 (i := 36) rfl rfl
theorem wd_267 : Cond.instanceMethod yX0_runs ∈ GW := gw_2 (i := 37) rfl rfl
theorem wd_268 : Cond.selects RX0 yX0_runs yX0_runs ∈ GW := gw_2 (i := 38) rfl rfl
theorem wd_269 : Cond.code yX0_runs cX0_runs 7 (some .int) ∈ GW := gw_2 (i := 39) rfl rfl
theorem wd_270 : Cond.methodLink RX0 84 yX0_startsRun ∈ GW := gw_2 (i := 40) rfl rfl
theorem wd_271 : Cond.instanceMethod yX0_startsRun ∈ GW := gw_2 (i := 42) rfl rfl
theorem wd_272 : Cond.selects RX0 yX0_startsRun yX0_startsRun ∈ GW := gw_of (List.mem_append_left _ (List.mem_of_getElem? (i := 14) (by decide +kernel))) rfl
theorem wd_273 : Cond.code yX0_startsRun cX0_startsRun 5 (some .boolean) ∈ GW := gw_2 (i := 43) rfl rfl
theorem wd_274 : Cond.methodLink RL 119 yX1_runs ∈ GW := gw_3 (i := 29) rfl rfl
theorem wd_275 : Cond.instanceMethod yX1_runs ∈ GW := gw_3 (i := 30) rfl rfl
theorem wd_276 : Cond.selects RX1 yX1_runs yX1_runs ∈ GW := gw_3 (i := 31) rfl rfl
theorem wd_277 : Cond.code yX1_runs cX1_runs 4 (some .int) ∈ GW := gw_3 (i := 32) rfl rfl
theorem wd_278 : Cond.methodLink RX1 78 yX1_runsOf ∈ GW := gw_3 (i := 33) rfl rfl
theorem wd_279 : Cond.instanceMethod yX1_runsOf ∈ GW := gw_3 (i := 35) rfl rfl
theorem wd_280 : Cond.selects RX1 yX1_runsOf yX1_runsOf ∈ GW := gw_of (List.mem_append_left _ (List.mem_of_getElem? (i := 32) (by decide +kernel))) rfl
theorem wd_281 : Cond.code yX1_runsOf cX1_runsOf 6 (some .int) ∈ GW := gw_3 (i := 36) rfl rfl
theorem wd_282 : Cond.methodLink RX1 72 yX1_begins ∈ GW := gw_3 (i := 37) rfl rfl
theorem wd_283 : Cond.instanceMethod yX1_begins ∈ GW := gw_3 (i := 39) rfl rfl
theorem wd_284 : Cond.selects RX1 yX1_begins yX1_begins ∈ GW := gw_of (List.mem_append_left _ (List.mem_of_getElem? (i := 33) (by decide +kernel))) rfl
theorem wd_285 : Cond.code yX1_begins cX1_begins 6 (some .boolean) ∈ GW := gw_3 (i := 40) rfl rfl
theorem wd_286 : Cond.methodLink RL 120 yL_run ∈ GW := gw_2 (i := 44) rfl rfl
theorem wd_287 : Cond.static yL_run ∈ GW := gw_2 (i := 45) rfl rfl
theorem wd_288 : Cond.codeWith yL_run cL_run 7 (some .int) [(0, 14, 17, 13), (0, 14, 21, 28)] ∈ GW := gw_2 (i := 46) rfl rfl
theorem wd_289 : Cond.methodLink RL 46 yX0_run ∈ GW := gw_2 (i := 47) rfl rfl
theorem wd_290 : Cond.instanceMethod yX0_run ∈ GW := gw_2 (i := 48) rfl rfl
theorem wd_291 : Cond.selects RX0 yX0_run yX0_run ∈ GW := gw_2 (i := 49) rfl rfl
theorem wd_292 : Cond.code yX0_run cX0_run 7 (some .int) ∈ GW := gw_2 (i := 50) rfl rfl
theorem wd_293 : Cond.methodLink RX0 88 yX0_firstDayOfRun ∈ GW := gw_2 (i := 51) rfl rfl
theorem wd_294 : Cond.instanceMethod yX0_firstDayOfRun ∈ GW := gw_2 (i := 53) rfl rfl
theorem wd_295 : Cond.selects RX0 yX0_firstDayOfRun yX0_firstDayOfRun ∈ GW := gw_of (List.mem_append_left _ (List.mem_of_getElem? (i := 15) (by decide +kernel))) rfl
theorem wd_296 : Cond.code yX0_firstDayOfRun cX0_firstDayOfRun 6 (some .int) ∈ GW := gw_2 (i := 54) rfl rfl
theorem wd_297 : Cond.methodLink RX0 96 yX0_runNumber ∈ GW := gw_2 (i := 56) rfl rfl
theorem wd_298 : Cond.instanceMethod yX0_runNumber ∈ GW := gw_2 (i := 58) rfl rfl
theorem wd_299 : Cond.selects RX0 yX0_runNumber yX0_runNumber ∈ GW := gw_of (List.mem_append_left _ (List.mem_of_getElem? (i := 16) (by decide +kernel))) rfl
theorem wd_300 : Cond.code yX0_runNumber cX0_runNumber 4 (some .int) ∈ GW := gw_2 (i := 59) rfl rfl
theorem wd_301 : Cond.methodLink RX0 124 yX0_endOfRun ∈ GW := gw_2 (i := 60) rfl rfl
theorem wd_302 : Cond.instanceMethod yX0_endOfRun ∈ GW := gw_2 (i := 62) rfl rfl
theorem wd_303 : Cond.selects RX0 yX0_endOfRun yX0_endOfRun ∈ GW := gw_of (List.mem_append_left _ (List.mem_of_getElem? (i := 17) (by decide +kernel))) rfl
theorem wd_304 : Cond.code yX0_endOfRun cX0_endOfRun 6 (some .int) ∈ GW := gw_2 (i := 63) rfl rfl
theorem wd_305 : Cond.methodLink RL 122 yX1_run ∈ GW := gw_3 (i := 41) rfl rfl
theorem wd_306 : Cond.instanceMethod yX1_run ∈ GW := gw_3 (i := 42) rfl rfl
theorem wd_307 : Cond.selects RX1 yX1_run yX1_run ∈ GW := gw_3 (i := 43) rfl rfl
theorem wd_308 : Cond.code yX1_run cX1_run 8 (some .int) ∈ GW := gw_3 (i := 44) rfl rfl
theorem wd_309 : Cond.methodLink RX1 81 yX1_told ∈ GW := gw_3 (i := 45) rfl rfl
theorem wd_310 : Cond.instanceMethod yX1_told ∈ GW := gw_3 (i := 47) rfl rfl
theorem wd_311 : Cond.selects RX1 yX1_told yX1_told ∈ GW := gw_of (List.mem_append_left _ (List.mem_of_getElem? (i := 34) (by decide +kernel))) rfl
theorem wd_312 : Cond.code yX1_told cX1_told 5 (some .int) ∈ GW := gw_3 (i := 48) rfl rfl
theorem wd_313 : Cond.methodLink RX1 75 yX1_end ∈ GW := gw_3 (i := 49) rfl rfl
theorem wd_314 : Cond.instanceMethod yX1_end ∈ GW := gw_3 (i := 51) rfl rfl
theorem wd_315 : Cond.selects RX1 yX1_end yX1_end ∈ GW := gw_of (List.mem_append_left _ (List.mem_of_getElem? (i := 35) (by decide +kernel))) rfl
theorem wd_316 : Cond.code yX1_end cX1_end 6 (some .int) ∈ GW := gw_3 (i := 52) rfl rfl
theorem wd_317 : Cond.methodLink RL 123 yL_joinedRuns ∈ GW := gw_2 (i := 64) rfl rfl
theorem wd_318 : Cond.static yL_joinedRuns ∈ GW := gw_2 (i := 65) rfl rfl
theorem wd_319 : Cond.codeWith yL_joinedRuns cL_joinedRuns 5 (some .int) [(0, 10, 13, 13), (0, 10, 17, 28)] ∈ GW := gw_2 (i := 66) rfl rfl
theorem wd_320 : Cond.methodLink RL 49 yX0_joinedRuns ∈ GW := gw_2 (i := 67) rfl rfl
theorem wd_321 : Cond.instanceMethod yX0_joinedRuns ∈ GW := gw_2 (i := 68) rfl rfl
theorem wd_322 : Cond.selects RX0 yX0_joinedRuns yX0_joinedRuns ∈ GW := gw_2 (i := 69) rfl rfl
theorem wd_323 : Cond.code yX0_joinedRuns cX0_joinedRuns 5 (some .int) ∈ GW := gw_2 (i := 70) rfl rfl
theorem wd_324 : Cond.methodLink RX0 99 yX0_startsJoinedRun ∈ GW := gw_2 (i := 71) rfl rfl
theorem wd_325 : Cond.instanceMethod yX0_startsJoinedRun ∈ GW := gw_2 (i := 73) rfl rfl
theorem wd_326 : Cond.selects RX0 yX0_startsJoinedRun yX0_startsJoinedRun ∈ GW := gw_of (List.mem_append_left _ (List.mem_of_getElem? (i := 18) (by decide +kernel))) rfl
theorem wd_327 : Cond.code yX0_startsJoinedRun cX0_startsJoinedRun 4 (some .boolean) ∈ GW := gw_2 (i := 74) rfl rfl
theorem wd_328 : Cond.methodLink RL 126 yX1_joinedRuns ∈ GW := gw_3 (i := 53) rfl rfl
theorem wd_329 : Cond.instanceMethod yX1_joinedRuns ∈ GW := gw_3 (i := 54) rfl rfl
theorem wd_330 : Cond.selects RX1 yX1_joinedRuns yX1_joinedRuns ∈ GW := gw_3 (i := 55) rfl rfl
theorem wd_331 : Cond.code yX1_joinedRuns cX1_joinedRuns 6 (some .int) ∈ GW := gw_3 (i := 56) rfl rfl
theorem wd_332 : Cond.methodLink RL 127 yL_rows ∈ GW := gw_2 (i := 75) rfl rfl
theorem wd_333 : Cond.static yL_rows ∈ GW := gw_2 (i := 76) rfl rfl
theorem wd_334 : Cond.codeWith yL_rows cL_rows 5 (some .int) [(0, 10, 13, 13)] ∈ GW := gw_2 (i := 77) rfl rfl
theorem wd_335 : Cond.methodLink RL 53 yX0_rows ∈ GW := gw_2 (i := 78) rfl rfl
theorem wd_336 : Cond.instanceMethod yX0_rows ∈ GW := gw_2 (i := 79) rfl rfl
theorem wd_337 : Cond.selects RX0 yX0_rows yX0_rows ∈ GW := gw_2 (i := 80) rfl rfl
theorem wd_338 : Cond.code yX0_rows cX0_rows 7 (some .int) ∈ GW := gw_2 (i := 81) rfl rfl
theorem wd_339 : Cond.methodLink RX0 102 yX0_isKept ∈ GW := gw_2 (i := 82) rfl rfl
theorem wd_340 : Cond.instanceMethod yX0_isKept ∈ GW := gw_2 (i := 84) rfl rfl
theorem wd_341 : Cond.selects RX0 yX0_isKept yX0_isKept ∈ GW := gw_of (List.mem_append_left _ (List.mem_of_getElem? (i := 19) (by decide +kernel))) rfl
theorem wd_342 : Cond.code yX0_isKept cX0_isKept 2 (some .boolean) ∈ GW := gw_2 (i := 85) rfl rfl
theorem wd_343 : Cond.methodLink RX0 106 yX0_startsRow ∈ GW := gw_2 (i := 86) rfl rfl
theorem wd_344 : Cond.instanceMethod yX0_startsRow ∈ GW := gw_2 (i := 88) rfl rfl
theorem wd_345 : Cond.selects RX0 yX0_startsRow yX0_startsRow ∈ GW := gw_of (List.mem_append_left _ (List.mem_of_getElem? (i := 20) (by decide +kernel))) rfl
theorem wd_346 : Cond.code yX0_startsRow cX0_startsRow 4 (some .boolean) ∈ GW := gw_2 (i := 89) rfl rfl
theorem wd_347 : Cond.methodLink RX0 118 yX0_sameRun ∈ GW := gw_2 (i := 90) rfl rfl
theorem wd_348 : Cond.instanceMethod yX0_sameRun ∈ GW := gw_2 (i := 92) rfl rfl
theorem wd_349 : Cond.selects RX0 yX0_sameRun yX0_sameRun ∈ GW := gw_of (List.mem_append_left _ (List.mem_of_getElem? (i := 21) (by decide +kernel))) rfl
theorem wd_350 : Cond.code yX0_sameRun cX0_sameRun 5 (some .boolean) ∈ GW := gw_2 (i := 93) rfl rfl
theorem wd_351 : Cond.methodLink RL 129 yX1_rows ∈ GW := gw_3 (i := 57) rfl rfl
theorem wd_352 : Cond.instanceMethod yX1_rows ∈ GW := gw_3 (i := 58) rfl rfl
theorem wd_353 : Cond.selects RX1 yX1_rows yX1_rows ∈ GW := gw_3 (i := 59) rfl rfl
theorem wd_354 : Cond.code yX1_rows cX1_rows 3 (some .int) ∈ GW := gw_3 (i := 60) rfl rfl
theorem wd_355 : Cond.methodLink RX1 90 yX1_rowsOf ∈ GW := gw_3 (i := 61) rfl rfl
theorem wd_356 : Cond.instanceMethod yX1_rowsOf ∈ GW := gw_3 (i := 63) rfl rfl
theorem wd_357 : Cond.selects RX1 yX1_rowsOf yX1_rowsOf ∈ GW := gw_of (List.mem_append_left _ (List.mem_of_getElem? (i := 36) (by decide +kernel))) rfl
theorem wd_358 : Cond.code yX1_rowsOf cX1_rowsOf 8 (some .int) ∈ GW := gw_3 (i := 64) rfl rfl
theorem wd_359 : Cond.fieldLink RX1 84 "TwotimesModel" "rowFirst" "I" ∈ GW := gw_2 (i := 162) rfl rfl
theorem wd_360 : Cond.fieldLink RX1 87 "TwotimesModel" "rowBegin" "I" ∈ GW := gw_2 (i := 163) rfl rfl
theorem wd_361 : Cond.methodLink RL 130 yL_rowRun ∈ GW := gw_2 (i := 94) rfl rfl
theorem wd_362 : Cond.static yL_rowRun ∈ GW := gw_2 (i := 95) rfl rfl
theorem wd_363 : Cond.codeWith yL_rowRun cL_rowRun 6 (some .int) [(0, 12, 15, 13), (0, 12, 19, 28)] ∈ GW := gw_2 (i := 96) rfl rfl
theorem wd_364 : Cond.methodLink RL 56 yX0_rowRun ∈ GW := gw_2 (i := 97) rfl rfl
theorem wd_365 : Cond.instanceMethod yX0_rowRun ∈ GW := gw_2 (i := 98) rfl rfl
theorem wd_366 : Cond.selects RX0 yX0_rowRun yX0_rowRun ∈ GW := gw_2 (i := 99) rfl rfl
theorem wd_367 : Cond.code yX0_rowRun cX0_rowRun 6 (some .int) ∈ GW := gw_2 (i := 100) rfl rfl
theorem wd_368 : Cond.methodLink RX0 109 yX0_startOfRow ∈ GW := gw_2 (i := 101) rfl rfl
theorem wd_369 : Cond.instanceMethod yX0_startOfRow ∈ GW := gw_2 (i := 103) rfl rfl
theorem wd_370 : Cond.selects RX0 yX0_startOfRow yX0_startOfRow ∈ GW := gw_of (List.mem_append_left _ (List.mem_of_getElem? (i := 22) (by decide +kernel))) rfl
theorem wd_371 : Cond.code yX0_startOfRow cX0_startOfRow 6 (some .int) ∈ GW := gw_2 (i := 104) rfl rfl
theorem wd_372 : Cond.methodLink RX0 112 yX0_recordOfStart ∈ GW := gw_2 (i := 106) rfl rfl
theorem wd_373 : Cond.static yX0_recordOfStart ∈ GW := gw_2 (i := 107) rfl rfl
theorem wd_374 : Cond.code yX0_recordOfStart cX0_recordOfStart 1 (some .int) ∈ GW := gw_2 (i := 108) rfl rfl
theorem wd_375 : Cond.methodLink RX0 115 yX0_validOfStart ∈ GW := gw_2 (i := 109) rfl rfl
theorem wd_376 : Cond.static yX0_validOfStart ∈ GW := gw_2 (i := 110) rfl rfl
theorem wd_377 : Cond.code yX0_validOfStart cX0_validOfStart 1 (some .int) ∈ GW := gw_2 (i := 111) rfl rfl
theorem wd_378 : Cond.methodLink RL 132 yX1_rowRun ∈ GW := gw_3 (i := 65) rfl rfl
theorem wd_379 : Cond.instanceMethod yX1_rowRun ∈ GW := gw_3 (i := 66) rfl rfl
theorem wd_380 : Cond.selects RX1 yX1_rowRun yX1_rowRun ∈ GW := gw_3 (i := 67) rfl rfl
theorem wd_381 : Cond.code yX1_rowRun cX1_rowRun 4 (some .int) ∈ GW := gw_3 (i := 68) rfl rfl
theorem wd_382 : Cond.methodLink RX1 93 yX1_errorOfRow ∈ GW := gw_3 (i := 69) rfl rfl
theorem wd_383 : Cond.instanceMethod yX1_errorOfRow ∈ GW := gw_3 (i := 71) rfl rfl
theorem wd_384 : Cond.selects RX1 yX1_errorOfRow yX1_errorOfRow ∈ GW := gw_of (List.mem_append_left _ (List.mem_of_getElem? (i := 37) (by decide +kernel))) rfl
theorem wd_385 : Cond.code yX1_errorOfRow cX1_errorOfRow 4 (some .int) ∈ GW := gw_3 (i := 72) rfl rfl
theorem wd_386 : Cond.methodLink RL 133 yL_rowFrom ∈ GW := gw_2 (i := 112) rfl rfl
theorem wd_387 : Cond.static yL_rowFrom ∈ GW := gw_2 (i := 113) rfl rfl
theorem wd_388 : Cond.codeWith yL_rowFrom cL_rowFrom 6 (some .int) [(0, 12, 15, 13), (0, 12, 19, 28)] ∈ GW := gw_2 (i := 114) rfl rfl
theorem wd_389 : Cond.methodLink RL 59 yX0_rowFrom ∈ GW := gw_2 (i := 115) rfl rfl
theorem wd_390 : Cond.instanceMethod yX0_rowFrom ∈ GW := gw_2 (i := 116) rfl rfl
theorem wd_391 : Cond.selects RX0 yX0_rowFrom yX0_rowFrom ∈ GW := gw_2 (i := 117) rfl rfl
theorem wd_392 : Cond.code yX0_rowFrom cX0_rowFrom 4 (some .int) ∈ GW := gw_2 (i := 118) rfl rfl
theorem wd_393 : Cond.methodLink RL 135 yX1_rowFrom ∈ GW := gw_3 (i := 73) rfl rfl
theorem wd_394 : Cond.instanceMethod yX1_rowFrom ∈ GW := gw_3 (i := 74) rfl rfl
theorem wd_395 : Cond.selects RX1 yX1_rowFrom yX1_rowFrom ∈ GW := gw_3 (i := 75) rfl rfl
theorem wd_396 : Cond.code yX1_rowFrom cX1_rowFrom 4 (some .int) ∈ GW := gw_3 (i := 76) rfl rfl
theorem wd_397 : Cond.methodLink RL 136 yL_rowTo ∈ GW := gw_2 (i := 119) rfl rfl
theorem wd_398 : Cond.static yL_rowTo ∈ GW := gw_2 (i := 120) rfl rfl
theorem wd_399 : Cond.codeWith yL_rowTo cL_rowTo 6 (some .int) [(0, 12, 15, 13), (0, 12, 19, 28)] ∈ GW := gw_2 (i := 121) rfl rfl
theorem wd_400 : Cond.methodLink RL 62 yX0_rowTo ∈ GW := gw_2 (i := 122) rfl rfl
theorem wd_401 : Cond.instanceMethod yX0_rowTo ∈ GW := gw_2 (i := 123) rfl rfl
theorem wd_402 : Cond.selects RX0 yX0_rowTo yX0_rowTo ∈ GW := gw_2 (i := 124) rfl rfl
theorem wd_403 : Cond.code yX0_rowTo cX0_rowTo 9 (some .int) ∈ GW := gw_2 (i := 125) rfl rfl
theorem wd_404 : Cond.methodLink RL 138 yX1_rowTo ∈ GW := gw_3 (i := 77) rfl rfl
theorem wd_405 : Cond.instanceMethod yX1_rowTo ∈ GW := gw_3 (i := 78) rfl rfl
theorem wd_406 : Cond.selects RX1 yX1_rowTo yX1_rowTo ∈ GW := gw_3 (i := 79) rfl rfl
theorem wd_407 : Cond.code yX1_rowTo cX1_rowTo 4 (some .int) ∈ GW := gw_3 (i := 80) rfl rfl
theorem wd_408 : Cond.fieldLink RX1 96 "TwotimesModel" "rowEnd" "I" ∈ GW := gw_2 (i := 164) rfl rfl
theorem wd_409 : Cond.methodLink RL 139 yL_corrections ∈ GW := gw_2 (i := 126) rfl rfl
theorem wd_410 : Cond.static yL_corrections ∈ GW := gw_2 (i := 127) rfl rfl
theorem wd_411 : Cond.codeWith yL_corrections cL_corrections 8 (some .int) [(0, 16, 19, 13), (0, 16, 23, 28)] ∈ GW := gw_2 (i := 128) rfl rfl
theorem wd_412 : Cond.methodLink RL 65 yX0_corrections ∈ GW := gw_2 (i := 129) rfl rfl
theorem wd_413 : Cond.instanceMethod yX0_corrections ∈ GW := gw_2 (i := 130) rfl rfl
theorem wd_414 : Cond.selects RX0 yX0_corrections yX0_corrections ∈ GW := gw_2 (i := 131) rfl rfl
theorem wd_415 : Cond.code yX0_corrections cX0_corrections 9 (some .int) ∈ GW := gw_2 (i := 132) rfl rfl
theorem wd_416 : Cond.methodLink RL 141 yX1_corrections ∈ GW := gw_3 (i := 81) rfl rfl
theorem wd_417 : Cond.instanceMethod yX1_corrections ∈ GW := gw_3 (i := 82) rfl rfl
theorem wd_418 : Cond.selects RX1 yX1_corrections yX1_corrections ∈ GW := gw_3 (i := 83) rfl rfl
theorem wd_419 : Cond.code yX1_corrections cX1_corrections 9 (some .int) ∈ GW := gw_3 (i := 84) rfl rfl
theorem wd_420 : Cond.methodLink RL 142 yL_longest ∈ GW := gw_2 (i := 134) rfl rfl
theorem wd_421 : Cond.static yL_longest ∈ GW := gw_2 (i := 135) rfl rfl
theorem wd_422 : Cond.codeWith yL_longest cL_longest 6 (some .int) [(0, 12, 15, 13), (0, 12, 19, 28)] ∈ GW := gw_2 (i := 136) rfl rfl
theorem wd_423 : Cond.methodLink RL 68 yX0_longest ∈ GW := gw_2 (i := 137) rfl rfl
theorem wd_424 : Cond.instanceMethod yX0_longest ∈ GW := gw_2 (i := 138) rfl rfl
theorem wd_425 : Cond.selects RX0 yX0_longest yX0_longest ∈ GW := gw_2 (i := 139) rfl rfl
theorem wd_426 : Cond.code yX0_longest cX0_longest 7 (some .int) ∈ GW := gw_2 (i := 140) rfl rfl
theorem wd_427 : Cond.methodLink RX0 127 Lib.Math.max.name ∈ GW := gw_2 (i := 141) rfl rfl
theorem wd_428 : Cond.static Lib.Math.max.name ∈ GW := gw_2 (i := 142) rfl rfl
theorem wd_429 : Cond.initialized "java/lang/Math" ∈ GW := gw_1 (i := 10) rfl rfl
theorem wd_430 : Cond.code Lib.Math.max.name Lib.Math.max.code 2 (some .int) ∈ GW := gw_2 (i := 143) (by decide +kernel) rfl
theorem wd_431 : Cond.methodLink RL 144 yX1_longest ∈ GW := gw_3 (i := 85) rfl rfl
theorem wd_432 : Cond.instanceMethod yX1_longest ∈ GW := gw_3 (i := 86) rfl rfl
theorem wd_433 : Cond.selects RX1 yX1_longest yX1_longest ∈ GW := gw_3 (i := 87) rfl rfl
theorem wd_434 : Cond.code yX1_longest cX1_longest 7 (some .int) ∈ GW := gw_3 (i := 88) rfl rfl
theorem wd_435 : Cond.methodLink RL 145 yL_average ∈ GW := gw_2 (i := 144) rfl rfl
theorem wd_436 : Cond.static yL_average ∈ GW := gw_2 (i := 145) rfl rfl
theorem wd_437 : Cond.codeWith yL_average cL_average 5 (some .int) [(0, 10, 13, 13), (0, 10, 17, 28), (0, 10, 21, 15)] ∈ GW := gw_2 (i := 146) rfl rfl
theorem wd_438 : Cond.methodLink RL 71 yX0_average ∈ GW := gw_2 (i := 147) rfl rfl
theorem wd_439 : Cond.instanceMethod yX0_average ∈ GW := gw_2 (i := 148) rfl rfl
theorem wd_440 : Cond.selects RX0 yX0_average yX0_average ∈ GW := gw_2 (i := 149) rfl rfl
theorem wd_441 : Cond.code yX0_average cX0_average 7 (some .float) ∈ GW := gw_2 (i := 150) rfl rfl
theorem wd_442 : Cond.methodLink RL 148 yX1_average ∈ GW := gw_3 (i := 89) rfl rfl
theorem wd_443 : Cond.instanceMethod yX1_average ∈ GW := gw_3 (i := 90) rfl rfl
theorem wd_444 : Cond.selects RX1 yX1_average yX1_average ∈ GW := gw_3 (i := 91) rfl rfl
theorem wd_445 : Cond.code yX1_average cX1_average 8 (some .float) ∈ GW := gw_3 (i := 92) rfl rfl
theorem g_L_L_put : GoodIn GW (va_wsS RL 79 yL_put (Cond.codeWith yL_put cL_put 8 (some .int) [(0, 16, 19, 13), (0, 16, 23, 15)] :: GW)) := gw_S wd_25 wd_26 wd_27 wd_28
theorem g_L_X0_put : GoodIn GW (wsV RL 7 RX0 yX0_put (Cond.code yX0_put cX0_put 6 (some .int) :: GW)) := gw_V wd_31 wd_32 wd_33 wd_2 wd_34
theorem g_X0_X0_needTableAndKey : GoodIn GW (va_wsS RX0 20 yX0_needTableAndKey (Cond.code yX0_needTableAndKey cX0_needTableAndKey 2 none :: GW)) := gw_S wd_35 wd_36 wd_2 wd_37
theorem g_X0_X0_needRange : GoodIn GW (va_wsS RX0 28 yX0_needRange (Cond.code yX0_needRange cX0_needRange 2 none :: GW)) := gw_S wd_38 wd_39 wd_2 wd_40
theorem g_X0_X0_valuesOf : GoodIn GW (va_wsS RX0 24 yX0_valuesOf (Cond.code yX0_valuesOf cX0_valuesOf 1 (some .int) :: GW)) := gw_S wd_43 wd_44 wd_2 wd_45
theorem g_X0_X0_needSpan : GoodIn GW (va_wsS RX0 31 yX0_needSpan (Cond.code yX0_needSpan cX0_needSpan 2 none :: GW)) := gw_S wd_46 wd_47 wd_2 wd_48
theorem g_X0_X0_line : GoodIn GW (va_wsS RX0 34 yX0_line (Cond.code yX0_line cX0_line 2 (some .int) :: GW)) := gw_S wd_49 wd_50 wd_2 wd_51
theorem g_X0_X0_draftSpan : GoodIn GW (wsV RX0 38 RX0 yX0_draftSpan (Cond.code yX0_draftSpan cX0_draftSpan 6 none :: GW)) := gw_V wd_52 wd_53 wd_54 wd_2 wd_55
theorem g_X0_X0_knownOn : GoodIn GW (wsV RX0 77 RX0 yX0_knownOn (Cond.code yX0_knownOn cX0_knownOn 5 (some .int) :: GW)) := gw_V wd_57 wd_58 wd_59 wd_2 wd_60
theorem g_X0_X0_index : GoodIn GW (va_wsS RX0 140 yX0_index (Cond.code yX0_index cX0_index 3 (some .int) :: GW)) := gw_S wd_61 wd_62 wd_2 wd_63
theorem g_X0_X0_recordDraft : GoodIn GW (wsV RX0 42 RX0 yX0_recordDraft (Cond.code yX0_recordDraft cX0_recordDraft 6 (some .int) :: GW)) := gw_V wd_64 wd_65 wd_66 wd_2 wd_67
theorem g_X0_X0_draftKeepsReferences : GoodIn GW (wsV RX0 149 RX0 yX0_draftKeepsReferences (Cond.code yX0_draftKeepsReferences cX0_draftKeepsReferences 5 (some .boolean) :: GW)) := gw_V wd_70 wd_71 wd_72 wd_2 wd_73
theorem g_X0_X0_isReferredTo : GoodIn GW (wsV RX0 159 RX0 yX0_isReferredTo (Cond.code yX0_isReferredTo cX0_isReferredTo 4 (some .boolean) :: GW)) := gw_V wd_74 wd_75 wd_76 wd_2 wd_77
theorem g_X0_X0_recordToday : GoodIn GW (wsV RX0 155 RX0 yX0_recordToday (Cond.code yX0_recordToday cX0_recordToday 5 none :: GW)) := gw_V wd_78 wd_79 wd_80 wd_2 wd_81
theorem g_L_X1_put : GoodIn GW (wsV RL 84 RX1 yX1_put (Cond.code yX1_put cX1_put 7 (some .int) :: GW)) := gw_V wd_82 wd_83 wd_84 wd_5 wd_85
theorem g_X1_X1_isKey : GoodIn GW (va_wsS RX1 47 yX1_isKey (Cond.code yX1_isKey cX1_isKey 2 (some .boolean) :: GW)) := gw_S wd_86 wd_87 wd_5 wd_88
theorem g_X1_X1_in : GoodIn GW (va_wsS RX1 18 yX1_in (Cond.code yX1_in cX1_in 3 (some .boolean) :: GW)) := gw_S wd_89 wd_90 wd_5 wd_91
theorem g_X1_X1_isSpan : GoodIn GW (va_wsS RX1 50 yX1_isSpan (Cond.code yX1_isSpan cX1_isSpan 2 (some .boolean) :: GW)) := gw_S wd_92 wd_93 wd_5 wd_94
theorem g_X1_X1_isDay : GoodIn GW (va_wsS RX1 22 yX1_isDay (Cond.code yX1_isDay cX1_isDay 1 (some .boolean) :: GW)) := gw_S wd_95 wd_96 wd_5 wd_97
theorem g_X1_X1_mayAll : GoodIn GW (wsV RX1 53 RX1 yX1_mayAll (Cond.code yX1_mayAll cX1_mayAll 7 (some .boolean) :: GW)) := gw_V wd_98 wd_99 wd_100 wd_5 wd_101
theorem g_X1_X1_may : GoodIn GW (wsV RX1 40 RX1 yX1_may (Cond.code yX1_may cX1_may 5 (some .boolean) :: GW)) := gw_V wd_102 wd_103 wd_104 wd_5 wd_105
theorem g_X1_X1_isReferred : GoodIn GW (wsV RX1 36 RX1 yX1_isReferred (Cond.code yX1_isReferred cX1_isReferred 4 (some .boolean) :: GW)) := gw_V wd_107 wd_108 wd_109 wd_5 wd_110
theorem g_X1_X1_of : GoodIn GW (wsV RX1 33 RX1 yX1_of (Cond.code yX1_of cX1_of 5 (some .int) :: GW)) := gw_V wd_111 wd_112 wd_113 wd_5 wd_114
theorem g_X1_X1_place : GoodIn GW (va_wsS RX1 26 yX1_place (Cond.code yX1_place cX1_place 4 (some .int) :: GW)) := gw_S wd_115 wd_116 wd_5 wd_117
theorem g_X1_X1_holds : GoodIn GW (wsV RX1 57 RX1 yX1_holds (Cond.code yX1_holds cX1_holds 2 (some .boolean) :: GW)) := gw_V wd_118 wd_119 wd_120 wd_5 wd_121
theorem g_X1_X1_setsAll : GoodIn GW (wsV RX1 60 RX1 yX1_setsAll (Cond.code yX1_setsAll cX1_setsAll 8 (some .int) :: GW)) := gw_V wd_123 wd_124 wd_125 wd_5 wd_126
theorem g_X1_X1_sets : GoodIn GW (wsV RX1 44 RX1 yX1_sets (Cond.code yX1_sets cX1_sets 7 (some .int) :: GW)) := gw_V wd_127 wd_128 wd_129 wd_5 wd_130
theorem g_L_X1_thrown : GoodIn GW (wsV RL 85 RX1 yX1_thrown (Cond.code yX1_thrown cX1_thrown 1 (some .int) :: GW)) := gw_V wd_131 wd_132 wd_133 wd_5 wd_134
theorem g_L_L_erase : GoodIn GW (va_wsS RL 89 yL_erase (Cond.codeWith yL_erase cL_erase 7 (some .int) [(0, 14, 17, 13), (0, 14, 21, 15)] :: GW)) := gw_S wd_135 wd_136 wd_27 wd_137
theorem g_L_X0_erase : GoodIn GW (wsV RL 17 RX0 yX0_erase (Cond.code yX0_erase cX0_erase 5 (some .int) :: GW)) := gw_V wd_138 wd_139 wd_140 wd_2 wd_141
theorem g_L_X1_erase : GoodIn GW (wsV RL 92 RX1 yX1_erase (Cond.code yX1_erase cX1_erase 6 (some .int) :: GW)) := gw_V wd_142 wd_143 wd_144 wd_5 wd_145
theorem g_L_L_eraseAll : GoodIn GW (va_wsS RL 93 yL_eraseAll (Cond.codeWith yL_eraseAll cL_eraseAll 6 (some .int) [(0, 12, 15, 13)] :: GW)) := gw_S wd_146 wd_147 wd_27 wd_148
theorem g_L_X0_eraseAll : GoodIn GW (wsV RL 21 RX0 yX0_eraseAll (Cond.code yX0_eraseAll cX0_eraseAll 6 (some .int) :: GW)) := gw_V wd_149 wd_150 wd_151 wd_2 wd_152
theorem g_X0_X0_loseWithReferences : GoodIn GW (wsV RX0 45 RX0 yX0_loseWithReferences (Cond.code yX0_loseWithReferences cX0_loseWithReferences 5 (some .int) :: GW)) := gw_V wd_153 wd_154 wd_155 wd_2 wd_156
theorem g_X0_X0_lose : GoodIn GW (wsV RX0 162 RX0 yX0_lose (Cond.code yX0_lose cX0_lose 3 (some .int) :: GW)) := gw_V wd_157 wd_158 wd_159 wd_2 wd_160
theorem g_L_X1_eraseAll : GoodIn GW (wsV RL 96 RX1 yX1_eraseAll (Cond.code yX1_eraseAll cX1_eraseAll 7 (some .int) :: GW)) := gw_V wd_161 wd_162 wd_163 wd_5 wd_164
theorem g_L_L_restore : GoodIn GW (va_wsS RL 97 yL_restore (Cond.codeWith yL_restore cL_restore 6 (some .int) [(0, 12, 15, 13), (0, 12, 19, 28), (0, 12, 23, 15)] :: GW)) := gw_S wd_165 wd_166 wd_27 wd_167
theorem g_L_X0_restore : GoodIn GW (wsV RL 25 RX0 yX0_restore (Cond.code yX0_restore cX0_restore 4 (some .int) :: GW)) := gw_V wd_169 wd_170 wd_171 wd_2 wd_172
theorem g_X0_X0_needRecord : GoodIn GW (wsV RX0 48 RX0 yX0_needRecord (Cond.code yX0_needRecord cX0_needRecord 2 none :: GW)) := gw_V wd_173 wd_174 wd_175 wd_2 wd_176
theorem g_X0_X0_draftRecord : GoodIn GW (wsV RX0 52 RX0 yX0_draftRecord (Cond.code yX0_draftRecord cX0_draftRecord 4 none :: GW)) := gw_V wd_179 wd_180 wd_181 wd_2 wd_182
theorem g_L_X1_restore : GoodIn GW (wsV RL 99 RX1 yX1_restore (Cond.code yX1_restore cX1_restore 7 (some .int) :: GW)) := gw_V wd_183 wd_184 wd_185 wd_5 wd_186
theorem g_X1_X1_errorOfRecord : GoodIn GW (wsV RX1 64 RX1 yX1_errorOfRecord (Cond.code yX1_errorOfRecord cX1_errorOfRecord 3 (some .int) :: GW)) := gw_V wd_187 wd_188 wd_189 wd_5 wd_190
theorem g_L_L_pass : GoodIn GW (va_wsS RL 100 yL_pass (Cond.codeWith yL_pass cL_pass 4 (some .int) [(0, 9, 12, 13), (0, 9, 15, 15)] :: GW)) := gw_S wd_191 wd_192 wd_27 wd_193
theorem g_L_X0_pass : GoodIn GW (wsV RL 30 RX0 yX0_pass (Cond.code yX0_pass cX0_pass 4 (some .int) :: GW)) := gw_V wd_194 wd_195 wd_196 wd_2 wd_197
theorem g_X0_X0_keepOn : GoodIn GW (wsV RX0 71 RX0 yX0_keepOn (Cond.code yX0_keepOn cX0_keepOn 3 none :: GW)) := gw_V wd_198 wd_199 wd_200 wd_2 wd_201
theorem g_X0_X0_copyDay : GoodIn GW (wsV RX0 74 RX0 yX0_copyDay (Cond.code yX0_copyDay cX0_copyDay 3 none :: GW)) := gw_V wd_202 wd_203 wd_204 wd_2 wd_205
theorem g_L_X1_pass : GoodIn GW (wsV RL 103 RX1 yX1_pass (Cond.code yX1_pass cX1_pass 4 (some .int) :: GW)) := gw_V wd_210 wd_211 wd_212 wd_5 wd_213
theorem g_L_X0_today : GoodIn GW (wsV RL 104 RX0 yX0_today (Cond.code yX0_today cX0_today 1 (some .int) :: GW)) := gw_V wd_214 wd_215 wd_216 wd_2 wd_217
theorem g_L_X1_today : GoodIn GW (wsV RL 107 RX1 yX1_today (Cond.code yX1_today cX1_today 1 (some .int) :: GW)) := gw_V wd_218 wd_219 wd_220 wd_5 wd_221
theorem g_L_L_value : GoodIn GW (va_wsS RL 108 yL_value (Cond.codeWith yL_value cL_value 7 (some .int) [(0, 14, 17, 13), (0, 14, 21, 28)] :: GW)) := gw_S wd_222 wd_223 wd_27 wd_224
theorem g_L_X0_value : GoodIn GW (wsV RL 34 RX0 yX0_value (Cond.code yX0_value cX0_value 5 (some .int) :: GW)) := gw_V wd_225 wd_226 wd_227 wd_2 wd_228
theorem g_L_X1_value : GoodIn GW (wsV RL 110 RX1 yX1_value (Cond.code yX1_value cX1_value 5 (some .int) :: GW)) := gw_V wd_229 wd_230 wd_231 wd_5 wd_232
theorem g_L_L_keys : GoodIn GW (va_wsS RL 111 yL_keys (Cond.codeWith yL_keys cL_keys 6 (some .int) [(0, 12, 15, 13), (0, 12, 19, 28)] :: GW)) := gw_S wd_233 wd_234 wd_27 wd_235
theorem g_L_X0_keys : GoodIn GW (wsV RL 37 RX0 yX0_keys (Cond.code yX0_keys cX0_keys 6 (some .int) :: GW)) := gw_V wd_236 wd_237 wd_238 wd_2 wd_239
theorem g_L_X1_keys : GoodIn GW (wsV RL 113 RX1 yX1_keys (Cond.code yX1_keys cX1_keys 6 (some .int) :: GW)) := gw_V wd_240 wd_241 wd_242 wd_5 wd_243
theorem g_L_L_joined : GoodIn GW (va_wsS RL 114 yL_joined (Cond.codeWith yL_joined cL_joined 6 (some .int) [(0, 12, 15, 13), (0, 12, 19, 28)] :: GW)) := gw_S wd_244 wd_245 wd_27 wd_246
theorem g_L_X0_joined : GoodIn GW (wsV RL 40 RX0 yX0_joined (Cond.code yX0_joined cX0_joined 4 (some .int) :: GW)) := gw_V wd_247 wd_248 wd_249 wd_2 wd_250
theorem g_X0_X0_joinedOn : GoodIn GW (wsV RX0 81 RX0 yX0_joinedOn (Cond.code yX0_joinedOn cX0_joinedOn 5 (some .int) :: GW)) := gw_V wd_251 wd_252 wd_253 wd_2 wd_254
theorem g_L_X1_joined : GoodIn GW (wsV RL 116 RX1 yX1_joined (Cond.code yX1_joined cX1_joined 4 (some .int) :: GW)) := gw_V wd_255 wd_256 wd_257 wd_5 wd_258
theorem g_X1_X1_joinedOf : GoodIn GW (wsV RX1 68 RX1 yX1_joinedOf (Cond.code yX1_joinedOf cX1_joinedOf 5 (some .int) :: GW)) := gw_V wd_259 wd_260 wd_261 wd_5 wd_262
theorem g_L_L_runs : GoodIn GW (va_wsS RL 117 yL_runs (Cond.codeWith yL_runs cL_runs 6 (some .int) [(0, 12, 15, 13), (0, 12, 19, 28)] :: GW)) := gw_S wd_263 wd_264 wd_27 wd_265
theorem g_L_X0_runs : GoodIn GW (wsV RL 43 RX0 yX0_runs (Cond.code yX0_runs cX0_runs 7 (some .int) :: GW)) := gw_V wd_266 wd_267 wd_268 wd_2 wd_269
theorem g_X0_X0_startsRun : GoodIn GW (wsV RX0 84 RX0 yX0_startsRun (Cond.code yX0_startsRun cX0_startsRun 5 (some .boolean) :: GW)) := gw_V wd_270 wd_271 wd_272 wd_2 wd_273
theorem g_L_X1_runs : GoodIn GW (wsV RL 119 RX1 yX1_runs (Cond.code yX1_runs cX1_runs 4 (some .int) :: GW)) := gw_V wd_274 wd_275 wd_276 wd_5 wd_277
theorem g_X1_X1_runsOf : GoodIn GW (wsV RX1 78 RX1 yX1_runsOf (Cond.code yX1_runsOf cX1_runsOf 6 (some .int) :: GW)) := gw_V wd_278 wd_279 wd_280 wd_5 wd_281
theorem g_X1_X1_begins : GoodIn GW (wsV RX1 72 RX1 yX1_begins (Cond.code yX1_begins cX1_begins 6 (some .boolean) :: GW)) := gw_V wd_282 wd_283 wd_284 wd_5 wd_285
theorem g_L_L_run : GoodIn GW (va_wsS RL 120 yL_run (Cond.codeWith yL_run cL_run 7 (some .int) [(0, 14, 17, 13), (0, 14, 21, 28)] :: GW)) := gw_S wd_286 wd_287 wd_27 wd_288
theorem g_L_X0_run : GoodIn GW (wsV RL 46 RX0 yX0_run (Cond.code yX0_run cX0_run 7 (some .int) :: GW)) := gw_V wd_289 wd_290 wd_291 wd_2 wd_292
theorem g_X0_X0_firstDayOfRun : GoodIn GW (wsV RX0 88 RX0 yX0_firstDayOfRun (Cond.code yX0_firstDayOfRun cX0_firstDayOfRun 6 (some .int) :: GW)) := gw_V wd_293 wd_294 wd_295 wd_2 wd_296
theorem g_X0_X0_runNumber : GoodIn GW (wsV RX0 96 RX0 yX0_runNumber (Cond.code yX0_runNumber cX0_runNumber 4 (some .int) :: GW)) := gw_V wd_297 wd_298 wd_299 wd_2 wd_300
theorem g_X0_X0_endOfRun : GoodIn GW (wsV RX0 124 RX0 yX0_endOfRun (Cond.code yX0_endOfRun cX0_endOfRun 6 (some .int) :: GW)) := gw_V wd_301 wd_302 wd_303 wd_2 wd_304
theorem g_L_X1_run : GoodIn GW (wsV RL 122 RX1 yX1_run (Cond.code yX1_run cX1_run 8 (some .int) :: GW)) := gw_V wd_305 wd_306 wd_307 wd_5 wd_308
theorem g_X1_X1_told : GoodIn GW (wsV RX1 81 RX1 yX1_told (Cond.code yX1_told cX1_told 5 (some .int) :: GW)) := gw_V wd_309 wd_310 wd_311 wd_5 wd_312
theorem g_X1_X1_end : GoodIn GW (wsV RX1 75 RX1 yX1_end (Cond.code yX1_end cX1_end 6 (some .int) :: GW)) := gw_V wd_313 wd_314 wd_315 wd_5 wd_316
theorem g_L_L_joinedRuns : GoodIn GW (va_wsS RL 123 yL_joinedRuns (Cond.codeWith yL_joinedRuns cL_joinedRuns 5 (some .int) [(0, 10, 13, 13), (0, 10, 17, 28)] :: GW)) := gw_S wd_317 wd_318 wd_27 wd_319
theorem g_L_X0_joinedRuns : GoodIn GW (wsV RL 49 RX0 yX0_joinedRuns (Cond.code yX0_joinedRuns cX0_joinedRuns 5 (some .int) :: GW)) := gw_V wd_320 wd_321 wd_322 wd_2 wd_323
theorem g_X0_X0_startsJoinedRun : GoodIn GW (wsV RX0 99 RX0 yX0_startsJoinedRun (Cond.code yX0_startsJoinedRun cX0_startsJoinedRun 4 (some .boolean) :: GW)) := gw_V wd_324 wd_325 wd_326 wd_2 wd_327
theorem g_L_X1_joinedRuns : GoodIn GW (wsV RL 126 RX1 yX1_joinedRuns (Cond.code yX1_joinedRuns cX1_joinedRuns 6 (some .int) :: GW)) := gw_V wd_328 wd_329 wd_330 wd_5 wd_331
theorem g_L_L_rows : GoodIn GW (va_wsS RL 127 yL_rows (Cond.codeWith yL_rows cL_rows 5 (some .int) [(0, 10, 13, 13)] :: GW)) := gw_S wd_332 wd_333 wd_27 wd_334
theorem g_L_X0_rows : GoodIn GW (wsV RL 53 RX0 yX0_rows (Cond.code yX0_rows cX0_rows 7 (some .int) :: GW)) := gw_V wd_335 wd_336 wd_337 wd_2 wd_338
theorem g_X0_X0_isKept : GoodIn GW (wsV RX0 102 RX0 yX0_isKept (Cond.code yX0_isKept cX0_isKept 2 (some .boolean) :: GW)) := gw_V wd_339 wd_340 wd_341 wd_2 wd_342
theorem g_X0_X0_startsRow : GoodIn GW (wsV RX0 106 RX0 yX0_startsRow (Cond.code yX0_startsRow cX0_startsRow 4 (some .boolean) :: GW)) := gw_V wd_343 wd_344 wd_345 wd_2 wd_346
theorem g_X0_X0_sameRun : GoodIn GW (wsV RX0 118 RX0 yX0_sameRun (Cond.code yX0_sameRun cX0_sameRun 5 (some .boolean) :: GW)) := gw_V wd_347 wd_348 wd_349 wd_2 wd_350
theorem g_L_X1_rows : GoodIn GW (wsV RL 129 RX1 yX1_rows (Cond.code yX1_rows cX1_rows 3 (some .int) :: GW)) := gw_V wd_351 wd_352 wd_353 wd_5 wd_354
theorem g_X1_X1_rowsOf : GoodIn GW (wsV RX1 90 RX1 yX1_rowsOf (Cond.code yX1_rowsOf cX1_rowsOf 8 (some .int) :: GW)) := gw_V wd_355 wd_356 wd_357 wd_5 wd_358
theorem g_L_L_rowRun : GoodIn GW (va_wsS RL 130 yL_rowRun (Cond.codeWith yL_rowRun cL_rowRun 6 (some .int) [(0, 12, 15, 13), (0, 12, 19, 28)] :: GW)) := gw_S wd_361 wd_362 wd_27 wd_363
theorem g_L_X0_rowRun : GoodIn GW (wsV RL 56 RX0 yX0_rowRun (Cond.code yX0_rowRun cX0_rowRun 6 (some .int) :: GW)) := gw_V wd_364 wd_365 wd_366 wd_2 wd_367
theorem g_X0_X0_startOfRow : GoodIn GW (wsV RX0 109 RX0 yX0_startOfRow (Cond.code yX0_startOfRow cX0_startOfRow 6 (some .int) :: GW)) := gw_V wd_368 wd_369 wd_370 wd_2 wd_371
theorem g_X0_X0_recordOfStart : GoodIn GW (va_wsS RX0 112 yX0_recordOfStart (Cond.code yX0_recordOfStart cX0_recordOfStart 1 (some .int) :: GW)) := gw_S wd_372 wd_373 wd_2 wd_374
theorem g_X0_X0_validOfStart : GoodIn GW (va_wsS RX0 115 yX0_validOfStart (Cond.code yX0_validOfStart cX0_validOfStart 1 (some .int) :: GW)) := gw_S wd_375 wd_376 wd_2 wd_377
theorem g_L_X1_rowRun : GoodIn GW (wsV RL 132 RX1 yX1_rowRun (Cond.code yX1_rowRun cX1_rowRun 4 (some .int) :: GW)) := gw_V wd_378 wd_379 wd_380 wd_5 wd_381
theorem g_X1_X1_errorOfRow : GoodIn GW (wsV RX1 93 RX1 yX1_errorOfRow (Cond.code yX1_errorOfRow cX1_errorOfRow 4 (some .int) :: GW)) := gw_V wd_382 wd_383 wd_384 wd_5 wd_385
theorem g_L_L_rowFrom : GoodIn GW (va_wsS RL 133 yL_rowFrom (Cond.codeWith yL_rowFrom cL_rowFrom 6 (some .int) [(0, 12, 15, 13), (0, 12, 19, 28)] :: GW)) := gw_S wd_386 wd_387 wd_27 wd_388
theorem g_L_X0_rowFrom : GoodIn GW (wsV RL 59 RX0 yX0_rowFrom (Cond.code yX0_rowFrom cX0_rowFrom 4 (some .int) :: GW)) := gw_V wd_389 wd_390 wd_391 wd_2 wd_392
theorem g_L_X1_rowFrom : GoodIn GW (wsV RL 135 RX1 yX1_rowFrom (Cond.code yX1_rowFrom cX1_rowFrom 4 (some .int) :: GW)) := gw_V wd_393 wd_394 wd_395 wd_5 wd_396
theorem g_L_L_rowTo : GoodIn GW (va_wsS RL 136 yL_rowTo (Cond.codeWith yL_rowTo cL_rowTo 6 (some .int) [(0, 12, 15, 13), (0, 12, 19, 28)] :: GW)) := gw_S wd_397 wd_398 wd_27 wd_399
theorem g_L_X0_rowTo : GoodIn GW (wsV RL 62 RX0 yX0_rowTo (Cond.code yX0_rowTo cX0_rowTo 9 (some .int) :: GW)) := gw_V wd_400 wd_401 wd_402 wd_2 wd_403
theorem g_L_X1_rowTo : GoodIn GW (wsV RL 138 RX1 yX1_rowTo (Cond.code yX1_rowTo cX1_rowTo 4 (some .int) :: GW)) := gw_V wd_404 wd_405 wd_406 wd_5 wd_407
theorem g_L_L_corrections : GoodIn GW (va_wsS RL 139 yL_corrections (Cond.codeWith yL_corrections cL_corrections 8 (some .int) [(0, 16, 19, 13), (0, 16, 23, 28)] :: GW)) := gw_S wd_409 wd_410 wd_27 wd_411
theorem g_L_X0_corrections : GoodIn GW (wsV RL 65 RX0 yX0_corrections (Cond.code yX0_corrections cX0_corrections 9 (some .int) :: GW)) := gw_V wd_412 wd_413 wd_414 wd_2 wd_415
theorem g_L_X1_corrections : GoodIn GW (wsV RL 141 RX1 yX1_corrections (Cond.code yX1_corrections cX1_corrections 9 (some .int) :: GW)) := gw_V wd_416 wd_417 wd_418 wd_5 wd_419
theorem g_L_L_longest : GoodIn GW (va_wsS RL 142 yL_longest (Cond.codeWith yL_longest cL_longest 6 (some .int) [(0, 12, 15, 13), (0, 12, 19, 28)] :: GW)) := gw_S wd_420 wd_421 wd_27 wd_422
theorem g_L_X0_longest : GoodIn GW (wsV RL 68 RX0 yX0_longest (Cond.code yX0_longest cX0_longest 7 (some .int) :: GW)) := gw_V wd_423 wd_424 wd_425 wd_2 wd_426
theorem g_L_X1_longest : GoodIn GW (wsV RL 144 RX1 yX1_longest (Cond.code yX1_longest cX1_longest 7 (some .int) :: GW)) := gw_V wd_431 wd_432 wd_433 wd_5 wd_434
theorem g_L_L_average : GoodIn GW (va_wsS RL 145 yL_average (Cond.codeWith yL_average cL_average 5 (some .int) [(0, 10, 13, 13), (0, 10, 17, 28), (0, 10, 21, 15)] :: GW)) := gw_S wd_435 wd_436 wd_27 wd_437
theorem g_L_X0_average : GoodIn GW (wsV RL 71 RX0 yX0_average (Cond.code yX0_average cX0_average 7 (some .float) :: GW)) := gw_V wd_438 wd_439 wd_440 wd_2 wd_441
theorem g_L_X1_average : GoodIn GW (wsV RL 148 RX1 yX1_average (Cond.code yX1_average cX1_average 8 (some .float) :: GW)) := gw_V wd_442 wd_443 wd_444 wd_5 wd_445
theorem inX0 : ∀ w ∈ wsX00, w ∈ GW := by decide +kernel
theorem inX1 : ∀ w ∈ wsX10, w ∈ GW := by decide +kernel
end
section
/-! the base layer: a world, the locals as a list, the operand stack; a row an instruction -/
def lk : List (Nat × Value) → Nat → Option Value
  | [], _ => none
  | q :: r, i => cond (Nat.beq q.1 i) (some q.2) (lk r i)
def lvk (ls : Array Slot) (n : Nat) (L : List (Nat × Value)) : Prop := ls.size = n ∧ lv_wf ls ∧ ∀ (i : Nat) (v : Value), lk L i = some v → v.category = 1 ∧ ls[i]? = some (.val v)
theorem lk_cons_eq (i : Nat) (v : Value) (L : List (Nat × Value)) : lk ((i, v) :: L) i = some v := by
  show cond (Nat.beq i i) (some v) (lk L i) = some v
  rw [show Nat.beq i i = true from Nat.beq_refl i]; rfl
theorem lk_cons_ne {i j : Nat} (v : Value) (L : List (Nat × Value)) (h : i ≠ j) : lk ((i, v) :: L) j = lk L j := by
  show cond (Nat.beq i j) (some v) (lk L j) = lk L j
  have hb : Nat.beq i j = false := by
    cases hb : Nat.beq i j with
    | true => exact absurd (Nat.eq_of_beq_eq_true hb) h
    | false => rfl
  rw [hb]; rfl
theorem lvk_store {ls : Array Slot} {n i : Nat} {L : List (Nat × Value)} {v : Value} (h : lvk ls n L) (hi : i < n) (hc : v.category = 1) : ∃ ls', storeLocals ls i v = some ls' ∧ lvk ls' n ((i, v) :: L) := by
  obtain ⟨h1, h2, h3⟩ := h
  obtain ⟨ls', e', h'⟩ := lv_store1 (l := []) ⟨h1, h2, fun q hq => nomatch hq⟩ hi hc
  refine ⟨ls', e', h'.1, h'.2.1, fun j w hw => ?_⟩
  by_cases hij : i = j
  · subst hij
    rw [lk_cons_eq] at hw
    cases hw
    exact ⟨hc, h'.2.2 (i, v) List.mem_cons_self⟩
  · rw [lk_cons_ne v L hij] at hw
    obtain ⟨g1, g2⟩ := h3 j w hw
    obtain ⟨ls2, e2, h2'⟩ := lv_store1 (l := [(j, w)]) ⟨h1, h2, fun q hq => by rw [List.mem_singleton.mp hq]; exact g2⟩ hi hc
    cases e'.symm.trans e2
    refine ⟨g1, h2'.2.2 (j, w) (List.mem_cons_of_mem _ (List.mem_filter.mpr ⟨List.mem_singleton.mpr rfl, ?_⟩))⟩
    have hji : (j == i) = false := by simp [Ne.symm hij]
    simp [hji, g1]
theorem lk_mem : ∀ {L : List (Nat × Value)} {i : Nat} {v : Value}, lk L i = some v → (i, v) ∈ L
  | [], _, _, h => nomatch h
  | (j, w) :: r, i, v, h => by
    by_cases hj : j = i
    · subst hj
      rw [lk_cons_eq] at h
      cases h
      exact List.mem_cons_self
    · rw [lk_cons_ne w r hj] at h
      exact List.mem_cons_of_mem _ (lk_mem h)
theorem lvk_of {ls : Array Slot} {n : Nat} {L : List (Nat × Value)} (h : lv_has ls n L) (hc : L.all (fun q => q.2.category == 1) = true) : lvk ls n L :=
  ⟨h.1, h.2.1, fun i v hv => ⟨by have := List.all_eq_true.mp hc _ (lk_mem hv); simpa using this, h.2.2 (i, v) (lk_mem hv)⟩⟩
def lsub (L' : List (Nat × Value)) : List (Nat × Value) → Prop
  | [] => True
  | q :: r => lk L' q.1 = some q.2 ∧ lsub L' r
theorem lsub_mem {L' : List (Nat × Value)} : ∀ {L : List (Nat × Value)}, lsub L' L → ∀ q ∈ L, lk L' q.1 = some q.2
  | [], _, _, h => nomatch h
  | _ :: _, h, q, hq => (List.mem_cons.mp hq).elim (fun e => by rw [e]; exact h.1) (fun hq => lsub_mem h.2 q hq)
theorem lvk_sub {ls : Array Slot} {n : Nat} {L L' : List (Nat × Value)} (h : lvk ls n L) (hs : lsub L L') : lvk ls n L' :=
  ⟨h.1, h.2.1, fun i v hv => h.2.2 i v (lsub_mem hs (i, v) (lk_mem hv))⟩
def gg (p : Program) (l : Launch) (e : Env) (R : Room) (s : State) (m : MethodId) (args : Array Value) (below : List Frame) (meth : Method) (c : Code) (D : va_G) (A : Nat → Prop) (n cells slots : Nat) (Q : State → Prop) (ws : va_W) (pc : Nat) (L : List (Nat × Value)) (st : List Value) : Prop :=
  ∀ (H : Heap) (locs : List Loc) (ls : Array Slot), va_P D vwCl ws H → va_D A ws → va_S A s.heap H locs → lvk ls n L → W p l e R s m args below meth c H locs cells slots Q (F0 m pc ls st)
def kx (p : Program) (s : State) (m : MethodId) (args : Array Value) (meth : Method) (c : Code) (D : va_G) (A : Nat → Prop) (tys : List (ClassId × FieldType)) (cc : ByteArray) (own : String) (n : Nat) : Prop :=
  CallFix p m c cc n s args GW own ∧ va_K D vwCl tys s ∧ (∀ q : Nat, s.heap.size ≤ q → A q) ∧ meth.locks = false
def inW (D : va_G) (tys : List (ClassId × FieldType)) (ws : va_W) (sz : Nat) (U : State) : Prop := U.heap.size = sz ∧ va_P D vwCl ws U.heap ∧ va_K D vwCl tys U ∧ va_D (fun _ => True) ws
def outW (D : va_G) (tys : List (ClassId × FieldType)) (A : Nat → Prop) (u : va_W) (t : State) : Prop := va_P D vwCl u t.heap ∧ va_K D vwCl tys t ∧ va_D A u
def qA (D : va_G) (tys : List (ClassId × FieldType)) (A : Nat → Prop) (post : Option Value → va_W → Prop) : Array Value → State → Outcome → State → Prop := fun _ st oc t => (∃ (v : Option Value) (u : va_W), oc = .returned v ∧ post v u ∧ outW D tys A u t) ∧ va_F A st t
def xA (D : va_G) (tys : List (ClassId × FieldType)) (A : Nat → Prop) (pe : String → va_W → Prop) : String → State → State → Prop := fun E st t => (∃ u : va_W, pe E u ∧ outW D tys A u t) ∧ va_F A st t
/-- a method's contract: from the world ws, with the arguments As, it returns an answer and a world as post says -/
def mA (l : Launch) (D : va_G) (tys : List (ClassId × FieldType)) (y : MethodName) (cd : ByteArray) (maxL : Nat) (ret : Option FieldType) (rm : Room) (ws : va_W) (As : List Value) (post : Option Value → va_W → Prop) : Prop :=
  ∀ sz : Nat, Met l y (.code y cd maxL ret :: GW) rm (va_Pc As (inW D tys ws sz)) (qA D tys (va_A ws sz) post) rm.cells rm.slots (va_A ws sz)

theorem gg_iconst {p : Program} {l : Launch} {e : Env} {R : Room} {s : State} {m : MethodId} {args : Array Value} {below : List Frame} {meth : Method} {c : Code} {D : va_G} {A : Nat → Prop} {tys : List (ClassId × FieldType)} {cc : ByteArray} {own : String} {n cells slots pc : Nat} {Q : State → Prop} {ws : va_W} {L : List (Nat × Value)} {st : List Value} {z : Int} {v : Int32} (K : kx p s m args meth c D A tys cc own n) (hd : decode cc pc = .ok (.iconst z, 1)) (hv : Int32.ofInt z = v) (k : gg p l e R s m args below meth c D A n cells slots Q ws (pc + 1) L (.int v :: st)) : gg p l e R s m args below meth c D A n cells slots Q ws pc L st := fun H locs ls hP hD hS hl => lv_iconst K.1.1 K.1.2.1 hd hv (k H locs ls hP hD hS hl)
theorem gg_bipush {p : Program} {l : Launch} {e : Env} {R : Room} {s : State} {m : MethodId} {args : Array Value} {below : List Frame} {meth : Method} {c : Code} {D : va_G} {A : Nat → Prop} {tys : List (ClassId × FieldType)} {cc : ByteArray} {own : String} {n cells slots pc : Nat} {Q : State → Prop} {ws : va_W} {L : List (Nat × Value)} {st : List Value} {z : Int} {v : Int32} (K : kx p s m args meth c D A tys cc own n) (hd : decode cc pc = .ok (.bipush z, 2)) (hv : (Int8.ofInt z).toInt32 = v) (k : gg p l e R s m args below meth c D A n cells slots Q ws (pc + 2) L (.int v :: st)) : gg p l e R s m args below meth c D A n cells slots Q ws pc L st := fun H locs ls hP hD hS hl => lv_bipush K.1.1 K.1.2.1 hd hv (k H locs ls hP hD hS hl)
theorem gg_sipush {p : Program} {l : Launch} {e : Env} {R : Room} {s : State} {m : MethodId} {args : Array Value} {below : List Frame} {meth : Method} {c : Code} {D : va_G} {A : Nat → Prop} {tys : List (ClassId × FieldType)} {cc : ByteArray} {own : String} {n cells slots pc : Nat} {Q : State → Prop} {ws : va_W} {L : List (Nat × Value)} {st : List Value} {z : Int} {v : Int32} (K : kx p s m args meth c D A tys cc own n) (hd : decode cc pc = .ok (.sipush z, 3)) (hv : (Int16.ofInt z).toInt32 = v) (k : gg p l e R s m args below meth c D A n cells slots Q ws (pc + 3) L (.int v :: st)) : gg p l e R s m args below meth c D A n cells slots Q ws pc L st := fun H locs ls hP hD hS hl => lv_sipush K.1.1 K.1.2.1 hd hv (k H locs ls hP hD hS hl)
theorem gg_ldc {p : Program} {l : Launch} {e : Env} {R : Room} {s : State} {m : MethodId} {args : Array Value} {below : List Frame} {meth : Method} {c : Code} {D : va_G} {A : Nat → Prop} {tys : List (ClassId × FieldType)} {cc : ByteArray} {own : String} {n cells slots pc : Nat} {Q : State → Prop} {ws : va_W} {L : List (Nat × Value)} {st : List Value} {index : Nat} {v : Int32} (K : kx p s m args meth c D A tys cc own n) (hc : (Cond.constant own index v) ∈ GW) (hd : decode cc pc = .ok (.ldc index, 2)) (k : gg p l e R s m args below meth c D A n cells slots Q ws (pc + 2) L (.int v :: st)) : gg p l e R s m args below meth c D A n cells slots Q ws pc L st := fun H locs ls hP hD hS hl => lv_ldc K.1.1 K.1.2.1 K.1.2.2.2.1 (K.1.2.2.2.2 _ hc) hd (k H locs ls hP hD hS hl)
theorem gg_iload_n {p : Program} {l : Launch} {e : Env} {R : Room} {s : State} {m : MethodId} {args : Array Value} {below : List Frame} {meth : Method} {c : Code} {D : va_G} {A : Nat → Prop} {tys : List (ClassId × FieldType)} {cc : ByteArray} {own : String} {n cells slots pc : Nat} {Q : State → Prop} {ws : va_W} {L : List (Nat × Value)} {st : List Value} {j : Fin 4} {i : Nat} {x : Int32} (K : kx p s m args meth c D A tys cc own n) (hd : decode cc pc = .ok (.iload_n j, 1)) (hi : (j : Nat) = i) (hx : lk L i = some (.int x)) (k : gg p l e R s m args below meth c D A n cells slots Q ws (pc + 1) L (.int x :: st)) : gg p l e R s m args below meth c D A n cells slots Q ws pc L st := fun H locs ls hP hD hS hl => lv_iload_n K.1.1 K.1.2.1 hd hi (hl.2.2 _ _ hx).2 (k H locs ls hP hD hS hl)
theorem gg_iload {p : Program} {l : Launch} {e : Env} {R : Room} {s : State} {m : MethodId} {args : Array Value} {below : List Frame} {meth : Method} {c : Code} {D : va_G} {A : Nat → Prop} {tys : List (ClassId × FieldType)} {cc : ByteArray} {own : String} {n cells slots pc : Nat} {Q : State → Prop} {ws : va_W} {L : List (Nat × Value)} {st : List Value} {i : Nat} {x : Int32} (K : kx p s m args meth c D A tys cc own n) (hd : decode cc pc = .ok (.iload i, 2)) (hx : lk L i = some (.int x)) (k : gg p l e R s m args below meth c D A n cells slots Q ws (pc + 2) L (.int x :: st)) : gg p l e R s m args below meth c D A n cells slots Q ws pc L st := fun H locs ls hP hD hS hl => lv_iload K.1.1 K.1.2.1 hd (hl.2.2 _ _ hx).2 (k H locs ls hP hD hS hl)
theorem gg_aload_n {p : Program} {l : Launch} {e : Env} {R : Room} {s : State} {m : MethodId} {args : Array Value} {below : List Frame} {meth : Method} {c : Code} {D : va_G} {A : Nat → Prop} {tys : List (ClassId × FieldType)} {cc : ByteArray} {own : String} {n cells slots pc : Nat} {Q : State → Prop} {ws : va_W} {L : List (Nat × Value)} {st : List Value} {j : Fin 4} {i : Nat} {x : Nat} (K : kx p s m args meth c D A tys cc own n) (hd : decode cc pc = .ok (.aload_n j, 1)) (hi : (j : Nat) = i) (hx : lk L i = some (.ref x)) (k : gg p l e R s m args below meth c D A n cells slots Q ws (pc + 1) L (.ref x :: st)) : gg p l e R s m args below meth c D A n cells slots Q ws pc L st := fun H locs ls hP hD hS hl => lv_aload_n K.1.1 K.1.2.1 hd hi (hl.2.2 _ _ hx).2 (k H locs ls hP hD hS hl)
theorem gg_aload {p : Program} {l : Launch} {e : Env} {R : Room} {s : State} {m : MethodId} {args : Array Value} {below : List Frame} {meth : Method} {c : Code} {D : va_G} {A : Nat → Prop} {tys : List (ClassId × FieldType)} {cc : ByteArray} {own : String} {n cells slots pc : Nat} {Q : State → Prop} {ws : va_W} {L : List (Nat × Value)} {st : List Value} {i : Nat} {x : Nat} (K : kx p s m args meth c D A tys cc own n) (hd : decode cc pc = .ok (.aload i, 2)) (hx : lk L i = some (.ref x)) (k : gg p l e R s m args below meth c D A n cells slots Q ws (pc + 2) L (.ref x :: st)) : gg p l e R s m args below meth c D A n cells slots Q ws pc L st := fun H locs ls hP hD hS hl => lv_aload K.1.1 K.1.2.1 hd (hl.2.2 _ _ hx).2 (k H locs ls hP hD hS hl)
theorem gg_fload_n {p : Program} {l : Launch} {e : Env} {R : Room} {s : State} {m : MethodId} {args : Array Value} {below : List Frame} {meth : Method} {c : Code} {D : va_G} {A : Nat → Prop} {tys : List (ClassId × FieldType)} {cc : ByteArray} {own : String} {n cells slots pc : Nat} {Q : State → Prop} {ws : va_W} {L : List (Nat × Value)} {st : List Value} {j : Fin 4} {i : Nat} {x : UInt32} (K : kx p s m args meth c D A tys cc own n) (hd : decode cc pc = .ok (.fload_n j, 1)) (hi : (j : Nat) = i) (hx : lk L i = some (.float x)) (k : gg p l e R s m args below meth c D A n cells slots Q ws (pc + 1) L (.float x :: st)) : gg p l e R s m args below meth c D A n cells slots Q ws pc L st := fun H locs ls hP hD hS hl => lv_fload_n K.1.1 K.1.2.1 hd hi (hl.2.2 _ _ hx).2 (k H locs ls hP hD hS hl)
theorem gg_fload {p : Program} {l : Launch} {e : Env} {R : Room} {s : State} {m : MethodId} {args : Array Value} {below : List Frame} {meth : Method} {c : Code} {D : va_G} {A : Nat → Prop} {tys : List (ClassId × FieldType)} {cc : ByteArray} {own : String} {n cells slots pc : Nat} {Q : State → Prop} {ws : va_W} {L : List (Nat × Value)} {st : List Value} {i : Nat} {x : UInt32} (K : kx p s m args meth c D A tys cc own n) (hd : decode cc pc = .ok (.fload i, 2)) (hx : lk L i = some (.float x)) (k : gg p l e R s m args below meth c D A n cells slots Q ws (pc + 2) L (.float x :: st)) : gg p l e R s m args below meth c D A n cells slots Q ws pc L st := fun H locs ls hP hD hS hl => lv_fload K.1.1 K.1.2.1 hd (hl.2.2 _ _ hx).2 (k H locs ls hP hD hS hl)
theorem gg_istore_n {p : Program} {l : Launch} {e : Env} {R : Room} {s : State} {m : MethodId} {args : Array Value} {below : List Frame} {meth : Method} {c : Code} {D : va_G} {A : Nat → Prop} {tys : List (ClassId × FieldType)} {cc : ByteArray} {own : String} {n cells slots pc : Nat} {Q : State → Prop} {ws : va_W} {L : List (Nat × Value)} {st : List Value} {j : Fin 4} {i : Nat} {x : Int32} (K : kx p s m args meth c D A tys cc own n) (hd : decode cc pc = .ok (.istore_n j, 1)) (hi : (j : Nat) = i) (hn : i < n) (k : gg p l e R s m args below meth c D A n cells slots Q ws (pc + 1) ((i, .int x) :: L) st) : gg p l e R s m args below meth c D A n cells slots Q ws pc L (.int x :: st) := by
  intro H locs ls hP hD hS hl T hT X
  subst hi
  obtain ⟨ls', e', h'⟩ := lvk_store (v := .int x) hl hn rfl
  obtain ⟨t, a, b⟩ := k H locs ls' hP hD hS h' T hT X
  refine ⟨t, ?_, b⟩
  jvm_step X.here [X.here.top, ↓top_set X.here.top, K.1.1, K.1.2.1, hd, e']
  exact a
theorem gg_istore {p : Program} {l : Launch} {e : Env} {R : Room} {s : State} {m : MethodId} {args : Array Value} {below : List Frame} {meth : Method} {c : Code} {D : va_G} {A : Nat → Prop} {tys : List (ClassId × FieldType)} {cc : ByteArray} {own : String} {n cells slots pc : Nat} {Q : State → Prop} {ws : va_W} {L : List (Nat × Value)} {st : List Value} {i : Nat} {x : Int32} (K : kx p s m args meth c D A tys cc own n) (hd : decode cc pc = .ok (.istore i, 2)) (hn : i < n) (k : gg p l e R s m args below meth c D A n cells slots Q ws (pc + 2) ((i, .int x) :: L) st) : gg p l e R s m args below meth c D A n cells slots Q ws pc L (.int x :: st) := by
  intro H locs ls hP hD hS hl T hT X
  obtain ⟨ls', e', h'⟩ := lvk_store (v := .int x) hl hn rfl
  obtain ⟨t, a, b⟩ := k H locs ls' hP hD hS h' T hT X
  refine ⟨t, ?_, b⟩
  jvm_step X.here [X.here.top, ↓top_set X.here.top, K.1.1, K.1.2.1, hd, e']
  exact a
theorem gg_astore_n {p : Program} {l : Launch} {e : Env} {R : Room} {s : State} {m : MethodId} {args : Array Value} {below : List Frame} {meth : Method} {c : Code} {D : va_G} {A : Nat → Prop} {tys : List (ClassId × FieldType)} {cc : ByteArray} {own : String} {n cells slots pc : Nat} {Q : State → Prop} {ws : va_W} {L : List (Nat × Value)} {st : List Value} {j : Fin 4} {i : Nat} {x : Nat} (K : kx p s m args meth c D A tys cc own n) (hd : decode cc pc = .ok (.astore_n j, 1)) (hi : (j : Nat) = i) (hn : i < n) (k : gg p l e R s m args below meth c D A n cells slots Q ws (pc + 1) ((i, .ref x) :: L) st) : gg p l e R s m args below meth c D A n cells slots Q ws pc L (.ref x :: st) := by
  intro H locs ls hP hD hS hl T hT X
  subst hi
  obtain ⟨ls', e', h'⟩ := lvk_store (v := .ref x) hl hn rfl
  obtain ⟨t, a, b⟩ := k H locs ls' hP hD hS h' T hT X
  refine ⟨t, ?_, b⟩
  jvm_step X.here [X.here.top, ↓top_set X.here.top, K.1.1, K.1.2.1, hd, e', Value.isRef]
  exact a
theorem gg_astore {p : Program} {l : Launch} {e : Env} {R : Room} {s : State} {m : MethodId} {args : Array Value} {below : List Frame} {meth : Method} {c : Code} {D : va_G} {A : Nat → Prop} {tys : List (ClassId × FieldType)} {cc : ByteArray} {own : String} {n cells slots pc : Nat} {Q : State → Prop} {ws : va_W} {L : List (Nat × Value)} {st : List Value} {i : Nat} {x : Nat} (K : kx p s m args meth c D A tys cc own n) (hd : decode cc pc = .ok (.astore i, 2)) (hn : i < n) (k : gg p l e R s m args below meth c D A n cells slots Q ws (pc + 2) ((i, .ref x) :: L) st) : gg p l e R s m args below meth c D A n cells slots Q ws pc L (.ref x :: st) := by
  intro H locs ls hP hD hS hl T hT X
  obtain ⟨ls', e', h'⟩ := lvk_store (v := .ref x) hl hn rfl
  obtain ⟨t, a, b⟩ := k H locs ls' hP hD hS h' T hT X
  refine ⟨t, ?_, b⟩
  jvm_step X.here [X.here.top, ↓top_set X.here.top, K.1.1, K.1.2.1, hd, e', Value.isRef]
  exact a
theorem gg_fstore_n {p : Program} {l : Launch} {e : Env} {R : Room} {s : State} {m : MethodId} {args : Array Value} {below : List Frame} {meth : Method} {c : Code} {D : va_G} {A : Nat → Prop} {tys : List (ClassId × FieldType)} {cc : ByteArray} {own : String} {n cells slots pc : Nat} {Q : State → Prop} {ws : va_W} {L : List (Nat × Value)} {st : List Value} {j : Fin 4} {i : Nat} {x : UInt32} (K : kx p s m args meth c D A tys cc own n) (hd : decode cc pc = .ok (.fstore_n j, 1)) (hi : (j : Nat) = i) (hn : i < n) (k : gg p l e R s m args below meth c D A n cells slots Q ws (pc + 1) ((i, .float x) :: L) st) : gg p l e R s m args below meth c D A n cells slots Q ws pc L (.float x :: st) := by
  intro H locs ls hP hD hS hl T hT X
  subst hi
  obtain ⟨ls', e', h'⟩ := lvk_store (v := .float x) hl hn rfl
  obtain ⟨t, a, b⟩ := k H locs ls' hP hD hS h' T hT X
  refine ⟨t, ?_, b⟩
  jvm_step X.here [X.here.top, ↓top_set X.here.top, K.1.1, K.1.2.1, hd, e']
  exact a
theorem gg_fstore {p : Program} {l : Launch} {e : Env} {R : Room} {s : State} {m : MethodId} {args : Array Value} {below : List Frame} {meth : Method} {c : Code} {D : va_G} {A : Nat → Prop} {tys : List (ClassId × FieldType)} {cc : ByteArray} {own : String} {n cells slots pc : Nat} {Q : State → Prop} {ws : va_W} {L : List (Nat × Value)} {st : List Value} {i : Nat} {x : UInt32} (K : kx p s m args meth c D A tys cc own n) (hd : decode cc pc = .ok (.fstore i, 2)) (hn : i < n) (k : gg p l e R s m args below meth c D A n cells slots Q ws (pc + 2) ((i, .float x) :: L) st) : gg p l e R s m args below meth c D A n cells slots Q ws pc L (.float x :: st) := by
  intro H locs ls hP hD hS hl T hT X
  obtain ⟨ls', e', h'⟩ := lvk_store (v := .float x) hl hn rfl
  obtain ⟨t, a, b⟩ := k H locs ls' hP hD hS h' T hT X
  refine ⟨t, ?_, b⟩
  jvm_step X.here [X.here.top, ↓top_set X.here.top, K.1.1, K.1.2.1, hd, e']
  exact a
theorem gg_iinc {p : Program} {l : Launch} {e : Env} {R : Room} {s : State} {m : MethodId} {args : Array Value} {below : List Frame} {meth : Method} {c : Code} {D : va_G} {A : Nat → Prop} {tys : List (ClassId × FieldType)} {cc : ByteArray} {own : String} {n cells slots pc : Nat} {Q : State → Prop} {ws : va_W} {L : List (Nat × Value)} {st : List Value} {i : Nat} {z : Int} {x v : Int32} (K : kx p s m args meth c D A tys cc own n) (hd : decode cc pc = .ok (.iinc i z, 3)) (hx : lk L i = some (.int x)) (hv : x + Int32.ofInt z = v) (hn : i < n) (k : gg p l e R s m args below meth c D A n cells slots Q ws (pc + 3) ((i, .int v) :: L) st) : gg p l e R s m args below meth c D A n cells slots Q ws pc L st := by
  intro H locs ls hP hD hS hl T hT X
  subst hv
  have hg := (hl.2.2 _ _ hx).2
  obtain ⟨ls', e', h'⟩ := lvk_store (v := .int (x + Int32.ofInt z)) hl hn rfl
  obtain ⟨t, a, b⟩ := k H locs ls' hP hD hS h' T hT X
  refine ⟨t, ?_, b⟩
  jvm_step X.here [X.here.top, ↓top_set X.here.top, K.1.1, K.1.2.1, hd, hg, e']
  exact a
theorem gg_iadd {p : Program} {l : Launch} {e : Env} {R : Room} {s : State} {m : MethodId} {args : Array Value} {below : List Frame} {meth : Method} {c : Code} {D : va_G} {A : Nat → Prop} {tys : List (ClassId × FieldType)} {cc : ByteArray} {own : String} {n cells slots pc : Nat} {Q : State → Prop} {ws : va_W} {L : List (Nat × Value)} {st : List Value} {x y : Int32} (K : kx p s m args meth c D A tys cc own n) (hd : decode cc pc = .ok (.iadd, 1))  (k : gg p l e R s m args below meth c D A n cells slots Q ws (pc + 1) L (.int (x + y) :: st)) : gg p l e R s m args below meth c D A n cells slots Q ws pc L (.int y :: .int x :: st) := fun H locs ls hP hD hS hl => lv_iadd K.1.1 K.1.2.1 hd  (k H locs ls hP hD hS hl)
theorem gg_isub {p : Program} {l : Launch} {e : Env} {R : Room} {s : State} {m : MethodId} {args : Array Value} {below : List Frame} {meth : Method} {c : Code} {D : va_G} {A : Nat → Prop} {tys : List (ClassId × FieldType)} {cc : ByteArray} {own : String} {n cells slots pc : Nat} {Q : State → Prop} {ws : va_W} {L : List (Nat × Value)} {st : List Value} {x y : Int32} (K : kx p s m args meth c D A tys cc own n) (hd : decode cc pc = .ok (.isub, 1))  (k : gg p l e R s m args below meth c D A n cells slots Q ws (pc + 1) L (.int (x - y) :: st)) : gg p l e R s m args below meth c D A n cells slots Q ws pc L (.int y :: .int x :: st) := fun H locs ls hP hD hS hl => lv_isub K.1.1 K.1.2.1 hd  (k H locs ls hP hD hS hl)
theorem gg_imul {p : Program} {l : Launch} {e : Env} {R : Room} {s : State} {m : MethodId} {args : Array Value} {below : List Frame} {meth : Method} {c : Code} {D : va_G} {A : Nat → Prop} {tys : List (ClassId × FieldType)} {cc : ByteArray} {own : String} {n cells slots pc : Nat} {Q : State → Prop} {ws : va_W} {L : List (Nat × Value)} {st : List Value} {x y : Int32} (K : kx p s m args meth c D A tys cc own n) (hd : decode cc pc = .ok (.imul, 1))  (k : gg p l e R s m args below meth c D A n cells slots Q ws (pc + 1) L (.int (x * y) :: st)) : gg p l e R s m args below meth c D A n cells slots Q ws pc L (.int y :: .int x :: st) := fun H locs ls hP hD hS hl => lv_imul K.1.1 K.1.2.1 hd  (k H locs ls hP hD hS hl)
theorem gg_iand {p : Program} {l : Launch} {e : Env} {R : Room} {s : State} {m : MethodId} {args : Array Value} {below : List Frame} {meth : Method} {c : Code} {D : va_G} {A : Nat → Prop} {tys : List (ClassId × FieldType)} {cc : ByteArray} {own : String} {n cells slots pc : Nat} {Q : State → Prop} {ws : va_W} {L : List (Nat × Value)} {st : List Value} {x y : Int32} (K : kx p s m args meth c D A tys cc own n) (hd : decode cc pc = .ok (.iand, 1))  (k : gg p l e R s m args below meth c D A n cells slots Q ws (pc + 1) L (.int (x &&& y) :: st)) : gg p l e R s m args below meth c D A n cells slots Q ws pc L (.int y :: .int x :: st) := fun H locs ls hP hD hS hl => lv_iand K.1.1 K.1.2.1 hd  (k H locs ls hP hD hS hl)
theorem gg_ior {p : Program} {l : Launch} {e : Env} {R : Room} {s : State} {m : MethodId} {args : Array Value} {below : List Frame} {meth : Method} {c : Code} {D : va_G} {A : Nat → Prop} {tys : List (ClassId × FieldType)} {cc : ByteArray} {own : String} {n cells slots pc : Nat} {Q : State → Prop} {ws : va_W} {L : List (Nat × Value)} {st : List Value} {x y : Int32} (K : kx p s m args meth c D A tys cc own n) (hd : decode cc pc = .ok (.ior, 1))  (k : gg p l e R s m args below meth c D A n cells slots Q ws (pc + 1) L (.int (x ||| y) :: st)) : gg p l e R s m args below meth c D A n cells slots Q ws pc L (.int y :: .int x :: st) := fun H locs ls hP hD hS hl => lv_ior K.1.1 K.1.2.1 hd  (k H locs ls hP hD hS hl)
theorem gg_ixor {p : Program} {l : Launch} {e : Env} {R : Room} {s : State} {m : MethodId} {args : Array Value} {below : List Frame} {meth : Method} {c : Code} {D : va_G} {A : Nat → Prop} {tys : List (ClassId × FieldType)} {cc : ByteArray} {own : String} {n cells slots pc : Nat} {Q : State → Prop} {ws : va_W} {L : List (Nat × Value)} {st : List Value} {x y : Int32} (K : kx p s m args meth c D A tys cc own n) (hd : decode cc pc = .ok (.ixor, 1))  (k : gg p l e R s m args below meth c D A n cells slots Q ws (pc + 1) L (.int (x ^^^ y) :: st)) : gg p l e R s m args below meth c D A n cells slots Q ws pc L (.int y :: .int x :: st) := fun H locs ls hP hD hS hl => lv_ixor K.1.1 K.1.2.1 hd  (k H locs ls hP hD hS hl)
theorem gg_ishl {p : Program} {l : Launch} {e : Env} {R : Room} {s : State} {m : MethodId} {args : Array Value} {below : List Frame} {meth : Method} {c : Code} {D : va_G} {A : Nat → Prop} {tys : List (ClassId × FieldType)} {cc : ByteArray} {own : String} {n cells slots pc : Nat} {Q : State → Prop} {ws : va_W} {L : List (Nat × Value)} {st : List Value} {x y : Int32} (K : kx p s m args meth c D A tys cc own n) (hd : decode cc pc = .ok (.ishl, 1))  (k : gg p l e R s m args below meth c D A n cells slots Q ws (pc + 1) L (.int (x <<< (y &&& 31)) :: st)) : gg p l e R s m args below meth c D A n cells slots Q ws pc L (.int y :: .int x :: st) := fun H locs ls hP hD hS hl => lv_ishl K.1.1 K.1.2.1 hd  (k H locs ls hP hD hS hl)
theorem gg_idiv {p : Program} {l : Launch} {e : Env} {R : Room} {s : State} {m : MethodId} {args : Array Value} {below : List Frame} {meth : Method} {c : Code} {D : va_G} {A : Nat → Prop} {tys : List (ClassId × FieldType)} {cc : ByteArray} {own : String} {n cells slots pc : Nat} {Q : State → Prop} {ws : va_W} {L : List (Nat × Value)} {st : List Value} {x y : Int32} (K : kx p s m args meth c D A tys cc own n) (hd : decode cc pc = .ok (.idiv, 1)) (hne : ¬ y = 0) (k : gg p l e R s m args below meth c D A n cells slots Q ws (pc + 1) L (.int (x / y) :: st)) : gg p l e R s m args below meth c D A n cells slots Q ws pc L (.int y :: .int x :: st) := fun H locs ls hP hD hS hl => lv_idiv K.1.1 K.1.2.1 hd hne (k H locs ls hP hD hS hl)
theorem gg_irem {p : Program} {l : Launch} {e : Env} {R : Room} {s : State} {m : MethodId} {args : Array Value} {below : List Frame} {meth : Method} {c : Code} {D : va_G} {A : Nat → Prop} {tys : List (ClassId × FieldType)} {cc : ByteArray} {own : String} {n cells slots pc : Nat} {Q : State → Prop} {ws : va_W} {L : List (Nat × Value)} {st : List Value} {x y : Int32} (K : kx p s m args meth c D A tys cc own n) (hd : decode cc pc = .ok (.irem, 1)) (hne : ¬ y = 0) (k : gg p l e R s m args below meth c D A n cells slots Q ws (pc + 1) L (.int (x - x / y * y) :: st)) : gg p l e R s m args below meth c D A n cells slots Q ws pc L (.int y :: .int x :: st) := fun H locs ls hP hD hS hl => lv_irem K.1.1 K.1.2.1 hd hne (k H locs ls hP hD hS hl)
theorem gg_i2l {p : Program} {l : Launch} {e : Env} {R : Room} {s : State} {m : MethodId} {args : Array Value} {below : List Frame} {meth : Method} {c : Code} {D : va_G} {A : Nat → Prop} {tys : List (ClassId × FieldType)} {cc : ByteArray} {own : String} {n cells slots pc : Nat} {Q : State → Prop} {ws : va_W} {L : List (Nat × Value)} {st : List Value} {x : Int32} (K : kx p s m args meth c D A tys cc own n) (hd : decode cc pc = .ok (.i2l, 1))  (k : gg p l e R s m args below meth c D A n cells slots Q ws (pc + 1) L (.long x.toInt64 :: st)) : gg p l e R s m args below meth c D A n cells slots Q ws pc L (.int x :: st) := fun H locs ls hP hD hS hl => lv_i2l K.1.1 K.1.2.1 hd rfl (k H locs ls hP hD hS hl)
theorem gg_i2f {p : Program} {l : Launch} {e : Env} {R : Room} {s : State} {m : MethodId} {args : Array Value} {below : List Frame} {meth : Method} {c : Code} {D : va_G} {A : Nat → Prop} {tys : List (ClassId × FieldType)} {cc : ByteArray} {own : String} {n cells slots pc : Nat} {Q : State → Prop} {ws : va_W} {L : List (Nat × Value)} {st : List Value} {x : Int32} (K : kx p s m args meth c D A tys cc own n) (hd : decode cc pc = .ok (.i2f, 1))  (k : gg p l e R s m args below meth c D A n cells slots Q ws (pc + 1) L (.float (FP.i2f x) :: st)) : gg p l e R s m args below meth c D A n cells slots Q ws pc L (.int x :: st) := fun H locs ls hP hD hS hl => lv_i2f K.1.1 K.1.2.1 hd  (k H locs ls hP hD hS hl)
theorem gg_fdiv {p : Program} {l : Launch} {e : Env} {R : Room} {s : State} {m : MethodId} {args : Array Value} {below : List Frame} {meth : Method} {c : Code} {D : va_G} {A : Nat → Prop} {tys : List (ClassId × FieldType)} {cc : ByteArray} {own : String} {n cells slots pc : Nat} {Q : State → Prop} {ws : va_W} {L : List (Nat × Value)} {st : List Value} {x y : UInt32} (K : kx p s m args meth c D A tys cc own n) (hd : decode cc pc = .ok (.fdiv, 1)) (hne : vf_n32 (FP.fdiv x y)) (k : gg p l e R s m args below meth c D A n cells slots Q ws (pc + 1) L (.float (FP.fdiv x y) :: st)) : gg p l e R s m args below meth c D A n cells slots Q ws pc L (.float y :: .float x :: st) := fun H locs ls hP hD hS hl => lv_fdiv K.1.1 K.1.2.1 hd hne (k H locs ls hP hD hS hl)
theorem gg_f2d {p : Program} {l : Launch} {e : Env} {R : Room} {s : State} {m : MethodId} {args : Array Value} {below : List Frame} {meth : Method} {c : Code} {D : va_G} {A : Nat → Prop} {tys : List (ClassId × FieldType)} {cc : ByteArray} {own : String} {n cells slots pc : Nat} {Q : State → Prop} {ws : va_W} {L : List (Nat × Value)} {st : List Value} {x : UInt32} (K : kx p s m args meth c D A tys cc own n) (hd : decode cc pc = .ok (.f2d, 1)) (hne : vf_n64 (FP.f2d x)) (k : gg p l e R s m args below meth c D A n cells slots Q ws (pc + 1) L (.double (FP.f2d x) :: st)) : gg p l e R s m args below meth c D A n cells slots Q ws pc L (.float x :: st) := fun H locs ls hP hD hS hl => lv_f2d K.1.1 K.1.2.1 hd hne (k H locs ls hP hD hS hl)
theorem gg_fcmp {p : Program} {l : Launch} {e : Env} {R : Room} {s : State} {m : MethodId} {args : Array Value} {below : List Frame} {meth : Method} {c : Code} {D : va_G} {A : Nat → Prop} {tys : List (ClassId × FieldType)} {cc : ByteArray} {own : String} {n cells slots pc : Nat} {Q : State → Prop} {ws : va_W} {L : List (Nat × Value)} {st : List Value} {x y : UInt32} {op : CmpOp} (K : kx p s m args meth c D A tys cc own n) (hd : decode cc pc = .ok (.fcmp op, 1))  (k : gg p l e R s m args below meth c D A n cells slots Q ws (pc + 1) L (.int (Op.cmpValue (FP.fcmp x y) op) :: st)) : gg p l e R s m args below meth c D A n cells slots Q ws pc L (.float y :: .float x :: st) := fun H locs ls hP hD hS hl => lv_fcmp K.1.1 K.1.2.1 hd  (k H locs ls hP hD hS hl)
theorem gg_dcmp {p : Program} {l : Launch} {e : Env} {R : Room} {s : State} {m : MethodId} {args : Array Value} {below : List Frame} {meth : Method} {c : Code} {D : va_G} {A : Nat → Prop} {tys : List (ClassId × FieldType)} {cc : ByteArray} {own : String} {n cells slots pc : Nat} {Q : State → Prop} {ws : va_W} {L : List (Nat × Value)} {st : List Value} {x y : UInt64} {op : CmpOp} (K : kx p s m args meth c D A tys cc own n) (hd : decode cc pc = .ok (.dcmp op, 1))  (k : gg p l e R s m args below meth c D A n cells slots Q ws (pc + 1) L (.int (Op.cmpValue (FP.dcmp x y) op) :: st)) : gg p l e R s m args below meth c D A n cells slots Q ws pc L (.double y :: .double x :: st) := fun H locs ls hP hD hS hl => lv_dcmp K.1.1 K.1.2.1 hd  (k H locs ls hP hD hS hl)
theorem gg_fconst0 {p : Program} {l : Launch} {e : Env} {R : Room} {s : State} {m : MethodId} {args : Array Value} {below : List Frame} {meth : Method} {c : Code} {D : va_G} {A : Nat → Prop} {tys : List (ClassId × FieldType)} {cc : ByteArray} {own : String} {n cells slots pc : Nat} {Q : State → Prop} {ws : va_W} {L : List (Nat × Value)} {st : List Value}  (K : kx p s m args meth c D A tys cc own n) (hd : decode cc pc = .ok (.fconst 0, 1))  (k : gg p l e R s m args below meth c D A n cells slots Q ws (pc + 1) L (.float FP.fconst0 :: st)) : gg p l e R s m args below meth c D A n cells slots Q ws pc L st := fun H locs ls hP hD hS hl => lv_fconst0 K.1.1 K.1.2.1 hd  (k H locs ls hP hD hS hl)
theorem gg_dup {p : Program} {l : Launch} {e : Env} {R : Room} {s : State} {m : MethodId} {args : Array Value} {below : List Frame} {meth : Method} {c : Code} {D : va_G} {A : Nat → Prop} {tys : List (ClassId × FieldType)} {cc : ByteArray} {own : String} {n cells slots pc : Nat} {Q : State → Prop} {ws : va_W} {L : List (Nat × Value)} {st : List Value} {v : Value} (K : kx p s m args meth c D A tys cc own n) (hd : decode cc pc = .ok (.dup, 1)) (hv : v.category = 1) (k : gg p l e R s m args below meth c D A n cells slots Q ws (pc + 1) L (v :: v :: st)) : gg p l e R s m args below meth c D A n cells slots Q ws pc L (v :: st) := fun H locs ls hP hD hS hl => lv_dup K.1.1 K.1.2.1 hd hv (k H locs ls hP hD hS hl)
theorem gg_if_eq {p : Program} {l : Launch} {e : Env} {R : Room} {s : State} {m : MethodId} {args : Array Value} {below : List Frame} {meth : Method} {c : Code} {D : va_G} {A : Nat → Prop} {tys : List (ClassId × FieldType)} {cc : ByteArray} {own : String} {n cells slots pc : Nat} {Q : State → Prop} {ws : va_W} {L : List (Nat × Value)} {st : List Value} {x : Int32} {off : Int} (K : kx p s m args meth c D A tys cc own n) {tgt : Nat} (hd : decode cc pc = .ok (.ifCond .eq off, 3)) (ht : (pc : Int) + off = (tgt : Int)) (kt : x = 0 → gg p l e R s m args below meth c D A n cells slots Q ws tgt L st) (kf : ¬ x = 0 → gg p l e R s m args below meth c D A n cells slots Q ws (pc + 3) L st) : gg p l e R s m args below meth c D A n cells slots Q ws pc L (.int x :: st) := fun H locs ls hP hD hS hl => lv_if_eq K.1.1 K.1.2.1 hd ht (fun hc => kt hc H locs ls hP hD hS hl) (fun hc => kf hc H locs ls hP hD hS hl)
theorem gg_icmp_eq {p : Program} {l : Launch} {e : Env} {R : Room} {s : State} {m : MethodId} {args : Array Value} {below : List Frame} {meth : Method} {c : Code} {D : va_G} {A : Nat → Prop} {tys : List (ClassId × FieldType)} {cc : ByteArray} {own : String} {n cells slots pc : Nat} {Q : State → Prop} {ws : va_W} {L : List (Nat × Value)} {st : List Value} {x y : Int32} {off : Int} (K : kx p s m args meth c D A tys cc own n) {tgt : Nat} (hd : decode cc pc = .ok (.if_icmp .eq off, 3)) (ht : (pc : Int) + off = (tgt : Int)) (kt : x = y → gg p l e R s m args below meth c D A n cells slots Q ws tgt L st) (kf : ¬ x = y → gg p l e R s m args below meth c D A n cells slots Q ws (pc + 3) L st) : gg p l e R s m args below meth c D A n cells slots Q ws pc L (.int y :: .int x :: st) := fun H locs ls hP hD hS hl => lv_icmp_eq K.1.1 K.1.2.1 hd ht (fun hc => kt hc H locs ls hP hD hS hl) (fun hc => kf hc H locs ls hP hD hS hl)
theorem gg_if_ne {p : Program} {l : Launch} {e : Env} {R : Room} {s : State} {m : MethodId} {args : Array Value} {below : List Frame} {meth : Method} {c : Code} {D : va_G} {A : Nat → Prop} {tys : List (ClassId × FieldType)} {cc : ByteArray} {own : String} {n cells slots pc : Nat} {Q : State → Prop} {ws : va_W} {L : List (Nat × Value)} {st : List Value} {x : Int32} {off : Int} (K : kx p s m args meth c D A tys cc own n) {tgt : Nat} (hd : decode cc pc = .ok (.ifCond .ne off, 3)) (ht : (pc : Int) + off = (tgt : Int)) (kt : ¬ x = 0 → gg p l e R s m args below meth c D A n cells slots Q ws tgt L st) (kf : x = 0 → gg p l e R s m args below meth c D A n cells slots Q ws (pc + 3) L st) : gg p l e R s m args below meth c D A n cells slots Q ws pc L (.int x :: st) := fun H locs ls hP hD hS hl => lv_if_ne K.1.1 K.1.2.1 hd ht (fun hc => kt hc H locs ls hP hD hS hl) (fun hc => kf hc H locs ls hP hD hS hl)
theorem gg_icmp_ne {p : Program} {l : Launch} {e : Env} {R : Room} {s : State} {m : MethodId} {args : Array Value} {below : List Frame} {meth : Method} {c : Code} {D : va_G} {A : Nat → Prop} {tys : List (ClassId × FieldType)} {cc : ByteArray} {own : String} {n cells slots pc : Nat} {Q : State → Prop} {ws : va_W} {L : List (Nat × Value)} {st : List Value} {x y : Int32} {off : Int} (K : kx p s m args meth c D A tys cc own n) {tgt : Nat} (hd : decode cc pc = .ok (.if_icmp .ne off, 3)) (ht : (pc : Int) + off = (tgt : Int)) (kt : ¬ x = y → gg p l e R s m args below meth c D A n cells slots Q ws tgt L st) (kf : x = y → gg p l e R s m args below meth c D A n cells slots Q ws (pc + 3) L st) : gg p l e R s m args below meth c D A n cells slots Q ws pc L (.int y :: .int x :: st) := fun H locs ls hP hD hS hl => lv_icmp_ne K.1.1 K.1.2.1 hd ht (fun hc => kt hc H locs ls hP hD hS hl) (fun hc => kf hc H locs ls hP hD hS hl)
theorem gg_if_lt {p : Program} {l : Launch} {e : Env} {R : Room} {s : State} {m : MethodId} {args : Array Value} {below : List Frame} {meth : Method} {c : Code} {D : va_G} {A : Nat → Prop} {tys : List (ClassId × FieldType)} {cc : ByteArray} {own : String} {n cells slots pc : Nat} {Q : State → Prop} {ws : va_W} {L : List (Nat × Value)} {st : List Value} {x : Int32} {off : Int} (K : kx p s m args meth c D A tys cc own n) {tgt : Nat} (hd : decode cc pc = .ok (.ifCond .lt off, 3)) (ht : (pc : Int) + off = (tgt : Int)) (kt : x < 0 → gg p l e R s m args below meth c D A n cells slots Q ws tgt L st) (kf : ¬ x < 0 → gg p l e R s m args below meth c D A n cells slots Q ws (pc + 3) L st) : gg p l e R s m args below meth c D A n cells slots Q ws pc L (.int x :: st) := fun H locs ls hP hD hS hl => lv_if_lt K.1.1 K.1.2.1 hd ht (fun hc => kt hc H locs ls hP hD hS hl) (fun hc => kf hc H locs ls hP hD hS hl)
theorem gg_icmp_lt {p : Program} {l : Launch} {e : Env} {R : Room} {s : State} {m : MethodId} {args : Array Value} {below : List Frame} {meth : Method} {c : Code} {D : va_G} {A : Nat → Prop} {tys : List (ClassId × FieldType)} {cc : ByteArray} {own : String} {n cells slots pc : Nat} {Q : State → Prop} {ws : va_W} {L : List (Nat × Value)} {st : List Value} {x y : Int32} {off : Int} (K : kx p s m args meth c D A tys cc own n) {tgt : Nat} (hd : decode cc pc = .ok (.if_icmp .lt off, 3)) (ht : (pc : Int) + off = (tgt : Int)) (kt : x < y → gg p l e R s m args below meth c D A n cells slots Q ws tgt L st) (kf : ¬ x < y → gg p l e R s m args below meth c D A n cells slots Q ws (pc + 3) L st) : gg p l e R s m args below meth c D A n cells slots Q ws pc L (.int y :: .int x :: st) := fun H locs ls hP hD hS hl => lv_icmp_lt K.1.1 K.1.2.1 hd ht (fun hc => kt hc H locs ls hP hD hS hl) (fun hc => kf hc H locs ls hP hD hS hl)
theorem gg_if_ge {p : Program} {l : Launch} {e : Env} {R : Room} {s : State} {m : MethodId} {args : Array Value} {below : List Frame} {meth : Method} {c : Code} {D : va_G} {A : Nat → Prop} {tys : List (ClassId × FieldType)} {cc : ByteArray} {own : String} {n cells slots pc : Nat} {Q : State → Prop} {ws : va_W} {L : List (Nat × Value)} {st : List Value} {x : Int32} {off : Int} (K : kx p s m args meth c D A tys cc own n) {tgt : Nat} (hd : decode cc pc = .ok (.ifCond .ge off, 3)) (ht : (pc : Int) + off = (tgt : Int)) (kt : 0 ≤ x → gg p l e R s m args below meth c D A n cells slots Q ws tgt L st) (kf : ¬ 0 ≤ x → gg p l e R s m args below meth c D A n cells slots Q ws (pc + 3) L st) : gg p l e R s m args below meth c D A n cells slots Q ws pc L (.int x :: st) := fun H locs ls hP hD hS hl => lv_if_ge K.1.1 K.1.2.1 hd ht (fun hc => kt hc H locs ls hP hD hS hl) (fun hc => kf hc H locs ls hP hD hS hl)
theorem gg_icmp_ge {p : Program} {l : Launch} {e : Env} {R : Room} {s : State} {m : MethodId} {args : Array Value} {below : List Frame} {meth : Method} {c : Code} {D : va_G} {A : Nat → Prop} {tys : List (ClassId × FieldType)} {cc : ByteArray} {own : String} {n cells slots pc : Nat} {Q : State → Prop} {ws : va_W} {L : List (Nat × Value)} {st : List Value} {x y : Int32} {off : Int} (K : kx p s m args meth c D A tys cc own n) {tgt : Nat} (hd : decode cc pc = .ok (.if_icmp .ge off, 3)) (ht : (pc : Int) + off = (tgt : Int)) (kt : y ≤ x → gg p l e R s m args below meth c D A n cells slots Q ws tgt L st) (kf : ¬ y ≤ x → gg p l e R s m args below meth c D A n cells slots Q ws (pc + 3) L st) : gg p l e R s m args below meth c D A n cells slots Q ws pc L (.int y :: .int x :: st) := fun H locs ls hP hD hS hl => lv_icmp_ge K.1.1 K.1.2.1 hd ht (fun hc => kt hc H locs ls hP hD hS hl) (fun hc => kf hc H locs ls hP hD hS hl)
theorem gg_if_gt {p : Program} {l : Launch} {e : Env} {R : Room} {s : State} {m : MethodId} {args : Array Value} {below : List Frame} {meth : Method} {c : Code} {D : va_G} {A : Nat → Prop} {tys : List (ClassId × FieldType)} {cc : ByteArray} {own : String} {n cells slots pc : Nat} {Q : State → Prop} {ws : va_W} {L : List (Nat × Value)} {st : List Value} {x : Int32} {off : Int} (K : kx p s m args meth c D A tys cc own n) {tgt : Nat} (hd : decode cc pc = .ok (.ifCond .gt off, 3)) (ht : (pc : Int) + off = (tgt : Int)) (kt : 0 < x → gg p l e R s m args below meth c D A n cells slots Q ws tgt L st) (kf : ¬ 0 < x → gg p l e R s m args below meth c D A n cells slots Q ws (pc + 3) L st) : gg p l e R s m args below meth c D A n cells slots Q ws pc L (.int x :: st) := fun H locs ls hP hD hS hl => lv_if_gt K.1.1 K.1.2.1 hd ht (fun hc => kt hc H locs ls hP hD hS hl) (fun hc => kf hc H locs ls hP hD hS hl)
theorem gg_icmp_gt {p : Program} {l : Launch} {e : Env} {R : Room} {s : State} {m : MethodId} {args : Array Value} {below : List Frame} {meth : Method} {c : Code} {D : va_G} {A : Nat → Prop} {tys : List (ClassId × FieldType)} {cc : ByteArray} {own : String} {n cells slots pc : Nat} {Q : State → Prop} {ws : va_W} {L : List (Nat × Value)} {st : List Value} {x y : Int32} {off : Int} (K : kx p s m args meth c D A tys cc own n) {tgt : Nat} (hd : decode cc pc = .ok (.if_icmp .gt off, 3)) (ht : (pc : Int) + off = (tgt : Int)) (kt : y < x → gg p l e R s m args below meth c D A n cells slots Q ws tgt L st) (kf : ¬ y < x → gg p l e R s m args below meth c D A n cells slots Q ws (pc + 3) L st) : gg p l e R s m args below meth c D A n cells slots Q ws pc L (.int y :: .int x :: st) := fun H locs ls hP hD hS hl => lv_icmp_gt K.1.1 K.1.2.1 hd ht (fun hc => kt hc H locs ls hP hD hS hl) (fun hc => kf hc H locs ls hP hD hS hl)
theorem gg_if_le {p : Program} {l : Launch} {e : Env} {R : Room} {s : State} {m : MethodId} {args : Array Value} {below : List Frame} {meth : Method} {c : Code} {D : va_G} {A : Nat → Prop} {tys : List (ClassId × FieldType)} {cc : ByteArray} {own : String} {n cells slots pc : Nat} {Q : State → Prop} {ws : va_W} {L : List (Nat × Value)} {st : List Value} {x : Int32} {off : Int} (K : kx p s m args meth c D A tys cc own n) {tgt : Nat} (hd : decode cc pc = .ok (.ifCond .le off, 3)) (ht : (pc : Int) + off = (tgt : Int)) (kt : x ≤ 0 → gg p l e R s m args below meth c D A n cells slots Q ws tgt L st) (kf : ¬ x ≤ 0 → gg p l e R s m args below meth c D A n cells slots Q ws (pc + 3) L st) : gg p l e R s m args below meth c D A n cells slots Q ws pc L (.int x :: st) := fun H locs ls hP hD hS hl => lv_if_le K.1.1 K.1.2.1 hd ht (fun hc => kt hc H locs ls hP hD hS hl) (fun hc => kf hc H locs ls hP hD hS hl)
theorem gg_icmp_le {p : Program} {l : Launch} {e : Env} {R : Room} {s : State} {m : MethodId} {args : Array Value} {below : List Frame} {meth : Method} {c : Code} {D : va_G} {A : Nat → Prop} {tys : List (ClassId × FieldType)} {cc : ByteArray} {own : String} {n cells slots pc : Nat} {Q : State → Prop} {ws : va_W} {L : List (Nat × Value)} {st : List Value} {x y : Int32} {off : Int} (K : kx p s m args meth c D A tys cc own n) {tgt : Nat} (hd : decode cc pc = .ok (.if_icmp .le off, 3)) (ht : (pc : Int) + off = (tgt : Int)) (kt : x ≤ y → gg p l e R s m args below meth c D A n cells slots Q ws tgt L st) (kf : ¬ x ≤ y → gg p l e R s m args below meth c D A n cells slots Q ws (pc + 3) L st) : gg p l e R s m args below meth c D A n cells slots Q ws pc L (.int y :: .int x :: st) := fun H locs ls hP hD hS hl => lv_icmp_le K.1.1 K.1.2.1 hd ht (fun hc => kt hc H locs ls hP hD hS hl) (fun hc => kf hc H locs ls hP hD hS hl)
theorem gg_goto {p : Program} {l : Launch} {e : Env} {R : Room} {s : State} {m : MethodId} {args : Array Value} {below : List Frame} {meth : Method} {c : Code} {D : va_G} {A : Nat → Prop} {tys : List (ClassId × FieldType)} {cc : ByteArray} {own : String} {n cells slots pc : Nat} {Q : State → Prop} {ws : va_W} {L : List (Nat × Value)} {st : List Value} {off : Int} (K : kx p s m args meth c D A tys cc own n) {tgt : Nat} (hd : decode cc pc = .ok (.goto off, 3)) (ht : (pc : Int) + off = (tgt : Int)) (k : gg p l e R s m args below meth c D A n cells slots Q ws tgt L st) : gg p l e R s m args below meth c D A n cells slots Q ws pc L st := fun H locs ls hP hD hS hl => lv_goto K.1.1 K.1.2.1 hd ht (k H locs ls hP hD hS hl)
theorem gg_sub {p : Program} {l : Launch} {e : Env} {R : Room} {s : State} {m : MethodId} {args : Array Value} {below : List Frame} {meth : Method} {c : Code} {D : va_G} {A : Nat → Prop} {n cells slots pc : Nat} {Q : State → Prop} {ws : va_W} {L : List (Nat × Value)} {st : List Value} {L' : List (Nat × Value)} (hs : lsub L L') (k : gg p l e R s m args below meth c D A n cells slots Q ws pc L' st) : gg p l e R s m args below meth c D A n cells slots Q ws pc L st := fun H locs ls hP hD hS hl => k H locs ls hP hD hS (lvk_sub hl hs)
theorem gg_top {p : Program} {l : Launch} {e : Env} {R : Room} {s : State} {m : MethodId} {args : Array Value} {below : List Frame} {meth : Method} {c : Code} {D : va_G} {A : Nat → Prop} {n cells slots pc : Nat} {Q : State → Prop} {ws : va_W} {L : List (Nat × Value)} {st : List Value} {x y : Int32} (hxy : x = y) (k : gg p l e R s m args below meth c D A n cells slots Q ws pc L (.int y :: st)) : gg p l e R s m args below meth c D A n cells slots Q ws pc L (.int x :: st) := by rw [hxy]; exact k
theorem gg_wid {p : Program} {l : Launch} {e : Env} {R : Room} {s : State} {m : MethodId} {args : Array Value} {below : List Frame} {meth : Method} {c : Code} {D : va_G} {A : Nat → Prop} {n cells slots pc : Nat} {Q : State → Prop} {ws : va_W} {L : List (Nat × Value)} {st : List Value} {k9 n9 : Nat} (h1 : cells ≤ k9) (h2 : slots ≤ n9) (k : gg p l e R s m args below meth c D A n k9 n9 Q ws pc L st) : gg p l e R s m args below meth c D A n cells slots Q ws pc L st := fun H locs ls hP hD hS hl => W.widen h1 h2 (k H locs ls hP hD hS hl)
end
section
/-! calls: contracts that return (mA) or return and throw (mX); what a throw needs (te) -/
def okV (own : String) (idx : Nat) (C : String) (y : MethodName) (c0 : Cond) (k : Nat) : Prop := GoodIn GW (wsV own idx C y (c0 :: GW)) ∧ (y.cls = C ∧ y.cls ≠ "java/lang/invoke/MethodHandle" ∧ y.cls ≠ "java/lang/invoke/VarHandle" ∧ (parseMethodDescriptor y.desc).map (fun d => d.parameters.length) = some k)
def okS (own : String) (idx : Nat) (y : MethodName) (c0 : Cond) (k : Nat) : Prop := GoodIn GW (va_wsS own idx y (c0 :: GW)) ∧ (y.cls ≠ "java/lang/invoke/MethodHandle" ∧ y.cls ≠ "java/lang/invoke/VarHandle" ∧ (parseMethodDescriptor y.desc).map (fun d => d.parameters.length) = some k)
def rOk (rm R : Room) (maxL cells slots : Nat) : Bool := Nat.ble (rm.frames + 1) R.frames && (Nat.ble (8 + (maxL + 11) + rm.locals) R.locals && (Nat.ble (cells + rm.cells) R.cells && Nat.ble (slots + rm.slots) R.slots))
theorem rOk_spec {rm R : Room} {maxL cells slots : Nat} (h : rOk rm R maxL cells slots = true) : (rm.frames + 1 ≤ R.frames ∧ 8 + (maxL + 11) + rm.locals ≤ R.locals) ∧ (cells + rm.cells ≤ R.cells ∧ slots + rm.slots ≤ R.slots) := by
  simp only [rOk, Bool.and_eq_true] at h
  exact ⟨⟨Nat.le_of_ble_eq_true h.1, Nat.le_of_ble_eq_true h.2.1⟩, Nat.le_of_ble_eq_true h.2.2.1, Nat.le_of_ble_eq_true h.2.2.2⟩
def c8 (st : List Value) : Bool := Nat.ble (st.map fun v => v.category).sum 8
theorem fm_of_map {α β : Type} {f : α → Option β} : ∀ {is : List α} {w : List β}, is.map f = w.map some → is.filterMap f = w
  | [], [], _ => rfl
  | [], _ :: _, h => by simp at h
  | _ :: _, [], h => by simp at h
  | i :: is, x :: w, h => by
    simp only [List.map_cons, List.cons.injEq] at h
    rw [List.filterMap_cons, h.1]
    simp only
    rw [fm_of_map h.2]
def strs : List (Nat × String) := [(122, "to"), (132, "no values"), (134, "out of range"), (136, "span"), (138, "record"), (153, "references"), (165, "row"), (57, "days"), (68, "the last day"), (93, "run")]
abbrev eA : String := "java/lang/IllegalArgumentException"
abbrev eS : String := "java/lang/IllegalStateException"
abbrev eB : String := "java/lang/IndexOutOfBoundsException"
def teW : List Cond := [.castable eA eA, .castable eS eS, .castable eB eB, .declares (Bundle.initS "java/lang/RuntimeException"), .declares (Bundle.initS "java/lang/Exception"), .declares (Bundle.initS Bundle.tN)]
def teN : List (String × String) := [(eA, eS), (eA, eB), (eS, eA), (eS, eB), (eB, eA), (eB, eS)]
/-- what a throw needs of the launch's statics, texts and classes -/
def te (A : Nat → Prop) (U : State) (H : Heap) : Prop := vx_Zq Bundle.tN "UNASSIGNED_STACK" Bundle.steD A U H ∧ vx_Zq Bundle.tN "SUPPRESSED_SENTINEL" Bundle.listD A U H ∧ (∀ q ∈ strs, ∃ sa : Nat, vk_R RX0 q.1 q.2 sa U) ∧ (∀ w ∈ teW, va_Nw w U) ∧ ∀ q ∈ teN, va_Nc q.1 q.2 U
theorem teW_ot : ∀ w ∈ teW, w.onTables = true := fun w hw => by
  simp only [teW, List.mem_cons, List.not_mem_nil, or_false] at hw
  rcases hw with rfl | rfl | rfl | rfl | rfl | rfl <;> rfl
theorem teW_warm {s U : State} (hW : s.WarmedH U.vm) : ∀ w ∈ teW, va_Nw w s → va_Nw w U := fun w hw h => by
  simp only [teW, List.mem_cons, List.not_mem_nil, or_false] at hw
  rcases hw with rfl | rfl | rfl | rfl | rfl | rfl <;> first | exact va_Nw.warmC hW h | exact va_Nw.warmD hW h
theorem teW_same {u U : State} (hv : u.vm = U.vm) : ∀ w ∈ teW, va_Nw w u → va_Nw w U := fun w hw h => by
  simp only [teW, List.mem_cons, List.not_mem_nil, or_false] at hw
  rcases hw with rfl | rfl | rfl | rfl | rfl | rfl <;> exact va_Nw.same rfl hv h
theorem te.go {A B : Nat → Prop} {s U : State} {H : Heap} {locs : List Loc} (h : te A s s.heap) (hW : s.WarmedH U.vm) (hS : va_S A s.heap H locs) (hAB : ∀ q, B q → A q) : te B U H :=
  ⟨((h.1.kept hS.2.1).moved hW.alike).narrow hAB, ((h.2.1.kept hS.2.1).moved hW.alike).narrow hAB, fun q hq => by obtain ⟨sa, hsa⟩ := h.2.2.1 q hq; exact ⟨sa, hsa.warm hW⟩, fun w hw => teW_warm hW w hw (h.2.2.2.1 w hw), fun q hq => va_Nc.moved hW.alike (h.2.2.2.2 q hq)⟩
theorem te.blind {A : Nat → Prop} {U : State} {H : Heap} {g : JFrame} {mk : MethodId} {a : Array Value} (h : te A U H) : te A (U.calling g mk a) H :=
  ⟨h.1.moved (u := U) (U := U.calling g mk a) (Vm.Alike.refl U.vm), h.2.1.moved (u := U) (U := U.calling g mk a) (Vm.Alike.refl U.vm), fun q hq => by obtain ⟨sa, hsa⟩ := h.2.2.1 q hq; exact ⟨sa, vk_R.same (u := U) (U := U.calling g mk a) rfl hsa⟩, fun w hw => teW_same (u := U) (U := U.calling g mk a) rfl w hw (h.2.2.2.1 w hw), fun q hq => va_Nc.moved (u := U) (U := U.calling g mk a) (Vm.Alike.refl U.vm) (h.2.2.2.2 q hq)⟩
def inX (D : va_G) (tys : List (ClassId × FieldType)) (ws : va_W) (sz : Nat) (U : State) : Prop := inW D tys ws sz U ∧ te (va_A ws sz) U U.heap
/-- a contract that returns (post) or throws (pe) -/
def mX (l : Launch) (D : va_G) (tys : List (ClassId × FieldType)) (y : MethodName) (c0 : Cond) (rm : Room) (ws : va_W) (As : List Value) (post : Option Value → va_W → Prop) (pe : String → va_W → Prop) : Prop :=
  ∀ sz : Nat, vx_Met l y (c0 :: GW) rm (va_Pc As (inX D tys ws sz)) (qA D tys (va_A ws sz) post) (xA D tys (va_A ws sz) pe) rm.cells rm.slots (va_A ws sz)
theorem inW_blind {D : va_G} {tys : List (ClassId × FieldType)} {ws : va_W} {sz : Nat} {As : List Value} : FrameBlind (va_Pc As (inW D tys ws sz)) := fun a U g mk q => by
  obtain ⟨q0, q1, qP, qK, qD⟩ := q
  exact ⟨q0, q1, qP, va_K.moved (u := U) (U := U.calling g mk a) (Vm.Alike.refl U.vm) qK, qD⟩
theorem inX_blind {D : va_G} {tys : List (ClassId × FieldType)} {ws : va_W} {sz : Nat} {As : List Value} : FrameBlind (va_Pc As (inX D tys ws sz)) := fun a U g mk q => by
  obtain ⟨q0, q1, q2⟩ := q
  exact ⟨q0, (inW_blind (As := As) a U g mk ⟨q0, q1⟩).2, q2.blind⟩
section
variable {p : Program} {l : Launch} {e : Env} {R : Room} {s : State} {m : MethodId} {args : Array Value} {below : List Frame} {meth : Method} {c : Code} {H : Heap} {locs : List Loc} {cells slots : Nat} {Q : State → Prop}
variable {pc : Nat} {ls : Array Slot} {rest st0 : List Value} {a : Array Value} {A0 A1 : Nat → Prop} {H0 : Heap} {mc ms : Nat} {free : Addr → Prop} {D : va_G} {tys : List (ClassId × FieldType)}
theorem va_callo {post : Option Value → va_W → Prop} (hr : va_Run p l e R s m args below meth c H locs cells slots mc ms (F0 m pc ls st0) rest (qA D tys A1 post a) free) (hS : va_S A0 H0 H locs) (hA : ∀ q, q < H.size → A1 q → A0 q) (hf : ∀ q, free q → A0 q)
    (kk : ∀ (v : Option Value) (u : va_W) (t : State) (H1 : Heap) (locs1 : List Loc), t.heap = H1 → s.vm.Alike t.vm → post v u → outW D tys A1 u t → H.size ≤ H1.size → (∀ q : Nat, q < H.size → ¬ A1 q → H1[q]? = H[q]?) → va_S A0 H0 H1 locs1 → W p l e R s m args below meth c H1 locs1 (cells + mc) (slots + ms) Q (F0 m (pc + 3) ls (v.toList ++ rest))) : W p l e R s m args below meth c H locs cells slots Q (F0 m pc ls st0) := by
  intro T hT X
  obtain ⟨v, st₀, t, T', L, h0, X', hL, e1, e2, ⟨⟨v2, u, hv, hp, hb⟩, hF⟩, st⟩ := hr T hT X
  cases hv
  obtain ⟨k1, k2, k3⟩ := vx_keep h0 e1 hS hA hf hL hF
  obtain ⟨t2, a1, b1⟩ := kk v u t T'.heap (locs ++ L) e1.symm (by rw [← e2]; exact X'.warmed.alike) hp hb k1 k2 k3 T' rfl X'
  exact ⟨t2, st t2 a1, b1⟩
theorem vx_callo {post : Option Value → va_W → Prop} {pe : String → va_W → Prop} (hr : vx_Run p l e R s m args below meth c H locs cells slots mc ms (F0 m pc ls st0) rest (qA D tys A1 post a) (xA D tys A1 pe) free) (hS : va_S A0 H0 H locs) (hA : ∀ q, q < H.size → A1 q → A0 q) (hf : ∀ q, free q → A0 q)
    (kx9 : ∀ (E : String) (ce : Cell) (q9 : Addr) (u : va_W) (t : State) (H1 : Heap) (locs1 : List Loc), t.heap = H1 → s.vm.Alike t.vm → pe E u → outW D tys A1 u t → H.size ≤ H1.size → (∀ q : Nat, q < H.size → ¬ A1 q → H1[q]? = H[q]?) → va_S A0 H0 H1 locs1 → H1[q9]? = some ce → ce.vm = .none → s.vm.findClass E = some ce.cls → vx_W p l e R s m args below meth c H1 locs1 (cells + mc) (slots + ms) Q (F0 m pc ls rest) q9)
    (kk : ∀ (v : Option Value) (u : va_W) (t : State) (H1 : Heap) (locs1 : List Loc), t.heap = H1 → s.vm.Alike t.vm → post v u → outW D tys A1 u t → H.size ≤ H1.size → (∀ q : Nat, q < H.size → ¬ A1 q → H1[q]? = H[q]?) → va_S A0 H0 H1 locs1 → W p l e R s m args below meth c H1 locs1 (cells + mc) (slots + ms) Q (F0 m (pc + 3) ls (v.toList ++ rest))) : W p l e R s m args below meth c H locs cells slots Q (F0 m pc ls st0) := by
  intro T hT X
  rcases hr T hT X with ⟨v, st₀, t, T', L, h0, X', hL, e1, e2, ⟨⟨v2, u, hv, hp, hb⟩, hF⟩, st⟩ | ⟨q, st₀, t, T', L, E, ce, h0, X', hL, e1, e2, ⟨⟨u, hp, hb⟩, hF⟩, hce, hcv, hcl, st⟩
  · cases hv
    obtain ⟨k1, k2, k3⟩ := vx_keep h0 e1 hS hA hf hL hF
    obtain ⟨t2, a1, b1⟩ := kk v u t T'.heap (locs ++ L) e1.symm (by rw [← e2]; exact X'.warmed.alike) hp hb k1 k2 k3 T' rfl X'
    exact ⟨t2, st t2 a1, b1⟩
  · obtain ⟨k1, k2, k3⟩ := vx_keep h0 e1 hS hA hf hL hF
    obtain ⟨t2, a1, b1⟩ := kx9 E ce q u t T'.heap (locs ++ L) e1.symm (by rw [← e2]; exact X'.warmed.alike) hp hb k1 k2 k3 (by rw [e1]; exact hce) hcv hcl T' rfl X'
    exact ⟨t2, st.trans a1, b1⟩
end
/-- a throw under way in this method, with the world ws -/
def gx (p : Program) (l : Launch) (e : Env) (R : Room) (s : State) (m : MethodId) (args : Array Value) (below : List Frame) (meth : Method) (c : Code) (D : va_G) (A : Nat → Prop) (n cells slots : Nat) (Q : State → Prop) (ws : va_W) (pc : Nat) (L : List (Nat × Value)) (st : List Value) (E : String) : Prop :=
  ∀ (H : Heap) (locs : List Loc) (ls : Array Slot) (ce : Cell) (q : Addr), va_P D vwCl ws H → va_D A ws → va_S A s.heap H locs → lvk ls n L → H[q]? = some ce → ce.vm = .none → s.vm.findClass E = some ce.cls → vx_W p l e R s m args below meth c H locs cells slots Q (F0 m pc ls st) q
theorem self_free {A : Nat → Prop} {ws : va_W} {H0 H : Heap} {locs : List Loc} (hD : va_D A ws) (hS : va_S A H0 H locs) (hA : ∀ q, H0.size ≤ q → A q) : ∀ q, va_A ws H.size q → A q := fun q h => h.elim (fun ⟨k, e, h⟩ => hD.2 k (q, e) h) (fun h => hA q (Nat.le_trans hS.1 h))
theorem nil_free {A : Nat → Prop} {H0 H : Heap} {locs : List Loc} (hS : va_S A H0 H locs) (hA : ∀ q, H0.size ≤ q → A q) : ∀ q, va_A [] H.size q → A q := fun q h => h.elim (fun ⟨k, e, h⟩ => by simp at h) (fun h => hA q (Nat.le_trans hS.1 h))
theorem nil_kept {D : va_G} {ws : va_W} {H H1 : Heap} (hP : va_P D vwCl ws H) (hk : ∀ q : Nat, q < H.size → ¬ va_A [] H.size q → H1[q]? = H[q]?) : va_P D vwCl ws H1 := hP.kept (fun k q h => hk q.1 (hP k q h).lt (fun z => z.elim (fun ⟨k, e, z⟩ => by simp at z) (fun z => absurd (hP k q h).lt (Nat.not_lt.mpr z))))
theorem nil_P {D : va_G} {H : Heap} : va_P D vwCl [] H := fun k q h => by simp at h
theorem nil_D {A : Nat → Prop} : va_D A [] := ⟨fun i j p q h => by simp at h, fun k q h => by simp at h⟩

theorem gg_callW {p : Program} {l : Launch} {e : Env} {R : Room} {s : State} {m : MethodId} {args : Array Value} {below : List Frame} {meth : Method} {c : Code} {D : va_G} {A : Nat → Prop} {tys : List (ClassId × FieldType)} {cc : ByteArray} {own : String} {n cells slots pc : Nat} {Q : State → Prop} {ws : va_W} {L : List (Nat × Value)} {st : List Value} {y : MethodName} {cd : ByteArray} {maxL k9 idx : Nat} {ret : Option FieldType} {rm : Room} {As rest : List Value} {post : Option Value → va_W → Prop} {b : Nat} {C : String} (K : kx p s m args meth c D A tys cc own n) (ok : okV own idx C y (.code y cd maxL ret) k9) (hM : mA l D tys y cd maxL ret rm ws (.ref b :: As) post) (q0 : Nat) {ci N : Nat} {fs : List Value} {T : u_T} (hrec : ws[q0]? = some (b, .inr (ci, fs))) (hcl : vwCl[ci]? = some (C, T, N)) (hd : decode cc pc = .ok (.invokevirtual idx, 3)) (hst : st = As.reverse ++ .ref b :: rest) (hAs : As.length = k9) (hr : rOk rm R maxL cells slots = true) (hw : c8 rest = true)
    (kk : ∀ (v : Option Value) (u : va_W), post v u → gg p l e R s m args below meth c D A n (cells + rm.cells) (slots + rm.slots) Q u (pc + 3) L (v.toList ++ rest)) : gg p l e R s m args below meth c D A n cells slots Q ws pc L st := by
  intro H locs ls hP hD hS hl
  subst hst
  have hF := self_free hD hS K.2.2.1
  refine va_callo (va_runV (As := As) (rest := rest) K.1 (hM H.size) (cwV k9 K.1.2.2.2.2 ok.1 rfl rfl rfl ok.2 (rOk_spec hr).1) ⟨inW_blind, va_recv K.2.1 hP hcl hrec, fun U hU hW => ⟨rfl, by rw [hU], by rw [hU]; exact hP, va_K.moved hW.alike K.2.1, hD.weaken (fun _ _ _ _ => trivial)⟩⟩ rfl hAs hl.1 rfl (lv_room (Nat.le_of_ble_eq_true hw)) hd (rOk_spec hr).2) hS (fun q _ h => hF q h) hF (fun v u t H1 locs1 ht hvm hp hB hz hk hS1 => ?_)
  obtain ⟨hP1, hK1, hD1⟩ := hB
  rw [ht] at hP1
  exact kk v u hp H1 locs1 ls hP1 (hD1.weaken (fun k q _ h => hF q.1 h)) hS1 hl
theorem gg_callWX {p : Program} {l : Launch} {e : Env} {R : Room} {s : State} {m : MethodId} {args : Array Value} {below : List Frame} {meth : Method} {c : Code} {D : va_G} {A : Nat → Prop} {tys : List (ClassId × FieldType)} {cc : ByteArray} {own : String} {n cells slots pc : Nat} {Q : State → Prop} {ws : va_W} {L : List (Nat × Value)} {st : List Value} {y : MethodName} {cd : ByteArray} {maxL k9 idx : Nat} {ret : Option FieldType} {rm : Room} {As rest : List Value} {post : Option Value → va_W → Prop} {pe : String → va_W → Prop} {b : Nat} {C : String} (K : kx p s m args meth c D A tys cc own n) (T9 : te A s s.heap) (ok : okV own idx C y (.code y cd maxL ret) k9) (hM : mX l D tys y (.code y cd maxL ret) rm ws (.ref b :: As) post pe) (q0 : Nat) {ci N : Nat} {fs : List Value} {T : u_T} (hrec : ws[q0]? = some (b, .inr (ci, fs))) (hcl : vwCl[ci]? = some (C, T, N)) (hd : decode cc pc = .ok (.invokevirtual idx, 3)) (hst : st = As.reverse ++ .ref b :: rest) (hAs : As.length = k9) (hr : rOk rm R maxL cells slots = true) (hw : c8 rest = true)
    (kt : ∀ (E : String) (u : va_W), pe E u → gx p l e R s m args below meth c D A n (cells + rm.cells) (slots + rm.slots) Q u pc L rest E)
    (kk : ∀ (v : Option Value) (u : va_W), post v u → gg p l e R s m args below meth c D A n (cells + rm.cells) (slots + rm.slots) Q u (pc + 3) L (v.toList ++ rest)) : gg p l e R s m args below meth c D A n cells slots Q ws pc L st := by
  intro H locs ls hP hD hS hl
  subst hst
  have hF := self_free hD hS K.2.2.1
  refine vx_callo (vx_runV (As := As) (rest := rest) K.1 (hM H.size) (cwV k9 K.1.2.2.2.2 ok.1 rfl rfl rfl ok.2 (rOk_spec hr).1) ⟨inX_blind, va_recv K.2.1 hP hcl hrec, fun U hU hW => ⟨rfl, ⟨by rw [hU], by rw [hU]; exact hP, va_K.moved hW.alike K.2.1, hD.weaken (fun _ _ _ _ => trivial)⟩, by rw [hU]; exact T9.go hW hS hF⟩⟩ rfl hAs hl.1 rfl (lv_room (Nat.le_of_ble_eq_true hw)) hd (rOk_spec hr).2) hS (fun q _ h => hF q h) hF (fun E ce q9 u t H1 locs1 ht hvm hp hB hz hk hS1 h1 h2 h3 => ?_) (fun v u t H1 locs1 ht hvm hp hB hz hk hS1 => ?_)
  · obtain ⟨hP1, hK1, hD1⟩ := hB
    rw [ht] at hP1
    exact kt E u hp H1 locs1 ls ce q9 hP1 (hD1.weaken (fun k q _ h => hF q.1 h)) hS1 hl h1 h2 h3
  · obtain ⟨hP1, hK1, hD1⟩ := hB
    rw [ht] at hP1
    exact kk v u hp H1 locs1 ls hP1 (hD1.weaken (fun k q _ h => hF q.1 h)) hS1 hl
theorem gg_callS {p : Program} {l : Launch} {e : Env} {R : Room} {s : State} {m : MethodId} {args : Array Value} {below : List Frame} {meth : Method} {c : Code} {D : va_G} {A : Nat → Prop} {tys : List (ClassId × FieldType)} {cc : ByteArray} {own : String} {n cells slots pc : Nat} {Q : State → Prop} {ws : va_W} {L : List (Nat × Value)} {st : List Value} {y : MethodName} {cd : ByteArray} {maxL k9 idx : Nat} {ret : Option FieldType} {rm : Room} {As rest : List Value} {post : Option Value → va_W → Prop} (K : kx p s m args meth c D A tys cc own n) (ok : okS own idx y (.code y cd maxL ret) k9) (hM : mA l D tys y cd maxL ret rm [] As post) (hd : decode cc pc = .ok (.invokestatic idx, 3)) (hst : st = As.reverse ++ rest) (hAs : As.length = k9) (hr : rOk rm R maxL cells slots = true) (hw : c8 rest = true)
    (kk : ∀ (v : Option Value) (u : va_W), post v u → gg p l e R s m args below meth c D A n (cells + rm.cells) (slots + rm.slots) Q ws (pc + 3) L (v.toList ++ rest)) : gg p l e R s m args below meth c D A n cells slots Q ws pc L st := by
  intro H locs ls hP hD hS hl
  subst hst
  have hF := nil_free hS K.2.2.1
  refine va_callo (va_runS (As := As) (rest := rest) K.1 (hM H.size) (va_cwS k9 K.1.2.2.2.2 ok.1 rfl rfl rfl ok.2 (rOk_spec hr).1) ⟨inW_blind, fun U hU hW => ⟨rfl, by rw [hU], nil_P, va_K.moved hW.alike K.2.1, nil_D⟩⟩ rfl hAs hl.1 rfl (lv_room (Nat.le_of_ble_eq_true hw)) hd (rOk_spec hr).2) hS (fun q _ h => hF q h) hF (fun v u t H1 locs1 ht hvm hp hB hz hk hS1 => ?_)
  exact kk v u hp H1 locs1 ls (nil_kept hP hk) hD hS1 hl
theorem gg_callSX {p : Program} {l : Launch} {e : Env} {R : Room} {s : State} {m : MethodId} {args : Array Value} {below : List Frame} {meth : Method} {c : Code} {D : va_G} {A : Nat → Prop} {tys : List (ClassId × FieldType)} {cc : ByteArray} {own : String} {n cells slots pc : Nat} {Q : State → Prop} {ws : va_W} {L : List (Nat × Value)} {st : List Value} {y : MethodName} {cd : ByteArray} {maxL k9 idx : Nat} {ret : Option FieldType} {rm : Room} {As rest : List Value} {post : Option Value → va_W → Prop} {pe : String → va_W → Prop} (K : kx p s m args meth c D A tys cc own n) (T9 : te A s s.heap) (ok : okS own idx y (.code y cd maxL ret) k9) (hM : mX l D tys y (.code y cd maxL ret) rm [] As post pe) (hd : decode cc pc = .ok (.invokestatic idx, 3)) (hst : st = As.reverse ++ rest) (hAs : As.length = k9) (hr : rOk rm R maxL cells slots = true) (hw : c8 rest = true)
    (kt : ∀ (E : String) (u : va_W), pe E u → gx p l e R s m args below meth c D A n (cells + rm.cells) (slots + rm.slots) Q ws pc L rest E)
    (kk : ∀ (v : Option Value) (u : va_W), post v u → gg p l e R s m args below meth c D A n (cells + rm.cells) (slots + rm.slots) Q ws (pc + 3) L (v.toList ++ rest)) : gg p l e R s m args below meth c D A n cells slots Q ws pc L st := by
  intro H locs ls hP hD hS hl
  subst hst
  have hF := nil_free hS K.2.2.1
  refine vx_callo (vx_runS (As := As) (rest := rest) K.1 (hM H.size) (va_cwS k9 K.1.2.2.2.2 ok.1 rfl rfl rfl ok.2 (rOk_spec hr).1) ⟨inX_blind, fun U hU hW => ⟨rfl, ⟨by rw [hU], nil_P, va_K.moved hW.alike K.2.1, nil_D⟩, by rw [hU]; exact T9.go hW hS hF⟩⟩ rfl hAs hl.1 rfl (lv_room (Nat.le_of_ble_eq_true hw)) hd (rOk_spec hr).2) hS (fun q _ h => hF q h) hF (fun E ce q9 u t H1 locs1 ht hvm hp hB hz hk hS1 h1 h2 h3 => ?_) (fun v u t H1 locs1 ht hvm hp hB hz hk hS1 => ?_)
  · exact kt E u hp H1 locs1 ls ce q9 (nil_kept hP hk) hD hS1 hl h1 h2 h3
  · exact kk v u hp H1 locs1 ls (nil_kept hP hk) hD hS1 hl
theorem gg_iret {p : Program} {l : Launch} {e : Env} {R : Room} {s : State} {m : MethodId} {args : Array Value} {below : List Frame} {meth : Method} {c : Code} {D : va_G} {A : Nat → Prop} {tys : List (ClassId × FieldType)} {cc : ByteArray} {own : String} {n cells slots pc : Nat} {ws : va_W} {L : List (Nat × Value)} {mc ms : Nat} {post : Option Value → va_W → Prop} {x : Int32} (K : kx p s m args meth c D A tys cc own n) (hr : meth.sig.returnType = some .int) (hd : decode cc pc = .ok (.ireturn, 1)) (hc : cells ≤ mc) (hs : slots ≤ ms) (hp : post (some (.int x)) ws) : gg p l e R s m args below meth c D A n cells slots (MQ below (qA D tys A post) args s mc ms A) ws pc L [.int x] :=
  fun H locs ls hP hD hS hl => W.widen hc hs (W.iret K.1.1 K.1.2.1 hr (fun t ht hW => ⟨⟨_, ws, rfl, hp, by rw [ht]; exact hP, va_K.moved hW.alike K.2.1, hD⟩, hS.F ht⟩) hS.2.2 hd (hlocks := K.2.2.2))
theorem gg_zret {p : Program} {l : Launch} {e : Env} {R : Room} {s : State} {m : MethodId} {args : Array Value} {below : List Frame} {meth : Method} {c : Code} {D : va_G} {A : Nat → Prop} {tys : List (ClassId × FieldType)} {cc : ByteArray} {own : String} {n cells slots pc : Nat} {ws : va_W} {L : List (Nat × Value)} {mc ms : Nat} {post : Option Value → va_W → Prop} {x : Int32} (K : kx p s m args meth c D A tys cc own n) (hr : meth.sig.returnType = some .boolean) (hd : decode cc pc = .ok (.ireturn, 1)) (hx : x = 0 ∨ x = 1) (hc : cells ≤ mc) (hs : slots ≤ ms) (hp : post (some (.int x)) ws) : gg p l e R s m args below meth c D A n cells slots (MQ below (qA D tys A post) args s mc ms A) ws pc L [.int x] :=
  fun H locs ls hP hD hS hl => W.widen hc hs (W.zret K.1.1 K.1.2.1 hr (by rcases hx with rfl | rfl <;> rfl) (fun t ht hW => ⟨⟨_, ws, rfl, hp, by rw [ht]; exact hP, va_K.moved hW.alike K.2.1, hD⟩, hS.F ht⟩) hS.2.2 hd (hlocks := K.2.2.2))
theorem gg_vret {p : Program} {l : Launch} {e : Env} {R : Room} {s : State} {m : MethodId} {args : Array Value} {below : List Frame} {meth : Method} {c : Code} {D : va_G} {A : Nat → Prop} {tys : List (ClassId × FieldType)} {cc : ByteArray} {own : String} {n cells slots pc : Nat} {ws : va_W} {L : List (Nat × Value)} {mc ms : Nat} {post : Option Value → va_W → Prop} (K : kx p s m args meth c D A tys cc own n) (hr : meth.sig.returnType = none) (hd : decode cc pc = .ok (.return_, 1)) (hc : cells ≤ mc) (hs : slots ≤ ms) (hp : post none ws) : gg p l e R s m args below meth c D A n cells slots (MQ below (qA D tys A post) args s mc ms A) ws pc L [] :=
  fun H locs ls hP hD hS hl => W.widen hc hs (W.vret K.1.1 K.1.2.1 hr (fun t ht hW => ⟨⟨_, ws, rfl, hp, by rw [ht]; exact hP, va_K.moved hW.alike K.2.1, hD⟩, hS.F ht⟩) hS.2.2 hd (hlocks := K.2.2.2))
theorem gg_fret {p : Program} {l : Launch} {e : Env} {R : Room} {s : State} {m : MethodId} {args : Array Value} {below : List Frame} {meth : Method} {c : Code} {D : va_G} {A : Nat → Prop} {tys : List (ClassId × FieldType)} {cc : ByteArray} {own : String} {n cells slots pc : Nat} {ws : va_W} {L : List (Nat × Value)} {mc ms : Nat} {post : Option Value → va_W → Prop} {x : UInt32} (K : kx p s m args meth c D A tys cc own n) (hr : meth.sig.returnType = some .float) (hd : decode cc pc = .ok (.freturn, 1)) (hc : cells ≤ mc) (hs : slots ≤ ms) (hp : post (some (.float x)) ws) : gg p l e R s m args below meth c D A n cells slots (MQ below (qA D tys A post) args s mc ms A) ws pc L [.float x] :=
  fun H locs ls hP hD hS hl => W.widen hc hs (W.fret K.1.1 K.1.2.1 hr (fun t ht hW => ⟨⟨_, ws, rfl, hp, by rw [ht]; exact hP, va_K.moved hW.alike K.2.1, hD⟩, hS.F ht⟩) hS.2.2 hd (hlocks := K.2.2.2))
theorem gg_x {p : Program} {l : Launch} {e : Env} {R : Room} {s : State} {m : MethodId} {args : Array Value} {below : List Frame} {meth : Method} {c : Code} {D : va_G} {A : Nat → Prop} {tys : List (ClassId × FieldType)} {n cells slots pc : Nat} {ws : va_W} {L : List (Nat × Value)} {st : List Value} {mc ms : Nat} {post : Option Value → va_W → Prop} {pe : String → va_W → Prop} (k : gg p l e R s m args below meth c D A n cells slots (MQ below (qA D tys A post) args s mc ms A) ws pc L st) : gg p l e R s m args below meth c D A n cells slots (vx_MQ below (qA D tys A post) (xA D tys A pe) args s mc ms A) ws pc L st := fun H locs ls hP hD hS hl => vx_ret (k H locs ls hP hD hS hl)
theorem gx_out {p : Program} {l : Launch} {e : Env} {R : Room} {s : State} {m : MethodId} {args : Array Value} {below : List Frame} {meth : Method} {c : Code} {D : va_G} {A : Nat → Prop} {tys : List (ClassId × FieldType)} {cc : ByteArray} {own : String} {n cells slots pc : Nat} {ws : va_W} {L : List (Nat × Value)} {st : List Value} {mc ms : Nat} {post : Option Value → va_W → Prop} {pe : String → va_W → Prop} {E : String} (K : kx p s m args meth c D A tys cc own n) (htab : ∀ x ∈ c.exceptionTable.toList, False) (hc : cells ≤ mc) (hs : slots ≤ ms) (hp : pe E ws) : gx p l e R s m args below meth c D A n cells slots (vx_MQ below (qA D tys A post) (xA D tys A pe) args s mc ms A) ws pc L st E :=
  fun H locs ls ce q hP hD hS hl h1 h2 h3 => vx_out (fun x hx => (htab x hx).elim) K.2.2.2 h1 h2 h3 (fun t ht hvm => ⟨⟨ws, hp, by rw [ht]; exact hP, va_K.moved hvm K.2.1, hD⟩, hS.F ht⟩) hS.2.2 hc hs
theorem thr_good_eA : ∀ w ∈ Cond.classLink RX0 55 eA :: Cond.initialized eA :: vx_atS RX0 59 eA ["java/lang/RuntimeException", "java/lang/Exception"], vx_ot w = true := by decide +kernel
theorem thr_rest_eA : ∀ w ∈ (vx_atS RX0 59 eA ["java/lang/RuntimeException", "java/lang/Exception"]).filter (fun w => !goodWord w), w ∈ teW := by decide +kernel
theorem thr_in_eA : ∀ w ∈ (vx_atS RX0 59 eA ["java/lang/RuntimeException", "java/lang/Exception"]).filter goodWord, w ∈ GW := fun w h => gw_of (wsL_law_x0 w h) (List.mem_filter.mp h).2
theorem thr_cl_eA : Cond.classLink RX0 55 eA ∈ GW := by decide +kernel
theorem thr_ini_eA : Cond.initialized eA ∈ GW := by decide +kernel
theorem gg_throw_eA {p : Program} {l : Launch} {e : Env} {R : Room} {s : State} {m : MethodId} {args : Array Value} {below : List Frame} {meth : Method} {c : Code} {D : va_G} {A : Nat → Prop} {tys : List (ClassId × FieldType)} {cc : ByteArray} {n cells slots pc : Nat} {ws : va_W} {L : List (Nat × Value)} {st : List Value} {mc ms : Nat} {post : Option Value → va_W → Prop} {pe : String → va_W → Prop} {is : Nat} {text : String} (K : kx p s m args meth c D A tys cc RX0 n) (T9 : te A s s.heap) (hl0 : l.stackTraces = false) (htab : ∀ x ∈ c.exceptionTable.toList, False) (hstr : (is, text) ∈ strs) (d0 : decode cc pc = .ok (.new 55, 3)) (d3 : decode cc (pc + 3) = .ok (.dup, 1)) (d4 : decode cc (pc + 4) = .ok (.ldc is, 2)) (d6 : decode cc (pc + 6) = .ok (.invokespecial 59, 3)) (d9 : decode cc (pc + 9) = .ok (.athrow, 1)) (hR : (Nat.ble 6 R.frames && (Nat.ble 90 R.locals && (Nat.ble (cells + 1) R.cells && Nat.ble (slots + 6) R.slots))) = true) (hw : c8 st = true) (hc : cells + 1 ≤ mc) (hs : slots + 6 ≤ ms) (hp : pe eA ws) : gg p l e R s m args below meth c D A n cells slots (vx_MQ below (qA D tys A post) (xA D tys A pe) args s mc ms A) ws pc L st := by
  intro H locs ls hP hD hS hl
  simp only [Bool.and_eq_true] at hR
  obtain ⟨r1, r2, r3, r4⟩ := hR
  have r1 := Nat.le_of_ble_eq_true r1
  have r2 := Nat.le_of_ble_eq_true r2
  have r3 := Nat.le_of_ble_eq_true r3
  have r4 := Nat.le_of_ble_eq_true r4
  have hw := Nat.le_of_ble_eq_true hw
  obtain ⟨sa, hsa⟩ := T9.2.2.1 _ hstr
  refine vx_throwS K.1.1 K.1.2.1 hl0 (names := ["java/lang/RuntimeException", "java/lang/Exception"]) (ik := 55) (ic := 59) (A := A) K.1.2.2.2.1 (by decide +kernel) (by decide +kernel) (K.1.2.2.2.2 _ thr_cl_eA) (K.1.2.2.2.2 _ thr_ini_eA) hsa (vx_hat (fun w h => K.1.2.2.2.2 _ (thr_in_eA w h)) thr_rest_eA (fun w h => va_Nw.use (teW_ot w h) (T9.2.2.2.1 w h))) thr_good_eA T9.1 T9.2.1 hS (hl.1.trans K.1.2.2.1.symm) d0 d3 d4 d6 d9 (fun x hx => (htab x hx).elim) (by show 2 + 3 < R.frames; omega) (by show (st.map fun v => v.category).sum + (13 * (2 + 1) + 43) ≤ R.locals; omega) r3 r4 K.2.2.2 (fun t hvm hz hk => ⟨⟨ws, hp, hP.kept (fun k q h => hk q.1 (hP k q h).lt), va_K.moved hvm K.2.1, hD⟩, Nat.le_trans hS.1 hz, fun q h1 h2 => (hk q (Nat.lt_of_lt_of_le h1 hS.1)).trans (hS.2.1 q h1 h2)⟩) hS.2.2 hc hs
theorem thr_good_eS : ∀ w ∈ Cond.classLink RX0 66 eS :: Cond.initialized eS :: vx_atS RX0 70 eS ["java/lang/RuntimeException", "java/lang/Exception"], vx_ot w = true := by decide +kernel
theorem thr_rest_eS : ∀ w ∈ (vx_atS RX0 70 eS ["java/lang/RuntimeException", "java/lang/Exception"]).filter (fun w => !goodWord w), w ∈ teW := by decide +kernel
theorem thr_in_eS : ∀ w ∈ (vx_atS RX0 70 eS ["java/lang/RuntimeException", "java/lang/Exception"]).filter goodWord, w ∈ GW := fun w h => gw_of (wsL_law_x1 w h) (List.mem_filter.mp h).2
theorem thr_cl_eS : Cond.classLink RX0 66 eS ∈ GW := by decide +kernel
theorem thr_ini_eS : Cond.initialized eS ∈ GW := by decide +kernel
theorem gg_throw_eS {p : Program} {l : Launch} {e : Env} {R : Room} {s : State} {m : MethodId} {args : Array Value} {below : List Frame} {meth : Method} {c : Code} {D : va_G} {A : Nat → Prop} {tys : List (ClassId × FieldType)} {cc : ByteArray} {n cells slots pc : Nat} {ws : va_W} {L : List (Nat × Value)} {st : List Value} {mc ms : Nat} {post : Option Value → va_W → Prop} {pe : String → va_W → Prop} {is : Nat} {text : String} (K : kx p s m args meth c D A tys cc RX0 n) (T9 : te A s s.heap) (hl0 : l.stackTraces = false) (htab : ∀ x ∈ c.exceptionTable.toList, False) (hstr : (is, text) ∈ strs) (d0 : decode cc pc = .ok (.new 66, 3)) (d3 : decode cc (pc + 3) = .ok (.dup, 1)) (d4 : decode cc (pc + 4) = .ok (.ldc is, 2)) (d6 : decode cc (pc + 6) = .ok (.invokespecial 70, 3)) (d9 : decode cc (pc + 9) = .ok (.athrow, 1)) (hR : (Nat.ble 6 R.frames && (Nat.ble 90 R.locals && (Nat.ble (cells + 1) R.cells && Nat.ble (slots + 6) R.slots))) = true) (hw : c8 st = true) (hc : cells + 1 ≤ mc) (hs : slots + 6 ≤ ms) (hp : pe eS ws) : gg p l e R s m args below meth c D A n cells slots (vx_MQ below (qA D tys A post) (xA D tys A pe) args s mc ms A) ws pc L st := by
  intro H locs ls hP hD hS hl
  simp only [Bool.and_eq_true] at hR
  obtain ⟨r1, r2, r3, r4⟩ := hR
  have r1 := Nat.le_of_ble_eq_true r1
  have r2 := Nat.le_of_ble_eq_true r2
  have r3 := Nat.le_of_ble_eq_true r3
  have r4 := Nat.le_of_ble_eq_true r4
  have hw := Nat.le_of_ble_eq_true hw
  obtain ⟨sa, hsa⟩ := T9.2.2.1 _ hstr
  refine vx_throwS K.1.1 K.1.2.1 hl0 (names := ["java/lang/RuntimeException", "java/lang/Exception"]) (ik := 66) (ic := 70) (A := A) K.1.2.2.2.1 (by decide +kernel) (by decide +kernel) (K.1.2.2.2.2 _ thr_cl_eS) (K.1.2.2.2.2 _ thr_ini_eS) hsa (vx_hat (fun w h => K.1.2.2.2.2 _ (thr_in_eS w h)) thr_rest_eS (fun w h => va_Nw.use (teW_ot w h) (T9.2.2.2.1 w h))) thr_good_eS T9.1 T9.2.1 hS (hl.1.trans K.1.2.2.1.symm) d0 d3 d4 d6 d9 (fun x hx => (htab x hx).elim) (by show 2 + 3 < R.frames; omega) (by show (st.map fun v => v.category).sum + (13 * (2 + 1) + 43) ≤ R.locals; omega) r3 r4 K.2.2.2 (fun t hvm hz hk => ⟨⟨ws, hp, hP.kept (fun k q h => hk q.1 (hP k q h).lt), va_K.moved hvm K.2.1, hD⟩, Nat.le_trans hS.1 hz, fun q h1 h2 => (hk q (Nat.lt_of_lt_of_le h1 hS.1)).trans (hS.2.1 q h1 h2)⟩) hS.2.2 hc hs
theorem thr_good_eB : ∀ w ∈ Cond.classLink RX0 91 eB :: Cond.initialized eB :: vx_atS RX0 95 eB ["java/lang/RuntimeException", "java/lang/Exception"], vx_ot w = true := by decide +kernel
theorem thr_rest_eB : ∀ w ∈ (vx_atS RX0 95 eB ["java/lang/RuntimeException", "java/lang/Exception"]).filter (fun w => !goodWord w), w ∈ teW := by decide +kernel
theorem thr_in_eB : ∀ w ∈ (vx_atS RX0 95 eB ["java/lang/RuntimeException", "java/lang/Exception"]).filter goodWord, w ∈ GW := fun w h => gw_of (wsL_law_x2 w h) (List.mem_filter.mp h).2
theorem thr_cl_eB : Cond.classLink RX0 91 eB ∈ GW := by decide +kernel
theorem thr_ini_eB : Cond.initialized eB ∈ GW := by decide +kernel
theorem gg_throw_eB {p : Program} {l : Launch} {e : Env} {R : Room} {s : State} {m : MethodId} {args : Array Value} {below : List Frame} {meth : Method} {c : Code} {D : va_G} {A : Nat → Prop} {tys : List (ClassId × FieldType)} {cc : ByteArray} {n cells slots pc : Nat} {ws : va_W} {L : List (Nat × Value)} {st : List Value} {mc ms : Nat} {post : Option Value → va_W → Prop} {pe : String → va_W → Prop} {is : Nat} {text : String} (K : kx p s m args meth c D A tys cc RX0 n) (T9 : te A s s.heap) (hl0 : l.stackTraces = false) (htab : ∀ x ∈ c.exceptionTable.toList, False) (hstr : (is, text) ∈ strs) (d0 : decode cc pc = .ok (.new 91, 3)) (d3 : decode cc (pc + 3) = .ok (.dup, 1)) (d4 : decode cc (pc + 4) = .ok (.ldc is, 2)) (d6 : decode cc (pc + 6) = .ok (.invokespecial 95, 3)) (d9 : decode cc (pc + 9) = .ok (.athrow, 1)) (hR : (Nat.ble 6 R.frames && (Nat.ble 90 R.locals && (Nat.ble (cells + 1) R.cells && Nat.ble (slots + 6) R.slots))) = true) (hw : c8 st = true) (hc : cells + 1 ≤ mc) (hs : slots + 6 ≤ ms) (hp : pe eB ws) : gg p l e R s m args below meth c D A n cells slots (vx_MQ below (qA D tys A post) (xA D tys A pe) args s mc ms A) ws pc L st := by
  intro H locs ls hP hD hS hl
  simp only [Bool.and_eq_true] at hR
  obtain ⟨r1, r2, r3, r4⟩ := hR
  have r1 := Nat.le_of_ble_eq_true r1
  have r2 := Nat.le_of_ble_eq_true r2
  have r3 := Nat.le_of_ble_eq_true r3
  have r4 := Nat.le_of_ble_eq_true r4
  have hw := Nat.le_of_ble_eq_true hw
  obtain ⟨sa, hsa⟩ := T9.2.2.1 _ hstr
  refine vx_throwS K.1.1 K.1.2.1 hl0 (names := ["java/lang/RuntimeException", "java/lang/Exception"]) (ik := 91) (ic := 95) (A := A) K.1.2.2.2.1 (by decide +kernel) (by decide +kernel) (K.1.2.2.2.2 _ thr_cl_eB) (K.1.2.2.2.2 _ thr_ini_eB) hsa (vx_hat (fun w h => K.1.2.2.2.2 _ (thr_in_eB w h)) thr_rest_eB (fun w h => va_Nw.use (teW_ot w h) (T9.2.2.2.1 w h))) thr_good_eB T9.1 T9.2.1 hS (hl.1.trans K.1.2.2.1.symm) d0 d3 d4 d6 d9 (fun x hx => (htab x hx).elim) (by show 2 + 3 < R.frames; omega) (by show (st.map fun v => v.category).sum + (13 * (2 + 1) + 43) ≤ R.locals; omega) r3 r4 K.2.2.2 (fun t hvm hz hk => ⟨⟨ws, hp, hP.kept (fun k q h => hk q.1 (hP k q h).lt), va_K.moved hvm K.2.1, hD⟩, Nat.le_trans hS.1 hz, fun q h1 h2 => (hk q (Nat.lt_of_lt_of_le h1 hS.1)).trans (hS.2.1 q h1 h2)⟩) hS.2.2 hc hs
theorem mA_intro {l : Launch} {D : va_G} {tys : List (ClassId × FieldType)} {y : MethodName} {cd : ByteArray} {maxL : Nat} {ret : Option FieldType} {rm : Room} {ws : va_W} {As : List Value} {post : Option Value → va_W → Prop} {own : String} (L0 : List (Nat × Value)) (hy : plainName y.cls = true) (hcls : y.cls = own) (hlen : Nat.ble (lg_sl As).length maxL = true) (hL : lv_args 0 As = L0) (hc : L0.all (fun q => q.2.category == 1) = true)
    (body : ∀ (p : Program) (e : Env) (s : State) (m : MethodId) (args : Array Value) (below : List Frame) (meth : Method) (c : Code) (A : Nat → Prop), kx p s m args meth c D A tys cd own maxL → meth.sig.returnType = ret → (y.name = "<init>" → meth.name = "<init>") → gg p l e rm s m args below meth c D A maxL 0 0 (MQ below (qA D tys A post) args s rm.cells rm.slots A) ws 0 L0 []) : mA l D tys y cd maxL ret rm ws As post := by
  intro sz
  refine Met.ofW (cc := cd) (maxL := maxL) (ret := ret) hy rfl ?_
  intro p e s m args below meth c s₁ B hml hv
  obtain ⟨rfl, hsz, hP, hK, hD0⟩ := hv
  subst hsz
  have hts := atoms_spec (ws := .code y cd maxL ret :: GW) B.pre
  have hl := lv_entry As (Nat.le_of_ble_eq_true hlen)
  rw [hL] at hl
  rw [lg_entry_eq]
  exact body p e s m _ below meth c (va_A ws s.heap.size) ⟨⟨B.exec, B.bytes, hml, by rw [← hcls]; exact findClass_of_methodNamed B.named, fun w hw => hts w (List.mem_cons_of_mem _ hw)⟩, hK, fun q h => Or.inr h, B.notSynchronized⟩ B.returns (fun h => by rw [(name_of_methodNamed B.named B.method).1]; exact h) s.heap [] _ hP hD0.self va_S.rf (lvk_of hl hc)
theorem mX_intro {l : Launch} {D : va_G} {tys : List (ClassId × FieldType)} {y : MethodName} {cd : ByteArray} {maxL : Nat} {ret : Option FieldType} {rm : Room} {ws : va_W} {As : List Value} {post : Option Value → va_W → Prop} {pe : String → va_W → Prop} {own : String} (L0 : List (Nat × Value)) (hy : plainName y.cls = true) (hcls : y.cls = own) (hlen : Nat.ble (lg_sl As).length maxL = true) (hL : lv_args 0 As = L0) (hc : L0.all (fun q => q.2.category == 1) = true)
    (body : ∀ (p : Program) (e : Env) (s : State) (m : MethodId) (args : Array Value) (below : List Frame) (meth : Method) (c : Code) (A : Nat → Prop), kx p s m args meth c D A tys cd own maxL → meth.sig.returnType = ret → te A s s.heap → (∀ x ∈ c.exceptionTable.toList, False) → gg p l e rm s m args below meth c D A maxL 0 0 (vx_MQ below (qA D tys A post) (xA D tys A pe) args s rm.cells rm.slots A) ws 0 L0 []) : mX l D tys y (.code y cd maxL ret) rm ws As post pe := by
  intro sz
  refine vx_ofW (cc := cd) (maxL := maxL) (ret := ret) hy rfl ?_
  intro p e s m args below meth c s₁ B hml htab hv
  obtain ⟨rfl, ⟨hsz, hP, hK, hD0⟩, hte⟩ := hv
  subst hsz
  have hts := atoms_spec (ws := .code y cd maxL ret :: GW) B.pre
  have hl := lv_entry As (Nat.le_of_ble_eq_true hlen)
  rw [hL] at hl
  rw [lg_entry_eq]
  exact body p e s m _ below meth c (va_A ws s.heap.size) ⟨⟨B.exec, B.bytes, hml, by rw [← hcls]; exact findClass_of_methodNamed B.named, fun w hw => hts w (List.mem_cons_of_mem _ hw)⟩, hK, fun q h => Or.inr h, B.notSynchronized⟩ B.returns hte htab s.heap [] _ hP hD0.self va_S.rf (lvk_of hl hc)
end
section
/-! the worlds of the two objects; rows on their fields and arrays; calls with one answer -/
abbrev ZT : Type := va_G × ClassId × ClassId × ClassId
abbrev ty3 (Z : ZT) : List (ClassId × FieldType) := [(Z.2.1, .int), (Z.2.2.1, .long), (Z.2.2.2, .double)]
abbrev XT : Type := Nat × Nat × Nat × Nat
abbrev MT : Type := Nat × Nat
/-- a Twotimes: known, keptOn, draft, today -/
def wX (Z : ZT) (X : XT) (k kp dr : Nat → Int32) (td : Int32) : va_W := [(X.1, .inr (0, [.ref X.2.1, .ref X.2.2.1, .ref X.2.2.2, .int td])), (X.2.1, .inl (Z.2.1, 57600, .inl k)), (X.2.2.1, .inl (Z.2.1, 60, .inl kp)), (X.2.2.2, .inl (Z.2.1, 60, .inl dr))]
/-- a TwotimesModel: known, thrown, today, rowFirst, rowBegin, rowEnd -/
def wM (Z : ZT) (Y : MT) (k : Nat → Int32) (th td rf rb re : Int32) : va_W := [(Y.1, .inr (1, [.int th, .int td, .ref Y.2, .int rf, .int rb, .int re])), (Y.2, .inl (Z.2.1, 57600, .inl k))]
abbrev rmk (f lo mc ms : Nat) : Room := { frames := f, cells := mc, slots := ms, locals := lo }
def mR (l : Launch) (Z : ZT) (y : MethodName) (cd : ByteArray) (maxL : Nat) (ret : Option FieldType) (rm : Room) (ws : va_W) (As : List Value) (v : Value) : Prop := mA l Z.1 (ty3 Z) y cd maxL ret rm ws As (fun r u => r = some v ∧ u = ws)
def mS (l : Launch) (y : MethodName) (cd : ByteArray) (maxL : Nat) (ret : Option FieldType) (rm : Room) (As : List Value) (v : Value) : Prop := ∀ (D : va_G) (tys : List (ClassId × FieldType)), mA l D tys y cd maxL ret rm [] As (fun r _ => r = some v)
theorem gg_wsE {p : Program} {l : Launch} {e : Env} {R : Room} {s : State} {m : MethodId} {args : Array Value} {below : List Frame} {meth : Method} {c : Code} {D : va_G} {A : Nat → Prop} {n cells slots pc : Nat} {Q : State → Prop} {ws ws' : va_W} {L : List (Nat × Value)} {st : List Value} (h : ws = ws') (k : gg p l e R s m args below meth c D A n cells slots Q ws' pc L st) : gg p l e R s m args below meth c D A n cells slots Q ws pc L st := by rw [h]; exact k
section
variable {p : Program} {l : Launch} {e : Env} {R : Room} {s : State} {m : MethodId} {args : Array Value} {below : List Frame} {meth : Method} {c : Code} {Z : ZT} {A : Nat → Prop} {cc : ByteArray} {own : String} {n cells slots pc : Nat} {Q : State → Prop} {ws : va_W} {L : List (Nat × Value)} {st : List Value}
variable {y : MethodName} {cd : ByteArray} {maxL k9 idx : Nat} {ret : Option FieldType} {rm : Room} {As rest : List Value}
theorem gg_callRX {X : XT} {k kp dr : Nat → Int32} {td : Int32} {v : Value} (K : kx p s m args meth c Z.1 A (ty3 Z) cc own n) (ok : okV own idx RX0 y (.code y cd maxL ret) k9) (hM : mR l Z y cd maxL ret rm (wX Z X k kp dr td) (.ref X.1 :: As) v) (hd : decode cc pc = .ok (.invokevirtual idx, 3)) (hst : st = As.reverse ++ .ref X.1 :: rest) (hAs : As.length = k9) (hr : rOk rm R maxL cells slots = true) (hw : c8 rest = true) (hz : rm.cells = 0 ∧ rm.slots = 0)
    (kk : gg p l e R s m args below meth c Z.1 A n cells slots Q (wX Z X k kp dr td) (pc + 3) L (v :: rest)) : gg p l e R s m args below meth c Z.1 A n cells slots Q (wX Z X k kp dr td) pc L st :=
  gg_callW K ok hM 0 (ci := 0) (N := 4) (T := TX0) rfl rfl hd hst hAs hr hw (fun v' u h => by obtain ⟨rfl, rfl⟩ := h; rw [hz.1, hz.2]; exact kk)
theorem gg_callRM {Y : MT} {k : Nat → Int32} {th td rf rb re : Int32} {v : Value} (K : kx p s m args meth c Z.1 A (ty3 Z) cc own n) (ok : okV own idx RX1 y (.code y cd maxL ret) k9) (hM : mR l Z y cd maxL ret rm (wM Z Y k th td rf rb re) (.ref Y.1 :: As) v) (hd : decode cc pc = .ok (.invokevirtual idx, 3)) (hst : st = As.reverse ++ .ref Y.1 :: rest) (hAs : As.length = k9) (hr : rOk rm R maxL cells slots = true) (hw : c8 rest = true) (hz : rm.cells = 0 ∧ rm.slots = 0)
    (kk : gg p l e R s m args below meth c Z.1 A n cells slots Q (wM Z Y k th td rf rb re) (pc + 3) L (v :: rest)) : gg p l e R s m args below meth c Z.1 A n cells slots Q (wM Z Y k th td rf rb re) pc L st :=
  gg_callW K ok hM 0 (ci := 1) (N := 6) (T := TX1) rfl rfl hd hst hAs hr hw (fun v' u h => by obtain ⟨rfl, rfl⟩ := h; rw [hz.1, hz.2]; exact kk)
/-- .. that writes and makes nothing -/
theorem gg_callUX {X : XT} {k kp dr : Nat → Int32} {td : Int32} {post : Option Value → va_W → Prop} (K : kx p s m args meth c Z.1 A (ty3 Z) cc own n) (ok : okV own idx RX0 y (.code y cd maxL ret) k9) (hM : mA l Z.1 (ty3 Z) y cd maxL ret rm (wX Z X k kp dr td) (.ref X.1 :: As) post) (hd : decode cc pc = .ok (.invokevirtual idx, 3)) (hst : st = As.reverse ++ .ref X.1 :: rest) (hAs : As.length = k9) (hr : rOk rm R maxL cells slots = true) (hw : c8 rest = true) (hz : rm.cells = 0 ∧ rm.slots = 0)
    (kk : ∀ (v : Option Value) (u : va_W), post v u → gg p l e R s m args below meth c Z.1 A n cells slots Q u (pc + 3) L (v.toList ++ rest)) : gg p l e R s m args below meth c Z.1 A n cells slots Q (wX Z X k kp dr td) pc L st :=
  gg_callW K ok hM 0 (ci := 0) (N := 4) (T := TX0) rfl rfl hd hst hAs hr hw (fun v' u h => by rw [hz.1, hz.2]; exact kk v' u h)
theorem gg_callUM {Y : MT} {k : Nat → Int32} {th td rf rb re : Int32} {post : Option Value → va_W → Prop} (K : kx p s m args meth c Z.1 A (ty3 Z) cc own n) (ok : okV own idx RX1 y (.code y cd maxL ret) k9) (hM : mA l Z.1 (ty3 Z) y cd maxL ret rm (wM Z Y k th td rf rb re) (.ref Y.1 :: As) post) (hd : decode cc pc = .ok (.invokevirtual idx, 3)) (hst : st = As.reverse ++ .ref Y.1 :: rest) (hAs : As.length = k9) (hr : rOk rm R maxL cells slots = true) (hw : c8 rest = true) (hz : rm.cells = 0 ∧ rm.slots = 0)
    (kk : ∀ (v : Option Value) (u : va_W), post v u → gg p l e R s m args below meth c Z.1 A n cells slots Q u (pc + 3) L (v.toList ++ rest)) : gg p l e R s m args below meth c Z.1 A n cells slots Q (wM Z Y k th td rf rb re) pc L st :=
  gg_callW K ok hM 0 (ci := 1) (N := 6) (T := TX1) rfl rfl hd hst hAs hr hw (fun v' u h => by rw [hz.1, hz.2]; exact kk v' u h)
theorem gg_callSR {D : va_G} {tys : List (ClassId × FieldType)} {v : Value} (K : kx p s m args meth c D A tys cc own n) (ok : okS own idx y (.code y cd maxL ret) k9) (hM : mS l y cd maxL ret rm As v) (hd : decode cc pc = .ok (.invokestatic idx, 3)) (hst : st = As.reverse ++ rest) (hAs : As.length = k9) (hr : rOk rm R maxL cells slots = true) (hw : c8 rest = true) (hz : rm.cells = 0 ∧ rm.slots = 0)
    (kk : gg p l e R s m args below meth c D A n cells slots Q ws (pc + 3) L (v :: rest)) : gg p l e R s m args below meth c D A n cells slots Q ws pc L st :=
  gg_callS K ok (hM D tys) hd hst hAs hr hw (fun v' u h => by subst h; rw [hz.1, hz.2]; exact kk)
/-- throwing calls, the room that they may take named -/
theorem gg_callTX {X : XT} {k kp dr : Nat → Int32} {td : Int32} {post : Option Value → va_W → Prop} {pe : String → va_W → Prop} (c1 s1 : Nat) (K : kx p s m args meth c Z.1 A (ty3 Z) cc own n) (T9 : te A s s.heap) (ok : okV own idx RX0 y (.code y cd maxL ret) k9) (hM : mX l Z.1 (ty3 Z) y (.code y cd maxL ret) rm (wX Z X k kp dr td) (.ref X.1 :: As) post pe) (hd : decode cc pc = .ok (.invokevirtual idx, 3)) (hst : st = As.reverse ++ .ref X.1 :: rest) (hAs : As.length = k9) (hr : rOk rm R maxL cells slots = true) (hw : c8 rest = true) (hz : cells + rm.cells = c1 ∧ slots + rm.slots = s1)
    (kt : ∀ (E : String) (u : va_W), pe E u → gx p l e R s m args below meth c Z.1 A n c1 s1 Q u pc L rest E)
    (kk : ∀ (v : Option Value) (u : va_W), post v u → gg p l e R s m args below meth c Z.1 A n c1 s1 Q u (pc + 3) L (v.toList ++ rest)) : gg p l e R s m args below meth c Z.1 A n cells slots Q (wX Z X k kp dr td) pc L st := by
  obtain ⟨rfl, rfl⟩ := hz
  exact gg_callWX K T9 ok hM 0 (ci := 0) (N := 4) (T := TX0) rfl rfl hd hst hAs hr hw kt kk
theorem gg_callTS {D : va_G} {tys : List (ClassId × FieldType)} {post : Option Value → va_W → Prop} {pe : String → va_W → Prop} (c1 s1 : Nat) (K : kx p s m args meth c D A tys cc own n) (T9 : te A s s.heap) (ok : okS own idx y (.code y cd maxL ret) k9) (hM : mX l D tys y (.code y cd maxL ret) rm [] As post pe) (hd : decode cc pc = .ok (.invokestatic idx, 3)) (hst : st = As.reverse ++ rest) (hAs : As.length = k9) (hr : rOk rm R maxL cells slots = true) (hw : c8 rest = true) (hz : cells + rm.cells = c1 ∧ slots + rm.slots = s1)
    (kt : ∀ (E : String) (u : va_W), pe E u → gx p l e R s m args below meth c D A n c1 s1 Q ws pc L rest E)
    (kk : ∀ (v : Option Value) (u : va_W), post v u → gg p l e R s m args below meth c D A n c1 s1 Q ws (pc + 3) L (v.toList ++ rest)) : gg p l e R s m args below meth c D A n cells slots Q ws pc L st := by
  obtain ⟨rfl, rfl⟩ := hz
  exact gg_callSX K T9 ok hM hd hst hAs hr hw kt kk
theorem gX_known {X : XT} {k kp dr : Nat → Int32} {td : Int32} (K : kx p s m args meth c Z.1 A (ty3 Z) cc RX0 n) (hd : decode cc pc = .ok (.getfield 10, 3)) (kk : gg p l e R s m args below meth c Z.1 A n cells slots Q (wX Z X k kp dr td) (pc + 3) L (.ref X.2.1 :: st)) : gg p l e R s m args below meth c Z.1 A n cells slots Q (wX Z X k kp dr td) pc L (.ref X.1 :: st) :=
  fun H locs ls hP hD hS hl => va_get (D := Z.1) (ci := 0) (v := .ref X.2.1) (C := RX0) (T := TX0) (N := 4) K.1.1 K.1.2.1 K.1.2.2.2.2 inX0 K.1.2.2.2.1 K.2.1 hP 0 rfl rfl 0 (by decide) (K.1.2.2.2.2 _ wd_16) (fun _ h9 => h9) rfl hd (kk H locs ls hP hD hS hl)
theorem gX_keptOn {X : XT} {k kp dr : Nat → Int32} {td : Int32} (K : kx p s m args meth c Z.1 A (ty3 Z) cc RX0 n) (hd : decode cc pc = .ok (.getfield 14, 3)) (kk : gg p l e R s m args below meth c Z.1 A n cells slots Q (wX Z X k kp dr td) (pc + 3) L (.ref X.2.2.1 :: st)) : gg p l e R s m args below meth c Z.1 A n cells slots Q (wX Z X k kp dr td) pc L (.ref X.1 :: st) :=
  fun H locs ls hP hD hS hl => va_get (D := Z.1) (ci := 0) (v := .ref X.2.2.1) (C := RX0) (T := TX0) (N := 4) K.1.1 K.1.2.1 K.1.2.2.2.2 inX0 K.1.2.2.2.1 K.2.1 hP 0 rfl rfl 1 (by decide) (K.1.2.2.2.2 _ wd_17) (fun _ h9 => h9) rfl hd (kk H locs ls hP hD hS hl)
theorem gX_draft {X : XT} {k kp dr : Nat → Int32} {td : Int32} (K : kx p s m args meth c Z.1 A (ty3 Z) cc RX0 n) (hd : decode cc pc = .ok (.getfield 17, 3)) (kk : gg p l e R s m args below meth c Z.1 A n cells slots Q (wX Z X k kp dr td) (pc + 3) L (.ref X.2.2.2 :: st)) : gg p l e R s m args below meth c Z.1 A n cells slots Q (wX Z X k kp dr td) pc L (.ref X.1 :: st) :=
  fun H locs ls hP hD hS hl => va_get (D := Z.1) (ci := 0) (v := .ref X.2.2.2) (C := RX0) (T := TX0) (N := 4) K.1.1 K.1.2.1 K.1.2.2.2.2 inX0 K.1.2.2.2.1 K.2.1 hP 0 rfl rfl 2 (by decide) (K.1.2.2.2.2 _ wd_18) (fun _ h9 => h9) rfl hd (kk H locs ls hP hD hS hl)
theorem gX_today {X : XT} {k kp dr : Nat → Int32} {td : Int32} (K : kx p s m args meth c Z.1 A (ty3 Z) cc RX0 n) (hd : decode cc pc = .ok (.getfield 62, 3)) (kk : gg p l e R s m args below meth c Z.1 A n cells slots Q (wX Z X k kp dr td) (pc + 3) L (.int td :: st)) : gg p l e R s m args below meth c Z.1 A n cells slots Q (wX Z X k kp dr td) pc L (.ref X.1 :: st) :=
  fun H locs ls hP hD hS hl => va_get (D := Z.1) (ci := 0) (v := .int td) (C := RX0) (T := TX0) (N := 4) K.1.1 K.1.2.1 K.1.2.2.2.2 inX0 K.1.2.2.2.1 K.2.1 hP 0 rfl rfl 3 (by decide) (K.1.2.2.2.2 _ wd_56) (fun _ h9 => h9) rfl hd (kk H locs ls hP hD hS hl)
theorem gX_ptoday {X : XT} {k kp dr : Nat → Int32} {td x : Int32} (K : kx p s m args meth c Z.1 A (ty3 Z) cc RX0 n) (hd : decode cc pc = .ok (.putfield 62, 3)) (kk : gg p l e R s m args below meth c Z.1 A n cells slots Q (wX Z X k kp dr x) (pc + 3) L st) : gg p l e R s m args below meth c Z.1 A n cells slots Q (wX Z X k kp dr td) pc L (.int x :: .ref X.1 :: st) :=
  fun H locs ls hP hD hS hl => va_put (D := Z.1) (ci := 0) (v := .int x) (ty := .int) (C := RX0) (T := TX0) (N := 4) K.1.1 K.1.2.1 K.1.2.2.2.2 inX0 tyX0 tyX0_ok nmX0 K.1.2.2.2.1 K.2.1 hP hD hS 0 rfl rfl 3 (by decide) (K.1.2.2.2.2 _ wd_56) (fun _ h9 => h9) rfl (by decide +kernel) rfl rfl (Nat.le_of_ble_eq_true rfl) hd (fun H1 locs1 hP hD hS => kk H1 locs1 ls hP hD hS hl)
theorem gM_thrown {Y : MT} {k : Nat → Int32} {th td rf rb re : Int32} (K : kx p s m args meth c Z.1 A (ty3 Z) cc RX1 n) (hd : decode cc pc = .ok (.getfield 14, 3)) (kk : gg p l e R s m args below meth c Z.1 A n cells slots Q (wM Z Y k th td rf rb re) (pc + 3) L (.int th :: st)) : gg p l e R s m args below meth c Z.1 A n cells slots Q (wM Z Y k th td rf rb re) pc L (.ref Y.1 :: st) :=
  fun H locs ls hP hD hS hl => va_get (D := Z.1) (ci := 1) (v := .int th) (C := RX1) (T := TX1) (N := 6) K.1.1 K.1.2.1 K.1.2.2.2.2 inX1 K.1.2.2.2.1 K.2.1 hP 0 rfl rfl 0 (by decide) (K.1.2.2.2.2 _ wd_122) (fun _ h9 => h9) rfl hd (kk H locs ls hP hD hS hl)
theorem gM_pthrown {Y : MT} {k : Nat → Int32} {th td rf rb re x : Int32} (K : kx p s m args meth c Z.1 A (ty3 Z) cc RX1 n) (hd : decode cc pc = .ok (.putfield 14, 3)) (kk : gg p l e R s m args below meth c Z.1 A n cells slots Q (wM Z Y k x td rf rb re) (pc + 3) L st) : gg p l e R s m args below meth c Z.1 A n cells slots Q (wM Z Y k th td rf rb re) pc L (.int x :: .ref Y.1 :: st) :=
  fun H locs ls hP hD hS hl => va_put (D := Z.1) (ci := 1) (v := .int x) (ty := .int) (C := RX1) (T := TX1) (N := 6) K.1.1 K.1.2.1 K.1.2.2.2.2 inX1 tyX1 tyX1_ok nmX1 K.1.2.2.2.1 K.2.1 hP hD hS 0 rfl rfl 0 (by decide) (K.1.2.2.2.2 _ wd_122) (fun _ h9 => h9) rfl (by decide +kernel) rfl rfl (Nat.le_of_ble_eq_true rfl) hd (fun H1 locs1 hP hD hS => kk H1 locs1 ls hP hD hS hl)
theorem gM_today {Y : MT} {k : Nat → Int32} {th td rf rb re : Int32} (K : kx p s m args meth c Z.1 A (ty3 Z) cc RX1 n) (hd : decode cc pc = .ok (.getfield 30, 3)) (kk : gg p l e R s m args below meth c Z.1 A n cells slots Q (wM Z Y k th td rf rb re) (pc + 3) L (.int td :: st)) : gg p l e R s m args below meth c Z.1 A n cells slots Q (wM Z Y k th td rf rb re) pc L (.ref Y.1 :: st) :=
  fun H locs ls hP hD hS hl => va_get (D := Z.1) (ci := 1) (v := .int td) (C := RX1) (T := TX1) (N := 6) K.1.1 K.1.2.1 K.1.2.2.2.2 inX1 K.1.2.2.2.1 K.2.1 hP 0 rfl rfl 1 (by decide) (K.1.2.2.2.2 _ wd_106) (fun _ h9 => h9) rfl hd (kk H locs ls hP hD hS hl)
theorem gM_ptoday {Y : MT} {k : Nat → Int32} {th td rf rb re x : Int32} (K : kx p s m args meth c Z.1 A (ty3 Z) cc RX1 n) (hd : decode cc pc = .ok (.putfield 30, 3)) (kk : gg p l e R s m args below meth c Z.1 A n cells slots Q (wM Z Y k th x rf rb re) (pc + 3) L st) : gg p l e R s m args below meth c Z.1 A n cells slots Q (wM Z Y k th td rf rb re) pc L (.int x :: .ref Y.1 :: st) :=
  fun H locs ls hP hD hS hl => va_put (D := Z.1) (ci := 1) (v := .int x) (ty := .int) (C := RX1) (T := TX1) (N := 6) K.1.1 K.1.2.1 K.1.2.2.2.2 inX1 tyX1 tyX1_ok nmX1 K.1.2.2.2.1 K.2.1 hP hD hS 0 rfl rfl 1 (by decide) (K.1.2.2.2.2 _ wd_106) (fun _ h9 => h9) rfl (by decide +kernel) rfl rfl (Nat.le_of_ble_eq_true rfl) hd (fun H1 locs1 hP hD hS => kk H1 locs1 ls hP hD hS hl)
theorem gM_known {Y : MT} {k : Nat → Int32} {th td rf rb re : Int32} (K : kx p s m args meth c Z.1 A (ty3 Z) cc RX1 n) (hd : decode cc pc = .ok (.getfield 8, 3)) (kk : gg p l e R s m args below meth c Z.1 A n cells slots Q (wM Z Y k th td rf rb re) (pc + 3) L (.ref Y.2 :: st)) : gg p l e R s m args below meth c Z.1 A n cells slots Q (wM Z Y k th td rf rb re) pc L (.ref Y.1 :: st) :=
  fun H locs ls hP hD hS hl => va_get (D := Z.1) (ci := 1) (v := .ref Y.2) (C := RX1) (T := TX1) (N := 6) K.1.1 K.1.2.1 K.1.2.2.2.2 inX1 K.1.2.2.2.1 K.2.1 hP 0 rfl rfl 2 (by decide) (K.1.2.2.2.2 _ wd_24) (fun _ h9 => h9) rfl hd (kk H locs ls hP hD hS hl)
theorem gM_rowFirst {Y : MT} {k : Nat → Int32} {th td rf rb re : Int32} (K : kx p s m args meth c Z.1 A (ty3 Z) cc RX1 n) (hd : decode cc pc = .ok (.getfield 84, 3)) (kk : gg p l e R s m args below meth c Z.1 A n cells slots Q (wM Z Y k th td rf rb re) (pc + 3) L (.int rf :: st)) : gg p l e R s m args below meth c Z.1 A n cells slots Q (wM Z Y k th td rf rb re) pc L (.ref Y.1 :: st) :=
  fun H locs ls hP hD hS hl => va_get (D := Z.1) (ci := 1) (v := .int rf) (C := RX1) (T := TX1) (N := 6) K.1.1 K.1.2.1 K.1.2.2.2.2 inX1 K.1.2.2.2.1 K.2.1 hP 0 rfl rfl 3 (by decide) (K.1.2.2.2.2 _ wd_359) (fun _ h9 => h9) rfl hd (kk H locs ls hP hD hS hl)
theorem gM_prowFirst {Y : MT} {k : Nat → Int32} {th td rf rb re x : Int32} (K : kx p s m args meth c Z.1 A (ty3 Z) cc RX1 n) (hd : decode cc pc = .ok (.putfield 84, 3)) (kk : gg p l e R s m args below meth c Z.1 A n cells slots Q (wM Z Y k th td x rb re) (pc + 3) L st) : gg p l e R s m args below meth c Z.1 A n cells slots Q (wM Z Y k th td rf rb re) pc L (.int x :: .ref Y.1 :: st) :=
  fun H locs ls hP hD hS hl => va_put (D := Z.1) (ci := 1) (v := .int x) (ty := .int) (C := RX1) (T := TX1) (N := 6) K.1.1 K.1.2.1 K.1.2.2.2.2 inX1 tyX1 tyX1_ok nmX1 K.1.2.2.2.1 K.2.1 hP hD hS 0 rfl rfl 3 (by decide) (K.1.2.2.2.2 _ wd_359) (fun _ h9 => h9) rfl (by decide +kernel) rfl rfl (Nat.le_of_ble_eq_true rfl) hd (fun H1 locs1 hP hD hS => kk H1 locs1 ls hP hD hS hl)
theorem gM_rowBegin {Y : MT} {k : Nat → Int32} {th td rf rb re : Int32} (K : kx p s m args meth c Z.1 A (ty3 Z) cc RX1 n) (hd : decode cc pc = .ok (.getfield 87, 3)) (kk : gg p l e R s m args below meth c Z.1 A n cells slots Q (wM Z Y k th td rf rb re) (pc + 3) L (.int rb :: st)) : gg p l e R s m args below meth c Z.1 A n cells slots Q (wM Z Y k th td rf rb re) pc L (.ref Y.1 :: st) :=
  fun H locs ls hP hD hS hl => va_get (D := Z.1) (ci := 1) (v := .int rb) (C := RX1) (T := TX1) (N := 6) K.1.1 K.1.2.1 K.1.2.2.2.2 inX1 K.1.2.2.2.1 K.2.1 hP 0 rfl rfl 4 (by decide) (K.1.2.2.2.2 _ wd_360) (fun _ h9 => h9) rfl hd (kk H locs ls hP hD hS hl)
theorem gM_prowBegin {Y : MT} {k : Nat → Int32} {th td rf rb re x : Int32} (K : kx p s m args meth c Z.1 A (ty3 Z) cc RX1 n) (hd : decode cc pc = .ok (.putfield 87, 3)) (kk : gg p l e R s m args below meth c Z.1 A n cells slots Q (wM Z Y k th td rf x re) (pc + 3) L st) : gg p l e R s m args below meth c Z.1 A n cells slots Q (wM Z Y k th td rf rb re) pc L (.int x :: .ref Y.1 :: st) :=
  fun H locs ls hP hD hS hl => va_put (D := Z.1) (ci := 1) (v := .int x) (ty := .int) (C := RX1) (T := TX1) (N := 6) K.1.1 K.1.2.1 K.1.2.2.2.2 inX1 tyX1 tyX1_ok nmX1 K.1.2.2.2.1 K.2.1 hP hD hS 0 rfl rfl 4 (by decide) (K.1.2.2.2.2 _ wd_360) (fun _ h9 => h9) rfl (by decide +kernel) rfl rfl (Nat.le_of_ble_eq_true rfl) hd (fun H1 locs1 hP hD hS => kk H1 locs1 ls hP hD hS hl)
theorem gM_rowEnd {Y : MT} {k : Nat → Int32} {th td rf rb re : Int32} (K : kx p s m args meth c Z.1 A (ty3 Z) cc RX1 n) (hd : decode cc pc = .ok (.getfield 96, 3)) (kk : gg p l e R s m args below meth c Z.1 A n cells slots Q (wM Z Y k th td rf rb re) (pc + 3) L (.int re :: st)) : gg p l e R s m args below meth c Z.1 A n cells slots Q (wM Z Y k th td rf rb re) pc L (.ref Y.1 :: st) :=
  fun H locs ls hP hD hS hl => va_get (D := Z.1) (ci := 1) (v := .int re) (C := RX1) (T := TX1) (N := 6) K.1.1 K.1.2.1 K.1.2.2.2.2 inX1 K.1.2.2.2.1 K.2.1 hP 0 rfl rfl 5 (by decide) (K.1.2.2.2.2 _ wd_408) (fun _ h9 => h9) rfl hd (kk H locs ls hP hD hS hl)
theorem gM_prowEnd {Y : MT} {k : Nat → Int32} {th td rf rb re x : Int32} (K : kx p s m args meth c Z.1 A (ty3 Z) cc RX1 n) (hd : decode cc pc = .ok (.putfield 96, 3)) (kk : gg p l e R s m args below meth c Z.1 A n cells slots Q (wM Z Y k th td rf rb x) (pc + 3) L st) : gg p l e R s m args below meth c Z.1 A n cells slots Q (wM Z Y k th td rf rb re) pc L (.int x :: .ref Y.1 :: st) :=
  fun H locs ls hP hD hS hl => va_put (D := Z.1) (ci := 1) (v := .int x) (ty := .int) (C := RX1) (T := TX1) (N := 6) K.1.1 K.1.2.1 K.1.2.2.2.2 inX1 tyX1 tyX1_ok nmX1 K.1.2.2.2.1 K.2.1 hP hD hS 0 rfl rfl 5 (by decide) (K.1.2.2.2.2 _ wd_408) (fun _ h9 => h9) rfl (by decide +kernel) rfl rfl (Nat.le_of_ble_eq_true rfl) hd (fun H1 locs1 hP hD hS => kk H1 locs1 ls hP hD hS hl)
theorem gX_ld_known {X : XT} {k kp dr : Nat → Int32} {td : Int32} (j : Nat) {i : Int32} (K : kx p s m args meth c Z.1 A (ty3 Z) cc own n) (hi : i = nI j) (hj : j < 57600) (hd : decode cc pc = .ok (.iaload, 1)) (kk : gg p l e R s m args below meth c Z.1 A n cells slots Q (wX Z X k kp dr td) (pc + 1) L (.int (k j) :: st)) : gg p l e R s m args below meth c Z.1 A n cells slots Q (wX Z X k kp dr td) pc L (.int i :: .ref X.2.1 :: st) := by
  subst hi
  intro H locs ls hP hD hS hl
  have e : (nI j).toNatClampNeg = j := nI_clamp (by omega)
  refine va_iald K.1.1 K.1.2.1 K.2.1 hP 1 0 (cA := Z.2.1) (n := 57600) (f := k) rfl rfl (vp_in_nI hj (Nat.le_of_ble_eq_true rfl)) hd ?_
  rw [e]
  exact kk H locs ls hP hD hS hl
theorem gX_st_known {X : XT} {k kp dr : Nat → Int32} {td : Int32} (j : Nat) {i x : Int32} (K : kx p s m args meth c Z.1 A (ty3 Z) cc own n) (hi : i = nI j) (hj : j < 57600) (hd : decode cc pc = .ok (.iastore, 1)) (kk : gg p l e R s m args below meth c Z.1 A n cells slots Q (wX Z X (upd k j x) kp dr td) (pc + 1) L st) : gg p l e R s m args below meth c Z.1 A n cells slots Q (wX Z X k kp dr td) pc L (.int x :: .int i :: .ref X.2.1 :: st) := by
  subst hi
  intro H locs ls hP hD hS hl
  have e : (nI j).toNatClampNeg = j := nI_clamp (by omega)
  refine va_iast K.1.1 K.1.2.1 K.2.1 hP hD hS 1 0 (cA := Z.2.1) (n := 57600) (f := k) rfl rfl (vp_in_nI hj (Nat.le_of_ble_eq_true rfl)) hd (fun H1 locs1 hP hD hS => ?_)
  rw [e] at hP hD
  exact kk H1 locs1 ls hP hD hS hl
theorem gX_len_known {X : XT} {k kp dr : Nat → Int32} {td : Int32} (K : kx p s m args meth c Z.1 A (ty3 Z) cc own n) (hd : decode cc pc = .ok (.arraylength, 1)) (kk : gg p l e R s m args below meth c Z.1 A n cells slots Q (wX Z X k kp dr td) (pc + 1) L (.int (nI 57600) :: st)) : gg p l e R s m args below meth c Z.1 A n cells slots Q (wX Z X k kp dr td) pc L (.ref X.2.1 :: st) :=
  fun H locs ls hP hD hS hl => va_alen K.1.1 K.1.2.1 K.2.1 hP 1 0 (cA := Z.2.1) (x := (57600, .inl k)) rfl (ty := .int) rfl (v := nI 57600) rfl hd (kk H locs ls hP hD hS hl)
theorem gX_ld_kept {X : XT} {k kp dr : Nat → Int32} {td : Int32} (j : Nat) {i : Int32} (K : kx p s m args meth c Z.1 A (ty3 Z) cc own n) (hi : i = nI j) (hj : j < 60) (hd : decode cc pc = .ok (.iaload, 1)) (kk : gg p l e R s m args below meth c Z.1 A n cells slots Q (wX Z X k kp dr td) (pc + 1) L (.int (kp j) :: st)) : gg p l e R s m args below meth c Z.1 A n cells slots Q (wX Z X k kp dr td) pc L (.int i :: .ref X.2.2.1 :: st) := by
  subst hi
  intro H locs ls hP hD hS hl
  have e : (nI j).toNatClampNeg = j := nI_clamp (by omega)
  refine va_iald K.1.1 K.1.2.1 K.2.1 hP 2 0 (cA := Z.2.1) (n := 60) (f := kp) rfl rfl (vp_in_nI hj (Nat.le_of_ble_eq_true rfl)) hd ?_
  rw [e]
  exact kk H locs ls hP hD hS hl
theorem gX_st_kept {X : XT} {k kp dr : Nat → Int32} {td : Int32} (j : Nat) {i x : Int32} (K : kx p s m args meth c Z.1 A (ty3 Z) cc own n) (hi : i = nI j) (hj : j < 60) (hd : decode cc pc = .ok (.iastore, 1)) (kk : gg p l e R s m args below meth c Z.1 A n cells slots Q (wX Z X k (upd kp j x) dr td) (pc + 1) L st) : gg p l e R s m args below meth c Z.1 A n cells slots Q (wX Z X k kp dr td) pc L (.int x :: .int i :: .ref X.2.2.1 :: st) := by
  subst hi
  intro H locs ls hP hD hS hl
  have e : (nI j).toNatClampNeg = j := nI_clamp (by omega)
  refine va_iast K.1.1 K.1.2.1 K.2.1 hP hD hS 2 0 (cA := Z.2.1) (n := 60) (f := kp) rfl rfl (vp_in_nI hj (Nat.le_of_ble_eq_true rfl)) hd (fun H1 locs1 hP hD hS => ?_)
  rw [e] at hP hD
  exact kk H1 locs1 ls hP hD hS hl
theorem gX_len_kept {X : XT} {k kp dr : Nat → Int32} {td : Int32} (K : kx p s m args meth c Z.1 A (ty3 Z) cc own n) (hd : decode cc pc = .ok (.arraylength, 1)) (kk : gg p l e R s m args below meth c Z.1 A n cells slots Q (wX Z X k kp dr td) (pc + 1) L (.int (nI 60) :: st)) : gg p l e R s m args below meth c Z.1 A n cells slots Q (wX Z X k kp dr td) pc L (.ref X.2.2.1 :: st) :=
  fun H locs ls hP hD hS hl => va_alen K.1.1 K.1.2.1 K.2.1 hP 2 0 (cA := Z.2.1) (x := (60, .inl kp)) rfl (ty := .int) rfl (v := nI 60) rfl hd (kk H locs ls hP hD hS hl)
theorem gX_ld_draft {X : XT} {k kp dr : Nat → Int32} {td : Int32} (j : Nat) {i : Int32} (K : kx p s m args meth c Z.1 A (ty3 Z) cc own n) (hi : i = nI j) (hj : j < 60) (hd : decode cc pc = .ok (.iaload, 1)) (kk : gg p l e R s m args below meth c Z.1 A n cells slots Q (wX Z X k kp dr td) (pc + 1) L (.int (dr j) :: st)) : gg p l e R s m args below meth c Z.1 A n cells slots Q (wX Z X k kp dr td) pc L (.int i :: .ref X.2.2.2 :: st) := by
  subst hi
  intro H locs ls hP hD hS hl
  have e : (nI j).toNatClampNeg = j := nI_clamp (by omega)
  refine va_iald K.1.1 K.1.2.1 K.2.1 hP 3 0 (cA := Z.2.1) (n := 60) (f := dr) rfl rfl (vp_in_nI hj (Nat.le_of_ble_eq_true rfl)) hd ?_
  rw [e]
  exact kk H locs ls hP hD hS hl
theorem gX_st_draft {X : XT} {k kp dr : Nat → Int32} {td : Int32} (j : Nat) {i x : Int32} (K : kx p s m args meth c Z.1 A (ty3 Z) cc own n) (hi : i = nI j) (hj : j < 60) (hd : decode cc pc = .ok (.iastore, 1)) (kk : gg p l e R s m args below meth c Z.1 A n cells slots Q (wX Z X k kp (upd dr j x) td) (pc + 1) L st) : gg p l e R s m args below meth c Z.1 A n cells slots Q (wX Z X k kp dr td) pc L (.int x :: .int i :: .ref X.2.2.2 :: st) := by
  subst hi
  intro H locs ls hP hD hS hl
  have e : (nI j).toNatClampNeg = j := nI_clamp (by omega)
  refine va_iast K.1.1 K.1.2.1 K.2.1 hP hD hS 3 0 (cA := Z.2.1) (n := 60) (f := dr) rfl rfl (vp_in_nI hj (Nat.le_of_ble_eq_true rfl)) hd (fun H1 locs1 hP hD hS => ?_)
  rw [e] at hP hD
  exact kk H1 locs1 ls hP hD hS hl
theorem gX_len_draft {X : XT} {k kp dr : Nat → Int32} {td : Int32} (K : kx p s m args meth c Z.1 A (ty3 Z) cc own n) (hd : decode cc pc = .ok (.arraylength, 1)) (kk : gg p l e R s m args below meth c Z.1 A n cells slots Q (wX Z X k kp dr td) (pc + 1) L (.int (nI 60) :: st)) : gg p l e R s m args below meth c Z.1 A n cells slots Q (wX Z X k kp dr td) pc L (.ref X.2.2.2 :: st) :=
  fun H locs ls hP hD hS hl => va_alen K.1.1 K.1.2.1 K.2.1 hP 3 0 (cA := Z.2.1) (x := (60, .inl dr)) rfl (ty := .int) rfl (v := nI 60) rfl hd (kk H locs ls hP hD hS hl)
theorem gM_ld_known {Y : MT} {k : Nat → Int32} {th td rf rb re : Int32} (j : Nat) {i : Int32} (K : kx p s m args meth c Z.1 A (ty3 Z) cc own n) (hi : i = nI j) (hj : j < 57600) (hd : decode cc pc = .ok (.iaload, 1)) (kk : gg p l e R s m args below meth c Z.1 A n cells slots Q (wM Z Y k th td rf rb re) (pc + 1) L (.int (k j) :: st)) : gg p l e R s m args below meth c Z.1 A n cells slots Q (wM Z Y k th td rf rb re) pc L (.int i :: .ref Y.2 :: st) := by
  subst hi
  intro H locs ls hP hD hS hl
  have e : (nI j).toNatClampNeg = j := nI_clamp (by omega)
  refine va_iald K.1.1 K.1.2.1 K.2.1 hP 1 0 (cA := Z.2.1) (n := 57600) (f := k) rfl rfl (vp_in_nI hj (Nat.le_of_ble_eq_true rfl)) hd ?_
  rw [e]
  exact kk H locs ls hP hD hS hl
theorem gM_st_known {Y : MT} {k : Nat → Int32} {th td rf rb re : Int32} (j : Nat) {i x : Int32} (K : kx p s m args meth c Z.1 A (ty3 Z) cc own n) (hi : i = nI j) (hj : j < 57600) (hd : decode cc pc = .ok (.iastore, 1)) (kk : gg p l e R s m args below meth c Z.1 A n cells slots Q (wM Z Y (upd k j x) th td rf rb re) (pc + 1) L st) : gg p l e R s m args below meth c Z.1 A n cells slots Q (wM Z Y k th td rf rb re) pc L (.int x :: .int i :: .ref Y.2 :: st) := by
  subst hi
  intro H locs ls hP hD hS hl
  have e : (nI j).toNatClampNeg = j := nI_clamp (by omega)
  refine va_iast K.1.1 K.1.2.1 K.2.1 hP hD hS 1 0 (cA := Z.2.1) (n := 57600) (f := k) rfl rfl (vp_in_nI hj (Nat.le_of_ble_eq_true rfl)) hd (fun H1 locs1 hP hD hS => ?_)
  rw [e] at hP hD
  exact kk H1 locs1 ls hP hD hS hl
theorem gM_len_known {Y : MT} {k : Nat → Int32} {th td rf rb re : Int32} (K : kx p s m args meth c Z.1 A (ty3 Z) cc own n) (hd : decode cc pc = .ok (.arraylength, 1)) (kk : gg p l e R s m args below meth c Z.1 A n cells slots Q (wM Z Y k th td rf rb re) (pc + 1) L (.int (nI 57600) :: st)) : gg p l e R s m args below meth c Z.1 A n cells slots Q (wM Z Y k th td rf rb re) pc L (.ref Y.2 :: st) :=
  fun H locs ls hP hD hS hl => va_alen K.1.1 K.1.2.1 K.2.1 hP 1 0 (cA := Z.2.1) (x := (57600, .inl k)) rfl (ty := .int) rfl (v := nI 57600) rfl hd (kk H locs ls hP hD hS hl)
end
theorem k_L_L_put : okS RL 79 yL_put (Cond.codeWith yL_put cL_put 8 (some .int) [(0, 16, 19, 13), (0, 16, 23, 15)]) 7 := ⟨g_L_L_put, by decide +kernel⟩
theorem k_L_X0_put : okV RL 7 RX0 yX0_put (Cond.code yX0_put cX0_put 6 (some .int)) 5 := ⟨g_L_X0_put, by decide +kernel⟩
theorem k_X0_X0_needTableAndKey : okS RX0 20 yX0_needTableAndKey (Cond.code yX0_needTableAndKey cX0_needTableAndKey 2 none) 2 := ⟨g_X0_X0_needTableAndKey, by decide +kernel⟩
theorem k_X0_X0_needRange : okS RX0 28 yX0_needRange (Cond.code yX0_needRange cX0_needRange 2 none) 2 := ⟨g_X0_X0_needRange, by decide +kernel⟩
theorem k_X0_X0_valuesOf : okS RX0 24 yX0_valuesOf (Cond.code yX0_valuesOf cX0_valuesOf 1 (some .int)) 1 := ⟨g_X0_X0_valuesOf, by decide +kernel⟩
theorem k_X0_X0_needSpan : okS RX0 31 yX0_needSpan (Cond.code yX0_needSpan cX0_needSpan 2 none) 2 := ⟨g_X0_X0_needSpan, by decide +kernel⟩
theorem k_X0_X0_line : okS RX0 34 yX0_line (Cond.code yX0_line cX0_line 2 (some .int)) 2 := ⟨g_X0_X0_line, by decide +kernel⟩
theorem k_X0_X0_draftSpan : okV RX0 38 RX0 yX0_draftSpan (Cond.code yX0_draftSpan cX0_draftSpan 6 none) 4 := ⟨g_X0_X0_draftSpan, by decide +kernel⟩
theorem k_X0_X0_knownOn : okV RX0 77 RX0 yX0_knownOn (Cond.code yX0_knownOn cX0_knownOn 5 (some .int)) 3 := ⟨g_X0_X0_knownOn, by decide +kernel⟩
theorem k_X0_X0_index : okS RX0 140 yX0_index (Cond.code yX0_index cX0_index 3 (some .int)) 3 := ⟨g_X0_X0_index, by decide +kernel⟩
theorem k_X0_X0_recordDraft : okV RX0 42 RX0 yX0_recordDraft (Cond.code yX0_recordDraft cX0_recordDraft 6 (some .int)) 2 := ⟨g_X0_X0_recordDraft, by decide +kernel⟩
theorem k_X0_X0_draftKeepsReferences : okV RX0 149 RX0 yX0_draftKeepsReferences (Cond.code yX0_draftKeepsReferences cX0_draftKeepsReferences 5 (some .boolean)) 2 := ⟨g_X0_X0_draftKeepsReferences, by decide +kernel⟩
theorem k_X0_X0_isReferredTo : okV RX0 159 RX0 yX0_isReferredTo (Cond.code yX0_isReferredTo cX0_isReferredTo 4 (some .boolean)) 2 := ⟨g_X0_X0_isReferredTo, by decide +kernel⟩
theorem k_X0_X0_recordToday : okV RX0 155 RX0 yX0_recordToday (Cond.code yX0_recordToday cX0_recordToday 5 none) 3 := ⟨g_X0_X0_recordToday, by decide +kernel⟩
theorem k_L_X1_put : okV RL 84 RX1 yX1_put (Cond.code yX1_put cX1_put 7 (some .int)) 5 := ⟨g_L_X1_put, by decide +kernel⟩
theorem k_X1_X1_isKey : okS RX1 47 yX1_isKey (Cond.code yX1_isKey cX1_isKey 2 (some .boolean)) 2 := ⟨g_X1_X1_isKey, by decide +kernel⟩
theorem k_X1_X1_in : okS RX1 18 yX1_in (Cond.code yX1_in cX1_in 3 (some .boolean)) 3 := ⟨g_X1_X1_in, by decide +kernel⟩
theorem k_X1_X1_isSpan : okS RX1 50 yX1_isSpan (Cond.code yX1_isSpan cX1_isSpan 2 (some .boolean)) 2 := ⟨g_X1_X1_isSpan, by decide +kernel⟩
theorem k_X1_X1_isDay : okS RX1 22 yX1_isDay (Cond.code yX1_isDay cX1_isDay 1 (some .boolean)) 1 := ⟨g_X1_X1_isDay, by decide +kernel⟩
theorem k_X1_X1_mayAll : okV RX1 53 RX1 yX1_mayAll (Cond.code yX1_mayAll cX1_mayAll 7 (some .boolean)) 5 := ⟨g_X1_X1_mayAll, by decide +kernel⟩
theorem k_X1_X1_may : okV RX1 40 RX1 yX1_may (Cond.code yX1_may cX1_may 5 (some .boolean)) 4 := ⟨g_X1_X1_may, by decide +kernel⟩
theorem k_X1_X1_isReferred : okV RX1 36 RX1 yX1_isReferred (Cond.code yX1_isReferred cX1_isReferred 4 (some .boolean)) 2 := ⟨g_X1_X1_isReferred, by decide +kernel⟩
theorem k_X1_X1_of : okV RX1 33 RX1 yX1_of (Cond.code yX1_of cX1_of 5 (some .int)) 4 := ⟨g_X1_X1_of, by decide +kernel⟩
theorem k_X1_X1_place : okS RX1 26 yX1_place (Cond.code yX1_place cX1_place 4 (some .int)) 4 := ⟨g_X1_X1_place, by decide +kernel⟩
theorem k_X1_X1_holds : okV RX1 57 RX1 yX1_holds (Cond.code yX1_holds cX1_holds 2 (some .boolean)) 1 := ⟨g_X1_X1_holds, by decide +kernel⟩
theorem k_X1_X1_setsAll : okV RX1 60 RX1 yX1_setsAll (Cond.code yX1_setsAll cX1_setsAll 8 (some .int)) 5 := ⟨g_X1_X1_setsAll, by decide +kernel⟩
theorem k_X1_X1_sets : okV RX1 44 RX1 yX1_sets (Cond.code yX1_sets cX1_sets 7 (some .int)) 4 := ⟨g_X1_X1_sets, by decide +kernel⟩
theorem k_L_X1_thrown : okV RL 85 RX1 yX1_thrown (Cond.code yX1_thrown cX1_thrown 1 (some .int)) 0 := ⟨g_L_X1_thrown, by decide +kernel⟩
theorem k_L_L_erase : okS RL 89 yL_erase (Cond.codeWith yL_erase cL_erase 7 (some .int) [(0, 14, 17, 13), (0, 14, 21, 15)]) 6 := ⟨g_L_L_erase, by decide +kernel⟩
theorem k_L_X0_erase : okV RL 17 RX0 yX0_erase (Cond.code yX0_erase cX0_erase 5 (some .int)) 4 := ⟨g_L_X0_erase, by decide +kernel⟩
theorem k_L_X1_erase : okV RL 92 RX1 yX1_erase (Cond.code yX1_erase cX1_erase 6 (some .int)) 4 := ⟨g_L_X1_erase, by decide +kernel⟩
theorem k_L_L_eraseAll : okS RL 93 yL_eraseAll (Cond.codeWith yL_eraseAll cL_eraseAll 6 (some .int) [(0, 12, 15, 13)]) 5 := ⟨g_L_L_eraseAll, by decide +kernel⟩
theorem k_L_X0_eraseAll : okV RL 21 RX0 yX0_eraseAll (Cond.code yX0_eraseAll cX0_eraseAll 6 (some .int)) 3 := ⟨g_L_X0_eraseAll, by decide +kernel⟩
theorem k_X0_X0_loseWithReferences : okV RX0 45 RX0 yX0_loseWithReferences (Cond.code yX0_loseWithReferences cX0_loseWithReferences 5 (some .int)) 2 := ⟨g_X0_X0_loseWithReferences, by decide +kernel⟩
theorem k_X0_X0_lose : okV RX0 162 RX0 yX0_lose (Cond.code yX0_lose cX0_lose 3 (some .int)) 2 := ⟨g_X0_X0_lose, by decide +kernel⟩
theorem k_L_X1_eraseAll : okV RL 96 RX1 yX1_eraseAll (Cond.code yX1_eraseAll cX1_eraseAll 7 (some .int)) 3 := ⟨g_L_X1_eraseAll, by decide +kernel⟩
theorem k_L_L_restore : okS RL 97 yL_restore (Cond.codeWith yL_restore cL_restore 6 (some .int) [(0, 12, 15, 13), (0, 12, 19, 28), (0, 12, 23, 15)]) 5 := ⟨g_L_L_restore, by decide +kernel⟩
theorem k_L_X0_restore : okV RL 25 RX0 yX0_restore (Cond.code yX0_restore cX0_restore 4 (some .int)) 3 := ⟨g_L_X0_restore, by decide +kernel⟩
theorem k_X0_X0_needRecord : okV RX0 48 RX0 yX0_needRecord (Cond.code yX0_needRecord cX0_needRecord 2 none) 1 := ⟨g_X0_X0_needRecord, by decide +kernel⟩
theorem k_X0_X0_draftRecord : okV RX0 52 RX0 yX0_draftRecord (Cond.code yX0_draftRecord cX0_draftRecord 4 none) 2 := ⟨g_X0_X0_draftRecord, by decide +kernel⟩
theorem k_L_X1_restore : okV RL 99 RX1 yX1_restore (Cond.code yX1_restore cX1_restore 7 (some .int)) 3 := ⟨g_L_X1_restore, by decide +kernel⟩
theorem k_X1_X1_errorOfRecord : okV RX1 64 RX1 yX1_errorOfRecord (Cond.code yX1_errorOfRecord cX1_errorOfRecord 3 (some .int)) 2 := ⟨g_X1_X1_errorOfRecord, by decide +kernel⟩
theorem k_L_L_pass : okS RL 100 yL_pass (Cond.codeWith yL_pass cL_pass 4 (some .int) [(0, 9, 12, 13), (0, 9, 15, 15)]) 3 := ⟨g_L_L_pass, by decide +kernel⟩
theorem k_L_X0_pass : okV RL 30 RX0 yX0_pass (Cond.code yX0_pass cX0_pass 4 (some .int)) 1 := ⟨g_L_X0_pass, by decide +kernel⟩
theorem k_X0_X0_keepOn : okV RX0 71 RX0 yX0_keepOn (Cond.code yX0_keepOn cX0_keepOn 3 none) 2 := ⟨g_X0_X0_keepOn, by decide +kernel⟩
theorem k_X0_X0_copyDay : okV RX0 74 RX0 yX0_copyDay (Cond.code yX0_copyDay cX0_copyDay 3 none) 2 := ⟨g_X0_X0_copyDay, by decide +kernel⟩
theorem k_L_X1_pass : okV RL 103 RX1 yX1_pass (Cond.code yX1_pass cX1_pass 4 (some .int)) 1 := ⟨g_L_X1_pass, by decide +kernel⟩
theorem k_L_X0_today : okV RL 104 RX0 yX0_today (Cond.code yX0_today cX0_today 1 (some .int)) 0 := ⟨g_L_X0_today, by decide +kernel⟩
theorem k_L_X1_today : okV RL 107 RX1 yX1_today (Cond.code yX1_today cX1_today 1 (some .int)) 0 := ⟨g_L_X1_today, by decide +kernel⟩
theorem k_L_L_value : okS RL 108 yL_value (Cond.codeWith yL_value cL_value 7 (some .int) [(0, 14, 17, 13), (0, 14, 21, 28)]) 6 := ⟨g_L_L_value, by decide +kernel⟩
theorem k_L_X0_value : okV RL 34 RX0 yX0_value (Cond.code yX0_value cX0_value 5 (some .int)) 4 := ⟨g_L_X0_value, by decide +kernel⟩
theorem k_L_X1_value : okV RL 110 RX1 yX1_value (Cond.code yX1_value cX1_value 5 (some .int)) 4 := ⟨g_L_X1_value, by decide +kernel⟩
theorem k_L_L_keys : okS RL 111 yL_keys (Cond.codeWith yL_keys cL_keys 6 (some .int) [(0, 12, 15, 13), (0, 12, 19, 28)]) 5 := ⟨g_L_L_keys, by decide +kernel⟩
theorem k_L_X0_keys : okV RL 37 RX0 yX0_keys (Cond.code yX0_keys cX0_keys 6 (some .int)) 3 := ⟨g_L_X0_keys, by decide +kernel⟩
theorem k_L_X1_keys : okV RL 113 RX1 yX1_keys (Cond.code yX1_keys cX1_keys 6 (some .int)) 3 := ⟨g_L_X1_keys, by decide +kernel⟩
theorem k_L_L_joined : okS RL 114 yL_joined (Cond.codeWith yL_joined cL_joined 6 (some .int) [(0, 12, 15, 13), (0, 12, 19, 28)]) 5 := ⟨g_L_L_joined, by decide +kernel⟩
theorem k_L_X0_joined : okV RL 40 RX0 yX0_joined (Cond.code yX0_joined cX0_joined 4 (some .int)) 3 := ⟨g_L_X0_joined, by decide +kernel⟩
theorem k_X0_X0_joinedOn : okV RX0 81 RX0 yX0_joinedOn (Cond.code yX0_joinedOn cX0_joinedOn 5 (some .int)) 3 := ⟨g_X0_X0_joinedOn, by decide +kernel⟩
theorem k_L_X1_joined : okV RL 116 RX1 yX1_joined (Cond.code yX1_joined cX1_joined 4 (some .int)) 3 := ⟨g_L_X1_joined, by decide +kernel⟩
theorem k_X1_X1_joinedOf : okV RX1 68 RX1 yX1_joinedOf (Cond.code yX1_joinedOf cX1_joinedOf 5 (some .int)) 3 := ⟨g_X1_X1_joinedOf, by decide +kernel⟩
theorem k_L_L_runs : okS RL 117 yL_runs (Cond.codeWith yL_runs cL_runs 6 (some .int) [(0, 12, 15, 13), (0, 12, 19, 28)]) 5 := ⟨g_L_L_runs, by decide +kernel⟩
theorem k_L_X0_runs : okV RL 43 RX0 yX0_runs (Cond.code yX0_runs cX0_runs 7 (some .int)) 3 := ⟨g_L_X0_runs, by decide +kernel⟩
theorem k_X0_X0_startsRun : okV RX0 84 RX0 yX0_startsRun (Cond.code yX0_startsRun cX0_startsRun 5 (some .boolean)) 3 := ⟨g_X0_X0_startsRun, by decide +kernel⟩
theorem k_L_X1_runs : okV RL 119 RX1 yX1_runs (Cond.code yX1_runs cX1_runs 4 (some .int)) 3 := ⟨g_L_X1_runs, by decide +kernel⟩
theorem k_X1_X1_runsOf : okV RX1 78 RX1 yX1_runsOf (Cond.code yX1_runsOf cX1_runsOf 6 (some .int)) 3 := ⟨g_X1_X1_runsOf, by decide +kernel⟩
theorem k_X1_X1_begins : okV RX1 72 RX1 yX1_begins (Cond.code yX1_begins cX1_begins 6 (some .boolean)) 4 := ⟨g_X1_X1_begins, by decide +kernel⟩
theorem k_L_L_run : okS RL 120 yL_run (Cond.codeWith yL_run cL_run 7 (some .int) [(0, 14, 17, 13), (0, 14, 21, 28)]) 6 := ⟨g_L_L_run, by decide +kernel⟩
theorem k_L_X0_run : okV RL 46 RX0 yX0_run (Cond.code yX0_run cX0_run 7 (some .int)) 4 := ⟨g_L_X0_run, by decide +kernel⟩
theorem k_X0_X0_firstDayOfRun : okV RX0 88 RX0 yX0_firstDayOfRun (Cond.code yX0_firstDayOfRun cX0_firstDayOfRun 6 (some .int)) 3 := ⟨g_X0_X0_firstDayOfRun, by decide +kernel⟩
theorem k_X0_X0_runNumber : okV RX0 96 RX0 yX0_runNumber (Cond.code yX0_runNumber cX0_runNumber 4 (some .int)) 3 := ⟨g_X0_X0_runNumber, by decide +kernel⟩
theorem k_X0_X0_endOfRun : okV RX0 124 RX0 yX0_endOfRun (Cond.code yX0_endOfRun cX0_endOfRun 6 (some .int)) 3 := ⟨g_X0_X0_endOfRun, by decide +kernel⟩
theorem k_L_X1_run : okV RL 122 RX1 yX1_run (Cond.code yX1_run cX1_run 8 (some .int)) 4 := ⟨g_L_X1_run, by decide +kernel⟩
theorem k_X1_X1_told : okV RX1 81 RX1 yX1_told (Cond.code yX1_told cX1_told 5 (some .int)) 4 := ⟨g_X1_X1_told, by decide +kernel⟩
theorem k_X1_X1_end : okV RX1 75 RX1 yX1_end (Cond.code yX1_end cX1_end 6 (some .int)) 4 := ⟨g_X1_X1_end, by decide +kernel⟩
theorem k_L_L_joinedRuns : okS RL 123 yL_joinedRuns (Cond.codeWith yL_joinedRuns cL_joinedRuns 5 (some .int) [(0, 10, 13, 13), (0, 10, 17, 28)]) 4 := ⟨g_L_L_joinedRuns, by decide +kernel⟩
theorem k_L_X0_joinedRuns : okV RL 49 RX0 yX0_joinedRuns (Cond.code yX0_joinedRuns cX0_joinedRuns 5 (some .int)) 2 := ⟨g_L_X0_joinedRuns, by decide +kernel⟩
theorem k_X0_X0_startsJoinedRun : okV RX0 99 RX0 yX0_startsJoinedRun (Cond.code yX0_startsJoinedRun cX0_startsJoinedRun 4 (some .boolean)) 3 := ⟨g_X0_X0_startsJoinedRun, by decide +kernel⟩
theorem k_L_X1_joinedRuns : okV RL 126 RX1 yX1_joinedRuns (Cond.code yX1_joinedRuns cX1_joinedRuns 6 (some .int)) 2 := ⟨g_L_X1_joinedRuns, by decide +kernel⟩
theorem k_L_L_rows : okS RL 127 yL_rows (Cond.codeWith yL_rows cL_rows 5 (some .int) [(0, 10, 13, 13)]) 4 := ⟨g_L_L_rows, by decide +kernel⟩
theorem k_L_X0_rows : okV RL 53 RX0 yX0_rows (Cond.code yX0_rows cX0_rows 7 (some .int)) 2 := ⟨g_L_X0_rows, by decide +kernel⟩
theorem k_X0_X0_isKept : okV RX0 102 RX0 yX0_isKept (Cond.code yX0_isKept cX0_isKept 2 (some .boolean)) 1 := ⟨g_X0_X0_isKept, by decide +kernel⟩
theorem k_X0_X0_startsRow : okV RX0 106 RX0 yX0_startsRow (Cond.code yX0_startsRow cX0_startsRow 4 (some .boolean)) 3 := ⟨g_X0_X0_startsRow, by decide +kernel⟩
theorem k_X0_X0_sameRun : okV RX0 118 RX0 yX0_sameRun (Cond.code yX0_sameRun cX0_sameRun 5 (some .boolean)) 4 := ⟨g_X0_X0_sameRun, by decide +kernel⟩
theorem k_L_X1_rows : okV RL 129 RX1 yX1_rows (Cond.code yX1_rows cX1_rows 3 (some .int)) 2 := ⟨g_L_X1_rows, by decide +kernel⟩
theorem k_X1_X1_rowsOf : okV RX1 90 RX1 yX1_rowsOf (Cond.code yX1_rowsOf cX1_rowsOf 8 (some .int)) 3 := ⟨g_X1_X1_rowsOf, by decide +kernel⟩
theorem k_L_L_rowRun : okS RL 130 yL_rowRun (Cond.codeWith yL_rowRun cL_rowRun 6 (some .int) [(0, 12, 15, 13), (0, 12, 19, 28)]) 5 := ⟨g_L_L_rowRun, by decide +kernel⟩
theorem k_L_X0_rowRun : okV RL 56 RX0 yX0_rowRun (Cond.code yX0_rowRun cX0_rowRun 6 (some .int)) 3 := ⟨g_L_X0_rowRun, by decide +kernel⟩
theorem k_X0_X0_startOfRow : okV RX0 109 RX0 yX0_startOfRow (Cond.code yX0_startOfRow cX0_startOfRow 6 (some .int)) 2 := ⟨g_X0_X0_startOfRow, by decide +kernel⟩
theorem k_X0_X0_recordOfStart : okS RX0 112 yX0_recordOfStart (Cond.code yX0_recordOfStart cX0_recordOfStart 1 (some .int)) 1 := ⟨g_X0_X0_recordOfStart, by decide +kernel⟩
theorem k_X0_X0_validOfStart : okS RX0 115 yX0_validOfStart (Cond.code yX0_validOfStart cX0_validOfStart 1 (some .int)) 1 := ⟨g_X0_X0_validOfStart, by decide +kernel⟩
theorem k_L_X1_rowRun : okV RL 132 RX1 yX1_rowRun (Cond.code yX1_rowRun cX1_rowRun 4 (some .int)) 3 := ⟨g_L_X1_rowRun, by decide +kernel⟩
theorem k_X1_X1_errorOfRow : okV RX1 93 RX1 yX1_errorOfRow (Cond.code yX1_errorOfRow cX1_errorOfRow 4 (some .int)) 3 := ⟨g_X1_X1_errorOfRow, by decide +kernel⟩
theorem k_L_L_rowFrom : okS RL 133 yL_rowFrom (Cond.codeWith yL_rowFrom cL_rowFrom 6 (some .int) [(0, 12, 15, 13), (0, 12, 19, 28)]) 5 := ⟨g_L_L_rowFrom, by decide +kernel⟩
theorem k_L_X0_rowFrom : okV RL 59 RX0 yX0_rowFrom (Cond.code yX0_rowFrom cX0_rowFrom 4 (some .int)) 3 := ⟨g_L_X0_rowFrom, by decide +kernel⟩
theorem k_L_X1_rowFrom : okV RL 135 RX1 yX1_rowFrom (Cond.code yX1_rowFrom cX1_rowFrom 4 (some .int)) 3 := ⟨g_L_X1_rowFrom, by decide +kernel⟩
theorem k_L_L_rowTo : okS RL 136 yL_rowTo (Cond.codeWith yL_rowTo cL_rowTo 6 (some .int) [(0, 12, 15, 13), (0, 12, 19, 28)]) 5 := ⟨g_L_L_rowTo, by decide +kernel⟩
theorem k_L_X0_rowTo : okV RL 62 RX0 yX0_rowTo (Cond.code yX0_rowTo cX0_rowTo 9 (some .int)) 3 := ⟨g_L_X0_rowTo, by decide +kernel⟩
theorem k_L_X1_rowTo : okV RL 138 RX1 yX1_rowTo (Cond.code yX1_rowTo cX1_rowTo 4 (some .int)) 3 := ⟨g_L_X1_rowTo, by decide +kernel⟩
theorem k_L_L_corrections : okS RL 139 yL_corrections (Cond.codeWith yL_corrections cL_corrections 8 (some .int) [(0, 16, 19, 13), (0, 16, 23, 28)]) 7 := ⟨g_L_L_corrections, by decide +kernel⟩
theorem k_L_X0_corrections : okV RL 65 RX0 yX0_corrections (Cond.code yX0_corrections cX0_corrections 9 (some .int)) 5 := ⟨g_L_X0_corrections, by decide +kernel⟩
theorem k_L_X1_corrections : okV RL 141 RX1 yX1_corrections (Cond.code yX1_corrections cX1_corrections 9 (some .int)) 5 := ⟨g_L_X1_corrections, by decide +kernel⟩
theorem k_L_L_longest : okS RL 142 yL_longest (Cond.codeWith yL_longest cL_longest 6 (some .int) [(0, 12, 15, 13), (0, 12, 19, 28)]) 5 := ⟨g_L_L_longest, by decide +kernel⟩
theorem k_L_X0_longest : okV RL 68 RX0 yX0_longest (Cond.code yX0_longest cX0_longest 7 (some .int)) 3 := ⟨g_L_X0_longest, by decide +kernel⟩
theorem k_L_X1_longest : okV RL 144 RX1 yX1_longest (Cond.code yX1_longest cX1_longest 7 (some .int)) 3 := ⟨g_L_X1_longest, by decide +kernel⟩
theorem k_L_L_average : okS RL 145 yL_average (Cond.codeWith yL_average cL_average 5 (some .int) [(0, 10, 13, 13), (0, 10, 17, 28), (0, 10, 21, 15)]) 4 := ⟨g_L_L_average, by decide +kernel⟩
theorem k_L_X0_average : okV RL 71 RX0 yX0_average (Cond.code yX0_average cX0_average 7 (some .float)) 2 := ⟨g_L_X0_average, by decide +kernel⟩
theorem k_L_X1_average : okV RL 148 RX1 yX1_average (Cond.code yX1_average cX1_average 8 (some .float)) 2 := ⟨g_L_X1_average, by decide +kernel⟩
end
section
/-! plain facts: numbers, the two stores seen as one table of values, what the questions ask of it -/
theorem nI_mul (a b : Nat) : nI a * nI b = nI (a * b) := (Int32.ofNat_mul a b).symm
theorem nI_lit (z : Nat) : (OfNat.ofNat z : Int32) = nI z := rfl
theorem nI_sub1 {a : Nat} (h : 0 < a) : nI a - 1 = nI (a - 1) := by
  obtain ⟨b, rfl⟩ : ∃ b, a = b + 1 := ⟨a - 1, by omega⟩
  exact nI_pred b
def bI (b : Bool) : Int32 := cond b 1 0
theorem bI_01 (b : Bool) : bI b = 0 ∨ bI b = 1 := by cases b; exact Or.inl rfl; exact Or.inr rfl
theorem bI_0 {b : Bool} : bI b = 0 ↔ b = false := by cases b <;> decide
theorem bI_t {b : Bool} (h : b = true) : bI b = 1 := by rw [h]; rfl
theorem bI_f {b : Bool} (h : b = false) : bI b = 0 := by rw [h]; rfl
theorem some_int {x y : Int32} (h : x = y) : (some (Value.int x)) = some (Value.int y) := by rw [h]
section
variable {p : Program} {l : Launch} {e : Env} {R : Room} {s : State} {m : MethodId} {args : Array Value} {below : List Frame} {meth : Method} {c : Code} {D : va_G} {A : Nat → Prop} {tys : List (ClassId × FieldType)} {cc : ByteArray} {own : String} {n cells slots pc : Nat} {Q : State → Prop} {ws : va_W} {L : List (Nat × Value)} {st : List Value}
theorem gg_b_eq {b : Bool} {off : Int} (K : kx p s m args meth c D A tys cc own n) {tgt : Nat} (hd : decode cc pc = .ok (.ifCond .eq off, 3)) (ht : (pc : Int) + off = (tgt : Int)) (kt : b = false → gg p l e R s m args below meth c D A n cells slots Q ws tgt L st) (kf : b = true → gg p l e R s m args below meth c D A n cells slots Q ws (pc + 3) L st) : gg p l e R s m args below meth c D A n cells slots Q ws pc L (.int (bI b) :: st) :=
  gg_if_eq K hd ht (fun h => kt (bI_0.mp h)) (fun h => kf (by cases b; exact absurd rfl h; rfl))
theorem gg_b_ne {b : Bool} {off : Int} (K : kx p s m args meth c D A tys cc own n) {tgt : Nat} (hd : decode cc pc = .ok (.ifCond .ne off, 3)) (ht : (pc : Int) + off = (tgt : Int)) (kt : b = true → gg p l e R s m args below meth c D A n cells slots Q ws tgt L st) (kf : b = false → gg p l e R s m args below meth c D A n cells slots Q ws (pc + 3) L st) : gg p l e R s m args below meth c D A n cells slots Q ws pc L (.int (bI b) :: st) :=
  gg_if_ne K hd ht (fun h => kt (by cases b; exact absurd rfl h; rfl)) (fun h => kf (bI_0.mp h))
end
abbrev VT : Type := Nat → Nat → Nat → Int32
def ix (r l d : Nat) : Nat := (r * 16 + l) * 60 + d
theorem ix_lt {r l d : Nat} (hr : r < 60) (hl : l < 16) (hd : d < 60) : ix r l d < 57600 := by unfold ix; omega
theorem ix_inj {r l d r' l' d' : Nat} (hl : l < 16) (hd : d < 60) (hl' : l' < 16) (hd' : d' < 60) (h : ix r l d = ix r' l' d') : r = r' ∧ l = l' ∧ d = d' := by
  unfold ix at h
  omega
/-- what keptOn says for a day -/
def kq (kp : Nat → Int32) (r : Nat) : Nat := (kp r).toNatClampNeg
def vX (k kp : Nat → Int32) (T : Nat) : VT := fun r l d => if r ≤ T ∧ l < 16 ∧ d < 60 then k (ix (kq kp r) l d) else -1
def vM (k : Nat → Int32) (T : Nat) : VT := fun r l d => if r ≤ T ∧ l < 16 ∧ d < 60 then k (ix r l d) - 1 else -1
/-- the days of record: which stand for themselves -/
def okX (kp : Nat → Int32) (T : Nat) : Prop := T < 60 ∧ kp T = nI T ∧ kp 0 = nI 0 ∧ ∀ r, r ≤ T → (kp r = nI (kq kp r) ∧ kq kp r ≤ r) ∧ (kp r = nI r ∨ (0 < r ∧ kp r = kp (r - 1)))
theorem kq_nI {kp : Nat → Int32} {r q : Nat} (h : kp r = nI q) (hq : q < 60) : kq kp r = q := by
  unfold kq
  rw [h]
  exact nI_clamp (by omega)
def stF (f : Nat → Int32) (d : Nat) : Bool := decide (¬ f d = -1 ∧ (d = 0 ∨ ¬ f (d - 1) = f d))
def enF (f : Nat → Int32) (v : Int32) : Nat → Nat → Nat
  | 0, d => d
  | n + 1, d => if f d = v then enF f v n (d + 1) else d
def endF (f : Nat → Int32) (d : Nat) : Nat := enF f (f d) (59 - d) (d + 1)
def runN (f : Nat → Int32) (d : Nat) : Int32 := nI 10000 * nI d + nI 100 * nI (endF f d) + f d
def toldF (f : Nat → Int32) (d : Nat) : Int32 := if stF f d = true then runN f d else -1
theorem enF_le (f : Nat → Int32) (v : Int32) : ∀ (n d : Nat), enF f v n d ≤ d + n
  | 0, d => Nat.le_refl _
  | n + 1, d => by
    unfold enF
    split
    · have := enF_le f v n (d + 1); omega
    · omega
theorem enF_ge (f : Nat → Int32) (v : Int32) : ∀ (n d : Nat), d ≤ enF f v n d
  | 0, d => Nat.le_refl _
  | n + 1, d => by
    unfold enF
    split
    · have := enF_ge f v n (d + 1); omega
    · omega
theorem endF_le {f : Nat → Int32} {d : Nat} (h : d < 60) : endF f d ≤ 60 := by
  have := enF_le f (f d) (59 - d) (d + 1)
  unfold endF
  omega
theorem endF_gt (f : Nat → Int32) (d : Nat) : d < endF f d := enF_ge f (f d) (59 - d) (d + 1)
end
section
/-! ===== how many places have a property ===== -/
def fb_ct (p : Nat → Bool) : Nat → Nat
  | 0 => 0
  | n + 1 => fb_ct p n + (if p n then 1 else 0)
theorem fb_ct_succ (p : Nat → Bool) (n : Nat) : fb_ct p (n + 1) = fb_ct p n + (if p n then 1 else 0) := rfl
theorem fb_ct_le (p : Nat → Bool) : ∀ n, fb_ct p n ≤ n
  | 0 => Nat.le_refl _
  | n + 1 => by
    have h := fb_ct_le p n
    rw [fb_ct_succ]
    split <;> omega
theorem fb_ct_step (p : Nat → Bool) (m : Nat) : ∀ n, fb_ct p m ≤ fb_ct p (m + n)
  | 0 => Nat.le_refl _
  | n + 1 => by
    have h := fb_ct_step p m n
    show fb_ct p m ≤ fb_ct p (m + n + 1)
    rw [fb_ct_succ]
    omega
theorem fb_ct_mono (p : Nat → Bool) {m n : Nat} (h : m ≤ n) : fb_ct p m ≤ fb_ct p n := by
  have := fb_ct_step p m (n - m)
  rwa [Nat.add_sub_cancel' h] at this
theorem fb_ct_cong {p q : Nat → Bool} : ∀ {n : Nat}, (∀ k, k < n → p k = q k) → fb_ct p n = fb_ct q n
  | 0, _ => rfl
  | n + 1, h => by
    rw [fb_ct_succ, fb_ct_succ, fb_ct_cong (fun k hk => h k (by omega)), h n (by omega)]
/-- one place changed -/
theorem fb_ct_out (p : Nat → Bool) (b : Bool) {i n : Nat} (h : n ≤ i) : fb_ct (fun k => if k = i then b else p k) n = fb_ct p n :=
  fb_ct_cong fun k hk => if_neg (by omega)
theorem fb_ct_upd (p : Nat → Bool) (b : Bool) {i : Nat} : ∀ {n : Nat}, i < n → fb_ct (fun k => if k = i then b else p k) n + (if p i then 1 else 0) = fb_ct p n + (if b then 1 else 0)
  | 0, h => absurd h (Nat.not_lt_zero i)
  | n + 1, h => by
    rw [fb_ct_succ, fb_ct_succ]
    rcases Nat.lt_or_ge i n with q | q
    · have := fb_ct_upd p b q
      have e : (if n = i then b else p n) = p n := if_neg (by omega)
      rw [e]
      omega
    · have e : i = n := by omega
      subst e
      rw [fb_ct_out p b (Nat.le_refl _)]
      simp only [if_true]
      omega
theorem fb_ct_sub {p q : Nat → Bool} : ∀ {n : Nat}, (∀ k, k < n → p k = true → q k = true) → fb_ct p n ≤ fb_ct q n
  | 0, _ => Nat.le_refl _
  | n + 1, h => by
    have h1 := fb_ct_sub (n := n) (p := p) (q := q) (fun k hk => h k (by omega))
    have h2 := h n (by omega)
    rw [fb_ct_succ, fb_ct_succ]
    cases hp : p n <;> cases hq : q n <;> simp_all <;> omega
theorem fb_ct_or {p q : Nat → Bool} : ∀ {n : Nat}, (∀ k, k < n → ¬ (p k = true ∧ q k = true)) → fb_ct (fun k => p k || q k) n = fb_ct p n + fb_ct q n
  | 0, _ => rfl
  | n + 1, h => by
    have h1 := fb_ct_or (n := n) (p := p) (q := q) (fun k hk => h k (by omega))
    have h2 := h n (by omega)
    rw [fb_ct_succ, fb_ct_succ, fb_ct_succ, h1]
    cases hp : p n <;> cases hq : q n <;> simp_all <;> omega
theorem fb_ct_not (p : Nat → Bool) : ∀ n, fb_ct p n + fb_ct (fun k => !p k) n = n
  | 0 => rfl
  | n + 1 => by
    have h := fb_ct_not p n
    rw [fb_ct_succ, fb_ct_succ]
    cases p n <;> simp <;> omega
theorem fb_ct_split (p : Nat → Bool) (m : Nat) : ∀ n, fb_ct p (m + n) = fb_ct p m + fb_ct (fun k => p (m + k)) n
  | 0 => rfl
  | n + 1 => by
    have h := fb_ct_split p m n
    show fb_ct p (m + n + 1) = _
    rw [fb_ct_succ, fb_ct_succ, h, Nat.add_assoc]
theorem fb_ct_zero {p : Nat → Bool} : ∀ {n : Nat}, fb_ct p n = 0 ↔ ∀ k, k < n → p k = false
  | 0 => ⟨fun _ k hk => absurd hk (Nat.not_lt_zero k), fun _ => rfl⟩
  | n + 1 => by
    have h := fb_ct_zero (p := p) (n := n)
    rw [fb_ct_succ]
    constructor
    · intro e k hk
      have e1 : fb_ct p n = 0 := by omega
      rcases Nat.lt_or_ge k n with q | q
      · exact h.mp e1 k q
      · have ek : k = n := by omega
        subst ek
        cases hp : p k
        · rfl
        · simp [hp] at e
    · intro a
      rw [h.mpr (fun k hk => a k (by omega)), a n (by omega)]
      rfl
theorem fb_ct_pos {p : Nat → Bool} {n : Nat} : 0 < fb_ct p n ↔ ∃ k, k < n ∧ p k = true := by
  constructor
  · intro h
    refine Classical.byContradiction fun hx => ?_
    have := fb_ct_zero.mpr (fun k hk => by
      cases hp : p k
      · rfl
      · exact absurd ⟨k, hk, hp⟩ hx : ∀ k, k < n → p k = false)
    omega
  · rintro ⟨k, hk, hp⟩
    rcases Nat.eq_zero_or_pos (fb_ct p n) with e | e
    · have := fb_ct_zero.mp e k hk
      rw [this] at hp
      cases hp
    · exact e
theorem fb_ct_all {p : Nat → Bool} {n : Nat} : fb_ct p n = n ↔ ∀ k, k < n → p k = true := by
  have h := fb_ct_not p n
  constructor
  · intro e k hk
    have z : fb_ct (fun k => !p k) n = 0 := by omega
    have := fb_ct_zero.mp z k hk
    cases hp : p k
    · simp [hp] at this
    · rfl
  · intro a
    have z : fb_ct (fun k => !p k) n = 0 := fb_ct_zero.mpr (fun k hk => by simp [a k hk])
    omega
/-- the k-th place with the property -/
theorem fb_ct_kth {p : Nat → Bool} {k : Nat} : ∀ {n : Nat}, k < fb_ct p n → ∃ i, i < n ∧ p i = true ∧ fb_ct p i = k
  | 0, h => absurd h (Nat.not_lt_zero k)
  | n + 1, h => by
    rcases Nat.lt_or_ge k (fb_ct p n) with q | q
    · obtain ⟨i, h1, h2⟩ := fb_ct_kth q
      exact ⟨i, by omega, h2⟩
    · rw [fb_ct_succ] at h
      cases hp : p n
      · simp [hp] at h; omega
      · simp [hp] at h
        exact ⟨n, by omega, hp, by omega⟩
theorem fb_ct_kth_one {p : Nat → Bool} {i j : Nat} (hi : p i = true) (hj : p j = true) (e : fb_ct p i = fb_ct p j) : i = j := by
  have key : ∀ a b : Nat, a < b → p a = true → fb_ct p a < fb_ct p b := by
    intro a b hab ha
    have h := fb_ct_mono p (show a + 1 ≤ b from hab)
    rw [fb_ct_succ, ha] at h
    simp at h
    omega
  rcases Nat.lt_trichotomy i j with q | q | q
  · have := key i j q hi; omega
  · exact q
  · have := key j i q hj; omega
/-! ===== sums over a range: one place changed, parts, bounds ===== -/
def fb_sm (f : Nat → Nat) : Nat → Nat
  | 0 => 0
  | n + 1 => fb_sm f n + f n
theorem fb_sm_succ (f : Nat → Nat) (n : Nat) : fb_sm f (n + 1) = fb_sm f n + f n := rfl
theorem fb_sm_cong {f g : Nat → Nat} : ∀ {n : Nat}, (∀ k, k < n → f k = g k) → fb_sm f n = fb_sm g n
  | 0, _ => rfl
  | n + 1, h => by rw [fb_sm_succ, fb_sm_succ, fb_sm_cong (fun k hk => h k (by omega)), h n (by omega)]
theorem fb_sm_out (f : Nat → Nat) (v : Nat) {i n : Nat} (h : n ≤ i) : fb_sm (fun k => if k = i then v else f k) n = fb_sm f n :=
  fb_sm_cong fun k hk => if_neg (by omega)
theorem fb_sm_upd (f : Nat → Nat) (v : Nat) {i : Nat} : ∀ {n : Nat}, i < n → fb_sm (fun k => if k = i then v else f k) n + f i = fb_sm f n + v
  | 0, h => absurd h (Nat.not_lt_zero i)
  | n + 1, h => by
    rw [fb_sm_succ, fb_sm_succ]
    rcases Nat.lt_or_ge i n with q | q
    · have := fb_sm_upd f v q
      have e : (if n = i then v else f n) = f n := if_neg (by omega)
      rw [e]
      omega
    · have e : i = n := by omega
      subst e
      rw [fb_sm_out f v (Nat.le_refl _)]
      simp only [if_true]
      omega
theorem fb_sm_add (f g : Nat → Nat) : ∀ n, fb_sm (fun k => f k + g k) n = fb_sm f n + fb_sm g n
  | 0 => rfl
  | n + 1 => by
    have h := fb_sm_add f g n
    rw [fb_sm_succ, fb_sm_succ, fb_sm_succ, h]
    omega
theorem fb_sm_le {f g : Nat → Nat} : ∀ {n : Nat}, (∀ k, k < n → f k ≤ g k) → fb_sm f n ≤ fb_sm g n
  | 0, _ => Nat.le_refl _
  | n + 1, h => by
    have h1 := fb_sm_le (n := n) (f := f) (g := g) (fun k hk => h k (by omega))
    have h2 := h n (by omega)
    rw [fb_sm_succ, fb_sm_succ]
    omega
theorem fb_sm_const (c : Nat) : ∀ n, fb_sm (fun _ => c) n = n * c
  | 0 => by rw [Nat.zero_mul]; rfl
  | n + 1 => by rw [fb_sm_succ, fb_sm_const c n, Nat.succ_mul]
theorem fb_sm_bound {f : Nat → Nat} {c n : Nat} (h : ∀ k, k < n → f k ≤ c) : fb_sm f n ≤ n * c := by
  rw [← fb_sm_const c n]
  exact fb_sm_le h
theorem fb_sm_mono (f : Nat → Nat) (m : Nat) : ∀ n, fb_sm f m ≤ fb_sm f (m + n)
  | 0 => Nat.le_refl _
  | n + 1 => by
    have h := fb_sm_mono f m n
    show fb_sm f m ≤ fb_sm f (m + n + 1)
    rw [fb_sm_succ]
    omega
theorem fb_sm_part (f : Nat → Nat) {i n : Nat} (h : i < n) : fb_sm f i + f i ≤ fb_sm f n := by
  have := fb_sm_mono f (i + 1) (n - (i + 1))
  rw [fb_sm_succ, show i + 1 + (n - (i + 1)) = n by omega] at this
  exact this
theorem fb_sm_split (f : Nat → Nat) (m : Nat) : ∀ n, fb_sm f (m + n) = fb_sm f m + fb_sm (fun k => f (m + k)) n
  | 0 => rfl
  | n + 1 => by
    have h := fb_sm_split f m n
    show fb_sm f (m + n + 1) = _
    rw [fb_sm_succ, fb_sm_succ, h, Nat.add_assoc]
theorem fb_sm_zero {f : Nat → Nat} {n : Nat} (h : fb_sm f n = 0) : ∀ k, k < n → f k = 0 := fun k hk => by
  have := fb_sm_part f hk
  omega
/-- the same over whole numbers -/
def fb_si (f : Nat → Int) : Nat → Int
  | 0 => 0
  | n + 1 => fb_si f n + f n
end
section
/-! Twotimes: what its calls need of their arguments; the store read -/
set_option maxRecDepth 100000 in
theorem x_index {l : Launch} (r li d : Nat) {x y z : Int32} (hx : x = nI r) (hy : y = nI li) (hz : z = nI d) : mS l yX0_index cX0_index 3 (some .int) (rmk 0 0 0 0) [.int x, .int y, .int z] (.int (nI (ix r li d))) := by
  intro D tys
  refine mA_intro (own := RX0) [(0, .int x), (1, .int y), (2, .int z)] (by decide +kernel) rfl rfl rfl rfl ?_
  intro p e s m args below meth c A K hr hin
  subst hx hy hz
  refine gg_iload_n K (i := 0) dX0_index_0 rfl rfl ?_
  refine gg_bipush K (v := 16) dX0_index_1 (by decide) ?_
  refine gg_imul K dX0_index_3 ?_
  refine gg_iload_n K (i := 1) dX0_index_4 rfl rfl ?_
  refine gg_iadd K dX0_index_5 ?_
  refine gg_bipush K (v := 60) dX0_index_6 (by decide) ?_
  refine gg_imul K dX0_index_8 ?_
  refine gg_iload_n K (i := 2) dX0_index_9 rfl rfl ?_
  refine gg_iadd K dX0_index_10 ?_
  exact gg_iret K hr dX0_index_11 (Nat.zero_le _) (Nat.zero_le _) (some_int (by simp only [nI_lit, nI_mul, nI_add]; rfl))
set_option maxRecDepth 100000 in
theorem x_line {l : Launch} (t k : Nat) {x y : Int32} (hx : x = nI t) (hy : y = nI k) : mS l yX0_line cX0_line 2 (some .int) (rmk 0 0 0 0) [.int x, .int y] (.int (nI (t * 8 + k))) := by
  intro D tys
  refine mA_intro (own := RX0) [(0, .int x), (1, .int y)] (by decide +kernel) rfl rfl rfl rfl ?_
  intro p e s m args below meth c A K hr hin
  subst hx hy
  refine gg_iload_n K (i := 0) dX0_line_0 rfl rfl ?_
  refine gg_bipush K (v := 8) dX0_line_1 (by decide) ?_
  refine gg_imul K dX0_line_3 ?_
  refine gg_iload_n K (i := 1) dX0_line_4 rfl rfl ?_
  refine gg_iadd K dX0_line_5 ?_
  exact gg_iret K hr dX0_line_6 (Nat.zero_le _) (Nat.zero_le _) (some_int (by simp only [nI_lit, nI_mul, nI_add]))
set_option maxRecDepth 100000 in
theorem x_valuesOf {l : Launch} {x : Int32} : mS l yX0_valuesOf cX0_valuesOf 1 (some .int) (rmk 0 0 0 0) [.int x] (.int (if x = 0 then 100 else 8)) := by
  intro D tys
  refine mA_intro (own := RX0) [(0, .int x)] (by decide +kernel) rfl rfl rfl rfl ?_
  intro p e s m args below meth c A K hr hin
  refine gg_iload_n K (i := 0) dX0_valuesOf_0 rfl rfl ?_
  refine gg_if_ne K (tgt := 9) dX0_valuesOf_1 (by decide) (fun h1 => ?_) (fun h1 => ?_)
  · refine gg_bipush K (v := 8) dX0_valuesOf_9 (by decide) ?_
    exact gg_iret K hr dX0_valuesOf_11 (Nat.zero_le _) (Nat.zero_le _) (some_int (by rw [if_neg h1]))
  · refine gg_bipush K (v := 100) dX0_valuesOf_4 (by decide) ?_
    refine gg_goto K (tgt := 11) dX0_valuesOf_6 (by decide) ?_
    exact gg_iret K hr dX0_valuesOf_11 (Nat.zero_le _) (Nat.zero_le _) (some_int (by rw [if_pos h1]))
set_option maxRecDepth 100000 in
theorem x_recordOfStart {l : Launch} {x : Int32} : mS l yX0_recordOfStart cX0_recordOfStart 1 (some .int) (rmk 0 0 0 0) [.int x] (.int (x / 60)) := by
  intro D tys
  refine mA_intro (own := RX0) [(0, .int x)] (by decide +kernel) rfl rfl rfl rfl ?_
  intro p e s m args below meth c A K hr hin
  refine gg_iload_n K (i := 0) dX0_recordOfStart_0 rfl rfl ?_
  refine gg_bipush K (v := 60) dX0_recordOfStart_1 (by decide) ?_
  refine gg_idiv K dX0_recordOfStart_3 (by decide) ?_
  exact gg_iret K hr dX0_recordOfStart_4 (Nat.zero_le _) (Nat.zero_le _) rfl
set_option maxRecDepth 100000 in
theorem x_validOfStart {l : Launch} {x : Int32} : mS l yX0_validOfStart cX0_validOfStart 1 (some .int) (rmk 0 0 0 0) [.int x] (.int (x - x / 60 * 60)) := by
  intro D tys
  refine mA_intro (own := RX0) [(0, .int x)] (by decide +kernel) rfl rfl rfl rfl ?_
  intro p e s m args below meth c A K hr hin
  refine gg_iload_n K (i := 0) dX0_validOfStart_0 rfl rfl ?_
  refine gg_bipush K (v := 60) dX0_validOfStart_1 (by decide) ?_
  refine gg_irem K dX0_validOfStart_3 (by decide) ?_
  exact gg_iret K hr dX0_validOfStart_4 (Nat.zero_le _) (Nat.zero_le _) rfl
set_option maxRecDepth 100000 in
theorem x_knownOn {l : Launch} {Z : ZT} {X : XT} {k kp dr : Nat → Int32} {td : Int32} {T : Nat} (r li d : Nat) {x y z : Int32} (ok : okX kp T) (hr0 : r ≤ T) (hl0 : li < 16) (hd0 : d < 60) (hx : x = nI r) (hy : y = nI li) (hz : z = nI d) : mR l Z yX0_knownOn cX0_knownOn 5 (some .int) (rmk 1 30 0 0) (wX Z X k kp dr td) [.ref X.1, .int x, .int y, .int z] (.int (vX k kp T r li d)) := by
  refine mA_intro (own := RX0) [(0, .ref X.1), (1, .int x), (2, .int y), (3, .int z)] (by decide +kernel) rfl rfl rfl rfl ?_
  intro p e s m args below meth c A K hr hin
  obtain ⟨o1, o2, o3, o4⟩ := ok
  obtain ⟨⟨q1, q2⟩, -⟩ := o4 r hr0
  have hv : vX k kp T r li d = k (ix (kq kp r) li d) := if_pos ⟨hr0, hl0, hd0⟩
  have hlt := ix_lt (r := kq kp r) (by omega) hl0 hd0
  subst hx hy hz
  refine gg_iload_n K (i := 1) dX0_knownOn_0 rfl rfl ?_
  refine gg_if_lt K (tgt := 10) dX0_knownOn_1 (by decide) (fun h1 => ?_) (fun h1 => ?_)
  · exact absurd h1 (nI_pos (by omega))
  refine gg_iload_n K (i := 1) dX0_knownOn_4 rfl rfl ?_
  refine gg_bipush K (v := 60) dX0_knownOn_5 (by decide) ?_
  refine gg_icmp_lt K (tgt := 12) dX0_knownOn_7 (by decide) (fun h7 => ?_) (fun h7 => ?_)
  rotate_left
  · exact absurd (nI_lt (b := 60) (by omega) (by omega)) h7
  refine gg_aload_n K (i := 0) dX0_knownOn_12 rfl rfl ?_
  refine gX_keptOn K dX0_knownOn_13 ?_
  refine gg_iload_n K (i := 1) dX0_knownOn_16 rfl rfl ?_
  refine gX_ld_kept r K rfl (by omega) dX0_knownOn_17 ?_
  refine gg_iload_n K (i := 2) dX0_knownOn_18 rfl rfl ?_
  refine gg_iload_n K (i := 3) dX0_knownOn_19 rfl rfl ?_
  refine gg_callSR K k_X0_X0_index (x_index (kq kp r) li d q1 rfl rfl) dX0_knownOn_20 rfl rfl rfl rfl ⟨rfl, rfl⟩ ?_
  refine gg_istore K dX0_knownOn_23 (by decide) ?_
  refine gg_iload K dX0_knownOn_25 rfl ?_
  refine gg_if_lt K (tgt := 40) dX0_knownOn_27 (by decide) (fun h27 => ?_) (fun h27 => ?_)
  · exact absurd h27 (nI_pos (by omega))
  refine gg_iload K dX0_knownOn_30 rfl ?_
  refine gg_aload_n K (i := 0) dX0_knownOn_32 rfl rfl ?_
  refine gX_known K dX0_knownOn_33 ?_
  refine gX_len_known K dX0_knownOn_36 ?_
  refine gg_icmp_lt K (tgt := 44) dX0_knownOn_37 (by decide) (fun h37 => ?_) (fun h37 => ?_)
  rotate_left
  · exact absurd (nI_lt (by omega) (by omega)) h37
  refine gg_aload_n K (i := 0) dX0_knownOn_44 rfl rfl ?_
  refine gX_known K dX0_knownOn_45 ?_
  refine gg_iload K dX0_knownOn_48 rfl ?_
  refine gX_ld_known (ix (kq kp r) li d) K rfl hlt dX0_knownOn_50 ?_
  exact gg_iret K hr dX0_knownOn_51 (Nat.zero_le _) (Nat.zero_le _) ⟨some_int hv.symm, rfl⟩
end
section
/-! Twotimes: runs, rows, joins of the store read -/
theorem nI_inc (j : Nat) : nI j + Int32.ofInt 1 = nI (j + 1) := nI_1 j
theorem i_le {a b : Nat} (h : nI a ≤ nI b) (ha : a < 2 ^ 31 := by omega) (hb : b < 2 ^ 31 := by omega) : a ≤ b := (nI_leI ha hb).mp h
theorem i_lt {a b : Nat} (h : nI a < nI b) (ha : a < 2 ^ 31 := by omega) (hb : b < 2 ^ 31 := by omega) : a < b := (nI_ltI ha hb).mp h
theorem i_nle {a b : Nat} (h : ¬ nI a ≤ nI b) (ha : a < 2 ^ 31 := by omega) (hb : b < 2 ^ 31 := by omega) : b < a := Nat.not_le.mp (fun q => h ((nI_leI ha hb).mpr q))
theorem i_nlt {a b : Nat} (h : ¬ nI a < nI b) (ha : a < 2 ^ 31 := by omega) (hb : b < 2 ^ 31 := by omega) : b ≤ a := Nat.not_lt.mp (fun q => h ((nI_ltI ha hb).mpr q))
theorem i_eq {a b : Nat} (h : nI a = nI b) (ha : a < 2 ^ 31 := by omega) (hb : b < 2 ^ 31 := by omega) : a = b := (nI_eq ha hb).mp h
theorem i_ne {a b : Nat} (h : ¬ nI a = nI b) : ¬ a = b := fun q => h (by rw [q])
theorem gg_loop {p : Program} {l : Launch} {e : Env} {R : Room} {s : State} {m : MethodId} {args : Array Value} {below : List Frame} {meth : Method} {c : Code} {D : va_G} {A : Nat → Prop} {n cells slots pc : Nat} {Q : State → Prop} (I : Nat → va_W → List (Nat × Value) → Prop) (h0 : ∀ (w : va_W) (L : List (Nat × Value)), ¬ I 0 w L)
    (step : ∀ (i : Nat) (w : va_W) (L : List (Nat × Value)), I (i + 1) w L → (∀ (w' : va_W) (L' : List (Nat × Value)), I i w' L' → gg p l e R s m args below meth c D A n cells slots Q w' pc L' []) → gg p l e R s m args below meth c D A n cells slots Q w pc L []) : ∀ (i : Nat) (w : va_W) (L : List (Nat × Value)), I i w L → gg p l e R s m args below meth c D A n cells slots Q w pc L []
  | 0, w, L, h => absurd h (h0 w L)
  | i + 1, w, L, h => step i w L h (fun w' L' h' => gg_loop I h0 step i w' L' h')
theorem stF_t {f : Nat → Int32} {d : Nat} (h1 : ¬ f d = -1) (h2 : d = 0 ∨ ¬ f (d - 1) = f d) : stF f d = true := decide_eq_true ⟨h1, h2⟩
theorem stF_f {f : Nat → Int32} {d : Nat} (h : ¬ (¬ f d = -1 ∧ (d = 0 ∨ ¬ f (d - 1) = f d))) : stF f d = false := decide_eq_false h
theorem bI_e {b : Bool} {x : Int32} (h : x = bI b) : x = 0 ∨ x = 1 := by rw [h]; exact bI_01 b
set_option maxRecDepth 100000 in
theorem x_startsRun {l : Launch} {Z : ZT} {X : XT} {k kp dr : Nat → Int32} {td : Int32} {T : Nat} (r li d : Nat) {x y z : Int32} (ok : okX kp T) (hr0 : r ≤ T) (hl0 : li < 16) (hd0 : d < 60) (hx : x = nI r) (hy : y = nI li) (hz : z = nI d) : mR l Z yX0_startsRun cX0_startsRun 5 (some .boolean) (rmk 2 60 0 0) (wX Z X k kp dr td) [.ref X.1, .int x, .int y, .int z] (.int (bI (stF (vX k kp T r li) d))) := by
  refine mA_intro (own := RX0) [(0, .ref X.1), (1, .int x), (2, .int y), (3, .int z)] (by decide +kernel) rfl rfl rfl rfl ?_
  intro p e s m args below meth c A K hr hin
  subst hx hy hz
  refine gg_aload_n K (i := 0) dX0_startsRun_0 rfl rfl ?_
  refine gg_iload_n K (i := 1) dX0_startsRun_1 rfl rfl ?_
  refine gg_iload_n K (i := 2) dX0_startsRun_2 rfl rfl ?_
  refine gg_iload_n K (i := 3) dX0_startsRun_3 rfl rfl ?_
  refine gg_callRX K k_X0_X0_knownOn (x_knownOn r li d ok hr0 hl0 hd0 rfl rfl rfl) dX0_startsRun_4 rfl rfl rfl rfl ⟨rfl, rfl⟩ ?_
  refine gg_istore K dX0_startsRun_7 (by decide) ?_
  refine gg_iload K dX0_startsRun_9 rfl ?_
  refine gg_iconst K (v := (-1)) dX0_startsRun_11 (by decide) ?_
  refine gg_icmp_eq K (tgt := 37) dX0_startsRun_12 (by decide) (fun h12 => ?_) (fun h12 => ?_)
  · refine gg_iconst K (v := 0) dX0_startsRun_37 (by decide) ?_
    exact gg_zret K hr dX0_startsRun_38 (Or.inl rfl) (Nat.zero_le _) (Nat.zero_le _) ⟨some_int (bI_f (stF_f (fun q => q.1 h12))).symm, rfl⟩
  refine gg_iload_n K (i := 3) dX0_startsRun_15 rfl rfl ?_
  refine gg_if_eq K (tgt := 33) dX0_startsRun_16 (by decide) (fun h16 => ?_) (fun h16 => ?_)
  · refine gg_iconst K (v := 1) dX0_startsRun_33 (by decide) ?_
    refine gg_goto K (tgt := 38) dX0_startsRun_34 (by decide) ?_
    exact gg_zret K hr dX0_startsRun_38 (Or.inr rfl) (Nat.zero_le _) (Nat.zero_le _) ⟨some_int (bI_t (stF_t h12 (Or.inl (i_eq (b := 0) h16)))).symm, rfl⟩
  have hd1 : ¬ d = 0 := fun q => h16 (by rw [q]; rfl)
  refine gg_aload_n K (i := 0) dX0_startsRun_19 rfl rfl ?_
  refine gg_iload_n K (i := 1) dX0_startsRun_20 rfl rfl ?_
  refine gg_iload_n K (i := 2) dX0_startsRun_21 rfl rfl ?_
  refine gg_iload_n K (i := 3) dX0_startsRun_22 rfl rfl ?_
  refine gg_iconst K (v := 1) dX0_startsRun_23 (by decide) ?_
  refine gg_isub K dX0_startsRun_24 ?_
  refine gg_callRX K k_X0_X0_knownOn (x_knownOn r li (d - 1) ok hr0 hl0 (by omega) rfl rfl (nI_sub1 (by omega))) dX0_startsRun_25 rfl rfl rfl rfl ⟨rfl, rfl⟩ ?_
  refine gg_iload K dX0_startsRun_28 rfl ?_
  refine gg_icmp_eq K (tgt := 37) dX0_startsRun_30 (by decide) (fun h30 => ?_) (fun h30 => ?_)
  · refine gg_iconst K (v := 0) dX0_startsRun_37 (by decide) ?_
    exact gg_zret K hr dX0_startsRun_38 (Or.inl rfl) (Nat.zero_le _) (Nat.zero_le _) ⟨some_int (bI_f (stF_f (fun q => q.2.elim hd1 (fun z => z h30)))).symm, rfl⟩
  · refine gg_iconst K (v := 1) dX0_startsRun_33 (by decide) ?_
    refine gg_goto K (tgt := 38) dX0_startsRun_34 (by decide) ?_
    exact gg_zret K hr dX0_startsRun_38 (Or.inr rfl) (Nat.zero_le _) (Nat.zero_le _) ⟨some_int (bI_t (stF_t h12 (Or.inr h30))).symm, rfl⟩
set_option maxRecDepth 100000 in
theorem x_endOfRun {l : Launch} {Z : ZT} {X : XT} {k kp dr : Nat → Int32} {td : Int32} {T : Nat} (r li d : Nat) {x y z : Int32} (ok : okX kp T) (hr0 : r ≤ T) (hl0 : li < 16) (hd0 : d < 60) (hx : x = nI r) (hy : y = nI li) (hz : z = nI d) : mR l Z yX0_endOfRun cX0_endOfRun 6 (some .int) (rmk 2 60 0 0) (wX Z X k kp dr td) [.ref X.1, .int x, .int y, .int z] (.int (nI (endF (vX k kp T r li) d))) := by
  refine mA_intro (own := RX0) [(0, .ref X.1), (1, .int x), (2, .int y), (3, .int z)] (by decide +kernel) rfl rfl rfl rfl ?_
  intro p e s m args below meth c A K hr hin
  subst hx hy hz
  refine gg_aload_n K (i := 0) dX0_endOfRun_0 rfl rfl ?_
  refine gg_iload_n K (i := 1) dX0_endOfRun_1 rfl rfl ?_
  refine gg_iload_n K (i := 2) dX0_endOfRun_2 rfl rfl ?_
  refine gg_iload_n K (i := 3) dX0_endOfRun_3 rfl rfl ?_
  refine gg_callRX K k_X0_X0_knownOn (x_knownOn r li d ok hr0 hl0 hd0 rfl rfl rfl) dX0_endOfRun_4 rfl rfl rfl rfl ⟨rfl, rfl⟩ ?_
  refine gg_istore K dX0_endOfRun_7 (by decide) ?_
  refine gg_iload_n K (i := 3) dX0_endOfRun_9 rfl rfl ?_
  refine gg_iconst K (v := 1) dX0_endOfRun_10 (by decide) ?_
  refine gg_iadd K dX0_endOfRun_11 ?_
  refine gg_top (nI_1 d) ?_
  refine gg_istore K dX0_endOfRun_12 (by decide) ?_
  refine gg_sub (L' := [(5, .int (nI (d + 1))), (4, .int ((vX k kp T r li d))), (0, .ref X.1), (1, .int (nI r)), (2, .int (nI li)), (3, .int (nI d))]) ⟨rfl, rfl, rfl, rfl, rfl, rfl, trivial⟩ ?_
  refine gg_loop (fun i w L => ∃ j : Nat, j + i = 61 ∧ w = wX Z X k kp dr td ∧ L = [(5, .int (nI j)), (4, .int ((vX k kp T r li d))), (0, .ref X.1), (1, .int (nI r)), (2, .int (nI li)), (3, .int (nI d))] ∧ endF (vX k kp T r li) d = enF (vX k kp T r li) (vX k kp T r li d) (60 - j) j) (fun w L h => ?_) (fun i w L h ih => ?_) (60 - d) _ _ ⟨d + 1, by omega, rfl, rfl, by unfold endF; rw [show 59 - d = 60 - (d + 1) by omega]⟩
  · obtain ⟨j, h1, rfl, rfl, h2⟩ := h
    have := endF_le (f := vX k kp T r li) hd0
    rw [h2, show 60 - j = 0 by omega] at this
    unfold enF at this
    omega
  · obtain ⟨j, hj, rfl, rfl, he⟩ := h
    refine gg_iload K dX0_endOfRun_14 rfl ?_
    refine gg_bipush K (v := 60) dX0_endOfRun_16 (by decide) ?_
    refine gg_icmp_ge K (tgt := 40) dX0_endOfRun_18 (by decide) (fun h18 => ?_) (fun h18 => ?_)
    · have hj2 := i_le (a := 60) h18
      refine gg_iload K dX0_endOfRun_40 rfl ?_
      exact gg_iret K hr dX0_endOfRun_42 (Nat.zero_le _) (Nat.zero_le _) ⟨some_int (by rw [he, show 60 - j = 0 by omega]; rfl), rfl⟩
    have hj2 := i_nle (a := 60) h18
    rw [show 60 - j = (59 - j) + 1 by omega] at he
    unfold enF at he
    refine gg_aload_n K (i := 0) dX0_endOfRun_21 rfl rfl ?_
    refine gg_iload_n K (i := 1) dX0_endOfRun_22 rfl rfl ?_
    refine gg_iload_n K (i := 2) dX0_endOfRun_23 rfl rfl ?_
    refine gg_iload K dX0_endOfRun_24 rfl ?_
    refine gg_callRX K k_X0_X0_knownOn (x_knownOn r li j ok hr0 hl0 hj2 rfl rfl rfl) dX0_endOfRun_26 rfl rfl rfl rfl ⟨rfl, rfl⟩ ?_
    refine gg_iload K dX0_endOfRun_29 rfl ?_
    refine gg_icmp_ne K (tgt := 40) dX0_endOfRun_31 (by decide) (fun h31 => ?_) (fun h31 => ?_)
    · refine gg_iload K dX0_endOfRun_40 rfl ?_
      exact gg_iret K hr dX0_endOfRun_42 (Nat.zero_le _) (Nat.zero_le _) ⟨some_int (by rw [he, if_neg h31]), rfl⟩
    refine gg_iinc K (v := nI (j + 1)) dX0_endOfRun_34 rfl (nI_inc (j)) (by decide) ?_
    refine gg_goto K (tgt := 14) dX0_endOfRun_37 (by decide) ?_
    refine gg_sub (L' := [(5, .int (nI (j + 1))), (4, .int ((vX k kp T r li d))), (0, .ref X.1), (1, .int (nI r)), (2, .int (nI li)), (3, .int (nI d))]) ⟨rfl, rfl, rfl, rfl, rfl, rfl, trivial⟩ ?_
    rw [if_pos h31] at he
    exact ih _ _ ⟨j + 1, by omega, rfl, rfl, by rw [he, show 59 - j = 60 - (j + 1) by omega]⟩
set_option maxRecDepth 100000 in
theorem x_runNumber {l : Launch} {Z : ZT} {X : XT} {k kp dr : Nat → Int32} {td : Int32} {T : Nat} (r li d : Nat) {x y z : Int32} (ok : okX kp T) (hr0 : r ≤ T) (hl0 : li < 16) (hd0 : d < 60) (hx : x = nI r) (hy : y = nI li) (hz : z = nI d) : mR l Z yX0_runNumber cX0_runNumber 4 (some .int) (rmk 3 90 0 0) (wX Z X k kp dr td) [.ref X.1, .int x, .int y, .int z] (.int (runN (vX k kp T r li) d)) := by
  refine mA_intro (own := RX0) [(0, .ref X.1), (1, .int x), (2, .int y), (3, .int z)] (by decide +kernel) rfl rfl rfl rfl ?_
  intro p e s m args below meth c A K hr hin
  subst hx hy hz
  refine gg_sipush K (v := 10000) dX0_runNumber_0 (by decide) ?_
  refine gg_iload_n K (i := 3) dX0_runNumber_3 rfl rfl ?_
  refine gg_imul K dX0_runNumber_4 ?_
  refine gg_bipush K (v := 100) dX0_runNumber_5 (by decide) ?_
  refine gg_aload_n K (i := 0) dX0_runNumber_7 rfl rfl ?_
  refine gg_iload_n K (i := 1) dX0_runNumber_8 rfl rfl ?_
  refine gg_iload_n K (i := 2) dX0_runNumber_9 rfl rfl ?_
  refine gg_iload_n K (i := 3) dX0_runNumber_10 rfl rfl ?_
  refine gg_callRX K k_X0_X0_endOfRun (x_endOfRun r li d ok hr0 hl0 hd0 rfl rfl rfl) dX0_runNumber_11 rfl rfl rfl rfl ⟨rfl, rfl⟩ ?_
  refine gg_imul K dX0_runNumber_14 ?_
  refine gg_iadd K dX0_runNumber_15 ?_
  refine gg_aload_n K (i := 0) dX0_runNumber_16 rfl rfl ?_
  refine gg_iload_n K (i := 1) dX0_runNumber_17 rfl rfl ?_
  refine gg_iload_n K (i := 2) dX0_runNumber_18 rfl rfl ?_
  refine gg_iload_n K (i := 3) dX0_runNumber_19 rfl rfl ?_
  refine gg_callRX K k_X0_X0_knownOn (x_knownOn r li d ok hr0 hl0 hd0 rfl rfl rfl) dX0_runNumber_20 rfl rfl rfl rfl ⟨rfl, rfl⟩ ?_
  refine gg_iadd K dX0_runNumber_23 ?_
  exact gg_iret K hr dX0_runNumber_24 (Nat.zero_le _) (Nat.zero_le _) ⟨rfl, rfl⟩
set_option maxRecDepth 100000 in
theorem x_isKept {l : Launch} {Z : ZT} {X : XT} {k kp dr : Nat → Int32} {td : Int32} {T : Nat} (r : Nat) {x : Int32} (ok : okX kp T) (hr0 : r ≤ T) (hx : x = nI r) : mR l Z yX0_isKept cX0_isKept 2 (some .boolean) (rmk 0 0 0 0) (wX Z X k kp dr td) [.ref X.1, .int x] (.int (bI (decide (kp r = nI r)))) := by
  refine mA_intro (own := RX0) [(0, .ref X.1), (1, .int x)] (by decide +kernel) rfl rfl rfl rfl ?_
  intro p e s m args below meth c A K hr hin
  obtain ⟨o1, o2, o3, o4⟩ := ok
  subst hx
  refine gg_iload_n K (i := 1) dX0_isKept_0 rfl rfl ?_
  refine gg_if_lt K (tgt := 24) dX0_isKept_1 (by decide) (fun h1 => ?_) (fun h1 => ?_)
  · exact absurd h1 (nI_pos (by omega))
  refine gg_iload_n K (i := 1) dX0_isKept_4 rfl rfl ?_
  refine gg_bipush K (v := 60) dX0_isKept_5 (by decide) ?_
  refine gg_icmp_ge K (tgt := 24) dX0_isKept_7 (by decide) (fun h7 => ?_) (fun h7 => ?_)
  · exact absurd (i_le (a := 60) h7) (by omega)
  refine gg_aload_n K (i := 0) dX0_isKept_10 rfl rfl ?_
  refine gX_keptOn K dX0_isKept_11 ?_
  refine gg_iload_n K (i := 1) dX0_isKept_14 rfl rfl ?_
  refine gX_ld_kept r K rfl (by omega) dX0_isKept_15 ?_
  refine gg_iload_n K (i := 1) dX0_isKept_16 rfl rfl ?_
  refine gg_icmp_ne K (tgt := 24) dX0_isKept_17 (by decide) (fun h17 => ?_) (fun h17 => ?_)
  · refine gg_iconst K (v := 0) dX0_isKept_24 (by decide) ?_
    exact gg_zret K hr dX0_isKept_25 (Or.inl rfl) (Nat.zero_le _) (Nat.zero_le _) ⟨some_int (bI_f (decide_eq_false h17)).symm, rfl⟩
  · refine gg_iconst K (v := 1) dX0_isKept_20 (by decide) ?_
    refine gg_goto K (tgt := 25) dX0_isKept_21 (by decide) ?_
    exact gg_zret K hr dX0_isKept_25 (Or.inr rfl) (Nat.zero_le _) (Nat.zero_le _) ⟨some_int (bI_t (decide_eq_true h17)).symm, rfl⟩
end
section
/-! Twotimes: rows, joins, references read -/
noncomputable def bP (P : Prop) : Bool := @decide P (Classical.propDecidable P)
theorem bP_t {P : Prop} (h : P) : bP P = true := @decide_eq_true P (Classical.propDecidable P) h
theorem bP_f {P : Prop} (h : ¬ P) : bP P = false := @decide_eq_false P (Classical.propDecidable P) h
theorem bP_iff {P : Prop} : bP P = true ↔ P := ⟨fun h => @of_decide_eq_true P (Classical.propDecidable P) h, bP_t⟩
theorem bP_nf {P : Prop} (h : bP P = false) : ¬ P := fun q => by rw [bP_t q] at h; cases h
def fstF (q : Nat → Bool) (run : Int32) : Nat → Nat → Nat → Int32
  | 0, _, _ => -1
  | n + 1, d, b => if q d = true then (if nI b = run then nI d else fstF q run n (d + 1) (b + 1)) else fstF q run n (d + 1) b
/-- all values are -1 or numbers below 100, in the second table below 8 -/
def valOk (V : VT) (T : Nat) : Prop := ∀ r l d, r ≤ T → l < 16 → d < 60 → V r l d = -1 ∨ ∃ j, V r l d = nI j ∧ j < 100 ∧ (8 ≤ l → j < 8)
def jnF (V : VT) (r key d : Nat) : Int32 := if V r (8 + key) d = -1 then -1 else V r (V r (8 + key) d).toNatClampNeg d
noncomputable def jsF (V : VT) (r key d : Nat) : Bool := bP (¬ V r (8 + key) d = -1 ∧ (stF (V r (8 + key)) d = true ∨ ¬ jnF V r key d = jnF V r key (d - 1)))
noncomputable def smF (f g : Nat → Int32) (d : Nat) : Bool := bP (stF g d = true ∧ g d = f d ∧ endF g d = endF f d)
noncomputable def rowF (V : VT) (l r d : Nat) : Bool := bP (stF (V r l) d = true ∧ (r = 0 ∨ smF (V r l) (V (r - 1) l) d = false))
def refd (V : VT) (T : Nat) (x : Int32) (d : Nat) : Prop := ∃ i, i < 8 ∧ V T (8 + i) d = x
set_option maxRecDepth 100000 in
theorem x_firstDayOfRun {l : Launch} {Z : ZT} {X : XT} {k kp dr : Nat → Int32} {td : Int32} {T : Nat} (r li : Nat) {x y z : Int32} (ok : okX kp T) (hr0 : r ≤ T) (hl0 : li < 16) (hx : x = nI r) (hy : y = nI li) : mR l Z yX0_firstDayOfRun cX0_firstDayOfRun 6 (some .int) (rmk 3 90 0 0) (wX Z X k kp dr td) [.ref X.1, .int x, .int y, .int z] (.int (fstF (stF (vX k kp T r li)) z 60 0 0)) := by
  refine mA_intro (own := RX0) [(0, .ref X.1), (1, .int x), (2, .int y), (3, .int z)] (by decide +kernel) rfl rfl rfl rfl ?_
  intro p e s m args below meth c A K hr hin
  subst hx hy
  obtain ⟨G, hG⟩ : ∃ G, G = fstF (stF (vX k kp T r li)) z 60 0 0 := ⟨_, rfl⟩
  rw [← hG]
  refine gg_iconst K (v := 0) dX0_firstDayOfRun_0 (by decide) ?_
  refine gg_istore K dX0_firstDayOfRun_1 (by decide) ?_
  refine gg_iconst K (v := 0) dX0_firstDayOfRun_3 (by decide) ?_
  refine gg_istore K dX0_firstDayOfRun_4 (by decide) ?_
  refine gg_sub (L' := [(5, .int (nI 0)), (4, .int (nI 0)), (0, .ref X.1), (1, .int (nI r)), (2, .int (nI li)), (3, .int z)]) ⟨rfl, rfl, rfl, rfl, rfl, rfl, trivial⟩ ?_
  refine gg_loop (fun i w L => ∃ d b : Nat, d + i = 61 ∧ w = wX Z X k kp dr td ∧ L = [(5, .int (nI d)), (4, .int (nI b)), (0, .ref X.1), (1, .int (nI r)), (2, .int (nI li)), (3, .int z)] ∧ d ≤ 60 ∧ G = fstF (stF (vX k kp T r li)) z (60 - d) d b) (fun w L h => ?_) (fun i w L h ih => ?_) 61 _ _ ⟨0, 0, rfl, rfl, rfl, by omega, hG⟩
  · obtain ⟨d, b, h1, -, -, h2, -⟩ := h
    omega
  · obtain ⟨d, b, hj, rfl, rfl, -, he⟩ := h
    refine gg_iload K dX0_firstDayOfRun_6 rfl ?_
    refine gg_bipush K (v := 60) dX0_firstDayOfRun_8 (by decide) ?_
    refine gg_icmp_ge K (tgt := 42) dX0_firstDayOfRun_10 (by decide) (fun h10 => ?_) (fun h10 => ?_)
    · have hj2 := i_le (a := 60) h10
      refine gg_iconst K (v := (-1)) dX0_firstDayOfRun_42 (by decide) ?_
      exact gg_iret K hr dX0_firstDayOfRun_43 (Nat.zero_le _) (Nat.zero_le _) ⟨some_int (by rw [he, show 60 - d = 0 by omega]; rfl), rfl⟩
    have hj2 := i_nle (a := 60) h10
    rw [show 60 - d = (59 - d) + 1 by omega] at he
    unfold fstF at he
    refine gg_aload_n K (i := 0) dX0_firstDayOfRun_13 rfl rfl ?_
    refine gg_iload_n K (i := 1) dX0_firstDayOfRun_14 rfl rfl ?_
    refine gg_iload_n K (i := 2) dX0_firstDayOfRun_15 rfl rfl ?_
    refine gg_iload K dX0_firstDayOfRun_16 rfl ?_
    refine gg_callRX K k_X0_X0_startsRun (x_startsRun r li d ok hr0 hl0 hj2 rfl rfl rfl) dX0_firstDayOfRun_18 rfl rfl rfl rfl ⟨rfl, rfl⟩ ?_
    refine gg_b_eq K (tgt := 36) dX0_firstDayOfRun_21 (by decide) (fun h21 => ?_) (fun h21 => ?_)
    · rw [if_neg (by rw [h21]; decide)] at he
      refine gg_iinc K (v := nI (d + 1)) dX0_firstDayOfRun_36 rfl (nI_inc (d)) (by decide) ?_
      refine gg_goto K (tgt := 6) dX0_firstDayOfRun_39 (by decide) ?_
      refine gg_sub (L' := [(5, .int (nI (d + 1))), (4, .int (nI b)), (0, .ref X.1), (1, .int (nI r)), (2, .int (nI li)), (3, .int z)]) ⟨rfl, rfl, rfl, rfl, rfl, rfl, trivial⟩ ?_
      exact ih _ _ ⟨d + 1, b, by omega, rfl, rfl, by omega, by rw [he, show 59 - d = 60 - (d + 1) by omega]⟩
    rw [if_pos h21] at he
    refine gg_iload K dX0_firstDayOfRun_24 rfl ?_
    refine gg_iload_n K (i := 3) dX0_firstDayOfRun_26 rfl rfl ?_
    refine gg_icmp_ne K (tgt := 33) dX0_firstDayOfRun_27 (by decide) (fun h27 => ?_) (fun h27 => ?_)
    · rw [if_neg h27] at he
      refine gg_iinc K (v := nI (b + 1)) dX0_firstDayOfRun_33 rfl (nI_inc (b)) (by decide) ?_
      refine gg_iinc K (v := nI (d + 1)) dX0_firstDayOfRun_36 rfl (nI_inc (d)) (by decide) ?_
      refine gg_goto K (tgt := 6) dX0_firstDayOfRun_39 (by decide) ?_
      refine gg_sub (L' := [(5, .int (nI (d + 1))), (4, .int (nI (b + 1))), (0, .ref X.1), (1, .int (nI r)), (2, .int (nI li)), (3, .int z)]) ⟨rfl, rfl, rfl, rfl, rfl, rfl, trivial⟩ ?_
      exact ih _ _ ⟨d + 1, b + 1, by omega, rfl, rfl, by omega, by rw [he, show 59 - d = 60 - (d + 1) by omega]⟩
    · rw [if_pos h27] at he
      refine gg_iload K dX0_firstDayOfRun_30 rfl ?_
      exact gg_iret K hr dX0_firstDayOfRun_32 (Nat.zero_le _) (Nat.zero_le _) ⟨some_int he.symm, rfl⟩
set_option maxRecDepth 100000 in
theorem x_joinedOn {l : Launch} {Z : ZT} {X : XT} {k kp dr : Nat → Int32} {td : Int32} {T : Nat} (r key d : Nat) {x y z : Int32} (ok : okX kp T) (hv : valOk (vX k kp T) T) (hr0 : r ≤ T) (hl0 : key < 8) (hd0 : d < 60) (hx : x = nI r) (hy : y = nI key) (hz : z = nI d) : mR l Z yX0_joinedOn cX0_joinedOn 5 (some .int) (rmk 2 60 0 0) (wX Z X k kp dr td) [.ref X.1, .int x, .int y, .int z] (.int (jnF (vX k kp T) r key d)) := by
  refine mA_intro (own := RX0) [(0, .ref X.1), (1, .int x), (2, .int y), (3, .int z)] (by decide +kernel) rfl rfl rfl rfl ?_
  intro p e s m args below meth c A K hr hin
  subst hx hy hz
  refine gg_aload_n K (i := 0) dX0_joinedOn_0 rfl rfl ?_
  refine gg_iload_n K (i := 1) dX0_joinedOn_1 rfl rfl ?_
  refine gg_iconst K (v := 1) dX0_joinedOn_2 (by decide) ?_
  refine gg_iload_n K (i := 2) dX0_joinedOn_3 rfl rfl ?_
  refine gg_callSR K k_X0_X0_line (x_line 1 key rfl rfl) dX0_joinedOn_4 rfl rfl rfl rfl ⟨rfl, rfl⟩ ?_
  refine gg_iload_n K (i := 3) dX0_joinedOn_7 rfl rfl ?_
  refine gg_callRX K k_X0_X0_knownOn (x_knownOn r (8 + key) d ok hr0 (by omega) hd0 rfl (congrArg nI (by omega)) rfl) dX0_joinedOn_8 rfl rfl rfl rfl ⟨rfl, rfl⟩ ?_
  refine gg_istore K dX0_joinedOn_11 (by decide) ?_
  refine gg_iload K dX0_joinedOn_13 rfl ?_
  refine gg_iconst K (v := (-1)) dX0_joinedOn_15 (by decide) ?_
  refine gg_icmp_ne K (tgt := 23) dX0_joinedOn_16 (by decide) (fun h16 => ?_) (fun h16 => ?_)
  rotate_left
  · refine gg_iconst K (v := (-1)) dX0_joinedOn_19 (by decide) ?_
    refine gg_goto K (tgt := 35) dX0_joinedOn_20 (by decide) ?_
    exact gg_iret K hr dX0_joinedOn_35 (Nat.zero_le _) (Nat.zero_le _) ⟨some_int (if_pos h16).symm, rfl⟩
  obtain ⟨j, hj1, -, hj2⟩ := (hv r (8 + key) d hr0 (by omega) hd0).resolve_left h16
  have hj2 := hj2 (by omega)
  refine gg_aload_n K (i := 0) dX0_joinedOn_23 rfl rfl ?_
  refine gg_iload_n K (i := 1) dX0_joinedOn_24 rfl rfl ?_
  refine gg_iconst K (v := 0) dX0_joinedOn_25 (by decide) ?_
  refine gg_iload K dX0_joinedOn_26 rfl ?_
  refine gg_callSR K k_X0_X0_line (x_line 0 j rfl hj1) dX0_joinedOn_28 rfl rfl rfl rfl ⟨rfl, rfl⟩ ?_
  refine gg_iload_n K (i := 3) dX0_joinedOn_31 rfl rfl ?_
  refine gg_callRX K k_X0_X0_knownOn (x_knownOn r j d ok hr0 (by omega) hd0 rfl (congrArg nI (by omega)) rfl) dX0_joinedOn_32 rfl rfl rfl rfl ⟨rfl, rfl⟩ ?_
  exact gg_iret K hr dX0_joinedOn_35 (Nat.zero_le _) (Nat.zero_le _) ⟨some_int (by unfold jnF; rw [if_neg h16, hj1, nI_clamp (by omega)]), rfl⟩
set_option maxRecDepth 100000 in
theorem x_startsJoinedRun {l : Launch} {Z : ZT} {X : XT} {k kp dr : Nat → Int32} {td : Int32} {T : Nat} (r key d : Nat) {x y z : Int32} (ok : okX kp T) (hv : valOk (vX k kp T) T) (hr0 : r ≤ T) (hl0 : key < 8) (hd0 : d < 60) (hx : x = nI r) (hy : y = nI key) (hz : z = nI d) : mR l Z yX0_startsJoinedRun cX0_startsJoinedRun 4 (some .boolean) (rmk 3 90 0 0) (wX Z X k kp dr td) [.ref X.1, .int x, .int y, .int z] (.int (bI (jsF (vX k kp T) r key d))) := by
  refine mA_intro (own := RX0) [(0, .ref X.1), (1, .int x), (2, .int y), (3, .int z)] (by decide +kernel) rfl rfl rfl rfl ?_
  intro p e s m args below meth c A K hr hin
  subst hx hy hz
  refine gg_aload_n K (i := 0) dX0_startsJoinedRun_0 rfl rfl ?_
  refine gg_iload_n K (i := 1) dX0_startsJoinedRun_1 rfl rfl ?_
  refine gg_iconst K (v := 1) dX0_startsJoinedRun_2 (by decide) ?_
  refine gg_iload_n K (i := 2) dX0_startsJoinedRun_3 rfl rfl ?_
  refine gg_callSR K k_X0_X0_line (x_line 1 key rfl rfl) dX0_startsJoinedRun_4 rfl rfl rfl rfl ⟨rfl, rfl⟩ ?_
  refine gg_iload_n K (i := 3) dX0_startsJoinedRun_7 rfl rfl ?_
  refine gg_callRX K k_X0_X0_knownOn (x_knownOn r (8 + key) d ok hr0 (by omega) hd0 rfl (congrArg nI (by omega)) rfl) dX0_startsJoinedRun_8 rfl rfl rfl rfl ⟨rfl, rfl⟩ ?_
  refine gg_iconst K (v := (-1)) dX0_startsJoinedRun_11 (by decide) ?_
  refine gg_icmp_ne K (tgt := 17) dX0_startsJoinedRun_12 (by decide) (fun h12 => ?_) (fun h12 => ?_)
  rotate_left
  · refine gg_iconst K (v := 0) dX0_startsJoinedRun_15 (by decide) ?_
    exact gg_zret K hr dX0_startsJoinedRun_16 (Or.inl rfl) (Nat.zero_le _) (Nat.zero_le _) ⟨some_int (bI_f (bP_f (fun q => q.1 h12))).symm, rfl⟩
  refine gg_aload_n K (i := 0) dX0_startsJoinedRun_17 rfl rfl ?_
  refine gg_iload_n K (i := 1) dX0_startsJoinedRun_18 rfl rfl ?_
  refine gg_iconst K (v := 1) dX0_startsJoinedRun_19 (by decide) ?_
  refine gg_iload_n K (i := 2) dX0_startsJoinedRun_20 rfl rfl ?_
  refine gg_callSR K k_X0_X0_line (x_line 1 key rfl rfl) dX0_startsJoinedRun_21 rfl rfl rfl rfl ⟨rfl, rfl⟩ ?_
  refine gg_iload_n K (i := 3) dX0_startsJoinedRun_24 rfl rfl ?_
  refine gg_callRX K k_X0_X0_startsRun (x_startsRun r (8 + key) d ok hr0 (by omega) hd0 rfl (congrArg nI (by omega)) rfl) dX0_startsJoinedRun_25 rfl rfl rfl rfl ⟨rfl, rfl⟩ ?_
  refine gg_b_ne K (tgt := 50) dX0_startsJoinedRun_28 (by decide) (fun h28 => ?_) (fun h28 => ?_)
  · refine gg_iconst K (v := 1) dX0_startsJoinedRun_50 (by decide) ?_
    refine gg_goto K (tgt := 55) dX0_startsJoinedRun_51 (by decide) ?_
    exact gg_zret K hr dX0_startsJoinedRun_55 (Or.inr rfl) (Nat.zero_le _) (Nat.zero_le _) ⟨some_int (bI_t (bP_t ⟨h12, Or.inl h28⟩)).symm, rfl⟩
  have hd1 : ¬ d = 0 := fun q => by rw [stF_t h12 (Or.inl q)] at h28; cases h28
  have hnt : ¬ stF (vX k kp T r (8 + key)) d = true := by rw [h28]; decide
  refine gg_aload_n K (i := 0) dX0_startsJoinedRun_31 rfl rfl ?_
  refine gg_iload_n K (i := 1) dX0_startsJoinedRun_32 rfl rfl ?_
  refine gg_iload_n K (i := 2) dX0_startsJoinedRun_33 rfl rfl ?_
  refine gg_iload_n K (i := 3) dX0_startsJoinedRun_34 rfl rfl ?_
  refine gg_callRX K k_X0_X0_joinedOn (x_joinedOn r key d ok hv hr0 hl0 hd0 rfl rfl rfl) dX0_startsJoinedRun_35 rfl rfl rfl rfl ⟨rfl, rfl⟩ ?_
  refine gg_aload_n K (i := 0) dX0_startsJoinedRun_38 rfl rfl ?_
  refine gg_iload_n K (i := 1) dX0_startsJoinedRun_39 rfl rfl ?_
  refine gg_iload_n K (i := 2) dX0_startsJoinedRun_40 rfl rfl ?_
  refine gg_iload_n K (i := 3) dX0_startsJoinedRun_41 rfl rfl ?_
  refine gg_iconst K (v := 1) dX0_startsJoinedRun_42 (by decide) ?_
  refine gg_isub K dX0_startsJoinedRun_43 ?_
  refine gg_callRX K k_X0_X0_joinedOn (x_joinedOn r key (d - 1) ok hv hr0 hl0 (by omega) rfl rfl (nI_sub1 (by omega))) dX0_startsJoinedRun_44 rfl rfl rfl rfl ⟨rfl, rfl⟩ ?_
  refine gg_icmp_eq K (tgt := 54) dX0_startsJoinedRun_47 (by decide) (fun h47 => ?_) (fun h47 => ?_)
  · refine gg_iconst K (v := 0) dX0_startsJoinedRun_54 (by decide) ?_
    exact gg_zret K hr dX0_startsJoinedRun_55 (Or.inl rfl) (Nat.zero_le _) (Nat.zero_le _) ⟨some_int (bI_f (bP_f (fun q => q.2.elim hnt (fun z => z h47)))).symm, rfl⟩
  · refine gg_iconst K (v := 1) dX0_startsJoinedRun_50 (by decide) ?_
    refine gg_goto K (tgt := 55) dX0_startsJoinedRun_51 (by decide) ?_
    exact gg_zret K hr dX0_startsJoinedRun_55 (Or.inr rfl) (Nat.zero_le _) (Nat.zero_le _) ⟨some_int (bI_t (bP_t ⟨h12, Or.inr h47⟩)).symm, rfl⟩
set_option maxRecDepth 100000 in
theorem x_sameRun {l : Launch} {Z : ZT} {X : XT} {k kp dr : Nat → Int32} {td : Int32} {T : Nat} (r o9 li d : Nat) {x y z v : Int32} (ok : okX kp T) (hr0 : r ≤ T) (ho0 : o9 ≤ T) (hl0 : li < 16) (hd0 : d < 60) (hx : x = nI r) (hy : y = nI o9) (hz : z = nI li) (hv : v = nI d) : mR l Z yX0_sameRun cX0_sameRun 5 (some .boolean) (rmk 3 90 0 0) (wX Z X k kp dr td) [.ref X.1, .int x, .int y, .int z, .int v] (.int (bI (smF (vX k kp T r li) (vX k kp T o9 li) d))) := by
  refine mA_intro (own := RX0) [(0, .ref X.1), (1, .int x), (2, .int y), (3, .int z), (4, .int v)] (by decide +kernel) rfl rfl rfl rfl ?_
  intro p e s m args below meth c A K hr hin
  subst hx hy hz hv
  refine gg_aload_n K (i := 0) dX0_sameRun_0 rfl rfl ?_
  refine gg_iload_n K (i := 2) dX0_sameRun_1 rfl rfl ?_
  refine gg_iload_n K (i := 3) dX0_sameRun_2 rfl rfl ?_
  refine gg_iload K dX0_sameRun_3 rfl ?_
  refine gg_callRX K k_X0_X0_startsRun (x_startsRun o9 li d ok ho0 hl0 hd0 rfl rfl rfl) dX0_sameRun_5 rfl rfl rfl rfl ⟨rfl, rfl⟩ ?_
  refine gg_b_eq K (tgt := 53) dX0_sameRun_8 (by decide) (fun h8 => ?_) (fun h8 => ?_)
  · refine gg_iconst K (v := 0) dX0_sameRun_53 (by decide) ?_
    exact gg_zret K hr dX0_sameRun_54 (Or.inl rfl) (Nat.zero_le _) (Nat.zero_le _) ⟨some_int (bI_f (bP_f (fun q => by rw [q.1] at h8; cases h8))).symm, rfl⟩
  refine gg_aload_n K (i := 0) dX0_sameRun_11 rfl rfl ?_
  refine gg_iload_n K (i := 2) dX0_sameRun_12 rfl rfl ?_
  refine gg_iload_n K (i := 3) dX0_sameRun_13 rfl rfl ?_
  refine gg_iload K dX0_sameRun_14 rfl ?_
  refine gg_callRX K k_X0_X0_knownOn (x_knownOn o9 li d ok ho0 hl0 hd0 rfl rfl rfl) dX0_sameRun_16 rfl rfl rfl rfl ⟨rfl, rfl⟩ ?_
  refine gg_aload_n K (i := 0) dX0_sameRun_19 rfl rfl ?_
  refine gg_iload_n K (i := 1) dX0_sameRun_20 rfl rfl ?_
  refine gg_iload_n K (i := 3) dX0_sameRun_21 rfl rfl ?_
  refine gg_iload K dX0_sameRun_22 rfl ?_
  refine gg_callRX K k_X0_X0_knownOn (x_knownOn r li d ok hr0 hl0 hd0 rfl rfl rfl) dX0_sameRun_24 rfl rfl rfl rfl ⟨rfl, rfl⟩ ?_
  refine gg_icmp_ne K (tgt := 53) dX0_sameRun_27 (by decide) (fun h27 => ?_) (fun h27 => ?_)
  · refine gg_iconst K (v := 0) dX0_sameRun_53 (by decide) ?_
    exact gg_zret K hr dX0_sameRun_54 (Or.inl rfl) (Nat.zero_le _) (Nat.zero_le _) ⟨some_int (bI_f (bP_f (fun q => h27 q.2.1))).symm, rfl⟩
  refine gg_aload_n K (i := 0) dX0_sameRun_30 rfl rfl ?_
  refine gg_iload_n K (i := 2) dX0_sameRun_31 rfl rfl ?_
  refine gg_iload_n K (i := 3) dX0_sameRun_32 rfl rfl ?_
  refine gg_iload K dX0_sameRun_33 rfl ?_
  refine gg_callRX K k_X0_X0_endOfRun (x_endOfRun o9 li d ok ho0 hl0 hd0 rfl rfl rfl) dX0_sameRun_35 rfl rfl rfl rfl ⟨rfl, rfl⟩ ?_
  refine gg_aload_n K (i := 0) dX0_sameRun_38 rfl rfl ?_
  refine gg_iload_n K (i := 1) dX0_sameRun_39 rfl rfl ?_
  refine gg_iload_n K (i := 3) dX0_sameRun_40 rfl rfl ?_
  refine gg_iload K dX0_sameRun_41 rfl ?_
  refine gg_callRX K k_X0_X0_endOfRun (x_endOfRun r li d ok hr0 hl0 hd0 rfl rfl rfl) dX0_sameRun_43 rfl rfl rfl rfl ⟨rfl, rfl⟩ ?_
  have e1 := endF_le (f := vX k kp T r li) hd0
  have e2 := endF_le (f := vX k kp T o9 li) hd0
  refine gg_icmp_ne K (tgt := 53) dX0_sameRun_46 (by decide) (fun h46 => ?_) (fun h46 => ?_)
  · refine gg_iconst K (v := 0) dX0_sameRun_53 (by decide) ?_
    exact gg_zret K hr dX0_sameRun_54 (Or.inl rfl) (Nat.zero_le _) (Nat.zero_le _) ⟨some_int (bI_f (bP_f (fun q => h46 (by rw [q.2.2])))).symm, rfl⟩
  · refine gg_iconst K (v := 1) dX0_sameRun_49 (by decide) ?_
    refine gg_goto K (tgt := 54) dX0_sameRun_50 (by decide) ?_
    exact gg_zret K hr dX0_sameRun_54 (Or.inr rfl) (Nat.zero_le _) (Nat.zero_le _) ⟨some_int (bI_t (bP_t ⟨h8, h27, i_eq h46⟩)).symm, rfl⟩
set_option maxRecDepth 100000 in
theorem x_startsRow {l : Launch} {Z : ZT} {X : XT} {k kp dr : Nat → Int32} {td : Int32} {T : Nat} (r li d : Nat) {x y z : Int32} (ok : okX kp T) (hr0 : r ≤ T) (hl0 : li < 16) (hd0 : d < 60) (hx : x = nI r) (hy : y = nI li) (hz : z = nI d) : mR l Z yX0_startsRow cX0_startsRow 4 (some .boolean) (rmk 4 120 0 0) (wX Z X k kp dr td) [.ref X.1, .int x, .int y, .int z] (.int (bI (rowF (vX k kp T) li r d))) := by
  refine mA_intro (own := RX0) [(0, .ref X.1), (1, .int x), (2, .int y), (3, .int z)] (by decide +kernel) rfl rfl rfl rfl ?_
  intro p e s m args below meth c A K hr hin
  have o1 := ok.1
  subst hx hy hz
  refine gg_aload_n K (i := 0) dX0_startsRow_0 rfl rfl ?_
  refine gg_iload_n K (i := 1) dX0_startsRow_1 rfl rfl ?_
  refine gg_iload_n K (i := 2) dX0_startsRow_2 rfl rfl ?_
  refine gg_iload_n K (i := 3) dX0_startsRow_3 rfl rfl ?_
  refine gg_callRX K k_X0_X0_startsRun (x_startsRun r li d ok hr0 hl0 hd0 rfl rfl rfl) dX0_startsRow_4 rfl rfl rfl rfl ⟨rfl, rfl⟩ ?_
  refine gg_b_eq K (tgt := 31) dX0_startsRow_7 (by decide) (fun h7 => ?_) (fun h7 => ?_)
  · refine gg_iconst K (v := 0) dX0_startsRow_31 (by decide) ?_
    exact gg_zret K hr dX0_startsRow_32 (Or.inl rfl) (Nat.zero_le _) (Nat.zero_le _) ⟨some_int (bI_f (bP_f (fun q => by rw [q.1] at h7; cases h7))).symm, rfl⟩
  refine gg_iload_n K (i := 1) dX0_startsRow_10 rfl rfl ?_
  refine gg_if_eq K (tgt := 27) dX0_startsRow_11 (by decide) (fun h11 => ?_) (fun h11 => ?_)
  · refine gg_iconst K (v := 1) dX0_startsRow_27 (by decide) ?_
    refine gg_goto K (tgt := 32) dX0_startsRow_28 (by decide) ?_
    exact gg_zret K hr dX0_startsRow_32 (Or.inr rfl) (Nat.zero_le _) (Nat.zero_le _) ⟨some_int (bI_t (bP_t ⟨h7, Or.inl (i_eq (b := 0) h11)⟩)).symm, rfl⟩
  have hr1 : ¬ r = 0 := fun q => h11 (by rw [q]; rfl)
  refine gg_aload_n K (i := 0) dX0_startsRow_14 rfl rfl ?_
  refine gg_iload_n K (i := 1) dX0_startsRow_15 rfl rfl ?_
  refine gg_iload_n K (i := 1) dX0_startsRow_16 rfl rfl ?_
  refine gg_iconst K (v := 1) dX0_startsRow_17 (by decide) ?_
  refine gg_isub K dX0_startsRow_18 ?_
  refine gg_iload_n K (i := 2) dX0_startsRow_19 rfl rfl ?_
  refine gg_iload_n K (i := 3) dX0_startsRow_20 rfl rfl ?_
  refine gg_callRX K k_X0_X0_sameRun (x_sameRun r (r - 1) li d ok hr0 (by omega) hl0 hd0 rfl (nI_sub1 (by omega)) rfl rfl) dX0_startsRow_21 rfl rfl rfl rfl ⟨rfl, rfl⟩ ?_
  refine gg_b_ne K (tgt := 31) dX0_startsRow_24 (by decide) (fun h24 => ?_) (fun h24 => ?_)
  · refine gg_iconst K (v := 0) dX0_startsRow_31 (by decide) ?_
    exact gg_zret K hr dX0_startsRow_32 (Or.inl rfl) (Nat.zero_le _) (Nat.zero_le _) ⟨some_int (bI_f (bP_f (fun q => q.2.elim hr1 (fun z => by rw [h24] at z; cases z)))).symm, rfl⟩
  · refine gg_iconst K (v := 1) dX0_startsRow_27 (by decide) ?_
    refine gg_goto K (tgt := 32) dX0_startsRow_28 (by decide) ?_
    exact gg_zret K hr dX0_startsRow_32 (Or.inr rfl) (Nat.zero_le _) (Nat.zero_le _) ⟨some_int (bI_t (bP_t ⟨h7, Or.inr h24⟩)).symm, rfl⟩
set_option maxRecDepth 100000 in
theorem x_isReferredTo {l : Launch} {Z : ZT} {X : XT} {k kp dr : Nat → Int32} {td : Int32} {T : Nat} (d : Nat) {x y : Int32} (ok : okX kp T) (ht : td = nI T) (hd0 : d < 60) (hy : y = nI d) : mR l Z yX0_isReferredTo cX0_isReferredTo 4 (some .boolean) (rmk 2 60 0 0) (wX Z X k kp dr td) [.ref X.1, .int x, .int y] (.int (bI (bP (refd (vX k kp T) T x d)))) := by
  refine mA_intro (own := RX0) [(0, .ref X.1), (1, .int x), (2, .int y)] (by decide +kernel) rfl rfl rfl rfl ?_
  intro p e s m args below meth c A K hr hin
  have o1 := ok.1
  subst hy
  refine gg_iconst K (v := 0) dX0_isReferredTo_0 (by decide) ?_
  refine gg_istore_n K (i := 3) dX0_isReferredTo_1 rfl (by decide) ?_
  refine gg_sub (L' := [(3, .int (nI 0)), (0, .ref X.1), (1, .int x), (2, .int (nI d))]) ⟨rfl, rfl, rfl, rfl, trivial⟩ ?_
  refine gg_loop (fun i w L => ∃ j : Nat, j + i = 9 ∧ w = wX Z X k kp dr td ∧ L = [(3, .int (nI j)), (0, .ref X.1), (1, .int x), (2, .int (nI d))] ∧ j ≤ 8 ∧ ∀ q, q < j → ¬ vX k kp T T (8 + q) d = x) (fun w L h => ?_) (fun i w L h ih => ?_) 9 _ _ ⟨0, rfl, rfl, rfl, by omega, fun q h => absurd h (by omega)⟩
  · obtain ⟨j, hj, -, -, h2, -⟩ := h
    omega
  · obtain ⟨j, hj, rfl, rfl, -, he⟩ := h
    refine gg_iload_n K (i := 3) dX0_isReferredTo_2 rfl rfl ?_
    refine gg_bipush K (v := 8) dX0_isReferredTo_3 (by decide) ?_
    refine gg_icmp_ge K (tgt := 34) dX0_isReferredTo_5 (by decide) (fun h5 => ?_) (fun h5 => ?_)
    · have hj2 := i_le (a := 8) h5
      refine gg_iconst K (v := 0) dX0_isReferredTo_34 (by decide) ?_
      exact gg_zret K hr dX0_isReferredTo_35 (Or.inl rfl) (Nat.zero_le _) (Nat.zero_le _) ⟨some_int (bI_f (bP_f (fun ⟨q, q1, q2⟩ => he q (by omega) q2))).symm, rfl⟩
    have hj2 := i_nle (a := 8) h5
    refine gg_aload_n K (i := 0) dX0_isReferredTo_8 rfl rfl ?_
    refine gg_aload_n K (i := 0) dX0_isReferredTo_9 rfl rfl ?_
    refine gX_today K dX0_isReferredTo_10 ?_
    refine gg_iconst K (v := 1) dX0_isReferredTo_13 (by decide) ?_
    refine gg_iload_n K (i := 3) dX0_isReferredTo_14 rfl rfl ?_
    refine gg_callSR K k_X0_X0_line (x_line 1 j rfl rfl) dX0_isReferredTo_15 rfl rfl rfl rfl ⟨rfl, rfl⟩ ?_
    refine gg_iload_n K (i := 2) dX0_isReferredTo_18 rfl rfl ?_
    refine gg_callRX K k_X0_X0_knownOn (x_knownOn T (8 + j) d ok (Nat.le_refl T) (by omega) hd0 ht (congrArg nI (by omega)) rfl) dX0_isReferredTo_19 rfl rfl rfl rfl ⟨rfl, rfl⟩ ?_
    refine gg_iload_n K (i := 1) dX0_isReferredTo_22 rfl rfl ?_
    refine gg_icmp_ne K (tgt := 28) dX0_isReferredTo_23 (by decide) (fun h23 => ?_) (fun h23 => ?_)
    · refine gg_iinc K (v := nI (j + 1)) dX0_isReferredTo_28 rfl (nI_inc (j)) (by decide) ?_
      refine gg_goto K (tgt := 2) dX0_isReferredTo_31 (by decide) ?_
      refine gg_sub (L' := [(3, .int (nI (j + 1))), (0, .ref X.1), (1, .int x), (2, .int (nI d))]) ⟨rfl, rfl, rfl, rfl, trivial⟩ ?_
      exact ih _ _ ⟨j + 1, by omega, rfl, rfl, by omega, fun q hq => by
        by_cases hqj : q = j
        · rw [hqj]; exact h23
        · exact he q (by omega)⟩
    · refine gg_iconst K (v := 1) dX0_isReferredTo_26 (by decide) ?_
      exact gg_zret K hr dX0_isReferredTo_27 (Or.inr rfl) (Nat.zero_le _) (Nat.zero_le _) ⟨some_int (bI_t (bP_t ⟨j, hj2, h23⟩)).symm, rfl⟩
end
section
/-! Twotimes: the store written -/
def uV (V : VT) (r0 l0 d0 : Nat) (x : Int32) : VT := fun r l d => if r = r0 ∧ l = l0 ∧ d = d0 then x else V r l d
def updR (V : VT) (T li : Nat) (g : Nat → Int32) (a b : Nat) : VT := fun r l d => if r = T ∧ l = li ∧ a ≤ d ∧ d < b then g d else V r l d
theorem updR_0 (V : VT) (T li : Nat) (g : Nat → Int32) (a : Nat) : updR V T li g a a = V := by
  funext r l d
  exact if_neg (by omega)
theorem updR_step {V : VT} {T li : Nat} {g : Nat → Int32} {a b : Nat} (h : a ≤ b) : uV (updR V T li g a b) T li b (g b) = updR V T li g a (b + 1) := by
  funext r l d
  unfold uV updR
  by_cases h1 : r = T ∧ l = li ∧ d = b
  · obtain ⟨rfl, rfl, rfl⟩ := h1
    rw [if_pos ⟨rfl, rfl, rfl⟩, if_pos ⟨rfl, rfl, h, by omega⟩]
  · rw [if_neg h1]
    by_cases h2 : r = T ∧ l = li ∧ a ≤ d ∧ d < b
    · rw [if_pos h2, if_pos ⟨h2.1, h2.2.1, h2.2.2.1, by omega⟩]
    · rw [if_neg h2, if_neg (by omega)]
theorem updR_skip {V : VT} {T li : Nat} {g : Nat → Int32} {a b : Nat} (h : a ≤ b) (e : V T li b = g b) : updR V T li g a b = updR V T li g a (b + 1) := by
  funext r l d
  unfold updR
  by_cases h2 : r = T ∧ l = li ∧ a ≤ d ∧ d < b
  · rw [if_pos h2, if_pos ⟨h2.1, h2.2.1, h2.2.2.1, by omega⟩]
  · rw [if_neg h2]
    by_cases h1 : r = T ∧ l = li ∧ d = b
    · obtain ⟨rfl, rfl, rfl⟩ := h1
      rw [if_pos ⟨rfl, rfl, h, by omega⟩, e]
    · rw [if_neg (by omega)]
theorem updR_at {V : VT} {T li : Nat} {g : Nat → Int32} {a b d : Nat} (h : b ≤ d) : updR V T li g a b T li d = V T li d := if_neg (by omega)
theorem vX_upd {k kp : Nat → Int32} {T l0 d0 : Nat} (ok : okX kp T) (hl0 : l0 < 16) (hd0 : d0 < 60) (x : Int32) : vX (upd k (ix T l0 d0) x) kp T = uV (vX k kp T) T l0 d0 x := by
  funext r l d
  obtain ⟨o1, o2, o3, o4⟩ := ok
  unfold vX uV upd
  dsimp only
  by_cases hc : r ≤ T ∧ l < 16 ∧ d < 60
  · rw [if_pos hc, if_pos hc]
    by_cases h1 : r = T ∧ l = l0 ∧ d = d0
    · obtain ⟨rfl, rfl, rfl⟩ := h1
      rw [kq_nI o2 o1, if_pos rfl, if_pos ⟨rfl, rfl, rfl⟩]
    · rw [if_neg h1, if_neg]
      intro he
      obtain ⟨e1, e2, e3⟩ := ix_inj hc.2.1 hc.2.2 hl0 hd0 he
      have h4 := (o4 r hc.1).1.2
      exact h1 ⟨by omega, e2, e3⟩
  · rw [if_neg hc, if_neg hc, if_neg (by omega)]
theorem some_none {α : Type} : (none : Option α) = none := rfl
/-- a draft keeps the references -/
def keepP (V : VT) (T : Nat) (dr : Nat → Int32) (t9 key : Nat) : Prop := ∀ d, d < 60 → (t9 = 0 → dr d = -1 → ¬ refd V T (nI key) d) ∧ (t9 = 1 → ¬ dr d = -1 → ¬ V T (dr d).toNatClampNeg d = -1)
set_option maxRecDepth 100000 in
theorem x_recordToday {l : Launch} {Z : ZT} {X : XT} {k kp dr : Nat → Int32} {td : Int32} {T : Nat} (li d : Nat) {y z x : Int32} (ok : okX kp T) (ht : td = nI T) (hl0 : li < 16) (hd0 : d < 60) (hy : y = nI li) (hz : z = nI d) : mA l Z.1 (ty3 Z) yX0_recordToday cX0_recordToday 5 none (rmk 1 30 0 0) (wX Z X k kp dr td) [.ref X.1, .int y, .int z, .int x] (fun r u => r = none ∧ u = wX Z X (upd k (ix T li d) x) kp dr td) := by
  refine mA_intro (own := RX0) [(0, .ref X.1), (1, .int y), (2, .int z), (3, .int x)] (by decide +kernel) rfl rfl rfl rfl ?_
  intro p e s m args below meth c A K hr hin
  have hlt := ix_lt (r := T) ok.1 hl0 hd0
  subst hy hz
  refine gg_aload_n K (i := 0) dX0_recordToday_0 rfl rfl ?_
  refine gX_today K dX0_recordToday_1 ?_
  refine gg_iload_n K (i := 1) dX0_recordToday_4 rfl rfl ?_
  refine gg_iload_n K (i := 2) dX0_recordToday_5 rfl rfl ?_
  refine gg_callSR K k_X0_X0_index (x_index T li d ht rfl rfl) dX0_recordToday_6 rfl rfl rfl rfl ⟨rfl, rfl⟩ ?_
  refine gg_istore K dX0_recordToday_9 (by decide) ?_
  refine gg_iload K dX0_recordToday_11 rfl ?_
  refine gg_if_lt K (tgt := 34) dX0_recordToday_13 (by decide) (fun h13 => ?_) (fun h13 => ?_)
  · exact absurd h13 (nI_pos (by omega))
  refine gg_iload K dX0_recordToday_16 rfl ?_
  refine gg_aload_n K (i := 0) dX0_recordToday_18 rfl rfl ?_
  refine gX_known K dX0_recordToday_19 ?_
  refine gX_len_known K dX0_recordToday_22 ?_
  refine gg_icmp_ge K (tgt := 34) dX0_recordToday_23 (by decide) (fun h23 => ?_) (fun h23 => ?_)
  · exact absurd (i_le h23) (by omega)
  refine gg_aload_n K (i := 0) dX0_recordToday_26 rfl rfl ?_
  refine gX_known K dX0_recordToday_27 ?_
  refine gg_iload K dX0_recordToday_30 rfl ?_
  refine gg_iload_n K (i := 3) dX0_recordToday_32 rfl rfl ?_
  refine gX_st_known (ix T li d) K rfl hlt dX0_recordToday_33 ?_
  exact gg_vret K hr dX0_recordToday_34 (Nat.zero_le _) (Nat.zero_le _) ⟨rfl, rfl⟩
set_option maxRecDepth 100000 in
theorem x_keepOn {l : Launch} {Z : ZT} {X : XT} {k kp dr : Nat → Int32} {td : Int32} (r : Nat) {x y : Int32} (hr0 : r < 60) (hx : x = nI r) : mA l Z.1 (ty3 Z) yX0_keepOn cX0_keepOn 3 none (rmk 0 0 0 0) (wX Z X k kp dr td) [.ref X.1, .int x, .int y] (fun v u => v = none ∧ u = wX Z X k (upd kp r y) dr td) := by
  refine mA_intro (own := RX0) [(0, .ref X.1), (1, .int x), (2, .int y)] (by decide +kernel) rfl rfl rfl rfl ?_
  intro p e s m args below meth c A K hr hin
  subst hx
  refine gg_iload_n K (i := 1) dX0_keepOn_0 rfl rfl ?_
  refine gg_if_lt K (tgt := 17) dX0_keepOn_1 (by decide) (fun h1 => ?_) (fun h1 => ?_)
  · exact absurd h1 (nI_pos (by omega))
  refine gg_iload_n K (i := 1) dX0_keepOn_4 rfl rfl ?_
  refine gg_bipush K (v := 60) dX0_keepOn_5 (by decide) ?_
  refine gg_icmp_ge K (tgt := 17) dX0_keepOn_7 (by decide) (fun h7 => ?_) (fun h7 => ?_)
  · exact absurd (i_le (a := 60) h7) (by omega)
  refine gg_aload_n K (i := 0) dX0_keepOn_10 rfl rfl ?_
  refine gX_keptOn K dX0_keepOn_11 ?_
  refine gg_iload_n K (i := 1) dX0_keepOn_14 rfl rfl ?_
  refine gg_iload_n K (i := 2) dX0_keepOn_15 rfl rfl ?_
  refine gX_st_kept r K rfl hr0 dX0_keepOn_16 ?_
  exact gg_vret K hr dX0_keepOn_17 (Nat.zero_le _) (Nat.zero_le _) ⟨rfl, rfl⟩
set_option maxRecDepth 100000 in
theorem x_lose {l : Launch} {Z : ZT} {X : XT} {k kp dr : Nat → Int32} {td : Int32} {T : Nat} (li d : Nat) {y z : Int32} (ok : okX kp T) (ht : td = nI T) (hl0 : li < 16) (hd0 : d < 60) (hy : y = nI li) (hz : z = nI d) : mA l Z.1 (ty3 Z) yX0_lose cX0_lose 3 (some .int) (rmk 2 60 0 0) (wX Z X k kp dr td) [.ref X.1, .int y, .int z] (fun r u => r = some (.int (bI (bP (¬ vX k kp T T li d = -1)))) ∧ ∃ k', u = wX Z X k' kp dr td ∧ vX k' kp T = uV (vX k kp T) T li d (-1)) := by
  refine mA_intro (own := RX0) [(0, .ref X.1), (1, .int y), (2, .int z)] (by decide +kernel) rfl rfl rfl rfl ?_
  intro p e s m args below meth c A K hr hin
  subst hy hz
  refine gg_aload_n K (i := 0) dX0_lose_0 rfl rfl ?_
  refine gg_aload_n K (i := 0) dX0_lose_1 rfl rfl ?_
  refine gX_today K dX0_lose_2 ?_
  refine gg_iload_n K (i := 1) dX0_lose_5 rfl rfl ?_
  refine gg_iload_n K (i := 2) dX0_lose_6 rfl rfl ?_
  refine gg_callRX K k_X0_X0_knownOn (x_knownOn T li d ok (Nat.le_refl T) hl0 hd0 ht rfl rfl) dX0_lose_7 rfl rfl rfl rfl ⟨rfl, rfl⟩ ?_
  refine gg_iconst K (v := (-1)) dX0_lose_10 (by decide) ?_
  refine gg_icmp_ne K (tgt := 16) dX0_lose_11 (by decide) (fun h11 => ?_) (fun h11 => ?_)
  rotate_left
  · refine gg_iconst K (v := 0) dX0_lose_14 (by decide) ?_
    refine gg_iret K hr dX0_lose_15 (Nat.zero_le _) (Nat.zero_le _) ⟨some_int (bI_f (bP_f (fun q => q h11))).symm, k, rfl, ?_⟩
    funext r l9 d9
    unfold uV
    by_cases h1 : r = T ∧ l9 = li ∧ d9 = d
    · obtain ⟨rfl, rfl, rfl⟩ := h1
      rw [if_pos ⟨rfl, rfl, rfl⟩, h11]
    · rw [if_neg h1]
  refine gg_aload_n K (i := 0) dX0_lose_16 rfl rfl ?_
  refine gg_iload_n K (i := 1) dX0_lose_17 rfl rfl ?_
  refine gg_iload_n K (i := 2) dX0_lose_18 rfl rfl ?_
  refine gg_iconst K (v := (-1)) dX0_lose_19 (by decide) ?_
  refine gg_callUX K k_X0_X0_recordToday (x_recordToday li d ok ht hl0 hd0 rfl rfl) dX0_lose_20 rfl rfl rfl rfl ⟨rfl, rfl⟩ (fun v u h => ?_)
  obtain ⟨rfl, rfl⟩ := h
  refine gg_iconst K (v := 1) dX0_lose_23 (by decide) ?_
  exact gg_iret K hr dX0_lose_24 (Nat.zero_le _) (Nat.zero_le _) ⟨some_int (bI_t (bP_t h11)).symm, _, rfl, vX_upd ok hl0 hd0 _⟩
set_option maxRecDepth 100000 in
theorem x_draftSpan {l : Launch} {Z : ZT} {X : XT} {k kp dr : Nat → Int32} {td : Int32} {T : Nat} (li f t : Nat) {x y z v : Int32} (ok : okX kp T) (ht : td = nI T) (hl0 : li < 16) (hf : f < 60) (ht2 : t ≤ 60) (hx : x = nI li) (hy : y = nI f) (hz : z = nI t) : mA l Z.1 (ty3 Z) yX0_draftSpan cX0_draftSpan 6 none (rmk 2 60 0 0) (wX Z X k kp dr td) [.ref X.1, .int x, .int y, .int z, .int v] (fun r u => r = none ∧ ∃ dr', u = wX Z X k kp dr' td ∧ ∀ d, d < 60 → dr' d = if f ≤ d ∧ d < t then v else vX k kp T T li d) := by
  refine mA_intro (own := RX0) [(0, .ref X.1), (1, .int x), (2, .int y), (3, .int z), (4, .int v)] (by decide +kernel) rfl rfl rfl rfl ?_
  intro p e s m args below meth c A K hr hin
  have o1 := ok.1
  subst hx hy hz
  refine gg_iconst K (v := 0) dX0_draftSpan_0 (by decide) ?_
  refine gg_istore K dX0_draftSpan_1 (by decide) ?_
  refine gg_sub (L' := [(5, .int (nI 0)), (0, .ref X.1), (1, .int (nI li)), (2, .int (nI f)), (3, .int (nI t)), (4, .int v)]) ⟨rfl, rfl, rfl, rfl, rfl, rfl, trivial⟩ ?_
  refine gg_loop (fun i w L => ∃ (j : Nat) (dr' : Nat → Int32), j + i = 61 ∧ w = wX Z X k kp dr' td ∧ L = [(5, .int (nI j)), (0, .ref X.1), (1, .int (nI li)), (2, .int (nI f)), (3, .int (nI t)), (4, .int v)] ∧ j ≤ 60 ∧ ∀ d, d < j → dr' d = if f ≤ d ∧ d < t then v else vX k kp T T li d) (fun w L h => ?_) (fun i w L h ih => ?_) 61 _ _ ⟨0, dr, rfl, rfl, rfl, by omega, fun q h => absurd h (by omega)⟩
  · obtain ⟨j, dr', hj, -, -, h2, -⟩ := h
    omega
  · obtain ⟨j, dr', hj, rfl, rfl, -, he⟩ := h
    refine gg_iload K dX0_draftSpan_3 rfl ?_
    refine gg_bipush K (v := 60) dX0_draftSpan_5 (by decide) ?_
    refine gg_icmp_ge K (tgt := 51) dX0_draftSpan_7 (by decide) (fun h7 => ?_) (fun h7 => ?_)
    · have hj2 := i_le (a := 60) h7
      exact gg_vret K hr dX0_draftSpan_51 (Nat.zero_le _) (Nat.zero_le _) ⟨rfl, dr', rfl, fun d hd => he d (by omega)⟩
    have hj2 := i_nle (a := 60) h7
    refine gg_aload_n K (i := 0) dX0_draftSpan_10 rfl rfl ?_
    refine gX_draft K dX0_draftSpan_11 ?_
    refine gg_iload K dX0_draftSpan_14 rfl ?_
    refine gg_iload K dX0_draftSpan_16 rfl ?_
    refine gg_iload_n K (i := 2) dX0_draftSpan_18 rfl rfl ?_
    refine gg_icmp_lt K (tgt := 33) dX0_draftSpan_19 (by decide) (fun h19 => ?_) (fun h19 => ?_)
    · have hlt := i_lt h19
      refine gg_aload_n K (i := 0) dX0_draftSpan_33 rfl rfl ?_
      refine gg_aload_n K (i := 0) dX0_draftSpan_34 rfl rfl ?_
      refine gX_today K dX0_draftSpan_35 ?_
      refine gg_iload_n K (i := 1) dX0_draftSpan_38 rfl rfl ?_
      refine gg_iload K dX0_draftSpan_39 rfl ?_
      refine gg_callRX K k_X0_X0_knownOn (x_knownOn T li j ok (Nat.le_refl T) hl0 hj2 ht rfl rfl) dX0_draftSpan_41 rfl rfl rfl rfl ⟨rfl, rfl⟩ ?_
      refine gX_st_draft j K rfl hj2 dX0_draftSpan_44 ?_
      refine gg_iinc K (v := nI (j + 1)) dX0_draftSpan_45 rfl (nI_inc (j)) (by decide) ?_
      refine gg_goto K (tgt := 3) dX0_draftSpan_48 (by decide) ?_
      refine gg_sub (L' := [(5, .int (nI (j + 1))), (0, .ref X.1), (1, .int (nI li)), (2, .int (nI f)), (3, .int (nI t)), (4, .int v)]) ⟨rfl, rfl, rfl, rfl, rfl, rfl, trivial⟩ ?_
      refine ih _ _ ⟨j + 1, _, by omega, rfl, rfl, by omega, fun d hd => ?_⟩
      unfold upd
      by_cases hdj : d = j
      · rw [if_pos hdj, hdj, if_neg (by omega)]
      · rw [if_neg hdj]
        exact he d (by omega)
    have hge := i_nlt h19
    refine gg_iload K dX0_draftSpan_22 rfl ?_
    refine gg_iload_n K (i := 3) dX0_draftSpan_24 rfl rfl ?_
    refine gg_icmp_ge K (tgt := 33) dX0_draftSpan_25 (by decide) (fun h25 => ?_) (fun h25 => ?_)
    · have hlt := i_le h25
      refine gg_aload_n K (i := 0) dX0_draftSpan_33 rfl rfl ?_
      refine gg_aload_n K (i := 0) dX0_draftSpan_34 rfl rfl ?_
      refine gX_today K dX0_draftSpan_35 ?_
      refine gg_iload_n K (i := 1) dX0_draftSpan_38 rfl rfl ?_
      refine gg_iload K dX0_draftSpan_39 rfl ?_
      refine gg_callRX K k_X0_X0_knownOn (x_knownOn T li j ok (Nat.le_refl T) hl0 hj2 ht rfl rfl) dX0_draftSpan_41 rfl rfl rfl rfl ⟨rfl, rfl⟩ ?_
      refine gX_st_draft j K rfl hj2 dX0_draftSpan_44 ?_
      refine gg_iinc K (v := nI (j + 1)) dX0_draftSpan_45 rfl (nI_inc (j)) (by decide) ?_
      refine gg_goto K (tgt := 3) dX0_draftSpan_48 (by decide) ?_
      refine gg_sub (L' := [(5, .int (nI (j + 1))), (0, .ref X.1), (1, .int (nI li)), (2, .int (nI f)), (3, .int (nI t)), (4, .int v)]) ⟨rfl, rfl, rfl, rfl, rfl, rfl, trivial⟩ ?_
      refine ih _ _ ⟨j + 1, _, by omega, rfl, rfl, by omega, fun d hd => ?_⟩
      unfold upd
      by_cases hdj : d = j
      · rw [if_pos hdj, hdj, if_neg (by omega)]
      · rw [if_neg hdj]
        exact he d (by omega)
    have hlt := i_nle h25
    refine gg_iload K dX0_draftSpan_28 rfl ?_
    refine gg_goto K (tgt := 44) dX0_draftSpan_30 (by decide) ?_
    refine gX_st_draft j K rfl hj2 dX0_draftSpan_44 ?_
    refine gg_iinc K (v := nI (j + 1)) dX0_draftSpan_45 rfl (nI_inc (j)) (by decide) ?_
    refine gg_goto K (tgt := 3) dX0_draftSpan_48 (by decide) ?_
    refine gg_sub (L' := [(5, .int (nI (j + 1))), (0, .ref X.1), (1, .int (nI li)), (2, .int (nI f)), (3, .int (nI t)), (4, .int v)]) ⟨rfl, rfl, rfl, rfl, rfl, rfl, trivial⟩ ?_
    refine ih _ _ ⟨j + 1, _, by omega, rfl, rfl, by omega, fun d hd => ?_⟩
    unfold upd
    by_cases hdj : d = j
    · rw [if_pos hdj, hdj, if_pos ⟨hge, hlt⟩]
    · rw [if_neg hdj]
      exact he d (by omega)
set_option maxRecDepth 100000 in
theorem x_draftRecord {l : Launch} {Z : ZT} {X : XT} {k kp dr : Nat → Int32} {td : Int32} {T : Nat} (li r : Nat) {x y : Int32} (ok : okX kp T) (hl0 : li < 16) (hr0 : r ≤ T) (hx : x = nI li) (hy : y = nI r) : mA l Z.1 (ty3 Z) yX0_draftRecord cX0_draftRecord 4 none (rmk 2 60 0 0) (wX Z X k kp dr td) [.ref X.1, .int x, .int y] (fun v u => v = none ∧ ∃ dr', u = wX Z X k kp dr' td ∧ ∀ d, d < 60 → dr' d = vX k kp T r li d) := by
  refine mA_intro (own := RX0) [(0, .ref X.1), (1, .int x), (2, .int y)] (by decide +kernel) rfl rfl rfl rfl ?_
  intro p e s m args below meth c A K hr hin
  have o1 := ok.1
  subst hx hy
  refine gg_iconst K (v := 0) dX0_draftRecord_0 (by decide) ?_
  refine gg_istore_n K (i := 3) dX0_draftRecord_1 rfl (by decide) ?_
  refine gg_sub (L' := [(3, .int (nI 0)), (0, .ref X.1), (1, .int (nI li)), (2, .int (nI r))]) ⟨rfl, rfl, rfl, rfl, trivial⟩ ?_
  refine gg_loop (fun i w L => ∃ (j : Nat) (dr' : Nat → Int32), j + i = 61 ∧ w = wX Z X k kp dr' td ∧ L = [(3, .int (nI j)), (0, .ref X.1), (1, .int (nI li)), (2, .int (nI r))] ∧ j ≤ 60 ∧ ∀ d, d < j → dr' d = vX k kp T r li d) (fun w L h => ?_) (fun i w L h ih => ?_) 61 _ _ ⟨0, dr, rfl, rfl, rfl, by omega, fun q h => absurd h (by omega)⟩
  · obtain ⟨j, dr', hj, -, -, h2, -⟩ := h
    omega
  · obtain ⟨j, dr', hj, rfl, rfl, -, he⟩ := h
    refine gg_iload_n K (i := 3) dX0_draftRecord_2 rfl rfl ?_
    refine gg_bipush K (v := 60) dX0_draftRecord_3 (by decide) ?_
    refine gg_icmp_ge K (tgt := 27) dX0_draftRecord_5 (by decide) (fun h5 => ?_) (fun h5 => ?_)
    · have hj2 := i_le (a := 60) h5
      exact gg_vret K hr dX0_draftRecord_27 (Nat.zero_le _) (Nat.zero_le _) ⟨rfl, dr', rfl, fun d hd => he d (by omega)⟩
    have hj2 := i_nle (a := 60) h5
    refine gg_aload_n K (i := 0) dX0_draftRecord_8 rfl rfl ?_
    refine gX_draft K dX0_draftRecord_9 ?_
    refine gg_iload_n K (i := 3) dX0_draftRecord_12 rfl rfl ?_
    refine gg_aload_n K (i := 0) dX0_draftRecord_13 rfl rfl ?_
    refine gg_iload_n K (i := 2) dX0_draftRecord_14 rfl rfl ?_
    refine gg_iload_n K (i := 1) dX0_draftRecord_15 rfl rfl ?_
    refine gg_iload_n K (i := 3) dX0_draftRecord_16 rfl rfl ?_
    refine gg_callRX K k_X0_X0_knownOn (x_knownOn r li j ok hr0 hl0 hj2 rfl rfl rfl) dX0_draftRecord_17 rfl rfl rfl rfl ⟨rfl, rfl⟩ ?_
    refine gX_st_draft j K rfl hj2 dX0_draftRecord_20 ?_
    refine gg_iinc K (v := nI (j + 1)) dX0_draftRecord_21 rfl (nI_inc (j)) (by decide) ?_
    refine gg_goto K (tgt := 2) dX0_draftRecord_24 (by decide) ?_
    refine gg_sub (L' := [(3, .int (nI (j + 1))), (0, .ref X.1), (1, .int (nI li)), (2, .int (nI r))]) ⟨rfl, rfl, rfl, rfl, trivial⟩ ?_
    refine ih _ _ ⟨j + 1, _, by omega, rfl, rfl, by omega, fun d hd => ?_⟩
    unfold upd
    by_cases hdj : d = j
    · rw [if_pos hdj, hdj]
    · rw [if_neg hdj]
      exact he d (by omega)
set_option maxRecDepth 100000 in
theorem x_draftKeeps {l : Launch} {Z : ZT} {X : XT} {k kp dr : Nat → Int32} {td : Int32} {T : Nat} (t9 key : Nat) {x y : Int32} (ok : okX kp T) (ht : td = nI T) (ht9 : t9 < 2) (hdr : t9 = 1 → ∀ d, d < 60 → dr d = -1 ∨ ∃ j, dr d = nI j ∧ j < 8) (hx : x = nI t9) (hy : y = nI key) : mR l Z yX0_draftKeepsReferences cX0_draftKeepsReferences 5 (some .boolean) (rmk 3 90 0 0) (wX Z X k kp dr td) [.ref X.1, .int x, .int y] (.int (bI (bP (keepP (vX k kp T) T dr t9 key)))) := by
  refine mA_intro (own := RX0) [(0, .ref X.1), (1, .int x), (2, .int y)] (by decide +kernel) rfl rfl rfl rfl ?_
  intro p e s m args below meth c A K hr hin
  have o1 := ok.1
  subst hx hy
  refine gg_iconst K (v := 0) dX0_draftKeepsReferences_0 (by decide) ?_
  refine gg_istore_n K (i := 3) dX0_draftKeepsReferences_1 rfl (by decide) ?_
  refine gg_sub (L' := [(3, .int (nI 0)), (0, .ref X.1), (1, .int (nI t9)), (2, .int (nI key))]) ⟨rfl, rfl, rfl, rfl, trivial⟩ ?_
  refine gg_loop (fun i w L => ∃ (j : Nat) (z9 : Int32), j + i = 61 ∧ w = wX Z X k kp dr td ∧ L = [(3, .int (nI j)), (0, .ref X.1), (1, .int (nI t9)), (2, .int (nI key))] ∧ j ≤ 60 ∧ ∀ d, d < j → (t9 = 0 → dr d = -1 → ¬ refd (vX k kp T) T (nI key) d) ∧ (t9 = 1 → ¬ dr d = -1 → ¬ vX k kp T T (dr d).toNatClampNeg d = -1)) (fun w L h => ?_) (fun i w L h ih => ?_) 61 _ _ ⟨0, 0, rfl, rfl, rfl, by omega, fun q h => absurd h (by omega)⟩
  · obtain ⟨j, z9, hj, -, -, h2, -⟩ := h
    omega
  · obtain ⟨j, z9, hj, rfl, rfl, -, he⟩ := h
    have next : j < 60 → ((t9 = 0 → dr j = -1 → ¬ refd (vX k kp T) T (nI key) j) ∧ (t9 = 1 → ¬ dr j = -1 → ¬ vX k kp T T (dr j).toNatClampNeg j = -1)) → ∀ d, d < j + 1 → (t9 = 0 → dr d = -1 → ¬ refd (vX k kp T) T (nI key) d) ∧ (t9 = 1 → ¬ dr d = -1 → ¬ vX k kp T T (dr d).toNatClampNeg d = -1) := fun _ h d hd => by
      by_cases hdj : d = j
      · rw [hdj]; exact h
      · exact he d (by omega)
    refine gg_iload_n K (i := 3) dX0_draftKeepsReferences_2 rfl rfl ?_
    refine gg_bipush K (v := 60) dX0_draftKeepsReferences_3 (by decide) ?_
    refine gg_icmp_ge K (tgt := 75) dX0_draftKeepsReferences_5 (by decide) (fun h5 => ?_) (fun h5 => ?_)
    · have hj2 := i_le (a := 60) h5
      refine gg_iconst K (v := 1) dX0_draftKeepsReferences_75 (by decide) ?_
      exact gg_zret K hr dX0_draftKeepsReferences_76 (Or.inr rfl) (Nat.zero_le _) (Nat.zero_le _) ⟨some_int (bI_t (bP_t (fun d hd => he d (by omega)))).symm, rfl⟩
    have hj2 := i_nle (a := 60) h5
    refine gg_aload_n K (i := 0) dX0_draftKeepsReferences_8 rfl rfl ?_
    refine gX_draft K dX0_draftKeepsReferences_9 ?_
    refine gg_iload_n K (i := 3) dX0_draftKeepsReferences_12 rfl rfl ?_
    refine gX_ld_draft j K rfl hj2 dX0_draftKeepsReferences_13 ?_
    refine gg_istore K dX0_draftKeepsReferences_14 (by decide) ?_
    refine gg_iload_n K (i := 1) dX0_draftKeepsReferences_16 rfl rfl ?_
    refine gg_if_ne K (tgt := 37) dX0_draftKeepsReferences_17 (by decide) (fun h17 => ?_) (fun h17 => ?_)
    · have t1 : t9 = 1 := by
        have := i_ne (b := 0) h17
        omega
      refine gg_iload_n K (i := 1) dX0_draftKeepsReferences_37 rfl rfl ?_
      refine gg_iconst K (v := 1) dX0_draftKeepsReferences_38 (by decide) ?_
      refine gg_icmp_ne K (tgt := 69) dX0_draftKeepsReferences_39 (by decide) (fun h39 => ?_) (fun h39 => ?_)
      · exact absurd (by rw [t1]; rfl) h39
      refine gg_iload K dX0_draftKeepsReferences_42 rfl ?_
      refine gg_iconst K (v := (-1)) dX0_draftKeepsReferences_44 (by decide) ?_
      refine gg_icmp_eq K (tgt := 69) dX0_draftKeepsReferences_45 (by decide) (fun h45 => ?_) (fun h45 => ?_)
      · refine gg_iinc K (v := nI (j + 1)) dX0_draftKeepsReferences_69 rfl (nI_inc (j)) (by decide) ?_
        refine gg_goto K (tgt := 2) dX0_draftKeepsReferences_72 (by decide) ?_
        refine gg_sub (L' := [(3, .int (nI (j + 1))), (0, .ref X.1), (1, .int (nI t9)), (2, .int (nI key))]) ⟨rfl, rfl, rfl, rfl, trivial⟩ ?_
        exact ih _ _ ⟨j + 1, 0, by omega, rfl, rfl, by omega, next hj2 ⟨fun q => absurd q (by omega), fun _ q => absurd h45 q⟩⟩
      obtain ⟨i9, hi1, hi2⟩ := (hdr t1 j hj2).resolve_left h45
      refine gg_aload_n K (i := 0) dX0_draftKeepsReferences_48 rfl rfl ?_
      refine gg_aload_n K (i := 0) dX0_draftKeepsReferences_49 rfl rfl ?_
      refine gX_today K dX0_draftKeepsReferences_50 ?_
      refine gg_iconst K (v := 0) dX0_draftKeepsReferences_53 (by decide) ?_
      refine gg_iload K dX0_draftKeepsReferences_54 rfl ?_
      refine gg_callSR K k_X0_X0_line (x_line 0 i9 rfl hi1) dX0_draftKeepsReferences_56 rfl rfl rfl rfl ⟨rfl, rfl⟩ ?_
      refine gg_iload_n K (i := 3) dX0_draftKeepsReferences_59 rfl rfl ?_
      refine gg_callRX K k_X0_X0_knownOn (x_knownOn T i9 j ok (Nat.le_refl T) (by omega) hj2 ht (congrArg nI (by omega)) rfl) dX0_draftKeepsReferences_60 rfl rfl rfl rfl ⟨rfl, rfl⟩ ?_
      have hc : (dr j).toNatClampNeg = i9 := by rw [hi1]; exact nI_clamp (by omega)
      refine gg_iconst K (v := (-1)) dX0_draftKeepsReferences_63 (by decide) ?_
      refine gg_icmp_ne K (tgt := 69) dX0_draftKeepsReferences_64 (by decide) (fun h64 => ?_) (fun h64 => ?_)
      · refine gg_iinc K (v := nI (j + 1)) dX0_draftKeepsReferences_69 rfl (nI_inc (j)) (by decide) ?_
        refine gg_goto K (tgt := 2) dX0_draftKeepsReferences_72 (by decide) ?_
        refine gg_sub (L' := [(3, .int (nI (j + 1))), (0, .ref X.1), (1, .int (nI t9)), (2, .int (nI key))]) ⟨rfl, rfl, rfl, rfl, trivial⟩ ?_
        exact ih _ _ ⟨j + 1, 0, by omega, rfl, rfl, by omega, next hj2 ⟨fun q => absurd q (by omega), fun _ _ => by rw [hc]; exact h64⟩⟩
      · refine gg_iconst K (v := 0) dX0_draftKeepsReferences_67 (by decide) ?_
        exact gg_zret K hr dX0_draftKeepsReferences_68 (Or.inl rfl) (Nat.zero_le _) (Nat.zero_le _) ⟨some_int (bI_f (bP_f (fun q => (q j hj2).2 t1 h45 (by rw [hc]; exact h64)))).symm, rfl⟩
    · have t0 : t9 = 0 := i_eq (b := 0) h17
      refine gg_iload K dX0_draftKeepsReferences_20 rfl ?_
      refine gg_iconst K (v := (-1)) dX0_draftKeepsReferences_22 (by decide) ?_
      refine gg_icmp_ne K (tgt := 37) dX0_draftKeepsReferences_23 (by decide) (fun h23 => ?_) (fun h23 => ?_)
      · refine gg_iload_n K (i := 1) dX0_draftKeepsReferences_37 rfl rfl ?_
        refine gg_iconst K (v := 1) dX0_draftKeepsReferences_38 (by decide) ?_
        refine gg_icmp_ne K (tgt := 69) dX0_draftKeepsReferences_39 (by decide) (fun h39 => ?_) (fun h39 => ?_)
        · refine gg_iinc K (v := nI (j + 1)) dX0_draftKeepsReferences_69 rfl (nI_inc (j)) (by decide) ?_
          refine gg_goto K (tgt := 2) dX0_draftKeepsReferences_72 (by decide) ?_
          refine gg_sub (L' := [(3, .int (nI (j + 1))), (0, .ref X.1), (1, .int (nI t9)), (2, .int (nI key))]) ⟨rfl, rfl, rfl, rfl, trivial⟩ ?_
          exact ih _ _ ⟨j + 1, 0, by omega, rfl, rfl, by omega, next hj2 ⟨fun _ q => absurd q h23, fun q => absurd q (by omega)⟩⟩
        · exact absurd h39 (by rw [t0]; decide)
      refine gg_aload_n K (i := 0) dX0_draftKeepsReferences_26 rfl rfl ?_
      refine gg_iload_n K (i := 2) dX0_draftKeepsReferences_27 rfl rfl ?_
      refine gg_iload_n K (i := 3) dX0_draftKeepsReferences_28 rfl rfl ?_
      refine gg_callRX K k_X0_X0_isReferredTo (x_isReferredTo j ok ht hj2 rfl) dX0_draftKeepsReferences_29 rfl rfl rfl rfl ⟨rfl, rfl⟩ ?_
      refine gg_b_eq K (tgt := 37) dX0_draftKeepsReferences_32 (by decide) (fun h32 => ?_) (fun h32 => ?_)
      · refine gg_iload_n K (i := 1) dX0_draftKeepsReferences_37 rfl rfl ?_
        refine gg_iconst K (v := 1) dX0_draftKeepsReferences_38 (by decide) ?_
        refine gg_icmp_ne K (tgt := 69) dX0_draftKeepsReferences_39 (by decide) (fun h39 => ?_) (fun h39 => ?_)
        · refine gg_iinc K (v := nI (j + 1)) dX0_draftKeepsReferences_69 rfl (nI_inc (j)) (by decide) ?_
          refine gg_goto K (tgt := 2) dX0_draftKeepsReferences_72 (by decide) ?_
          refine gg_sub (L' := [(3, .int (nI (j + 1))), (0, .ref X.1), (1, .int (nI t9)), (2, .int (nI key))]) ⟨rfl, rfl, rfl, rfl, trivial⟩ ?_
          exact ih _ _ ⟨j + 1, 0, by omega, rfl, rfl, by omega, next hj2 ⟨fun _ _ => bP_nf h32, fun q => absurd q (by omega)⟩⟩
        · exact absurd h39 (by rw [t0]; decide)
      · refine gg_iconst K (v := 0) dX0_draftKeepsReferences_35 (by decide) ?_
        exact gg_zret K hr dX0_draftKeepsReferences_36 (Or.inl rfl) (Nat.zero_le _) (Nat.zero_le _) ⟨some_int (bI_f (bP_f (fun q => (q j hj2).1 t0 h23 (bP_iff.mp h32)))).symm, rfl⟩
end
section
/-! Twotimes: the checks of arguments; a draft recorded; what is lost with references; days copied -/
def inR (x : Int32) (b : Int32) : Prop := ¬ x < 0 ∧ ¬ b ≤ x
theorem inR_nat {x : Int32} {b : Nat} (h : inR x (nI b)) (hb : b < 2 ^ 31 := by omega) : ∃ j, j < b ∧ x = nI j := by
  obtain ⟨j, h1, h2⟩ := nI_of h.1
  refine ⟨j, ?_, h2⟩
  have := h.2
  rw [h2] at this
  exact i_nle this
theorem inR_of {j b : Nat} (h : j < b) (hb : b < 2 ^ 31 := by omega) : inR (nI j) (nI b) := ⟨nI_pos (by omega), nI_ge h (by omega)⟩
set_option maxRecDepth 100000 in
theorem x_needRange {l : Launch} (hl0 : l.stackTraces = false) {D : va_G} {tys : List (ClassId × FieldType)} {x b : Int32} : mX l D tys yX0_needRange (.code yX0_needRange cX0_needRange 2 none) (rmk 6 90 1 6) [] [.int x, .int b] (fun r u => r = none ∧ u = [] ∧ inR x b) (fun E u => E = eA ∧ u = [] ∧ ¬ inR x b) := by
  refine mX_intro (own := RX0) [(0, .int x), (1, .int b)] (by decide +kernel) rfl rfl rfl rfl ?_
  intro p e s m args below meth c A K hr T9 htab
  refine gg_iload_n K (i := 0) dX0_needRange_0 rfl rfl ?_
  refine gg_if_lt K (tgt := 9) dX0_needRange_1 (by decide) (fun h1 => ?_) (fun h1 => ?_)
  · exact gg_throw_eA K T9 hl0 htab (is := 134) (text := "out of range") (by decide) dX0_needRange_9 dX0_needRange_12 dX0_needRange_13 dX0_needRange_15 dX0_needRange_18 rfl rfl (Nat.le_of_ble_eq_true rfl) (Nat.le_of_ble_eq_true rfl) ⟨rfl, rfl, fun q => q.1 h1⟩
  refine gg_iload_n K (i := 0) dX0_needRange_4 rfl rfl ?_
  refine gg_iload_n K (i := 1) dX0_needRange_5 rfl rfl ?_
  refine gg_icmp_lt K (tgt := 19) dX0_needRange_6 (by decide) (fun h6 => ?_) (fun h6 => ?_)
  · exact gg_x (gg_vret K hr dX0_needRange_19 (Nat.le_of_ble_eq_true rfl) (Nat.le_of_ble_eq_true rfl) ⟨rfl, rfl, h1, fun q => by rw [Int32.lt_iff_toInt_lt] at h6; rw [Int32.le_iff_toInt_le] at q; omega⟩)
  · exact gg_throw_eA K T9 hl0 htab (is := 134) (text := "out of range") (by decide) dX0_needRange_9 dX0_needRange_12 dX0_needRange_13 dX0_needRange_15 dX0_needRange_18 rfl rfl (Nat.le_of_ble_eq_true rfl) (Nat.le_of_ble_eq_true rfl) ⟨rfl, rfl, fun q => q.2 (by rw [Int32.lt_iff_toInt_lt] at h6; rw [Int32.le_iff_toInt_le]; omega)⟩
set_option maxRecDepth 100000 in
theorem x_needTK {l : Launch} (hl0 : l.stackTraces = false) {D : va_G} {tys : List (ClassId × FieldType)} {x y : Int32} : mX l D tys yX0_needTableAndKey (.code yX0_needTableAndKey cX0_needTableAndKey 2 none) (rmk 7 120 2 12) [] [.int x, .int y] (fun r u => r = none ∧ u = [] ∧ inR x 2 ∧ inR y 8) (fun E u => E = eA ∧ u = [] ∧ ¬ (inR x 2 ∧ inR y 8)) := by
  refine mX_intro (own := RX0) [(0, .int x), (1, .int y)] (by decide +kernel) rfl rfl rfl rfl ?_
  intro p e s m args below meth c A K hr T9 htab
  refine gg_iload_n K (i := 0) dX0_needTableAndKey_0 rfl rfl ?_
  refine gg_iconst K (v := 2) dX0_needTableAndKey_1 (by decide) ?_
  refine gg_callTS 1 6 K T9 k_X0_X0_needRange (x_needRange hl0) dX0_needTableAndKey_2 rfl rfl rfl rfl ⟨rfl, rfl⟩ (fun E u h => ?_) (fun v u h => ?_)
  · obtain ⟨rfl, rfl, h⟩ := h
    exact gx_out K htab (Nat.le_of_ble_eq_true rfl) (Nat.le_of_ble_eq_true rfl) ⟨rfl, rfl, fun q => h q.1⟩
  obtain ⟨rfl, rfl, h1⟩ := h
  refine gg_iload_n K (i := 1) dX0_needTableAndKey_5 rfl rfl ?_
  refine gg_bipush K (v := 8) dX0_needTableAndKey_6 (by decide) ?_
  refine gg_callTS 2 12 K T9 k_X0_X0_needRange (x_needRange hl0) dX0_needTableAndKey_8 rfl rfl rfl rfl ⟨rfl, rfl⟩ (fun E u h => ?_) (fun v u h => ?_)
  · obtain ⟨rfl, rfl, h⟩ := h
    exact gx_out K htab (Nat.le_of_ble_eq_true rfl) (Nat.le_of_ble_eq_true rfl) ⟨rfl, rfl, fun q => h q.2⟩
  obtain ⟨rfl, rfl, h2⟩ := h
  exact gg_x (gg_vret K hr dX0_needTableAndKey_11 (Nat.le_of_ble_eq_true rfl) (Nat.le_of_ble_eq_true rfl) ⟨rfl, rfl, h1, h2⟩)
def spanR (f t : Int32) : Prop := inR f 60 ∧ ¬ t ≤ f ∧ t ≤ 60
set_option maxRecDepth 100000 in
theorem x_needSpan {l : Launch} (hl0 : l.stackTraces = false) {D : va_G} {tys : List (ClassId × FieldType)} {x y : Int32} : mX l D tys yX0_needSpan (.code yX0_needSpan cX0_needSpan 2 none) (rmk 7 120 2 12) [] [.int x, .int y] (fun r u => r = none ∧ u = [] ∧ spanR x y) (fun E u => E = eA ∧ u = [] ∧ ¬ spanR x y) := by
  refine mX_intro (own := RX0) [(0, .int x), (1, .int y)] (by decide +kernel) rfl rfl rfl rfl ?_
  intro p e s m args below meth c A K hr T9 htab
  refine gg_iload_n K (i := 0) dX0_needSpan_0 rfl rfl ?_
  refine gg_bipush K (v := 60) dX0_needSpan_1 (by decide) ?_
  refine gg_callTS 1 6 K T9 k_X0_X0_needRange (x_needRange hl0) dX0_needSpan_3 rfl rfl rfl rfl ⟨rfl, rfl⟩ (fun E u h => ?_) (fun v u h => ?_)
  · obtain ⟨rfl, rfl, h⟩ := h
    exact gx_out K htab (Nat.le_of_ble_eq_true rfl) (Nat.le_of_ble_eq_true rfl) ⟨rfl, rfl, fun q => h q.1⟩
  obtain ⟨rfl, rfl, h1⟩ := h
  refine gg_iload_n K (i := 1) dX0_needSpan_6 rfl rfl ?_
  refine gg_iload_n K (i := 0) dX0_needSpan_7 rfl rfl ?_
  refine gg_icmp_le K (tgt := 17) dX0_needSpan_8 (by decide) (fun h8 => ?_) (fun h8 => ?_)
  · exact gg_throw_eA K T9 hl0 htab (is := 136) (text := "span") (by decide) dX0_needSpan_17 dX0_needSpan_20 dX0_needSpan_21 dX0_needSpan_23 dX0_needSpan_26 rfl rfl (Nat.le_of_ble_eq_true rfl) (Nat.le_of_ble_eq_true rfl) ⟨rfl, rfl, fun q => q.2.1 h8⟩
  refine gg_iload_n K (i := 1) dX0_needSpan_11 rfl rfl ?_
  refine gg_bipush K (v := 60) dX0_needSpan_12 (by decide) ?_
  refine gg_icmp_le K (tgt := 27) dX0_needSpan_14 (by decide) (fun h14 => ?_) (fun h14 => ?_)
  · exact gg_x (gg_vret K hr dX0_needSpan_27 (Nat.le_of_ble_eq_true rfl) (Nat.le_of_ble_eq_true rfl) ⟨rfl, rfl, h1, h8, h14⟩)
  · exact gg_throw_eA K T9 hl0 htab (is := 136) (text := "span") (by decide) dX0_needSpan_17 dX0_needSpan_20 dX0_needSpan_21 dX0_needSpan_23 dX0_needSpan_26 rfl rfl (Nat.le_of_ble_eq_true rfl) (Nat.le_of_ble_eq_true rfl) ⟨rfl, rfl, fun q => h14 q.2.2⟩
set_option maxRecDepth 100000 in
theorem x_needRecord {l : Launch} {Z : ZT} {X : XT} {k kp dr : Nat → Int32} {td : Int32} (hl0 : l.stackTraces = false) {x : Int32} : mX l Z.1 (ty3 Z) yX0_needRecord (.code yX0_needRecord cX0_needRecord 2 none) (rmk 7 120 2 12) (wX Z X k kp dr td) [.ref X.1, .int x] (fun r u => r = none ∧ u = wX Z X k kp dr td ∧ inR x 60 ∧ x ≤ td) (fun E u => u = wX Z X k kp dr td ∧ ((E = eA ∧ ¬ inR x 60) ∨ (E = eB ∧ inR x 60 ∧ ¬ x ≤ td))) := by
  refine mX_intro (own := RX0) [(0, .ref X.1), (1, .int x)] (by decide +kernel) rfl rfl rfl rfl ?_
  intro p e s m args below meth c A K hr T9 htab
  refine gg_iload_n K (i := 1) dX0_needRecord_0 rfl rfl ?_
  refine gg_bipush K (v := 60) dX0_needRecord_1 (by decide) ?_
  refine gg_callTS 1 6 K T9 k_X0_X0_needRange (x_needRange hl0) dX0_needRecord_3 rfl rfl rfl rfl ⟨rfl, rfl⟩ (fun E u h => ?_) (fun v u h => ?_)
  · obtain ⟨rfl, rfl, h⟩ := h
    exact gx_out K htab (Nat.le_of_ble_eq_true rfl) (Nat.le_of_ble_eq_true rfl) ⟨rfl, Or.inl ⟨rfl, h⟩⟩
  obtain ⟨rfl, rfl, h1⟩ := h
  refine gg_iload_n K (i := 1) dX0_needRecord_6 rfl rfl ?_
  refine gg_aload_n K (i := 0) dX0_needRecord_7 rfl rfl ?_
  refine gX_today K dX0_needRecord_8 ?_
  refine gg_icmp_le K (tgt := 24) dX0_needRecord_11 (by decide) (fun h11 => ?_) (fun h11 => ?_)
  · exact gg_x (gg_vret K hr dX0_needRecord_24 (Nat.le_of_ble_eq_true rfl) (Nat.le_of_ble_eq_true rfl) ⟨rfl, rfl, h1, h11⟩)
  · exact gg_throw_eB K T9 hl0 htab (is := 138) (text := "record") (by decide) dX0_needRecord_14 dX0_needRecord_17 dX0_needRecord_18 dX0_needRecord_20 dX0_needRecord_23 rfl rfl (Nat.le_of_ble_eq_true rfl) (Nat.le_of_ble_eq_true rfl) ⟨rfl, Or.inr ⟨rfl, h1, h11⟩⟩
set_option maxRecDepth 100000 in
theorem x_recordDraft {l : Launch} {Z : ZT} {X : XT} {k kp dr : Nat → Int32} {td : Int32} {T : Nat} (hl0 : l.stackTraces = false) (t9 key : Nat) {x y : Int32} (ok : okX kp T) (ht : td = nI T) (ht9 : t9 < 2) (hk : key < 8) (hdr : t9 = 1 → ∀ d, d < 60 → dr d = -1 ∨ ∃ j, dr d = nI j ∧ j < 8) (hx : x = nI t9) (hy : y = nI key) : mX l Z.1 (ty3 Z) yX0_recordDraft (.code yX0_recordDraft cX0_recordDraft 6 (some .int)) (rmk 7 120 1 6) (wX Z X k kp dr td) [.ref X.1, .int x, .int y]
    (fun r u => keepP (vX k kp T) T dr t9 key ∧ r = some (.int (nI (fb_ct (fun d => bP (¬ vX k kp T T (t9 * 8 + key) d = dr d)) 60))) ∧ ∃ k', u = wX Z X k' kp dr td ∧ vX k' kp T = updR (vX k kp T) T (t9 * 8 + key) dr 0 60) (fun E u => E = eS ∧ u = wX Z X k kp dr td ∧ ¬ keepP (vX k kp T) T dr t9 key) := by
  refine mX_intro (own := RX0) [(0, .ref X.1), (1, .int x), (2, .int y)] (by decide +kernel) rfl rfl rfl rfl ?_
  intro p e s m args below meth c A K hr T9 htab
  have o1 := ok.1
  subst hx hy
  refine gg_aload_n K (i := 0) dX0_recordDraft_0 rfl rfl ?_
  refine gg_iload_n K (i := 1) dX0_recordDraft_1 rfl rfl ?_
  refine gg_iload_n K (i := 2) dX0_recordDraft_2 rfl rfl ?_
  refine gg_callRX K k_X0_X0_draftKeepsReferences (x_draftKeeps t9 key ok ht ht9 hdr rfl rfl) dX0_recordDraft_3 rfl rfl rfl rfl ⟨rfl, rfl⟩ ?_
  refine gg_b_ne K (tgt := 19) dX0_recordDraft_6 (by decide) (fun h6 => ?_) (fun h6 => ?_)
  rotate_left
  · exact gg_throw_eS K T9 hl0 htab (is := 153) (text := "references") (by decide) dX0_recordDraft_9 dX0_recordDraft_12 dX0_recordDraft_13 dX0_recordDraft_15 dX0_recordDraft_18 rfl rfl (Nat.le_of_ble_eq_true rfl) (Nat.le_of_ble_eq_true rfl) ⟨rfl, rfl, bP_nf h6⟩
  have hkeep := bP_iff.mp h6
  refine gg_iload_n K (i := 1) dX0_recordDraft_19 rfl rfl ?_
  refine gg_iload_n K (i := 2) dX0_recordDraft_20 rfl rfl ?_
  refine gg_callSR K k_X0_X0_line (x_line t9 key rfl rfl) dX0_recordDraft_21 rfl rfl rfl rfl ⟨rfl, rfl⟩ ?_
  refine gg_istore_n K (i := 3) dX0_recordDraft_24 rfl (by decide) ?_
  refine gg_iconst K (v := 0) dX0_recordDraft_25 (by decide) ?_
  refine gg_istore K dX0_recordDraft_26 (by decide) ?_
  refine gg_iconst K (v := 0) dX0_recordDraft_28 (by decide) ?_
  refine gg_istore K dX0_recordDraft_29 (by decide) ?_
  refine gg_sub (L' := [(5, .int (nI 0)), (4, .int (nI 0)), (3, .int (nI (t9 * 8 + key))), (0, .ref X.1), (1, .int (nI t9)), (2, .int (nI key))]) ⟨rfl, rfl, rfl, rfl, rfl, rfl, trivial⟩ ?_
  refine gg_loop (fun i w L => ∃ (j b : Nat) (k' : Nat → Int32), j + i = 61 ∧ w = wX Z X k' kp dr td ∧ L = [(5, .int (nI j)), (4, .int (nI b)), (3, .int (nI (t9 * 8 + key))), (0, .ref X.1), (1, .int (nI t9)), (2, .int (nI key))] ∧ j ≤ 60 ∧ b = fb_ct ((fun d => bP (¬ vX k kp T T (t9 * 8 + key) d = dr d))) j ∧ vX k' kp T = updR (vX k kp T) T (t9 * 8 + key) dr 0 j) (fun w L h => ?_) (fun i w L h ih => ?_) 61 _ _ ⟨0, 0, k, rfl, rfl, rfl, by omega, rfl, (updR_0 _ _ _ _ _).symm⟩
  · obtain ⟨j, b, k', hj, -, -, h2, -⟩ := h
    omega
  · obtain ⟨j, b, k', hj, rfl, rfl, -, hb, he⟩ := h
    refine gg_iload K dX0_recordDraft_31 rfl ?_
    refine gg_bipush K (v := 60) dX0_recordDraft_33 (by decide) ?_
    refine gg_icmp_ge K (tgt := 82) dX0_recordDraft_35 (by decide) (fun h35 => ?_) (fun h35 => ?_)
    · have hj2 := i_le (a := 60) h35
      have hj3 : j = 60 := by omega
      subst hj3
      refine gg_iload K dX0_recordDraft_82 rfl ?_
      exact gg_x (gg_iret K hr dX0_recordDraft_84 (Nat.le_of_ble_eq_true rfl) (Nat.le_of_ble_eq_true rfl) ⟨hkeep, some_int (by rw [hb]), k', rfl, he⟩)
    have hj2 := i_nle (a := 60) h35
    refine gg_aload_n K (i := 0) dX0_recordDraft_38 rfl rfl ?_
    refine gg_aload_n K (i := 0) dX0_recordDraft_39 rfl rfl ?_
    refine gX_today K dX0_recordDraft_40 ?_
    refine gg_iload_n K (i := 3) dX0_recordDraft_43 rfl rfl ?_
    refine gg_iload K dX0_recordDraft_44 rfl ?_
    refine gg_callRX K k_X0_X0_knownOn (x_knownOn T (t9 * 8 + key) j ok (Nat.le_refl T) (by omega) hj2 ht rfl rfl) dX0_recordDraft_46 rfl rfl rfl rfl ⟨rfl, rfl⟩ ?_
    refine gg_aload_n K (i := 0) dX0_recordDraft_49 rfl rfl ?_
    refine gX_draft K dX0_recordDraft_50 ?_
    refine gg_iload K dX0_recordDraft_53 rfl ?_
    refine gX_ld_draft j K rfl hj2 dX0_recordDraft_55 ?_
    have hat : vX k' kp T T (t9 * 8 + key) j = vX k kp T T (t9 * 8 + key) j := by rw [he]; exact updR_at (Nat.le_refl j)
    refine gg_icmp_eq K (tgt := 76) dX0_recordDraft_56 (by decide) (fun h56 => ?_) (fun h56 => ?_)
    · rw [hat] at h56
      refine gg_iinc K (v := nI (j + 1)) dX0_recordDraft_76 rfl (nI_inc (j)) (by decide) ?_
      refine gg_goto K (tgt := 31) dX0_recordDraft_79 (by decide) ?_
      refine gg_sub (L' := [(5, .int (nI (j + 1))), (4, .int (nI b)), (3, .int (nI (t9 * 8 + key))), (0, .ref X.1), (1, .int (nI t9)), (2, .int (nI key))]) ⟨rfl, rfl, rfl, rfl, rfl, rfl, trivial⟩ ?_
      refine ih _ _ ⟨j + 1, b, k', by omega, rfl, rfl, by omega, ?_, ?_⟩
      · rw [fb_ct_succ, bP_f (fun q => q h56), ← hb]; rfl
      · rw [he]; exact updR_skip (Nat.zero_le j) h56
    · rw [hat] at h56
      refine gg_aload_n K (i := 0) dX0_recordDraft_59 rfl rfl ?_
      refine gg_iload_n K (i := 3) dX0_recordDraft_60 rfl rfl ?_
      refine gg_iload K dX0_recordDraft_61 rfl ?_
      refine gg_aload_n K (i := 0) dX0_recordDraft_63 rfl rfl ?_
      refine gX_draft K dX0_recordDraft_64 ?_
      refine gg_iload K dX0_recordDraft_67 rfl ?_
      refine gX_ld_draft j K rfl hj2 dX0_recordDraft_69 ?_
      refine gg_callUX K k_X0_X0_recordToday (x_recordToday (t9 * 8 + key) j ok ht (by omega) hj2 rfl rfl) dX0_recordDraft_70 rfl rfl rfl rfl ⟨rfl, rfl⟩ (fun v u h => ?_)
      obtain ⟨rfl, rfl⟩ := h
      refine gg_iinc K (v := nI (b + 1)) dX0_recordDraft_73 rfl (nI_inc (b)) (by decide) ?_
      refine gg_iinc K (v := nI (j + 1)) dX0_recordDraft_76 rfl (nI_inc (j)) (by decide) ?_
      refine gg_goto K (tgt := 31) dX0_recordDraft_79 (by decide) ?_
      refine gg_sub (L' := [(5, .int (nI (j + 1))), (4, .int (nI (b + 1))), (3, .int (nI (t9 * 8 + key))), (0, .ref X.1), (1, .int (nI t9)), (2, .int (nI key))]) ⟨rfl, rfl, rfl, rfl, rfl, rfl, trivial⟩ ?_
      refine ih _ _ ⟨j + 1, b + 1, _, by omega, rfl, rfl, by omega, ?_, ?_⟩
      · rw [fb_ct_succ, bP_t h56, ← hb]; rfl
      · rw [vX_upd ok (by omega) hj2, he]; exact updR_step (Nat.zero_le j)
end
section
/-! Twotimes: the questions that change nothing, from their first instruction -/
abbrev nN (x : Int32) : Nat := x.toNatClampNeg
theorem inR_N {x : Int32} {b : Nat} (h : inR x (nI b)) (hb : b < 2 ^ 31 := by omega) : nN x < b ∧ x = nI (nN x) := by
  obtain ⟨j, h1, h2⟩ := inR_nat h
  have e : nN x = j := by rw [h2]; exact nI_clamp (by omega)
  rw [e]
  exact ⟨h1, h2⟩
theorem leT {x : Int32} {T : Nat} (h2 : x = nI (nN x)) (h1 : nN x < 60) (hT : T < 60) (h : x ≤ nI T) : nN x ≤ T := by
  rw [h2] at h
  exact i_le h
/-- what a call may answer: its code (0: it returns), its answer, the table of values and today behind it -/
abbrev ST : Type := Int32 → Int32 → VT → Nat → Prop
def qS (V : VT) (T : Nat) (P1 P2 : Prop) (r0 : Int32) : ST := fun c r V' T' => V' = V ∧ T' = T ∧ ((¬ P1 ∧ c = 1) ∨ (P1 ∧ ¬ P2 ∧ c = 2) ∨ (P1 ∧ P2 ∧ c = 0 ∧ r = r0))
def xPost (Z : ZT) (X : XT) (S : ST) : Option Value → va_W → Prop := fun ret u => ∃ (r : Int32) (k' kp' dr' : Nat → Int32) (T' : Nat), ret = some (.int r) ∧ u = wX Z X k' kp' dr' (nI T') ∧ okX kp' T' ∧ S 0 r (vX k' kp' T') T'
def xErr (Z : ZT) (X : XT) (S : ST) (codes : List (String × Int32)) : String → va_W → Prop := fun E u => ∃ (c : Int32) (k' kp' dr' : Nat → Int32) (T' : Nat), (E, c) ∈ codes ∧ u = wX Z X k' kp' dr' (nI T') ∧ okX kp' T' ∧ S c 0 (vX k' kp' T') T'
def cAB : List (String × Int32) := [(eA, 1), (eB, 2)]
def cAS : List (String × Int32) := [(eA, 1), (eS, 2)]
def cA1 : List (String × Int32) := [(eA, 1)]
def cABS : List (String × Int32) := [(eA, 1), (eB, 2), (eS, 3)]
theorem qE1 {Z : ZT} {X : XT} {k kp dr : Nat → Int32} {T : Nat} {P1 P2 : Prop} {r0 : Int32} {codes : List (String × Int32)} (ok : okX kp T) (h : ¬ P1) (hm : (eA, 1) ∈ codes) : xErr Z X (qS (vX k kp T) T P1 P2 r0) codes eA (wX Z X k kp dr (nI T)) := ⟨1, k, kp, dr, T, hm, rfl, ok, rfl, rfl, Or.inl ⟨h, rfl⟩⟩
theorem qE2 {Z : ZT} {X : XT} {k kp dr : Nat → Int32} {T : Nat} {P1 P2 : Prop} {r0 : Int32} {codes : List (String × Int32)} {E : String} (ok : okX kp T) (h1 : P1) (h : ¬ P2) (hm : (E, 2) ∈ codes) : xErr Z X (qS (vX k kp T) T P1 P2 r0) codes E (wX Z X k kp dr (nI T)) := ⟨2, k, kp, dr, T, hm, rfl, ok, rfl, rfl, Or.inr (Or.inl ⟨h1, h, rfl⟩)⟩
theorem qOk {Z : ZT} {X : XT} {k kp dr : Nat → Int32} {T : Nat} {P1 P2 : Prop} {r r0 : Int32} (ok : okX kp T) (h1 : P1) (h2 : P2) (e : r = r0) : xPost Z X (qS (vX k kp T) T P1 P2 r0) (some (.int r)) (wX Z X k kp dr (nI T)) := ⟨r, k, kp, dr, T, rfl, rfl, ok, rfl, rfl, Or.inr (Or.inr ⟨h1, h2, rfl, e⟩)⟩
set_option maxRecDepth 100000 in
theorem x_today {l : Launch} {Z : ZT} {X : XT} {k kp dr : Nat → Int32} {T : Nat} : mR l Z yX0_today cX0_today 1 (some .int) (rmk 0 0 0 0) (wX Z X k kp dr (nI T)) [.ref X.1] (.int (nI T)) := by
  refine mA_intro (own := RX0) [(0, .ref X.1)] (by decide +kernel) rfl rfl rfl rfl ?_
  intro p e s m args below meth c A K hr hin
  refine gg_aload_n K (i := 0) dX0_today_0 rfl rfl ?_
  refine gX_today K dX0_today_1 ?_
  exact gg_iret K hr dX0_today_4 (Nat.le_of_ble_eq_true rfl) (Nat.le_of_ble_eq_true rfl) ⟨rfl, rfl⟩
set_option maxRecDepth 100000 in
theorem x_value {l : Launch} {Z : ZT} {X : XT} {k kp dr : Nat → Int32} {T : Nat} (hl0 : l.stackTraces = false) (ok : okX kp T) {t y d q : Int32} : mX l Z.1 (ty3 Z) yX0_value (.code yX0_value cX0_value 5 (some .int)) (rmk 9 200 8 48) (wX Z X k kp dr (nI T)) [.ref X.1, .int t, .int y, .int d, .int q] (xPost Z X ((qS (vX k kp T) T (inR t 2 ∧ inR y 8 ∧ inR d 60 ∧ inR q 60) (q ≤ nI T) (vX k kp T (nN q) (nN t * 8 + nN y) (nN d))))) (xErr Z X ((qS (vX k kp T) T (inR t 2 ∧ inR y 8 ∧ inR d 60 ∧ inR q 60) (q ≤ nI T) (vX k kp T (nN q) (nN t * 8 + nN y) (nN d)))) cAB) := by
  refine mX_intro (own := RX0) [(0, .ref X.1), (1, .int t), (2, .int y), (3, .int d), (4, .int q)] (by decide +kernel) rfl rfl rfl rfl ?_
  intro p e s m args below meth c A K hr T9 htab
  refine gg_iload_n K (i := 1) dX0_value_0 rfl rfl ?_
  refine gg_iload_n K (i := 2) dX0_value_1 rfl rfl ?_
  refine gg_callTS 2 12 K T9 k_X0_X0_needTableAndKey (x_needTK hl0) dX0_value_2 rfl rfl rfl rfl ⟨rfl, rfl⟩ (fun E u h => ?_) (fun v u h => ?_)
  · obtain ⟨rfl, rfl, h⟩ := h
    exact gx_out K htab (Nat.le_of_ble_eq_true rfl) (Nat.le_of_ble_eq_true rfl) (qE1 ok (fun z => h ⟨z.1, z.2.1⟩) (by decide))
  obtain ⟨rfl, rfl, h1⟩ := h
  refine gg_iload_n K (i := 3) dX0_value_5 rfl rfl ?_
  refine gg_bipush K (v := 60) dX0_value_6 (by decide) ?_
  refine gg_callTS 3 18 K T9 k_X0_X0_needRange (x_needRange hl0) dX0_value_8 rfl rfl rfl rfl ⟨rfl, rfl⟩ (fun E u h => ?_) (fun v u h => ?_)
  · obtain ⟨rfl, rfl, h⟩ := h
    exact gx_out K htab (Nat.le_of_ble_eq_true rfl) (Nat.le_of_ble_eq_true rfl) (qE1 ok (fun z => h z.2.2.1) (by decide))
  obtain ⟨rfl, rfl, h2⟩ := h
  refine gg_aload_n K (i := 0) dX0_value_11 rfl rfl ?_
  refine gg_iload K dX0_value_12 rfl ?_
  refine gg_callTX 5 30 K T9 k_X0_X0_needRecord (x_needRecord hl0) dX0_value_14 rfl rfl rfl rfl ⟨rfl, rfl⟩ (fun E u h => ?_) (fun v u h => ?_)
  · obtain ⟨rfl, ⟨rfl, h⟩ | ⟨rfl, h, h'⟩⟩ := h
    · exact gx_out K htab (Nat.le_of_ble_eq_true rfl) (Nat.le_of_ble_eq_true rfl) (qE1 ok (fun z => h z.2.2.2) (by decide))
    · exact gx_out K htab (Nat.le_of_ble_eq_true rfl) (Nat.le_of_ble_eq_true rfl) (qE2 ok ⟨h1.1, h1.2, h2, h⟩ h' (by decide))
  obtain ⟨rfl, rfl, h3, h4⟩ := h
  have ⟨a1, a2⟩ := inR_N (b := 2) h1.1
  have ⟨b1, b2⟩ := inR_N (b := 8) h1.2
  have ⟨d1, d2⟩ := inR_N (b := 60) h2
  have ⟨q1, q2⟩ := inR_N (b := 60) h3
  refine gg_aload_n K (i := 0) dX0_value_17 rfl rfl ?_
  refine gg_iload K dX0_value_18 rfl ?_
  refine gg_iload_n K (i := 1) dX0_value_20 rfl rfl ?_
  refine gg_iload_n K (i := 2) dX0_value_21 rfl rfl ?_
  refine gg_callSR K k_X0_X0_line (x_line (nN t) (nN y) a2 b2) dX0_value_22 rfl rfl rfl rfl ⟨rfl, rfl⟩ ?_
  refine gg_iload_n K (i := 3) dX0_value_25 rfl rfl ?_
  refine gg_callRX K k_X0_X0_knownOn (x_knownOn (nN q) (nN t * 8 + nN y) (nN d) ok (leT q2 q1 ok.1 h4) (by omega) d1 q2 rfl d2) dX0_value_26 rfl rfl rfl rfl ⟨rfl, rfl⟩ ?_
  exact gg_x (gg_iret K hr dX0_value_29 (Nat.le_of_ble_eq_true rfl) (Nat.le_of_ble_eq_true rfl) (qOk ok ⟨h1.1, h1.2, h2, h3⟩ h4 rfl))
def kyF (g : Nat → Int32) : Nat → Int32
  | 0 => 0
  | n + 1 => if g n = -1 then kyF g n else kyF g n ||| (1 <<< (nI n &&& 31))
set_option maxRecDepth 100000 in
theorem x_keys {l : Launch} {Z : ZT} {X : XT} {k kp dr : Nat → Int32} {T : Nat} (hl0 : l.stackTraces = false) (ok : okX kp T) {t d q : Int32} : mX l Z.1 (ty3 Z) yX0_keys (.code yX0_keys cX0_keys 6 (some .int)) (rmk 9 200 8 48) (wX Z X k kp dr (nI T)) [.ref X.1, .int t, .int d, .int q] (xPost Z X ((qS (vX k kp T) T (inR t 2 ∧ inR d 60 ∧ inR q 60) (q ≤ nI T) (kyF (fun i => vX k kp T (nN q) (nN t * 8 + i) (nN d)) 8)))) (xErr Z X ((qS (vX k kp T) T (inR t 2 ∧ inR d 60 ∧ inR q 60) (q ≤ nI T) (kyF (fun i => vX k kp T (nN q) (nN t * 8 + i) (nN d)) 8))) cAB) := by
  refine mX_intro (own := RX0) [(0, .ref X.1), (1, .int t), (2, .int d), (3, .int q)] (by decide +kernel) rfl rfl rfl rfl ?_
  intro p e s m args below meth c A K hr T9 htab
  refine gg_iload_n K (i := 1) dX0_keys_0 rfl rfl ?_
  refine gg_iconst K (v := 2) dX0_keys_1 (by decide) ?_
  refine gg_callTS 1 6 K T9 k_X0_X0_needRange (x_needRange hl0) dX0_keys_2 rfl rfl rfl rfl ⟨rfl, rfl⟩ (fun E u h => ?_) (fun v u h => ?_)
  · obtain ⟨rfl, rfl, h⟩ := h
    exact gx_out K htab (Nat.le_of_ble_eq_true rfl) (Nat.le_of_ble_eq_true rfl) (qE1 ok (fun z => h z.1) (by decide))
  obtain ⟨rfl, rfl, h1⟩ := h
  refine gg_iload_n K (i := 2) dX0_keys_5 rfl rfl ?_
  refine gg_bipush K (v := 60) dX0_keys_6 (by decide) ?_
  refine gg_callTS 2 12 K T9 k_X0_X0_needRange (x_needRange hl0) dX0_keys_8 rfl rfl rfl rfl ⟨rfl, rfl⟩ (fun E u h => ?_) (fun v u h => ?_)
  · obtain ⟨rfl, rfl, h⟩ := h
    exact gx_out K htab (Nat.le_of_ble_eq_true rfl) (Nat.le_of_ble_eq_true rfl) (qE1 ok (fun z => h z.2.1) (by decide))
  obtain ⟨rfl, rfl, h2⟩ := h
  refine gg_aload_n K (i := 0) dX0_keys_11 rfl rfl ?_
  refine gg_iload_n K (i := 3) dX0_keys_12 rfl rfl ?_
  refine gg_callTX 4 24 K T9 k_X0_X0_needRecord (x_needRecord hl0) dX0_keys_13 rfl rfl rfl rfl ⟨rfl, rfl⟩ (fun E u h => ?_) (fun v u h => ?_)
  · obtain ⟨rfl, ⟨rfl, h⟩ | ⟨rfl, h, h'⟩⟩ := h
    · exact gx_out K htab (Nat.le_of_ble_eq_true rfl) (Nat.le_of_ble_eq_true rfl) (qE1 ok (fun z => h z.2.2) (by decide))
    · exact gx_out K htab (Nat.le_of_ble_eq_true rfl) (Nat.le_of_ble_eq_true rfl) (qE2 ok ⟨h1, h2, h⟩ h' (by decide))
  obtain ⟨rfl, rfl, h3, h4⟩ := h
  have ⟨a1, a2⟩ := inR_N (b := 2) h1
  have ⟨d1, d2⟩ := inR_N (b := 60) h2
  have ⟨q1, q2⟩ := inR_N (b := 60) h3
  refine gg_iconst K (v := 0) dX0_keys_16 (by decide) ?_
  refine gg_istore K dX0_keys_17 (by decide) ?_
  refine gg_iconst K (v := 0) dX0_keys_19 (by decide) ?_
  refine gg_istore K dX0_keys_20 (by decide) ?_
  refine gg_sub (L' := [(5, .int (nI 0)), (4, .int 0), (0, .ref X.1), (1, .int t), (2, .int d), (3, .int q)]) ⟨rfl, rfl, rfl, rfl, rfl, rfl, trivial⟩ ?_
  refine gg_loop (fun i w L => ∃ (j : Nat), j + i = 9 ∧ w = wX Z X k kp dr (nI T) ∧ j ≤ 8 ∧ L = [(5, .int (nI j)), (4, .int ((kyF (fun i => vX k kp T (nN q) (nN t * 8 + i) (nN d)) j))), (0, .ref X.1), (1, .int t), (2, .int d), (3, .int q)]) (fun w L h => ?_) (fun i w L h ih => ?_) 9 _ _ ⟨0, rfl, rfl, by omega, rfl⟩
  · obtain ⟨j, hj, -, h2, -⟩ := h
    omega
  · obtain ⟨j, hj, rfl, -, rfl⟩ := h
    refine gg_iload K dX0_keys_22 rfl ?_
    refine gg_bipush K (v := 8) dX0_keys_24 (by decide) ?_
    refine gg_icmp_ge K (tgt := 60) dX0_keys_26 (by decide) (fun h26 => ?_) (fun h26 => ?_)
    · have hj2 := i_le (a := 8) h26
      have hj3 : j = 8 := by omega
      subst hj3
      refine gg_iload K dX0_keys_60 rfl ?_
      exact gg_x (gg_iret K hr dX0_keys_62 (Nat.le_of_ble_eq_true rfl) (Nat.le_of_ble_eq_true rfl) (qOk ok ⟨h1, h2, h3⟩ h4 rfl))
    have hj2 := i_nle (a := 8) h26
    refine gg_aload_n K (i := 0) dX0_keys_29 rfl rfl ?_
    refine gg_iload_n K (i := 3) dX0_keys_30 rfl rfl ?_
    refine gg_iload_n K (i := 1) dX0_keys_31 rfl rfl ?_
    refine gg_iload K dX0_keys_32 rfl ?_
    refine gg_callSR K k_X0_X0_line (x_line (nN t) j a2 rfl) dX0_keys_34 rfl rfl rfl rfl ⟨rfl, rfl⟩ ?_
    refine gg_iload_n K (i := 2) dX0_keys_37 rfl rfl ?_
    refine gg_callRX K k_X0_X0_knownOn (x_knownOn (nN q) (nN t * 8 + j) (nN d) ok (leT q2 q1 ok.1 h4) (by omega) d1 q2 rfl d2) dX0_keys_38 rfl rfl rfl rfl ⟨rfl, rfl⟩ ?_
    refine gg_iconst K (v := (-1)) dX0_keys_41 (by decide) ?_
    refine gg_icmp_eq K (tgt := 54) dX0_keys_42 (by decide) (fun h42 => ?_) (fun h42 => ?_)
    · refine gg_iinc K (v := nI (j + 1)) dX0_keys_54 rfl (nI_inc (j)) (by decide) ?_
      refine gg_goto K (tgt := 22) dX0_keys_57 (by decide) ?_
      refine gg_sub (L' := [(5, .int (nI (j + 1))), (4, .int ((kyF (fun i => vX k kp T (nN q) (nN t * 8 + i) (nN d)) j))), (0, .ref X.1), (1, .int t), (2, .int d), (3, .int q)]) ⟨rfl, rfl, rfl, rfl, rfl, rfl, trivial⟩ ?_
      exact ih _ _ ⟨j + 1, by omega, rfl, by omega, by rw [show kyF (fun i => vX k kp T (nN q) (nN t * 8 + i) (nN d)) (j + 1) = kyF (fun i => vX k kp T (nN q) (nN t * 8 + i) (nN d)) j from if_pos h42]⟩
    · refine gg_iload K dX0_keys_45 rfl ?_
      refine gg_iconst K (v := 1) dX0_keys_47 (by decide) ?_
      refine gg_iload K dX0_keys_48 rfl ?_
      refine gg_ishl K dX0_keys_50 ?_
      refine gg_ior K dX0_keys_51 ?_
      refine gg_istore K dX0_keys_52 (by decide) ?_
      refine gg_iinc K (v := nI (j + 1)) dX0_keys_54 rfl (nI_inc (j)) (by decide) ?_
      refine gg_goto K (tgt := 22) dX0_keys_57 (by decide) ?_
      refine gg_sub (L' := [(5, .int (nI (j + 1))), (4, .int ((kyF (fun i => vX k kp T (nN q) (nN t * 8 + i) (nN d)) j ||| (1 <<< (nI j &&& 31))))), (0, .ref X.1), (1, .int t), (2, .int d), (3, .int q)]) ⟨rfl, rfl, rfl, rfl, rfl, rfl, trivial⟩ ?_
      exact ih _ _ ⟨j + 1, by omega, rfl, by omega, by rw [show kyF (fun i => vX k kp T (nN q) (nN t * 8 + i) (nN d)) (j + 1) = _ from if_neg h42]⟩
set_option maxRecDepth 100000 in
theorem x_joined {l : Launch} {Z : ZT} {X : XT} {k kp dr : Nat → Int32} {T : Nat} (hl0 : l.stackTraces = false) (ok : okX kp T) (hv : valOk (vX k kp T) T) {y d q : Int32} : mX l Z.1 (ty3 Z) yX0_joined (.code yX0_joined cX0_joined 4 (some .int)) (rmk 9 200 8 48) (wX Z X k kp dr (nI T)) [.ref X.1, .int y, .int d, .int q] (xPost Z X ((qS (vX k kp T) T (inR y 8 ∧ inR d 60 ∧ inR q 60) (q ≤ nI T) (jnF (vX k kp T) (nN q) (nN y) (nN d))))) (xErr Z X ((qS (vX k kp T) T (inR y 8 ∧ inR d 60 ∧ inR q 60) (q ≤ nI T) (jnF (vX k kp T) (nN q) (nN y) (nN d)))) cAB) := by
  refine mX_intro (own := RX0) [(0, .ref X.1), (1, .int y), (2, .int d), (3, .int q)] (by decide +kernel) rfl rfl rfl rfl ?_
  intro p e s m args below meth c A K hr T9 htab
  refine gg_iload_n K (i := 1) dX0_joined_0 rfl rfl ?_
  refine gg_bipush K (v := 8) dX0_joined_1 (by decide) ?_
  refine gg_callTS 1 6 K T9 k_X0_X0_needRange (x_needRange hl0) dX0_joined_3 rfl rfl rfl rfl ⟨rfl, rfl⟩ (fun E u h => ?_) (fun v u h => ?_)
  · obtain ⟨rfl, rfl, h⟩ := h
    exact gx_out K htab (Nat.le_of_ble_eq_true rfl) (Nat.le_of_ble_eq_true rfl) (qE1 ok (fun z => h z.1) (by decide))
  obtain ⟨rfl, rfl, h1⟩ := h
  refine gg_iload_n K (i := 2) dX0_joined_6 rfl rfl ?_
  refine gg_bipush K (v := 60) dX0_joined_7 (by decide) ?_
  refine gg_callTS 2 12 K T9 k_X0_X0_needRange (x_needRange hl0) dX0_joined_9 rfl rfl rfl rfl ⟨rfl, rfl⟩ (fun E u h => ?_) (fun v u h => ?_)
  · obtain ⟨rfl, rfl, h⟩ := h
    exact gx_out K htab (Nat.le_of_ble_eq_true rfl) (Nat.le_of_ble_eq_true rfl) (qE1 ok (fun z => h z.2.1) (by decide))
  obtain ⟨rfl, rfl, h2⟩ := h
  refine gg_aload_n K (i := 0) dX0_joined_12 rfl rfl ?_
  refine gg_iload_n K (i := 3) dX0_joined_13 rfl rfl ?_
  refine gg_callTX 4 24 K T9 k_X0_X0_needRecord (x_needRecord hl0) dX0_joined_14 rfl rfl rfl rfl ⟨rfl, rfl⟩ (fun E u h => ?_) (fun v u h => ?_)
  · obtain ⟨rfl, ⟨rfl, h⟩ | ⟨rfl, h, h'⟩⟩ := h
    · exact gx_out K htab (Nat.le_of_ble_eq_true rfl) (Nat.le_of_ble_eq_true rfl) (qE1 ok (fun z => h z.2.2) (by decide))
    · exact gx_out K htab (Nat.le_of_ble_eq_true rfl) (Nat.le_of_ble_eq_true rfl) (qE2 ok ⟨h1, h2, h⟩ h' (by decide))
  obtain ⟨rfl, rfl, h3, h4⟩ := h
  have ⟨a1, a2⟩ := inR_N (b := 8) h1
  have ⟨d1, d2⟩ := inR_N (b := 60) h2
  have ⟨q1, q2⟩ := inR_N (b := 60) h3
  refine gg_aload_n K (i := 0) dX0_joined_17 rfl rfl ?_
  refine gg_iload_n K (i := 3) dX0_joined_18 rfl rfl ?_
  refine gg_iload_n K (i := 1) dX0_joined_19 rfl rfl ?_
  refine gg_iload_n K (i := 2) dX0_joined_20 rfl rfl ?_
  refine gg_callRX K k_X0_X0_joinedOn (x_joinedOn (nN q) (nN y) (nN d) ok hv (leT q2 q1 ok.1 h4) a1 d1 q2 a2 d2) dX0_joined_21 rfl rfl rfl rfl ⟨rfl, rfl⟩ ?_
  exact gg_x (gg_iret K hr dX0_joined_24 (Nat.le_of_ble_eq_true rfl) (Nat.le_of_ble_eq_true rfl) (qOk ok ⟨h1, h2, h3⟩ h4 rfl))
end
section
/-! Twotimes: runs counted, found, the longest; corrections -/
theorem nI_m1 {a : Nat} (h : a < 2 ^ 31) : ¬ nI a = -1 := by
  intro q
  have h1 : (nI a).toInt = (-1 : Int32).toInt := by rw [q]
  rw [nI_toInt h] at h1
  have h2 : (-1 : Int32).toInt = -1 := by decide
  rw [h2] at h1
  omega
theorem fstF_spec (q : Nat → Bool) (run : Int32) : ∀ (n d : Nat), (∃ e, d ≤ e ∧ e < d + n ∧ q e = true ∧ nI (fb_ct q e) = run ∧ fstF q run n d (fb_ct q d) = nI e) ∨ (fstF q run n d (fb_ct q d) = -1 ∧ ∀ e, d ≤ e → e < d + n → q e = true → ¬ nI (fb_ct q e) = run)
  | 0, d => Or.inr ⟨rfl, fun e h1 h2 => absurd h2 (by omega)⟩
  | n + 1, d => by
    unfold fstF
    by_cases hq : q d = true
    · have hs : fb_ct q d + 1 = fb_ct q (d + 1) := by rw [fb_ct_succ, if_pos hq]
      rw [if_pos hq]
      by_cases hb : nI (fb_ct q d) = run
      · rw [if_pos hb]
        exact Or.inl ⟨d, by omega, by omega, hq, hb, rfl⟩
      · rw [if_neg hb, hs]
        rcases fstF_spec q run n (d + 1) with ⟨e, h1, h2, h3, h4, h5⟩ | ⟨h1, h2⟩
        · exact Or.inl ⟨e, by omega, by omega, h3, h4, h5⟩
        · exact Or.inr ⟨h1, fun e h3 h4 h5 => by
            by_cases hed : e = d
            · rw [hed]; exact hb
            · exact h2 e (by omega) (by omega) h5⟩
    · have hs : fb_ct q d = fb_ct q (d + 1) := by rw [fb_ct_succ, if_neg hq]; rfl
      rw [if_neg hq, hs]
      rcases fstF_spec q run n (d + 1) with ⟨e, h1, h2, h3, h4, h5⟩ | ⟨h1, h2⟩
      · exact Or.inl ⟨e, by omega, by omega, h3, h4, h5⟩
      · exact Or.inr ⟨h1, fun e h3 h4 h5 => by
          by_cases hed : e = d
          · exact absurd (hed ▸ h5) hq
          · exact h2 e (by omega) (by omega) h5⟩
/-- the place with j such places ahead of it -/
noncomputable def kthD (q : Nat → Bool) (j : Nat) : Nat → Nat
  | 0 => 0
  | n + 1 => if bP (q n = true ∧ fb_ct q n = j) = true then n else kthD q j n
theorem kthD_eq {q : Nat → Bool} {j e : Nat} (h1 : q e = true) (h2 : fb_ct q e = j) : ∀ {n : Nat}, e < n → kthD q j n = e
  | 0, h => absurd h (by omega)
  | n + 1, h => by
    unfold kthD
    by_cases hq : q n = true ∧ fb_ct q n = j
    · rw [if_pos (bP_t hq)]
      exact fb_ct_kth_one hq.1 h1 (hq.2.trans h2.symm)
    · rw [if_neg (fun z => hq (bP_iff.mp z))]
      exact kthD_eq h1 h2 (by
        by_cases he : e = n
        · exact absurd (by rw [← he]; exact ⟨h1, h2⟩) hq
        · omega)
def lgF (f : Nat → Int32) : Nat → Nat
  | 0 => 0
  | n + 1 => if stF f n = true then (if lgF f n < endF f n - n then endF f n - n else lgF f n) else lgF f n
theorem lgF_le (f : Nat → Int32) : ∀ {n : Nat}, n ≤ 60 → lgF f n ≤ 60
  | 0, _ => Nat.zero_le _
  | n + 1, h => by
    unfold lgF
    have h1 := lgF_le f (n := n) (by omega)
    have h2 := endF_le (f := f) (d := n) (by omega)
    split
    · split <;> omega
    · exact h1
section
variable {p : Program} {l : Launch} {e : Env} {R : Room} {s : State} {m : MethodId} {args : Array Value} {below : List Frame} {meth : Method} {c : Code} {D : va_G} {A : Nat → Prop} {tys : List (ClassId × FieldType)} {cc : ByteArray} {n cells slots pc : Nat} {Q : State → Prop} {ws : va_W} {L : List (Nat × Value)} {st : List Value}
theorem gg_mmax {x y : Int32} (K : kx p s m args meth c D A tys cc RX0 n) (hd : decode cc pc = .ok (.invokestatic 127, 3)) (hR : (Nat.ble 1 R.frames && (Nat.ble 21 R.locals && (Nat.ble cells R.cells && Nat.ble slots R.slots))) = true) (hw : c8 st = true) (k : gg p l e R s m args below meth c D A n cells slots Q ws (pc + 3) L (.int (if x < y then y else x) :: st)) : gg p l e R s m args below meth c D A n cells slots Q ws pc L (.int y :: .int x :: st) := by
  intro H locs ls hP hD hS hl
  simp only [Bool.and_eq_true] at hR
  obtain ⟨r1, r2, r3, r4⟩ := hR
  have r1 := Nat.le_of_ble_eq_true r1
  have r2 := Nat.le_of_ble_eq_true r2
  have r3 := Nat.le_of_ble_eq_true r3
  have r4 := Nat.le_of_ble_eq_true r4
  have hw := Nat.le_of_ble_eq_true hw
  exact va_mmax K.1.1 K.1.2.1 (K.1.2.2.1.trans hl.1.symm) K.1.2.2.2.1 (K.1.2.2.2.2 _ wd_427) (K.1.2.2.2.2 _ wd_428) (K.1.2.2.2.2 _ wd_429) (K.1.2.2.2.2 _ wd_430) r1 (by omega) r3 r4 hd (k H locs ls hP hD hS hl)
end
set_option maxRecDepth 100000 in
theorem x_runs {l : Launch} {Z : ZT} {X : XT} {k kp dr : Nat → Int32} {T : Nat} (hl0 : l.stackTraces = false) (ok : okX kp T) {t y q : Int32} : mX l Z.1 (ty3 Z) yX0_runs (.code yX0_runs cX0_runs 7 (some .int)) (rmk 9 200 8 48) (wX Z X k kp dr (nI T)) [.ref X.1, .int t, .int y, .int q] (xPost Z X ((qS (vX k kp T) T (inR t 2 ∧ inR y 8 ∧ inR q 60) (q ≤ nI T) (nI (fb_ct (stF (vX k kp T (nN q) (nN t * 8 + nN y))) 60))))) (xErr Z X ((qS (vX k kp T) T (inR t 2 ∧ inR y 8 ∧ inR q 60) (q ≤ nI T) (nI (fb_ct (stF (vX k kp T (nN q) (nN t * 8 + nN y))) 60)))) cAB) := by
  refine mX_intro (own := RX0) [(0, .ref X.1), (1, .int t), (2, .int y), (3, .int q)] (by decide +kernel) rfl rfl rfl rfl ?_
  intro p e s m args below meth c A K hr T9 htab
  refine gg_iload_n K (i := 1) dX0_runs_0 rfl rfl ?_
  refine gg_iload_n K (i := 2) dX0_runs_1 rfl rfl ?_
  refine gg_callTS 2 12 K T9 k_X0_X0_needTableAndKey (x_needTK hl0) dX0_runs_2 rfl rfl rfl rfl ⟨rfl, rfl⟩ (fun E u h => ?_) (fun v u h => ?_)
  · obtain ⟨rfl, rfl, h⟩ := h
    exact gx_out K htab (Nat.le_of_ble_eq_true rfl) (Nat.le_of_ble_eq_true rfl) (qE1 ok (fun z => h ⟨z.1, z.2.1⟩) (by decide))
  obtain ⟨rfl, rfl, h1⟩ := h
  refine gg_aload_n K (i := 0) dX0_runs_5 rfl rfl ?_
  refine gg_iload_n K (i := 3) dX0_runs_6 rfl rfl ?_
  refine gg_callTX 4 24 K T9 k_X0_X0_needRecord (x_needRecord hl0) dX0_runs_7 rfl rfl rfl rfl ⟨rfl, rfl⟩ (fun E u h => ?_) (fun v u h => ?_)
  · obtain ⟨rfl, ⟨rfl, h⟩ | ⟨rfl, h, h'⟩⟩ := h
    · exact gx_out K htab (Nat.le_of_ble_eq_true rfl) (Nat.le_of_ble_eq_true rfl) (qE1 ok (fun z => h z.2.2) (by decide))
    · exact gx_out K htab (Nat.le_of_ble_eq_true rfl) (Nat.le_of_ble_eq_true rfl) (qE2 ok ⟨h1.1, h1.2, h⟩ h' (by decide))
  obtain ⟨rfl, rfl, h3, h4⟩ := h
  have ⟨a1, a2⟩ := inR_N (b := 2) h1.1
  have ⟨b1, b2⟩ := inR_N (b := 8) h1.2
  have ⟨q1, q2⟩ := inR_N (b := 60) h3
  refine gg_iload_n K (i := 1) dX0_runs_10 rfl rfl ?_
  refine gg_iload_n K (i := 2) dX0_runs_11 rfl rfl ?_
  refine gg_callSR K k_X0_X0_line (x_line (nN t) (nN y) a2 b2) dX0_runs_12 rfl rfl rfl rfl ⟨rfl, rfl⟩ ?_
  refine gg_istore K dX0_runs_15 (by decide) ?_
  refine gg_iconst K (v := 0) dX0_runs_17 (by decide) ?_
  refine gg_istore K dX0_runs_18 (by decide) ?_
  refine gg_iconst K (v := 0) dX0_runs_20 (by decide) ?_
  refine gg_istore K dX0_runs_21 (by decide) ?_
  refine gg_sub (L' := [(6, .int (nI 0)), (5, .int (nI 0)), (4, .int (nI (nN t * 8 + nN y))), (0, .ref X.1), (1, .int t), (2, .int y), (3, .int q)]) ⟨rfl, rfl, rfl, rfl, rfl, rfl, rfl, trivial⟩ ?_
  refine gg_loop (fun i w L => ∃ (j : Nat), j + i = 61 ∧ w = wX Z X k kp dr (nI T) ∧ j ≤ 60 ∧ L = [(6, .int (nI j)), (5, .int (nI ((fb_ct (stF (vX k kp T (nN q) (nN t * 8 + nN y))) j)))), (4, .int (nI (nN t * 8 + nN y))), (0, .ref X.1), (1, .int t), (2, .int y), (3, .int q)]) (fun w L h => ?_) (fun i w L h ih => ?_) 61 _ _ ⟨0, rfl, rfl, by omega, rfl⟩
  · obtain ⟨j, hj, -, h2, -⟩ := h
    omega
  · obtain ⟨j, hj, rfl, -, rfl⟩ := h
    refine gg_iload K dX0_runs_23 rfl ?_
    refine gg_bipush K (v := 60) dX0_runs_25 (by decide) ?_
    refine gg_icmp_ge K (tgt := 51) dX0_runs_27 (by decide) (fun h27 => ?_) (fun h27 => ?_)
    · have hj2 := i_le (a := 60) h27
      have hj3 : j = 60 := by omega
      subst hj3
      refine gg_iload K dX0_runs_51 rfl ?_
      exact gg_x (gg_iret K hr dX0_runs_53 (Nat.le_of_ble_eq_true rfl) (Nat.le_of_ble_eq_true rfl) (qOk ok ⟨h1.1, h1.2, h3⟩ h4 rfl))
    have hj2 := i_nle (a := 60) h27
    refine gg_aload_n K (i := 0) dX0_runs_30 rfl rfl ?_
    refine gg_iload_n K (i := 3) dX0_runs_31 rfl rfl ?_
    refine gg_iload K dX0_runs_32 rfl ?_
    refine gg_iload K dX0_runs_34 rfl ?_
    refine gg_callRX K k_X0_X0_startsRun (x_startsRun (nN q) (nN t * 8 + nN y) j ok (leT q2 q1 ok.1 h4) (by omega) hj2 q2 rfl rfl) dX0_runs_36 rfl rfl rfl rfl ⟨rfl, rfl⟩ ?_
    refine gg_b_eq K (tgt := 45) dX0_runs_39 (by decide) (fun h39 => ?_) (fun h39 => ?_)
    · refine gg_iinc K (v := nI (j + 1)) dX0_runs_45 rfl (nI_inc (j)) (by decide) ?_
      refine gg_goto K (tgt := 23) dX0_runs_48 (by decide) ?_
      refine gg_sub (L' := [(6, .int (nI (j + 1))), (5, .int (nI ((fb_ct (stF (vX k kp T (nN q) (nN t * 8 + nN y))) j)))), (4, .int (nI (nN t * 8 + nN y))), (0, .ref X.1), (1, .int t), (2, .int y), (3, .int q)]) ⟨rfl, rfl, rfl, rfl, rfl, rfl, rfl, trivial⟩ ?_
      exact ih _ _ ⟨j + 1, by omega, rfl, by omega, by rw [fb_ct_succ, h39]; rfl⟩
    · refine gg_iinc K (v := nI (fb_ct (stF (vX k kp T (nN q) (nN t * 8 + nN y))) j + 1)) dX0_runs_42 rfl (nI_inc (fb_ct (stF (vX k kp T (nN q) (nN t * 8 + nN y))) j)) (by decide) ?_
      refine gg_iinc K (v := nI (j + 1)) dX0_runs_45 rfl (nI_inc (j)) (by decide) ?_
      refine gg_goto K (tgt := 23) dX0_runs_48 (by decide) ?_
      refine gg_sub (L' := [(6, .int (nI (j + 1))), (5, .int (nI ((fb_ct (stF (vX k kp T (nN q) (nN t * 8 + nN y))) j + 1)))), (4, .int (nI (nN t * 8 + nN y))), (0, .ref X.1), (1, .int t), (2, .int y), (3, .int q)]) ⟨rfl, rfl, rfl, rfl, rfl, rfl, rfl, trivial⟩ ?_
      exact ih _ _ ⟨j + 1, by omega, rfl, by omega, by rw [fb_ct_succ, h39]; rfl⟩
set_option maxRecDepth 100000 in
theorem x_run {l : Launch} {Z : ZT} {X : XT} {k kp dr : Nat → Int32} {T : Nat} (hl0 : l.stackTraces = false) (ok : okX kp T) {t y q w9 : Int32} : mX l Z.1 (ty3 Z) yX0_run (.code yX0_run cX0_run 7 (some .int)) (rmk 9 200 8 48) (wX Z X k kp dr (nI T)) [.ref X.1, .int t, .int y, .int q, .int w9] (xPost Z X ((qS (vX k kp T) T (inR t 2 ∧ inR y 8 ∧ inR q 60) (q ≤ nI T ∧ ∃ j, j < fb_ct (stF (vX k kp T (nN q) (nN t * 8 + nN y))) 60 ∧ w9 = nI j) (runN (vX k kp T (nN q) (nN t * 8 + nN y)) (kthD (stF (vX k kp T (nN q) (nN t * 8 + nN y))) (nN w9) 60))))) (xErr Z X ((qS (vX k kp T) T (inR t 2 ∧ inR y 8 ∧ inR q 60) (q ≤ nI T ∧ ∃ j, j < fb_ct (stF (vX k kp T (nN q) (nN t * 8 + nN y))) 60 ∧ w9 = nI j) (runN (vX k kp T (nN q) (nN t * 8 + nN y)) (kthD (stF (vX k kp T (nN q) (nN t * 8 + nN y))) (nN w9) 60)))) cAB) := by
  refine mX_intro (own := RX0) [(0, .ref X.1), (1, .int t), (2, .int y), (3, .int q), (4, .int w9)] (by decide +kernel) rfl rfl rfl rfl ?_
  intro p e s m args below meth c A K hr T9 htab
  refine gg_iload_n K (i := 1) dX0_run_0 rfl rfl ?_
  refine gg_iload_n K (i := 2) dX0_run_1 rfl rfl ?_
  refine gg_callTS 2 12 K T9 k_X0_X0_needTableAndKey (x_needTK hl0) dX0_run_2 rfl rfl rfl rfl ⟨rfl, rfl⟩ (fun E u h => ?_) (fun v u h => ?_)
  · obtain ⟨rfl, rfl, h⟩ := h
    exact gx_out K htab (Nat.le_of_ble_eq_true rfl) (Nat.le_of_ble_eq_true rfl) (qE1 ok (fun z => h ⟨z.1, z.2.1⟩) (by decide))
  obtain ⟨rfl, rfl, h1⟩ := h
  refine gg_aload_n K (i := 0) dX0_run_5 rfl rfl ?_
  refine gg_iload_n K (i := 3) dX0_run_6 rfl rfl ?_
  refine gg_callTX 4 24 K T9 k_X0_X0_needRecord (x_needRecord hl0) dX0_run_7 rfl rfl rfl rfl ⟨rfl, rfl⟩ (fun E u h => ?_) (fun v u h => ?_)
  · obtain ⟨rfl, ⟨rfl, h⟩ | ⟨rfl, h, h'⟩⟩ := h
    · exact gx_out K htab (Nat.le_of_ble_eq_true rfl) (Nat.le_of_ble_eq_true rfl) (qE1 ok (fun z => h z.2.2) (by decide))
    · exact gx_out K htab (Nat.le_of_ble_eq_true rfl) (Nat.le_of_ble_eq_true rfl) (qE2 ok ⟨h1.1, h1.2, h⟩ (fun z => h' z.1) (by decide))
  obtain ⟨rfl, rfl, h3, h4⟩ := h
  have ⟨a1, a2⟩ := inR_N (b := 2) h1.1
  have ⟨b1, b2⟩ := inR_N (b := 8) h1.2
  have ⟨q1, q2⟩ := inR_N (b := 60) h3
  refine gg_iload_n K (i := 1) dX0_run_10 rfl rfl ?_
  refine gg_iload_n K (i := 2) dX0_run_11 rfl rfl ?_
  refine gg_callSR K k_X0_X0_line (x_line (nN t) (nN y) a2 b2) dX0_run_12 rfl rfl rfl rfl ⟨rfl, rfl⟩ ?_
  refine gg_istore K dX0_run_15 (by decide) ?_
  refine gg_aload_n K (i := 0) dX0_run_17 rfl rfl ?_
  refine gg_iload_n K (i := 3) dX0_run_18 rfl rfl ?_
  refine gg_iload K dX0_run_19 rfl ?_
  refine gg_iload K dX0_run_21 rfl ?_
  refine gg_callRX K k_X0_X0_firstDayOfRun (x_firstDayOfRun (nN q) (nN t * 8 + nN y) ok (leT q2 q1 ok.1 h4) (by omega) q2 rfl) dX0_run_23 rfl rfl rfl rfl ⟨rfl, rfl⟩ ?_
  have hsp := fstF_spec (stF (vX k kp T (nN q) (nN t * 8 + nN y))) w9 60 0
  rw [show fb_ct (stF (vX k kp T (nN q) (nN t * 8 + nN y))) 0 = 0 from rfl] at hsp
  rcases hsp with ⟨e9, -, e1, e2, e3, e4⟩ | ⟨e1, e2⟩
  · refine gg_top e4 ?_
    refine gg_istore K dX0_run_26 (by decide) ?_
    refine gg_iload K dX0_run_28 rfl ?_
    refine gg_iconst K (v := (-1)) dX0_run_30 (by decide) ?_
    refine gg_icmp_ne K (tgt := 44) dX0_run_31 (by decide) (fun h31 => ?_) (fun h31 => ?_)
    rotate_left
    · exact absurd h31 (nI_m1 (by omega))
    refine gg_aload_n K (i := 0) dX0_run_44 rfl rfl ?_
    refine gg_iload_n K (i := 3) dX0_run_45 rfl rfl ?_
    refine gg_iload K dX0_run_46 rfl ?_
    refine gg_iload K dX0_run_48 rfl ?_
    refine gg_callRX K k_X0_X0_runNumber (x_runNumber (nN q) (nN t * 8 + nN y) e9 ok (leT q2 q1 ok.1 h4) (by omega) (by omega) q2 rfl rfl) dX0_run_50 rfl rfl rfl rfl ⟨rfl, rfl⟩ ?_
    have hc : fb_ct (stF (vX k kp T (nN q) (nN t * 8 + nN y))) e9 < fb_ct (stF (vX k kp T (nN q) (nN t * 8 + nN y))) 60 := by
      have h6 := fb_ct_mono (stF (vX k kp T (nN q) (nN t * 8 + nN y))) (show e9 + 1 ≤ 60 by omega)
      rw [fb_ct_succ, if_pos e2] at h6
      omega
    have hl6 := fb_ct_le (stF (vX k kp T (nN q) (nN t * 8 + nN y))) 60
    refine gg_x (gg_iret K hr dX0_run_53 (Nat.le_of_ble_eq_true rfl) (Nat.le_of_ble_eq_true rfl) (qOk ok ⟨h1.1, h1.2, h3⟩ ⟨h4, _, hc, e3.symm⟩ ?_))
    rw [kthD_eq e2 (show fb_ct (stF (vX k kp T (nN q) (nN t * 8 + nN y))) e9 = nN w9 by rw [← e3]; exact (nI_clamp (by omega)).symm) (by omega)]
  · refine gg_top e1 ?_
    refine gg_istore K dX0_run_26 (by decide) ?_
    refine gg_iload K dX0_run_28 rfl ?_
    refine gg_iconst K (v := (-1)) dX0_run_30 (by decide) ?_
    refine gg_icmp_ne K (tgt := 44) dX0_run_31 (by decide) (fun h31 => ?_) (fun h31 => ?_)
    · exact absurd rfl h31
    exact gg_throw_eB K T9 hl0 htab (is := 93) (text := "run") (by decide) dX0_run_34 dX0_run_37 dX0_run_38 dX0_run_40 dX0_run_43 rfl rfl (Nat.le_of_ble_eq_true rfl) (Nat.le_of_ble_eq_true rfl) (qE2 ok ⟨h1.1, h1.2, h3⟩ (fun z => by
      obtain ⟨-, j, hj, hj2⟩ := z
      obtain ⟨e9, g1, g2, g3⟩ := fb_ct_kth hj
      exact e2 e9 (by omega) (by omega) g2 (by rw [g3, hj2])) (by decide))
set_option maxRecDepth 100000 in
theorem x_joinedRuns {l : Launch} {Z : ZT} {X : XT} {k kp dr : Nat → Int32} {T : Nat} (hl0 : l.stackTraces = false) (ok : okX kp T) (hv : valOk (vX k kp T) T) {y q : Int32} : mX l Z.1 (ty3 Z) yX0_joinedRuns (.code yX0_joinedRuns cX0_joinedRuns 5 (some .int)) (rmk 9 200 8 48) (wX Z X k kp dr (nI T)) [.ref X.1, .int y, .int q] (xPost Z X ((qS (vX k kp T) T (inR y 8 ∧ inR q 60) (q ≤ nI T) (nI (fb_ct (jsF (vX k kp T) (nN q) (nN y)) 60))))) (xErr Z X ((qS (vX k kp T) T (inR y 8 ∧ inR q 60) (q ≤ nI T) (nI (fb_ct (jsF (vX k kp T) (nN q) (nN y)) 60)))) cAB) := by
  refine mX_intro (own := RX0) [(0, .ref X.1), (1, .int y), (2, .int q)] (by decide +kernel) rfl rfl rfl rfl ?_
  intro p e s m args below meth c A K hr T9 htab
  refine gg_iload_n K (i := 1) dX0_joinedRuns_0 rfl rfl ?_
  refine gg_bipush K (v := 8) dX0_joinedRuns_1 (by decide) ?_
  refine gg_callTS 1 6 K T9 k_X0_X0_needRange (x_needRange hl0) dX0_joinedRuns_3 rfl rfl rfl rfl ⟨rfl, rfl⟩ (fun E u h => ?_) (fun v u h => ?_)
  · obtain ⟨rfl, rfl, h⟩ := h
    exact gx_out K htab (Nat.le_of_ble_eq_true rfl) (Nat.le_of_ble_eq_true rfl) (qE1 ok (fun z => h z.1) (by decide))
  obtain ⟨rfl, rfl, h1⟩ := h
  refine gg_aload_n K (i := 0) dX0_joinedRuns_6 rfl rfl ?_
  refine gg_iload_n K (i := 2) dX0_joinedRuns_7 rfl rfl ?_
  refine gg_callTX 3 18 K T9 k_X0_X0_needRecord (x_needRecord hl0) dX0_joinedRuns_8 rfl rfl rfl rfl ⟨rfl, rfl⟩ (fun E u h => ?_) (fun v u h => ?_)
  · obtain ⟨rfl, ⟨rfl, h⟩ | ⟨rfl, h, h'⟩⟩ := h
    · exact gx_out K htab (Nat.le_of_ble_eq_true rfl) (Nat.le_of_ble_eq_true rfl) (qE1 ok (fun z => h z.2) (by decide))
    · exact gx_out K htab (Nat.le_of_ble_eq_true rfl) (Nat.le_of_ble_eq_true rfl) (qE2 ok ⟨h1, h⟩ h' (by decide))
  obtain ⟨rfl, rfl, h3, h4⟩ := h
  have ⟨b1, b2⟩ := inR_N (b := 8) h1
  have ⟨q1, q2⟩ := inR_N (b := 60) h3
  refine gg_iconst K (v := 0) dX0_joinedRuns_11 (by decide) ?_
  refine gg_istore_n K (i := 3) dX0_joinedRuns_12 rfl (by decide) ?_
  refine gg_iconst K (v := 0) dX0_joinedRuns_13 (by decide) ?_
  refine gg_istore K dX0_joinedRuns_14 (by decide) ?_
  refine gg_sub (L' := [(4, .int (nI 0)), (3, .int (nI 0)), (0, .ref X.1), (1, .int y), (2, .int q)]) ⟨rfl, rfl, rfl, rfl, rfl, trivial⟩ ?_
  refine gg_loop (fun i w L => ∃ (j : Nat), j + i = 61 ∧ w = wX Z X k kp dr (nI T) ∧ j ≤ 60 ∧ L = [(4, .int (nI j)), (3, .int (nI ((fb_ct (jsF (vX k kp T) (nN q) (nN y)) j)))), (0, .ref X.1), (1, .int y), (2, .int q)]) (fun w L h => ?_) (fun i w L h ih => ?_) 61 _ _ ⟨0, rfl, rfl, by omega, rfl⟩
  · obtain ⟨j, hj, -, h2, -⟩ := h
    omega
  · obtain ⟨j, hj, rfl, -, rfl⟩ := h
    refine gg_iload K dX0_joinedRuns_16 rfl ?_
    refine gg_bipush K (v := 60) dX0_joinedRuns_18 (by decide) ?_
    refine gg_icmp_ge K (tgt := 43) dX0_joinedRuns_20 (by decide) (fun h20 => ?_) (fun h20 => ?_)
    · have hj2 := i_le (a := 60) h20
      have hj3 : j = 60 := by omega
      subst hj3
      refine gg_iload_n K (i := 3) dX0_joinedRuns_43 rfl rfl ?_
      exact gg_x (gg_iret K hr dX0_joinedRuns_44 (Nat.le_of_ble_eq_true rfl) (Nat.le_of_ble_eq_true rfl) (qOk ok ⟨h1, h3⟩ h4 rfl))
    have hj2 := i_nle (a := 60) h20
    refine gg_aload_n K (i := 0) dX0_joinedRuns_23 rfl rfl ?_
    refine gg_iload_n K (i := 2) dX0_joinedRuns_24 rfl rfl ?_
    refine gg_iload_n K (i := 1) dX0_joinedRuns_25 rfl rfl ?_
    refine gg_iload K dX0_joinedRuns_26 rfl ?_
    refine gg_callRX K k_X0_X0_startsJoinedRun (x_startsJoinedRun (nN q) (nN y) j ok hv (leT q2 q1 ok.1 h4) b1 hj2 q2 b2 rfl) dX0_joinedRuns_28 rfl rfl rfl rfl ⟨rfl, rfl⟩ ?_
    refine gg_b_eq K (tgt := 37) dX0_joinedRuns_31 (by decide) (fun h31 => ?_) (fun h31 => ?_)
    · refine gg_iinc K (v := nI (j + 1)) dX0_joinedRuns_37 rfl (nI_inc (j)) (by decide) ?_
      refine gg_goto K (tgt := 16) dX0_joinedRuns_40 (by decide) ?_
      refine gg_sub (L' := [(4, .int (nI (j + 1))), (3, .int (nI ((fb_ct (jsF (vX k kp T) (nN q) (nN y)) j)))), (0, .ref X.1), (1, .int y), (2, .int q)]) ⟨rfl, rfl, rfl, rfl, rfl, trivial⟩ ?_
      exact ih _ _ ⟨j + 1, by omega, rfl, by omega, by rw [fb_ct_succ, h31]; rfl⟩
    · refine gg_iinc K (v := nI (fb_ct (jsF (vX k kp T) (nN q) (nN y)) j + 1)) dX0_joinedRuns_34 rfl (nI_inc (fb_ct (jsF (vX k kp T) (nN q) (nN y)) j)) (by decide) ?_
      refine gg_iinc K (v := nI (j + 1)) dX0_joinedRuns_37 rfl (nI_inc (j)) (by decide) ?_
      refine gg_goto K (tgt := 16) dX0_joinedRuns_40 (by decide) ?_
      refine gg_sub (L' := [(4, .int (nI (j + 1))), (3, .int (nI ((fb_ct (jsF (vX k kp T) (nN q) (nN y)) j + 1)))), (0, .ref X.1), (1, .int y), (2, .int q)]) ⟨rfl, rfl, rfl, rfl, rfl, trivial⟩ ?_
      exact ih _ _ ⟨j + 1, by omega, rfl, by omega, by rw [fb_ct_succ, h31]; rfl⟩
set_option maxRecDepth 100000 in
theorem x_longest {l : Launch} {Z : ZT} {X : XT} {k kp dr : Nat → Int32} {T : Nat} (hl0 : l.stackTraces = false) (ok : okX kp T) {t y q : Int32} : mX l Z.1 (ty3 Z) yX0_longest (.code yX0_longest cX0_longest 7 (some .int)) (rmk 9 200 8 48) (wX Z X k kp dr (nI T)) [.ref X.1, .int t, .int y, .int q] (xPost Z X ((qS (vX k kp T) T (inR t 2 ∧ inR y 8 ∧ inR q 60) (q ≤ nI T) (nI (lgF (vX k kp T (nN q) (nN t * 8 + nN y)) 60))))) (xErr Z X ((qS (vX k kp T) T (inR t 2 ∧ inR y 8 ∧ inR q 60) (q ≤ nI T) (nI (lgF (vX k kp T (nN q) (nN t * 8 + nN y)) 60)))) cAB) := by
  refine mX_intro (own := RX0) [(0, .ref X.1), (1, .int t), (2, .int y), (3, .int q)] (by decide +kernel) rfl rfl rfl rfl ?_
  intro p e s m args below meth c A K hr T9 htab
  refine gg_iload_n K (i := 1) dX0_longest_0 rfl rfl ?_
  refine gg_iload_n K (i := 2) dX0_longest_1 rfl rfl ?_
  refine gg_callTS 2 12 K T9 k_X0_X0_needTableAndKey (x_needTK hl0) dX0_longest_2 rfl rfl rfl rfl ⟨rfl, rfl⟩ (fun E u h => ?_) (fun v u h => ?_)
  · obtain ⟨rfl, rfl, h⟩ := h
    exact gx_out K htab (Nat.le_of_ble_eq_true rfl) (Nat.le_of_ble_eq_true rfl) (qE1 ok (fun z => h ⟨z.1, z.2.1⟩) (by decide))
  obtain ⟨rfl, rfl, h1⟩ := h
  refine gg_aload_n K (i := 0) dX0_longest_5 rfl rfl ?_
  refine gg_iload_n K (i := 3) dX0_longest_6 rfl rfl ?_
  refine gg_callTX 4 24 K T9 k_X0_X0_needRecord (x_needRecord hl0) dX0_longest_7 rfl rfl rfl rfl ⟨rfl, rfl⟩ (fun E u h => ?_) (fun v u h => ?_)
  · obtain ⟨rfl, ⟨rfl, h⟩ | ⟨rfl, h, h'⟩⟩ := h
    · exact gx_out K htab (Nat.le_of_ble_eq_true rfl) (Nat.le_of_ble_eq_true rfl) (qE1 ok (fun z => h z.2.2) (by decide))
    · exact gx_out K htab (Nat.le_of_ble_eq_true rfl) (Nat.le_of_ble_eq_true rfl) (qE2 ok ⟨h1.1, h1.2, h⟩ h' (by decide))
  obtain ⟨rfl, rfl, h3, h4⟩ := h
  have ⟨a1, a2⟩ := inR_N (b := 2) h1.1
  have ⟨b1, b2⟩ := inR_N (b := 8) h1.2
  have ⟨q1, q2⟩ := inR_N (b := 60) h3
  refine gg_iload_n K (i := 1) dX0_longest_10 rfl rfl ?_
  refine gg_iload_n K (i := 2) dX0_longest_11 rfl rfl ?_
  refine gg_callSR K k_X0_X0_line (x_line (nN t) (nN y) a2 b2) dX0_longest_12 rfl rfl rfl rfl ⟨rfl, rfl⟩ ?_
  refine gg_istore K dX0_longest_15 (by decide) ?_
  refine gg_iconst K (v := 0) dX0_longest_17 (by decide) ?_
  refine gg_istore K dX0_longest_18 (by decide) ?_
  refine gg_iconst K (v := 0) dX0_longest_20 (by decide) ?_
  refine gg_istore K dX0_longest_21 (by decide) ?_
  refine gg_sub (L' := [(6, .int (nI 0)), (5, .int (nI 0)), (4, .int (nI (nN t * 8 + nN y))), (0, .ref X.1), (1, .int t), (2, .int y), (3, .int q)]) ⟨rfl, rfl, rfl, rfl, rfl, rfl, rfl, trivial⟩ ?_
  refine gg_loop (fun i w L => ∃ (j : Nat), j + i = 61 ∧ w = wX Z X k kp dr (nI T) ∧ j ≤ 60 ∧ L = [(6, .int (nI j)), (5, .int (nI ((lgF (vX k kp T (nN q) (nN t * 8 + nN y)) j)))), (4, .int (nI (nN t * 8 + nN y))), (0, .ref X.1), (1, .int t), (2, .int y), (3, .int q)]) (fun w L h => ?_) (fun i w L h ih => ?_) 61 _ _ ⟨0, rfl, rfl, by omega, rfl⟩
  · obtain ⟨j, hj, -, h2, -⟩ := h
    omega
  · obtain ⟨j, hj, rfl, -, rfl⟩ := h
    refine gg_iload K dX0_longest_23 rfl ?_
    refine gg_bipush K (v := 60) dX0_longest_25 (by decide) ?_
    refine gg_icmp_ge K (tgt := 67) dX0_longest_27 (by decide) (fun h27 => ?_) (fun h27 => ?_)
    · have hj2 := i_le (a := 60) h27
      have hj3 : j = 60 := by omega
      subst hj3
      refine gg_iload K dX0_longest_67 rfl ?_
      exact gg_x (gg_iret K hr dX0_longest_69 (Nat.le_of_ble_eq_true rfl) (Nat.le_of_ble_eq_true rfl) (qOk ok ⟨h1.1, h1.2, h3⟩ h4 rfl))
    have hj2 := i_nle (a := 60) h27
    refine gg_aload_n K (i := 0) dX0_longest_30 rfl rfl ?_
    refine gg_iload_n K (i := 3) dX0_longest_31 rfl rfl ?_
    refine gg_iload K dX0_longest_32 rfl ?_
    refine gg_iload K dX0_longest_34 rfl ?_
    refine gg_callRX K k_X0_X0_startsRun (x_startsRun (nN q) (nN t * 8 + nN y) j ok (leT q2 q1 ok.1 h4) (by omega) hj2 q2 rfl rfl) dX0_longest_36 rfl rfl rfl rfl ⟨rfl, rfl⟩ ?_
    refine gg_b_eq K (tgt := 61) dX0_longest_39 (by decide) (fun h39 => ?_) (fun h39 => ?_)
    · refine gg_iinc K (v := nI (j + 1)) dX0_longest_61 rfl (nI_inc (j)) (by decide) ?_
      refine gg_goto K (tgt := 23) dX0_longest_64 (by decide) ?_
      refine gg_sub (L' := [(6, .int (nI (j + 1))), (5, .int (nI ((lgF (vX k kp T (nN q) (nN t * 8 + nN y)) j)))), (4, .int (nI (nN t * 8 + nN y))), (0, .ref X.1), (1, .int t), (2, .int y), (3, .int q)]) ⟨rfl, rfl, rfl, rfl, rfl, rfl, rfl, trivial⟩ ?_
      exact ih _ _ ⟨j + 1, by omega, rfl, by omega, by rw [show lgF (vX k kp T (nN q) (nN t * 8 + nN y)) (j + 1) = lgF (vX k kp T (nN q) (nN t * 8 + nN y)) j from if_neg (by rw [h39]; decide)]⟩
    · refine gg_iload K dX0_longest_42 rfl ?_
      refine gg_aload_n K (i := 0) dX0_longest_44 rfl rfl ?_
      refine gg_iload_n K (i := 3) dX0_longest_45 rfl rfl ?_
      refine gg_iload K dX0_longest_46 rfl ?_
      refine gg_iload K dX0_longest_48 rfl ?_
      refine gg_callRX K k_X0_X0_endOfRun (x_endOfRun (nN q) (nN t * 8 + nN y) j ok (leT q2 q1 ok.1 h4) (by omega) hj2 q2 rfl rfl) dX0_longest_50 rfl rfl rfl rfl ⟨rfl, rfl⟩ ?_
      refine gg_iload K dX0_longest_53 rfl ?_
      refine gg_isub K dX0_longest_55 ?_
      have e1 := endF_le (f := vX k kp T (nN q) (nN t * 8 + nN y)) hj2
      have e2 := endF_gt (vX k kp T (nN q) (nN t * 8 + nN y)) j
      have e3 := lgF_le (vX k kp T (nN q) (nN t * 8 + nN y)) (n := j) (by omega)
      refine gg_top (pk_sub (by omega)) ?_
      refine gg_mmax K dX0_longest_56 rfl rfl ?_
      refine gg_top (y := nI (lgF (vX k kp T (nN q) (nN t * 8 + nN y)) (j + 1))) ?_ ?_
      · rw [show lgF (vX k kp T (nN q) (nN t * 8 + nN y)) (j + 1) = _ from if_pos h39]
        by_cases hq : lgF (vX k kp T (nN q) (nN t * 8 + nN y)) j < endF (vX k kp T (nN q) (nN t * 8 + nN y)) j - j
        · rw [if_pos hq, if_pos (nI_lt hq (by omega))]
        · rw [if_neg hq, if_neg (nI_nlt (by omega) (by omega))]
      refine gg_istore K dX0_longest_59 (by decide) ?_
      refine gg_iinc K (v := nI (j + 1)) dX0_longest_61 rfl (nI_inc (j)) (by decide) ?_
      refine gg_goto K (tgt := 23) dX0_longest_64 (by decide) ?_
      refine gg_sub (L' := [(6, .int (nI (j + 1))), (5, .int (nI ((lgF (vX k kp T (nN q) (nN t * 8 + nN y)) (j + 1))))), (4, .int (nI (nN t * 8 + nN y))), (0, .ref X.1), (1, .int t), (2, .int y), (3, .int q)]) ⟨rfl, rfl, rfl, rfl, rfl, rfl, rfl, trivial⟩ ?_
      exact ih _ _ ⟨j + 1, by omega, rfl, by omega, rfl⟩
set_option maxRecDepth 100000 in
theorem x_corrections {l : Launch} {Z : ZT} {X : XT} {k kp dr : Nat → Int32} {T : Nat} (hl0 : l.stackTraces = false) (ok : okX kp T) {t y d f q : Int32} : mX l Z.1 (ty3 Z) yX0_corrections (.code yX0_corrections cX0_corrections 9 (some .int)) (rmk 9 200 8 48) (wX Z X k kp dr (nI T)) [.ref X.1, .int t, .int y, .int d, .int f, .int q] (xPost Z X ((qS (vX k kp T) T (inR t 2 ∧ inR y 8 ∧ inR d 60 ∧ inR f 60 ∧ ¬ q < f ∧ inR q 60) (q ≤ nI T) (nI (fb_ct (fun i => bP (¬ vX k kp T (nN f + 1 + i) (nN t * 8 + nN y) (nN d) = vX k kp T (nN f + i) (nN t * 8 + nN y) (nN d))) (nN q - nN f)))))) (xErr Z X ((qS (vX k kp T) T (inR t 2 ∧ inR y 8 ∧ inR d 60 ∧ inR f 60 ∧ ¬ q < f ∧ inR q 60) (q ≤ nI T) (nI (fb_ct (fun i => bP (¬ vX k kp T (nN f + 1 + i) (nN t * 8 + nN y) (nN d) = vX k kp T (nN f + i) (nN t * 8 + nN y) (nN d))) (nN q - nN f))))) cAB) := by
  refine mX_intro (own := RX0) [(0, .ref X.1), (1, .int t), (2, .int y), (3, .int d), (4, .int f), (5, .int q)] (by decide +kernel) rfl rfl rfl rfl ?_
  intro p e s m args below meth c A K hr T9 htab
  refine gg_iload_n K (i := 1) dX0_corrections_0 rfl rfl ?_
  refine gg_iload_n K (i := 2) dX0_corrections_1 rfl rfl ?_
  refine gg_callTS 2 12 K T9 k_X0_X0_needTableAndKey (x_needTK hl0) dX0_corrections_2 rfl rfl rfl rfl ⟨rfl, rfl⟩ (fun E u h => ?_) (fun v u h => ?_)
  · obtain ⟨rfl, rfl, h⟩ := h
    exact gx_out K htab (Nat.le_of_ble_eq_true rfl) (Nat.le_of_ble_eq_true rfl) (qE1 ok (fun z => h ⟨z.1, z.2.1⟩) (by decide))
  obtain ⟨rfl, rfl, h1⟩ := h
  refine gg_iload_n K (i := 3) dX0_corrections_5 rfl rfl ?_
  refine gg_bipush K (v := 60) dX0_corrections_6 (by decide) ?_
  refine gg_callTS 3 18 K T9 k_X0_X0_needRange (x_needRange hl0) dX0_corrections_8 rfl rfl rfl rfl ⟨rfl, rfl⟩ (fun E u h => ?_) (fun v u h => ?_)
  · obtain ⟨rfl, rfl, h⟩ := h
    exact gx_out K htab (Nat.le_of_ble_eq_true rfl) (Nat.le_of_ble_eq_true rfl) (qE1 ok (fun z => h z.2.2.1) (by decide))
  obtain ⟨rfl, rfl, h2⟩ := h
  refine gg_iload K dX0_corrections_11 rfl ?_
  refine gg_bipush K (v := 60) dX0_corrections_13 (by decide) ?_
  refine gg_callTS 4 24 K T9 k_X0_X0_needRange (x_needRange hl0) dX0_corrections_15 rfl rfl rfl rfl ⟨rfl, rfl⟩ (fun E u h => ?_) (fun v u h => ?_)
  · obtain ⟨rfl, rfl, h⟩ := h
    exact gx_out K htab (Nat.le_of_ble_eq_true rfl) (Nat.le_of_ble_eq_true rfl) (qE1 ok (fun z => h z.2.2.2.1) (by decide))
  obtain ⟨rfl, rfl, h5⟩ := h
  refine gg_iload K dX0_corrections_18 rfl ?_
  refine gg_iload K dX0_corrections_20 rfl ?_
  refine gg_icmp_ge K (tgt := 35) dX0_corrections_22 (by decide) (fun h22 => ?_) (fun h22 => ?_)
  rotate_left
  · exact gg_throw_eA K T9 hl0 htab (is := 122) (text := "to") (by decide) dX0_corrections_25 dX0_corrections_28 dX0_corrections_29 dX0_corrections_31 dX0_corrections_34 rfl rfl (Nat.le_of_ble_eq_true rfl) (Nat.le_of_ble_eq_true rfl) (qE1 ok (fun z => z.2.2.2.2.1 (by rw [Int32.lt_iff_toInt_lt]; rw [Int32.le_iff_toInt_le] at h22; omega)) (by decide))
  have h6 : ¬ q < f := fun z => by rw [Int32.lt_iff_toInt_lt] at z; rw [Int32.le_iff_toInt_le] at h22; omega
  refine gg_aload_n K (i := 0) dX0_corrections_35 rfl rfl ?_
  refine gg_iload K dX0_corrections_36 rfl ?_
  refine gg_callTX 6 36 K T9 k_X0_X0_needRecord (x_needRecord hl0) dX0_corrections_38 rfl rfl rfl rfl ⟨rfl, rfl⟩ (fun E u h => ?_) (fun v u h => ?_)
  · obtain ⟨rfl, ⟨rfl, h⟩ | ⟨rfl, h, h'⟩⟩ := h
    · exact gx_out K htab (Nat.le_of_ble_eq_true rfl) (Nat.le_of_ble_eq_true rfl) (qE1 ok (fun z => h z.2.2.2.2.2) (by decide))
    · exact gx_out K htab (Nat.le_of_ble_eq_true rfl) (Nat.le_of_ble_eq_true rfl) (qE2 ok ⟨h1.1, h1.2, h2, h5, h6, h⟩ h' (by decide))
  obtain ⟨rfl, rfl, h3, h4⟩ := h
  have ⟨a1, a2⟩ := inR_N (b := 2) h1.1
  have ⟨b1, b2⟩ := inR_N (b := 8) h1.2
  have ⟨d1, d2⟩ := inR_N (b := 60) h2
  have ⟨f1, f2⟩ := inR_N (b := 60) h5
  have ⟨q1, q2⟩ := inR_N (b := 60) h3
  have hT := leT q2 q1 ok.1 h4
  have hT9 := ok.1
  have hfq : nN f ≤ nN q := by rw [f2, q2] at h22; exact i_le h22
  refine gg_iload_n K (i := 1) dX0_corrections_41 rfl rfl ?_
  refine gg_iload_n K (i := 2) dX0_corrections_42 rfl rfl ?_
  refine gg_callSR K k_X0_X0_line (x_line (nN t) (nN y) a2 b2) dX0_corrections_43 rfl rfl rfl rfl ⟨rfl, rfl⟩ ?_
  refine gg_istore K dX0_corrections_46 (by decide) ?_
  refine gg_iconst K (v := 0) dX0_corrections_48 (by decide) ?_
  refine gg_istore K dX0_corrections_49 (by decide) ?_
  refine gg_iload K dX0_corrections_51 rfl ?_
  refine gg_iconst K (v := 1) dX0_corrections_53 (by decide) ?_
  refine gg_iadd K dX0_corrections_54 ?_
  refine gg_top (y := nI (nN f + 1)) (by rw [f2]; exact (nI_1 _).trans (by rw [← f2])) ?_
  refine gg_istore K dX0_corrections_55 (by decide) ?_
  refine gg_sub (L' := [(8, .int (nI (nN f + 1))), (7, .int (nI 0)), (6, .int (nI (nN t * 8 + nN y))), (0, .ref X.1), (1, .int t), (2, .int y), (3, .int d), (4, .int f), (5, .int q)]) ⟨rfl, rfl, rfl, rfl, rfl, rfl, rfl, rfl, rfl, trivial⟩ ?_
  refine gg_loop (fun i w L => ∃ (j : Nat), j + i = nN q - nN f + 1 ∧ w = wX Z X k kp dr (nI T) ∧ j ≤ nN q - nN f ∧ L = [(8, .int (nI (nN f + 1 + j))), (7, .int (nI ((fb_ct (fun i => bP (¬ vX k kp T (nN f + 1 + i) (nN t * 8 + nN y) (nN d) = vX k kp T (nN f + i) (nN t * 8 + nN y) (nN d))) j)))), (6, .int (nI (nN t * 8 + nN y))), (0, .ref X.1), (1, .int t), (2, .int y), (3, .int d), (4, .int f), (5, .int q)]) (fun w L h => ?_) (fun i w L h ih => ?_) (nN q - nN f + 1) _ _ ⟨0, by omega, rfl, by omega, rfl⟩
  · obtain ⟨j, hj, -, h2, -⟩ := h
    omega
  · obtain ⟨j, hj, rfl, hj1, rfl⟩ := h
    refine gg_iload K dX0_corrections_57 rfl ?_
    refine gg_iload K dX0_corrections_59 rfl ?_
    refine gg_icmp_gt K (tgt := 96) dX0_corrections_61 (by decide) (fun h61 => ?_) (fun h61 => ?_)
    · rw [q2] at h61
      have hj2 := i_lt h61
      have hj3 : j = nN q - nN f := by omega
      subst hj3
      refine gg_iload K dX0_corrections_96 rfl ?_
      exact gg_x (gg_iret K hr dX0_corrections_98 (Nat.le_of_ble_eq_true rfl) (Nat.le_of_ble_eq_true rfl) (qOk ok ⟨h1.1, h1.2, h2, h5, h6, h3⟩ h4 rfl))
    rw [q2] at h61
    have hj2 := i_nlt h61
    refine gg_aload_n K (i := 0) dX0_corrections_64 rfl rfl ?_
    refine gg_iload K dX0_corrections_65 rfl ?_
    refine gg_iload K dX0_corrections_67 rfl ?_
    refine gg_iload_n K (i := 3) dX0_corrections_69 rfl rfl ?_
    refine gg_callRX K k_X0_X0_knownOn (x_knownOn (nN f + 1 + j) (nN t * 8 + nN y) (nN d) ok (by omega) (by omega) d1 rfl rfl d2) dX0_corrections_70 rfl rfl rfl rfl ⟨rfl, rfl⟩ ?_
    refine gg_aload_n K (i := 0) dX0_corrections_73 rfl rfl ?_
    refine gg_iload K dX0_corrections_74 rfl ?_
    refine gg_iconst K (v := 1) dX0_corrections_76 (by decide) ?_
    refine gg_isub K dX0_corrections_77 ?_
    refine gg_iload K dX0_corrections_78 rfl ?_
    refine gg_iload_n K (i := 3) dX0_corrections_80 rfl rfl ?_
    refine gg_callRX K k_X0_X0_knownOn (x_knownOn (nN f + j) (nN t * 8 + nN y) (nN d) ok (by omega) (by omega) d1 ((nI_sub1 (by omega)).trans (congrArg nI (by omega))) rfl d2) dX0_corrections_81 rfl rfl rfl rfl ⟨rfl, rfl⟩ ?_
    refine gg_icmp_eq K (tgt := 90) dX0_corrections_84 (by decide) (fun h84 => ?_) (fun h84 => ?_)
    · refine gg_iinc K (v := nI (nN f + 1 + j + 1)) dX0_corrections_90 rfl (nI_inc (nN f + 1 + j)) (by decide) ?_
      refine gg_goto K (tgt := 57) dX0_corrections_93 (by decide) ?_
      refine gg_sub (L' := [(8, .int (nI (nN f + 1 + j + 1))), (7, .int (nI ((fb_ct (fun i => bP (¬ vX k kp T (nN f + 1 + i) (nN t * 8 + nN y) (nN d) = vX k kp T (nN f + i) (nN t * 8 + nN y) (nN d))) j)))), (6, .int (nI (nN t * 8 + nN y))), (0, .ref X.1), (1, .int t), (2, .int y), (3, .int d), (4, .int f), (5, .int q)]) ⟨rfl, rfl, rfl, rfl, rfl, rfl, rfl, rfl, rfl, trivial⟩ ?_
      exact ih _ _ ⟨j + 1, by omega, rfl, by omega, by rw [fb_ct_succ, bP_f (fun z => z h84)]; rfl⟩
    · refine gg_iinc K (v := nI (fb_ct (fun i => bP (¬ vX k kp T (nN f + 1 + i) (nN t * 8 + nN y) (nN d) = vX k kp T (nN f + i) (nN t * 8 + nN y) (nN d))) j + 1)) dX0_corrections_87 rfl (nI_inc (fb_ct (fun i => bP (¬ vX k kp T (nN f + 1 + i) (nN t * 8 + nN y) (nN d) = vX k kp T (nN f + i) (nN t * 8 + nN y) (nN d))) j)) (by decide) ?_
      refine gg_iinc K (v := nI (nN f + 1 + j + 1)) dX0_corrections_90 rfl (nI_inc (nN f + 1 + j)) (by decide) ?_
      refine gg_goto K (tgt := 57) dX0_corrections_93 (by decide) ?_
      refine gg_sub (L' := [(8, .int (nI (nN f + 1 + j + 1))), (7, .int (nI ((fb_ct (fun i => bP (¬ vX k kp T (nN f + 1 + i) (nN t * 8 + nN y) (nN d) = vX k kp T (nN f + i) (nN t * 8 + nN y) (nN d))) j + 1)))), (6, .int (nI (nN t * 8 + nN y))), (0, .ref X.1), (1, .int t), (2, .int y), (3, .int d), (4, .int f), (5, .int q)]) ⟨rfl, rfl, rfl, rfl, rfl, rfl, rfl, rfl, rfl, trivial⟩ ?_
      exact ih _ _ ⟨j + 1, by omega, rfl, by omega, by rw [fb_ct_succ, bP_t h84]; rfl⟩
end
section
/-! Twotimes: rows -/
theorem fb_ct_flat {q : Nat → Bool} {a : Nat} : ∀ {n : Nat}, (∀ e, a ≤ e → e < a + n → q e = false) → fb_ct q (a + n) = fb_ct q a
  | 0, _ => rfl
  | n + 1, h => by
    rw [show a + (n + 1) = (a + n) + 1 from rfl, fb_ct_succ, h (a + n) (by omega) (by omega), fb_ct_flat (fun e h1 h2 => h e h1 (by omega))]
    rfl
/-- rows by the number of the day of record and of validity in one -/
noncomputable def rwF (V : VT) (l : Nat) (z : Nat) : Bool := rowF V l (z / 60) (z % 60)
theorem rwF_at (V : VT) (l r d : Nat) (hd : d < 60) : rwF V l (60 * r + d) = rowF V l r d := by
  unfold rwF
  rw [show (60 * r + d) / 60 = r by omega, show (60 * r + d) % 60 = d by omega]
theorem smF_self (f : Nat → Int32) (d : Nat) : smF f f d = true ↔ stF f d = true := ⟨fun h => (bP_iff.mp h).1, fun h => bP_t ⟨h, rfl, rfl⟩⟩
theorem row_off {V : VT} {l r : Nat} (h0 : 0 < r) (h : ∀ d, V r l d = V (r - 1) l d) (d : Nat) : rowF V l r d = false := by
  refine bP_f (fun q => ?_)
  have e : V r l = V (r - 1) l := funext h
  rcases q.2 with h2 | h2
  · omega
  · rw [← e, (smF_self _ _).mpr q.1] at h2
    cases h2
theorem vX_off {k kp : Nat → Int32} {T r : Nat} (ok : okX kp T) (hr : r ≤ T) (h : ¬ kp r = nI r) (l d : Nat) : rowF (vX k kp T) l r d = false := by
  obtain ⟨h1, h2⟩ := ((ok.2.2.2 r hr).2).resolve_left h
  refine row_off h1 (fun d => ?_) d
  unfold vX kq
  rw [← h2]
  by_cases hc : r ≤ T ∧ l < 16 ∧ d < 60
  · rw [if_pos hc, if_pos (by omega)]
  · rw [if_neg hc, if_neg (by omega)]
def reF (q : Nat → Bool) : Nat → Nat → Int32
  | 0, _ => -1
  | n + 1, a => if q a = true then reF q n (a + 1) else nI a
set_option maxRecDepth 100000 in
theorem x_startOfRow {l : Launch} {Z : ZT} {X : XT} {k kp dr : Nat → Int32} {T : Nat} (hl0 : l.stackTraces = false) (ok : okX kp T) (li : Nat) (hli : li < 16) {x w9 : Int32} (hx : x = nI li) : mX l Z.1 (ty3 Z) yX0_startOfRow (.code yX0_startOfRow cX0_startOfRow 6 (some .int)) (rmk 7 150 1 6) (wX Z X k kp dr (nI T)) [.ref X.1, .int x, .int w9] (fun v u => u = wX Z X k kp dr (nI T) ∧ ∃ e9, e9 < 60 * (T + 1) ∧ (rwF (vX k kp T) li) e9 = true ∧ nI (fb_ct (rwF (vX k kp T) li) e9) = w9 ∧ v = some (.int (nI e9))) (fun E u => E = eB ∧ u = wX Z X k kp dr (nI T) ∧ ∀ e9, e9 < 60 * (T + 1) → (rwF (vX k kp T) li) e9 = true → ¬ nI (fb_ct (rwF (vX k kp T) li) e9) = w9) := by
  refine mX_intro (own := RX0) [(0, .ref X.1), (1, .int x), (2, .int w9)] (by decide +kernel) rfl rfl rfl rfl ?_
  intro p e s m args below meth c A K hr T9 htab
  have hT9 := ok.1
  subst hx
  refine gg_iconst K (v := 0) dX0_startOfRow_0 (by decide) ?_
  refine gg_istore_n K (i := 3) dX0_startOfRow_1 rfl (by decide) ?_
  refine gg_iconst K (v := 0) dX0_startOfRow_2 (by decide) ?_
  refine gg_istore K dX0_startOfRow_3 (by decide) ?_
  refine gg_sub (L' := [(4, .int (nI 0)), (3, .int (nI 0)), (0, .ref X.1), (1, .int (nI li)), (2, .int w9)]) ⟨rfl, rfl, rfl, rfl, rfl, trivial⟩ ?_
  refine gg_loop (fun i w L => ∃ (r : Nat), r + i = T + 2 ∧ w = wX Z X k kp dr (nI T) ∧ r ≤ T + 1 ∧ L = [(4, .int (nI r)), (3, .int (nI ((fb_ct (rwF (vX k kp T) li) (60 * r))))), (0, .ref X.1), (1, .int (nI li)), (2, .int w9)] ∧ ∀ e9, e9 < 60 * r → (rwF (vX k kp T) li) e9 = true → ¬ nI (fb_ct (rwF (vX k kp T) li) e9) = w9) (fun w L h => ?_) (fun i w L h ih => ?_) (T + 2) _ _ ⟨0, by omega, rfl, by omega, rfl, fun e9 h => absurd h (by omega)⟩
  · obtain ⟨r, hj, -, h2, -⟩ := h
    omega
  · obtain ⟨r, hj, rfl, hj1, rfl, hno⟩ := h
    refine gg_iload K dX0_startOfRow_5 rfl ?_
    refine gg_aload_n K (i := 0) dX0_startOfRow_7 rfl rfl ?_
    refine gX_today K dX0_startOfRow_8 ?_
    refine gg_icmp_gt K (tgt := 74) dX0_startOfRow_11 (by decide) (fun h11 => ?_) (fun h11 => ?_)
    · have hj2 := i_lt h11
      have hj3 : r = T + 1 := by omega
      subst hj3
      exact gg_throw_eB K T9 hl0 htab (is := 165) (text := "row") (by decide) dX0_startOfRow_74 dX0_startOfRow_77 dX0_startOfRow_78 dX0_startOfRow_80 dX0_startOfRow_83 rfl rfl (Nat.le_of_ble_eq_true rfl) (Nat.le_of_ble_eq_true rfl) ⟨rfl, rfl, hno⟩
    have hj2 := i_nlt h11
    refine gg_iconst K (v := 0) dX0_startOfRow_14 (by decide) ?_
    refine gg_istore K dX0_startOfRow_15 (by decide) ?_
    refine gg_sub (L' := [(5, .int (nI 0)), (4, .int (nI r)), (3, .int (nI ((fb_ct (rwF (vX k kp T) li) (60 * r + 0))))), (0, .ref X.1), (1, .int (nI li)), (2, .int w9)]) ⟨rfl, rfl, rfl, rfl, rfl, rfl, trivial⟩ ?_
    refine gg_loop (fun i w L => ∃ (d : Nat), d + i = 61 ∧ w = wX Z X k kp dr (nI T) ∧ d ≤ 60 ∧ L = [(5, .int (nI d)), (4, .int (nI r)), (3, .int (nI ((fb_ct (rwF (vX k kp T) li) (60 * r + d))))), (0, .ref X.1), (1, .int (nI li)), (2, .int w9)] ∧ ∀ e9, e9 < 60 * r + d → (rwF (vX k kp T) li) e9 = true → ¬ nI (fb_ct (rwF (vX k kp T) li) e9) = w9) (fun w L h => ?_) (fun i w L h ih2 => ?_) 61 _ _ ⟨0, by omega, rfl, by omega, rfl, hno⟩
    · obtain ⟨d, hj, -, h2, -⟩ := h
      omega
    · obtain ⟨d, hd1, rfl, hd2, rfl, hno2⟩ := h
      refine gg_iload K dX0_startOfRow_17 rfl ?_
      refine gg_bipush K (v := 60) dX0_startOfRow_19 (by decide) ?_
      refine gg_icmp_ge K (tgt := 68) dX0_startOfRow_21 (by decide) (fun h21 => ?_) (fun h21 => ?_)
      · have hd3 := i_le (a := 60) h21
        have hd4 : d = 60 := by omega
        subst hd4
        refine gg_iinc K (v := nI (r + 1)) dX0_startOfRow_68 rfl (nI_inc (r)) (by decide) ?_
        refine gg_goto K (tgt := 5) dX0_startOfRow_71 (by decide) ?_
        refine gg_sub (L' := [(4, .int (nI (r + 1))), (3, .int (nI ((fb_ct (rwF (vX k kp T) li) (60 * (r + 1)))))), (0, .ref X.1), (1, .int (nI li)), (2, .int w9)]) ⟨rfl, rfl, rfl, rfl, rfl, trivial⟩ ?_
        exact ih _ _ ⟨r + 1, by omega, rfl, by omega, rfl, hno2⟩
      have hd3 := i_nle (a := 60) h21
      refine gg_aload_n K (i := 0) dX0_startOfRow_24 rfl rfl ?_
      refine gg_iload K dX0_startOfRow_25 rfl ?_
      refine gg_callRX K k_X0_X0_isKept (x_isKept r ok hj2 rfl) dX0_startOfRow_27 rfl rfl rfl rfl ⟨rfl, rfl⟩ ?_
      refine gg_b_eq K (tgt := 68) dX0_startOfRow_30 (by decide) (fun h30 => ?_) (fun h30 => ?_)
      · have hoff := fun d => vX_off (k := k) ok hj2 (of_decide_eq_false h30) li d
        have hfl : ∀ e9, 60 * r + d ≤ e9 → e9 < 60 * r + d + (60 - d) → (rwF (vX k kp T) li) e9 = false := fun e9 g1 g2 => by
          have e := rwF_at (vX k kp T) li r (e9 - 60 * r) (by omega)
          rw [show 60 * r + (e9 - 60 * r) = e9 by omega] at e
          rw [e]
          exact hoff _
        have hc := fb_ct_flat hfl
        rw [show 60 * r + d + (60 - d) = 60 * (r + 1) by omega] at hc
        refine gg_iinc K (v := nI (r + 1)) dX0_startOfRow_68 rfl (nI_inc (r)) (by decide) ?_
        refine gg_goto K (tgt := 5) dX0_startOfRow_71 (by decide) ?_
        refine gg_sub (L' := [(4, .int (nI (r + 1))), (3, .int (nI ((fb_ct (rwF (vX k kp T) li) (60 * r + d))))), (0, .ref X.1), (1, .int (nI li)), (2, .int w9)]) ⟨rfl, rfl, rfl, rfl, rfl, trivial⟩ ?_
        refine ih _ _ ⟨r + 1, by omega, rfl, by omega, by rw [hc], fun e9 g1 g2 => ?_⟩
        by_cases hlt : e9 < 60 * r + d
        · exact hno2 e9 hlt g2
        · rw [hfl e9 (by omega) (by omega)] at g2
          cases g2
      have hat := rwF_at (vX k kp T) li r d hd3
      refine gg_aload_n K (i := 0) dX0_startOfRow_33 rfl rfl ?_
      refine gg_iload K dX0_startOfRow_34 rfl ?_
      refine gg_iload_n K (i := 1) dX0_startOfRow_36 rfl rfl ?_
      refine gg_iload K dX0_startOfRow_37 rfl ?_
      refine gg_callRX K k_X0_X0_startsRow (x_startsRow r li d ok hj2 hli hd3 rfl rfl rfl) dX0_startOfRow_39 rfl rfl rfl rfl ⟨rfl, rfl⟩ ?_
      refine gg_b_eq K (tgt := 62) dX0_startOfRow_42 (by decide) (fun h42 => ?_) (fun h42 => ?_)
      · rw [← hat] at h42
        refine gg_iinc K (v := nI (d + 1)) dX0_startOfRow_62 rfl (nI_inc (d)) (by decide) ?_
        refine gg_goto K (tgt := 17) dX0_startOfRow_65 (by decide) ?_
        refine gg_sub (L' := [(5, .int (nI (d + 1))), (4, .int (nI r)), (3, .int (nI ((fb_ct (rwF (vX k kp T) li) (60 * r + d))))), (0, .ref X.1), (1, .int (nI li)), (2, .int w9)]) ⟨rfl, rfl, rfl, rfl, rfl, rfl, trivial⟩ ?_
        refine ih2 _ _ ⟨d + 1, by omega, rfl, by omega, by rw [show 60 * r + (d + 1) = (60 * r + d) + 1 from rfl, fb_ct_succ, h42]; rfl, fun e9 g1 g2 => ?_⟩
        by_cases hlt : e9 < 60 * r + d
        · exact hno2 e9 hlt g2
        · rw [show e9 = 60 * r + d by omega, h42] at g2
          cases g2
      rw [← hat] at h42
      refine gg_iload_n K (i := 3) dX0_startOfRow_45 rfl rfl ?_
      refine gg_iload_n K (i := 2) dX0_startOfRow_46 rfl rfl ?_
      refine gg_icmp_ne K (tgt := 59) dX0_startOfRow_47 (by decide) (fun h47 => ?_) (fun h47 => ?_)
      · refine gg_iinc K (v := nI (fb_ct (rwF (vX k kp T) li) (60 * r + d) + 1)) dX0_startOfRow_59 rfl (nI_inc (fb_ct (rwF (vX k kp T) li) (60 * r + d))) (by decide) ?_
        refine gg_iinc K (v := nI (d + 1)) dX0_startOfRow_62 rfl (nI_inc (d)) (by decide) ?_
        refine gg_goto K (tgt := 17) dX0_startOfRow_65 (by decide) ?_
        refine gg_sub (L' := [(5, .int (nI (d + 1))), (4, .int (nI r)), (3, .int (nI ((fb_ct (rwF (vX k kp T) li) (60 * r + d) + 1)))), (0, .ref X.1), (1, .int (nI li)), (2, .int w9)]) ⟨rfl, rfl, rfl, rfl, rfl, rfl, trivial⟩ ?_
        refine ih2 _ _ ⟨d + 1, by omega, rfl, by omega, by rw [show 60 * r + (d + 1) = (60 * r + d) + 1 from rfl, fb_ct_succ, h42]; rfl, fun e9 g1 g2 => ?_⟩
        by_cases hlt : e9 < 60 * r + d
        · exact hno2 e9 hlt g2
        · rw [show e9 = 60 * r + d by omega]
          exact h47
      · refine gg_iload K dX0_startOfRow_50 rfl ?_
        refine gg_bipush K (v := 60) dX0_startOfRow_52 (by decide) ?_
        refine gg_imul K dX0_startOfRow_54 ?_
        refine gg_iload K dX0_startOfRow_55 rfl ?_
        refine gg_iadd K dX0_startOfRow_57 ?_
        exact gg_x (gg_iret K hr dX0_startOfRow_58 (Nat.le_of_ble_eq_true rfl) (Nat.le_of_ble_eq_true rfl) ⟨rfl, 60 * r + d, by omega, h42, h47, some_int (by simp only [nI_lit, nI_mul, nI_add]; exact congrArg nI (by omega))⟩)
set_option maxRecDepth 100000 in
theorem x_rows {l : Launch} {Z : ZT} {X : XT} {k kp dr : Nat → Int32} {T : Nat} (hl0 : l.stackTraces = false) (ok : okX kp T) {t y : Int32} : mX l Z.1 (ty3 Z) yX0_rows (.code yX0_rows cX0_rows 7 (some .int)) (rmk 9 200 8 48) (wX Z X k kp dr (nI T)) [.ref X.1, .int t, .int y] (xPost Z X ((qS (vX k kp T) T (inR t 2 ∧ inR y 8) True (nI (fb_ct (rwF (vX k kp T) (nN t * 8 + nN y)) (60 * (T + 1))))))) (xErr Z X ((qS (vX k kp T) T (inR t 2 ∧ inR y 8) True (nI (fb_ct (rwF (vX k kp T) (nN t * 8 + nN y)) (60 * (T + 1)))))) cA1) := by
  refine mX_intro (own := RX0) [(0, .ref X.1), (1, .int t), (2, .int y)] (by decide +kernel) rfl rfl rfl rfl ?_
  intro p e s m args below meth c A K hr T9 htab
  have hT9 := ok.1
  refine gg_iload_n K (i := 1) dX0_rows_0 rfl rfl ?_
  refine gg_iload_n K (i := 2) dX0_rows_1 rfl rfl ?_
  refine gg_callTS 2 12 K T9 k_X0_X0_needTableAndKey (x_needTK hl0) dX0_rows_2 rfl rfl rfl rfl ⟨rfl, rfl⟩ (fun E u h => ?_) (fun v u h => ?_)
  · obtain ⟨rfl, rfl, h⟩ := h
    exact gx_out K htab (Nat.le_of_ble_eq_true rfl) (Nat.le_of_ble_eq_true rfl) (qE1 ok h (by decide))
  obtain ⟨rfl, rfl, h1⟩ := h
  have ⟨a1, a2⟩ := inR_N (b := 2) h1.1
  have ⟨b1, b2⟩ := inR_N (b := 8) h1.2
  refine gg_iload_n K (i := 1) dX0_rows_5 rfl rfl ?_
  refine gg_iload_n K (i := 2) dX0_rows_6 rfl rfl ?_
  refine gg_callSR K k_X0_X0_line (x_line (nN t) (nN y) a2 b2) dX0_rows_7 rfl rfl rfl rfl ⟨rfl, rfl⟩ ?_
  refine gg_istore_n K (i := 3) dX0_rows_10 rfl (by decide) ?_
  refine gg_iconst K (v := 0) dX0_rows_11 (by decide) ?_
  refine gg_istore K dX0_rows_12 (by decide) ?_
  refine gg_iconst K (v := 0) dX0_rows_14 (by decide) ?_
  refine gg_istore K dX0_rows_15 (by decide) ?_
  refine gg_sub (L' := [(5, .int (nI 0)), (4, .int (nI 0)), (3, .int (nI (nN t * 8 + nN y))), (0, .ref X.1), (1, .int t), (2, .int y)]) ⟨rfl, rfl, rfl, rfl, rfl, rfl, trivial⟩ ?_
  refine gg_loop (fun i w L => ∃ (r : Nat), r + i = T + 2 ∧ w = wX Z X k kp dr (nI T) ∧ r ≤ T + 1 ∧ L = [(5, .int (nI r)), (4, .int (nI ((fb_ct (rwF (vX k kp T) (nN t * 8 + nN y)) (60 * r))))), (3, .int (nI (nN t * 8 + nN y))), (0, .ref X.1), (1, .int t), (2, .int y)]) (fun w L h => ?_) (fun i w L h ih => ?_) (T + 2) _ _ ⟨0, by omega, rfl, by omega, rfl⟩
  · obtain ⟨r, hj, -, h2, -⟩ := h
    omega
  · obtain ⟨r, hj, rfl, hj1, rfl⟩ := h
    refine gg_iload K dX0_rows_17 rfl ?_
    refine gg_aload_n K (i := 0) dX0_rows_19 rfl rfl ?_
    refine gX_today K dX0_rows_20 ?_
    refine gg_icmp_gt K (tgt := 72) dX0_rows_23 (by decide) (fun h23 => ?_) (fun h23 => ?_)
    · have hj2 := i_lt h23
      have hj3 : r = T + 1 := by omega
      subst hj3
      refine gg_iload K dX0_rows_72 rfl ?_
      exact gg_x (gg_iret K hr dX0_rows_74 (Nat.le_of_ble_eq_true rfl) (Nat.le_of_ble_eq_true rfl) (qOk ok h1 trivial rfl))
    have hj2 := i_nlt h23
    refine gg_iconst K (v := 0) dX0_rows_26 (by decide) ?_
    refine gg_istore K dX0_rows_27 (by decide) ?_
    refine gg_sub (L' := [(6, .int (nI 0)), (5, .int (nI r)), (4, .int (nI ((fb_ct (rwF (vX k kp T) (nN t * 8 + nN y)) (60 * r + 0))))), (3, .int (nI (nN t * 8 + nN y))), (0, .ref X.1), (1, .int t), (2, .int y)]) ⟨rfl, rfl, rfl, rfl, rfl, rfl, rfl, trivial⟩ ?_
    refine gg_loop (fun i w L => ∃ (d : Nat), d + i = 61 ∧ w = wX Z X k kp dr (nI T) ∧ d ≤ 60 ∧ L = [(6, .int (nI d)), (5, .int (nI r)), (4, .int (nI ((fb_ct (rwF (vX k kp T) (nN t * 8 + nN y)) (60 * r + d))))), (3, .int (nI (nN t * 8 + nN y))), (0, .ref X.1), (1, .int t), (2, .int y)]) (fun w L h => ?_) (fun i w L h ih2 => ?_) 61 _ _ ⟨0, by omega, rfl, by omega, rfl⟩
    · obtain ⟨d, hj, -, h2, -⟩ := h
      omega
    · obtain ⟨d, hd1, rfl, hd2, rfl⟩ := h
      refine gg_iload K dX0_rows_29 rfl ?_
      refine gg_bipush K (v := 60) dX0_rows_31 (by decide) ?_
      refine gg_icmp_ge K (tgt := 66) dX0_rows_33 (by decide) (fun h33 => ?_) (fun h33 => ?_)
      · have hd3 := i_le (a := 60) h33
        have hd4 : d = 60 := by omega
        subst hd4
        refine gg_iinc K (v := nI (r + 1)) dX0_rows_66 rfl (nI_inc (r)) (by decide) ?_
        refine gg_goto K (tgt := 17) dX0_rows_69 (by decide) ?_
        refine gg_sub (L' := [(5, .int (nI (r + 1))), (4, .int (nI ((fb_ct (rwF (vX k kp T) (nN t * 8 + nN y)) (60 * (r + 1)))))), (3, .int (nI (nN t * 8 + nN y))), (0, .ref X.1), (1, .int t), (2, .int y)]) ⟨rfl, rfl, rfl, rfl, rfl, rfl, trivial⟩ ?_
        exact ih _ _ ⟨r + 1, by omega, rfl, by omega, rfl⟩
      have hd3 := i_nle (a := 60) h33
      refine gg_aload_n K (i := 0) dX0_rows_36 rfl rfl ?_
      refine gg_iload K dX0_rows_37 rfl ?_
      refine gg_callRX K k_X0_X0_isKept (x_isKept r ok hj2 rfl) dX0_rows_39 rfl rfl rfl rfl ⟨rfl, rfl⟩ ?_
      refine gg_b_eq K (tgt := 66) dX0_rows_42 (by decide) (fun h42 => ?_) (fun h42 => ?_)
      · have hoff := fun d => vX_off (k := k) ok hj2 (of_decide_eq_false h42) (nN t * 8 + nN y) d
        have hc := fb_ct_flat (q := (rwF (vX k kp T) (nN t * 8 + nN y))) (a := 60 * r + d) (n := 60 - d) (fun e9 g1 g2 => by
          have e := rwF_at (vX k kp T) (nN t * 8 + nN y) r (e9 - 60 * r) (by omega)
          rw [show 60 * r + (e9 - 60 * r) = e9 by omega] at e
          rw [e]
          exact hoff _)
        rw [show 60 * r + d + (60 - d) = 60 * (r + 1) by omega] at hc
        refine gg_iinc K (v := nI (r + 1)) dX0_rows_66 rfl (nI_inc (r)) (by decide) ?_
        refine gg_goto K (tgt := 17) dX0_rows_69 (by decide) ?_
        refine gg_sub (L' := [(5, .int (nI (r + 1))), (4, .int (nI ((fb_ct (rwF (vX k kp T) (nN t * 8 + nN y)) (60 * r + d))))), (3, .int (nI (nN t * 8 + nN y))), (0, .ref X.1), (1, .int t), (2, .int y)]) ⟨rfl, rfl, rfl, rfl, rfl, rfl, trivial⟩ ?_
        exact ih _ _ ⟨r + 1, by omega, rfl, by omega, by rw [hc]⟩
      have hat := rwF_at (vX k kp T) (nN t * 8 + nN y) r d hd3
      refine gg_aload_n K (i := 0) dX0_rows_45 rfl rfl ?_
      refine gg_iload K dX0_rows_46 rfl ?_
      refine gg_iload_n K (i := 3) dX0_rows_48 rfl rfl ?_
      refine gg_iload K dX0_rows_49 rfl ?_
      refine gg_callRX K k_X0_X0_startsRow (x_startsRow r (nN t * 8 + nN y) d ok hj2 (by omega) hd3 rfl rfl rfl) dX0_rows_51 rfl rfl rfl rfl ⟨rfl, rfl⟩ ?_
      refine gg_b_eq K (tgt := 60) dX0_rows_54 (by decide) (fun h54 => ?_) (fun h54 => ?_)
      · rw [← hat] at h54
        refine gg_iinc K (v := nI (d + 1)) dX0_rows_60 rfl (nI_inc (d)) (by decide) ?_
        refine gg_goto K (tgt := 29) dX0_rows_63 (by decide) ?_
        refine gg_sub (L' := [(6, .int (nI (d + 1))), (5, .int (nI r)), (4, .int (nI ((fb_ct (rwF (vX k kp T) (nN t * 8 + nN y)) (60 * r + d))))), (3, .int (nI (nN t * 8 + nN y))), (0, .ref X.1), (1, .int t), (2, .int y)]) ⟨rfl, rfl, rfl, rfl, rfl, rfl, rfl, trivial⟩ ?_
        exact ih2 _ _ ⟨d + 1, by omega, rfl, by omega, by rw [show 60 * r + (d + 1) = (60 * r + d) + 1 from rfl, fb_ct_succ, h54]; rfl⟩
      · rw [← hat] at h54
        refine gg_iinc K (v := nI (fb_ct (rwF (vX k kp T) (nN t * 8 + nN y)) (60 * r + d) + 1)) dX0_rows_57 rfl (nI_inc (fb_ct (rwF (vX k kp T) (nN t * 8 + nN y)) (60 * r + d))) (by decide) ?_
        refine gg_iinc K (v := nI (d + 1)) dX0_rows_60 rfl (nI_inc (d)) (by decide) ?_
        refine gg_goto K (tgt := 29) dX0_rows_63 (by decide) ?_
        refine gg_sub (L' := [(6, .int (nI (d + 1))), (5, .int (nI r)), (4, .int (nI ((fb_ct (rwF (vX k kp T) (nN t * 8 + nN y)) (60 * r + d) + 1)))), (3, .int (nI (nN t * 8 + nN y))), (0, .ref X.1), (1, .int t), (2, .int y)]) ⟨rfl, rfl, rfl, rfl, rfl, rfl, rfl, trivial⟩ ?_
        exact ih2 _ _ ⟨d + 1, by omega, rfl, by omega, by rw [show 60 * r + (d + 1) = (60 * r + d) + 1 from rfl, fb_ct_succ, h54]; rfl⟩
/-- a row found: its number, and that it is the one -/
theorem row_found {q : Nat → Bool} {N e9 : Nat} {w9 : Int32} (h1 : e9 < N) (hN : N < 2 ^ 31) (h2 : q e9 = true) (h3 : nI (fb_ct q e9) = w9) : (∃ j, j < fb_ct q N ∧ w9 = nI j) ∧ kthD q (nN w9) N = e9 := by
  have hl := fb_ct_le q N
  have h6 := fb_ct_mono q (show e9 + 1 ≤ N by omega)
  rw [fb_ct_succ, if_pos h2] at h6
  exact ⟨⟨fb_ct q e9, by omega, h3.symm⟩, kthD_eq h2 (by rw [← h3]; exact (nI_clamp (by omega)).symm) h1⟩
theorem row_none {q : Nat → Bool} {N : Nat} {w9 : Int32} (h : ∀ e9, e9 < N → q e9 = true → ¬ nI (fb_ct q e9) = w9) : ¬ ∃ j, j < fb_ct q N ∧ w9 = nI j := fun ⟨j, hj, hj2⟩ => by
  obtain ⟨e9, g1, g2, g3⟩ := fb_ct_kth hj
  exact h e9 g1 g2 (by rw [g3, hj2])
set_option maxRecDepth 100000 in
theorem x_rowRun {l : Launch} {Z : ZT} {X : XT} {k kp dr : Nat → Int32} {T : Nat} (hl0 : l.stackTraces = false) (ok : okX kp T) {t y w9 : Int32} : mX l Z.1 (ty3 Z) yX0_rowRun (.code yX0_rowRun cX0_rowRun 6 (some .int)) (rmk 9 200 8 48) (wX Z X k kp dr (nI T)) [.ref X.1, .int t, .int y, .int w9] (xPost Z X ((qS (vX k kp T) T (inR t 2 ∧ inR y 8) (∃ j, j < fb_ct (rwF (vX k kp T) (nN t * 8 + nN y)) (60 * (T + 1)) ∧ w9 = nI j) (runN (vX k kp T ((kthD (rwF (vX k kp T) (nN t * 8 + nN y)) (nN w9) (60 * (T + 1))) / 60) (nN t * 8 + nN y)) ((kthD (rwF (vX k kp T) (nN t * 8 + nN y)) (nN w9) (60 * (T + 1))) % 60))))) (xErr Z X ((qS (vX k kp T) T (inR t 2 ∧ inR y 8) (∃ j, j < fb_ct (rwF (vX k kp T) (nN t * 8 + nN y)) (60 * (T + 1)) ∧ w9 = nI j) (runN (vX k kp T ((kthD (rwF (vX k kp T) (nN t * 8 + nN y)) (nN w9) (60 * (T + 1))) / 60) (nN t * 8 + nN y)) ((kthD (rwF (vX k kp T) (nN t * 8 + nN y)) (nN w9) (60 * (T + 1))) % 60)))) cAB) := by
  refine mX_intro (own := RX0) [(0, .ref X.1), (1, .int t), (2, .int y), (3, .int w9)] (by decide +kernel) rfl rfl rfl rfl ?_
  intro p e s m args below meth c A K hr T9 htab
  have hT9 := ok.1
  refine gg_iload_n K (i := 1) dX0_rowRun_0 rfl rfl ?_
  refine gg_iload_n K (i := 2) dX0_rowRun_1 rfl rfl ?_
  refine gg_callTS 2 12 K T9 k_X0_X0_needTableAndKey (x_needTK hl0) dX0_rowRun_2 rfl rfl rfl rfl ⟨rfl, rfl⟩ (fun E u h => ?_) (fun v u h => ?_)
  · obtain ⟨rfl, rfl, h⟩ := h
    exact gx_out K htab (Nat.le_of_ble_eq_true rfl) (Nat.le_of_ble_eq_true rfl) (qE1 ok h (by decide))
  obtain ⟨rfl, rfl, h1⟩ := h
  have ⟨a1, a2⟩ := inR_N (b := 2) h1.1
  have ⟨b1, b2⟩ := inR_N (b := 8) h1.2
  refine gg_iload_n K (i := 1) dX0_rowRun_5 rfl rfl ?_
  refine gg_iload_n K (i := 2) dX0_rowRun_6 rfl rfl ?_
  refine gg_callSR K k_X0_X0_line (x_line (nN t) (nN y) a2 b2) dX0_rowRun_7 rfl rfl rfl rfl ⟨rfl, rfl⟩ ?_
  refine gg_istore K dX0_rowRun_10 (by decide) ?_
  refine gg_aload_n K (i := 0) dX0_rowRun_12 rfl rfl ?_
  refine gg_iload K dX0_rowRun_13 rfl ?_
  refine gg_iload_n K (i := 3) dX0_rowRun_15 rfl rfl ?_
  refine gg_callTX 3 18 K T9 k_X0_X0_startOfRow (x_startOfRow hl0 ok (nN t * 8 + nN y) (by omega) rfl) dX0_rowRun_16 rfl rfl rfl rfl ⟨rfl, rfl⟩ (fun E u h => ?_) (fun v u h => ?_)
  · obtain ⟨rfl, rfl, h⟩ := h
    exact gx_out K htab (Nat.le_of_ble_eq_true rfl) (Nat.le_of_ble_eq_true rfl) (qE2 ok h1 (row_none h) (by decide))
  obtain ⟨rfl, e9, g1, g2, g3, rfl⟩ := h
  obtain ⟨r1, r2⟩ := row_found g1 (by omega) g2 g3
  refine gg_istore K dX0_rowRun_19 (by decide) ?_
  refine gg_aload_n K (i := 0) dX0_rowRun_21 rfl rfl ?_
  refine gg_iload K dX0_rowRun_22 rfl ?_
  refine gg_callSR K k_X0_X0_recordOfStart x_recordOfStart dX0_rowRun_24 rfl rfl rfl rfl ⟨rfl, rfl⟩ ?_
  refine gg_iload K dX0_rowRun_27 rfl ?_
  refine gg_iload K dX0_rowRun_29 rfl ?_
  refine gg_callSR K k_X0_X0_validOfStart x_validOfStart dX0_rowRun_31 rfl rfl rfl rfl ⟨rfl, rfl⟩ ?_
  refine gg_callRX K k_X0_X0_runNumber (x_runNumber (e9 / 60) (nN t * 8 + nN y) (e9 % 60) ok (by omega) (by omega) (by omega) (pk_div (d := 60) (by omega) (by omega) (by omega)) rfl (pk_rem (d := 60) (by omega) (by omega) (by omega))) dX0_rowRun_34 rfl rfl rfl rfl ⟨rfl, rfl⟩ ?_
  exact gg_x (gg_iret K hr dX0_rowRun_37 (Nat.le_of_ble_eq_true rfl) (Nat.le_of_ble_eq_true rfl) (qOk ok h1 r1 (by rw [r2])))
set_option maxRecDepth 100000 in
theorem x_rowFrom {l : Launch} {Z : ZT} {X : XT} {k kp dr : Nat → Int32} {T : Nat} (hl0 : l.stackTraces = false) (ok : okX kp T) {t y w9 : Int32} : mX l Z.1 (ty3 Z) yX0_rowFrom (.code yX0_rowFrom cX0_rowFrom 4 (some .int)) (rmk 9 200 8 48) (wX Z X k kp dr (nI T)) [.ref X.1, .int t, .int y, .int w9] (xPost Z X ((qS (vX k kp T) T (inR t 2 ∧ inR y 8) (∃ j, j < fb_ct (rwF (vX k kp T) (nN t * 8 + nN y)) (60 * (T + 1)) ∧ w9 = nI j) (nI ((kthD (rwF (vX k kp T) (nN t * 8 + nN y)) (nN w9) (60 * (T + 1))) / 60))))) (xErr Z X ((qS (vX k kp T) T (inR t 2 ∧ inR y 8) (∃ j, j < fb_ct (rwF (vX k kp T) (nN t * 8 + nN y)) (60 * (T + 1)) ∧ w9 = nI j) (nI ((kthD (rwF (vX k kp T) (nN t * 8 + nN y)) (nN w9) (60 * (T + 1))) / 60)))) cAB) := by
  refine mX_intro (own := RX0) [(0, .ref X.1), (1, .int t), (2, .int y), (3, .int w9)] (by decide +kernel) rfl rfl rfl rfl ?_
  intro p e s m args below meth c A K hr T9 htab
  have hT9 := ok.1
  refine gg_iload_n K (i := 1) dX0_rowFrom_0 rfl rfl ?_
  refine gg_iload_n K (i := 2) dX0_rowFrom_1 rfl rfl ?_
  refine gg_callTS 2 12 K T9 k_X0_X0_needTableAndKey (x_needTK hl0) dX0_rowFrom_2 rfl rfl rfl rfl ⟨rfl, rfl⟩ (fun E u h => ?_) (fun v u h => ?_)
  · obtain ⟨rfl, rfl, h⟩ := h
    exact gx_out K htab (Nat.le_of_ble_eq_true rfl) (Nat.le_of_ble_eq_true rfl) (qE1 ok h (by decide))
  obtain ⟨rfl, rfl, h1⟩ := h
  have ⟨a1, a2⟩ := inR_N (b := 2) h1.1
  have ⟨b1, b2⟩ := inR_N (b := 8) h1.2
  refine gg_aload_n K (i := 0) dX0_rowFrom_5 rfl rfl ?_
  refine gg_iload_n K (i := 1) dX0_rowFrom_6 rfl rfl ?_
  refine gg_iload_n K (i := 2) dX0_rowFrom_7 rfl rfl ?_
  refine gg_callSR K k_X0_X0_line (x_line (nN t) (nN y) a2 b2) dX0_rowFrom_8 rfl rfl rfl rfl ⟨rfl, rfl⟩ ?_
  refine gg_iload_n K (i := 3) dX0_rowFrom_11 rfl rfl ?_
  refine gg_callTX 3 18 K T9 k_X0_X0_startOfRow (x_startOfRow hl0 ok (nN t * 8 + nN y) (by omega) rfl) dX0_rowFrom_12 rfl rfl rfl rfl ⟨rfl, rfl⟩ (fun E u h => ?_) (fun v u h => ?_)
  · obtain ⟨rfl, rfl, h⟩ := h
    exact gx_out K htab (Nat.le_of_ble_eq_true rfl) (Nat.le_of_ble_eq_true rfl) (qE2 ok h1 (row_none h) (by decide))
  obtain ⟨rfl, e9, g1, g2, g3, rfl⟩ := h
  obtain ⟨r1, r2⟩ := row_found g1 (by omega) g2 g3
  refine gg_callSR K k_X0_X0_recordOfStart x_recordOfStart dX0_rowFrom_15 rfl rfl rfl rfl ⟨rfl, rfl⟩ ?_
  exact gg_x (gg_iret K hr dX0_rowFrom_18 (Nat.le_of_ble_eq_true rfl) (Nat.le_of_ble_eq_true rfl) (qOk ok h1 r1 (by rw [r2]; exact pk_div (d := 60) (by omega) (by omega) (by omega))))
set_option maxRecDepth 100000 in
theorem x_rowTo {l : Launch} {Z : ZT} {X : XT} {k kp dr : Nat → Int32} {T : Nat} (hl0 : l.stackTraces = false) (ok : okX kp T) {t y w9 : Int32} : mX l Z.1 (ty3 Z) yX0_rowTo (.code yX0_rowTo cX0_rowTo 9 (some .int)) (rmk 9 200 8 48) (wX Z X k kp dr (nI T)) [.ref X.1, .int t, .int y, .int w9] (xPost Z X ((qS (vX k kp T) T (inR t 2 ∧ inR y 8) (∃ j, j < fb_ct (rwF (vX k kp T) (nN t * 8 + nN y)) (60 * (T + 1)) ∧ w9 = nI j) (reF (fun a => smF (vX k kp T (((kthD (rwF (vX k kp T) (nN t * 8 + nN y)) (nN w9) (60 * (T + 1)))) / 60) (nN t * 8 + nN y)) (vX k kp T a (nN t * 8 + nN y)) (((kthD (rwF (vX k kp T) (nN t * 8 + nN y)) (nN w9) (60 * (T + 1)))) % 60)) (T - (kthD (rwF (vX k kp T) (nN t * 8 + nN y)) (nN w9) (60 * (T + 1))) / 60) ((kthD (rwF (vX k kp T) (nN t * 8 + nN y)) (nN w9) (60 * (T + 1))) / 60 + 1))))) (xErr Z X ((qS (vX k kp T) T (inR t 2 ∧ inR y 8) (∃ j, j < fb_ct (rwF (vX k kp T) (nN t * 8 + nN y)) (60 * (T + 1)) ∧ w9 = nI j) (reF (fun a => smF (vX k kp T (((kthD (rwF (vX k kp T) (nN t * 8 + nN y)) (nN w9) (60 * (T + 1)))) / 60) (nN t * 8 + nN y)) (vX k kp T a (nN t * 8 + nN y)) (((kthD (rwF (vX k kp T) (nN t * 8 + nN y)) (nN w9) (60 * (T + 1)))) % 60)) (T - (kthD (rwF (vX k kp T) (nN t * 8 + nN y)) (nN w9) (60 * (T + 1))) / 60) ((kthD (rwF (vX k kp T) (nN t * 8 + nN y)) (nN w9) (60 * (T + 1))) / 60 + 1)))) cAB) := by
  refine mX_intro (own := RX0) [(0, .ref X.1), (1, .int t), (2, .int y), (3, .int w9)] (by decide +kernel) rfl rfl rfl rfl ?_
  intro p e s m args below meth c A K hr T9 htab
  have hT9 := ok.1
  refine gg_iload_n K (i := 1) dX0_rowTo_0 rfl rfl ?_
  refine gg_iload_n K (i := 2) dX0_rowTo_1 rfl rfl ?_
  refine gg_callTS 2 12 K T9 k_X0_X0_needTableAndKey (x_needTK hl0) dX0_rowTo_2 rfl rfl rfl rfl ⟨rfl, rfl⟩ (fun E u h => ?_) (fun v u h => ?_)
  · obtain ⟨rfl, rfl, h⟩ := h
    exact gx_out K htab (Nat.le_of_ble_eq_true rfl) (Nat.le_of_ble_eq_true rfl) (qE1 ok h (by decide))
  obtain ⟨rfl, rfl, h1⟩ := h
  have ⟨a1, a2⟩ := inR_N (b := 2) h1.1
  have ⟨b1, b2⟩ := inR_N (b := 8) h1.2
  refine gg_iload_n K (i := 1) dX0_rowTo_5 rfl rfl ?_
  refine gg_iload_n K (i := 2) dX0_rowTo_6 rfl rfl ?_
  refine gg_callSR K k_X0_X0_line (x_line (nN t) (nN y) a2 b2) dX0_rowTo_7 rfl rfl rfl rfl ⟨rfl, rfl⟩ ?_
  refine gg_istore K dX0_rowTo_10 (by decide) ?_
  refine gg_aload_n K (i := 0) dX0_rowTo_12 rfl rfl ?_
  refine gg_iload K dX0_rowTo_13 rfl ?_
  refine gg_iload_n K (i := 3) dX0_rowTo_15 rfl rfl ?_
  refine gg_callTX 3 18 K T9 k_X0_X0_startOfRow (x_startOfRow hl0 ok (nN t * 8 + nN y) (by omega) rfl) dX0_rowTo_16 rfl rfl rfl rfl ⟨rfl, rfl⟩ (fun E u h => ?_) (fun v u h => ?_)
  · obtain ⟨rfl, rfl, h⟩ := h
    exact gx_out K htab (Nat.le_of_ble_eq_true rfl) (Nat.le_of_ble_eq_true rfl) (qE2 ok h1 (row_none h) (by decide))
  obtain ⟨rfl, e9, g1, g2, g3, rfl⟩ := h
  obtain ⟨r1, r2⟩ := row_found g1 (by omega) g2 g3
  rw [r2]
  refine gg_istore K dX0_rowTo_19 (by decide) ?_
  refine gg_iload K dX0_rowTo_21 rfl ?_
  refine gg_callSR K k_X0_X0_recordOfStart x_recordOfStart dX0_rowTo_23 rfl rfl rfl rfl ⟨rfl, rfl⟩ ?_
  refine gg_top (pk_div (d := 60) (by omega) (by omega) (by omega)) ?_
  refine gg_istore K dX0_rowTo_26 (by decide) ?_
  refine gg_iload K dX0_rowTo_28 rfl ?_
  refine gg_callSR K k_X0_X0_validOfStart x_validOfStart dX0_rowTo_30 rfl rfl rfl rfl ⟨rfl, rfl⟩ ?_
  refine gg_top (pk_rem (d := 60) (by omega) (by omega) (by omega)) ?_
  refine gg_istore K dX0_rowTo_33 (by decide) ?_
  refine gg_iload K dX0_rowTo_35 rfl ?_
  refine gg_iconst K (v := 1) dX0_rowTo_37 (by decide) ?_
  refine gg_iadd K dX0_rowTo_38 ?_
  refine gg_top (nI_1 _) ?_
  refine gg_istore K dX0_rowTo_39 (by decide) ?_
  obtain ⟨G, hG⟩ : ∃ G, G = reF (fun a => smF (vX k kp T (e9 / 60) (nN t * 8 + nN y)) (vX k kp T a (nN t * 8 + nN y)) (e9 % 60)) (T - e9 / 60) (e9 / 60 + 1) := ⟨_, rfl⟩
  rw [← hG]
  refine gg_sub (L' := [(8, .int (nI (e9 / 60 + 1))), (7, .int (nI (e9 % 60))), (6, .int (nI (e9 / 60))), (4, .int (nI (nN t * 8 + nN y))), (0, .ref X.1)]) ⟨rfl, rfl, rfl, rfl, rfl, trivial⟩ ?_
  refine gg_loop (fun i w L => ∃ (a : Nat), a + i = T + 2 ∧ w = wX Z X k kp dr (nI T) ∧ a ≤ T + 1 ∧ L = [(8, .int (nI a)), (7, .int (nI (e9 % 60))), (6, .int (nI (e9 / 60))), (4, .int (nI (nN t * 8 + nN y))), (0, .ref X.1)] ∧ G = reF (fun a => smF (vX k kp T (e9 / 60) (nN t * 8 + nN y)) (vX k kp T a (nN t * 8 + nN y)) (e9 % 60)) (T + 1 - a) a) (fun w L h => ?_) (fun i w L h ih => ?_) (T + 1 - e9 / 60) _ _ ⟨e9 / 60 + 1, by omega, rfl, by omega, rfl, by rw [hG, show T + 1 - (e9 / 60 + 1) = T - e9 / 60 by omega]⟩
  · obtain ⟨a, hj, -, h2, -⟩ := h
    omega
  · obtain ⟨a, hj, rfl, hj1, rfl, he⟩ := h
    refine gg_iload K dX0_rowTo_41 rfl ?_
    refine gg_aload_n K (i := 0) dX0_rowTo_43 rfl rfl ?_
    refine gX_today K dX0_rowTo_44 ?_
    refine gg_icmp_gt K (tgt := 74) dX0_rowTo_47 (by decide) (fun h47 => ?_) (fun h47 => ?_)
    · have hj2 := i_lt h47
      refine gg_iconst K (v := (-1)) dX0_rowTo_74 (by decide) ?_
      exact gg_x (gg_iret K hr dX0_rowTo_75 (Nat.le_of_ble_eq_true rfl) (Nat.le_of_ble_eq_true rfl) (qOk ok h1 r1 (by rw [he, show T + 1 - a = 0 by omega]; rfl)))
    have hj2 := i_nlt h47
    rw [show T + 1 - a = (T - a) + 1 by omega] at he
    unfold reF at he
    refine gg_aload_n K (i := 0) dX0_rowTo_50 rfl rfl ?_
    refine gg_iload K dX0_rowTo_51 rfl ?_
    refine gg_iload K dX0_rowTo_53 rfl ?_
    refine gg_iload K dX0_rowTo_55 rfl ?_
    refine gg_iload K dX0_rowTo_57 rfl ?_
    refine gg_callRX K k_X0_X0_sameRun (x_sameRun (e9 / 60) a (nN t * 8 + nN y) (e9 % 60) ok (by omega) hj2 (by omega) (by omega) rfl rfl rfl rfl) dX0_rowTo_59 rfl rfl rfl rfl ⟨rfl, rfl⟩ ?_
    refine gg_b_ne K (tgt := 68) dX0_rowTo_62 (by decide) (fun h62 => ?_) (fun h62 => ?_)
    · rw [if_pos h62] at he
      refine gg_iinc K (v := nI (a + 1)) dX0_rowTo_68 rfl (nI_inc (a)) (by decide) ?_
      refine gg_goto K (tgt := 41) dX0_rowTo_71 (by decide) ?_
      refine gg_sub (L' := [(8, .int (nI (a + 1))), (7, .int (nI (e9 % 60))), (6, .int (nI (e9 / 60))), (4, .int (nI (nN t * 8 + nN y))), (0, .ref X.1)]) ⟨rfl, rfl, rfl, rfl, rfl, trivial⟩ ?_
      exact ih _ _ ⟨a + 1, by omega, rfl, by omega, rfl, by rw [he, show T - a = T + 1 - (a + 1) by omega]⟩
    · rw [if_neg (by rw [h62]; decide)] at he
      refine gg_iload K dX0_rowTo_65 rfl ?_
      exact gg_x (gg_iret K hr dX0_rowTo_67 (Nat.le_of_ble_eq_true rfl) (Nat.le_of_ble_eq_true rfl) (qOk ok h1 r1 he.symm))
end
section
/-! Twotimes: the changes -/
def sSet (V : VT) (T : Nat) (P1 P2 P3 : Prop) (c3 : Int32) (li : Nat) (g : Nat → Int32) : ST := fun c r V' T' => T' = T ∧ ((¬ P1 ∧ c = 1 ∧ V' = V) ∨ (P1 ∧ ¬ P2 ∧ c = 2 ∧ V' = V) ∨ (P1 ∧ P2 ∧ ¬ P3 ∧ c = c3 ∧ V' = V) ∨ (P1 ∧ P2 ∧ P3 ∧ c = 0 ∧ r = nI (fb_ct (fun d => bP (¬ V T li d = g d)) 60) ∧ V' = updR V T li g 0 60))
def spG (V : VT) (T li : Nat) (v f q : Int32) : Nat → Int32 := fun d => if nN f ≤ d ∧ d < nN q then v else V T li d
theorem keepP_cong {V : VT} {T : Nat} {g h : Nat → Int32} {t9 key : Nat} (e : ∀ d, d < 60 → g d = h d) (hk : keepP V T g t9 key) : keepP V T h t9 key := fun d hd => by
  have := hk d hd
  rw [e d hd] at this
  exact this
theorem updR_cong {V : VT} {T li : Nat} {g h : Nat → Int32} (e : ∀ d, d < 60 → g d = h d) : updR V T li g 0 60 = updR V T li h 0 60 := by
  funext r l d
  unfold updR
  by_cases hc : r = T ∧ l = li ∧ 0 ≤ d ∧ d < 60
  · rw [if_pos hc, if_pos hc, e d hc.2.2.2]
  · rw [if_neg hc, if_neg hc]
theorem ct_cong {V : VT} {T li : Nat} {g h : Nat → Int32} (e : ∀ d, d < 60 → g d = h d) : fb_ct (fun d => bP (¬ V T li d = g d)) 60 = fb_ct (fun d => bP (¬ V T li d = h d)) 60 := fb_ct_cong (fun d hd => by rw [e d hd])
theorem spanR_N {f q : Int32} (h : spanR f q) : nN f < 60 ∧ f = nI (nN f) ∧ nN f < nN q ∧ nN q ≤ 60 ∧ q = nI (nN q) := by
  obtain ⟨f1, f2⟩ := inR_N (b := 60) h.1
  have h0 : ¬ q < 0 := fun z => h.2.1 (by
    rw [Int32.lt_iff_toInt_lt] at z
    rw [Int32.le_iff_toInt_le, f2, nI_toInt (by omega)]
    have : (0 : Int32).toInt = 0 := by decide
    omega)
  obtain ⟨j, h1, h2⟩ := nI_of h0
  have e : nN q = j := by rw [h2]; exact nI_clamp (by omega)
  have h3 := h.2.1
  have h4 := h.2.2
  rw [h2, f2] at h3
  rw [h2] at h4
  have h5 := i_nle h3
  have h6 := i_le (b := 60) h4
  exact ⟨f1, f2, by omega, by omega, by rw [e]; exact h2⟩
theorem sE1 {Z : ZT} {X : XT} {k kp dr : Nat → Int32} {T : Nat} {P1 P2 P3 : Prop} {c3 : Int32} {li : Nat} {g : Nat → Int32} {codes : List (String × Int32)} (ok : okX kp T) (h : ¬ P1) (hm : (eA, 1) ∈ codes) : xErr Z X (sSet (vX k kp T) T P1 P2 P3 c3 li g) codes eA (wX Z X k kp dr (nI T)) := ⟨1, k, kp, dr, T, hm, rfl, ok, rfl, Or.inl ⟨h, rfl, rfl⟩⟩
theorem sE2 {Z : ZT} {X : XT} {k kp dr : Nat → Int32} {T : Nat} {P1 P2 P3 : Prop} {c3 : Int32} {li : Nat} {g : Nat → Int32} {codes : List (String × Int32)} {E : String} (ok : okX kp T) (h1 : P1) (h : ¬ P2) (hm : (E, 2) ∈ codes) : xErr Z X (sSet (vX k kp T) T P1 P2 P3 c3 li g) codes E (wX Z X k kp dr (nI T)) := ⟨2, k, kp, dr, T, hm, rfl, ok, rfl, Or.inr (Or.inl ⟨h1, h, rfl, rfl⟩)⟩
theorem sE3 {Z : ZT} {X : XT} {k kp dr : Nat → Int32} {T : Nat} {P1 P2 P3 : Prop} {c3 : Int32} {li : Nat} {g : Nat → Int32} {codes : List (String × Int32)} {E : String} (ok : okX kp T) (h1 : P1) (h2 : P2) (h : ¬ P3) (hm : (E, c3) ∈ codes) : xErr Z X (sSet (vX k kp T) T P1 P2 P3 c3 li g) codes E (wX Z X k kp dr (nI T)) := ⟨c3, k, kp, dr, T, hm, rfl, ok, rfl, Or.inr (Or.inr (Or.inl ⟨h1, h2, h, rfl, rfl⟩))⟩
theorem sOk {Z : ZT} {X : XT} {k k' kp dr : Nat → Int32} {T : Nat} {P1 P2 P3 : Prop} {c3 : Int32} {li : Nat} {g dr' : Nat → Int32} (ok : okX kp T) (h1 : P1) (h2 : P2) (h3 : P3) (e : ∀ d, d < 60 → dr' d = g d) (hv : vX k' kp T = updR (vX k kp T) T li dr' 0 60) : xPost Z X (sSet (vX k kp T) T P1 P2 P3 c3 li g) (some (.int (nI (fb_ct (fun d => bP (¬ vX k kp T T li d = dr' d)) 60)))) (wX Z X k' kp dr (nI T)) := ⟨_, k', kp, dr, T, rfl, rfl, ok, rfl, Or.inr (Or.inr (Or.inr ⟨h1, h2, h3, rfl, by rw [ct_cong e], by rw [hv, updR_cong e]⟩))⟩
set_option maxRecDepth 100000 in
theorem x_put {l : Launch} {Z : ZT} {X : XT} {k kp dr : Nat → Int32} {T : Nat} (hl0 : l.stackTraces = false) (ok : okX kp T) (hv : valOk (vX k kp T) T) {t y v f q : Int32} : mX l Z.1 (ty3 Z) yX0_put (.code yX0_put cX0_put 6 (some .int)) (rmk 9 200 8 48) (wX Z X k kp dr (nI T)) [.ref X.1, .int t, .int y, .int v, .int f, .int q] (xPost Z X ((sSet (vX k kp T) T (inR t 2 ∧ inR y 8 ∧ inR v (if t = 0 then 100 else 8) ∧ spanR f q) True (keepP (vX k kp T) T (spG (vX k kp T) T (nN t * 8 + nN y) v f q) (nN t) (nN y)) 2 (nN t * 8 + nN y) (spG (vX k kp T) T (nN t * 8 + nN y) v f q)))) (xErr Z X ((sSet (vX k kp T) T (inR t 2 ∧ inR y 8 ∧ inR v (if t = 0 then 100 else 8) ∧ spanR f q) True (keepP (vX k kp T) T (spG (vX k kp T) T (nN t * 8 + nN y) v f q) (nN t) (nN y)) 2 (nN t * 8 + nN y) (spG (vX k kp T) T (nN t * 8 + nN y) v f q))) cAS) := by
  refine mX_intro (own := RX0) [(0, .ref X.1), (1, .int t), (2, .int y), (3, .int v), (4, .int f), (5, .int q)] (by decide +kernel) rfl rfl rfl rfl ?_
  intro p e s m args below meth c A K hr T9 htab
  refine gg_iload_n K (i := 1) dX0_put_0 rfl rfl ?_
  refine gg_iload_n K (i := 2) dX0_put_1 rfl rfl ?_
  refine gg_callTS 2 12 K T9 k_X0_X0_needTableAndKey (x_needTK hl0) dX0_put_2 rfl rfl rfl rfl ⟨rfl, rfl⟩ (fun E u h => ?_) (fun v u h => ?_)
  · obtain ⟨rfl, rfl, h⟩ := h
    exact gx_out K htab (Nat.le_of_ble_eq_true rfl) (Nat.le_of_ble_eq_true rfl) (sE1 ok (fun z => h ⟨z.1, z.2.1⟩) (by decide))
  obtain ⟨rfl, rfl, h1⟩ := h
  refine gg_iload_n K (i := 3) dX0_put_5 rfl rfl ?_
  refine gg_iload_n K (i := 1) dX0_put_6 rfl rfl ?_
  refine gg_callSR K k_X0_X0_valuesOf x_valuesOf dX0_put_7 rfl rfl rfl rfl ⟨rfl, rfl⟩ ?_
  refine gg_callTS 3 18 K T9 k_X0_X0_needRange (x_needRange hl0) dX0_put_10 rfl rfl rfl rfl ⟨rfl, rfl⟩ (fun E u h => ?_) (fun v u h => ?_)
  · obtain ⟨rfl, rfl, h⟩ := h
    exact gx_out K htab (Nat.le_of_ble_eq_true rfl) (Nat.le_of_ble_eq_true rfl) (sE1 ok (fun z => h z.2.2.1) (by decide))
  obtain ⟨rfl, rfl, h2⟩ := h
  refine gg_iload K dX0_put_13 rfl ?_
  refine gg_iload K dX0_put_15 rfl ?_
  refine gg_callTS 5 30 K T9 k_X0_X0_needSpan (x_needSpan hl0) dX0_put_17 rfl rfl rfl rfl ⟨rfl, rfl⟩ (fun E u h => ?_) (fun v u h => ?_)
  · obtain ⟨rfl, rfl, h⟩ := h
    exact gx_out K htab (Nat.le_of_ble_eq_true rfl) (Nat.le_of_ble_eq_true rfl) (sE1 ok (fun z => h z.2.2.2) (by decide))
  obtain ⟨rfl, rfl, h3⟩ := h
  have ⟨a1, a2⟩ := inR_N (b := 2) h1.1
  have ⟨b1, b2⟩ := inR_N (b := 8) h1.2
  have ⟨f1, f2, f3, f4, f5⟩ := spanR_N h3
  refine gg_aload_n K (i := 0) dX0_put_20 rfl rfl ?_
  refine gg_iload_n K (i := 1) dX0_put_21 rfl rfl ?_
  refine gg_iload_n K (i := 2) dX0_put_22 rfl rfl ?_
  refine gg_callSR K k_X0_X0_line (x_line (nN t) (nN y) a2 b2) dX0_put_23 rfl rfl rfl rfl ⟨rfl, rfl⟩ ?_
  refine gg_iload K dX0_put_26 rfl ?_
  refine gg_iload K dX0_put_28 rfl ?_
  refine gg_iload_n K (i := 3) dX0_put_30 rfl rfl ?_
  refine gg_callUX K k_X0_X0_draftSpan (x_draftSpan (nN t * 8 + nN y) (nN f) (nN q) ok rfl (by omega) f1 f4 rfl f2 f5) dX0_put_31 rfl rfl rfl rfl ⟨rfl, rfl⟩ (fun v9 u h => ?_)
  obtain ⟨rfl, dr', rfl, hdr⟩ := h
  have he : ∀ d, d < 60 → dr' d = (spG (vX k kp T) T (nN t * 8 + nN y) v f q) d := hdr
  refine gg_aload_n K (i := 0) dX0_put_34 rfl rfl ?_
  refine gg_iload_n K (i := 1) dX0_put_35 rfl rfl ?_
  refine gg_iload_n K (i := 2) dX0_put_36 rfl rfl ?_
  refine gg_callTX 6 36 K T9 k_X0_X0_recordDraft (x_recordDraft hl0 (nN t) (nN y) ok rfl a1 b1 (fun ht d hd => ?_) a2 b2) dX0_put_37 rfl rfl rfl rfl ⟨rfl, rfl⟩ (fun E u h => ?_) (fun v9 u h => ?_)
  · rw [he d hd]
    unfold spG
    split
    · have hne : ¬ t = 0 := fun z => by rw [z] at ht; exact absurd ht (by decide)
      rw [if_neg hne] at h2
      have ⟨c1, c2⟩ := inR_N (b := 8) h2
      exact Or.inr ⟨nN v, c2, c1⟩
    · rcases hv T (nN t * 8 + nN y) d (Nat.le_refl T) (by omega) hd with g | ⟨j, g1, -, g2⟩
      · exact Or.inl g
      · exact Or.inr ⟨j, g1, g2 (by omega)⟩
  · obtain ⟨rfl, rfl, h⟩ := h
    exact gx_out K htab (Nat.le_of_ble_eq_true rfl) (Nat.le_of_ble_eq_true rfl) (sE3 ok ⟨h1.1, h1.2, h2, h3⟩ trivial (fun z => h (keepP_cong (fun d hd => (he d hd).symm) z)) (by decide))
  · obtain ⟨g1, rfl, k', rfl, g2⟩ := h
    exact gg_x (gg_iret K hr dX0_put_40 (Nat.le_of_ble_eq_true rfl) (Nat.le_of_ble_eq_true rfl) (sOk ok ⟨h1.1, h1.2, h2, h3⟩ trivial (keepP_cong he g1) he g2))
set_option maxRecDepth 100000 in
theorem x_erase {l : Launch} {Z : ZT} {X : XT} {k kp dr : Nat → Int32} {T : Nat} (hl0 : l.stackTraces = false) (ok : okX kp T) (hv : valOk (vX k kp T) T) {t y f q : Int32} : mX l Z.1 (ty3 Z) yX0_erase (.code yX0_erase cX0_erase 5 (some .int)) (rmk 9 200 8 48) (wX Z X k kp dr (nI T)) [.ref X.1, .int t, .int y, .int f, .int q] (xPost Z X ((sSet (vX k kp T) T (inR t 2 ∧ inR y 8 ∧ spanR f q) True (keepP (vX k kp T) T (spG (vX k kp T) T (nN t * 8 + nN y) (-1) f q) (nN t) (nN y)) 2 (nN t * 8 + nN y) (spG (vX k kp T) T (nN t * 8 + nN y) (-1) f q)))) (xErr Z X ((sSet (vX k kp T) T (inR t 2 ∧ inR y 8 ∧ spanR f q) True (keepP (vX k kp T) T (spG (vX k kp T) T (nN t * 8 + nN y) (-1) f q) (nN t) (nN y)) 2 (nN t * 8 + nN y) (spG (vX k kp T) T (nN t * 8 + nN y) (-1) f q))) cAS) := by
  refine mX_intro (own := RX0) [(0, .ref X.1), (1, .int t), (2, .int y), (3, .int f), (4, .int q)] (by decide +kernel) rfl rfl rfl rfl ?_
  intro p e s m args below meth c A K hr T9 htab
  refine gg_iload_n K (i := 1) dX0_erase_0 rfl rfl ?_
  refine gg_iload_n K (i := 2) dX0_erase_1 rfl rfl ?_
  refine gg_callTS 2 12 K T9 k_X0_X0_needTableAndKey (x_needTK hl0) dX0_erase_2 rfl rfl rfl rfl ⟨rfl, rfl⟩ (fun E u h => ?_) (fun v u h => ?_)
  · obtain ⟨rfl, rfl, h⟩ := h
    exact gx_out K htab (Nat.le_of_ble_eq_true rfl) (Nat.le_of_ble_eq_true rfl) (sE1 ok (fun z => h ⟨z.1, z.2.1⟩) (by decide))
  obtain ⟨rfl, rfl, h1⟩ := h
  refine gg_iload_n K (i := 3) dX0_erase_5 rfl rfl ?_
  refine gg_iload K dX0_erase_6 rfl ?_
  refine gg_callTS 4 24 K T9 k_X0_X0_needSpan (x_needSpan hl0) dX0_erase_8 rfl rfl rfl rfl ⟨rfl, rfl⟩ (fun E u h => ?_) (fun v u h => ?_)
  · obtain ⟨rfl, rfl, h⟩ := h
    exact gx_out K htab (Nat.le_of_ble_eq_true rfl) (Nat.le_of_ble_eq_true rfl) (sE1 ok (fun z => h z.2.2) (by decide))
  obtain ⟨rfl, rfl, h3⟩ := h
  have ⟨a1, a2⟩ := inR_N (b := 2) h1.1
  have ⟨b1, b2⟩ := inR_N (b := 8) h1.2
  have ⟨f1, f2, f3, f4, f5⟩ := spanR_N h3
  refine gg_aload_n K (i := 0) dX0_erase_11 rfl rfl ?_
  refine gg_iload_n K (i := 1) dX0_erase_12 rfl rfl ?_
  refine gg_iload_n K (i := 2) dX0_erase_13 rfl rfl ?_
  refine gg_callSR K k_X0_X0_line (x_line (nN t) (nN y) a2 b2) dX0_erase_14 rfl rfl rfl rfl ⟨rfl, rfl⟩ ?_
  refine gg_iload_n K (i := 3) dX0_erase_17 rfl rfl ?_
  refine gg_iload K dX0_erase_18 rfl ?_
  refine gg_iconst K (v := (-1)) dX0_erase_20 (by decide) ?_
  refine gg_callUX K k_X0_X0_draftSpan (x_draftSpan (nN t * 8 + nN y) (nN f) (nN q) ok rfl (by omega) f1 f4 rfl f2 f5) dX0_erase_21 rfl rfl rfl rfl ⟨rfl, rfl⟩ (fun v9 u h => ?_)
  obtain ⟨rfl, dr', rfl, hdr⟩ := h
  have he : ∀ d, d < 60 → dr' d = (spG (vX k kp T) T (nN t * 8 + nN y) (-1) f q) d := hdr
  refine gg_aload_n K (i := 0) dX0_erase_24 rfl rfl ?_
  refine gg_iload_n K (i := 1) dX0_erase_25 rfl rfl ?_
  refine gg_iload_n K (i := 2) dX0_erase_26 rfl rfl ?_
  refine gg_callTX 5 30 K T9 k_X0_X0_recordDraft (x_recordDraft hl0 (nN t) (nN y) ok rfl a1 b1 (fun ht d hd => ?_) a2 b2) dX0_erase_27 rfl rfl rfl rfl ⟨rfl, rfl⟩ (fun E u h => ?_) (fun v9 u h => ?_)
  · rw [he d hd]
    unfold spG
    split
    · exact Or.inl rfl
    · rcases hv T (nN t * 8 + nN y) d (Nat.le_refl T) (by omega) hd with g | ⟨j, g1, -, g2⟩
      · exact Or.inl g
      · exact Or.inr ⟨j, g1, g2 (by omega)⟩
  · obtain ⟨rfl, rfl, h⟩ := h
    exact gx_out K htab (Nat.le_of_ble_eq_true rfl) (Nat.le_of_ble_eq_true rfl) (sE3 ok ⟨h1.1, h1.2, h3⟩ trivial (fun z => h (keepP_cong (fun d hd => (he d hd).symm) z)) (by decide))
  · obtain ⟨g1, rfl, k', rfl, g2⟩ := h
    exact gg_x (gg_iret K hr dX0_erase_30 (Nat.le_of_ble_eq_true rfl) (Nat.le_of_ble_eq_true rfl) (sOk ok ⟨h1.1, h1.2, h3⟩ trivial (keepP_cong he g1) he g2))
set_option maxRecDepth 100000 in
theorem x_restore {l : Launch} {Z : ZT} {X : XT} {k kp dr : Nat → Int32} {T : Nat} (hl0 : l.stackTraces = false) (ok : okX kp T) (hv : valOk (vX k kp T) T) {t y q : Int32} : mX l Z.1 (ty3 Z) yX0_restore (.code yX0_restore cX0_restore 4 (some .int)) (rmk 9 200 8 48) (wX Z X k kp dr (nI T)) [.ref X.1, .int t, .int y, .int q] (xPost Z X ((sSet (vX k kp T) T (inR t 2 ∧ inR y 8 ∧ inR q 60) (q ≤ nI T) (keepP (vX k kp T) T (vX k kp T (nN q) (nN t * 8 + nN y)) (nN t) (nN y)) 3 (nN t * 8 + nN y) (vX k kp T (nN q) (nN t * 8 + nN y))))) (xErr Z X ((sSet (vX k kp T) T (inR t 2 ∧ inR y 8 ∧ inR q 60) (q ≤ nI T) (keepP (vX k kp T) T (vX k kp T (nN q) (nN t * 8 + nN y)) (nN t) (nN y)) 3 (nN t * 8 + nN y) (vX k kp T (nN q) (nN t * 8 + nN y)))) cABS) := by
  refine mX_intro (own := RX0) [(0, .ref X.1), (1, .int t), (2, .int y), (3, .int q)] (by decide +kernel) rfl rfl rfl rfl ?_
  intro p e s m args below meth c A K hr T9 htab
  refine gg_iload_n K (i := 1) dX0_restore_0 rfl rfl ?_
  refine gg_iload_n K (i := 2) dX0_restore_1 rfl rfl ?_
  refine gg_callTS 2 12 K T9 k_X0_X0_needTableAndKey (x_needTK hl0) dX0_restore_2 rfl rfl rfl rfl ⟨rfl, rfl⟩ (fun E u h => ?_) (fun v u h => ?_)
  · obtain ⟨rfl, rfl, h⟩ := h
    exact gx_out K htab (Nat.le_of_ble_eq_true rfl) (Nat.le_of_ble_eq_true rfl) (sE1 ok (fun z => h ⟨z.1, z.2.1⟩) (by decide))
  obtain ⟨rfl, rfl, h1⟩ := h
  refine gg_aload_n K (i := 0) dX0_restore_5 rfl rfl ?_
  refine gg_iload_n K (i := 3) dX0_restore_6 rfl rfl ?_
  refine gg_callTX 4 24 K T9 k_X0_X0_needRecord (x_needRecord hl0) dX0_restore_7 rfl rfl rfl rfl ⟨rfl, rfl⟩ (fun E u h => ?_) (fun v u h => ?_)
  · obtain ⟨rfl, ⟨rfl, h⟩ | ⟨rfl, h, h'⟩⟩ := h
    · exact gx_out K htab (Nat.le_of_ble_eq_true rfl) (Nat.le_of_ble_eq_true rfl) (sE1 ok (fun z => h z.2.2) (by decide))
    · exact gx_out K htab (Nat.le_of_ble_eq_true rfl) (Nat.le_of_ble_eq_true rfl) (sE2 ok ⟨h1.1, h1.2, h⟩ h' (by decide))
  obtain ⟨rfl, rfl, h3, h4⟩ := h
  have ⟨a1, a2⟩ := inR_N (b := 2) h1.1
  have ⟨b1, b2⟩ := inR_N (b := 8) h1.2
  have ⟨q1, q2⟩ := inR_N (b := 60) h3
  have hT := leT q2 q1 ok.1 h4
  refine gg_aload_n K (i := 0) dX0_restore_10 rfl rfl ?_
  refine gg_iload_n K (i := 1) dX0_restore_11 rfl rfl ?_
  refine gg_iload_n K (i := 2) dX0_restore_12 rfl rfl ?_
  refine gg_callSR K k_X0_X0_line (x_line (nN t) (nN y) a2 b2) dX0_restore_13 rfl rfl rfl rfl ⟨rfl, rfl⟩ ?_
  refine gg_iload_n K (i := 3) dX0_restore_16 rfl rfl ?_
  refine gg_callUX K k_X0_X0_draftRecord (x_draftRecord (nN t * 8 + nN y) (nN q) ok (by omega) hT rfl q2) dX0_restore_17 rfl rfl rfl rfl ⟨rfl, rfl⟩ (fun v9 u h => ?_)
  obtain ⟨rfl, dr', rfl, he⟩ := h
  refine gg_aload_n K (i := 0) dX0_restore_20 rfl rfl ?_
  refine gg_iload_n K (i := 1) dX0_restore_21 rfl rfl ?_
  refine gg_iload_n K (i := 2) dX0_restore_22 rfl rfl ?_
  refine gg_callTX 5 30 K T9 k_X0_X0_recordDraft (x_recordDraft hl0 (nN t) (nN y) ok rfl a1 b1 (fun ht d hd => ?_) a2 b2) dX0_restore_23 rfl rfl rfl rfl ⟨rfl, rfl⟩ (fun E u h => ?_) (fun v9 u h => ?_)
  · rw [he d hd]
    rcases hv (nN q) (nN t * 8 + nN y) d hT (by omega) hd with g | ⟨j, g1, -, g2⟩
    · exact Or.inl g
    · exact Or.inr ⟨j, g1, g2 (by omega)⟩
  · obtain ⟨rfl, rfl, h⟩ := h
    exact gx_out K htab (Nat.le_of_ble_eq_true rfl) (Nat.le_of_ble_eq_true rfl) (sE3 ok ⟨h1.1, h1.2, h3⟩ h4 (fun z => h (keepP_cong (fun d hd => (he d hd).symm) z)) (by decide))
  · obtain ⟨g1, rfl, k', rfl, g2⟩ := h
    exact gg_x (gg_iret K hr dX0_restore_26 (Nat.le_of_ble_eq_true rfl) (Nat.le_of_ble_eq_true rfl) (sOk ok ⟨h1.1, h1.2, h3⟩ h4 (keepP_cong he g1) he g2))
/-! what is lost with all references -/
def loV (V : VT) (T y d i : Nat) : VT := fun r l d' => if r = T ∧ d' = d ∧ (l = y ∨ (8 ≤ l ∧ l < 8 + i ∧ V T l d = nI y)) then -1 else V r l d'
noncomputable def loN (V : VT) (T y d : Nat) : Nat := (if V T y d = -1 then 0 else 1) + fb_ct (fun i => bP (V T (8 + i) d = nI y)) 8
def eraV (V : VT) (T y a b : Nat) : VT := fun r l d => if r = T ∧ a ≤ d ∧ d < b ∧ (l = y ∨ (8 ≤ l ∧ V T l d = nI y)) then -1 else V r l d
theorem loV_0 (V : VT) (T y d : Nat) : uV V T y d (-1) = loV V T y d 0 := by
  funext r l d'
  unfold uV loV
  by_cases h : r = T ∧ l = y ∧ d' = d
  · rw [if_pos h, if_pos ⟨h.1, h.2.2, Or.inl h.2.1⟩]
  · rw [if_neg h, if_neg (fun q => by
      obtain ⟨q1, q2, q3 | q3⟩ := q
      · exact h ⟨q1, q3, q2⟩
      · omega)]
theorem loV_at {V : VT} {T y d i : Nat} (hy : y < 8) : loV V T y d i T (8 + i) d = V T (8 + i) d := if_neg (fun q => by
  obtain ⟨q1, q2, q3 | q3⟩ := q <;> omega)
theorem loV_hit {V : VT} {T y d i : Nat} (h : V T (8 + i) d = nI y) : uV (loV V T y d i) T (8 + i) d (-1) = loV V T y d (i + 1) := by
  funext r l d'
  unfold uV loV
  by_cases h1 : r = T ∧ l = 8 + i ∧ d' = d
  · obtain ⟨rfl, rfl, rfl⟩ := h1
    rw [if_pos ⟨rfl, rfl, rfl⟩, if_pos ⟨rfl, rfl, Or.inr ⟨by omega, by omega, h⟩⟩]
  · rw [if_neg h1]
    by_cases h2 : r = T ∧ d' = d ∧ (l = y ∨ (8 ≤ l ∧ l < 8 + i ∧ V T l d = nI y))
    · rw [if_pos h2, if_pos ⟨h2.1, h2.2.1, h2.2.2.elim Or.inl (fun z => Or.inr ⟨z.1, by omega, z.2.2⟩)⟩]
    · rw [if_neg h2, if_neg (fun q => by
        obtain ⟨q1, q2, q3 | q3⟩ := q
        · exact h2 ⟨q1, q2, Or.inl q3⟩
        · by_cases hl : l = 8 + i
          · exact h1 ⟨q1, hl, q2⟩
          · exact h2 ⟨q1, q2, Or.inr ⟨q3.1, by omega, q3.2.2⟩⟩)]
theorem loV_miss {V : VT} {T y d i : Nat} (h : ¬ V T (8 + i) d = nI y) : loV V T y d i = loV V T y d (i + 1) := by
  funext r l d'
  unfold loV
  by_cases h2 : r = T ∧ d' = d ∧ (l = y ∨ (8 ≤ l ∧ l < 8 + i ∧ V T l d = nI y))
  · rw [if_pos h2, if_pos ⟨h2.1, h2.2.1, h2.2.2.elim Or.inl (fun z => Or.inr ⟨z.1, by omega, z.2.2⟩)⟩]
  · rw [if_neg h2, if_neg (fun q => by
      obtain ⟨q1, q2, q3 | q3⟩ := q
      · exact h2 ⟨q1, q2, Or.inl q3⟩
      · by_cases hl : l = 8 + i
        · rw [hl] at q3
          exact h q3.2.2
        · exact h2 ⟨q1, q2, Or.inr ⟨q3.1, by omega, q3.2.2⟩⟩)]
set_option maxRecDepth 100000 in
theorem x_loseRefs {l : Launch} {Z : ZT} {X : XT} {k kp dr : Nat → Int32} {T : Nat} (ok : okX kp T) (y9 d : Nat) {x z : Int32} (hy9 : y9 < 8) (hd : d < 60) (hx : x = nI y9) (hz : z = nI d) : mA l Z.1 (ty3 Z) yX0_loseWithReferences cX0_loseWithReferences 5 (some .int) (rmk 3 90 0 0) (wX Z X k kp dr (nI T)) [.ref X.1, .int x, .int z] (fun v u => v = some (.int (nI (loN (vX k kp T) T y9 d))) ∧ ∃ k', u = wX Z X k' kp dr (nI T) ∧ vX k' kp T = loV (vX k kp T) T y9 d 8) := by
  refine mA_intro (own := RX0) [(0, .ref X.1), (1, .int x), (2, .int z)] (by decide +kernel) rfl rfl rfl rfl ?_
  intro p e s m args below meth c A K hr hin
  subst hx hz
  refine gg_aload_n K (i := 0) dX0_loseWithReferences_0 rfl rfl ?_
  refine gg_iconst K (v := 0) dX0_loseWithReferences_1 (by decide) ?_
  refine gg_iload_n K (i := 1) dX0_loseWithReferences_2 rfl rfl ?_
  refine gg_callSR K k_X0_X0_line (x_line 0 y9 rfl rfl) dX0_loseWithReferences_3 rfl rfl rfl rfl ⟨rfl, rfl⟩ ?_
  refine gg_iload_n K (i := 2) dX0_loseWithReferences_6 rfl rfl ?_
  refine gg_callUX K k_X0_X0_lose (x_lose y9 d ok rfl (by omega) hd (congrArg nI (by omega)) rfl) dX0_loseWithReferences_7 rfl rfl rfl rfl ⟨rfl, rfl⟩ (fun v9 u h => ?_)
  obtain ⟨rfl, k', rfl, hk⟩ := h
  rw [loV_0] at hk
  refine gg_top (y := nI ((if vX k kp T T y9 d = -1 then 0 else 1) + fb_ct (fun i => bP (vX k kp T T (8 + i) d = nI y9)) 0)) ?_ ?_
  · by_cases hm : vX k kp T T y9 d = -1
    · rw [bP_f (fun z => z hm), if_pos hm]; rfl
    · rw [bP_t hm, if_neg hm]; rfl
  refine gg_istore_n K (i := 3) dX0_loseWithReferences_10 rfl (by decide) ?_
  refine gg_iconst K (v := 0) dX0_loseWithReferences_11 (by decide) ?_
  refine gg_istore K dX0_loseWithReferences_12 (by decide) ?_
  refine gg_sub (L' := [(4, .int (nI 0)), (3, .int (nI ((if vX k kp T T y9 d = -1 then 0 else 1) + fb_ct (fun i => bP (vX k kp T T (8 + i) d = nI y9)) 0))), (0, .ref X.1), (1, .int (nI y9)), (2, .int (nI d))]) ⟨rfl, rfl, rfl, rfl, rfl, trivial⟩ ?_
  refine gg_loop (fun i w L => ∃ (j : Nat) (k' : Nat → Int32), j + i = 9 ∧ w = wX Z X k' kp dr (nI T) ∧ j ≤ 8 ∧ L = [(4, .int (nI j)), (3, .int (nI ((if vX k kp T T y9 d = -1 then 0 else 1) + fb_ct (fun i => bP (vX k kp T T (8 + i) d = nI y9)) j))), (0, .ref X.1), (1, .int (nI y9)), (2, .int (nI d))] ∧ vX k' kp T = loV (vX k kp T) T y9 d j) (fun w L h => ?_) (fun i w L h ih => ?_) 9 _ _ ⟨0, k', rfl, rfl, by omega, rfl, hk⟩
  · obtain ⟨j, k', hj, -, h2, -⟩ := h
    omega
  · obtain ⟨j, k', hj, rfl, -, rfl, hk⟩ := h
    refine gg_iload K dX0_loseWithReferences_14 rfl ?_
    refine gg_bipush K (v := 8) dX0_loseWithReferences_16 (by decide) ?_
    refine gg_icmp_ge K (tgt := 60) dX0_loseWithReferences_18 (by decide) (fun h18 => ?_) (fun h18 => ?_)
    · have hj2 := i_le (a := 8) h18
      have hj3 : j = 8 := by omega
      subst hj3
      refine gg_iload_n K (i := 3) dX0_loseWithReferences_60 rfl rfl ?_
      exact gg_iret K hr dX0_loseWithReferences_61 (Nat.le_of_ble_eq_true rfl) (Nat.le_of_ble_eq_true rfl) ⟨rfl, k', rfl, hk⟩
    have hj2 := i_nle (a := 8) h18
    refine gg_aload_n K (i := 0) dX0_loseWithReferences_21 rfl rfl ?_
    refine gg_aload_n K (i := 0) dX0_loseWithReferences_22 rfl rfl ?_
    refine gX_today K dX0_loseWithReferences_23 ?_
    refine gg_iconst K (v := 1) dX0_loseWithReferences_26 (by decide) ?_
    refine gg_iload K dX0_loseWithReferences_27 rfl ?_
    refine gg_callSR K k_X0_X0_line (x_line 1 j rfl rfl) dX0_loseWithReferences_29 rfl rfl rfl rfl ⟨rfl, rfl⟩ ?_
    refine gg_iload_n K (i := 2) dX0_loseWithReferences_32 rfl rfl ?_
    refine gg_callRX K k_X0_X0_knownOn (x_knownOn T (8 + j) d ok (Nat.le_refl T) (by omega) hd rfl (congrArg nI (by omega)) rfl) dX0_loseWithReferences_33 rfl rfl rfl rfl ⟨rfl, rfl⟩ ?_
    have hat : vX k' kp T T (8 + j) d = vX k kp T T (8 + j) d := by rw [hk]; exact loV_at hy9
    refine gg_iload_n K (i := 1) dX0_loseWithReferences_36 rfl rfl ?_
    refine gg_icmp_ne K (tgt := 54) dX0_loseWithReferences_37 (by decide) (fun h37 => ?_) (fun h37 => ?_)
    · rw [hat] at h37
      refine gg_iinc K (v := nI (j + 1)) dX0_loseWithReferences_54 rfl (nI_inc (j)) (by decide) ?_
      refine gg_goto K (tgt := 14) dX0_loseWithReferences_57 (by decide) ?_
      refine gg_sub (L' := [(4, .int (nI (j + 1))), (3, .int (nI ((if vX k kp T T y9 d = -1 then 0 else 1) + fb_ct (fun i => bP (vX k kp T T (8 + i) d = nI y9)) j))), (0, .ref X.1), (1, .int (nI y9)), (2, .int (nI d))]) ⟨rfl, rfl, rfl, rfl, rfl, trivial⟩ ?_
      exact ih _ _ ⟨j + 1, k', by omega, rfl, by omega, by rw [fb_ct_succ, bP_f h37]; rfl, by rw [hk]; exact loV_miss h37⟩
    · rw [hat] at h37
      refine gg_iload_n K (i := 3) dX0_loseWithReferences_40 rfl rfl ?_
      refine gg_aload_n K (i := 0) dX0_loseWithReferences_41 rfl rfl ?_
      refine gg_iconst K (v := 1) dX0_loseWithReferences_42 (by decide) ?_
      refine gg_iload K dX0_loseWithReferences_43 rfl ?_
      refine gg_callSR K k_X0_X0_line (x_line 1 j rfl rfl) dX0_loseWithReferences_45 rfl rfl rfl rfl ⟨rfl, rfl⟩ ?_
      refine gg_iload_n K (i := 2) dX0_loseWithReferences_48 rfl rfl ?_
      refine gg_callUX K k_X0_X0_lose (x_lose (8 + j) d ok rfl (by omega) hd (congrArg nI (by omega)) rfl) dX0_loseWithReferences_49 rfl rfl rfl rfl ⟨rfl, rfl⟩ (fun v9 u h => ?_)
      obtain ⟨rfl, k2, rfl, hk2⟩ := h
      rw [hk, loV_hit h37] at hk2
      refine gg_top (y := nI 1) (bI_t (bP_t (by rw [hat, h37]; exact nI_m1 (by omega)))) ?_
      refine gg_iadd K dX0_loseWithReferences_52 ?_
      refine gg_top (nI_add _ _) ?_
      refine gg_istore_n K (i := 3) dX0_loseWithReferences_53 rfl (by decide) ?_
      refine gg_iinc K (v := nI (j + 1)) dX0_loseWithReferences_54 rfl (nI_inc (j)) (by decide) ?_
      refine gg_goto K (tgt := 14) dX0_loseWithReferences_57 (by decide) ?_
      refine gg_sub (L' := [(4, .int (nI (j + 1))), (3, .int (nI ((if vX k kp T T y9 d = -1 then 0 else 1) + fb_ct (fun i => bP (vX k kp T T (8 + i) d = nI y9)) j + 1))), (0, .ref X.1), (1, .int (nI y9)), (2, .int (nI d))]) ⟨rfl, rfl, rfl, rfl, rfl, trivial⟩ ?_
      exact ih _ _ ⟨j + 1, k2, by omega, rfl, by omega, by rw [fb_ct_succ, bP_t h37]; rfl, hk2⟩
theorem eraV_0 (V : VT) (T y a : Nat) : eraV V T y a a = V := by
  funext r l d
  exact if_neg (by omega)
theorem eraV_at {V : VT} {T y a b : Nat} (l d : Nat) (h : b ≤ d) : eraV V T y a b T l d = V T l d := if_neg (by omega)
theorem loN_eraV {V : VT} {T y a b : Nat} : loN (eraV V T y a b) T y b = loN V T y b := by
  unfold loN
  rw [eraV_at y b (Nat.le_refl b)]
  congr 1
  exact fb_ct_cong (fun i _ => by rw [eraV_at (8 + i) b (Nat.le_refl b)])
theorem eraV_step {V : VT} {T y a b : Nat} (hab : a ≤ b) (h16 : ∀ l, 16 ≤ l → V T l b = -1) (hy : y < 8) : loV (eraV V T y a b) T y b 8 = eraV V T y a (b + 1) := by
  funext r l d
  have e : eraV V T y a b T l b = V T l b := eraV_at l b (Nat.le_refl b)
  unfold loV
  rw [e]
  by_cases h1 : r = T ∧ d = b ∧ (l = y ∨ (8 ≤ l ∧ l < 8 + 8 ∧ V T l b = nI y))
  · rw [if_pos h1]
    obtain ⟨rfl, rfl, h1⟩ := h1
    exact (if_pos ⟨rfl, hab, by omega, h1.elim Or.inl (fun z => Or.inr ⟨z.1, z.2.2⟩)⟩).symm
  · rw [if_neg h1]
    unfold eraV
    by_cases h2 : r = T ∧ a ≤ d ∧ d < b ∧ (l = y ∨ (8 ≤ l ∧ V T l d = nI y))
    · rw [if_pos h2, if_pos ⟨h2.1, h2.2.1, by omega, h2.2.2.2⟩]
    · rw [if_neg h2, if_neg (fun q => by
        obtain ⟨q1, q2, q3, q4⟩ := q
        by_cases hd : d = b
        · rw [hd] at q4
          refine h1 ⟨q1, hd, q4.elim Or.inl (fun z => Or.inr ⟨z.1, ?_, z.2⟩)⟩
          by_cases hl : l < 16
          · exact hl
          · have := z.2
            rw [h16 l (by omega)] at this
            exact absurd this.symm (nI_m1 (by omega))
        · exact h2 ⟨q1, q2, by omega, q4⟩)]
def sEra (V : VT) (T : Nat) (P1 : Prop) (y a b : Nat) : ST := fun c r V' T' => T' = T ∧ ((¬ P1 ∧ c = 1 ∧ V' = V) ∨ (P1 ∧ c = 0 ∧ r = nI (fb_sm (fun i => loN V T y (a + i)) (b - a)) ∧ V' = eraV V T y a b))
theorem vX_16 {k kp : Nat → Int32} {T r l d : Nat} (h : 16 ≤ l) : vX k kp T r l d = -1 := if_neg (by omega)
set_option maxRecDepth 100000 in
theorem x_eraseAll {l : Launch} {Z : ZT} {X : XT} {k kp dr : Nat → Int32} {T : Nat} (hl0 : l.stackTraces = false) (ok : okX kp T) {y f q : Int32} : mX l Z.1 (ty3 Z) yX0_eraseAll (.code yX0_eraseAll cX0_eraseAll 6 (some .int)) (rmk 9 200 8 48) (wX Z X k kp dr (nI T)) [.ref X.1, .int y, .int f, .int q] (xPost Z X ((sEra (vX k kp T) T (inR y 8 ∧ spanR f q) (nN y) (nN f) (nN q)))) (xErr Z X ((sEra (vX k kp T) T (inR y 8 ∧ spanR f q) (nN y) (nN f) (nN q))) cA1) := by
  refine mX_intro (own := RX0) [(0, .ref X.1), (1, .int y), (2, .int f), (3, .int q)] (by decide +kernel) rfl rfl rfl rfl ?_
  intro p e s m args below meth c A K hr T9 htab
  refine gg_iload_n K (i := 1) dX0_eraseAll_0 rfl rfl ?_
  refine gg_bipush K (v := 8) dX0_eraseAll_1 (by decide) ?_
  refine gg_callTS 1 6 K T9 k_X0_X0_needRange (x_needRange hl0) dX0_eraseAll_3 rfl rfl rfl rfl ⟨rfl, rfl⟩ (fun E u h => ?_) (fun v u h => ?_)
  · obtain ⟨rfl, rfl, h⟩ := h
    exact gx_out K htab (Nat.le_of_ble_eq_true rfl) (Nat.le_of_ble_eq_true rfl) (⟨1, k, kp, dr, T, by decide, rfl, ok, rfl, Or.inl ⟨fun z => h z.1, rfl, rfl⟩⟩)
  obtain ⟨rfl, rfl, h1⟩ := h
  refine gg_iload_n K (i := 2) dX0_eraseAll_6 rfl rfl ?_
  refine gg_iload_n K (i := 3) dX0_eraseAll_7 rfl rfl ?_
  refine gg_callTS 3 18 K T9 k_X0_X0_needSpan (x_needSpan hl0) dX0_eraseAll_8 rfl rfl rfl rfl ⟨rfl, rfl⟩ (fun E u h => ?_) (fun v u h => ?_)
  · obtain ⟨rfl, rfl, h⟩ := h
    exact gx_out K htab (Nat.le_of_ble_eq_true rfl) (Nat.le_of_ble_eq_true rfl) (⟨1, k, kp, dr, T, by decide, rfl, ok, rfl, Or.inl ⟨fun z => h z.2, rfl, rfl⟩⟩)
  obtain ⟨rfl, rfl, h3⟩ := h
  have ⟨b1, b2⟩ := inR_N (b := 8) h1
  have ⟨f1, f2, f3, f4, f5⟩ := spanR_N h3
  refine gg_iconst K (v := 0) dX0_eraseAll_11 (by decide) ?_
  refine gg_istore K dX0_eraseAll_12 (by decide) ?_
  refine gg_iload_n K (i := 2) dX0_eraseAll_14 rfl rfl ?_
  refine gg_istore K dX0_eraseAll_15 (by decide) ?_
  refine gg_sub (L' := [(5, .int (nI (nN f + 0))), (4, .int (nI ((fb_sm (fun i => loN (vX k kp T) T (nN y) (nN f + i)) (0))))), (0, .ref X.1), (1, .int y), (2, .int f), (3, .int q)]) ⟨by rw [← show f = nI (nN f + 0) from f2]; rfl, rfl, rfl, rfl, rfl, rfl, trivial⟩ ?_
  refine gg_loop (fun i w L => ∃ (j : Nat) (k' : Nat → Int32), j + i = nN q - nN f + 1 ∧ w = wX Z X k' kp dr (nI T) ∧ j ≤ nN q - nN f ∧ L = [(5, .int (nI (nN f + j))), (4, .int (nI ((fb_sm (fun i => loN (vX k kp T) T (nN y) (nN f + i)) (j))))), (0, .ref X.1), (1, .int y), (2, .int f), (3, .int q)] ∧ vX k' kp T = eraV (vX k kp T) T (nN y) (nN f) (nN f + j)) (fun w L h => ?_) (fun i w L h ih => ?_) (nN q - nN f + 1) _ _ ⟨0, k, by omega, rfl, by omega, rfl, (eraV_0 _ _ _ _).symm⟩
  · obtain ⟨j, k', hj, -, h2, -⟩ := h
    omega
  · obtain ⟨j, k', hj, rfl, hj1, rfl, hk⟩ := h
    refine gg_iload K dX0_eraseAll_17 rfl ?_
    refine gg_iload_n K (i := 3) dX0_eraseAll_19 rfl rfl ?_
    refine gg_icmp_ge K (tgt := 41) dX0_eraseAll_20 (by decide) (fun h20 => ?_) (fun h20 => ?_)
    · rw [f5] at h20
      have hj2 := i_le h20
      have hj3 : j = nN q - nN f := by omega
      subst hj3
      rw [show nN f + (nN q - nN f) = nN q by omega] at hk
      refine gg_iload K dX0_eraseAll_41 rfl ?_
      exact gg_x (gg_iret K hr dX0_eraseAll_43 (Nat.le_of_ble_eq_true rfl) (Nat.le_of_ble_eq_true rfl) ⟨_, k', kp, dr, T, rfl, rfl, ok, rfl, Or.inr ⟨⟨h1, h3⟩, rfl, rfl, hk⟩⟩)
    rw [f5] at h20
    have hj2 := i_nle h20
    refine gg_iload K dX0_eraseAll_23 rfl ?_
    refine gg_aload_n K (i := 0) dX0_eraseAll_25 rfl rfl ?_
    refine gg_iload_n K (i := 1) dX0_eraseAll_26 rfl rfl ?_
    refine gg_iload K dX0_eraseAll_27 rfl ?_
    refine gg_callUX K k_X0_X0_loseWithReferences (x_loseRefs ok (nN y) (nN f + j) b1 (by omega) b2 rfl) dX0_eraseAll_29 rfl rfl rfl rfl ⟨rfl, rfl⟩ (fun v9 u h => ?_)
    obtain ⟨rfl, k2, rfl, hk2⟩ := h
    rw [hk, eraV_step (by omega) (fun l hl => vX_16 hl) b1] at hk2
    refine gg_iadd K dX0_eraseAll_32 ?_
    refine gg_top (y := nI (fb_sm (fun i => loN (vX k kp T) T (nN y) (nN f + i)) ((j + 1)))) (by rw [hk, loN_eraV]; exact nI_add _ _) ?_
    refine gg_istore K dX0_eraseAll_33 (by decide) ?_
    refine gg_iinc K (v := nI (nN f + j + 1)) dX0_eraseAll_35 rfl (nI_inc (nN f + j)) (by decide) ?_
    refine gg_goto K (tgt := 17) dX0_eraseAll_38 (by decide) ?_
    refine gg_sub (L' := [(5, .int (nI (nN f + (j + 1)))), (4, .int (nI ((fb_sm (fun i => loN (vX k kp T) T (nN y) (nN f + i)) ((j + 1)))))), (0, .ref X.1), (1, .int y), (2, .int f), (3, .int q)]) ⟨rfl, rfl, rfl, rfl, rfl, rfl, trivial⟩ ?_
    exact ih _ _ ⟨j + 1, k2, by omega, rfl, by omega, rfl, hk2⟩
end
section
/-! floats that are no NaN; Twotimes: days that pass, the average -/
theorem settle_num (f : FP.Core.Fmt) (s : Bool) (c : Nat) (q : Int) : FP.Core.settle f s c q ≠ .nan := by
  unfold FP.Core.settle FP.Core.bound
  split <;> split <;> (intro h; cases h)
theorem ratio_num (f : FP.Core.Fmt) (s : Bool) (a b : Nat) (e : Int) : FP.Core.roundRatio f s a b e ≠ .nan := by
  unfold FP.Core.roundRatio FP.Core.roundAt
  split
  · intro h; cases h
  · exact settle_num _ _ _ _
theorem whole_fin {i : Int} {d : FP.Core.Datum} (h : FP.Core.Whole i d) : ∃ s c q, d = .fin s c q := by
  cases d with
  | nan => exact h.elim
  | inf s => exact h.elim
  | fin s c q => exact ⟨s, c, q, rfl⟩
theorem fdiv_num {a b : Int32} (ha : a.toInt.natAbs ≤ 2 ^ 24) (hb : b.toInt.natAbs ≤ 2 ^ 24) (h0 : b.toInt ≠ 0) : FP.Core.val32 (FP.fdiv (FP.i2f a) (FP.i2f b)) ≠ .nan := by
  have h1 := FP.Core.i2f_int ha
  have h2 := FP.Core.i2f_int hb
  show FP.Core.val32 (FP.Core.fdiv (FP.Core.i2f a) (FP.Core.i2f b)) ≠ .nan
  rw [FP.Core.val32_fdiv]
  unfold FP.Core.FInt at h1 h2
  obtain ⟨s1, c1, q1, e1⟩ := whole_fin h1
  obtain ⟨s2, c2, q2, e2⟩ := whole_fin h2
  rw [e1] at h1 ⊢
  rw [e2] at h2 ⊢
  have hd : ¬ c2 = 0 := fun z => h0 ((FP.Core.whole_zero h2).mp z)
  show (if c2 = 0 then (if c1 = 0 then FP.Core.Datum.nan else .inf (s1 != s2)) else FP.Core.roundRatio FP.Core.b32 (s1 != s2) c1 c2 (q1 - q2)) ≠ .nan
  rw [if_neg hd]
  exact ratio_num _ _ _ _ _
theorem vf_n32_of {a : UInt32} (h : FP.Core.val32 a ≠ .nan) : vf_n32 a := by
  unfold vf_n32
  rw [UInt32.le_iff_toNat_le]
  have e : (a &&& 0x7fffffff).toNat = a.toNat % 2 ^ 31 := by
    rw [UInt32.toNat_and]
    exact Nat.and_two_pow_sub_one_eq_mod _ 31
  rw [e]
  show a.toNat % 2 ^ 31 ≤ 255 * 2 ^ 23
  refine Nat.not_lt.mp (fun q => h ?_)
  have ht : FP.Core.b32.tails = 2 ^ 23 := rfl
  have he : FP.Core.b32.exps = 2 ^ 8 := rfl
  have h1 : FP.Core.fieldE FP.Core.b32 a.toNat = FP.Core.b32.exps - 1 := by
    unfold FP.Core.fieldE
    rw [ht, he]
    omega
  have h2 : ¬ FP.Core.fieldT FP.Core.b32 a.toNat = 0 := by
    unfold FP.Core.fieldT
    rw [ht]
    omega
  unfold FP.Core.val32 FP.Core.decode
  rw [if_pos h1, if_neg h2]
theorem vf_n64_of {a : UInt64} (h : FP.Core.val64 a ≠ .nan) : vf_n64 a := by
  unfold vf_n64
  rw [UInt64.le_iff_toNat_le]
  have e : (a &&& 0x7fffffffffffffff).toNat = a.toNat % 2 ^ 63 := by
    rw [UInt64.toNat_and]
    exact Nat.and_two_pow_sub_one_eq_mod _ 63
  rw [e]
  show a.toNat % 2 ^ 63 ≤ 2047 * 2 ^ 52
  refine Nat.not_lt.mp (fun q => h ?_)
  have ht : FP.Core.b64.tails = 2 ^ 52 := rfl
  have he : FP.Core.b64.exps = 2 ^ 11 := rfl
  have h1 : FP.Core.fieldE FP.Core.b64 a.toNat = FP.Core.b64.exps - 1 := by
    unfold FP.Core.fieldE
    rw [ht, he]
    omega
  have h2 : ¬ FP.Core.fieldT FP.Core.b64 a.toNat = 0 := by
    unfold FP.Core.fieldT
    rw [ht]
    omega
  unfold FP.Core.val64 FP.Core.decode
  rw [if_pos h1, if_neg h2]
theorem f2d_num {a : UInt32} (h : FP.Core.val32 a ≠ .nan) : FP.Core.val64 (FP.f2d a) ≠ .nan := by
  have e : FP.f2d a = FP.Core.f2d a := if_neg (fun z => h ((FP.Core.fIsNaN_iff a).mp z))
  rw [e, FP.Core.val64_f2d]
  cases hd : FP.Core.val32 a with
  | nan => exact absurd hd h
  | inf s => intro q; cases q
  | fin s c q => exact ratio_num _ _ _ _ _
/-- the sum of the values, and how many there are -/
def smV (f : Nat → Int32) : Nat → Int32
  | 0 => 0
  | n + 1 => if f n = -1 then smV f n else smV f n + f n
noncomputable def ctV (f : Nat → Int32) (n : Nat) : Nat := fb_ct (fun d => bP (¬ f d = -1)) n
theorem smV_le {f : Nat → Int32} : ∀ {n : Nat}, (∀ d, d < n → f d = -1 ∨ ∃ j, f d = nI j ∧ j < 100) → n ≤ 60 → ∃ z, smV f n = nI z ∧ z ≤ 100 * n
  | 0, _, _ => ⟨0, rfl, by omega⟩
  | n + 1, h, hn => by
    obtain ⟨z, h1, h2⟩ := smV_le (f := f) (n := n) (fun d hd => h d (by omega)) (by omega)
    unfold smV
    by_cases hm : f n = -1
    · rw [if_pos hm]
      exact ⟨z, h1, by omega⟩
    · obtain ⟨j, g1, g2⟩ := (h n (by omega)).resolve_left hm
      rw [if_neg hm, h1, g1, nI_add]
      exact ⟨z + j, rfl, by omega⟩
def avF (f : Nat → Int32) (n : Nat) : UInt32 := FP.fdiv (FP.i2f (smV f 60)) (FP.i2f (nI n))
theorem avF_num {f : Nat → Int32} (h : ∀ d, d < 60 → f d = -1 ∨ ∃ j, f d = nI j ∧ j < 100) {n : Nat} (h0 : 0 < n) (hn : n ≤ 60) : FP.Core.val32 (avF f n) ≠ .nan := by
  obtain ⟨z, h1, h2⟩ := smV_le h (Nat.le_refl 60)
  unfold avF
  rw [h1]
  refine fdiv_num ?_ ?_ ?_
  · rw [nI_toInt (by omega)]; omega
  · rw [nI_toInt (by omega)]; omega
  · rw [nI_toInt (by omega)]; omega
/-- what a call may answer, a float -/
abbrev STf : Type := Int32 → UInt32 → VT → Nat → Prop
noncomputable def aS (V : VT) (T : Nat) (P1 P2 : Prop) (f : Nat → Int32) : STf := fun c r V' T' => V' = V ∧ T' = T ∧ ((¬ P1 ∧ c = 1) ∨ (P1 ∧ ¬ P2 ∧ c = 2) ∨ (P1 ∧ P2 ∧ ctV f 60 = 0 ∧ c = 3) ∨ (P1 ∧ P2 ∧ ¬ ctV f 60 = 0 ∧ c = 0 ∧ r = avF f (ctV f 60)))
def xPostF (Z : ZT) (X : XT) (S : STf) : Option Value → va_W → Prop := fun ret u => ∃ (r : UInt32) (k' kp' dr' : Nat → Int32) (T' : Nat), ret = some (.float r) ∧ u = wX Z X k' kp' dr' (nI T') ∧ okX kp' T' ∧ S 0 r (vX k' kp' T') T'
def xErrF (Z : ZT) (X : XT) (S : STf) (codes : List (String × Int32)) : String → va_W → Prop := fun E u => ∃ (c : Int32) (k' kp' dr' : Nat → Int32) (T' : Nat), (E, c) ∈ codes ∧ u = wX Z X k' kp' dr' (nI T') ∧ okX kp' T' ∧ S c 0 (vX k' kp' T') T'
set_option maxRecDepth 100000 in
theorem x_average {l : Launch} {Z : ZT} {X : XT} {k kp dr : Nat → Int32} {T : Nat} (hl0 : l.stackTraces = false) (ok : okX kp T) (hv : valOk (vX k kp T) T) {y q : Int32} : mX l Z.1 (ty3 Z) yX0_average (.code yX0_average cX0_average 7 (some .float)) (rmk 9 200 8 48) (wX Z X k kp dr (nI T)) [.ref X.1, .int y, .int q] (xPostF Z X (aS (vX k kp T) T (inR y 8 ∧ inR q 60) (q ≤ nI T) (vX k kp T (nN q) (nN y)))) (xErrF Z X (aS (vX k kp T) T (inR y 8 ∧ inR q 60) (q ≤ nI T) (vX k kp T (nN q) (nN y))) cABS) := by
  refine mX_intro (own := RX0) [(0, .ref X.1), (1, .int y), (2, .int q)] (by decide +kernel) rfl rfl rfl rfl ?_
  intro p e s m args below meth c A K hr T9 htab
  refine gg_iload_n K (i := 1) dX0_average_0 rfl rfl ?_
  refine gg_bipush K (v := 8) dX0_average_1 (by decide) ?_
  refine gg_callTS 1 6 K T9 k_X0_X0_needRange (x_needRange hl0) dX0_average_3 rfl rfl rfl rfl ⟨rfl, rfl⟩ (fun E u h => ?_) (fun v u h => ?_)
  · obtain ⟨rfl, rfl, h⟩ := h
    exact gx_out K htab (Nat.le_of_ble_eq_true rfl) (Nat.le_of_ble_eq_true rfl) (⟨1, k, kp, dr, T, by decide, rfl, ok, rfl, rfl, Or.inl ⟨fun z => h z.1, rfl⟩⟩)
  obtain ⟨rfl, rfl, h1⟩ := h
  refine gg_aload_n K (i := 0) dX0_average_6 rfl rfl ?_
  refine gg_iload_n K (i := 2) dX0_average_7 rfl rfl ?_
  refine gg_callTX 3 18 K T9 k_X0_X0_needRecord (x_needRecord hl0) dX0_average_8 rfl rfl rfl rfl ⟨rfl, rfl⟩ (fun E u h => ?_) (fun v u h => ?_)
  · obtain ⟨rfl, ⟨rfl, h⟩ | ⟨rfl, h, h'⟩⟩ := h
    · exact gx_out K htab (Nat.le_of_ble_eq_true rfl) (Nat.le_of_ble_eq_true rfl) (⟨1, k, kp, dr, T, by decide, rfl, ok, rfl, rfl, Or.inl ⟨fun z => h z.2, rfl⟩⟩)
    · exact gx_out K htab (Nat.le_of_ble_eq_true rfl) (Nat.le_of_ble_eq_true rfl) (⟨2, k, kp, dr, T, by decide, rfl, ok, rfl, rfl, Or.inr (Or.inl ⟨⟨h1, h⟩, h', rfl⟩)⟩)
  obtain ⟨rfl, rfl, h3, h4⟩ := h
  have ⟨b1, b2⟩ := inR_N (b := 8) h1
  have ⟨q1, q2⟩ := inR_N (b := 60) h3
  have hT := leT q2 q1 ok.1 h4
  have hf : ∀ d, d < 60 → (vX k kp T (nN q) (nN y)) d = -1 ∨ ∃ j, (vX k kp T (nN q) (nN y)) d = nI j ∧ j < 100 := fun d hd => (hv (nN q) (nN y) d hT (by omega) hd).elim Or.inl (fun ⟨j, g1, g2, _⟩ => Or.inr ⟨j, g1, g2⟩)
  refine gg_iconst K (v := 0) dX0_average_11 (by decide) ?_
  refine gg_istore_n K (i := 3) dX0_average_12 rfl (by decide) ?_
  refine gg_iconst K (v := 0) dX0_average_13 (by decide) ?_
  refine gg_istore K dX0_average_14 (by decide) ?_
  refine gg_iconst K (v := 0) dX0_average_16 (by decide) ?_
  refine gg_istore K dX0_average_17 (by decide) ?_
  refine gg_sub (L' := [(5, .int (nI 0)), (4, .int (nI (ctV (vX k kp T (nN q) (nN y)) 0))), (3, .int (smV (vX k kp T (nN q) (nN y)) 0)), (0, .ref X.1), (1, .int y), (2, .int q)]) ⟨rfl, rfl, rfl, rfl, rfl, rfl, trivial⟩ ?_
  refine gg_loop (fun i w L => ∃ (j : Nat), j + i = 61 ∧ w = wX Z X k kp dr (nI T) ∧ j ≤ 60 ∧ L = [(5, .int (nI j)), (4, .int (nI (ctV (vX k kp T (nN q) (nN y)) j))), (3, .int (smV (vX k kp T (nN q) (nN y)) j)), (0, .ref X.1), (1, .int y), (2, .int q)]) (fun w L h => ?_) (fun i w L h ih => ?_) 61 _ _ ⟨0, rfl, rfl, by omega, rfl⟩
  · obtain ⟨j, hj, -, h2, -⟩ := h
    omega
  · obtain ⟨j, hj, rfl, -, rfl⟩ := h
    refine gg_iload K dX0_average_19 rfl ?_
    refine gg_bipush K (v := 60) dX0_average_21 (by decide) ?_
    refine gg_icmp_ge K (tgt := 60) dX0_average_23 (by decide) (fun h23 => ?_) (fun h23 => ?_)
    · have hj2 := i_le (a := 60) h23
      have hj3 : j = 60 := by omega
      subst hj3
      have hle := fb_ct_le (fun d => bP (¬ (vX k kp T (nN q) (nN y)) d = -1)) 60
      refine gg_iload K dX0_average_60 rfl ?_
      refine gg_if_ne K (tgt := 75) dX0_average_62 (by decide) (fun h62 => ?_) (fun h62 => ?_)
      · have hn0 : ¬ ctV (vX k kp T (nN q) (nN y)) 60 = 0 := fun z => h62 (by rw [z]; rfl)
        have hnn := avF_num hf (n := ctV (vX k kp T (nN q) (nN y)) 60) (by omega) hle
        refine gg_iload_n K (i := 3) dX0_average_75 rfl rfl ?_
        refine gg_i2f K dX0_average_76 ?_
        refine gg_iload K dX0_average_77 rfl ?_
        refine gg_i2f K dX0_average_79 ?_
        refine gg_fdiv K dX0_average_80 (vf_n32_of hnn) ?_
        exact gg_x (gg_fret K hr dX0_average_81 (Nat.le_of_ble_eq_true rfl) (Nat.le_of_ble_eq_true rfl) ⟨_, k, kp, dr, T, rfl, rfl, ok, rfl, rfl, Or.inr (Or.inr (Or.inr ⟨⟨h1, h3⟩, h4, hn0, rfl, rfl⟩))⟩)
      · have hn0 : ctV (vX k kp T (nN q) (nN y)) 60 = 0 := i_eq (b := 0) h62 (by unfold ctV; omega)
        exact gg_throw_eS K T9 hl0 htab (is := 132) (text := "no values") (by decide) dX0_average_65 dX0_average_68 dX0_average_69 dX0_average_71 dX0_average_74 rfl rfl (Nat.le_of_ble_eq_true rfl) (Nat.le_of_ble_eq_true rfl) ⟨3, k, kp, dr, T, by decide, rfl, ok, rfl, rfl, Or.inr (Or.inr (Or.inl ⟨⟨h1, h3⟩, h4, hn0, rfl⟩))⟩
    have hj2 := i_nle (a := 60) h23
    refine gg_aload_n K (i := 0) dX0_average_26 rfl rfl ?_
    refine gg_iload_n K (i := 2) dX0_average_27 rfl rfl ?_
    refine gg_iconst K (v := 0) dX0_average_28 (by decide) ?_
    refine gg_iload_n K (i := 1) dX0_average_29 rfl rfl ?_
    refine gg_callSR K k_X0_X0_line (x_line 0 (nN y) rfl b2) dX0_average_30 rfl rfl rfl rfl ⟨rfl, rfl⟩ ?_
    refine gg_iload K dX0_average_33 rfl ?_
    refine gg_callRX K k_X0_X0_knownOn (x_knownOn (nN q) (nN y) j ok hT (by omega) hj2 q2 (congrArg nI (by omega)) rfl) dX0_average_35 rfl rfl rfl rfl ⟨rfl, rfl⟩ ?_
    refine gg_istore K dX0_average_38 (by decide) ?_
    refine gg_iload K dX0_average_40 rfl ?_
    refine gg_iconst K (v := (-1)) dX0_average_42 (by decide) ?_
    refine gg_icmp_eq K (tgt := 54) dX0_average_43 (by decide) (fun h43 => ?_) (fun h43 => ?_)
    · refine gg_iinc K (v := nI (j + 1)) dX0_average_54 rfl (nI_inc (j)) (by decide) ?_
      refine gg_goto K (tgt := 19) dX0_average_57 (by decide) ?_
      refine gg_sub (L' := [(5, .int (nI (j + 1))), (4, .int (nI (ctV (vX k kp T (nN q) (nN y)) j))), (3, .int (smV (vX k kp T (nN q) (nN y)) j)), (0, .ref X.1), (1, .int y), (2, .int q)]) ⟨rfl, rfl, rfl, rfl, rfl, rfl, trivial⟩ ?_
      exact ih _ _ ⟨j + 1, by omega, rfl, by omega, by rw [show smV (vX k kp T (nN q) (nN y)) (j + 1) = smV (vX k kp T (nN q) (nN y)) j from if_pos h43, show ctV (vX k kp T (nN q) (nN y)) (j + 1) = ctV (vX k kp T (nN q) (nN y)) j by unfold ctV; rw [fb_ct_succ, bP_f (fun z => z h43)]; rfl]⟩
    · refine gg_iload_n K (i := 3) dX0_average_46 rfl rfl ?_
      refine gg_iload K dX0_average_47 rfl ?_
      refine gg_iadd K dX0_average_49 ?_
      refine gg_istore_n K (i := 3) dX0_average_50 rfl (by decide) ?_
      refine gg_iinc K (v := nI (ctV (vX k kp T (nN q) (nN y)) j + 1)) dX0_average_51 rfl (nI_inc (ctV (vX k kp T (nN q) (nN y)) j)) (by decide) ?_
      refine gg_iinc K (v := nI (j + 1)) dX0_average_54 rfl (nI_inc (j)) (by decide) ?_
      refine gg_goto K (tgt := 19) dX0_average_57 (by decide) ?_
      refine gg_sub (L' := [(5, .int (nI (j + 1))), (4, .int (nI (ctV (vX k kp T (nN q) (nN y)) j + 1))), (3, .int (smV (vX k kp T (nN q) (nN y)) j + (vX k kp T (nN q) (nN y)) j)), (0, .ref X.1), (1, .int y), (2, .int q)]) ⟨rfl, rfl, rfl, rfl, rfl, rfl, trivial⟩ ?_
      exact ih _ _ ⟨j + 1, by omega, rfl, by omega, by rw [show smV (vX k kp T (nN q) (nN y)) (j + 1) = smV (vX k kp T (nN q) (nN y)) j + (vX k kp T (nN q) (nN y)) j from if_neg h43, show ctV (vX k kp T (nN q) (nN y)) (j + 1) = ctV (vX k kp T (nN q) (nN y)) j + 1 by unfold ctV; rw [fb_ct_succ, bP_t h43]; rfl]⟩
/-! days that pass -/
def psV (V : VT) (T n : Nat) : VT := fun r l d => if r ≤ T then V r l d else if r ≤ T + n then V T l d else -1
def sPs (V : VT) (T : Nat) (P1 P2 : Prop) (n : Nat) : ST := fun c r V' T' => (¬ P1 ∧ c = 1 ∧ V' = V ∧ T' = T) ∨ (P1 ∧ ¬ P2 ∧ c = 2 ∧ V' = V ∧ T' = T) ∨ (P1 ∧ P2 ∧ c = 0 ∧ r = nI (T + n) ∧ V' = psV V T n ∧ T' = T + n)
set_option maxRecDepth 100000 in
theorem x_copyDay {l : Launch} {Z : ZT} {X : XT} {k kp dr : Nat → Int32} {td : Int32} (a b : Nat) {x y : Int32} (ha : a < 60) (hb0 : b < 60) (hx : x = nI a) (hy : y = nI b) : mA l Z.1 (ty3 Z) yX0_copyDay cX0_copyDay 3 none (rmk 1 60 0 0) (wX Z X k kp dr td) [.ref X.1, .int x, .int y] (fun v u => v = none ∧ u = wX Z X (va_cpy k k (ix a 0 0) (ix b 0 0) 960) kp dr td) := by
  refine mA_intro (own := RX0) [(0, .ref X.1), (1, .int x), (2, .int y)] (by decide +kernel) rfl rfl rfl rfl ?_
  intro p e s m args below meth c A K hr hin
  subst hx hy
  have g1 : ix a 0 0 + 960 ≤ 57600 := by unfold ix; omega
  have g2 : ix b 0 0 + 960 ≤ 57600 := by unfold ix; omega
  refine gg_iload_n K (i := 1) dX0_copyDay_0 rfl rfl ?_
  refine gg_if_lt K (tgt := 46) dX0_copyDay_1 (by decide) (fun h1 => ?_) (fun h1 => ?_)
  · exact absurd h1 (nI_pos (by omega))
  refine gg_iload_n K (i := 1) dX0_copyDay_4 rfl rfl ?_
  refine gg_bipush K (v := 60) dX0_copyDay_5 (by decide) ?_
  refine gg_icmp_ge K (tgt := 46) dX0_copyDay_7 (by decide) (fun h7 => ?_) (fun h7 => ?_)
  · exact absurd (i_le (a := 60) h7) (by omega)
  refine gg_iload_n K (i := 2) dX0_copyDay_10 rfl rfl ?_
  refine gg_if_lt K (tgt := 46) dX0_copyDay_11 (by decide) (fun h11 => ?_) (fun h11 => ?_)
  · exact absurd h11 (nI_pos (by omega))
  refine gg_iload_n K (i := 2) dX0_copyDay_14 rfl rfl ?_
  refine gg_bipush K (v := 60) dX0_copyDay_15 (by decide) ?_
  refine gg_icmp_ge K (tgt := 46) dX0_copyDay_17 (by decide) (fun h17 => ?_) (fun h17 => ?_)
  · exact absurd (i_le (a := 60) h17) (by omega)
  refine gg_aload_n K (i := 0) dX0_copyDay_20 rfl rfl ?_
  refine gX_known K dX0_copyDay_21 ?_
  refine gg_iload_n K (i := 1) dX0_copyDay_24 rfl rfl ?_
  refine gg_iconst K (v := 0) dX0_copyDay_25 (by decide) ?_
  refine gg_iconst K (v := 0) dX0_copyDay_26 (by decide) ?_
  refine gg_callSR K k_X0_X0_index (x_index a 0 0 rfl rfl rfl) dX0_copyDay_27 rfl rfl rfl rfl ⟨rfl, rfl⟩ ?_
  refine gg_aload_n K (i := 0) dX0_copyDay_30 rfl rfl ?_
  refine gX_known K dX0_copyDay_31 ?_
  refine gg_iload_n K (i := 2) dX0_copyDay_34 rfl rfl ?_
  refine gg_iconst K (v := 0) dX0_copyDay_35 (by decide) ?_
  refine gg_iconst K (v := 0) dX0_copyDay_36 (by decide) ?_
  refine gg_callSR K k_X0_X0_index (x_index b 0 0 rfl rfl rfl) dX0_copyDay_37 rfl rfl rfl rfl ⟨rfl, rfl⟩ ?_
  refine gg_sipush K (v := 960) dX0_copyDay_40 (by decide) ?_
  have e1 : (nI (ix a 0 0)).toNatClampNeg = ix a 0 0 := nI_clamp (by omega)
  have e2 : (nI (ix b 0 0)).toNatClampNeg = ix b 0 0 := nI_clamp (by omega)
  have e3 : (960 : Int32).toNatClampNeg = 960 := by decide
  have main : gg p l e (rmk 1 60 0 0) s m args below meth c Z.1 A 3 0 0 (MQ below (qA Z.1 (ty3 Z) A (fun v u => v = none ∧ u = wX Z X (va_cpy k k (ix a 0 0) (ix b 0 0) 960) kp dr td)) args s (rmk 1 60 0 0).cells (rmk 1 60 0 0).slots A) (wX Z X k kp dr td) 43 [(0, .ref X.1), (1, .int (nI a)), (2, .int (nI b))] [.int 960, .int (nI (ix b 0 0)), .ref X.2.1, .int (nI (ix a 0 0)), .ref X.2.1] := by
    intro H locs ls hP hD hS hl
    refine va_copyi K.1.1 K.1.2.1 (K.1.2.2.1.trans hl.1.symm) K.1.2.2.2.1 (K.1.2.2.2.2 _ wd_206) (K.1.2.2.2.2 _ wd_207) (K.1.2.2.2.2 _ wd_208) (K.1.2.2.2.2 _ wd_209) K.2.1 hP hD hS 1 1 0 0 (c0 := Z.2.1) (c1 := Z.2.1) (n0 := 57600) (n1 := 57600) (f := k) (g := k) (ty := .int) rfl rfl rfl rfl rfl (nI_pos (by omega)) (nI_pos (by omega)) (by decide) (by rw [e1, e3]; exact g1) (by rw [e2, e3]; exact g2) (fun i _ => rfl) (Nat.le_of_ble_eq_true rfl) (Nat.le_of_ble_eq_true (by decide +kernel)) dX0_copyDay_43 (fun H1 locs1 hP hD hS => ?_)
    rw [e1, e2, e3] at hP hD
    exact gg_vret K hr dX0_copyDay_46 (Nat.le_of_ble_eq_true rfl) (Nat.le_of_ble_eq_true rfl) ⟨rfl, rfl⟩ H1 locs1 ls hP hD hS hl
  exact main
theorem ix_lt2 {a b l d : Nat} (h : a < b) (hl : l < 16) (hd : d < 60) : ix a l d < ix b 0 0 := by unfold ix; omega
set_option maxRecDepth 100000 in
theorem x_pass {l : Launch} {Z : ZT} {X : XT} {k kp dr : Nat → Int32} {T : Nat} (hl0 : l.stackTraces = false) (ok : okX kp T) {n9 : Int32} : mX l Z.1 (ty3 Z) yX0_pass (.code yX0_pass cX0_pass 4 (some .int)) (rmk 9 200 8 48) (wX Z X k kp dr (nI T)) [.ref X.1, .int n9] (xPost Z X ((sPs (vX k kp T) T (¬ n9 < 1 ∧ ¬ 60 ≤ n9) (T + nN n9 < 60) (nN n9)))) (xErr Z X ((sPs (vX k kp T) T (¬ n9 < 1 ∧ ¬ 60 ≤ n9) (T + nN n9 < 60) (nN n9))) cAS) := by
  refine mX_intro (own := RX0) [(0, .ref X.1), (1, .int n9)] (by decide +kernel) rfl rfl rfl rfl ?_
  intro p e s m args below meth c A K hr T9 htab
  have hT9 := ok.1
  refine gg_iload_n K (i := 1) dX0_pass_0 rfl rfl ?_
  refine gg_iconst K (v := 1) dX0_pass_1 (by decide) ?_
  refine gg_icmp_lt K (tgt := 11) dX0_pass_2 (by decide) (fun h2 => ?_) (fun h2 => ?_)
  · exact gg_throw_eA K T9 hl0 htab (is := 57) (text := "days") (by decide) dX0_pass_11 dX0_pass_14 dX0_pass_15 dX0_pass_17 dX0_pass_20 rfl rfl (Nat.le_of_ble_eq_true rfl) (Nat.le_of_ble_eq_true rfl) ⟨1, k, kp, dr, T, by decide, rfl, ok, Or.inl ⟨fun z => z.1 h2, rfl, rfl, rfl⟩⟩
  refine gg_iload_n K (i := 1) dX0_pass_5 rfl rfl ?_
  refine gg_bipush K (v := 60) dX0_pass_6 (by decide) ?_
  refine gg_icmp_lt K (tgt := 21) dX0_pass_8 (by decide) (fun h8 => ?_) (fun h8 => ?_)
  rotate_left
  · exact gg_throw_eA K T9 hl0 htab (is := 57) (text := "days") (by decide) dX0_pass_11 dX0_pass_14 dX0_pass_15 dX0_pass_17 dX0_pass_20 rfl rfl (Nat.le_of_ble_eq_true rfl) (Nat.le_of_ble_eq_true rfl) ⟨1, k, kp, dr, T, by decide, rfl, ok, Or.inl ⟨fun z => z.2 (by rw [Int32.le_iff_toInt_le]; rw [Int32.lt_iff_toInt_lt] at h8; omega), rfl, rfl, rfl⟩⟩
  have hP1 : ¬ n9 < 1 ∧ ¬ 60 ≤ n9 := ⟨h2, fun z => by rw [Int32.le_iff_toInt_le] at z; rw [Int32.lt_iff_toInt_lt] at h8; omega⟩
  have hin : inR n9 60 := ⟨fun z => h2 (by
    rw [Int32.lt_iff_toInt_lt] at z ⊢
    have g1 : (0 : Int32).toInt = 0 := by decide
    have g2 : (1 : Int32).toInt = 1 := by decide
    omega), hP1.2⟩
  have ⟨b1, b2⟩ := inR_N (b := 60) hin
  have b3 : 0 < nN n9 := by
    have h2' := h2
    rw [b2] at h2'
    exact i_nlt (b := 1) h2'
  refine gg_aload_n K (i := 0) dX0_pass_21 rfl rfl ?_
  refine gX_today K dX0_pass_22 ?_
  refine gg_iload_n K (i := 1) dX0_pass_25 rfl rfl ?_
  refine gg_iadd K dX0_pass_26 ?_
  refine gg_top (y := nI (T + nN n9)) (by rw [← nI_add, ← b2]) ?_
  refine gg_bipush K (v := 60) dX0_pass_27 (by decide) ?_
  refine gg_icmp_lt K (tgt := 42) dX0_pass_29 (by decide) (fun h29 => ?_) (fun h29 => ?_)
  rotate_left
  · have h9 := i_nlt (b := 60) h29
    exact gg_throw_eS K T9 hl0 htab (is := 68) (text := "the last day") (by decide) dX0_pass_32 dX0_pass_35 dX0_pass_36 dX0_pass_38 dX0_pass_41 rfl rfl (Nat.le_of_ble_eq_true rfl) (Nat.le_of_ble_eq_true rfl) ⟨2, k, kp, dr, T, by decide, rfl, ok, Or.inr (Or.inl ⟨hP1, by omega, rfl, rfl, rfl⟩)⟩
  have h9 := i_lt (b := 60) h29
  refine gg_aload_n K (i := 0) dX0_pass_42 rfl rfl ?_
  refine gX_today K dX0_pass_43 ?_
  refine gg_iload_n K (i := 1) dX0_pass_46 rfl rfl ?_
  refine gg_iadd K dX0_pass_47 ?_
  refine gg_top (y := nI (T + nN n9)) (by rw [← nI_add, ← b2]) ?_
  refine gg_istore_n K (i := 2) dX0_pass_48 rfl (by decide) ?_
  refine gg_aload_n K (i := 0) dX0_pass_49 rfl rfl ?_
  refine gX_today K dX0_pass_50 ?_
  refine gg_iconst K (v := 1) dX0_pass_53 (by decide) ?_
  refine gg_iadd K dX0_pass_54 ?_
  refine gg_top (nI_1 T) ?_
  refine gg_istore_n K (i := 3) dX0_pass_55 rfl (by decide) ?_
  refine gg_sub (L' := [(3, .int (nI (T + 1))), (2, .int (nI (T + nN n9))), (0, .ref X.1), (1, .int n9)]) ⟨rfl, rfl, rfl, rfl, trivial⟩ ?_
  refine gg_loop (fun i w L => ∃ (j : Nat) (kp' : Nat → Int32), j + i = T + nN n9 + 1 ∧ w = wX Z X k kp' dr (nI T) ∧ T < j ∧ j ≤ T + nN n9 ∧ L = [(3, .int (nI j)), (2, .int (nI (T + nN n9))), (0, .ref X.1), (1, .int n9)] ∧ ∀ r, kp' r = if T < r ∧ r < j then nI T else kp r) (fun w L h => ?_) (fun i w L h ih => ?_) (nN n9) _ _ ⟨T + 1, kp, by omega, rfl, by omega, by omega, rfl, fun r => (if_neg (by omega)).symm⟩
  · obtain ⟨j, kp', hj, -, -, h2, -⟩ := h
    omega
  obtain ⟨j, kp', hj, rfl, hj1, hj2, rfl, hkp⟩ := h
  refine gg_iload_n K (i := 3) dX0_pass_56 rfl rfl ?_
  refine gg_iload_n K (i := 2) dX0_pass_57 rfl rfl ?_
  refine gg_icmp_ge K (tgt := 76) dX0_pass_58 (by decide) (fun h58 => ?_) (fun h58 => ?_)
  rotate_left
  · have hj3 := i_nle h58
    refine gg_aload_n K (i := 0) dX0_pass_61 rfl rfl ?_
    refine gg_iload_n K (i := 3) dX0_pass_62 rfl rfl ?_
    refine gg_aload_n K (i := 0) dX0_pass_63 rfl rfl ?_
    refine gX_today K dX0_pass_64 ?_
    refine gg_callUX K k_X0_X0_keepOn (x_keepOn j (by omega) rfl) dX0_pass_67 rfl rfl rfl rfl ⟨rfl, rfl⟩ (fun v9 u h => ?_)
    obtain ⟨rfl, rfl⟩ := h
    refine gg_iinc K (v := nI (j + 1)) dX0_pass_70 rfl (nI_inc (j)) (by decide) ?_
    refine gg_goto K (tgt := 56) dX0_pass_73 (by decide) ?_
    refine gg_sub (L' := [(3, .int (nI (j + 1))), (2, .int (nI (T + nN n9))), (0, .ref X.1), (1, .int n9)]) ⟨rfl, rfl, rfl, rfl, trivial⟩ ?_
    refine ih _ _ ⟨j + 1, _, by omega, rfl, by omega, by omega, rfl, fun r => ?_⟩
    unfold upd
    by_cases hrj : r = j
    · rw [if_pos hrj, if_pos (by omega)]
    · rw [if_neg hrj, hkp r]
      by_cases hc : T < r ∧ r < j
      · rw [if_pos hc, if_pos (by omega)]
      · rw [if_neg hc, if_neg (by omega)]
  have hj3 := i_le h58
  have hj4 : j = T + nN n9 := by omega
  subst hj4
  refine gg_aload_n K (i := 0) dX0_pass_76 rfl rfl ?_
  refine gg_iload_n K (i := 2) dX0_pass_77 rfl rfl ?_
  refine gg_iload_n K (i := 2) dX0_pass_78 rfl rfl ?_
  refine gg_callUX K k_X0_X0_keepOn (x_keepOn (T + nN n9) (by omega) rfl) dX0_pass_79 rfl rfl rfl rfl ⟨rfl, rfl⟩ (fun v9 u h => ?_)
  obtain ⟨rfl, rfl⟩ := h
  refine gg_aload_n K (i := 0) dX0_pass_82 rfl rfl ?_
  refine gg_aload_n K (i := 0) dX0_pass_83 rfl rfl ?_
  refine gX_today K dX0_pass_84 ?_
  refine gg_iload_n K (i := 2) dX0_pass_87 rfl rfl ?_
  refine gg_callUX K k_X0_X0_copyDay (x_copyDay T (T + nN n9) (by omega) (by omega) rfl rfl) dX0_pass_88 rfl rfl rfl rfl ⟨rfl, rfl⟩ (fun v9 u h => ?_)
  obtain ⟨rfl, rfl⟩ := h
  refine gg_aload_n K (i := 0) dX0_pass_91 rfl rfl ?_
  refine gg_iload_n K (i := 2) dX0_pass_92 rfl rfl ?_
  refine gX_ptoday K dX0_pass_93 ?_
  refine gg_aload_n K (i := 0) dX0_pass_96 rfl rfl ?_
  refine gX_today K dX0_pass_97 ?_
  obtain ⟨n8, hn8⟩ : ∃ z, z = nN n9 := ⟨_, rfl⟩
  rw [← hn8] at hkp h9 b3 ⊢
  have hq : ∀ r, upd kp' (T + n8) (nI (T + n8)) r = if r = T + n8 then nI (T + n8) else if T < r ∧ r < T + n8 then nI T else kp r := fun r => by
    unfold upd
    by_cases hr1 : r = T + n8
    · rw [if_pos hr1, if_pos hr1]
    · rw [if_neg hr1, if_neg hr1, hkp r]
  have ok' : okX (upd kp' (T + n8) (nI (T + n8))) (T + n8) := by
    obtain ⟨o1, o2, o3, o4⟩ := ok
    refine ⟨h9, by rw [hq, if_pos rfl], by rw [hq, if_neg (by omega), if_neg (by omega)]; exact o3, fun r hr1 => ?_⟩
    by_cases g1 : r ≤ T
    · have e : upd kp' (T + n8) (nI (T + n8)) r = kp r := by rw [hq, if_neg (by omega), if_neg (by omega)]
      have e2 : upd kp' (T + n8) (nI (T + n8)) (r - 1) = kp (r - 1) := by rw [hq, if_neg (by omega), if_neg (by omega)]
      have := o4 r g1
      unfold kq at this ⊢
      rw [e, e2]
      exact this
    · by_cases g2 : r = T + n8
      · have e : upd kp' (T + n8) (nI (T + n8)) r = nI r := by rw [hq, if_pos g2, g2]
        have e3 := kq_nI e (by omega)
        rw [e3]
        exact ⟨⟨e, by omega⟩, Or.inl e⟩
      · have e : upd kp' (T + n8) (nI (T + n8)) r = nI T := by rw [hq, if_neg g2, if_pos (by omega)]
        have e3 := kq_nI e (by omega)
        rw [e3]
        refine ⟨⟨e, by omega⟩, Or.inr ⟨by omega, ?_⟩⟩
        rw [e, hq, if_neg (by omega)]
        by_cases g3 : T < r - 1
        · rw [if_pos (by omega)]
        · rw [if_neg (by omega), show r - 1 = T by omega]; exact o2.symm
  have hv : vX (va_cpy k k (ix T 0 0) (ix (T + n8) 0 0) 960) (upd kp' (T + n8) (nI (T + n8))) (T + n8) = psV (vX k kp T) T n8 := by
    obtain ⟨o1, o2, o3, o4⟩ := ok
    funext r l9 d
    unfold psV vX
    by_cases hc : l9 < 16 ∧ d < 60
    · by_cases g1 : r ≤ T
      · have e : kq (upd kp' (T + n8) (nI (T + n8))) r = kq kp r := by unfold kq; rw [hq, if_neg (by omega), if_neg (by omega)]
        have g4 := (o4 r g1).1.2
        rw [if_pos ⟨by omega, hc.1, hc.2⟩, if_pos g1, if_pos ⟨g1, hc.1, hc.2⟩, e]
        exact pk_cpy_out (Or.inl (ix_lt2 (by omega) hc.1 hc.2))
      · rw [if_neg g1]
        by_cases g5 : r ≤ T + n8
        · rw [if_pos g5, if_pos ⟨g5, hc.1, hc.2⟩, if_pos ⟨Nat.le_refl T, hc.1, hc.2⟩, kq_nI o2 o1]
          by_cases g2 : r = T + n8
          · have e : kq (upd kp' (T + n8) (nI (T + n8))) r = T + n8 := kq_nI (by rw [hq, if_pos g2]) h9
            rw [e, pk_cpy_in (by unfold ix; omega) (by unfold ix; omega)]
            exact congrArg k (by unfold ix; omega)
          · have e : kq (upd kp' (T + n8) (nI (T + n8))) r = T := kq_nI (by rw [hq, if_neg g2, if_pos (by omega)]) (by omega)
            rw [e]
            exact pk_cpy_out (Or.inl (ix_lt2 (by omega) hc.1 hc.2))
        · rw [if_neg g5, if_neg (by omega)]
    · rw [if_neg (by omega)]
      by_cases g1 : r ≤ T
      · rw [if_pos g1, if_neg (by omega)]
      · rw [if_neg g1]
        by_cases g5 : r ≤ T + n8
        · rw [if_pos g5, if_neg (by omega)]
        · rw [if_neg g5]
  exact gg_x (gg_iret K hr dX0_pass_100 (Nat.le_of_ble_eq_true rfl) (Nat.le_of_ble_eq_true rfl) ⟨_, _, _, dr, T + n8, rfl, rfl, ok', Or.inr (Or.inr ⟨hP1, h9, rfl, rfl, hv, rfl⟩)⟩)
end
section
/-! the model: its small methods -/
section
variable {p : Program} {l : Launch} {e : Env} {R : Room} {s : State} {m : MethodId} {args : Array Value} {below : List Frame} {meth : Method} {c : Code} {D : va_G} {A : Nat → Prop} {n cells slots pc : Nat} {Q : State → Prop} {ws : va_W} {L : List (Nat × Value)} {st : List Value}
/-- where ways meet with a truth value on the stack -/
theorem gg_cut (P : Prop) (pJ : Nat) (LJ : List (Nat × Value)) (sJ : List Value) (k : ∀ b : Bool, (b = true ↔ P) → gg p l e R s m args below meth c D A n cells slots Q ws pJ LJ (.int (bI b) :: sJ)) (h : (∀ b : Bool, (b = true ↔ P) → gg p l e R s m args below meth c D A n cells slots Q ws pJ LJ (.int (bI b) :: sJ)) → gg p l e R s m args below meth c D A n cells slots Q ws pc L st) : gg p l e R s m args below meth c D A n cells slots Q ws pc L st := h k
/-- .. with a number -/
theorem gg_cutI (x : Int32) (pJ : Nat) (LJ : List (Nat × Value)) (sJ : List Value) (k : gg p l e R s m args below meth c D A n cells slots Q ws pJ LJ (.int x :: sJ)) (h : (∀ z : Int32, z = x → gg p l e R s m args below meth c D A n cells slots Q ws pJ LJ (.int z :: sJ)) → gg p l e R s m args below meth c D A n cells slots Q ws pc L st) : gg p l e R s m args below meth c D A n cells slots Q ws pc L st := h (fun z hz => by rw [hz]; exact k)
end
theorem ft_iff {P : Prop} (h : ¬ P) : (false = true ↔ P) := ⟨fun z => (by cases z), fun z => absurd z h⟩
theorem tt_iff {P : Prop} (h : P) : (true = true ↔ P) := ⟨fun _ => h, fun _ => rfl⟩
theorem bI_P {b : Bool} {P : Prop} (h : b = true ↔ P) : bI b = bI (bP P) := by
  cases b with
  | true => rw [bP_t (h.mp rfl)]
  | false => rw [bP_f (fun z => by have := h.mpr z; cases this)]
set_option maxRecDepth 100000 in
theorem m_in {l : Launch} {x a b : Int32} : mS l yX1_in cX1_in 3 (some .boolean) (rmk 0 0 0 0) [.int x, .int a, .int b] (.int (bI (bP (¬ x < a ∧ ¬ b < x)))) := by
  intro D tys
  refine mA_intro (own := RX1) [(0, .int x), (1, .int a), (2, .int b)] (by decide +kernel) rfl rfl rfl rfl ?_
  intro p e s m args below meth c A K hr hin
  refine gg_iload_n K (i := 0) dX1_in_0 rfl rfl ?_
  refine gg_iload_n K (i := 1) dX1_in_1 rfl rfl ?_
  refine gg_icmp_lt K (tgt := 14) dX1_in_2 (by decide) (fun h2 => ?_) (fun h2 => ?_)
  · refine gg_iconst K (v := 0) dX1_in_14 (by decide) ?_
    exact gg_zret K hr dX1_in_15 (Or.inl rfl) (Nat.le_of_ble_eq_true rfl) (Nat.le_of_ble_eq_true rfl) (some_int (bI_f (bP_f (fun z => z.1 h2))).symm)
  refine gg_iload_n K (i := 0) dX1_in_5 rfl rfl ?_
  refine gg_iload_n K (i := 2) dX1_in_6 rfl rfl ?_
  refine gg_icmp_gt K (tgt := 14) dX1_in_7 (by decide) (fun h7 => ?_) (fun h7 => ?_)
  · refine gg_iconst K (v := 0) dX1_in_14 (by decide) ?_
    exact gg_zret K hr dX1_in_15 (Or.inl rfl) (Nat.le_of_ble_eq_true rfl) (Nat.le_of_ble_eq_true rfl) (some_int (bI_f (bP_f (fun z => z.2 h7))).symm)
  · refine gg_iconst K (v := 1) dX1_in_10 (by decide) ?_
    refine gg_goto K (tgt := 15) dX1_in_11 (by decide) ?_
    exact gg_zret K hr dX1_in_15 (Or.inr rfl) (Nat.le_of_ble_eq_true rfl) (Nat.le_of_ble_eq_true rfl) (some_int (bI_t (bP_t ⟨h2, h7⟩)).symm)
theorem in_R {x : Int32} {b : Nat} (hb : 0 < b) (hb2 : b < 2 ^ 31 := by omega) : (¬ x < 0 ∧ ¬ nI (b - 1) < x) ↔ inR x (nI b) := by
  have e1 : (nI (b - 1) < x) ↔ ((b : Int) - 1 < x.toInt) := by
    rw [Int32.lt_iff_toInt_lt, nI_toInt (by omega)]
    omega
  have e2 : (nI b ≤ x) ↔ ((b : Int) ≤ x.toInt) := by rw [Int32.le_iff_toInt_le, nI_toInt hb2]
  unfold inR
  rw [e1, e2]
  exact ⟨fun h => ⟨h.1, by have := h.2; omega⟩, fun h => ⟨h.1, by have := h.2; omega⟩⟩
theorem bP_cong {P Q : Prop} (h : P ↔ Q) : bP P = bP Q := by
  by_cases hp : P
  · rw [bP_t hp, bP_t (h.mp hp)]
  · rw [bP_f hp, bP_f (fun z => hp (h.mpr z))]
set_option maxRecDepth 100000 in
theorem m_isDay {l : Launch} {x : Int32} : mS l yX1_isDay cX1_isDay 1 (some .boolean) (rmk 1 30 0 0) [.int x] (.int (bI (bP (inR x 60)))) := by
  intro D tys
  refine mA_intro (own := RX1) [(0, .int x)] (by decide +kernel) rfl rfl rfl rfl ?_
  intro p e s m args below meth c A K hr hin
  refine gg_iload_n K (i := 0) dX1_isDay_0 rfl rfl ?_
  refine gg_iconst K (v := 0) dX1_isDay_1 (by decide) ?_
  refine gg_bipush K (v := 59) dX1_isDay_2 (by decide) ?_
  refine gg_callSR K k_X1_X1_in m_in dX1_isDay_4 rfl rfl rfl rfl ⟨rfl, rfl⟩ ?_
  exact gg_zret K hr dX1_isDay_7 (bI_01 _) (Nat.le_of_ble_eq_true rfl) (Nat.le_of_ble_eq_true rfl) (some_int (congrArg bI (bP_cong (in_R (b := 60) (by omega)))))
set_option maxRecDepth 100000 in
theorem m_isKey {l : Launch} {x y : Int32} : mS l yX1_isKey cX1_isKey 2 (some .boolean) (rmk 1 30 0 0) [.int x, .int y] (.int (bI (bP (inR x 2 ∧ inR y 8)))) := by
  intro D tys
  refine mA_intro (own := RX1) [(0, .int x), (1, .int y)] (by decide +kernel) rfl rfl rfl rfl ?_
  intro p e s m args below meth c A K hr hin
  refine gg_iload_n K (i := 0) dX1_isKey_0 rfl rfl ?_
  refine gg_iconst K (v := 0) dX1_isKey_1 (by decide) ?_
  refine gg_iconst K (v := 1) dX1_isKey_2 (by decide) ?_
  refine gg_callSR K k_X1_X1_in m_in dX1_isKey_3 rfl rfl rfl rfl ⟨rfl, rfl⟩ ?_
  refine gg_b_eq K (tgt := 23) dX1_isKey_6 (by decide) (fun h6 => ?_) (fun h6 => ?_)
  · refine gg_iconst K (v := 0) dX1_isKey_23 (by decide) ?_
    exact gg_zret K hr dX1_isKey_24 (Or.inl rfl) (Nat.le_of_ble_eq_true rfl) (Nat.le_of_ble_eq_true rfl) (some_int (bI_f (bP_f (fun z => bP_nf h6 ((in_R (b := 2) (by omega)).mpr z.1)))).symm)
  refine gg_iload_n K (i := 1) dX1_isKey_9 rfl rfl ?_
  refine gg_iconst K (v := 0) dX1_isKey_10 (by decide) ?_
  refine gg_bipush K (v := 7) dX1_isKey_11 (by decide) ?_
  refine gg_callSR K k_X1_X1_in m_in dX1_isKey_13 rfl rfl rfl rfl ⟨rfl, rfl⟩ ?_
  refine gg_b_eq K (tgt := 23) dX1_isKey_16 (by decide) (fun h16 => ?_) (fun h16 => ?_)
  · refine gg_iconst K (v := 0) dX1_isKey_23 (by decide) ?_
    exact gg_zret K hr dX1_isKey_24 (Or.inl rfl) (Nat.le_of_ble_eq_true rfl) (Nat.le_of_ble_eq_true rfl) (some_int (bI_f (bP_f (fun z => bP_nf h16 ((in_R (b := 8) (by omega)).mpr z.2)))).symm)
  · refine gg_iconst K (v := 1) dX1_isKey_19 (by decide) ?_
    refine gg_goto K (tgt := 24) dX1_isKey_20 (by decide) ?_
    exact gg_zret K hr dX1_isKey_24 (Or.inr rfl) (Nat.le_of_ble_eq_true rfl) (Nat.le_of_ble_eq_true rfl) (some_int (bI_t (bP_t ⟨(in_R (b := 2) (by omega)).mp (bP_iff.mp h6), (in_R (b := 8) (by omega)).mp (bP_iff.mp h16)⟩)).symm)
set_option maxRecDepth 100000 in
theorem m_isSpan {l : Launch} {x y : Int32} : mS l yX1_isSpan cX1_isSpan 2 (some .boolean) (rmk 2 60 0 0) [.int x, .int y] (.int (bI (bP (spanR x y)))) := by
  intro D tys
  refine mA_intro (own := RX1) [(0, .int x), (1, .int y)] (by decide +kernel) rfl rfl rfl rfl ?_
  intro p e s m args below meth c A K hr hin
  refine gg_iload_n K (i := 0) dX1_isSpan_0 rfl rfl ?_
  refine gg_callSR K k_X1_X1_isDay m_isDay dX1_isSpan_1 rfl rfl rfl rfl ⟨rfl, rfl⟩ ?_
  refine gg_b_eq K (tgt := 23) dX1_isSpan_4 (by decide) (fun h4 => ?_) (fun h4 => ?_)
  · refine gg_iconst K (v := 0) dX1_isSpan_23 (by decide) ?_
    exact gg_zret K hr dX1_isSpan_24 (Or.inl rfl) (Nat.le_of_ble_eq_true rfl) (Nat.le_of_ble_eq_true rfl) (some_int (bI_f (bP_f (fun z => bP_nf h4 z.1))).symm)
  have h4 := bP_iff.mp h4
  have ⟨x1, x2⟩ := inR_N (b := 60) h4
  have hiff : (¬ y < x + 1 ∧ ¬ (60 : Int32) < y) ↔ (¬ y ≤ x ∧ y ≤ 60) := by
    have e : (x + 1).toInt = x.toInt + 1 := by rw [x2, nI_1, nI_toInt (by omega), nI_toInt (by omega)]; omega
    rw [Int32.lt_iff_toInt_lt, Int32.lt_iff_toInt_lt, Int32.le_iff_toInt_le, Int32.le_iff_toInt_le, e]
    omega
  refine gg_iload_n K (i := 1) dX1_isSpan_7 rfl rfl ?_
  refine gg_iload_n K (i := 0) dX1_isSpan_8 rfl rfl ?_
  refine gg_iconst K (v := 1) dX1_isSpan_9 (by decide) ?_
  refine gg_iadd K dX1_isSpan_10 ?_
  refine gg_bipush K (v := 60) dX1_isSpan_11 (by decide) ?_
  refine gg_callSR K k_X1_X1_in m_in dX1_isSpan_13 rfl rfl rfl rfl ⟨rfl, rfl⟩ ?_
  refine gg_b_eq K (tgt := 23) dX1_isSpan_16 (by decide) (fun h16 => ?_) (fun h16 => ?_)
  · refine gg_iconst K (v := 0) dX1_isSpan_23 (by decide) ?_
    exact gg_zret K hr dX1_isSpan_24 (Or.inl rfl) (Nat.le_of_ble_eq_true rfl) (Nat.le_of_ble_eq_true rfl) (some_int (bI_f (bP_f (fun z => bP_nf h16 (hiff.mpr z.2)))).symm)
  · refine gg_iconst K (v := 1) dX1_isSpan_19 (by decide) ?_
    refine gg_goto K (tgt := 24) dX1_isSpan_20 (by decide) ?_
    exact gg_zret K hr dX1_isSpan_24 (Or.inr rfl) (Nat.le_of_ble_eq_true rfl) (Nat.le_of_ble_eq_true rfl) (some_int (bI_t (bP_t ⟨h4, hiff.mp (bP_iff.mp h16)⟩)).symm)
set_option maxRecDepth 100000 in
theorem m_place {l : Launch} (r t y d : Nat) {a b c9 z : Int32} (ha : a = nI r) (hb : b = nI t) (hc : c9 = nI y) (hz : z = nI d) : mS l yX1_place cX1_place 4 (some .int) (rmk 0 0 0 0) [.int a, .int b, .int c9, .int z] (.int (nI (ix r (t * 8 + y) d))) := by
  intro D tys
  refine mA_intro (own := RX1) [(0, .int a), (1, .int b), (2, .int c9), (3, .int z)] (by decide +kernel) rfl rfl rfl rfl ?_
  intro p e s m args below meth c A K hr hin
  subst ha hb hc hz
  refine gg_iconst K (v := 2) dX1_place_0 (by decide) ?_
  refine gg_iload_n K (i := 0) dX1_place_1 rfl rfl ?_
  refine gg_imul K dX1_place_2 ?_
  refine gg_iload_n K (i := 1) dX1_place_3 rfl rfl ?_
  refine gg_iadd K dX1_place_4 ?_
  refine gg_bipush K (v := 8) dX1_place_5 (by decide) ?_
  refine gg_imul K dX1_place_7 ?_
  refine gg_iload_n K (i := 2) dX1_place_8 rfl rfl ?_
  refine gg_iadd K dX1_place_9 ?_
  refine gg_bipush K (v := 60) dX1_place_10 (by decide) ?_
  refine gg_imul K dX1_place_12 ?_
  refine gg_iload_n K (i := 3) dX1_place_13 rfl rfl ?_
  refine gg_iadd K dX1_place_14 ?_
  exact gg_iret K hr dX1_place_15 (Nat.le_of_ble_eq_true rfl) (Nat.le_of_ble_eq_true rfl) (some_int (by simp only [nI_lit, nI_mul, nI_add]; exact congrArg nI (by unfold ix; omega)))
set_option maxRecDepth 100000 in
theorem m_holds {l : Launch} {Z : ZT} {Y : MT} {k : Nat → Int32} {th rf rb re : Int32} {T : Nat} {x : Int32} : mA l Z.1 (ty3 Z) yX1_holds cX1_holds 2 (some .boolean) (rmk 0 0 0 0) (wM Z Y k th (nI T) rf rb re) [.ref Y.1, .int x] (fun v u => v = some (.int (bI (bP (x = 0)))) ∧ u = wM Z Y k x (nI T) rf rb re) := by
  refine mA_intro (own := RX1) [(0, .ref Y.1), (1, .int x)] (by decide +kernel) rfl rfl rfl rfl ?_
  intro p e s m args below meth c A K hr hin
  refine gg_aload_n K (i := 0) dX1_holds_0 rfl rfl ?_
  refine gg_iload_n K (i := 1) dX1_holds_1 rfl rfl ?_
  refine gM_pthrown K dX1_holds_2 ?_
  refine gg_iload_n K (i := 1) dX1_holds_5 rfl rfl ?_
  refine gg_if_ne K (tgt := 13) dX1_holds_6 (by decide) (fun h6 => ?_) (fun h6 => ?_)
  · refine gg_iconst K (v := 0) dX1_holds_13 (by decide) ?_
    exact gg_zret K hr dX1_holds_14 (Or.inl rfl) (Nat.le_of_ble_eq_true rfl) (Nat.le_of_ble_eq_true rfl) ⟨some_int (bI_f (bP_f h6)).symm, rfl⟩
  · refine gg_iconst K (v := 1) dX1_holds_9 (by decide) ?_
    refine gg_goto K (tgt := 14) dX1_holds_10 (by decide) ?_
    exact gg_zret K hr dX1_holds_14 (Or.inr rfl) (Nat.le_of_ble_eq_true rfl) (Nat.le_of_ble_eq_true rfl) ⟨some_int (bI_t (bP_t h6)).symm, rfl⟩
set_option maxRecDepth 100000 in
theorem m_thrown {l : Launch} {Z : ZT} {Y : MT} {k : Nat → Int32} {th rf rb re : Int32} {T : Nat} : mR l Z yX1_thrown cX1_thrown 1 (some .int) (rmk 0 0 0 0) (wM Z Y k th (nI T) rf rb re) [.ref Y.1] (.int th) := by
  refine mA_intro (own := RX1) [(0, .ref Y.1)] (by decide +kernel) rfl rfl rfl rfl ?_
  intro p e s m args below meth c A K hr hin
  refine gg_aload_n K (i := 0) dX1_thrown_0 rfl rfl ?_
  refine gM_thrown K dX1_thrown_1 ?_
  exact gg_iret K hr dX1_thrown_4 (Nat.le_of_ble_eq_true rfl) (Nat.le_of_ble_eq_true rfl) ⟨rfl, rfl⟩
set_option maxRecDepth 100000 in
theorem m_today {l : Launch} {Z : ZT} {Y : MT} {k : Nat → Int32} {th rf rb re : Int32} {T : Nat} : mA l Z.1 (ty3 Z) yX1_today cX1_today 1 (some .int) (rmk 0 0 0 0) (wM Z Y k th (nI T) rf rb re) [.ref Y.1] (fun v u => v = some (.int (nI T)) ∧ u = wM Z Y k 0 (nI T) rf rb re) := by
  refine mA_intro (own := RX1) [(0, .ref Y.1)] (by decide +kernel) rfl rfl rfl rfl ?_
  intro p e s m args below meth c A K hr hin
  refine gg_aload_n K (i := 0) dX1_today_0 rfl rfl ?_
  refine gg_iconst K (v := 0) dX1_today_1 (by decide) ?_
  refine gM_pthrown K dX1_today_2 ?_
  refine gg_aload_n K (i := 0) dX1_today_5 rfl rfl ?_
  refine gM_today K dX1_today_6 ?_
  exact gg_iret K hr dX1_today_9 (Nat.le_of_ble_eq_true rfl) (Nat.le_of_ble_eq_true rfl) ⟨rfl, rfl⟩
set_option maxRecDepth 100000 in
theorem m_of {l : Launch} {Z : ZT} {Y : MT} {k : Nat → Int32} {th rf rb re : Int32} {T : Nat} (r t y d : Nat) {a b c9 z : Int32} (hT : T < 60) (hr0 : r ≤ T) (ht : t < 2) (hy : y < 8) (hd0 : d < 60) (ha : a = nI r) (hb : b = nI t) (hc : c9 = nI y) (hz : z = nI d) : mR l Z yX1_of cX1_of 5 (some .int) (rmk 1 30 0 0) (wM Z Y k th (nI T) rf rb re) [.ref Y.1, .int a, .int b, .int c9, .int z] (.int (vM k T r (t * 8 + y) d)) := by
  refine mA_intro (own := RX1) [(0, .ref Y.1), (1, .int a), (2, .int b), (3, .int c9), (4, .int z)] (by decide +kernel) rfl rfl rfl rfl ?_
  intro p e s m args below meth c A K hr hin
  have hlt := ix_lt (r := r) (l := t * 8 + y) (d := d) (by omega) (by omega) hd0
  have hv : vM k T r (t * 8 + y) d = k (ix r (t * 8 + y) d) - 1 := if_pos ⟨hr0, by omega, hd0⟩
  refine gg_aload_n K (i := 0) dX1_of_0 rfl rfl ?_
  refine gM_known K dX1_of_1 ?_
  refine gg_iload_n K (i := 1) dX1_of_4 rfl rfl ?_
  refine gg_iload_n K (i := 2) dX1_of_5 rfl rfl ?_
  refine gg_iload_n K (i := 3) dX1_of_6 rfl rfl ?_
  refine gg_iload K dX1_of_7 rfl ?_
  refine gg_callSR K k_X1_X1_place (m_place r t y d ha hb hc hz) dX1_of_9 rfl rfl rfl rfl ⟨rfl, rfl⟩ ?_
  refine gM_ld_known (ix r (t * 8 + y) d) K rfl hlt dX1_of_12 ?_
  refine gg_iconst K (v := 1) dX1_of_13 (by decide) ?_
  refine gg_isub K dX1_of_14 ?_
  exact gg_iret K hr dX1_of_15 (Nat.le_of_ble_eq_true rfl) (Nat.le_of_ble_eq_true rfl) ⟨some_int hv.symm, rfl⟩
set_option maxRecDepth 100000 in
theorem m_isReferred {l : Launch} {Z : ZT} {Y : MT} {k : Nat → Int32} {th rf rb re : Int32} {T : Nat} (d : Nat) {x y : Int32} (hT : T < 60) (hd0 : d < 60) (hy : y = nI d) : mR l Z yX1_isReferred cX1_isReferred 4 (some .boolean) (rmk 2 60 0 0) (wM Z Y k th (nI T) rf rb re) [.ref Y.1, .int x, .int y] (.int (bI (bP (refd (vM k T) T x d)))) := by
  refine mA_intro (own := RX1) [(0, .ref Y.1), (1, .int x), (2, .int y)] (by decide +kernel) rfl rfl rfl rfl ?_
  intro p e s m args below meth c A K hr hin
  refine gg_iconst K (v := 0) dX1_isReferred_0 (by decide) ?_
  refine gg_istore_n K (i := 3) dX1_isReferred_1 rfl (by decide) ?_
  refine gg_sub (L' := [(3, .int (nI 0)), (0, .ref Y.1), (1, .int x), (2, .int y)]) ⟨rfl, rfl, rfl, rfl, trivial⟩ ?_
  refine gg_loop (fun i w L => ∃ j : Nat, j + i = 9 ∧ w = wM Z Y k th (nI T) rf rb re ∧ L = [(3, .int (nI j)), (0, .ref Y.1), (1, .int x), (2, .int y)] ∧ j ≤ 8 ∧ ∀ q, q < j → ¬ vM k T T (8 + q) d = x) (fun w L h => ?_) (fun i w L h ih => ?_) 9 _ _ ⟨0, rfl, rfl, rfl, by omega, fun q h => absurd h (by omega)⟩
  · obtain ⟨j, hj, -, -, h2, -⟩ := h
    omega
  · obtain ⟨j, hj, rfl, rfl, -, he⟩ := h
    refine gg_iload_n K (i := 3) dX1_isReferred_2 rfl rfl ?_
    refine gg_bipush K (v := 8) dX1_isReferred_3 (by decide) ?_
    refine gg_icmp_ge K (tgt := 31) dX1_isReferred_5 (by decide) (fun h5 => ?_) (fun h5 => ?_)
    · have hj2 := i_le (a := 8) h5
      refine gg_iconst K (v := 0) dX1_isReferred_31 (by decide) ?_
      exact gg_zret K hr dX1_isReferred_32 (Or.inl rfl) (Nat.le_of_ble_eq_true rfl) (Nat.le_of_ble_eq_true rfl) ⟨some_int (bI_f (bP_f (fun ⟨q, q1, q2⟩ => he q (by omega) q2))).symm, rfl⟩
    have hj2 := i_nle (a := 8) h5
    refine gg_aload_n K (i := 0) dX1_isReferred_8 rfl rfl ?_
    refine gg_aload_n K (i := 0) dX1_isReferred_9 rfl rfl ?_
    refine gM_today K dX1_isReferred_10 ?_
    refine gg_iconst K (v := 1) dX1_isReferred_13 (by decide) ?_
    refine gg_iload_n K (i := 3) dX1_isReferred_14 rfl rfl ?_
    refine gg_iload_n K (i := 2) dX1_isReferred_15 rfl rfl ?_
    refine gg_callRM K k_X1_X1_of (m_of T 1 j d hT (Nat.le_refl T) (by omega) hj2 hd0 rfl rfl rfl hy) dX1_isReferred_16 rfl rfl rfl rfl ⟨rfl, rfl⟩ ?_
    refine gg_iload_n K (i := 1) dX1_isReferred_19 rfl rfl ?_
    refine gg_icmp_ne K (tgt := 25) dX1_isReferred_20 (by decide) (fun h20 => ?_) (fun h20 => ?_)
    · refine gg_iinc K (v := nI (j + 1)) dX1_isReferred_25 rfl (nI_inc (j)) (by decide) ?_
      refine gg_goto K (tgt := 2) dX1_isReferred_28 (by decide) ?_
      refine gg_sub (L' := [(3, .int (nI (j + 1))), (0, .ref Y.1), (1, .int x), (2, .int y)]) ⟨rfl, rfl, rfl, rfl, trivial⟩ ?_
      exact ih _ _ ⟨j + 1, by omega, rfl, rfl, by omega, fun q hq => by
        by_cases hqj : q = j
        · rw [hqj]; exact h20
        · exact he q (by omega)⟩
    · refine gg_iconst K (v := 1) dX1_isReferred_23 (by decide) ?_
      exact gg_zret K hr dX1_isReferred_24 (Or.inr rfl) (Nat.le_of_ble_eq_true rfl) (Nat.le_of_ble_eq_true rfl) ⟨some_int (bI_t (bP_t ⟨j, hj2, h20⟩)).symm, rfl⟩
def mayP (V : VT) (T : Nat) (t9 : Nat) (x v : Int32) (d : Nat) : Prop := (t9 = 0 → v = -1 → ¬ refd V T x d) ∧ (t9 = 1 → ¬ v = -1 → ¬ V T (nN v) d = -1)
set_option maxRecDepth 100000 in
theorem m_may {l : Launch} {Z : ZT} {Y : MT} {k : Nat → Int32} {th rf rb re : Int32} {T : Nat} (t9 d : Nat) {a x v z : Int32} (hT : T < 60) (ht9 : t9 < 2) (hd0 : d < 60) (hv : t9 = 1 → v = -1 ∨ ∃ j, v = nI j ∧ j < 8) (ha : a = nI t9) (hz : z = nI d) : mR l Z yX1_may cX1_may 5 (some .boolean) (rmk 3 90 0 0) (wM Z Y k th (nI T) rf rb re) [.ref Y.1, .int a, .int x, .int v, .int z] (.int (bI (bP (mayP (vM k T) T t9 x v d)))) := by
  refine mA_intro (own := RX1) [(0, .ref Y.1), (1, .int a), (2, .int x), (3, .int v), (4, .int z)] (by decide +kernel) rfl rfl rfl rfl ?_
  intro p e s m args below meth c A K hr hin
  subst ha
  refine gg_iload_n K (i := 1) dX1_may_0 rfl rfl ?_
  refine gg_if_ne K (tgt := 27) dX1_may_1 (by decide) (fun h1 => ?_) (fun h1 => ?_)
  · have t1 : t9 = 1 := by
      have := i_ne (b := 0) h1
      omega
    refine gg_iload_n K (i := 3) dX1_may_27 rfl rfl ?_
    refine gg_iconst K (v := (-1)) dX1_may_28 (by decide) ?_
    refine gg_icmp_eq K (tgt := 48) dX1_may_29 (by decide) (fun h29 => ?_) (fun h29 => ?_)
    · refine gg_iconst K (v := 1) dX1_may_48 (by decide) ?_
      refine gg_goto K (tgt := 53) dX1_may_49 (by decide) ?_
      exact gg_zret K hr dX1_may_53 (Or.inr rfl) (Nat.le_of_ble_eq_true rfl) (Nat.le_of_ble_eq_true rfl) ⟨some_int (bI_t (bP_t ⟨fun q => absurd q (by omega), fun _ q => absurd h29 q⟩)).symm, rfl⟩
    obtain ⟨j, j1, j2⟩ := (hv t1).resolve_left h29
    have hc : nN v = j := by rw [j1]; exact nI_clamp (by omega)
    refine gg_aload_n K (i := 0) dX1_may_32 rfl rfl ?_
    refine gg_aload_n K (i := 0) dX1_may_33 rfl rfl ?_
    refine gM_today K dX1_may_34 ?_
    refine gg_iconst K (v := 0) dX1_may_37 (by decide) ?_
    refine gg_iload_n K (i := 3) dX1_may_38 rfl rfl ?_
    refine gg_iload K dX1_may_39 rfl ?_
    refine gg_callRM K k_X1_X1_of (m_of T 0 j d hT (Nat.le_refl T) (by omega) j2 hd0 rfl rfl j1 hz) dX1_may_41 rfl rfl rfl rfl ⟨rfl, rfl⟩ ?_
    rw [show 0 * 8 + j = j by omega]
    refine gg_iconst K (v := (-1)) dX1_may_44 (by decide) ?_
    refine gg_icmp_eq K (tgt := 52) dX1_may_45 (by decide) (fun h45 => ?_) (fun h45 => ?_)
    · refine gg_iconst K (v := 0) dX1_may_52 (by decide) ?_
      exact gg_zret K hr dX1_may_53 (Or.inl rfl) (Nat.le_of_ble_eq_true rfl) (Nat.le_of_ble_eq_true rfl) ⟨some_int (bI_f (bP_f (fun q => q.2 t1 h29 (by rw [hc]; exact h45)))).symm, rfl⟩
    · refine gg_iconst K (v := 1) dX1_may_48 (by decide) ?_
      refine gg_goto K (tgt := 53) dX1_may_49 (by decide) ?_
      exact gg_zret K hr dX1_may_53 (Or.inr rfl) (Nat.le_of_ble_eq_true rfl) (Nat.le_of_ble_eq_true rfl) ⟨some_int (bI_t (bP_t ⟨fun q => absurd q (by omega), fun _ _ => by rw [hc]; exact h45⟩)).symm, rfl⟩
  · have t0 : t9 = 0 := i_eq (b := 0) h1
    refine gg_iload_n K (i := 3) dX1_may_4 rfl rfl ?_
    refine gg_iconst K (v := (-1)) dX1_may_5 (by decide) ?_
    refine gg_icmp_ne K (tgt := 19) dX1_may_6 (by decide) (fun h6 => ?_) (fun h6 => ?_)
    · refine gg_iconst K (v := 1) dX1_may_19 (by decide) ?_
      refine gg_goto K (tgt := 53) dX1_may_20 (by decide) ?_
      exact gg_zret K hr dX1_may_53 (Or.inr rfl) (Nat.le_of_ble_eq_true rfl) (Nat.le_of_ble_eq_true rfl) ⟨some_int (bI_t (bP_t ⟨fun _ q => absurd q h6, fun q => absurd q (by omega)⟩)).symm, rfl⟩
    refine gg_aload_n K (i := 0) dX1_may_9 rfl rfl ?_
    refine gg_iload_n K (i := 2) dX1_may_10 rfl rfl ?_
    refine gg_iload K dX1_may_11 rfl ?_
    refine gg_callRM K k_X1_X1_isReferred (m_isReferred d hT hd0 hz) dX1_may_13 rfl rfl rfl rfl ⟨rfl, rfl⟩ ?_
    refine gg_b_ne K (tgt := 23) dX1_may_16 (by decide) (fun h16 => ?_) (fun h16 => ?_)
    · refine gg_iconst K (v := 0) dX1_may_23 (by decide) ?_
      refine gg_goto K (tgt := 53) dX1_may_24 (by decide) ?_
      exact gg_zret K hr dX1_may_53 (Or.inl rfl) (Nat.le_of_ble_eq_true rfl) (Nat.le_of_ble_eq_true rfl) ⟨some_int (bI_f (bP_f (fun q => q.1 t0 h6 (bP_iff.mp h16)))).symm, rfl⟩
    · refine gg_iconst K (v := 1) dX1_may_19 (by decide) ?_
      refine gg_goto K (tgt := 53) dX1_may_20 (by decide) ?_
      exact gg_zret K hr dX1_may_53 (Or.inr rfl) (Nat.le_of_ble_eq_true rfl) (Nat.le_of_ble_eq_true rfl) ⟨some_int (bI_t (bP_t ⟨fun _ _ => bP_nf h16, fun q => absurd q (by omega)⟩)).symm, rfl⟩
set_option maxRecDepth 100000 in
theorem m_mayAll {l : Launch} {Z : ZT} {Y : MT} {k : Nat → Int32} {th rf rb re : Int32} {T : Nat} (t9 : Nat) {a x v f q : Int32} (hT : T < 60) (ht9 : t9 < 2) (hsp : spanR f q) (hv : t9 = 1 → v = -1 ∨ ∃ j, v = nI j ∧ j < 8) (ha : a = nI t9) : mR l Z yX1_mayAll cX1_mayAll 7 (some .boolean) (rmk 4 120 0 0) (wM Z Y k th (nI T) rf rb re) [.ref Y.1, .int a, .int x, .int v, .int f, .int q] (.int (bI (bP (∀ d, nN f ≤ d → d < nN q → mayP (vM k T) T t9 x v d)))) := by
  refine mA_intro (own := RX1) [(0, .ref Y.1), (1, .int a), (2, .int x), (3, .int v), (4, .int f), (5, .int q)] (by decide +kernel) rfl rfl rfl rfl ?_
  intro p e s m args below meth c A K hr hin
  have ⟨f1, f2, f3, f4, f5⟩ := spanR_N hsp
  refine gg_iload K dX1_mayAll_0 rfl ?_
  refine gg_istore K dX1_mayAll_2 (by decide) ?_
  refine gg_sub (L' := [(6, .int (nI (nN f))), (0, .ref Y.1), (1, .int a), (2, .int x), (3, .int v), (4, .int f), (5, .int q)]) ⟨by rw [← f2]; rfl, rfl, rfl, rfl, rfl, rfl, rfl, trivial⟩ ?_
  refine gg_loop (fun i w L => ∃ j : Nat, j + i = nN q + 1 ∧ w = wM Z Y k th (nI T) rf rb re ∧ nN f ≤ j ∧ j ≤ nN q ∧ L = [(6, .int (nI j)), (0, .ref Y.1), (1, .int a), (2, .int x), (3, .int v), (4, .int f), (5, .int q)] ∧ ∀ d, nN f ≤ d → d < j → mayP (vM k T) T t9 x v d) (fun w L h => ?_) (fun i w L h ih => ?_) (nN q + 1 - nN f) _ _ ⟨nN f, by omega, rfl, by omega, by omega, rfl, fun d h1 h2 => absurd h1 (by omega)⟩
  · obtain ⟨j, hj, -, -, h2, -⟩ := h
    omega
  · obtain ⟨j, hj, rfl, hj1, -, rfl, he⟩ := h
    refine gg_iload K dX1_mayAll_4 rfl ?_
    refine gg_iload K dX1_mayAll_6 rfl ?_
    refine gg_icmp_ge K (tgt := 31) dX1_mayAll_8 (by decide) (fun h8 => ?_) (fun h8 => ?_)
    · rw [f5] at h8
      have hj2 := i_le h8
      refine gg_iconst K (v := 1) dX1_mayAll_31 (by decide) ?_
      exact gg_zret K hr dX1_mayAll_32 (Or.inr rfl) (Nat.le_of_ble_eq_true rfl) (Nat.le_of_ble_eq_true rfl) ⟨some_int (bI_t (bP_t (fun d h1 h2 => he d h1 (by omega)))).symm, rfl⟩
    rw [f5] at h8
    have hj2 := i_nle h8
    refine gg_aload_n K (i := 0) dX1_mayAll_11 rfl rfl ?_
    refine gg_iload_n K (i := 1) dX1_mayAll_12 rfl rfl ?_
    refine gg_iload_n K (i := 2) dX1_mayAll_13 rfl rfl ?_
    refine gg_iload_n K (i := 3) dX1_mayAll_14 rfl rfl ?_
    refine gg_iload K dX1_mayAll_15 rfl ?_
    refine gg_callRM K k_X1_X1_may (m_may t9 j hT ht9 (by omega) hv ha rfl) dX1_mayAll_17 rfl rfl rfl rfl ⟨rfl, rfl⟩ ?_
    refine gg_b_ne K (tgt := 25) dX1_mayAll_20 (by decide) (fun h20 => ?_) (fun h20 => ?_)
    · refine gg_iinc K (v := nI (j + 1)) dX1_mayAll_25 rfl (nI_inc (j)) (by decide) ?_
      refine gg_goto K (tgt := 4) dX1_mayAll_28 (by decide) ?_
      refine gg_sub (L' := [(6, .int (nI (j + 1))), (0, .ref Y.1), (1, .int a), (2, .int x), (3, .int v), (4, .int f), (5, .int q)]) ⟨rfl, rfl, rfl, rfl, rfl, rfl, rfl, trivial⟩ ?_
      exact ih _ _ ⟨j + 1, by omega, rfl, by omega, by omega, rfl, fun d h1 h2 => by
        by_cases hdj : d = j
        · rw [hdj]; exact bP_iff.mp h20
        · exact he d h1 (by omega)⟩
    · refine gg_iconst K (v := 0) dX1_mayAll_23 (by decide) ?_
      exact gg_zret K hr dX1_mayAll_24 (Or.inl rfl) (Nat.le_of_ble_eq_true rfl) (Nat.le_of_ble_eq_true rfl) ⟨some_int (bI_f (bP_f (fun z => bP_nf h20 (z j hj1 hj2)))).symm, rfl⟩
theorem m1_iff {x v : Int32} : x = v + 1 ↔ x - 1 = v := ⟨fun h => by rw [h]; exact Int32.add_sub_cancel _ _, fun h => by rw [← h]; exact (Int32.sub_add_cancel _ _).symm⟩
theorem vM_upd {k : Nat → Int32} {T l0 d0 : Nat} (hl0 : l0 < 16) (hd0 : d0 < 60) (x : Int32) : vM (upd k (ix T l0 d0) (x + 1)) T = uV (vM k T) T l0 d0 x := by
  funext r l d
  unfold vM uV upd
  dsimp only
  by_cases hc : r ≤ T ∧ l < 16 ∧ d < 60
  · rw [if_pos hc, if_pos hc]
    by_cases h1 : r = T ∧ l = l0 ∧ d = d0
    · obtain ⟨rfl, rfl, rfl⟩ := h1
      rw [if_pos rfl, if_pos ⟨rfl, rfl, rfl⟩]
      exact Int32.add_sub_cancel _ _
    · rw [if_neg h1, if_neg]
      intro he
      obtain ⟨e1, e2, e3⟩ := ix_inj hc.2.1 hc.2.2 hl0 hd0 he
      exact h1 ⟨e1, e2, e3⟩
  · rw [if_neg hc, if_neg hc]
    by_cases h1 : r = T ∧ l = l0 ∧ d = d0
    · omega
    · rw [if_neg h1]
set_option maxRecDepth 100000 in
theorem m_sets {l : Launch} {Z : ZT} {Y : MT} {k : Nat → Int32} {th rf rb re : Int32} {T : Nat} (t9 y9 d : Nat) {a y v z : Int32} (hT : T < 60) (ht9 : t9 < 2) (hy9 : y9 < 8) (hd0 : d < 60) (ha : a = nI t9) (hy : y = nI y9) (hz : z = nI d) : mA l Z.1 (ty3 Z) yX1_sets cX1_sets 7 (some .int) (rmk 1 30 0 0) (wM Z Y k th (nI T) rf rb re) [.ref Y.1, .int a, .int y, .int v, .int z] (fun r u => r = some (.int (bI (bP (¬ vM k T T (t9 * 8 + y9) d = v)))) ∧ ∃ k', u = wM Z Y k' th (nI T) rf rb re ∧ vM k' T = uV (vM k T) T (t9 * 8 + y9) d v) := by
  refine mA_intro (own := RX1) [(0, .ref Y.1), (1, .int a), (2, .int y), (3, .int v), (4, .int z)] (by decide +kernel) rfl rfl rfl rfl ?_
  intro p e s m args below meth c A K hr hin
  have hlt := ix_lt (r := T) (l := t9 * 8 + y9) (d := d) (by omega) (by omega) hd0
  have hv : vM k T T (t9 * 8 + y9) d = k (ix T (t9 * 8 + y9) d) - 1 := if_pos ⟨Nat.le_refl T, by omega, hd0⟩
  refine gg_aload_n K (i := 0) dX1_sets_0 rfl rfl ?_
  refine gM_today K dX1_sets_1 ?_
  refine gg_iload_n K (i := 1) dX1_sets_4 rfl rfl ?_
  refine gg_iload_n K (i := 2) dX1_sets_5 rfl rfl ?_
  refine gg_iload K dX1_sets_6 rfl ?_
  refine gg_callSR K k_X1_X1_place (m_place T t9 y9 d rfl ha hy hz) dX1_sets_8 rfl rfl rfl rfl ⟨rfl, rfl⟩ ?_
  refine gg_istore K dX1_sets_11 (by decide) ?_
  refine gg_aload_n K (i := 0) dX1_sets_13 rfl rfl ?_
  refine gM_known K dX1_sets_14 ?_
  refine gg_iload K dX1_sets_17 rfl ?_
  refine gM_ld_known (ix T (t9 * 8 + y9) d) K rfl hlt dX1_sets_19 ?_
  refine gg_iload_n K (i := 3) dX1_sets_20 rfl rfl ?_
  refine gg_iconst K (v := 1) dX1_sets_21 (by decide) ?_
  refine gg_iadd K dX1_sets_22 ?_
  refine gg_icmp_eq K (tgt := 30) dX1_sets_23 (by decide) (fun h23 => ?_) (fun h23 => ?_)
  · refine gg_iconst K (v := 0) dX1_sets_30 (by decide) ?_
    refine gg_istore K dX1_sets_31 (by decide) ?_
    refine gg_aload_n K (i := 0) dX1_sets_33 rfl rfl ?_
    refine gM_known K dX1_sets_34 ?_
    refine gg_iload K dX1_sets_37 rfl ?_
    refine gg_iload_n K (i := 3) dX1_sets_39 rfl rfl ?_
    refine gg_iconst K (v := 1) dX1_sets_40 (by decide) ?_
    refine gg_iadd K dX1_sets_41 ?_
    refine gM_st_known (ix T (t9 * 8 + y9) d) K rfl hlt dX1_sets_42 ?_
    refine gg_iload K dX1_sets_43 rfl ?_
    refine gg_if_eq K (tgt := 52) dX1_sets_45 (by decide) (fun h45 => ?_) (fun h45 => ?_)
    rotate_left
    · exact absurd rfl h45
    refine gg_iconst K (v := 0) dX1_sets_52 (by decide) ?_
    exact gg_iret K hr dX1_sets_53 (Nat.le_of_ble_eq_true rfl) (Nat.le_of_ble_eq_true rfl) ⟨some_int (bI_f (bP_f (fun q => q (by rw [hv]; exact m1_iff.mp h23)))).symm, _, rfl, vM_upd (by omega) hd0 v⟩
  · refine gg_iconst K (v := 1) dX1_sets_26 (by decide) ?_
    refine gg_goto K (tgt := 31) dX1_sets_27 (by decide) ?_
    refine gg_istore K dX1_sets_31 (by decide) ?_
    refine gg_aload_n K (i := 0) dX1_sets_33 rfl rfl ?_
    refine gM_known K dX1_sets_34 ?_
    refine gg_iload K dX1_sets_37 rfl ?_
    refine gg_iload_n K (i := 3) dX1_sets_39 rfl rfl ?_
    refine gg_iconst K (v := 1) dX1_sets_40 (by decide) ?_
    refine gg_iadd K dX1_sets_41 ?_
    refine gM_st_known (ix T (t9 * 8 + y9) d) K rfl hlt dX1_sets_42 ?_
    refine gg_iload K dX1_sets_43 rfl ?_
    refine gg_if_eq K (tgt := 52) dX1_sets_45 (by decide) (fun h45 => ?_) (fun h45 => ?_)
    · exact absurd h45 (by decide)
    refine gg_iconst K (v := 1) dX1_sets_48 (by decide) ?_
    refine gg_goto K (tgt := 53) dX1_sets_49 (by decide) ?_
    exact gg_iret K hr dX1_sets_53 (Nat.le_of_ble_eq_true rfl) (Nat.le_of_ble_eq_true rfl) ⟨some_int (bI_t (bP_t (fun q => h23 (m1_iff.mpr (by rw [← hv]; exact q))))).symm, _, rfl, vM_upd (by omega) hd0 v⟩
theorem ct_add {q : Nat → Bool} {j : Nat} : nI (fb_ct q j) + bI (q j) = nI (fb_ct q (j + 1)) := by
  rw [fb_ct_succ]
  cases h : q j with
  | true => exact nI_add _ 1
  | false => exact nI_add _ 0
set_option maxRecDepth 100000 in
theorem m_setsAll {l : Launch} {Z : ZT} {Y : MT} {k : Nat → Int32} {th rf rb re : Int32} {T : Nat} (t9 y9 : Nat) {a y v f q : Int32} (hT : T < 60) (ht9 : t9 < 2) (hy9 : y9 < 8) (hsp : spanR f q) (ha : a = nI t9) (hy : y = nI y9) : mA l Z.1 (ty3 Z) yX1_setsAll cX1_setsAll 8 (some .int) (rmk 2 60 0 0) (wM Z Y k th (nI T) rf rb re) [.ref Y.1, .int a, .int y, .int v, .int f, .int q] (fun r u => r = some (.int (nI (fb_ct (fun i => bP (¬ vM k T T (t9 * 8 + y9) (nN f + i) = v)) (nN q - nN f)))) ∧ ∃ k', u = wM Z Y k' th (nI T) rf rb re ∧ vM k' T = updR (vM k T) T (t9 * 8 + y9) (fun _ => v) (nN f) (nN q)) := by
  refine mA_intro (own := RX1) [(0, .ref Y.1), (1, .int a), (2, .int y), (3, .int v), (4, .int f), (5, .int q)] (by decide +kernel) rfl rfl rfl rfl ?_
  intro p e s m args below meth c A K hr hin
  have ⟨f1, f2, f3, f4, f5⟩ := spanR_N hsp
  refine gg_iconst K (v := 0) dX1_setsAll_0 (by decide) ?_
  refine gg_istore K dX1_setsAll_1 (by decide) ?_
  refine gg_iload K dX1_setsAll_3 rfl ?_
  refine gg_istore K dX1_setsAll_5 (by decide) ?_
  refine gg_sub (L' := [(7, .int (nI (nN f + 0))), (6, .int (nI (fb_ct (fun i => bP (¬ vM k T T (t9 * 8 + y9) (nN f + i) = v)) 0))), (0, .ref Y.1), (1, .int a), (2, .int y), (3, .int v), (4, .int f), (5, .int q)]) ⟨by rw [← show f = nI (nN f + 0) from f2]; rfl, rfl, rfl, rfl, rfl, rfl, rfl, rfl, trivial⟩ ?_
  refine gg_loop (fun i w L => ∃ (j : Nat) (k' : Nat → Int32), j + i = nN q - nN f + 1 ∧ w = wM Z Y k' th (nI T) rf rb re ∧ j ≤ nN q - nN f ∧ L = [(7, .int (nI (nN f + j))), (6, .int (nI (fb_ct (fun i => bP (¬ vM k T T (t9 * 8 + y9) (nN f + i) = v)) j))), (0, .ref Y.1), (1, .int a), (2, .int y), (3, .int v), (4, .int f), (5, .int q)] ∧ vM k' T = updR (vM k T) T (t9 * 8 + y9) (fun _ => v) (nN f) (nN f + j)) (fun w L h => ?_) (fun i w L h ih => ?_) (nN q - nN f + 1) _ _ ⟨0, k, by omega, rfl, by omega, rfl, (updR_0 _ _ _ _ _).symm⟩
  · obtain ⟨j, k', hj, -, h2, -⟩ := h
    omega
  · obtain ⟨j, k', hj, rfl, hj1, rfl, hk⟩ := h
    refine gg_iload K dX1_setsAll_7 rfl ?_
    refine gg_iload K dX1_setsAll_9 rfl ?_
    refine gg_icmp_ge K (tgt := 34) dX1_setsAll_11 (by decide) (fun h11 => ?_) (fun h11 => ?_)
    · rw [f5] at h11
      have hj2 := i_le h11
      have hj3 : j = nN q - nN f := by omega
      subst hj3
      rw [show nN f + (nN q - nN f) = nN q by omega] at hk
      refine gg_iload K dX1_setsAll_34 rfl ?_
      exact gg_iret K hr dX1_setsAll_36 (Nat.le_of_ble_eq_true rfl) (Nat.le_of_ble_eq_true rfl) ⟨rfl, k', rfl, hk⟩
    rw [f5] at h11
    have hj2 := i_nle h11
    refine gg_iload K dX1_setsAll_14 rfl ?_
    refine gg_aload_n K (i := 0) dX1_setsAll_16 rfl rfl ?_
    refine gg_iload_n K (i := 1) dX1_setsAll_17 rfl rfl ?_
    refine gg_iload_n K (i := 2) dX1_setsAll_18 rfl rfl ?_
    refine gg_iload_n K (i := 3) dX1_setsAll_19 rfl rfl ?_
    refine gg_iload K dX1_setsAll_20 rfl ?_
    refine gg_callUM K k_X1_X1_sets (m_sets t9 y9 (nN f + j) hT ht9 hy9 (by omega) ha hy rfl) dX1_setsAll_22 rfl rfl rfl rfl ⟨rfl, rfl⟩ (fun v9 u h => ?_)
    obtain ⟨rfl, k2, rfl, hk2⟩ := h
    rw [hk, updR_step (g := fun _ => v) (by omega)] at hk2
    refine gg_iadd K dX1_setsAll_25 ?_
    refine gg_top (y := nI (fb_ct (fun i => bP (¬ vM k T T (t9 * 8 + y9) (nN f + i) = v)) (j + 1))) (by rw [hk, updR_at (Nat.le_refl _)]; exact ct_add (q := (fun i => bP (¬ vM k T T (t9 * 8 + y9) (nN f + i) = v)))) ?_
    refine gg_istore K dX1_setsAll_26 (by decide) ?_
    refine gg_iinc K (v := nI (nN f + j + 1)) dX1_setsAll_28 rfl (nI_inc (nN f + j)) (by decide) ?_
    refine gg_goto K (tgt := 7) dX1_setsAll_31 (by decide) ?_
    refine gg_sub (L' := [(7, .int (nI (nN f + (j + 1)))), (6, .int (nI (fb_ct (fun i => bP (¬ vM k T T (t9 * 8 + y9) (nN f + i) = v)) (j + 1)))), (0, .ref Y.1), (1, .int a), (2, .int y), (3, .int v), (4, .int f), (5, .int q)]) ⟨rfl, rfl, rfl, rfl, rfl, rfl, rfl, rfl, trivial⟩ ?_
    exact ih _ _ ⟨j + 1, k2, by omega, rfl, by omega, rfl, hk2⟩
end
section
/-! the model: runs read; questions -/
set_option maxRecDepth 100000 in
theorem m_begins {l : Launch} {Z : ZT} {Y : MT} {k : Nat → Int32} {th rf rb re : Int32} {T : Nat} (r t9 y9 d : Nat) {t y q z : Int32} (hT : T < 60) (hr0 : r ≤ T) (ht9 : t9 < 2) (hy9 : y9 < 8) (hd0 : d < 60) (ht : t = nI t9) (hy : y = nI y9) (hq : q = nI r) (hz : z = nI d) : mR l Z yX1_begins cX1_begins 6 (some .boolean) (rmk 2 60 0 0) (wM Z Y k th (nI T) rf rb re) [.ref Y.1, .int t, .int y, .int q, .int z] (.int (bI (stF (vM k T r (t9 * 8 + y9)) d))) := by
  refine mA_intro (own := RX1) [(0, .ref Y.1), (1, .int t), (2, .int y), (3, .int q), (4, .int z)] (by decide +kernel) rfl rfl rfl rfl ?_
  intro p e s m args below meth c A K hr hin
  refine gg_aload_n K (i := 0) dX1_begins_0 rfl rfl ?_
  refine gg_iload_n K (i := 3) dX1_begins_1 rfl rfl ?_
  refine gg_iload_n K (i := 1) dX1_begins_2 rfl rfl ?_
  refine gg_iload_n K (i := 2) dX1_begins_3 rfl rfl ?_
  refine gg_iload K dX1_begins_4 rfl ?_
  refine gg_callRM K k_X1_X1_of (m_of r t9 y9 d hT hr0 ht9 hy9 hd0 hq ht hy hz) dX1_begins_6 rfl rfl rfl rfl ⟨rfl, rfl⟩ ?_
  refine gg_istore K dX1_begins_9 (by decide) ?_
  refine gg_iload K dX1_begins_11 rfl ?_
  refine gg_iconst K (v := (-1)) dX1_begins_13 (by decide) ?_
  refine gg_icmp_eq K (tgt := 42) dX1_begins_14 (by decide) (fun h14 => ?_) (fun h14 => ?_)
  · refine gg_iconst K (v := 0) dX1_begins_42 (by decide) ?_
    exact gg_zret K hr dX1_begins_43 (Or.inl rfl) (Nat.le_of_ble_eq_true rfl) (Nat.le_of_ble_eq_true rfl) ⟨some_int (bI_f (stF_f (fun q => q.1 h14))).symm, rfl⟩
  subst hz
  refine gg_iload K dX1_begins_17 rfl ?_
  refine gg_if_eq K (tgt := 38) dX1_begins_19 (by decide) (fun h19 => ?_) (fun h19 => ?_)
  · refine gg_iconst K (v := 1) dX1_begins_38 (by decide) ?_
    refine gg_goto K (tgt := 43) dX1_begins_39 (by decide) ?_
    exact gg_zret K hr dX1_begins_43 (Or.inr rfl) (Nat.le_of_ble_eq_true rfl) (Nat.le_of_ble_eq_true rfl) ⟨some_int (bI_t (stF_t h14 (Or.inl (i_eq (b := 0) h19)))).symm, rfl⟩
  have hd1 : ¬ d = 0 := fun q => h19 (by rw [q]; rfl)
  refine gg_aload_n K (i := 0) dX1_begins_22 rfl rfl ?_
  refine gg_iload_n K (i := 3) dX1_begins_23 rfl rfl ?_
  refine gg_iload_n K (i := 1) dX1_begins_24 rfl rfl ?_
  refine gg_iload_n K (i := 2) dX1_begins_25 rfl rfl ?_
  refine gg_iload K dX1_begins_26 rfl ?_
  refine gg_iconst K (v := 1) dX1_begins_28 (by decide) ?_
  refine gg_isub K dX1_begins_29 ?_
  refine gg_callRM K k_X1_X1_of (m_of r t9 y9 (d - 1) hT hr0 ht9 hy9 (by omega) hq ht hy (nI_sub1 (by omega))) dX1_begins_30 rfl rfl rfl rfl ⟨rfl, rfl⟩ ?_
  refine gg_iload K dX1_begins_33 rfl ?_
  refine gg_icmp_eq K (tgt := 42) dX1_begins_35 (by decide) (fun h35 => ?_) (fun h35 => ?_)
  · refine gg_iconst K (v := 0) dX1_begins_42 (by decide) ?_
    exact gg_zret K hr dX1_begins_43 (Or.inl rfl) (Nat.le_of_ble_eq_true rfl) (Nat.le_of_ble_eq_true rfl) ⟨some_int (bI_f (stF_f (fun q => q.2.elim hd1 (fun z => z h35)))).symm, rfl⟩
  · refine gg_iconst K (v := 1) dX1_begins_38 (by decide) ?_
    refine gg_goto K (tgt := 43) dX1_begins_39 (by decide) ?_
    exact gg_zret K hr dX1_begins_43 (Or.inr rfl) (Nat.le_of_ble_eq_true rfl) (Nat.le_of_ble_eq_true rfl) ⟨some_int (bI_t (stF_t h14 (Or.inr h35))).symm, rfl⟩
set_option maxRecDepth 100000 in
theorem m_end {l : Launch} {Z : ZT} {Y : MT} {k : Nat → Int32} {th rf rb re : Int32} {T : Nat} (r t9 y9 d : Nat) {t y q z : Int32} (hT : T < 60) (hr0 : r ≤ T) (ht9 : t9 < 2) (hy9 : y9 < 8) (hd0 : d < 60) (ht : t = nI t9) (hy : y = nI y9) (hq : q = nI r) (hz : z = nI d) : mR l Z yX1_end cX1_end 6 (some .int) (rmk 2 60 0 0) (wM Z Y k th (nI T) rf rb re) [.ref Y.1, .int t, .int y, .int q, .int z] (.int (nI (endF (vM k T r (t9 * 8 + y9)) d))) := by
  refine mA_intro (own := RX1) [(0, .ref Y.1), (1, .int t), (2, .int y), (3, .int q), (4, .int z)] (by decide +kernel) rfl rfl rfl rfl ?_
  intro p e s m args below meth c A K hr hin
  refine gg_iload K dX1_end_0 rfl ?_
  refine gg_istore K dX1_end_2 (by decide) ?_
  refine gg_sub (L' := [(5, .int (nI d)), (0, .ref Y.1), (1, .int t), (2, .int y), (3, .int q), (4, .int z)]) ⟨by rw [← hz]; rfl, rfl, rfl, rfl, rfl, rfl, trivial⟩ ?_
  have hend : endF (vM k T r (t9 * 8 + y9)) d = enF (vM k T r (t9 * 8 + y9)) (vM k T r (t9 * 8 + y9) d) (60 - d) d := by
    rw [show 60 - d = (59 - d) + 1 by omega]
    exact (if_pos rfl).symm
  refine gg_loop (fun i w L => ∃ j : Nat, j + i = 61 ∧ w = wM Z Y k th (nI T) rf rb re ∧ L = [(5, .int (nI j)), (0, .ref Y.1), (1, .int t), (2, .int y), (3, .int q), (4, .int z)] ∧ j ≤ 60 ∧ endF (vM k T r (t9 * 8 + y9)) d = enF (vM k T r (t9 * 8 + y9)) (vM k T r (t9 * 8 + y9) d) (60 - j) j) (fun w L h => ?_) (fun i w L h ih => ?_) (61 - d) _ _ ⟨d, by omega, rfl, rfl, by omega, hend⟩
  · obtain ⟨j, h1, -, -, h2, -⟩ := h
    omega
  · obtain ⟨j, hj, rfl, rfl, -, he⟩ := h
    refine gg_iload K dX1_end_4 rfl ?_
    refine gg_bipush K (v := 60) dX1_end_6 (by decide) ?_
    refine gg_icmp_ge K (tgt := 38) dX1_end_8 (by decide) (fun h8 => ?_) (fun h8 => ?_)
    · have hj2 := i_le (a := 60) h8
      refine gg_iload K dX1_end_38 rfl ?_
      exact gg_iret K hr dX1_end_40 (Nat.le_of_ble_eq_true rfl) (Nat.le_of_ble_eq_true rfl) ⟨some_int (by rw [he, show 60 - j = 0 by omega]; rfl), rfl⟩
    have hj2 := i_nle (a := 60) h8
    rw [show 60 - j = (59 - j) + 1 by omega] at he
    unfold enF at he
    refine gg_aload_n K (i := 0) dX1_end_11 rfl rfl ?_
    refine gg_iload_n K (i := 3) dX1_end_12 rfl rfl ?_
    refine gg_iload_n K (i := 1) dX1_end_13 rfl rfl ?_
    refine gg_iload_n K (i := 2) dX1_end_14 rfl rfl ?_
    refine gg_iload K dX1_end_15 rfl ?_
    refine gg_callRM K k_X1_X1_of (m_of r t9 y9 j hT hr0 ht9 hy9 hj2 hq ht hy rfl) dX1_end_17 rfl rfl rfl rfl ⟨rfl, rfl⟩ ?_
    refine gg_aload_n K (i := 0) dX1_end_20 rfl rfl ?_
    refine gg_iload_n K (i := 3) dX1_end_21 rfl rfl ?_
    refine gg_iload_n K (i := 1) dX1_end_22 rfl rfl ?_
    refine gg_iload_n K (i := 2) dX1_end_23 rfl rfl ?_
    refine gg_iload K dX1_end_24 rfl ?_
    refine gg_callRM K k_X1_X1_of (m_of r t9 y9 d hT hr0 ht9 hy9 hd0 hq ht hy hz) dX1_end_26 rfl rfl rfl rfl ⟨rfl, rfl⟩ ?_
    refine gg_icmp_ne K (tgt := 38) dX1_end_29 (by decide) (fun h29 => ?_) (fun h29 => ?_)
    · refine gg_iload K dX1_end_38 rfl ?_
      exact gg_iret K hr dX1_end_40 (Nat.le_of_ble_eq_true rfl) (Nat.le_of_ble_eq_true rfl) ⟨some_int (by rw [he, if_neg h29]), rfl⟩
    refine gg_iinc K (v := nI (j + 1)) dX1_end_32 rfl (nI_inc (j)) (by decide) ?_
    refine gg_goto K (tgt := 4) dX1_end_35 (by decide) ?_
    refine gg_sub (L' := [(5, .int (nI (j + 1))), (0, .ref Y.1), (1, .int t), (2, .int y), (3, .int q), (4, .int z)]) ⟨rfl, rfl, rfl, rfl, rfl, rfl, trivial⟩ ?_
    rw [if_pos h29] at he
    exact ih _ _ ⟨j + 1, by omega, rfl, rfl, by omega, by rw [he, show 59 - j = 60 - (j + 1) by omega]⟩
set_option maxRecDepth 100000 in
theorem m_told {l : Launch} {Z : ZT} {Y : MT} {k : Nat → Int32} {th rf rb re : Int32} {T : Nat} (r t9 y9 d : Nat) {t y q z : Int32} (hT : T < 60) (hr0 : r ≤ T) (ht9 : t9 < 2) (hy9 : y9 < 8) (hd0 : d < 60) (ht : t = nI t9) (hy : y = nI y9) (hq : q = nI r) (hz : z = nI d) : mR l Z yX1_told cX1_told 5 (some .int) (rmk 3 90 0 0) (wM Z Y k th (nI T) rf rb re) [.ref Y.1, .int t, .int y, .int q, .int z] (.int (toldF (vM k T r (t9 * 8 + y9)) d)) := by
  refine mA_intro (own := RX1) [(0, .ref Y.1), (1, .int t), (2, .int y), (3, .int q), (4, .int z)] (by decide +kernel) rfl rfl rfl rfl ?_
  intro p e s m args below meth c A K hr hin
  refine gg_aload_n K (i := 0) dX1_told_0 rfl rfl ?_
  refine gg_iload_n K (i := 1) dX1_told_1 rfl rfl ?_
  refine gg_iload_n K (i := 2) dX1_told_2 rfl rfl ?_
  refine gg_iload_n K (i := 3) dX1_told_3 rfl rfl ?_
  refine gg_iload K dX1_told_4 rfl ?_
  refine gg_callRM K k_X1_X1_begins (m_begins r t9 y9 d hT hr0 ht9 hy9 hd0 ht hy hq hz) dX1_told_6 rfl rfl rfl rfl ⟨rfl, rfl⟩ ?_
  refine gg_b_eq K (tgt := 44) dX1_told_9 (by decide) (fun h9 => ?_) (fun h9 => ?_)
  · refine gg_iconst K (v := (-1)) dX1_told_44 (by decide) ?_
    exact gg_iret K hr dX1_told_45 (Nat.le_of_ble_eq_true rfl) (Nat.le_of_ble_eq_true rfl) ⟨some_int (if_neg (by rw [h9]; decide)).symm, rfl⟩
  refine gg_sipush K (v := 10000) dX1_told_12 (by decide) ?_
  refine gg_iload K dX1_told_15 rfl ?_
  refine gg_imul K dX1_told_17 ?_
  refine gg_bipush K (v := 100) dX1_told_18 (by decide) ?_
  refine gg_aload_n K (i := 0) dX1_told_20 rfl rfl ?_
  refine gg_iload_n K (i := 1) dX1_told_21 rfl rfl ?_
  refine gg_iload_n K (i := 2) dX1_told_22 rfl rfl ?_
  refine gg_iload_n K (i := 3) dX1_told_23 rfl rfl ?_
  refine gg_iload K dX1_told_24 rfl ?_
  refine gg_callRM K k_X1_X1_end (m_end r t9 y9 d hT hr0 ht9 hy9 hd0 ht hy hq hz) dX1_told_26 rfl rfl rfl rfl ⟨rfl, rfl⟩ ?_
  refine gg_imul K dX1_told_29 ?_
  refine gg_iadd K dX1_told_30 ?_
  refine gg_aload_n K (i := 0) dX1_told_31 rfl rfl ?_
  refine gg_iload_n K (i := 3) dX1_told_32 rfl rfl ?_
  refine gg_iload_n K (i := 1) dX1_told_33 rfl rfl ?_
  refine gg_iload_n K (i := 2) dX1_told_34 rfl rfl ?_
  refine gg_iload K dX1_told_35 rfl ?_
  refine gg_callRM K k_X1_X1_of (m_of r t9 y9 d hT hr0 ht9 hy9 hd0 hq ht hy hz) dX1_told_37 rfl rfl rfl rfl ⟨rfl, rfl⟩ ?_
  refine gg_iadd K dX1_told_40 ?_
  refine gg_goto K (tgt := 45) dX1_told_41 (by decide) ?_
  exact gg_iret K hr dX1_told_45 (Nat.le_of_ble_eq_true rfl) (Nat.le_of_ble_eq_true rfl) ⟨some_int (by rw [hz]; exact (if_pos h9).symm), rfl⟩
set_option maxRecDepth 100000 in
theorem m_runsOf {l : Launch} {Z : ZT} {Y : MT} {k : Nat → Int32} {th rf rb re : Int32} {T : Nat} (r t9 y9 : Nat) {t y q : Int32} (hT : T < 60) (hr0 : r ≤ T) (ht9 : t9 < 2) (hy9 : y9 < 8) (ht : t = nI t9) (hy : y = nI y9) (hq : q = nI r) : mR l Z yX1_runsOf cX1_runsOf 6 (some .int) (rmk 3 90 0 0) (wM Z Y k th (nI T) rf rb re) [.ref Y.1, .int t, .int y, .int q] (.int (nI (fb_ct (stF (vM k T r (t9 * 8 + y9))) 60))) := by
  refine mA_intro (own := RX1) [(0, .ref Y.1), (1, .int t), (2, .int y), (3, .int q)] (by decide +kernel) rfl rfl rfl rfl ?_
  intro p e s m args below meth c A K hr hin
  refine gg_iconst K (v := 0) dX1_runsOf_0 (by decide) ?_
  refine gg_istore K dX1_runsOf_1 (by decide) ?_
  refine gg_iconst K (v := 0) dX1_runsOf_3 (by decide) ?_
  refine gg_istore K dX1_runsOf_4 (by decide) ?_
  refine gg_sub (L' := [(5, .int (nI 0)), (4, .int (nI 0)), (0, .ref Y.1), (1, .int t), (2, .int y), (3, .int q)]) ⟨rfl, rfl, rfl, rfl, rfl, rfl, trivial⟩ ?_
  refine gg_loop (fun i w L => ∃ j : Nat, j + i = 61 ∧ w = wM Z Y k th (nI T) rf rb re ∧ L = [(5, .int (nI j)), (4, .int (nI (fb_ct (stF (vM k T r (t9 * 8 + y9))) j))), (0, .ref Y.1), (1, .int t), (2, .int y), (3, .int q)] ∧ j ≤ 60) (fun w L h => ?_) (fun i w L h ih => ?_) 61 _ _ ⟨0, by omega, rfl, rfl, by omega⟩
  · obtain ⟨j, h1, -, -, h2⟩ := h
    omega
  · obtain ⟨j, hj, rfl, rfl, -⟩ := h
    refine gg_iload K dX1_runsOf_6 rfl ?_
    refine gg_bipush K (v := 60) dX1_runsOf_8 (by decide) ?_
    refine gg_icmp_ge K (tgt := 41) dX1_runsOf_10 (by decide) (fun h10 => ?_) (fun h10 => ?_)
    · have hj2 := i_le (a := 60) h10
      have hj3 : j = 60 := by omega
      subst hj3
      refine gg_iload K dX1_runsOf_41 rfl ?_
      exact gg_iret K hr dX1_runsOf_43 (Nat.le_of_ble_eq_true rfl) (Nat.le_of_ble_eq_true rfl) ⟨rfl, rfl⟩
    have hj2 := i_nle (a := 60) h10
    refine gg_iload K dX1_runsOf_13 rfl ?_
    refine gg_aload_n K (i := 0) dX1_runsOf_15 rfl rfl ?_
    refine gg_iload_n K (i := 1) dX1_runsOf_16 rfl rfl ?_
    refine gg_iload_n K (i := 2) dX1_runsOf_17 rfl rfl ?_
    refine gg_iload_n K (i := 3) dX1_runsOf_18 rfl rfl ?_
    refine gg_iload K dX1_runsOf_19 rfl ?_
    refine gg_callRM K k_X1_X1_begins (m_begins r t9 y9 j hT hr0 ht9 hy9 hj2 ht hy hq rfl) dX1_runsOf_21 rfl rfl rfl rfl ⟨rfl, rfl⟩ ?_
    refine gg_b_eq K (tgt := 31) dX1_runsOf_24 (by decide) (fun h24 => ?_) (fun h24 => ?_)
    · refine gg_iconst K (v := 0) dX1_runsOf_31 (by decide) ?_
      refine gg_iadd K dX1_runsOf_32 ?_
      refine gg_top (y := nI (fb_ct (stF (vM k T r (t9 * 8 + y9))) (j + 1))) (by rw [fb_ct_succ, h24]; exact nI_add _ 0) ?_
      refine gg_istore K dX1_runsOf_33 (by decide) ?_
      refine gg_iinc K (v := nI (j + 1)) dX1_runsOf_35 rfl (nI_inc (j)) (by decide) ?_
      refine gg_goto K (tgt := 6) dX1_runsOf_38 (by decide) ?_
      refine gg_sub (L' := [(5, .int (nI (j + 1))), (4, .int (nI (fb_ct (stF (vM k T r (t9 * 8 + y9))) (j + 1)))), (0, .ref Y.1), (1, .int t), (2, .int y), (3, .int q)]) ⟨rfl, rfl, rfl, rfl, rfl, rfl, trivial⟩ ?_
      exact ih _ _ ⟨j + 1, by omega, rfl, rfl, by omega⟩
    · refine gg_iconst K (v := 1) dX1_runsOf_27 (by decide) ?_
      refine gg_goto K (tgt := 32) dX1_runsOf_28 (by decide) ?_
      refine gg_iadd K dX1_runsOf_32 ?_
      refine gg_top (y := nI (fb_ct (stF (vM k T r (t9 * 8 + y9))) (j + 1))) (by rw [fb_ct_succ, h24]; exact nI_add _ 1) ?_
      refine gg_istore K dX1_runsOf_33 (by decide) ?_
      refine gg_iinc K (v := nI (j + 1)) dX1_runsOf_35 rfl (nI_inc (j)) (by decide) ?_
      refine gg_goto K (tgt := 6) dX1_runsOf_38 (by decide) ?_
      refine gg_sub (L' := [(5, .int (nI (j + 1))), (4, .int (nI (fb_ct (stF (vM k T r (t9 * 8 + y9))) (j + 1)))), (0, .ref Y.1), (1, .int t), (2, .int y), (3, .int q)]) ⟨rfl, rfl, rfl, rfl, rfl, rfl, trivial⟩ ?_
      exact ih _ _ ⟨j + 1, by omega, rfl, rfl, by omega⟩
set_option maxRecDepth 100000 in
theorem m_joinedOf {l : Launch} {Z : ZT} {Y : MT} {k : Nat → Int32} {th rf rb re : Int32} {T : Nat} (r key d : Nat) {y z q : Int32} (hT : T < 60) (hv : valOk (vM k T) T) (hr0 : r ≤ T) (hl0 : key < 8) (hd0 : d < 60) (hy : y = nI key) (hz : z = nI d) (hq : q = nI r) : mR l Z yX1_joinedOf cX1_joinedOf 5 (some .int) (rmk 2 60 0 0) (wM Z Y k th (nI T) rf rb re) [.ref Y.1, .int y, .int z, .int q] (.int (jnF (vM k T) r key d)) := by
  refine mA_intro (own := RX1) [(0, .ref Y.1), (1, .int y), (2, .int z), (3, .int q)] (by decide +kernel) rfl rfl rfl rfl ?_
  intro p e s m args below meth c A K hr hin
  refine gg_aload_n K (i := 0) dX1_joinedOf_0 rfl rfl ?_
  refine gg_iload_n K (i := 3) dX1_joinedOf_1 rfl rfl ?_
  refine gg_iconst K (v := 1) dX1_joinedOf_2 (by decide) ?_
  refine gg_iload_n K (i := 1) dX1_joinedOf_3 rfl rfl ?_
  refine gg_iload_n K (i := 2) dX1_joinedOf_4 rfl rfl ?_
  refine gg_callRM K k_X1_X1_of (m_of r 1 key d hT hr0 (by omega) hl0 hd0 hq rfl hy hz) dX1_joinedOf_5 rfl rfl rfl rfl ⟨rfl, rfl⟩ ?_
  rw [show 1 * 8 + key = 8 + key by omega]
  refine gg_istore K dX1_joinedOf_8 (by decide) ?_
  refine gg_iload K dX1_joinedOf_10 rfl ?_
  refine gg_iconst K (v := (-1)) dX1_joinedOf_12 (by decide) ?_
  refine gg_icmp_ne K (tgt := 20) dX1_joinedOf_13 (by decide) (fun h13 => ?_) (fun h13 => ?_)
  rotate_left
  · refine gg_iconst K (v := (-1)) dX1_joinedOf_16 (by decide) ?_
    refine gg_goto K (tgt := 29) dX1_joinedOf_17 (by decide) ?_
    exact gg_iret K hr dX1_joinedOf_29 (Nat.le_of_ble_eq_true rfl) (Nat.le_of_ble_eq_true rfl) ⟨some_int (if_pos h13).symm, rfl⟩
  obtain ⟨j, hj1, -, hj2⟩ := (hv r (8 + key) d hr0 (by omega) hd0).resolve_left h13
  have hj2 := hj2 (by omega)
  refine gg_aload_n K (i := 0) dX1_joinedOf_20 rfl rfl ?_
  refine gg_iload_n K (i := 3) dX1_joinedOf_21 rfl rfl ?_
  refine gg_iconst K (v := 0) dX1_joinedOf_22 (by decide) ?_
  refine gg_iload K dX1_joinedOf_23 rfl ?_
  refine gg_iload_n K (i := 2) dX1_joinedOf_25 rfl rfl ?_
  refine gg_callRM K k_X1_X1_of (m_of r 0 j d hT hr0 (by omega) hj2 hd0 hq rfl hj1 hz) dX1_joinedOf_26 rfl rfl rfl rfl ⟨rfl, rfl⟩ ?_
  exact gg_iret K hr dX1_joinedOf_29 (Nat.le_of_ble_eq_true rfl) (Nat.le_of_ble_eq_true rfl) ⟨some_int (by unfold jnF; rw [if_neg h13, hj1, nI_clamp (by omega), show 0 * 8 + j = j by omega]), rfl⟩
noncomputable def eR (P : Prop) (q : Int32) (T : Nat) : Int32 := if bP (P ∧ inR q 60) = true then (if q ≤ nI T then 0 else 2) else 1
theorem eR_0 {P : Prop} {q : Int32} {T : Nat} : eR P q T = 0 ↔ ((P ∧ inR q 60) ∧ q ≤ nI T) := by
  unfold eR
  by_cases h : P ∧ inR q 60
  · rw [if_pos (bP_t h)]
    by_cases h2 : q ≤ nI T
    · rw [if_pos h2]
      exact ⟨fun _ => ⟨h, h2⟩, fun _ => rfl⟩
    · rw [if_neg h2]
      exact ⟨fun z => absurd z (by decide), fun z => absurd z.2 h2⟩
  · rw [if_neg (fun z => h (bP_iff.mp z))]
    exact ⟨fun z => absurd z (by decide), fun z => absurd z.1 h⟩
theorem eR_le {P : Prop} {q : Int32} {T : Nat} (h : eR P q T ≤ 0) : eR P q T = 0 := by
  unfold eR at h ⊢
  by_cases h1 : bP (P ∧ inR q 60) = true
  · rw [if_pos h1] at h ⊢
    by_cases h2 : q ≤ nI T
    · rw [if_pos h2]
    · rw [if_neg h2] at h; exact absurd h (by decide)
  · rw [if_neg h1] at h; exact absurd h (by decide)
theorem qS_e {V : VT} {T : Nat} {P P1 P2 : Prop} {q r r0 : Int32} (h : ¬ eR P q T = 0) (h1 : P1 ↔ P ∧ inR q 60) (h2 : P2 → q ≤ nI T) : qS V T P1 P2 r0 (eR P q T) r V T := by
  refine ⟨rfl, rfl, ?_⟩
  by_cases hp : P ∧ inR q 60
  · have hq : ¬ q ≤ nI T := fun z => h (eR_0.mpr ⟨hp, z⟩)
    refine Or.inr (Or.inl ⟨h1.mpr hp, fun z => hq (h2 z), ?_⟩)
    unfold eR
    rw [if_pos (bP_t hp), if_neg hq]
  · refine Or.inl ⟨fun z => hp (h1.mp z), ?_⟩
    unfold eR
    rw [if_neg (fun z => hp (bP_iff.mp z))]
set_option maxRecDepth 100000 in
theorem m_errR {l : Launch} {Z : ZT} {Y : MT} {k : Nat → Int32} {th rf rb re : Int32} {T : Nat} {P : Prop} {b : Bool} (hT : T < 60) (hb : b = true ↔ P) {x q : Int32} (hx : x = bI b) : mR l Z yX1_errorOfRecord cX1_errorOfRecord 3 (some .int) (rmk 2 60 0 0) (wM Z Y k th (nI T) rf rb re) [.ref Y.1, .int x, .int q] (.int (eR P q T)) := by
  refine mA_intro (own := RX1) [(0, .ref Y.1), (1, .int x), (2, .int q)] (by decide +kernel) rfl rfl rfl rfl ?_
  intro p e s m args below meth c A K hr hin
  subst hx
  refine gg_iload_n K (i := 1) dX1_errorOfRecord_0 rfl rfl ?_
  refine gg_b_eq K (tgt := 11) dX1_errorOfRecord_1 (by decide) (fun h1 => ?_) (fun h1 => ?_)
  · refine gg_iconst K (v := 1) dX1_errorOfRecord_11 (by decide) ?_
    refine gg_goto K (tgt := 28) dX1_errorOfRecord_12 (by decide) ?_
    exact gg_iret K hr dX1_errorOfRecord_28 (Nat.le_of_ble_eq_true rfl) (Nat.le_of_ble_eq_true rfl) ⟨some_int (if_neg (fun z => by have := hb.mpr (bP_iff.mp z).1; rw [h1] at this; cases this)).symm, rfl⟩
  refine gg_iload_n K (i := 2) dX1_errorOfRecord_4 rfl rfl ?_
  refine gg_callSR K k_X1_X1_isDay m_isDay dX1_errorOfRecord_5 rfl rfl rfl rfl ⟨rfl, rfl⟩ ?_
  refine gg_b_ne K (tgt := 15) dX1_errorOfRecord_8 (by decide) (fun h8 => ?_) (fun h8 => ?_)
  rotate_left
  · refine gg_iconst K (v := 1) dX1_errorOfRecord_11 (by decide) ?_
    refine gg_goto K (tgt := 28) dX1_errorOfRecord_12 (by decide) ?_
    exact gg_iret K hr dX1_errorOfRecord_28 (Nat.le_of_ble_eq_true rfl) (Nat.le_of_ble_eq_true rfl) ⟨some_int (if_neg (fun z => bP_nf h8 (bP_iff.mp z).2)).symm, rfl⟩
  have hp : P ∧ inR q 60 := ⟨hb.mp h1, bP_iff.mp h8⟩
  refine gg_iload_n K (i := 2) dX1_errorOfRecord_15 rfl rfl ?_
  refine gg_aload_n K (i := 0) dX1_errorOfRecord_16 rfl rfl ?_
  refine gM_today K dX1_errorOfRecord_17 ?_
  refine gg_icmp_le K (tgt := 27) dX1_errorOfRecord_20 (by decide) (fun h20 => ?_) (fun h20 => ?_)
  · refine gg_iconst K (v := 0) dX1_errorOfRecord_27 (by decide) ?_
    exact gg_iret K hr dX1_errorOfRecord_28 (Nat.le_of_ble_eq_true rfl) (Nat.le_of_ble_eq_true rfl) ⟨some_int (by unfold eR; rw [if_pos (bP_t hp), if_pos h20]), rfl⟩
  · refine gg_iconst K (v := 2) dX1_errorOfRecord_23 (by decide) ?_
    refine gg_goto K (tgt := 28) dX1_errorOfRecord_24 (by decide) ?_
    exact gg_iret K hr dX1_errorOfRecord_28 (Nat.le_of_ble_eq_true rfl) (Nat.le_of_ble_eq_true rfl) ⟨some_int (by unfold eR; rw [if_pos (bP_t hp), if_neg h20]), rfl⟩
def mPost (Z : ZT) (Y : MT) (S : ST) : Option Value → va_W → Prop := fun ret u => ∃ (c r : Int32) (k' : Nat → Int32) (T' : Nat) (rf rb re : Int32), ret = some (.int r) ∧ u = wM Z Y k' c (nI T') rf rb re ∧ S c r (vM k' T') T'
theorem mQe {Z : ZT} {Y : MT} {k : Nat → Int32} {T : Nat} {rf rb re : Int32} {P P1 P2 : Prop} {q r r0 : Int32} (h : ¬ eR P q T = 0) (h1 : P1 ↔ P ∧ inR q 60) (h2 : P2 → q ≤ nI T) : mPost Z Y (qS (vM k T) T P1 P2 r0) (some (.int r)) (wM Z Y k (eR P q T) (nI T) rf rb re) := ⟨_, r, k, T, rf, rb, re, rfl, rfl, qS_e h h1 h2⟩
theorem mQ0 {Z : ZT} {Y : MT} {k : Nat → Int32} {T : Nat} {rf rb re : Int32} {P1 P2 : Prop} {c r r0 : Int32} (hc : c = 0) (h1 : P1) (h2 : P2) (e : r = r0) : mPost Z Y (qS (vM k T) T P1 P2 r0) (some (.int r)) (wM Z Y k c (nI T) rf rb re) := ⟨c, r, k, T, rf, rb, re, rfl, rfl, rfl, rfl, Or.inr (Or.inr ⟨h1, h2, hc, e⟩)⟩
set_option maxRecDepth 100000 in
theorem m_value {l : Launch} {Z : ZT} {Y : MT} {k : Nat → Int32} {th rf rb re : Int32} {T : Nat} (hT : T < 60) {t y d q : Int32} : mA l Z.1 (ty3 Z) yX1_value cX1_value 5 (some .int) (rmk 9 200 0 0) (wM Z Y k th (nI T) rf rb re) [.ref Y.1, .int t, .int y, .int d, .int q] (mPost Z Y (qS (vM k T) T (inR t 2 ∧ inR y 8 ∧ inR d 60 ∧ inR q 60) (q ≤ nI T) (vM k T (nN q) (nN t * 8 + nN y) (nN d)))) := by
  refine mA_intro (own := RX1) [(0, .ref Y.1), (1, .int t), (2, .int y), (3, .int d), (4, .int q)] (by decide +kernel) rfl rfl rfl rfl ?_
  intro p e s m args below meth c A K hr hin
  refine gg_cut (inR t 2 ∧ inR y 8 ∧ inR d 60) 22 [(0, .ref Y.1), (1, .int t), (2, .int y), (3, .int d), (4, .int q)] [.ref Y.1, .ref Y.1] (fun b hb => ?_) (fun J => ?_)
  · refine gg_iload K dX1_value_22 rfl ?_
    refine gg_callRM K k_X1_X1_errorOfRecord (m_errR hT hb rfl) dX1_value_24 rfl rfl rfl rfl ⟨rfl, rfl⟩ ?_
    refine gg_callUM K k_X1_X1_holds m_holds dX1_value_27 rfl rfl rfl rfl ⟨rfl, rfl⟩ (fun v9 u h => ?_)
    obtain ⟨rfl, rfl⟩ := h
    refine gg_b_eq K (tgt := 45) dX1_value_30 (by decide) (fun h30 => ?_) (fun h30 => ?_)
    · refine gg_iconst K (v := 0) dX1_value_45 (by decide) ?_
      exact gg_iret K hr dX1_value_46 (Nat.le_of_ble_eq_true rfl) (Nat.le_of_ble_eq_true rfl) (mQe (bP_nf h30) ⟨fun h => ⟨⟨h.1, h.2.1, h.2.2.1⟩, h.2.2.2⟩, fun h => ⟨h.1.1, h.1.2.1, h.1.2.2, h.2⟩⟩ id)
    have he := eR_0.mp (bP_iff.mp h30)
    obtain ⟨⟨⟨h1, h2, h3⟩, h4⟩, h5⟩ := he
    have ⟨a1, a2⟩ := inR_N (b := 2) h1
    have ⟨b1, b2⟩ := inR_N (b := 8) h2
    have ⟨d1, d2⟩ := inR_N (b := 60) h3
    have ⟨q1, q2⟩ := inR_N (b := 60) h4
    refine gg_aload_n K (i := 0) dX1_value_33 rfl rfl ?_
    refine gg_iload K dX1_value_34 rfl ?_
    refine gg_iload_n K (i := 1) dX1_value_36 rfl rfl ?_
    refine gg_iload_n K (i := 2) dX1_value_37 rfl rfl ?_
    refine gg_iload_n K (i := 3) dX1_value_38 rfl rfl ?_
    refine gg_callRM K k_X1_X1_of (m_of (nN q) (nN t) (nN y) (nN d) hT (leT q2 q1 hT h5) a1 b1 d1 q2 a2 b2 d2) dX1_value_39 rfl rfl rfl rfl ⟨rfl, rfl⟩ ?_
    refine gg_goto K (tgt := 46) dX1_value_42 (by decide) ?_
    exact gg_iret K hr dX1_value_46 (Nat.le_of_ble_eq_true rfl) (Nat.le_of_ble_eq_true rfl) (mQ0 (bP_iff.mp h30) ⟨h1, h2, h3, h4⟩ h5 rfl)
  refine gg_aload_n K (i := 0) dX1_value_0 rfl rfl ?_
  refine gg_aload_n K (i := 0) dX1_value_1 rfl rfl ?_
  refine gg_iload_n K (i := 1) dX1_value_2 rfl rfl ?_
  refine gg_iload_n K (i := 2) dX1_value_3 rfl rfl ?_
  refine gg_callSR K k_X1_X1_isKey m_isKey dX1_value_4 rfl rfl rfl rfl ⟨rfl, rfl⟩ ?_
  refine gg_b_eq K (tgt := 21) dX1_value_7 (by decide) (fun h7 => ?_) (fun h7 => ?_)
  · refine gg_iconst K (v := 0) dX1_value_21 (by decide) ?_
    exact J false (ft_iff (fun z => bP_nf h7 ⟨z.1, z.2.1⟩))
  refine gg_iload_n K (i := 3) dX1_value_10 rfl rfl ?_
  refine gg_callSR K k_X1_X1_isDay m_isDay dX1_value_11 rfl rfl rfl rfl ⟨rfl, rfl⟩ ?_
  refine gg_b_eq K (tgt := 21) dX1_value_14 (by decide) (fun h14 => ?_) (fun h14 => ?_)
  · refine gg_iconst K (v := 0) dX1_value_21 (by decide) ?_
    exact J false (ft_iff (fun z => bP_nf h14 z.2.2))
  · refine gg_iconst K (v := 1) dX1_value_17 (by decide) ?_
    refine gg_goto K (tgt := 22) dX1_value_18 (by decide) ?_
    exact J true (tt_iff ⟨(bP_iff.mp h7).1, (bP_iff.mp h7).2, bP_iff.mp h14⟩)
set_option maxRecDepth 100000 in
theorem m_keys {l : Launch} {Z : ZT} {Y : MT} {k : Nat → Int32} {th rf rb re : Int32} {T : Nat} (hT : T < 60) {t d q : Int32} : mA l Z.1 (ty3 Z) yX1_keys cX1_keys 6 (some .int) (rmk 9 200 0 0) (wM Z Y k th (nI T) rf rb re) [.ref Y.1, .int t, .int d, .int q] (mPost Z Y (qS (vM k T) T (inR t 2 ∧ inR d 60 ∧ inR q 60) (q ≤ nI T) (kyF (fun i => vM k T (nN q) (nN t * 8 + i) (nN d)) 8))) := by
  refine mA_intro (own := RX1) [(0, .ref Y.1), (1, .int t), (2, .int d), (3, .int q)] (by decide +kernel) rfl rfl rfl rfl ?_
  intro p e s m args below meth c A K hr hin
  refine gg_cut (inR t 2 ∧ inR d 60) 23 [(0, .ref Y.1), (1, .int t), (2, .int d), (3, .int q)] [.ref Y.1, .ref Y.1] (fun b hb => ?_) (fun J => ?_)
  · refine gg_iload_n K (i := 3) dX1_keys_23 rfl rfl ?_
    refine gg_callRM K k_X1_X1_errorOfRecord (m_errR hT hb rfl) dX1_keys_24 rfl rfl rfl rfl ⟨rfl, rfl⟩ ?_
    refine gg_callUM K k_X1_X1_holds m_holds dX1_keys_27 rfl rfl rfl rfl ⟨rfl, rfl⟩ (fun v9 u h => ?_)
    obtain ⟨rfl, rfl⟩ := h
    refine gg_b_ne K (tgt := 35) dX1_keys_30 (by decide) (fun h30 => ?_) (fun h30 => ?_)
    rotate_left
    · refine gg_iconst K (v := 0) dX1_keys_33 (by decide) ?_
      exact gg_iret K hr dX1_keys_34 (Nat.le_of_ble_eq_true rfl) (Nat.le_of_ble_eq_true rfl) (mQe (bP_nf h30) ⟨fun h => ⟨⟨h.1, h.2.1⟩, h.2.2⟩, fun h => ⟨h.1.1, h.1.2, h.2⟩⟩ id)
    have he := eR_0.mp (bP_iff.mp h30)
    obtain ⟨⟨⟨h1, h3⟩, h4⟩, h5⟩ := he
    have ⟨a1, a2⟩ := inR_N (b := 2) h1
    have ⟨d1, d2⟩ := inR_N (b := 60) h3
    have ⟨q1, q2⟩ := inR_N (b := 60) h4
    refine gg_iconst K (v := 0) dX1_keys_35 (by decide) ?_
    refine gg_istore K dX1_keys_36 (by decide) ?_
    refine gg_iconst K (v := 0) dX1_keys_38 (by decide) ?_
    refine gg_istore K dX1_keys_39 (by decide) ?_
    refine gg_sub (L' := [(5, .int (nI 0)), (4, .int 0), (0, .ref Y.1), (1, .int t), (2, .int d), (3, .int q)]) ⟨rfl, rfl, rfl, rfl, rfl, rfl, trivial⟩ ?_
    refine gg_loop (fun i w L => ∃ (j : Nat), j + i = 9 ∧ w = wM Z Y k (eR (inR t 2 ∧ inR d 60) q T) (nI T) rf rb re ∧ j ≤ 8 ∧ L = [(5, .int (nI j)), (4, .int ((kyF (fun i => vM k T (nN q) (nN t * 8 + i) (nN d)) (j)))), (0, .ref Y.1), (1, .int t), (2, .int d), (3, .int q)]) (fun w L h => ?_) (fun i w L h ih => ?_) 9 _ _ ⟨0, rfl, rfl, by omega, rfl⟩
    · obtain ⟨j, hj, -, h2, -⟩ := h
      omega
    · obtain ⟨j, hj, rfl, -, rfl⟩ := h
      refine gg_iload K dX1_keys_41 rfl ?_
      refine gg_bipush K (v := 8) dX1_keys_43 (by decide) ?_
      refine gg_icmp_ge K (tgt := 80) dX1_keys_45 (by decide) (fun h45 => ?_) (fun h45 => ?_)
      · have hj2 := i_le (a := 8) h45
        have hj3 : j = 8 := by omega
        subst hj3
        refine gg_iload K dX1_keys_80 rfl ?_
        exact gg_iret K hr dX1_keys_82 (Nat.le_of_ble_eq_true rfl) (Nat.le_of_ble_eq_true rfl) (mQ0 (bP_iff.mp h30) ⟨h1, h3, h4⟩ h5 rfl)
      have hj2 := i_nle (a := 8) h45
      refine gg_iload K dX1_keys_48 rfl ?_
      refine gg_aload_n K (i := 0) dX1_keys_50 rfl rfl ?_
      refine gg_iload_n K (i := 3) dX1_keys_51 rfl rfl ?_
      refine gg_iload_n K (i := 1) dX1_keys_52 rfl rfl ?_
      refine gg_iload K dX1_keys_53 rfl ?_
      refine gg_iload_n K (i := 2) dX1_keys_55 rfl rfl ?_
      refine gg_callRM K k_X1_X1_of (m_of (nN q) (nN t) j (nN d) hT (leT q2 q1 hT h5) a1 hj2 d1 q2 a2 rfl d2) dX1_keys_56 rfl rfl rfl rfl ⟨rfl, rfl⟩ ?_
      refine gg_iconst K (v := (-1)) dX1_keys_59 (by decide) ?_
      refine gg_icmp_ne K (tgt := 67) dX1_keys_60 (by decide) (fun h60 => ?_) (fun h60 => ?_)
      · refine gg_iconst K (v := 1) dX1_keys_67 (by decide) ?_
        refine gg_iload K dX1_keys_68 rfl ?_
        refine gg_ishl K dX1_keys_70 ?_
        refine gg_ior K dX1_keys_71 ?_
        refine gg_top (y := (kyF (fun i => vM k T (nN q) (nN t * 8 + i) (nN d)) ((j + 1)))) (if_neg h60).symm ?_
        refine gg_istore K dX1_keys_72 (by decide) ?_
        refine gg_iinc K (v := nI (j + 1)) dX1_keys_74 rfl (nI_inc (j)) (by decide) ?_
        refine gg_goto K (tgt := 41) dX1_keys_77 (by decide) ?_
        refine gg_sub (L' := [(5, .int (nI (j + 1))), (4, .int ((kyF (fun i => vM k T (nN q) (nN t * 8 + i) (nN d)) ((j + 1))))), (0, .ref Y.1), (1, .int t), (2, .int d), (3, .int q)]) ⟨rfl, rfl, rfl, rfl, rfl, rfl, trivial⟩ ?_
        exact ih _ _ ⟨j + 1, by omega, rfl, by omega, rfl⟩
      · refine gg_iconst K (v := 0) dX1_keys_63 (by decide) ?_
        refine gg_goto K (tgt := 71) dX1_keys_64 (by decide) ?_
        refine gg_ior K dX1_keys_71 ?_
        refine gg_top (y := (kyF (fun i => vM k T (nN q) (nN t * 8 + i) (nN d)) ((j + 1)))) ((Int32.or_zero).trans (if_pos h60).symm) ?_
        refine gg_istore K dX1_keys_72 (by decide) ?_
        refine gg_iinc K (v := nI (j + 1)) dX1_keys_74 rfl (nI_inc (j)) (by decide) ?_
        refine gg_goto K (tgt := 41) dX1_keys_77 (by decide) ?_
        refine gg_sub (L' := [(5, .int (nI (j + 1))), (4, .int ((kyF (fun i => vM k T (nN q) (nN t * 8 + i) (nN d)) ((j + 1))))), (0, .ref Y.1), (1, .int t), (2, .int d), (3, .int q)]) ⟨rfl, rfl, rfl, rfl, rfl, rfl, trivial⟩ ?_
        exact ih _ _ ⟨j + 1, by omega, rfl, by omega, rfl⟩
  refine gg_aload_n K (i := 0) dX1_keys_0 rfl rfl ?_
  refine gg_aload_n K (i := 0) dX1_keys_1 rfl rfl ?_
  refine gg_iload_n K (i := 1) dX1_keys_2 rfl rfl ?_
  refine gg_iconst K (v := 0) dX1_keys_3 (by decide) ?_
  refine gg_iconst K (v := 1) dX1_keys_4 (by decide) ?_
  refine gg_callSR K k_X1_X1_in m_in dX1_keys_5 rfl rfl rfl rfl ⟨rfl, rfl⟩ ?_
  refine gg_b_eq K (tgt := 22) dX1_keys_8 (by decide) (fun h8 => ?_) (fun h8 => ?_)
  · refine gg_iconst K (v := 0) dX1_keys_22 (by decide) ?_
    exact J false (ft_iff (fun z => bP_nf h8 ((in_R (b := 2) (by omega)).mpr z.1)))
  refine gg_iload_n K (i := 2) dX1_keys_11 rfl rfl ?_
  refine gg_callSR K k_X1_X1_isDay m_isDay dX1_keys_12 rfl rfl rfl rfl ⟨rfl, rfl⟩ ?_
  refine gg_b_eq K (tgt := 22) dX1_keys_15 (by decide) (fun h15 => ?_) (fun h15 => ?_)
  · refine gg_iconst K (v := 0) dX1_keys_22 (by decide) ?_
    exact J false (ft_iff (fun z => bP_nf h15 z.2))
  · refine gg_iconst K (v := 1) dX1_keys_18 (by decide) ?_
    refine gg_goto K (tgt := 23) dX1_keys_19 (by decide) ?_
    exact J true (tt_iff ⟨(in_R (b := 2) (by omega)).mp (bP_iff.mp h8), bP_iff.mp h15⟩)
theorem inR_0 (b : Nat) (h : 0 < b) (hb : b < 2 ^ 31 := by omega) : inR 0 (nI b) := inR_of (j := 0) h
set_option maxRecDepth 100000 in
theorem m_joined {l : Launch} {Z : ZT} {Y : MT} {k : Nat → Int32} {th rf rb re : Int32} {T : Nat} (hT : T < 60) (hv : valOk (vM k T) T) {y d q : Int32} : mA l Z.1 (ty3 Z) yX1_joined cX1_joined 4 (some .int) (rmk 9 200 0 0) (wM Z Y k th (nI T) rf rb re) [.ref Y.1, .int y, .int d, .int q] (mPost Z Y (qS (vM k T) T (inR y 8 ∧ inR d 60 ∧ inR q 60) (q ≤ nI T) (jnF (vM k T) (nN q) (nN y) (nN d)))) := by
  refine mA_intro (own := RX1) [(0, .ref Y.1), (1, .int y), (2, .int d), (3, .int q)] (by decide +kernel) rfl rfl rfl rfl ?_
  intro p e s m args below meth c A K hr hin
  refine gg_cut (inR y 8 ∧ inR d 60) 22 [(0, .ref Y.1), (1, .int y), (2, .int d), (3, .int q)] [.ref Y.1, .ref Y.1] (fun b hb => ?_) (fun J => ?_)
  · refine gg_iload_n K (i := 3) dX1_joined_22 rfl rfl ?_
    refine gg_callRM K k_X1_X1_errorOfRecord (m_errR hT hb rfl) dX1_joined_23 rfl rfl rfl rfl ⟨rfl, rfl⟩ ?_
    refine gg_callUM K k_X1_X1_holds m_holds dX1_joined_26 rfl rfl rfl rfl ⟨rfl, rfl⟩ (fun v9 u h => ?_)
    obtain ⟨rfl, rfl⟩ := h
    refine gg_b_eq K (tgt := 42) dX1_joined_29 (by decide) (fun h29 => ?_) (fun h29 => ?_)
    · refine gg_iconst K (v := 0) dX1_joined_42 (by decide) ?_
      exact gg_iret K hr dX1_joined_43 (Nat.le_of_ble_eq_true rfl) (Nat.le_of_ble_eq_true rfl) (mQe (bP_nf h29) ⟨fun h => ⟨⟨h.1, h.2.1⟩, h.2.2⟩, fun h => ⟨h.1.1, h.1.2, h.2⟩⟩ id)
    have he := eR_0.mp (bP_iff.mp h29)
    obtain ⟨⟨⟨h1, h3⟩, h4⟩, h5⟩ := he
    have ⟨b1, b2⟩ := inR_N (b := 8) h1
    have ⟨d1, d2⟩ := inR_N (b := 60) h3
    have ⟨q1, q2⟩ := inR_N (b := 60) h4
    refine gg_aload_n K (i := 0) dX1_joined_32 rfl rfl ?_
    refine gg_iload_n K (i := 1) dX1_joined_33 rfl rfl ?_
    refine gg_iload_n K (i := 2) dX1_joined_34 rfl rfl ?_
    refine gg_iload_n K (i := 3) dX1_joined_35 rfl rfl ?_
    refine gg_callRM K k_X1_X1_joinedOf (m_joinedOf (nN q) (nN y) (nN d) hT hv (leT q2 q1 hT h5) b1 d1 b2 d2 q2) dX1_joined_36 rfl rfl rfl rfl ⟨rfl, rfl⟩ ?_
    refine gg_goto K (tgt := 43) dX1_joined_39 (by decide) ?_
    exact gg_iret K hr dX1_joined_43 (Nat.le_of_ble_eq_true rfl) (Nat.le_of_ble_eq_true rfl) (mQ0 (bP_iff.mp h29) ⟨h1, h3, h4⟩ h5 rfl)
  refine gg_aload_n K (i := 0) dX1_joined_0 rfl rfl ?_
  refine gg_aload_n K (i := 0) dX1_joined_1 rfl rfl ?_
  refine gg_iconst K (v := 1) dX1_joined_2 (by decide) ?_
  refine gg_iload_n K (i := 1) dX1_joined_3 rfl rfl ?_
  refine gg_callSR K k_X1_X1_isKey m_isKey dX1_joined_4 rfl rfl rfl rfl ⟨rfl, rfl⟩ ?_
  refine gg_b_eq K (tgt := 21) dX1_joined_7 (by decide) (fun h7 => ?_) (fun h7 => ?_)
  · refine gg_iconst K (v := 0) dX1_joined_21 (by decide) ?_
    exact J false (ft_iff (fun z => bP_nf h7 ⟨by have := inR_of (j := 1) (b := 2) (by omega); exact this, z.1⟩))
  refine gg_iload_n K (i := 2) dX1_joined_10 rfl rfl ?_
  refine gg_callSR K k_X1_X1_isDay m_isDay dX1_joined_11 rfl rfl rfl rfl ⟨rfl, rfl⟩ ?_
  refine gg_b_eq K (tgt := 21) dX1_joined_14 (by decide) (fun h14 => ?_) (fun h14 => ?_)
  · refine gg_iconst K (v := 0) dX1_joined_21 (by decide) ?_
    exact J false (ft_iff (fun z => bP_nf h14 z.2))
  · refine gg_iconst K (v := 1) dX1_joined_17 (by decide) ?_
    refine gg_goto K (tgt := 22) dX1_joined_18 (by decide) ?_
    exact J true (tt_iff ⟨(bP_iff.mp h7).2, bP_iff.mp h14⟩)
end
section
/-! the model: runs counted, found, the longest, joined; corrections; average -/
set_option maxRecDepth 100000 in
theorem m_runs {l : Launch} {Z : ZT} {Y : MT} {k : Nat → Int32} {th rf rb re : Int32} {T : Nat} (hT : T < 60) {t y q : Int32} : mA l Z.1 (ty3 Z) yX1_runs cX1_runs 4 (some .int) (rmk 9 200 0 0) (wM Z Y k th (nI T) rf rb re) [.ref Y.1, .int t, .int y, .int q] (mPost Z Y (qS (vM k T) T (inR t 2 ∧ inR y 8 ∧ inR q 60) (q ≤ nI T) (nI (fb_ct (stF (vM k T (nN q) (nN t * 8 + nN y))) 60)))) := by
  refine mA_intro (own := RX1) [(0, .ref Y.1), (1, .int t), (2, .int y), (3, .int q)] (by decide +kernel) rfl rfl rfl rfl ?_
  intro p e s m args below meth c A K hr hin
  refine gg_aload_n K (i := 0) dX1_runs_0 rfl rfl ?_
  refine gg_aload_n K (i := 0) dX1_runs_1 rfl rfl ?_
  refine gg_iload_n K (i := 1) dX1_runs_2 rfl rfl ?_
  refine gg_iload_n K (i := 2) dX1_runs_3 rfl rfl ?_
  refine gg_callSR K k_X1_X1_isKey m_isKey dX1_runs_4 rfl rfl rfl rfl ⟨rfl, rfl⟩ ?_
  refine gg_iload_n K (i := 3) dX1_runs_7 rfl rfl ?_
  refine gg_callRM K k_X1_X1_errorOfRecord (m_errR (P := (inR t 2 ∧ inR y 8)) hT bP_iff rfl) dX1_runs_8 rfl rfl rfl rfl ⟨rfl, rfl⟩ ?_
  refine gg_callUM K k_X1_X1_holds m_holds dX1_runs_11 rfl rfl rfl rfl ⟨rfl, rfl⟩ (fun v9 u h => ?_)
  obtain ⟨rfl, rfl⟩ := h
  refine gg_b_eq K (tgt := 27) dX1_runs_14 (by decide) (fun h14 => ?_) (fun h14 => ?_)
  · refine gg_iconst K (v := 0) dX1_runs_27 (by decide) ?_
    exact gg_iret K hr dX1_runs_28 (Nat.le_of_ble_eq_true rfl) (Nat.le_of_ble_eq_true rfl) (mQe (bP_nf h14) ⟨fun h => ⟨⟨h.1, h.2.1⟩, h.2.2⟩, fun h => ⟨h.1.1, h.1.2, h.2⟩⟩ id)
  obtain ⟨⟨⟨h1, h2⟩, h4⟩, h5⟩ := eR_0.mp (bP_iff.mp h14)
  have ⟨a1, a2⟩ := inR_N (b := 2) h1
  have ⟨b1, b2⟩ := inR_N (b := 8) h2
  have ⟨q1, q2⟩ := inR_N (b := 60) h4
  refine gg_aload_n K (i := 0) dX1_runs_17 rfl rfl ?_
  refine gg_iload_n K (i := 1) dX1_runs_18 rfl rfl ?_
  refine gg_iload_n K (i := 2) dX1_runs_19 rfl rfl ?_
  refine gg_iload_n K (i := 3) dX1_runs_20 rfl rfl ?_
  refine gg_callRM K k_X1_X1_runsOf (m_runsOf (nN q) (nN t) (nN y) hT (leT q2 q1 hT h5) a1 b1 a2 b2 q2) dX1_runs_21 rfl rfl rfl rfl ⟨rfl, rfl⟩ ?_
  refine gg_goto K (tgt := 28) dX1_runs_24 (by decide) ?_
  exact gg_iret K hr dX1_runs_28 (Nat.le_of_ble_eq_true rfl) (Nat.le_of_ble_eq_true rfl) (mQ0 (bP_iff.mp h14) ⟨h1, h2, h4⟩ h5 rfl)
theorem in_C {x : Int32} {n : Nat} (hn : n ≤ 3600) : (¬ x < 0 ∧ ¬ nI n - 1 < x) ↔ ∃ j, j < n ∧ x = nI j := by
  constructor
  · intro h
    obtain ⟨j, j1, j2⟩ := nI_of h.1
    refine ⟨j, ?_, j2⟩
    have h2 := h.2
    rw [j2] at h2
    refine Nat.not_le.mp (fun z => h2 ?_)
    by_cases h0 : n = 0
    · rw [h0, Int32.lt_iff_toInt_lt, nI_toInt j1, show (nI 0 - 1).toInt = -1 by decide]
      omega
    · rw [nI_sub1 (by omega)]
      exact nI_lt (by omega) (by omega)
  · intro ⟨j, j1, j2⟩
    rw [j2, nI_sub1 (by omega)]
    exact ⟨nI_pos (by omega), nI_nlt (by omega) (by omega)⟩
set_option maxRecDepth 100000 in
theorem m_run {l : Launch} {Z : ZT} {Y : MT} {k : Nat → Int32} {th rf rb re : Int32} {T : Nat} (hT : T < 60) {t y q w9 : Int32} : mA l Z.1 (ty3 Z) yX1_run cX1_run 8 (some .int) (rmk 9 200 0 0) (wM Z Y k th (nI T) rf rb re) [.ref Y.1, .int t, .int y, .int q, .int w9] (mPost Z Y (qS (vM k T) T (inR t 2 ∧ inR y 8 ∧ inR q 60) (q ≤ nI T ∧ ∃ j, j < fb_ct (stF (vM k T (nN q) (nN t * 8 + nN y))) 60 ∧ w9 = nI j) (runN (vM k T (nN q) (nN t * 8 + nN y)) (kthD (stF (vM k T (nN q) (nN t * 8 + nN y))) (nN w9) 60)))) := by
  refine mA_intro (own := RX1) [(0, .ref Y.1), (1, .int t), (2, .int y), (3, .int q), (4, .int w9)] (by decide +kernel) rfl rfl rfl rfl ?_
  intro p e s m args below meth c A K hr hin
  refine gg_aload_n K (i := 0) dX1_run_0 rfl rfl ?_
  refine gg_iload_n K (i := 1) dX1_run_1 rfl rfl ?_
  refine gg_iload_n K (i := 2) dX1_run_2 rfl rfl ?_
  refine gg_callSR K k_X1_X1_isKey m_isKey dX1_run_3 rfl rfl rfl rfl ⟨rfl, rfl⟩ ?_
  refine gg_iload_n K (i := 3) dX1_run_6 rfl rfl ?_
  refine gg_callRM K k_X1_X1_errorOfRecord (m_errR (P := (inR t 2 ∧ inR y 8)) hT bP_iff rfl) dX1_run_7 rfl rfl rfl rfl ⟨rfl, rfl⟩ ?_
  refine gg_istore K dX1_run_10 (by decide) ?_
  refine gg_aload_n K (i := 0) dX1_run_12 rfl rfl ?_
  refine gg_iload K dX1_run_13 rfl ?_
  refine gg_if_le K (tgt := 23) dX1_run_15 (by decide) (fun h15 => ?_) (fun h15 => ?_)
  rotate_left
  · have hne : ¬ eR (inR t 2 ∧ inR y 8) q T = 0 := fun z => h15 (by rw [z]; decide)
    refine gg_iload K dX1_run_18 rfl ?_
    refine gg_goto K (tgt := 46) dX1_run_20 (by decide) ?_
    refine gg_callUM K k_X1_X1_holds m_holds dX1_run_46 rfl rfl rfl rfl ⟨rfl, rfl⟩ (fun v9 u h => ?_)
    obtain ⟨rfl, rfl⟩ := h
    refine gg_b_ne K (tgt := 54) dX1_run_49 (by decide) (fun h49 => ?_) (fun h49 => ?_)
    · exact absurd (bP_iff.mp h49) hne
    refine gg_iconst K (v := 0) dX1_run_52 (by decide) ?_
    exact gg_iret K hr dX1_run_53 (Nat.le_of_ble_eq_true rfl) (Nat.le_of_ble_eq_true rfl) (mQe hne ⟨fun h => ⟨⟨h.1, h.2.1⟩, h.2.2⟩, fun h => ⟨h.1.1, h.1.2, h.2⟩⟩ (fun z => z.1))
  have he := eR_le h15
  obtain ⟨⟨⟨h1, h2⟩, h4⟩, h5⟩ := eR_0.mp he
  have ⟨a1, a2⟩ := inR_N (b := 2) h1
  have ⟨b1, b2⟩ := inR_N (b := 8) h2
  have ⟨q1, q2⟩ := inR_N (b := 60) h4
  have hq := leT q2 q1 hT h5
  have hc := fb_ct_le (stF (vM k T (nN q) (nN t * 8 + nN y))) 60
  refine gg_iload K dX1_run_23 rfl ?_
  refine gg_iconst K (v := 0) dX1_run_25 (by decide) ?_
  refine gg_aload_n K (i := 0) dX1_run_26 rfl rfl ?_
  refine gg_iload_n K (i := 1) dX1_run_27 rfl rfl ?_
  refine gg_iload_n K (i := 2) dX1_run_28 rfl rfl ?_
  refine gg_iload_n K (i := 3) dX1_run_29 rfl rfl ?_
  refine gg_callRM K k_X1_X1_runsOf (m_runsOf (nN q) (nN t) (nN y) hT hq a1 b1 a2 b2 q2) dX1_run_30 rfl rfl rfl rfl ⟨rfl, rfl⟩ ?_
  refine gg_iconst K (v := 1) dX1_run_33 (by decide) ?_
  refine gg_isub K dX1_run_34 ?_
  refine gg_callSR K k_X1_X1_in m_in dX1_run_35 rfl rfl rfl rfl ⟨rfl, rfl⟩ ?_
  refine gg_b_eq K (tgt := 45) dX1_run_38 (by decide) (fun h38 => ?_) (fun h38 => ?_)
  · refine gg_iconst K (v := 2) dX1_run_45 (by decide) ?_
    refine gg_callUM K k_X1_X1_holds m_holds dX1_run_46 rfl rfl rfl rfl ⟨rfl, rfl⟩ (fun v9 u h => ?_)
    obtain ⟨rfl, rfl⟩ := h
    refine gg_b_ne K (tgt := 54) dX1_run_49 (by decide) (fun h49 => ?_) (fun h49 => ?_)
    · exact absurd (bP_iff.mp h49) (by decide)
    refine gg_iconst K (v := 0) dX1_run_52 (by decide) ?_
    refine gg_iret K hr dX1_run_53 (Nat.le_of_ble_eq_true rfl) (Nat.le_of_ble_eq_true rfl) ⟨2, 0, k, T, rf, rb, re, rfl, rfl, rfl, rfl, Or.inr (Or.inl ⟨⟨h1, h2, h4⟩, fun z => bP_nf h38 ((in_C (by omega)).mpr z.2), rfl⟩)⟩
  obtain ⟨j, j1, j2⟩ := (in_C (by omega)).mp (bP_iff.mp h38)
  obtain ⟨e9, e1, e2, e3⟩ := fb_ct_kth j1
  refine gg_iconst K (v := 0) dX1_run_41 (by decide) ?_
  refine gg_goto K (tgt := 46) dX1_run_42 (by decide) ?_
  refine gg_callUM K k_X1_X1_holds m_holds dX1_run_46 rfl rfl rfl rfl ⟨rfl, rfl⟩ (fun v9 u h => ?_)
  obtain ⟨rfl, rfl⟩ := h
  refine gg_b_ne K (tgt := 54) dX1_run_49 (by decide) (fun h49 => ?_) (fun h49 => ?_)
  rotate_left
  · exact absurd rfl (bP_nf h49)
  refine gg_iconst K (v := 0) dX1_run_54 (by decide) ?_
  refine gg_istore K dX1_run_55 (by decide) ?_
  refine gg_iconst K (v := 0) dX1_run_57 (by decide) ?_
  refine gg_istore K dX1_run_58 (by decide) ?_
  refine gg_sub (L' := [(7, .int (nI 0)), (6, .int (nI (fb_ct (stF (vM k T (nN q) (nN t * 8 + nN y))) 0))), (0, .ref Y.1), (1, .int t), (2, .int y), (3, .int q), (4, .int w9)]) ⟨rfl, rfl, rfl, rfl, rfl, rfl, rfl, trivial⟩ ?_
  have fin : ∀ d, d = e9 → gg p l e (rmk 9 200 0 0) s m args below meth c Z.1 A 8 0 0 (MQ below (qA Z.1 (ty3 Z) A (mPost Z Y (qS (vM k T) T (inR t 2 ∧ inR y 8 ∧ inR q 60) (q ≤ nI T ∧ ∃ j, j < fb_ct (stF (vM k T (nN q) (nN t * 8 + nN y))) 60 ∧ w9 = nI j) (runN (vM k T (nN q) (nN t * 8 + nN y)) (kthD (stF (vM k T (nN q) (nN t * 8 + nN y))) (nN w9) 60))))) args s (rmk 9 200 0 0).cells (rmk 9 200 0 0).slots A) (wM Z Y k 0 (nI T) rf rb re) 107 ([(7, .int (nI d)), (6, .int (nI (fb_ct (stF (vM k T (nN q) (nN t * 8 + nN y))) d))), (0, .ref Y.1), (1, .int t), (2, .int y), (3, .int q), (4, .int w9)]) [] := fun d hd => by
    subst hd
    refine gg_aload_n K (i := 0) dX1_run_107 rfl rfl ?_
    refine gg_iload_n K (i := 1) dX1_run_108 rfl rfl ?_
    refine gg_iload_n K (i := 2) dX1_run_109 rfl rfl ?_
    refine gg_iload_n K (i := 3) dX1_run_110 rfl rfl ?_
    refine gg_iload K dX1_run_111 rfl ?_
    refine gg_callRM K k_X1_X1_told (m_told (nN q) (nN t) (nN y) d hT hq a1 b1 e1 a2 b2 q2 rfl) dX1_run_113 rfl rfl rfl rfl ⟨rfl, rfl⟩ ?_
    exact gg_iret K hr dX1_run_116 (Nat.le_of_ble_eq_true rfl) (Nat.le_of_ble_eq_true rfl) (mQ0 rfl ⟨h1, h2, h4⟩ ⟨h5, j, j1, j2⟩ (by rw [kthD_eq e2 (e3.trans (by rw [j2]; exact (nI_clamp (by omega)).symm)) e1]; exact if_pos e2))
  refine gg_loop (fun i w L => ∃ d : Nat, d + i = e9 + 1 ∧ w = wM Z Y k 0 (nI T) rf rb re ∧ d ≤ e9 ∧ L = [(7, .int (nI d)), (6, .int (nI (fb_ct (stF (vM k T (nN q) (nN t * 8 + nN y))) d))), (0, .ref Y.1), (1, .int t), (2, .int y), (3, .int q), (4, .int w9)]) (fun w L h => ?_) (fun i w L h ih => ?_) (e9 + 1) _ _ ⟨0, by omega, rfl, by omega, rfl⟩
  · obtain ⟨d, h1, -, h2, -⟩ := h
    omega
  obtain ⟨d, hd, rfl, hd2, rfl⟩ := h
  have hm := fb_ct_mono (stF (vM k T (nN q) (nN t * 8 + nN y))) hd2
  have step : (∀ b : Bool, stF (vM k T (nN q) (nN t * 8 + nN y)) d = b → d < e9 → gg p l e (rmk 9 200 0 0) s m args below meth c Z.1 A 8 0 0 (MQ below (qA Z.1 (ty3 Z) A (mPost Z Y (qS (vM k T) T (inR t 2 ∧ inR y 8 ∧ inR q 60) (q ≤ nI T ∧ ∃ j, j < fb_ct (stF (vM k T (nN q) (nN t * 8 + nN y))) 60 ∧ w9 = nI j) (runN (vM k T (nN q) (nN t * 8 + nN y)) (kthD (stF (vM k T (nN q) (nN t * 8 + nN y))) (nN w9) 60))))) args s (rmk 9 200 0 0).cells (rmk 9 200 0 0).slots A) (wM Z Y k 0 (nI T) rf rb re) 98 ([(7, .int (nI d)), (6, .int (nI (fb_ct (stF (vM k T (nN q) (nN t * 8 + nN y))) d))), (0, .ref Y.1), (1, .int t), (2, .int y), (3, .int q), (4, .int w9)]) [.int (bI b), .int (nI (fb_ct (stF (vM k T (nN q) (nN t * 8 + nN y))) d))]) := fun b hb hlt => by
    refine gg_iadd K dX1_run_98 ?_
    refine gg_top (y := nI (fb_ct (stF (vM k T (nN q) (nN t * 8 + nN y))) (d + 1))) (by rw [← hb]; exact ct_add) ?_
    refine gg_istore K dX1_run_99 (by decide) ?_
    refine gg_iinc K (v := nI (d + 1)) dX1_run_101 rfl (nI_inc (d)) (by decide) ?_
    refine gg_goto K (tgt := 60) dX1_run_104 (by decide) ?_
    refine gg_sub (L' := [(7, .int (nI (d + 1))), (6, .int (nI (fb_ct (stF (vM k T (nN q) (nN t * 8 + nN y))) (d + 1)))), (0, .ref Y.1), (1, .int t), (2, .int y), (3, .int q), (4, .int w9)]) ⟨rfl, rfl, rfl, rfl, rfl, rfl, rfl, trivial⟩ ?_
    exact ih _ _ ⟨d + 1, by omega, rfl, by omega, rfl⟩
  have body : d < e9 → gg p l e (rmk 9 200 0 0) s m args below meth c Z.1 A 8 0 0 (MQ below (qA Z.1 (ty3 Z) A (mPost Z Y (qS (vM k T) T (inR t 2 ∧ inR y 8 ∧ inR q 60) (q ≤ nI T ∧ ∃ j, j < fb_ct (stF (vM k T (nN q) (nN t * 8 + nN y))) 60 ∧ w9 = nI j) (runN (vM k T (nN q) (nN t * 8 + nN y)) (kthD (stF (vM k T (nN q) (nN t * 8 + nN y))) (nN w9) 60))))) args s (rmk 9 200 0 0).cells (rmk 9 200 0 0).slots A) (wM Z Y k 0 (nI T) rf rb re) 79 ([(7, .int (nI d)), (6, .int (nI (fb_ct (stF (vM k T (nN q) (nN t * 8 + nN y))) d))), (0, .ref Y.1), (1, .int t), (2, .int y), (3, .int q), (4, .int w9)]) [] := fun hlt => by
    refine gg_iload K dX1_run_79 rfl ?_
    refine gg_aload_n K (i := 0) dX1_run_81 rfl rfl ?_
    refine gg_iload_n K (i := 1) dX1_run_82 rfl rfl ?_
    refine gg_iload_n K (i := 2) dX1_run_83 rfl rfl ?_
    refine gg_iload_n K (i := 3) dX1_run_84 rfl rfl ?_
    refine gg_iload K dX1_run_85 rfl ?_
    refine gg_callRM K k_X1_X1_begins (m_begins (nN q) (nN t) (nN y) d hT hq a1 b1 (by omega) a2 b2 q2 rfl) dX1_run_87 rfl rfl rfl rfl ⟨rfl, rfl⟩ ?_
    refine gg_b_eq K (tgt := 97) dX1_run_90 (by decide) (fun h90 => ?_) (fun h90 => ?_)
    · refine gg_iconst K (v := 0) dX1_run_97 (by decide) ?_
      exact step false h90 hlt
    · refine gg_iconst K (v := 1) dX1_run_93 (by decide) ?_
      refine gg_goto K (tgt := 98) dX1_run_94 (by decide) ?_
      exact step true h90 hlt
  refine gg_iload K dX1_run_60 rfl ?_
  refine gg_iload K dX1_run_62 rfl ?_
  refine gg_icmp_lt K (tgt := 79) dX1_run_64 (by decide) (fun h64 => ?_) (fun h64 => ?_)
  · rw [j2] at h64
    have h9 := i_lt h64
    exact body (by
      by_cases hde : d = e9
      · rw [hde] at h9; omega
      · omega)
  rw [j2] at h64
  have h9 := i_nlt h64
  have h10 : fb_ct (stF (vM k T (nN q) (nN t * 8 + nN y))) d = j := by omega
  refine gg_aload_n K (i := 0) dX1_run_67 rfl rfl ?_
  refine gg_iload_n K (i := 1) dX1_run_68 rfl rfl ?_
  refine gg_iload_n K (i := 2) dX1_run_69 rfl rfl ?_
  refine gg_iload_n K (i := 3) dX1_run_70 rfl rfl ?_
  refine gg_iload K dX1_run_71 rfl ?_
  refine gg_callRM K k_X1_X1_begins (m_begins (nN q) (nN t) (nN y) d hT hq a1 b1 (by omega) a2 b2 q2 rfl) dX1_run_73 rfl rfl rfl rfl ⟨rfl, rfl⟩ ?_
  refine gg_b_ne K (tgt := 107) dX1_run_76 (by decide) (fun h76 => ?_) (fun h76 => ?_)
  · exact fin d (fb_ct_kth_one h76 e2 (by omega))
  · exact body (by
      by_cases hde : d = e9
      · rw [hde, e2] at h76; cases h76
      · omega)
theorem js_eq {V : VT} {r key j : Nat} {b : Bool} (hb : b = true ↔ (j = 0 ∨ ¬ V r (8 + key) j = V r (8 + key) (j - 1) ∨ ¬ jnF V r key j = jnF V r key (j - 1))) (h : ¬ V r (8 + key) j = -1) : jsF V r key j = b := by
  have hiff : (¬ V r (8 + key) j = -1 ∧ (stF (V r (8 + key)) j = true ∨ ¬ jnF V r key j = jnF V r key (j - 1))) ↔ (j = 0 ∨ ¬ V r (8 + key) j = V r (8 + key) (j - 1) ∨ ¬ jnF V r key j = jnF V r key (j - 1)) := by
    constructor
    · intro ⟨_, h2⟩
      rcases h2 with h2 | h2
      · have := (of_decide_eq_true h2).2
        rcases this with z | z
        · exact Or.inl z
        · exact Or.inr (Or.inl (fun w => z w.symm))
      · exact Or.inr (Or.inr h2)
    · intro h2
      refine ⟨h, ?_⟩
      rcases h2 with z | z | z
      · exact Or.inl (stF_t h (Or.inl z))
      · exact Or.inl (stF_t h (Or.inr (fun w => z w.symm)))
      · exact Or.inr z
  unfold jsF
  cases b with
  | true => exact bP_t (hiff.mpr (hb.mp rfl))
  | false => exact bP_f (fun z => by have := hb.mpr (hiff.mp z); cases this)
set_option maxRecDepth 100000 in
theorem m_joinedRuns {l : Launch} {Z : ZT} {Y : MT} {k : Nat → Int32} {th rf rb re : Int32} {T : Nat} (hT : T < 60) (hv : valOk (vM k T) T) {y q : Int32} : mA l Z.1 (ty3 Z) yX1_joinedRuns cX1_joinedRuns 6 (some .int) (rmk 9 200 0 0) (wM Z Y k th (nI T) rf rb re) [.ref Y.1, .int y, .int q] (mPost Z Y (qS (vM k T) T (inR y 8 ∧ inR q 60) (q ≤ nI T) (nI (fb_ct (jsF (vM k T) (nN q) (nN y)) 60)))) := by
  refine mA_intro (own := RX1) [(0, .ref Y.1), (1, .int y), (2, .int q)] (by decide +kernel) rfl rfl rfl rfl ?_
  intro p e s m args below meth c A K hr hin
  refine gg_aload_n K (i := 0) dX1_joinedRuns_0 rfl rfl ?_
  refine gg_aload_n K (i := 0) dX1_joinedRuns_1 rfl rfl ?_
  refine gg_iconst K (v := 1) dX1_joinedRuns_2 (by decide) ?_
  refine gg_iload_n K (i := 1) dX1_joinedRuns_3 rfl rfl ?_
  refine gg_callSR K k_X1_X1_isKey m_isKey dX1_joinedRuns_4 rfl rfl rfl rfl ⟨rfl, rfl⟩ ?_
  refine gg_iload_n K (i := 2) dX1_joinedRuns_7 rfl rfl ?_
  refine gg_callRM K k_X1_X1_errorOfRecord (m_errR (P := (inR 1 2 ∧ inR y 8)) hT bP_iff rfl) dX1_joinedRuns_8 rfl rfl rfl rfl ⟨rfl, rfl⟩ ?_
  refine gg_callUM K k_X1_X1_holds m_holds dX1_joinedRuns_11 rfl rfl rfl rfl ⟨rfl, rfl⟩ (fun v9 u h => ?_)
  obtain ⟨rfl, rfl⟩ := h
  refine gg_b_ne K (tgt := 19) dX1_joinedRuns_14 (by decide) (fun h14 => ?_) (fun h14 => ?_)
  rotate_left
  · refine gg_iconst K (v := 0) dX1_joinedRuns_17 (by decide) ?_
    exact gg_iret K hr dX1_joinedRuns_18 (Nat.le_of_ble_eq_true rfl) (Nat.le_of_ble_eq_true rfl) (mQe (bP_nf h14) ⟨fun h => ⟨⟨inR_of (j := 1) (b := 2) (by omega), h.1⟩, h.2⟩, fun h => ⟨h.1.2, h.2⟩⟩ id)
  obtain ⟨⟨⟨-, h2⟩, h4⟩, h5⟩ := eR_0.mp (bP_iff.mp h14)
  have ⟨b1, b2⟩ := inR_N (b := 8) h2
  have ⟨q1, q2⟩ := inR_N (b := 60) h4
  have hq := leT q2 q1 hT h5
  refine gg_iconst K (v := 0) dX1_joinedRuns_19 (by decide) ?_
  refine gg_istore_n K (i := 3) dX1_joinedRuns_20 rfl (by decide) ?_
  refine gg_iconst K (v := 0) dX1_joinedRuns_21 (by decide) ?_
  refine gg_istore K dX1_joinedRuns_22 (by decide) ?_
  refine gg_sub (L' := [(4, .int (nI 0)), (3, .int (nI (fb_ct (jsF (vM k T) (nN q) (nN y)) 0))), (0, .ref Y.1), (1, .int y), (2, .int q)]) ⟨rfl, rfl, rfl, rfl, rfl, trivial⟩ ?_
  refine gg_loop (fun i w L => ∃ (j : Nat), j + i = 61 ∧ w = wM Z Y k (eR (inR 1 2 ∧ inR y 8) q T) (nI T) rf rb re ∧ j ≤ 60 ∧ L = [(4, .int (nI j)), (3, .int (nI (fb_ct (jsF (vM k T) (nN q) (nN y)) j))), (0, .ref Y.1), (1, .int y), (2, .int q)]) (fun w L h => ?_) (fun i w L h ih => ?_) 61 _ _ ⟨0, rfl, rfl, by omega, rfl⟩
  · obtain ⟨j, hj, -, h2, -⟩ := h
    omega
  obtain ⟨j, hj, rfl, -, rfl⟩ := h
  refine gg_iload K dX1_joinedRuns_24 rfl ?_
  refine gg_bipush K (v := 60) dX1_joinedRuns_26 (by decide) ?_
  refine gg_icmp_ge K (tgt := 119) dX1_joinedRuns_28 (by decide) (fun h28 => ?_) (fun h28 => ?_)
  · have hj2 := i_le (a := 60) h28
    have hj3 : j = 60 := by omega
    subst hj3
    refine gg_iload_n K (i := 3) dX1_joinedRuns_119 rfl rfl ?_
    exact gg_iret K hr dX1_joinedRuns_120 (Nat.le_of_ble_eq_true rfl) (Nat.le_of_ble_eq_true rfl) (mQ0 (bP_iff.mp h14) ⟨h2, h4⟩ h5 rfl)
  have hj2 := i_nle (a := 60) h28
  have hof := fun d hd => m_of (l := l) (Z := Z) (Y := Y) (k := k) (th := eR (inR 1 2 ∧ inR y 8) q T) (rf := rf) (rb := rb) (re := re) (nN q) 1 (nN y) d hT hq (by omega) b1 hd q2 rfl b2 rfl
  refine gg_cut (j = 0 ∨ ¬ vM k T (nN q) (8 + nN y) j = vM k T (nN q) (8 + nN y) (j - 1) ∨ ¬ jnF (vM k T) (nN q) (nN y) j = jnF (vM k T) (nN q) (nN y) (j - 1)) 85 ([(4, .int (nI j)), (3, .int (nI (fb_ct (jsF (vM k T) (nN q) (nN y)) j))), (0, .ref Y.1), (1, .int y), (2, .int q)]) [] (fun b hb => ?_) (fun J => ?_)
  · have nxt : ∀ b9 : Bool, (jsF (vM k T) (nN q) (nN y)) j = b9 → gg p l e (rmk 9 200 0 0) s m args below meth c Z.1 A 6 0 0 (MQ below (qA Z.1 (ty3 Z) A (mPost Z Y (qS (vM k T) T (inR y 8 ∧ inR q 60) (q ≤ nI T) (nI (fb_ct (jsF (vM k T) (nN q) (nN y)) 60))))) args s (rmk 9 200 0 0).cells (rmk 9 200 0 0).slots A) (wM Z Y k (eR (inR 1 2 ∧ inR y 8) q T) (nI T) rf rb re) 111 ((5, .int (bI b)) :: [(4, .int (nI j)), (3, .int (nI (fb_ct (jsF (vM k T) (nN q) (nN y)) j))), (0, .ref Y.1), (1, .int y), (2, .int q)]) [.int (bI b9), .int (nI (fb_ct (jsF (vM k T) (nN q) (nN y)) j))] := fun b9 hb9 => by
      refine gg_iadd K dX1_joinedRuns_111 ?_
      refine gg_top (y := nI (fb_ct (jsF (vM k T) (nN q) (nN y)) (j + 1))) (by rw [← hb9]; exact ct_add) ?_
      refine gg_istore_n K (i := 3) dX1_joinedRuns_112 rfl (by decide) ?_
      refine gg_iinc K (v := nI (j + 1)) dX1_joinedRuns_113 rfl (nI_inc (j)) (by decide) ?_
      refine gg_goto K (tgt := 24) dX1_joinedRuns_116 (by decide) ?_
      refine gg_sub (L' := [(4, .int (nI (j + 1))), (3, .int (nI (fb_ct (jsF (vM k T) (nN q) (nN y)) (j + 1)))), (0, .ref Y.1), (1, .int y), (2, .int q)]) ⟨rfl, rfl, rfl, rfl, rfl, trivial⟩ ?_
      exact ih _ _ ⟨j + 1, by omega, rfl, by omega, rfl⟩
    refine gg_istore K dX1_joinedRuns_85 (by decide) ?_
    refine gg_iload_n K (i := 3) dX1_joinedRuns_87 rfl rfl ?_
    refine gg_aload_n K (i := 0) dX1_joinedRuns_88 rfl rfl ?_
    refine gg_iload_n K (i := 2) dX1_joinedRuns_89 rfl rfl ?_
    refine gg_iconst K (v := 1) dX1_joinedRuns_90 (by decide) ?_
    refine gg_iload_n K (i := 1) dX1_joinedRuns_91 rfl rfl ?_
    refine gg_iload K dX1_joinedRuns_92 rfl ?_
    refine gg_callRM K k_X1_X1_of (hof j hj2) dX1_joinedRuns_94 rfl rfl rfl rfl ⟨rfl, rfl⟩ ?_
    rw [show 1 * 8 + nN y = 8 + nN y by omega]
    refine gg_iconst K (v := (-1)) dX1_joinedRuns_97 (by decide) ?_
    refine gg_icmp_eq K (tgt := 110) dX1_joinedRuns_98 (by decide) (fun h98 => ?_) (fun h98 => ?_)
    · refine gg_iconst K (v := 0) dX1_joinedRuns_110 (by decide) ?_
      exact nxt false (bP_f (fun z => z.1 h98))
    refine gg_iload K dX1_joinedRuns_101 rfl ?_
    refine gg_b_eq K (tgt := 110) dX1_joinedRuns_103 (by decide) (fun h103 => ?_) (fun h103 => ?_)
    · refine gg_iconst K (v := 0) dX1_joinedRuns_110 (by decide) ?_
      exact nxt false ((js_eq hb h98).trans h103)
    · refine gg_iconst K (v := 1) dX1_joinedRuns_106 (by decide) ?_
      refine gg_goto K (tgt := 111) dX1_joinedRuns_107 (by decide) ?_
      exact nxt true ((js_eq hb h98).trans h103)
  refine gg_iload K dX1_joinedRuns_31 rfl ?_
  refine gg_if_eq K (tgt := 80) dX1_joinedRuns_33 (by decide) (fun h33 => ?_) (fun h33 => ?_)
  · refine gg_iconst K (v := 1) dX1_joinedRuns_80 (by decide) ?_
    refine gg_goto K (tgt := 85) dX1_joinedRuns_81 (by decide) ?_
    exact J true (tt_iff (Or.inl (i_eq (b := 0) h33)))
  have hj0 : ¬ j = 0 := fun z => h33 (by rw [z]; rfl)
  refine gg_aload_n K (i := 0) dX1_joinedRuns_36 rfl rfl ?_
  refine gg_iload_n K (i := 2) dX1_joinedRuns_37 rfl rfl ?_
  refine gg_iconst K (v := 1) dX1_joinedRuns_38 (by decide) ?_
  refine gg_iload_n K (i := 1) dX1_joinedRuns_39 rfl rfl ?_
  refine gg_iload K dX1_joinedRuns_40 rfl ?_
  refine gg_callRM K k_X1_X1_of (hof j hj2) dX1_joinedRuns_42 rfl rfl rfl rfl ⟨rfl, rfl⟩ ?_
  refine gg_aload_n K (i := 0) dX1_joinedRuns_45 rfl rfl ?_
  refine gg_iload_n K (i := 2) dX1_joinedRuns_46 rfl rfl ?_
  refine gg_iconst K (v := 1) dX1_joinedRuns_47 (by decide) ?_
  refine gg_iload_n K (i := 1) dX1_joinedRuns_48 rfl rfl ?_
  refine gg_iload K dX1_joinedRuns_49 rfl ?_
  refine gg_iconst K (v := 1) dX1_joinedRuns_51 (by decide) ?_
  refine gg_isub K dX1_joinedRuns_52 ?_
  refine gg_callRM K k_X1_X1_of (m_of (nN q) 1 (nN y) (j - 1) hT hq (by omega) b1 (by omega) q2 rfl b2 (nI_sub1 (by omega))) dX1_joinedRuns_53 rfl rfl rfl rfl ⟨rfl, rfl⟩ ?_
  rw [show 1 * 8 + nN y = 8 + nN y by omega]
  refine gg_icmp_ne K (tgt := 80) dX1_joinedRuns_56 (by decide) (fun h56 => ?_) (fun h56 => ?_)
  · refine gg_iconst K (v := 1) dX1_joinedRuns_80 (by decide) ?_
    refine gg_goto K (tgt := 85) dX1_joinedRuns_81 (by decide) ?_
    exact J true (tt_iff (Or.inr (Or.inl h56)))
  refine gg_aload_n K (i := 0) dX1_joinedRuns_59 rfl rfl ?_
  refine gg_iload_n K (i := 1) dX1_joinedRuns_60 rfl rfl ?_
  refine gg_iload K dX1_joinedRuns_61 rfl ?_
  refine gg_iload_n K (i := 2) dX1_joinedRuns_63 rfl rfl ?_
  refine gg_callRM K k_X1_X1_joinedOf (m_joinedOf (nN q) (nN y) j hT hv hq b1 hj2 b2 rfl q2) dX1_joinedRuns_64 rfl rfl rfl rfl ⟨rfl, rfl⟩ ?_
  refine gg_aload_n K (i := 0) dX1_joinedRuns_67 rfl rfl ?_
  refine gg_iload_n K (i := 1) dX1_joinedRuns_68 rfl rfl ?_
  refine gg_iload K dX1_joinedRuns_69 rfl ?_
  refine gg_iconst K (v := 1) dX1_joinedRuns_71 (by decide) ?_
  refine gg_isub K dX1_joinedRuns_72 ?_
  refine gg_iload_n K (i := 2) dX1_joinedRuns_73 rfl rfl ?_
  refine gg_callRM K k_X1_X1_joinedOf (m_joinedOf (nN q) (nN y) (j - 1) hT hv hq b1 (by omega) b2 (nI_sub1 (by omega)) q2) dX1_joinedRuns_74 rfl rfl rfl rfl ⟨rfl, rfl⟩ ?_
  refine gg_icmp_eq K (tgt := 84) dX1_joinedRuns_77 (by decide) (fun h77 => ?_) (fun h77 => ?_)
  · refine gg_iconst K (v := 0) dX1_joinedRuns_84 (by decide) ?_
    exact J false (ft_iff (fun z => z.elim hj0 (fun z => z.elim (fun z => z h56) (fun z => z h77))))
  · refine gg_iconst K (v := 1) dX1_joinedRuns_80 (by decide) ?_
    refine gg_goto K (tgt := 85) dX1_joinedRuns_81 (by decide) ?_
    exact J true (tt_iff (Or.inr (Or.inr h77)))
set_option maxRecDepth 100000 in
theorem m_longest {l : Launch} {Z : ZT} {Y : MT} {k : Nat → Int32} {th rf rb re : Int32} {T : Nat} (hT : T < 60) {t y q : Int32} : mA l Z.1 (ty3 Z) yX1_longest cX1_longest 7 (some .int) (rmk 9 200 0 0) (wM Z Y k th (nI T) rf rb re) [.ref Y.1, .int t, .int y, .int q] (mPost Z Y (qS (vM k T) T (inR t 2 ∧ inR y 8 ∧ inR q 60) (q ≤ nI T) (nI (lgF (vM k T (nN q) (nN t * 8 + nN y)) 60)))) := by
  refine mA_intro (own := RX1) [(0, .ref Y.1), (1, .int t), (2, .int y), (3, .int q)] (by decide +kernel) rfl rfl rfl rfl ?_
  intro p e s m args below meth c A K hr hin
  refine gg_aload_n K (i := 0) dX1_longest_0 rfl rfl ?_
  refine gg_aload_n K (i := 0) dX1_longest_1 rfl rfl ?_
  refine gg_iload_n K (i := 1) dX1_longest_2 rfl rfl ?_
  refine gg_iload_n K (i := 2) dX1_longest_3 rfl rfl ?_
  refine gg_callSR K k_X1_X1_isKey m_isKey dX1_longest_4 rfl rfl rfl rfl ⟨rfl, rfl⟩ ?_
  refine gg_iload_n K (i := 3) dX1_longest_7 rfl rfl ?_
  refine gg_callRM K k_X1_X1_errorOfRecord (m_errR (P := (inR t 2 ∧ inR y 8)) hT bP_iff rfl) dX1_longest_8 rfl rfl rfl rfl ⟨rfl, rfl⟩ ?_
  refine gg_callUM K k_X1_X1_holds m_holds dX1_longest_11 rfl rfl rfl rfl ⟨rfl, rfl⟩ (fun v9 u h => ?_)
  obtain ⟨rfl, rfl⟩ := h
  refine gg_b_ne K (tgt := 19) dX1_longest_14 (by decide) (fun h14 => ?_) (fun h14 => ?_)
  rotate_left
  · refine gg_iconst K (v := 0) dX1_longest_17 (by decide) ?_
    exact gg_iret K hr dX1_longest_18 (Nat.le_of_ble_eq_true rfl) (Nat.le_of_ble_eq_true rfl) (mQe (bP_nf h14) ⟨fun h => ⟨⟨h.1, h.2.1⟩, h.2.2⟩, fun h => ⟨h.1.1, h.1.2, h.2⟩⟩ id)
  obtain ⟨⟨⟨h1, h2⟩, h4⟩, h5⟩ := eR_0.mp (bP_iff.mp h14)
  have ⟨a1, a2⟩ := inR_N (b := 2) h1
  have ⟨b1, b2⟩ := inR_N (b := 8) h2
  have ⟨q1, q2⟩ := inR_N (b := 60) h4
  have hq := leT q2 q1 hT h5
  refine gg_iconst K (v := 0) dX1_longest_19 (by decide) ?_
  refine gg_istore K dX1_longest_20 (by decide) ?_
  refine gg_iconst K (v := 0) dX1_longest_22 (by decide) ?_
  refine gg_istore K dX1_longest_23 (by decide) ?_
  refine gg_sub (L' := [(5, .int (nI 0)), (4, .int (nI (lgF (vM k T (nN q) (nN t * 8 + nN y)) 0))), (0, .ref Y.1), (1, .int t), (2, .int y), (3, .int q)]) ⟨rfl, rfl, rfl, rfl, rfl, rfl, trivial⟩ ?_
  refine gg_loop (fun i w L => ∃ (j : Nat), j + i = 61 ∧ w = wM Z Y k (eR (inR t 2 ∧ inR y 8) q T) (nI T) rf rb re ∧ j ≤ 60 ∧ L = [(5, .int (nI j)), (4, .int (nI (lgF (vM k T (nN q) (nN t * 8 + nN y)) j))), (0, .ref Y.1), (1, .int t), (2, .int y), (3, .int q)]) (fun w L h => ?_) (fun i w L h ih => ?_) 61 _ _ ⟨0, rfl, rfl, by omega, rfl⟩
  · obtain ⟨j, hj, -, h2, -⟩ := h
    omega
  obtain ⟨j, hj, rfl, -, rfl⟩ := h
  refine gg_iload K dX1_longest_25 rfl ?_
  refine gg_bipush K (v := 60) dX1_longest_27 (by decide) ?_
  refine gg_icmp_ge K (tgt := 84) dX1_longest_29 (by decide) (fun h29 => ?_) (fun h29 => ?_)
  · have hj2 := i_le (a := 60) h29
    have hj3 : j = 60 := by omega
    subst hj3
    refine gg_iload K dX1_longest_84 rfl ?_
    exact gg_iret K hr dX1_longest_86 (Nat.le_of_ble_eq_true rfl) (Nat.le_of_ble_eq_true rfl) (mQ0 (bP_iff.mp h14) ⟨h1, h2, h4⟩ h5 rfl)
  have hj2 := i_nle (a := 60) h29
  have e3 := lgF_le (vM k T (nN q) (nN t * 8 + nN y)) (n := j) (by omega)
  have nxt : ∀ D9 : Nat, D9 ≤ 60 → lgF (vM k T (nN q) (nN t * 8 + nN y)) (j + 1) = (if lgF (vM k T (nN q) (nN t * 8 + nN y)) j < D9 then D9 else lgF (vM k T (nN q) (nN t * 8 + nN y)) j) → gg p l e (rmk 9 200 0 0) s m args below meth c Z.1 A 7 0 0 (MQ below (qA Z.1 (ty3 Z) A (mPost Z Y (qS (vM k T) T (inR t 2 ∧ inR y 8 ∧ inR q 60) (q ≤ nI T) (nI (lgF (vM k T (nN q) (nN t * 8 + nN y)) 60))))) args s (rmk 9 200 0 0).cells (rmk 9 200 0 0).slots A) (wM Z Y k (eR (inR t 2 ∧ inR y 8) q T) (nI T) rf rb re) 60 ([(5, .int (nI j)), (4, .int (nI (lgF (vM k T (nN q) (nN t * 8 + nN y)) j))), (0, .ref Y.1), (1, .int t), (2, .int y), (3, .int q)]) [.int (nI D9)] := fun D9 hD9 hl9 => by
    refine gg_istore K dX1_longest_60 (by decide) ?_
    refine gg_iload K dX1_longest_62 rfl ?_
    refine gg_iload K dX1_longest_64 rfl ?_
    refine gg_icmp_le K (tgt := 74) dX1_longest_66 (by decide) (fun h66 => ?_) (fun h66 => ?_)
    · have g := i_le h66
      rw [if_neg (by omega)] at hl9
      refine gg_iload K dX1_longest_74 rfl ?_
      refine gg_istore K dX1_longest_76 (by decide) ?_
      refine gg_iinc K (v := nI (j + 1)) dX1_longest_78 rfl (nI_inc (j)) (by decide) ?_
      refine gg_goto K (tgt := 25) dX1_longest_81 (by decide) ?_
      refine gg_sub (L' := [(5, .int (nI (j + 1))), (4, .int (nI (lgF (vM k T (nN q) (nN t * 8 + nN y)) (j + 1)))), (0, .ref Y.1), (1, .int t), (2, .int y), (3, .int q)]) ⟨rfl, by rw [hl9]; rfl, rfl, rfl, rfl, rfl, trivial⟩ ?_
      exact ih _ _ ⟨j + 1, by omega, rfl, by omega, rfl⟩
    · have g := i_nle h66
      rw [if_pos g] at hl9
      refine gg_iload K dX1_longest_69 rfl ?_
      refine gg_goto K (tgt := 76) dX1_longest_71 (by decide) ?_
      refine gg_istore K dX1_longest_76 (by decide) ?_
      refine gg_iinc K (v := nI (j + 1)) dX1_longest_78 rfl (nI_inc (j)) (by decide) ?_
      refine gg_goto K (tgt := 25) dX1_longest_81 (by decide) ?_
      refine gg_sub (L' := [(5, .int (nI (j + 1))), (4, .int (nI (lgF (vM k T (nN q) (nN t * 8 + nN y)) (j + 1)))), (0, .ref Y.1), (1, .int t), (2, .int y), (3, .int q)]) ⟨rfl, by rw [hl9]; rfl, rfl, rfl, rfl, rfl, trivial⟩ ?_
      exact ih _ _ ⟨j + 1, by omega, rfl, by omega, rfl⟩
  refine gg_aload_n K (i := 0) dX1_longest_32 rfl rfl ?_
  refine gg_iload_n K (i := 1) dX1_longest_33 rfl rfl ?_
  refine gg_iload_n K (i := 2) dX1_longest_34 rfl rfl ?_
  refine gg_iload_n K (i := 3) dX1_longest_35 rfl rfl ?_
  refine gg_iload K dX1_longest_36 rfl ?_
  refine gg_callRM K k_X1_X1_begins (m_begins (nN q) (nN t) (nN y) j hT hq a1 b1 hj2 a2 b2 q2 rfl) dX1_longest_38 rfl rfl rfl rfl ⟨rfl, rfl⟩ ?_
  refine gg_b_eq K (tgt := 59) dX1_longest_41 (by decide) (fun h41 => ?_) (fun h41 => ?_)
  · refine gg_iconst K (v := 0) dX1_longest_59 (by decide) ?_
    exact nxt 0 (by omega) (by rw [if_neg (by omega)]; exact if_neg (by rw [h41]; decide))
  · refine gg_aload_n K (i := 0) dX1_longest_44 rfl rfl ?_
    refine gg_iload_n K (i := 1) dX1_longest_45 rfl rfl ?_
    refine gg_iload_n K (i := 2) dX1_longest_46 rfl rfl ?_
    refine gg_iload_n K (i := 3) dX1_longest_47 rfl rfl ?_
    refine gg_iload K dX1_longest_48 rfl ?_
    refine gg_callRM K k_X1_X1_end (m_end (nN q) (nN t) (nN y) j hT hq a1 b1 hj2 a2 b2 q2 rfl) dX1_longest_50 rfl rfl rfl rfl ⟨rfl, rfl⟩ ?_
    have e1 := endF_le (f := (vM k T (nN q) (nN t * 8 + nN y))) hj2
    have e2 := endF_gt (vM k T (nN q) (nN t * 8 + nN y)) j
    refine gg_iload K dX1_longest_53 rfl ?_
    refine gg_isub K dX1_longest_55 ?_
    refine gg_top (pk_sub (by omega)) ?_
    refine gg_goto K (tgt := 60) dX1_longest_56 (by decide) ?_
    exact nxt (endF (vM k T (nN q) (nN t * 8 + nN y)) j - j) (by omega) (if_pos h41)
set_option maxRecDepth 100000 in
theorem m_corrections {l : Launch} {Z : ZT} {Y : MT} {k : Nat → Int32} {th rf rb re : Int32} {T : Nat} (hT : T < 60) {t y d f q : Int32} : mA l Z.1 (ty3 Z) yX1_corrections cX1_corrections 9 (some .int) (rmk 9 200 0 0) (wM Z Y k th (nI T) rf rb re) [.ref Y.1, .int t, .int y, .int d, .int f, .int q] (mPost Z Y (qS (vM k T) T (inR t 2 ∧ inR y 8 ∧ inR d 60 ∧ inR f 60 ∧ ¬ q < f ∧ inR q 60) (q ≤ nI T) (nI (fb_ct (fun i => bP (¬ vM k T (nN f + 1 + i) (nN t * 8 + nN y) (nN d) = vM k T (nN f + i) (nN t * 8 + nN y) (nN d))) (nN q - nN f))))) := by
  refine mA_intro (own := RX1) [(0, .ref Y.1), (1, .int t), (2, .int y), (3, .int d), (4, .int f), (5, .int q)] (by decide +kernel) rfl rfl rfl rfl ?_
  intro p e s m args below meth c A K hr hin
  refine gg_cut (inR t 2 ∧ inR y 8 ∧ inR d 60 ∧ inR f 60 ∧ ¬ q < f) 35 [(0, .ref Y.1), (1, .int t), (2, .int y), (3, .int d), (4, .int f), (5, .int q)] [] (fun b hb => ?_) (fun J => ?_)
  · refine gg_istore K dX1_corrections_35 (by decide) ?_
    refine gg_aload_n K (i := 0) dX1_corrections_37 rfl rfl ?_
    refine gg_aload_n K (i := 0) dX1_corrections_38 rfl rfl ?_
    refine gg_iload K dX1_corrections_39 rfl ?_
    refine gg_iload K dX1_corrections_41 rfl ?_
    refine gg_callRM K k_X1_X1_errorOfRecord (m_errR hT hb rfl) dX1_corrections_43 rfl rfl rfl rfl ⟨rfl, rfl⟩ ?_
    refine gg_callUM K k_X1_X1_holds m_holds dX1_corrections_46 rfl rfl rfl rfl ⟨rfl, rfl⟩ (fun v9 u h => ?_)
    obtain ⟨rfl, rfl⟩ := h
    refine gg_b_ne K (tgt := 54) dX1_corrections_49 (by decide) (fun h49 => ?_) (fun h49 => ?_)
    rotate_left
    · refine gg_iconst K (v := 0) dX1_corrections_52 (by decide) ?_
      exact gg_iret K hr dX1_corrections_53 (Nat.le_of_ble_eq_true rfl) (Nat.le_of_ble_eq_true rfl) (mQe (bP_nf h49) ⟨fun h => ⟨⟨h.1, h.2.1, h.2.2.1, h.2.2.2.1, h.2.2.2.2.1⟩, h.2.2.2.2.2⟩, fun h => ⟨h.1.1, h.1.2.1, h.1.2.2.1, h.1.2.2.2.1, h.1.2.2.2.2, h.2⟩⟩ id)
    obtain ⟨⟨⟨h1, h2, h3, h6, h7⟩, h4⟩, h5⟩ := eR_0.mp (bP_iff.mp h49)
    have ⟨a1, a2⟩ := inR_N (b := 2) h1
    have ⟨b1, b2⟩ := inR_N (b := 8) h2
    have ⟨d1, d2⟩ := inR_N (b := 60) h3
    have ⟨f1, f2⟩ := inR_N (b := 60) h6
    have ⟨q1, q2⟩ := inR_N (b := 60) h4
    have hq := leT q2 q1 hT h5
    have hfq : nN f ≤ nN q := by
      have h7' := h7
      rw [f2, q2] at h7'
      exact i_nlt h7'
    refine gg_iconst K (v := 0) dX1_corrections_54 (by decide) ?_
    refine gg_istore K dX1_corrections_55 (by decide) ?_
    refine gg_iload K dX1_corrections_57 rfl ?_
    refine gg_iconst K (v := 1) dX1_corrections_59 (by decide) ?_
    refine gg_iadd K dX1_corrections_60 ?_
    refine gg_top (y := nI (nN f + 1)) (by rw [f2]; exact (nI_1 _).trans (by rw [← f2])) ?_
    refine gg_istore K dX1_corrections_61 (by decide) ?_
    refine gg_sub (L' := [(8, .int (nI (nN f + 1 + 0))), (7, .int (nI (fb_ct (fun i => bP (¬ vM k T (nN f + 1 + i) (nN t * 8 + nN y) (nN d) = vM k T (nN f + i) (nN t * 8 + nN y) (nN d))) 0))), (0, .ref Y.1), (1, .int t), (2, .int y), (3, .int d), (4, .int f), (5, .int q)]) ⟨rfl, rfl, rfl, rfl, rfl, rfl, rfl, rfl, trivial⟩ ?_
    refine gg_loop (fun i w L => ∃ (j : Nat), j + i = nN q - nN f + 1 ∧ w = wM Z Y k (eR (inR t 2 ∧ inR y 8 ∧ inR d 60 ∧ inR f 60 ∧ ¬ q < f) q T) (nI T) rf rb re ∧ j ≤ nN q - nN f ∧ L = [(8, .int (nI (nN f + 1 + j))), (7, .int (nI (fb_ct (fun i => bP (¬ vM k T (nN f + 1 + i) (nN t * 8 + nN y) (nN d) = vM k T (nN f + i) (nN t * 8 + nN y) (nN d))) j))), (0, .ref Y.1), (1, .int t), (2, .int y), (3, .int d), (4, .int f), (5, .int q)]) (fun w L h => ?_) (fun i w L h ih => ?_) (nN q - nN f + 1) _ _ ⟨0, by omega, rfl, by omega, rfl⟩
    · obtain ⟨j, hj, -, h2, -⟩ := h
      omega
    obtain ⟨j, hj, rfl, hj1, rfl⟩ := h
    refine gg_iload K dX1_corrections_63 rfl ?_
    refine gg_iload K dX1_corrections_65 rfl ?_
    refine gg_icmp_gt K (tgt := 109) dX1_corrections_67 (by decide) (fun h67 => ?_) (fun h67 => ?_)
    · rw [q2] at h67
      have hj2 := i_lt h67
      have hj3 : j = nN q - nN f := by omega
      subst hj3
      refine gg_iload K dX1_corrections_109 rfl ?_
      exact gg_iret K hr dX1_corrections_111 (Nat.le_of_ble_eq_true rfl) (Nat.le_of_ble_eq_true rfl) (mQ0 (bP_iff.mp h49) ⟨h1, h2, h3, h6, h7, h4⟩ h5 rfl)
    rw [q2] at h67
    have hj2 := i_nlt h67
    have nxt : ∀ b9 : Bool, (fun i => bP (¬ vM k T (nN f + 1 + i) (nN t * 8 + nN y) (nN d) = vM k T (nN f + i) (nN t * 8 + nN y) (nN d))) j = b9 → gg p l e (rmk 9 200 0 0) s m args below meth c Z.1 A 9 0 0 (MQ below (qA Z.1 (ty3 Z) A (mPost Z Y (qS (vM k T) T (inR t 2 ∧ inR y 8 ∧ inR d 60 ∧ inR f 60 ∧ ¬ q < f ∧ inR q 60) (q ≤ nI T) (nI (fb_ct (fun i => bP (¬ vM k T (nN f + 1 + i) (nN t * 8 + nN y) (nN d) = vM k T (nN f + i) (nN t * 8 + nN y) (nN d))) (nN q - nN f)))))) args s (rmk 9 200 0 0).cells (rmk 9 200 0 0).slots A) (wM Z Y k (eR (inR t 2 ∧ inR y 8 ∧ inR d 60 ∧ inR f 60 ∧ ¬ q < f) q T) (nI T) rf rb re) 100 ([(8, .int (nI (nN f + 1 + j))), (7, .int (nI (fb_ct (fun i => bP (¬ vM k T (nN f + 1 + i) (nN t * 8 + nN y) (nN d) = vM k T (nN f + i) (nN t * 8 + nN y) (nN d))) j))), (0, .ref Y.1), (1, .int t), (2, .int y), (3, .int d), (4, .int f), (5, .int q)]) [.int (bI b9), .int (nI (fb_ct (fun i => bP (¬ vM k T (nN f + 1 + i) (nN t * 8 + nN y) (nN d) = vM k T (nN f + i) (nN t * 8 + nN y) (nN d))) j))] := fun b9 hb9 => by
      refine gg_iadd K dX1_corrections_100 ?_
      refine gg_top (y := nI (fb_ct (fun i => bP (¬ vM k T (nN f + 1 + i) (nN t * 8 + nN y) (nN d) = vM k T (nN f + i) (nN t * 8 + nN y) (nN d))) (j + 1))) (by rw [← hb9]; exact ct_add (q := (fun i => bP (¬ vM k T (nN f + 1 + i) (nN t * 8 + nN y) (nN d) = vM k T (nN f + i) (nN t * 8 + nN y) (nN d))))) ?_
      refine gg_istore K dX1_corrections_101 (by decide) ?_
      refine gg_iinc K (v := nI (nN f + 1 + j + 1)) dX1_corrections_103 rfl (nI_inc (nN f + 1 + j)) (by decide) ?_
      refine gg_goto K (tgt := 63) dX1_corrections_106 (by decide) ?_
      refine gg_sub (L' := [(8, .int (nI (nN f + 1 + (j + 1)))), (7, .int (nI (fb_ct (fun i => bP (¬ vM k T (nN f + 1 + i) (nN t * 8 + nN y) (nN d) = vM k T (nN f + i) (nN t * 8 + nN y) (nN d))) (j + 1)))), (0, .ref Y.1), (1, .int t), (2, .int y), (3, .int d), (4, .int f), (5, .int q)]) ⟨rfl, rfl, rfl, rfl, rfl, rfl, rfl, rfl, trivial⟩ ?_
      exact ih _ _ ⟨j + 1, by omega, rfl, by omega, rfl⟩
    refine gg_iload K dX1_corrections_70 rfl ?_
    refine gg_aload_n K (i := 0) dX1_corrections_72 rfl rfl ?_
    refine gg_iload K dX1_corrections_73 rfl ?_
    refine gg_iload_n K (i := 1) dX1_corrections_75 rfl rfl ?_
    refine gg_iload_n K (i := 2) dX1_corrections_76 rfl rfl ?_
    refine gg_iload_n K (i := 3) dX1_corrections_77 rfl rfl ?_
    refine gg_callRM K k_X1_X1_of (m_of (nN f + 1 + j) (nN t) (nN y) (nN d) hT (by omega) a1 b1 d1 rfl a2 b2 d2) dX1_corrections_78 rfl rfl rfl rfl ⟨rfl, rfl⟩ ?_
    refine gg_aload_n K (i := 0) dX1_corrections_81 rfl rfl ?_
    refine gg_iload K dX1_corrections_82 rfl ?_
    refine gg_iconst K (v := 1) dX1_corrections_84 (by decide) ?_
    refine gg_isub K dX1_corrections_85 ?_
    refine gg_iload_n K (i := 1) dX1_corrections_86 rfl rfl ?_
    refine gg_iload_n K (i := 2) dX1_corrections_87 rfl rfl ?_
    refine gg_iload_n K (i := 3) dX1_corrections_88 rfl rfl ?_
    refine gg_callRM K k_X1_X1_of (m_of (nN f + j) (nN t) (nN y) (nN d) hT (by omega) a1 b1 d1 ((nI_sub1 (by omega)).trans (congrArg nI (by omega))) a2 b2 d2) dX1_corrections_89 rfl rfl rfl rfl ⟨rfl, rfl⟩ ?_
    refine gg_icmp_ne K (tgt := 99) dX1_corrections_92 (by decide) (fun h92 => ?_) (fun h92 => ?_)
    · refine gg_iconst K (v := 1) dX1_corrections_99 (by decide) ?_
      exact nxt true (bP_t h92)
    · refine gg_iconst K (v := 0) dX1_corrections_95 (by decide) ?_
      refine gg_goto K (tgt := 100) dX1_corrections_96 (by decide) ?_
      exact nxt false (bP_f (fun z => z h92))
  refine gg_iload_n K (i := 1) dX1_corrections_0 rfl rfl ?_
  refine gg_iload_n K (i := 2) dX1_corrections_1 rfl rfl ?_
  refine gg_callSR K k_X1_X1_isKey m_isKey dX1_corrections_2 rfl rfl rfl rfl ⟨rfl, rfl⟩ ?_
  refine gg_b_eq K (tgt := 34) dX1_corrections_5 (by decide) (fun h5 => ?_) (fun h5 => ?_)
  · refine gg_iconst K (v := 0) dX1_corrections_34 (by decide) ?_
    exact J false (ft_iff (fun z => bP_nf h5 ⟨z.1, z.2.1⟩))
  refine gg_iload_n K (i := 3) dX1_corrections_8 rfl rfl ?_
  refine gg_callSR K k_X1_X1_isDay m_isDay dX1_corrections_9 rfl rfl rfl rfl ⟨rfl, rfl⟩ ?_
  refine gg_b_eq K (tgt := 34) dX1_corrections_12 (by decide) (fun h12 => ?_) (fun h12 => ?_)
  · refine gg_iconst K (v := 0) dX1_corrections_34 (by decide) ?_
    exact J false (ft_iff (fun z => bP_nf h12 z.2.2.1))
  refine gg_iload K dX1_corrections_15 rfl ?_
  refine gg_callSR K k_X1_X1_isDay m_isDay dX1_corrections_17 rfl rfl rfl rfl ⟨rfl, rfl⟩ ?_
  refine gg_b_eq K (tgt := 34) dX1_corrections_20 (by decide) (fun h20 => ?_) (fun h20 => ?_)
  · refine gg_iconst K (v := 0) dX1_corrections_34 (by decide) ?_
    exact J false (ft_iff (fun z => bP_nf h20 z.2.2.2.1))
  refine gg_iload K dX1_corrections_23 rfl ?_
  refine gg_iload K dX1_corrections_25 rfl ?_
  refine gg_icmp_lt K (tgt := 34) dX1_corrections_27 (by decide) (fun h27 => ?_) (fun h27 => ?_)
  · refine gg_iconst K (v := 0) dX1_corrections_34 (by decide) ?_
    exact J false (ft_iff (fun z => z.2.2.2.2 h27))
  · refine gg_iconst K (v := 1) dX1_corrections_30 (by decide) ?_
    refine gg_goto K (tgt := 35) dX1_corrections_31 (by decide) ?_
    exact J true (tt_iff ⟨(bP_iff.mp h5).1, (bP_iff.mp h5).2, bP_iff.mp h12, bP_iff.mp h20, h27⟩)
def mPostF (Z : ZT) (Y : MT) (S : STf) : Option Value → va_W → Prop := fun ret u => ∃ (c : Int32) (r : UInt32) (k' : Nat → Int32) (T' : Nat) (rf rb re : Int32), ret = some (.float r) ∧ u = wM Z Y k' c (nI T') rf rb re ∧ S c r (vM k' T') T'
set_option maxRecDepth 100000 in
theorem m_average {l : Launch} {Z : ZT} {Y : MT} {k : Nat → Int32} {th rf rb re : Int32} {T : Nat} (hT : T < 60) (hv : valOk (vM k T) T) {y q : Int32} : mA l Z.1 (ty3 Z) yX1_average cX1_average 8 (some .float) (rmk 9 200 0 0) (wM Z Y k th (nI T) rf rb re) [.ref Y.1, .int y, .int q] (mPostF Z Y (aS (vM k T) T (inR y 8 ∧ inR q 60) (q ≤ nI T) (vM k T (nN q) (nN y)))) := by
  refine mA_intro (own := RX1) [(0, .ref Y.1), (1, .int y), (2, .int q)] (by decide +kernel) rfl rfl rfl rfl ?_
  intro p e s m args below meth c A K hr hin
  have hPP : (inR 0 2 ∧ inR y 8) ↔ inR y 8 := ⟨fun z => z.2, fun z => ⟨inR_of (j := 0) (b := 2) (by omega), z⟩⟩
  refine gg_aload_n K (i := 0) dX1_average_0 rfl rfl ?_
  refine gg_iconst K (v := 0) dX1_average_1 (by decide) ?_
  refine gg_iload_n K (i := 1) dX1_average_2 rfl rfl ?_
  refine gg_callSR K k_X1_X1_isKey m_isKey dX1_average_3 rfl rfl rfl rfl ⟨rfl, rfl⟩ ?_
  refine gg_iload_n K (i := 2) dX1_average_6 rfl rfl ?_
  refine gg_callRM K k_X1_X1_errorOfRecord (m_errR (P := (inR 0 2 ∧ inR y 8)) hT bP_iff rfl) dX1_average_7 rfl rfl rfl rfl ⟨rfl, rfl⟩ ?_
  refine gg_istore_n K (i := 3) dX1_average_10 rfl (by decide) ?_
  refine gg_iconst K (v := 0) dX1_average_11 (by decide) ?_
  refine gg_istore K dX1_average_12 (by decide) ?_
  refine gg_iconst K (v := 0) dX1_average_14 (by decide) ?_
  refine gg_istore K dX1_average_15 (by decide) ?_
  refine gg_iconst K (v := 0) dX1_average_17 (by decide) ?_
  refine gg_istore K dX1_average_18 (by decide) ?_
  by_cases he : eR (inR 0 2 ∧ inR y 8) q T = 0
  rotate_left
  · refine gg_iload K dX1_average_20 rfl ?_
    refine gg_bipush K (v := 60) dX1_average_22 (by decide) ?_
    refine gg_icmp_ge K (tgt := 81) dX1_average_24 (by decide) (fun h24 => ?_) (fun h24 => ?_)
    · exact absurd h24 (by decide)
    refine gg_iload_n K (i := 3) dX1_average_27 rfl rfl ?_
    refine gg_if_ne K (tgt := 81) dX1_average_28 (by decide) (fun h28 => ?_) (fun h28 => ?_)
    rotate_left
    · exact absurd h28 he
    refine gg_aload_n K (i := 0) dX1_average_81 rfl rfl ?_
    refine gg_iload_n K (i := 3) dX1_average_82 rfl rfl ?_
    refine gg_if_le K (tgt := 90) dX1_average_83 (by decide) (fun h83 => ?_) (fun h83 => ?_)
    · exact absurd (eR_le h83) he
    refine gg_iload_n K (i := 3) dX1_average_86 rfl rfl ?_
    refine gg_goto K (tgt := 100) dX1_average_87 (by decide) ?_
    refine gg_callUM K k_X1_X1_holds m_holds dX1_average_100 rfl rfl rfl rfl ⟨rfl, rfl⟩ (fun v9 u h => ?_)
    obtain ⟨rfl, rfl⟩ := h
    refine gg_b_eq K (tgt := 116) dX1_average_103 (by decide) (fun h103 => ?_) (fun h103 => ?_)
    rotate_left
    · exact absurd (bP_iff.mp h103) he
    refine gg_fconst0 K dX1_average_116 ?_
    refine gg_fret K hr dX1_average_117 (Nat.le_of_ble_eq_true rfl) (Nat.le_of_ble_eq_true rfl) ⟨_, _, k, T, rf, rb, re, rfl, rfl, rfl, rfl, ?_⟩
    obtain ⟨-, -, h9⟩ := qS_e (V := vM k T) (r := 0) (r0 := 0) (P1 := inR y 8 ∧ inR q 60) (P2 := q ≤ nI T) he ⟨fun z => ⟨hPP.mpr z.1, z.2⟩, fun z => ⟨z.1.2, z.2⟩⟩ id
    rcases h9 with h9 | h9 | h9
    · exact Or.inl h9
    · exact Or.inr (Or.inl h9)
    · exact absurd h9.2.2.1 he
  obtain ⟨⟨⟨-, h2⟩, h4⟩, h5⟩ := eR_0.mp he
  have ⟨b1, b2⟩ := inR_N (b := 8) h2
  have ⟨q1, q2⟩ := inR_N (b := 60) h4
  have hq := leT q2 q1 hT h5
  have hf : ∀ d, d < 60 → (vM k T (nN q) (nN y)) d = -1 ∨ ∃ j, (vM k T (nN q) (nN y)) d = nI j ∧ j < 100 := fun d hd => (hv (nN q) (nN y) d hq (by omega) hd).elim Or.inl (fun ⟨j, g1, g2, _⟩ => Or.inr ⟨j, g1, g2⟩)
  refine gg_sub (L' := [(6, .int (nI 0)), (5, .int (nI (ctV (vM k T (nN q) (nN y)) 0))), (4, .int (smV (vM k T (nN q) (nN y)) 0)), (3, .int (eR (inR 0 2 ∧ inR y 8) q T)), (0, .ref Y.1), (1, .int y), (2, .int q)]) ⟨rfl, rfl, rfl, rfl, rfl, rfl, rfl, trivial⟩ ?_
  refine gg_loop (fun i w L => ∃ (j : Nat), j + i = 61 ∧ w = wM Z Y k th (nI T) rf rb re ∧ j ≤ 60 ∧ L = [(6, .int (nI j)), (5, .int (nI (ctV (vM k T (nN q) (nN y)) j))), (4, .int (smV (vM k T (nN q) (nN y)) j)), (3, .int (eR (inR 0 2 ∧ inR y 8) q T)), (0, .ref Y.1), (1, .int y), (2, .int q)]) (fun w L h => ?_) (fun i w L h ih => ?_) 61 _ _ ⟨0, rfl, rfl, by omega, rfl⟩
  · obtain ⟨j, hj, -, h2, -⟩ := h
    omega
  obtain ⟨j, hj, rfl, -, rfl⟩ := h
  refine gg_iload K dX1_average_20 rfl ?_
  refine gg_bipush K (v := 60) dX1_average_22 (by decide) ?_
  refine gg_icmp_ge K (tgt := 81) dX1_average_24 (by decide) (fun h24 => ?_) (fun h24 => ?_)
  · have hj2 := i_le (a := 60) h24
    have hj3 : j = 60 := by omega
    subst hj3
    have hle := fb_ct_le (fun d => bP (¬ (vM k T (nN q) (nN y)) d = -1)) 60
    refine gg_aload_n K (i := 0) dX1_average_81 rfl rfl ?_
    refine gg_iload_n K (i := 3) dX1_average_82 rfl rfl ?_
    refine gg_if_le K (tgt := 90) dX1_average_83 (by decide) (fun h83 => ?_) (fun h83 => ?_)
    rotate_left
    · exact absurd (by rw [he]; decide) h83
    refine gg_iload K dX1_average_90 rfl ?_
    refine gg_if_ne K (tgt := 99) dX1_average_92 (by decide) (fun h92 => ?_) (fun h92 => ?_)
    · have hn0 : ¬ ctV (vM k T (nN q) (nN y)) 60 = 0 := fun z => h92 (by rw [z]; rfl)
      have hnn := avF_num hf (n := ctV (vM k T (nN q) (nN y)) 60) (by omega) hle
      refine gg_iconst K (v := 0) dX1_average_99 (by decide) ?_
      refine gg_callUM K k_X1_X1_holds m_holds dX1_average_100 rfl rfl rfl rfl ⟨rfl, rfl⟩ (fun v9 u h => ?_)
      obtain ⟨rfl, rfl⟩ := h
      refine gg_b_eq K (tgt := 116) dX1_average_103 (by decide) (fun h103 => ?_) (fun h103 => ?_)
      · exact absurd rfl (bP_nf h103)
      refine gg_iload K dX1_average_106 rfl ?_
      refine gg_i2f K dX1_average_108 ?_
      refine gg_iload K dX1_average_109 rfl ?_
      refine gg_i2f K dX1_average_111 ?_
      refine gg_fdiv K dX1_average_112 (vf_n32_of hnn) ?_
      refine gg_goto K (tgt := 117) dX1_average_113 (by decide) ?_
      exact gg_fret K hr dX1_average_117 (Nat.le_of_ble_eq_true rfl) (Nat.le_of_ble_eq_true rfl) ⟨0, _, k, T, rf, rb, re, rfl, rfl, rfl, rfl, Or.inr (Or.inr (Or.inr ⟨⟨h2, h4⟩, h5, hn0, rfl, rfl⟩))⟩
    · have hn0 : ctV (vM k T (nN q) (nN y)) 60 = 0 := i_eq (b := 0) h92 (by unfold ctV; omega)
      refine gg_iconst K (v := 3) dX1_average_95 (by decide) ?_
      refine gg_goto K (tgt := 100) dX1_average_96 (by decide) ?_
      refine gg_callUM K k_X1_X1_holds m_holds dX1_average_100 rfl rfl rfl rfl ⟨rfl, rfl⟩ (fun v9 u h => ?_)
      obtain ⟨rfl, rfl⟩ := h
      refine gg_b_eq K (tgt := 116) dX1_average_103 (by decide) (fun h103 => ?_) (fun h103 => ?_)
      rotate_left
      · exact absurd (bP_iff.mp h103) (by decide)
      refine gg_fconst0 K dX1_average_116 ?_
      exact gg_fret K hr dX1_average_117 (Nat.le_of_ble_eq_true rfl) (Nat.le_of_ble_eq_true rfl) ⟨3, _, k, T, rf, rb, re, rfl, rfl, rfl, rfl, Or.inr (Or.inr (Or.inl ⟨⟨h2, h4⟩, h5, hn0, rfl⟩))⟩
  have hj2 := i_nle (a := 60) h24
  refine gg_iload_n K (i := 3) dX1_average_27 rfl rfl ?_
  refine gg_if_ne K (tgt := 81) dX1_average_28 (by decide) (fun h28 => ?_) (fun h28 => ?_)
  · exact absurd he h28
  refine gg_aload_n K (i := 0) dX1_average_31 rfl rfl ?_
  refine gg_iload_n K (i := 2) dX1_average_32 rfl rfl ?_
  refine gg_iconst K (v := 0) dX1_average_33 (by decide) ?_
  refine gg_iload_n K (i := 1) dX1_average_34 rfl rfl ?_
  refine gg_iload K dX1_average_35 rfl ?_
  refine gg_callRM K k_X1_X1_of (m_of (nN q) 0 (nN y) j hT hq (by omega) b1 hj2 q2 rfl b2 rfl) dX1_average_37 rfl rfl rfl rfl ⟨rfl, rfl⟩ ?_
  rw [show 0 * 8 + nN y = nN y by omega]
  refine gg_istore K dX1_average_40 (by decide) ?_
  refine gg_iload K dX1_average_42 rfl ?_
  refine gg_iload K dX1_average_44 rfl ?_
  refine gg_iconst K (v := (-1)) dX1_average_46 (by decide) ?_
  refine gg_icmp_ne K (tgt := 54) dX1_average_47 (by decide) (fun h47 => ?_) (fun h47 => ?_)
  · refine gg_iload K dX1_average_54 rfl ?_
    refine gg_iadd K dX1_average_56 ?_
    refine gg_top (y := smV (vM k T (nN q) (nN y)) (j + 1)) (if_neg h47).symm ?_
    refine gg_istore K dX1_average_57 (by decide) ?_
    refine gg_iload K dX1_average_59 rfl ?_
    refine gg_iload K dX1_average_61 rfl ?_
    refine gg_iconst K (v := (-1)) dX1_average_63 (by decide) ?_
    refine gg_icmp_ne K (tgt := 71) dX1_average_64 (by decide) (fun h64 => ?_) (fun h64 => ?_)
    · refine gg_iconst K (v := 1) dX1_average_71 (by decide) ?_
      refine gg_iadd K dX1_average_72 ?_
      refine gg_top (y := nI (ctV (vM k T (nN q) (nN y)) (j + 1))) (by rw [show ctV (vM k T (nN q) (nN y)) (j + 1) = ctV (vM k T (nN q) (nN y)) j + 1 by unfold ctV; rw [fb_ct_succ, bP_t h64]; rfl]; exact nI_add _ 1) ?_
      refine gg_istore K dX1_average_73 (by decide) ?_
      refine gg_iinc K (v := nI (j + 1)) dX1_average_75 rfl (nI_inc (j)) (by decide) ?_
      refine gg_goto K (tgt := 20) dX1_average_78 (by decide) ?_
      refine gg_sub (L' := [(6, .int (nI (j + 1))), (5, .int (nI (ctV (vM k T (nN q) (nN y)) (j + 1)))), (4, .int (smV (vM k T (nN q) (nN y)) (j + 1))), (3, .int (eR (inR 0 2 ∧ inR y 8) q T)), (0, .ref Y.1), (1, .int y), (2, .int q)]) ⟨rfl, rfl, rfl, rfl, rfl, rfl, rfl, trivial⟩ ?_
      exact ih _ _ ⟨j + 1, by omega, rfl, by omega, rfl⟩
    · exact absurd h64 h47
  · refine gg_iconst K (v := 0) dX1_average_50 (by decide) ?_
    refine gg_goto K (tgt := 56) dX1_average_51 (by decide) ?_
    refine gg_iadd K dX1_average_56 ?_
    refine gg_top (y := smV (vM k T (nN q) (nN y)) (j + 1)) ((Int32.add_zero _).trans (if_pos h47).symm) ?_
    refine gg_istore K dX1_average_57 (by decide) ?_
    refine gg_iload K dX1_average_59 rfl ?_
    refine gg_iload K dX1_average_61 rfl ?_
    refine gg_iconst K (v := (-1)) dX1_average_63 (by decide) ?_
    refine gg_icmp_ne K (tgt := 71) dX1_average_64 (by decide) (fun h64 => ?_) (fun h64 => ?_)
    · exact absurd h47 h64
    · refine gg_iconst K (v := 0) dX1_average_67 (by decide) ?_
      refine gg_goto K (tgt := 72) dX1_average_68 (by decide) ?_
      refine gg_iadd K dX1_average_72 ?_
      refine gg_top (y := nI (ctV (vM k T (nN q) (nN y)) (j + 1))) (by rw [show ctV (vM k T (nN q) (nN y)) (j + 1) = ctV (vM k T (nN q) (nN y)) j by unfold ctV; rw [fb_ct_succ, bP_f (fun z => z h47)]; rfl]; exact Int32.add_zero _) ?_
      refine gg_istore K dX1_average_73 (by decide) ?_
      refine gg_iinc K (v := nI (j + 1)) dX1_average_75 rfl (nI_inc (j)) (by decide) ?_
      refine gg_goto K (tgt := 20) dX1_average_78 (by decide) ?_
      refine gg_sub (L' := [(6, .int (nI (j + 1))), (5, .int (nI (ctV (vM k T (nN q) (nN y)) (j + 1)))), (4, .int (smV (vM k T (nN q) (nN y)) (j + 1))), (3, .int (eR (inR 0 2 ∧ inR y 8) q T)), (0, .ref Y.1), (1, .int y), (2, .int q)]) ⟨rfl, rfl, rfl, rfl, rfl, rfl, rfl, trivial⟩ ?_
      exact ih _ _ ⟨j + 1, by omega, rfl, by omega, rfl⟩
end
