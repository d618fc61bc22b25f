/-! Twotimes: runs, rows, joins of the store read -/
theorem nI_inc (j : Nat) : nI j + Int32.ofInt 1 = nI (j + 1) := nI_1 j
theorem i_le {a b : Nat} (h : nI a ≤ nI b) (ha : a < 2 ^ 31 := by omega) (hb : b < 2 ^ 31 := by omega) : a ≤ b := (nI_leI ha hb).mp h
theorem i_lt {a b : Nat} (h : nI a < nI b) (ha : a < 2 ^ 31 := by omega) (hb : b < 2 ^ 31 := by omega) : a < b := (nI_ltI ha hb).mp h
theorem i_nle {a b : Nat} (h : ¬ nI a ≤ nI b) (ha : a < 2 ^ 31 := by omega) (hb : b < 2 ^ 31 := by omega) : b < a := Nat.not_le.mp (fun q => h ((nI_leI ha hb).mpr q))
theorem i_nlt {a b : Nat} (h : ¬ nI a < nI b) (ha : a < 2 ^ 31 := by omega) (hb : b < 2 ^ 31 := by omega) : b ≤ a := Nat.not_lt.mp (fun q => h ((nI_ltI ha hb).mpr q))
theorem i_eq {a b : Nat} (h : nI a = nI b) (ha : a < 2 ^ 31 := by omega) (hb : b < 2 ^ 31 := by omega) : a = b := (nI_eq ha hb).mp h
theorem i_ne {a b : Nat} (h : ¬ nI a = nI b) : ¬ a = b := fun q => h (by rw [q])
theorem gg_loop {p : Program} {l : Launch} {e : Env} {R : Room} {s : State} {m : MethodId} {args : Array Value} {below : List Frame} {meth : Method} {c : Code} {D : va_G} {A : Nat → Prop} {n cells slots pc : Nat} {Q : State → Prop} (I : Nat → va_W → List (Nat × Value) → Prop) (h0 : ∀ (w : va_W) (L : List (Nat × Value)), ¬ I 0 w L)
    (step : ∀ (i : Nat) (w : va_W) (L : List (Nat × Value)), I (i + 1) w L → (∀ (w' : va_W) (L' : List (Nat × Value)), I i w' L' → gg p l e R s m args below meth c D A n cells slots Q w' pc L' []) → gg p l e R s m args below meth c D A n cells slots Q w pc L []) : ∀ (i : Nat) (w : va_W) (L : List (Nat × Value)), I i w L → gg p l e R s m args below meth c D A n cells slots Q w pc L []
  | 0, w, L, h => absurd h (h0 w L)
  | i + 1, w, L, h => step i w L h (fun w' L' h' => gg_loop I h0 step i w' L' h')
theorem stF_t {f : Nat → Int32} {d : Nat} (h1 : ¬ f d = -1) (h2 : d = 0 ∨ ¬ f (d - 1) = f d) : stF f d = true := decide_eq_true ⟨h1, h2⟩
theorem stF_f {f : Nat → Int32} {d : Nat} (h : ¬ (¬ f d = -1 ∧ (d = 0 ∨ ¬ f (d - 1) = f d))) : stF f d = false := decide_eq_false h
theorem bI_e {b : Bool} {x : Int32} (h : x = bI b) : x = 0 ∨ x = 1 := by rw [h]; exact bI_01 b
set_option maxRecDepth 100000 in
theorem x_startsRun {l : Launch} {Z : ZT} {X : XT} {k kp dr : Nat → Int32} {td : Int32} {T : Nat} (r li d : Nat) {x y z : Int32} (ok : okX kp T) (hr0 : r ≤ T) (hl0 : li < 16) (hd0 : d < 60) (hx : x = nI r) (hy : y = nI li) (hz : z = nI d) : mR l Z yX0_startsRun cX0_startsRun 5 (some .boolean) (rmk 2 60 0 0) (wX Z X k kp dr td) [.ref X.1, .int x, .int y, .int z] (.int (bI (stF (vX k kp T r li) d))) := by
  refine mA_intro (own := RX0) [(0, .ref X.1), (1, .int x), (2, .int y), (3, .int z)] (by decide +kernel) rfl rfl rfl rfl ?_
  intro p e s m args below meth c A K hr hin
  subst hx hy hz
  refine gg_aload_n K (i := 0) dX0_startsRun_0 rfl rfl ?_
  refine gg_iload_n K (i := 1) dX0_startsRun_1 rfl rfl ?_
  refine gg_iload_n K (i := 2) dX0_startsRun_2 rfl rfl ?_
  refine gg_iload_n K (i := 3) dX0_startsRun_3 rfl rfl ?_
  refine gg_callRX K k_X0_X0_knownOn (x_knownOn r li d ok hr0 hl0 hd0 rfl rfl rfl) dX0_startsRun_4 rfl rfl rfl rfl ⟨rfl, rfl⟩ ?_
  refine gg_istore K dX0_startsRun_7 (by decide) ?_
  refine gg_iload K dX0_startsRun_9 rfl ?_
  refine gg_iconst K (v := (-1)) dX0_startsRun_11 (by decide) ?_
  refine gg_icmp_eq K (tgt := 37) dX0_startsRun_12 (by decide) (fun h12 => ?_) (fun h12 => ?_)
  · refine gg_iconst K (v := 0) dX0_startsRun_37 (by decide) ?_
    exact gg_zret K hr dX0_startsRun_38 (Or.inl rfl) (Nat.zero_le _) (Nat.zero_le _) ⟨some_int (bI_f (stF_f (fun q => q.1 h12))).symm, rfl⟩
  refine gg_iload_n K (i := 3) dX0_startsRun_15 rfl rfl ?_
  refine gg_if_eq K (tgt := 33) dX0_startsRun_16 (by decide) (fun h16 => ?_) (fun h16 => ?_)
  · refine gg_iconst K (v := 1) dX0_startsRun_33 (by decide) ?_
    refine gg_goto K (tgt := 38) dX0_startsRun_34 (by decide) ?_
    exact gg_zret K hr dX0_startsRun_38 (Or.inr rfl) (Nat.zero_le _) (Nat.zero_le _) ⟨some_int (bI_t (stF_t h12 (Or.inl (i_eq (b := 0) h16)))).symm, rfl⟩
  have hd1 : ¬ d = 0 := fun q => h16 (by rw [q]; rfl)
  refine gg_aload_n K (i := 0) dX0_startsRun_19 rfl rfl ?_
  refine gg_iload_n K (i := 1) dX0_startsRun_20 rfl rfl ?_
  refine gg_iload_n K (i := 2) dX0_startsRun_21 rfl rfl ?_
  refine gg_iload_n K (i := 3) dX0_startsRun_22 rfl rfl ?_
  refine gg_iconst K (v := 1) dX0_startsRun_23 (by decide) ?_
  refine gg_isub K dX0_startsRun_24 ?_
  refine gg_callRX K k_X0_X0_knownOn (x_knownOn r li (d - 1) ok hr0 hl0 (by omega) rfl rfl (nI_sub1 (by omega))) dX0_startsRun_25 rfl rfl rfl rfl ⟨rfl, rfl⟩ ?_
  refine gg_iload K dX0_startsRun_28 rfl ?_
  refine gg_icmp_eq K (tgt := 37) dX0_startsRun_30 (by decide) (fun h30 => ?_) (fun h30 => ?_)
  · refine gg_iconst K (v := 0) dX0_startsRun_37 (by decide) ?_
    exact gg_zret K hr dX0_startsRun_38 (Or.inl rfl) (Nat.zero_le _) (Nat.zero_le _) ⟨some_int (bI_f (stF_f (fun q => q.2.elim hd1 (fun z => z h30)))).symm, rfl⟩
  · refine gg_iconst K (v := 1) dX0_startsRun_33 (by decide) ?_
    refine gg_goto K (tgt := 38) dX0_startsRun_34 (by decide) ?_
    exact gg_zret K hr dX0_startsRun_38 (Or.inr rfl) (Nat.zero_le _) (Nat.zero_le _) ⟨some_int (bI_t (stF_t h12 (Or.inr h30))).symm, rfl⟩
set_option maxRecDepth 100000 in
theorem x_endOfRun {l : Launch} {Z : ZT} {X : XT} {k kp dr : Nat → Int32} {td : Int32} {T : Nat} (r li d : Nat) {x y z : Int32} (ok : okX kp T) (hr0 : r ≤ T) (hl0 : li < 16) (hd0 : d < 60) (hx : x = nI r) (hy : y = nI li) (hz : z = nI d) : mR l Z yX0_endOfRun cX0_endOfRun 6 (some .int) (rmk 2 60 0 0) (wX Z X k kp dr td) [.ref X.1, .int x, .int y, .int z] (.int (nI (endF (vX k kp T r li) d))) := by
  refine mA_intro (own := RX0) [(0, .ref X.1), (1, .int x), (2, .int y), (3, .int z)] (by decide +kernel) rfl rfl rfl rfl ?_
  intro p e s m args below meth c A K hr hin
  subst hx hy hz
  refine gg_aload_n K (i := 0) dX0_endOfRun_0 rfl rfl ?_
  refine gg_iload_n K (i := 1) dX0_endOfRun_1 rfl rfl ?_
  refine gg_iload_n K (i := 2) dX0_endOfRun_2 rfl rfl ?_
  refine gg_iload_n K (i := 3) dX0_endOfRun_3 rfl rfl ?_
  refine gg_callRX K k_X0_X0_knownOn (x_knownOn r li d ok hr0 hl0 hd0 rfl rfl rfl) dX0_endOfRun_4 rfl rfl rfl rfl ⟨rfl, rfl⟩ ?_
  refine gg_istore K dX0_endOfRun_7 (by decide) ?_
  refine gg_iload_n K (i := 3) dX0_endOfRun_9 rfl rfl ?_
  refine gg_iconst K (v := 1) dX0_endOfRun_10 (by decide) ?_
  refine gg_iadd K dX0_endOfRun_11 ?_
  refine gg_top (nI_1 d) ?_
  refine gg_istore K dX0_endOfRun_12 (by decide) ?_
  refine gg_sub (L' := [(5, .int (nI (d + 1))), (4, .int ((vX k kp T r li d))), (0, .ref X.1), (1, .int (nI r)), (2, .int (nI li)), (3, .int (nI d))]) ⟨rfl, rfl, rfl, rfl, rfl, rfl, trivial⟩ ?_
  refine gg_loop (fun i w L => ∃ j : Nat, j + i = 61 ∧ w = wX Z X k kp dr td ∧ L = [(5, .int (nI j)), (4, .int ((vX k kp T r li d))), (0, .ref X.1), (1, .int (nI r)), (2, .int (nI li)), (3, .int (nI d))] ∧ endF (vX k kp T r li) d = enF (vX k kp T r li) (vX k kp T r li d) (60 - j) j) (fun w L h => ?_) (fun i w L h ih => ?_) (60 - d) _ _ ⟨d + 1, by omega, rfl, rfl, by unfold endF; rw [show 59 - d = 60 - (d + 1) by omega]⟩
  · obtain ⟨j, h1, rfl, rfl, h2⟩ := h
    have := endF_le (f := vX k kp T r li) hd0
    rw [h2, show 60 - j = 0 by omega] at this
    unfold enF at this
    omega
  · obtain ⟨j, hj, rfl, rfl, he⟩ := h
    refine gg_iload K dX0_endOfRun_14 rfl ?_
    refine gg_bipush K (v := 60) dX0_endOfRun_16 (by decide) ?_
    refine gg_icmp_ge K (tgt := 40) dX0_endOfRun_18 (by decide) (fun h18 => ?_) (fun h18 => ?_)
    · have hj2 := i_le (a := 60) h18
      refine gg_iload K dX0_endOfRun_40 rfl ?_
      exact gg_iret K hr dX0_endOfRun_42 (Nat.zero_le _) (Nat.zero_le _) ⟨some_int (by rw [he, show 60 - j = 0 by omega]; rfl), rfl⟩
    have hj2 := i_nle (a := 60) h18
    rw [show 60 - j = (59 - j) + 1 by omega] at he
    unfold enF at he
    refine gg_aload_n K (i := 0) dX0_endOfRun_21 rfl rfl ?_
    refine gg_iload_n K (i := 1) dX0_endOfRun_22 rfl rfl ?_
    refine gg_iload_n K (i := 2) dX0_endOfRun_23 rfl rfl ?_
    refine gg_iload K dX0_endOfRun_24 rfl ?_
    refine gg_callRX K k_X0_X0_knownOn (x_knownOn r li j ok hr0 hl0 hj2 rfl rfl rfl) dX0_endOfRun_26 rfl rfl rfl rfl ⟨rfl, rfl⟩ ?_
    refine gg_iload K dX0_endOfRun_29 rfl ?_
    refine gg_icmp_ne K (tgt := 40) dX0_endOfRun_31 (by decide) (fun h31 => ?_) (fun h31 => ?_)
    · refine gg_iload K dX0_endOfRun_40 rfl ?_
      exact gg_iret K hr dX0_endOfRun_42 (Nat.zero_le _) (Nat.zero_le _) ⟨some_int (by rw [he, if_neg h31]), rfl⟩
    refine gg_iinc K (v := nI (j + 1)) dX0_endOfRun_34 rfl (nI_inc (j)) (by decide) ?_
    refine gg_goto K (tgt := 14) dX0_endOfRun_37 (by decide) ?_
    refine gg_sub (L' := [(5, .int (nI (j + 1))), (4, .int ((vX k kp T r li d))), (0, .ref X.1), (1, .int (nI r)), (2, .int (nI li)), (3, .int (nI d))]) ⟨rfl, rfl, rfl, rfl, rfl, rfl, trivial⟩ ?_
    rw [if_pos h31] at he
    exact ih _ _ ⟨j + 1, by omega, rfl, rfl, by rw [he, show 59 - j = 60 - (j + 1) by omega]⟩
set_option maxRecDepth 100000 in
theorem x_runNumber {l : Launch} {Z : ZT} {X : XT} {k kp dr : Nat → Int32} {td : Int32} {T : Nat} (r li d : Nat) {x y z : Int32} (ok : okX kp T) (hr0 : r ≤ T) (hl0 : li < 16) (hd0 : d < 60) (hx : x = nI r) (hy : y = nI li) (hz : z = nI d) : mR l Z yX0_runNumber cX0_runNumber 4 (some .int) (rmk 3 90 0 0) (wX Z X k kp dr td) [.ref X.1, .int x, .int y, .int z] (.int (runN (vX k kp T r li) d)) := by
  refine mA_intro (own := RX0) [(0, .ref X.1), (1, .int x), (2, .int y), (3, .int z)] (by decide +kernel) rfl rfl rfl rfl ?_
  intro p e s m args below meth c A K hr hin
  subst hx hy hz
  refine gg_sipush K (v := 10000) dX0_runNumber_0 (by decide) ?_
  refine gg_iload_n K (i := 3) dX0_runNumber_3 rfl rfl ?_
  refine gg_imul K dX0_runNumber_4 ?_
  refine gg_bipush K (v := 100) dX0_runNumber_5 (by decide) ?_
  refine gg_aload_n K (i := 0) dX0_runNumber_7 rfl rfl ?_
  refine gg_iload_n K (i := 1) dX0_runNumber_8 rfl rfl ?_
  refine gg_iload_n K (i := 2) dX0_runNumber_9 rfl rfl ?_
  refine gg_iload_n K (i := 3) dX0_runNumber_10 rfl rfl ?_
  refine gg_callRX K k_X0_X0_endOfRun (x_endOfRun r li d ok hr0 hl0 hd0 rfl rfl rfl) dX0_runNumber_11 rfl rfl rfl rfl ⟨rfl, rfl⟩ ?_
  refine gg_imul K dX0_runNumber_14 ?_
  refine gg_iadd K dX0_runNumber_15 ?_
  refine gg_aload_n K (i := 0) dX0_runNumber_16 rfl rfl ?_
  refine gg_iload_n K (i := 1) dX0_runNumber_17 rfl rfl ?_
  refine gg_iload_n K (i := 2) dX0_runNumber_18 rfl rfl ?_
  refine gg_iload_n K (i := 3) dX0_runNumber_19 rfl rfl ?_
  refine gg_callRX K k_X0_X0_knownOn (x_knownOn r li d ok hr0 hl0 hd0 rfl rfl rfl) dX0_runNumber_20 rfl rfl rfl rfl ⟨rfl, rfl⟩ ?_
  refine gg_iadd K dX0_runNumber_23 ?_
  exact gg_iret K hr dX0_runNumber_24 (Nat.zero_le _) (Nat.zero_le _) ⟨rfl, rfl⟩
set_option maxRecDepth 100000 in
theorem x_isKept {l : Launch} {Z : ZT} {X : XT} {k kp dr : Nat → Int32} {td : Int32} {T : Nat} (r : Nat) {x : Int32} (ok : okX kp T) (hr0 : r ≤ T) (hx : x = nI r) : mR l Z yX0_isKept cX0_isKept 2 (some .boolean) (rmk 0 0 0 0) (wX Z X k kp dr td) [.ref X.1, .int x] (.int (bI (decide (kp r = nI r)))) := by
  refine mA_intro (own := RX0) [(0, .ref X.1), (1, .int x)] (by decide +kernel) rfl rfl rfl rfl ?_
  intro p e s m args below meth c A K hr hin
  obtain ⟨o1, o2, o3, o4⟩ := ok
  subst hx
  refine gg_iload_n K (i := 1) dX0_isKept_0 rfl rfl ?_
  refine gg_if_lt K (tgt := 24) dX0_isKept_1 (by decide) (fun h1 => ?_) (fun h1 => ?_)
  · exact absurd h1 (nI_pos (by omega))
  refine gg_iload_n K (i := 1) dX0_isKept_4 rfl rfl ?_
  refine gg_bipush K (v := 60) dX0_isKept_5 (by decide) ?_
  refine gg_icmp_ge K (tgt := 24) dX0_isKept_7 (by decide) (fun h7 => ?_) (fun h7 => ?_)
  · exact absurd (i_le (a := 60) h7) (by omega)
  refine gg_aload_n K (i := 0) dX0_isKept_10 rfl rfl ?_
  refine gX_keptOn K dX0_isKept_11 ?_
  refine gg_iload_n K (i := 1) dX0_isKept_14 rfl rfl ?_
  refine gX_ld_kept r K rfl (by omega) dX0_isKept_15 ?_
  refine gg_iload_n K (i := 1) dX0_isKept_16 rfl rfl ?_
  refine gg_icmp_ne K (tgt := 24) dX0_isKept_17 (by decide) (fun h17 => ?_) (fun h17 => ?_)
  · refine gg_iconst K (v := 0) dX0_isKept_24 (by decide) ?_
    exact gg_zret K hr dX0_isKept_25 (Or.inl rfl) (Nat.zero_le _) (Nat.zero_le _) ⟨some_int (bI_f (decide_eq_false h17)).symm, rfl⟩
  · refine gg_iconst K (v := 1) dX0_isKept_20 (by decide) ?_
    refine gg_goto K (tgt := 25) dX0_isKept_21 (by decide) ?_
    exact gg_zret K hr dX0_isKept_25 (Or.inr rfl) (Nat.zero_le _) (Nat.zero_le _) ⟨some_int (bI_t (decide_eq_true h17)).symm, rfl⟩
