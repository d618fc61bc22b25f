/-! Twotimes: runs counted, found, the longest; corrections -/
theorem nI_m1 {a : Nat} (h : a < 2 ^ 31) : ¬ nI a = -1 := by
  intro q
  have h1 : (nI a).toInt = (-1 : Int32).toInt := by rw [q]
  rw [nI_toInt h] at h1
  have h2 : (-1 : Int32).toInt = -1 := by decide
  rw [h2] at h1
  omega
theorem fstF_spec (q : Nat → Bool) (run : Int32) : ∀ (n d : Nat), (∃ e, d ≤ e ∧ e < d + n ∧ q e = true ∧ nI (fb_ct q e) = run ∧ fstF q run n d (fb_ct q d) = nI e) ∨ (fstF q run n d (fb_ct q d) = -1 ∧ ∀ e, d ≤ e → e < d + n → q e = true → ¬ nI (fb_ct q e) = run)
  | 0, d => Or.inr ⟨rfl, fun e h1 h2 => absurd h2 (by omega)⟩
  | n + 1, d => by
    unfold fstF
    by_cases hq : q d = true
    · have hs : fb_ct q d + 1 = fb_ct q (d + 1) := by rw [fb_ct_succ, if_pos hq]
      rw [if_pos hq]
      by_cases hb : nI (fb_ct q d) = run
      · rw [if_pos hb]
        exact Or.inl ⟨d, by omega, by omega, hq, hb, rfl⟩
      · rw [if_neg hb, hs]
        rcases fstF_spec q run n (d + 1) with ⟨e, h1, h2, h3, h4, h5⟩ | ⟨h1, h2⟩
        · exact Or.inl ⟨e, by omega, by omega, h3, h4, h5⟩
        · exact Or.inr ⟨h1, fun e h3 h4 h5 => by
            by_cases hed : e = d
            · rw [hed]; exact hb
            · exact h2 e (by omega) (by omega) h5⟩
    · have hs : fb_ct q d = fb_ct q (d + 1) := by rw [fb_ct_succ, if_neg hq]; rfl
      rw [if_neg hq, hs]
      rcases fstF_spec q run n (d + 1) with ⟨e, h1, h2, h3, h4, h5⟩ | ⟨h1, h2⟩
      · exact Or.inl ⟨e, by omega, by omega, h3, h4, h5⟩
      · exact Or.inr ⟨h1, fun e h3 h4 h5 => by
          by_cases hed : e = d
          · exact absurd (hed ▸ h5) hq
          · exact h2 e (by omega) (by omega) h5⟩
/-- the place with j such places ahead of it -/
noncomputable def kthD (q : Nat → Bool) (j : Nat) : Nat → Nat
  | 0 => 0
  | n + 1 => if bP (q n = true ∧ fb_ct q n = j) = true then n else kthD q j n
theorem kthD_eq {q : Nat → Bool} {j e : Nat} (h1 : q e = true) (h2 : fb_ct q e = j) : ∀ {n : Nat}, e < n → kthD q j n = e
  | 0, h => absurd h (by omega)
  | n + 1, h => by
    unfold kthD
    by_cases hq : q n = true ∧ fb_ct q n = j
    · rw [if_pos (bP_t hq)]
      exact fb_ct_kth_one hq.1 h1 (hq.2.trans h2.symm)
    · rw [if_neg (fun z => hq (bP_iff.mp z))]
      exact kthD_eq h1 h2 (by
        by_cases he : e = n
        · exact absurd (by rw [← he]; exact ⟨h1, h2⟩) hq
        · omega)
def lgF (f : Nat → Int32) : Nat → Nat
  | 0 => 0
  | n + 1 => if stF f n = true then (if lgF f n < endF f n - n then endF f n - n else lgF f n) else lgF f n
theorem lgF_le (f : Nat → Int32) : ∀ {n : Nat}, n ≤ 60 → lgF f n ≤ 60
  | 0, _ => Nat.zero_le _
  | n + 1, h => by
    unfold lgF
    have h1 := lgF_le f (n := n) (by omega)
    have h2 := endF_le (f := f) (d := n) (by omega)
    split
    · split <;> omega
    · exact h1
section
variable {p : Program} {l : Launch} {e : Env} {R : Room} {s : State} {m : MethodId} {args : Array Value} {below : List Frame} {meth : Method} {c : Code} {D : va_G} {A : Nat → Prop} {tys : List (ClassId × FieldType)} {cc : ByteArray} {n cells slots pc : Nat} {Q : State → Prop} {ws : va_W} {L : List (Nat × Value)} {st : List Value}
theorem gg_mmax {x y : Int32} (K : kx p s m args meth c D A tys cc RX0 n) (hd : decode cc pc = .ok (.invokestatic 127, 3)) (hR : (Nat.ble 1 R.frames && (Nat.ble 21 R.locals && (Nat.ble cells R.cells && Nat.ble slots R.slots))) = true) (hw : c8 st = true) (k : gg p l e R s m args below meth c D A n cells slots Q ws (pc + 3) L (.int (if x < y then y else x) :: st)) : gg p l e R s m args below meth c D A n cells slots Q ws pc L (.int y :: .int x :: st) := by
  intro H locs ls hP hD hS hl
  simp only [Bool.and_eq_true] at hR
  obtain ⟨r1, r2, r3, r4⟩ := hR
  have r1 := Nat.le_of_ble_eq_true r1
  have r2 := Nat.le_of_ble_eq_true r2
  have r3 := Nat.le_of_ble_eq_true r3
  have r4 := Nat.le_of_ble_eq_true r4
  have hw := Nat.le_of_ble_eq_true hw
  exact va_mmax K.1.1 K.1.2.1 (K.1.2.2.1.trans hl.1.symm) K.1.2.2.2.1 (K.1.2.2.2.2 _ wd_168) (K.1.2.2.2.2 _ wd_169) (K.1.2.2.2.2 _ wd_170) (K.1.2.2.2.2 _ wd_171) r1 (by omega) r3 r4 hd (k H locs ls hP hD hS hl)
end
set_option maxRecDepth 100000 in
theorem x_runs {l : Launch} {Z : ZT} {X : XT} {k kp dr : Nat → Int32} {T : Nat} (hl0 : l.stackTraces = false) (ok : okX kp T) {t y q : Int32} : mX l Z.1 (ty3 Z) yX0_runs (.code yX0_runs cX0_runs 7 (some .int)) (rmk 9 200 8 48) (wX Z X k kp dr (nI T)) [.ref X.1, .int t, .int y, .int q] (xPost Z X ((qS (vX k kp T) T (inR t 2 ∧ inR y 8 ∧ inR q 60) (q ≤ nI T) (nI (fb_ct (stF (vX k kp T (nN q) (nN t * 8 + nN y))) 60))))) (xErr Z X ((qS (vX k kp T) T (inR t 2 ∧ inR y 8 ∧ inR q 60) (q ≤ nI T) (nI (fb_ct (stF (vX k kp T (nN q) (nN t * 8 + nN y))) 60)))) cAB) := by
  refine mX_intro (own := RX0) [(0, .ref X.1), (1, .int t), (2, .int y), (3, .int q)] (by decide +kernel) rfl rfl rfl rfl ?_
  intro p e s m args below meth c A K hr T9 htab
  refine gg_iload_n K (i := 1) dX0_runs_0 rfl rfl ?_
  refine gg_iload_n K (i := 2) dX0_runs_1 rfl rfl ?_
  refine gg_callTS 2 12 K T9 k_X0_X0_needTableAndKey (x_needTK hl0) dX0_runs_2 rfl rfl rfl rfl ⟨rfl, rfl⟩ (fun E u h => ?_) (fun v u h => ?_)
  · obtain ⟨rfl, rfl, h⟩ := h
    exact gx_out K htab (Nat.le_of_ble_eq_true rfl) (Nat.le_of_ble_eq_true rfl) (qE1 ok (fun z => h ⟨z.1, z.2.1⟩) (by decide))
  obtain ⟨rfl, rfl, h1⟩ := h
  refine gg_aload_n K (i := 0) dX0_runs_5 rfl rfl ?_
  refine gg_iload_n K (i := 3) dX0_runs_6 rfl rfl ?_
  refine gg_callTX 4 24 K T9 k_X0_X0_needRecord (x_needRecord hl0) dX0_runs_7 rfl rfl rfl rfl ⟨rfl, rfl⟩ (fun E u h => ?_) (fun v u h => ?_)
  · obtain ⟨rfl, ⟨rfl, h⟩ | ⟨rfl, h, h'⟩⟩ := h
    · exact gx_out K htab (Nat.le_of_ble_eq_true rfl) (Nat.le_of_ble_eq_true rfl) (qE1 ok (fun z => h z.2.2) (by decide))
    · exact gx_out K htab (Nat.le_of_ble_eq_true rfl) (Nat.le_of_ble_eq_true rfl) (qE2 ok ⟨h1.1, h1.2, h⟩ h' (by decide))
  obtain ⟨rfl, rfl, h3, h4⟩ := h
  have ⟨a1, a2⟩ := inR_N (b := 2) h1.1
  have ⟨b1, b2⟩ := inR_N (b := 8) h1.2
  have ⟨q1, q2⟩ := inR_N (b := 60) h3
  refine gg_iload_n K (i := 1) dX0_runs_10 rfl rfl ?_
  refine gg_iload_n K (i := 2) dX0_runs_11 rfl rfl ?_
  refine gg_callSR K k_X0_X0_line (x_line (nN t) (nN y) a2 b2) dX0_runs_12 rfl rfl rfl rfl ⟨rfl, rfl⟩ ?_
  refine gg_istore K dX0_runs_15 (by decide) ?_
  refine gg_iconst K (v := 0) dX0_runs_17 (by decide) ?_
  refine gg_istore K dX0_runs_18 (by decide) ?_
  refine gg_iconst K (v := 0) dX0_runs_20 (by decide) ?_
  refine gg_istore K dX0_runs_21 (by decide) ?_
  refine gg_sub (L' := [(6, .int (nI 0)), (5, .int (nI 0)), (4, .int (nI (nN t * 8 + nN y))), (0, .ref X.1), (1, .int t), (2, .int y), (3, .int q)]) ⟨rfl, rfl, rfl, rfl, rfl, rfl, rfl, trivial⟩ ?_
  refine gg_loop (fun i w L => ∃ (j : Nat), j + i = 61 ∧ w = wX Z X k kp dr (nI T) ∧ j ≤ 60 ∧ L = [(6, .int (nI j)), (5, .int (nI ((fb_ct (stF (vX k kp T (nN q) (nN t * 8 + nN y))) j)))), (4, .int (nI (nN t * 8 + nN y))), (0, .ref X.1), (1, .int t), (2, .int y), (3, .int q)]) (fun w L h => ?_) (fun i w L h ih => ?_) 61 _ _ ⟨0, rfl, rfl, by omega, rfl⟩
  · obtain ⟨j, hj, -, h2, -⟩ := h
    omega
  · obtain ⟨j, hj, rfl, -, rfl⟩ := h
    refine gg_iload K dX0_runs_23 rfl ?_
    refine gg_bipush K (v := 60) dX0_runs_25 (by decide) ?_
    refine gg_icmp_ge K (tgt := 51) dX0_runs_27 (by decide) (fun h27 => ?_) (fun h27 => ?_)
    · have hj2 := i_le (a := 60) h27
      have hj3 : j = 60 := by omega
      subst hj3
      refine gg_iload K dX0_runs_51 rfl ?_
      exact gg_x (gg_iret K hr dX0_runs_53 (Nat.le_of_ble_eq_true rfl) (Nat.le_of_ble_eq_true rfl) (qOk ok ⟨h1.1, h1.2, h3⟩ h4 rfl))
    have hj2 := i_nle (a := 60) h27
    refine gg_aload_n K (i := 0) dX0_runs_30 rfl rfl ?_
    refine gg_iload_n K (i := 3) dX0_runs_31 rfl rfl ?_
    refine gg_iload K dX0_runs_32 rfl ?_
    refine gg_iload K dX0_runs_34 rfl ?_
    refine gg_callRX K k_X0_X0_startsRun (x_startsRun (nN q) (nN t * 8 + nN y) j ok (leT q2 q1 ok.1 h4) (by omega) hj2 q2 rfl rfl) dX0_runs_36 rfl rfl rfl rfl ⟨rfl, rfl⟩ ?_
    refine gg_b_eq K (tgt := 45) dX0_runs_39 (by decide) (fun h39 => ?_) (fun h39 => ?_)
    · refine gg_iinc K (v := nI (j + 1)) dX0_runs_45 rfl (nI_inc (j)) (by decide) ?_
      refine gg_goto K (tgt := 23) dX0_runs_48 (by decide) ?_
      refine gg_sub (L' := [(6, .int (nI (j + 1))), (5, .int (nI ((fb_ct (stF (vX k kp T (nN q) (nN t * 8 + nN y))) j)))), (4, .int (nI (nN t * 8 + nN y))), (0, .ref X.1), (1, .int t), (2, .int y), (3, .int q)]) ⟨rfl, rfl, rfl, rfl, rfl, rfl, rfl, trivial⟩ ?_
      exact ih _ _ ⟨j + 1, by omega, rfl, by omega, by rw [fb_ct_succ, h39]; rfl⟩
    · refine gg_iinc K (v := nI (fb_ct (stF (vX k kp T (nN q) (nN t * 8 + nN y))) j + 1)) dX0_runs_42 rfl (nI_inc (fb_ct (stF (vX k kp T (nN q) (nN t * 8 + nN y))) j)) (by decide) ?_
      refine gg_iinc K (v := nI (j + 1)) dX0_runs_45 rfl (nI_inc (j)) (by decide) ?_
      refine gg_goto K (tgt := 23) dX0_runs_48 (by decide) ?_
      refine gg_sub (L' := [(6, .int (nI (j + 1))), (5, .int (nI ((fb_ct (stF (vX k kp T (nN q) (nN t * 8 + nN y))) j + 1)))), (4, .int (nI (nN t * 8 + nN y))), (0, .ref X.1), (1, .int t), (2, .int y), (3, .int q)]) ⟨rfl, rfl, rfl, rfl, rfl, rfl, rfl, trivial⟩ ?_
      exact ih _ _ ⟨j + 1, by omega, rfl, by omega, by rw [fb_ct_succ, h39]; rfl⟩
set_option maxRecDepth 100000 in
theorem x_run {l : Launch} {Z : ZT} {X : XT} {k kp dr : Nat → Int32} {T : Nat} (hl0 : l.stackTraces = false) (ok : okX kp T) {t y q w9 : Int32} : mX l Z.1 (ty3 Z) yX0_run (.code yX0_run cX0_run 7 (some .int)) (rmk 9 200 8 48) (wX Z X k kp dr (nI T)) [.ref X.1, .int t, .int y, .int q, .int w9] (xPost Z X ((qS (vX k kp T) T (inR t 2 ∧ inR y 8 ∧ inR q 60) (q ≤ nI T ∧ ∃ j, j < fb_ct (stF (vX k kp T (nN q) (nN t * 8 + nN y))) 60 ∧ w9 = nI j) (runN (vX k kp T (nN q) (nN t * 8 + nN y)) (kthD (stF (vX k kp T (nN q) (nN t * 8 + nN y))) (nN w9) 60))))) (xErr Z X ((qS (vX k kp T) T (inR t 2 ∧ inR y 8 ∧ inR q 60) (q ≤ nI T ∧ ∃ j, j < fb_ct (stF (vX k kp T (nN q) (nN t * 8 + nN y))) 60 ∧ w9 = nI j) (runN (vX k kp T (nN q) (nN t * 8 + nN y)) (kthD (stF (vX k kp T (nN q) (nN t * 8 + nN y))) (nN w9) 60)))) cAB) := by
  refine mX_intro (own := RX0) [(0, .ref X.1), (1, .int t), (2, .int y), (3, .int q), (4, .int w9)] (by decide +kernel) rfl rfl rfl rfl ?_
  intro p e s m args below meth c A K hr T9 htab
  refine gg_iload_n K (i := 1) dX0_run_0 rfl rfl ?_
  refine gg_iload_n K (i := 2) dX0_run_1 rfl rfl ?_
  refine gg_callTS 2 12 K T9 k_X0_X0_needTableAndKey (x_needTK hl0) dX0_run_2 rfl rfl rfl rfl ⟨rfl, rfl⟩ (fun E u h => ?_) (fun v u h => ?_)
  · obtain ⟨rfl, rfl, h⟩ := h
    exact gx_out K htab (Nat.le_of_ble_eq_true rfl) (Nat.le_of_ble_eq_true rfl) (qE1 ok (fun z => h ⟨z.1, z.2.1⟩) (by decide))
  obtain ⟨rfl, rfl, h1⟩ := h
  refine gg_aload_n K (i := 0) dX0_run_5 rfl rfl ?_
  refine gg_iload_n K (i := 3) dX0_run_6 rfl rfl ?_
  refine gg_callTX 4 24 K T9 k_X0_X0_needRecord (x_needRecord hl0) dX0_run_7 rfl rfl rfl rfl ⟨rfl, rfl⟩ (fun E u h => ?_) (fun v u h => ?_)
  · obtain ⟨rfl, ⟨rfl, h⟩ | ⟨rfl, h, h'⟩⟩ := h
    · exact gx_out K htab (Nat.le_of_ble_eq_true rfl) (Nat.le_of_ble_eq_true rfl) (qE1 ok (fun z => h z.2.2) (by decide))
    · exact gx_out K htab (Nat.le_of_ble_eq_true rfl) (Nat.le_of_ble_eq_true rfl) (qE2 ok ⟨h1.1, h1.2, h⟩ (fun z => h' z.1) (by decide))
  obtain ⟨rfl, rfl, h3, h4⟩ := h
  have ⟨a1, a2⟩ := inR_N (b := 2) h1.1
  have ⟨b1, b2⟩ := inR_N (b := 8) h1.2
  have ⟨q1, q2⟩ := inR_N (b := 60) h3
  refine gg_iload_n K (i := 1) dX0_run_10 rfl rfl ?_
  refine gg_iload_n K (i := 2) dX0_run_11 rfl rfl ?_
  refine gg_callSR K k_X0_X0_line (x_line (nN t) (nN y) a2 b2) dX0_run_12 rfl rfl rfl rfl ⟨rfl, rfl⟩ ?_
  refine gg_istore K dX0_run_15 (by decide) ?_
  refine gg_aload_n K (i := 0) dX0_run_17 rfl rfl ?_
  refine gg_iload_n K (i := 3) dX0_run_18 rfl rfl ?_
  refine gg_iload K dX0_run_19 rfl ?_
  refine gg_iload K dX0_run_21 rfl ?_
  refine gg_callRX K k_X0_X0_firstDayOfRun (x_firstDayOfRun (nN q) (nN t * 8 + nN y) ok (leT q2 q1 ok.1 h4) (by omega) q2 rfl) dX0_run_23 rfl rfl rfl rfl ⟨rfl, rfl⟩ ?_
  have hsp := fstF_spec (stF (vX k kp T (nN q) (nN t * 8 + nN y))) w9 60 0
  rw [show fb_ct (stF (vX k kp T (nN q) (nN t * 8 + nN y))) 0 = 0 from rfl] at hsp
  rcases hsp with ⟨e9, -, e1, e2, e3, e4⟩ | ⟨e1, e2⟩
  · refine gg_top e4 ?_
    refine gg_istore K dX0_run_26 (by decide) ?_
    refine gg_iload K dX0_run_28 rfl ?_
    refine gg_iconst K (v := (-1)) dX0_run_30 (by decide) ?_
    refine gg_icmp_ne K (tgt := 44) dX0_run_31 (by decide) (fun h31 => ?_) (fun h31 => ?_)
    rotate_left
    · exact absurd h31 (nI_m1 (by omega))
    refine gg_aload_n K (i := 0) dX0_run_44 rfl rfl ?_
    refine gg_iload_n K (i := 3) dX0_run_45 rfl rfl ?_
    refine gg_iload K dX0_run_46 rfl ?_
    refine gg_iload K dX0_run_48 rfl ?_
    refine gg_callRX K k_X0_X0_runNumber (x_runNumber (nN q) (nN t * 8 + nN y) e9 ok (leT q2 q1 ok.1 h4) (by omega) (by omega) q2 rfl rfl) dX0_run_50 rfl rfl rfl rfl ⟨rfl, rfl⟩ ?_
    have hc : fb_ct (stF (vX k kp T (nN q) (nN t * 8 + nN y))) e9 < fb_ct (stF (vX k kp T (nN q) (nN t * 8 + nN y))) 60 := by
      have h6 := fb_ct_mono (stF (vX k kp T (nN q) (nN t * 8 + nN y))) (show e9 + 1 ≤ 60 by omega)
      rw [fb_ct_succ, if_pos e2] at h6
      omega
    have hl6 := fb_ct_le (stF (vX k kp T (nN q) (nN t * 8 + nN y))) 60
    refine gg_x (gg_iret K hr dX0_run_53 (Nat.le_of_ble_eq_true rfl) (Nat.le_of_ble_eq_true rfl) (qOk ok ⟨h1.1, h1.2, h3⟩ ⟨h4, _, hc, e3.symm⟩ ?_))
    rw [kthD_eq e2 (show fb_ct (stF (vX k kp T (nN q) (nN t * 8 + nN y))) e9 = nN w9 by rw [← e3]; exact (nI_clamp (by omega)).symm) (by omega)]
  · refine gg_top e1 ?_
    refine gg_istore K dX0_run_26 (by decide) ?_
    refine gg_iload K dX0_run_28 rfl ?_
    refine gg_iconst K (v := (-1)) dX0_run_30 (by decide) ?_
    refine gg_icmp_ne K (tgt := 44) dX0_run_31 (by decide) (fun h31 => ?_) (fun h31 => ?_)
    · exact absurd rfl h31
    exact gg_throw_eB K T9 hl0 htab (is := 93) (text := "run") (by decide) dX0_run_34 dX0_run_37 dX0_run_38 dX0_run_40 dX0_run_43 rfl rfl (Nat.le_of_ble_eq_true rfl) (Nat.le_of_ble_eq_true rfl) (qE2 ok ⟨h1.1, h1.2, h3⟩ (fun z => by
      obtain ⟨-, j, hj, hj2⟩ := z
      obtain ⟨e9, g1, g2, g3⟩ := fb_ct_kth hj
      exact e2 e9 (by omega) (by omega) g2 (by rw [g3, hj2])) (by decide))
set_option maxRecDepth 100000 in
theorem x_joinedRuns {l : Launch} {Z : ZT} {X : XT} {k kp dr : Nat → Int32} {T : Nat} (hl0 : l.stackTraces = false) (ok : okX kp T) (hv : valOk (vX k kp T) T) {y q : Int32} : mX l Z.1 (ty3 Z) yX0_joinedRuns (.code yX0_joinedRuns cX0_joinedRuns 5 (some .int)) (rmk 9 200 8 48) (wX Z X k kp dr (nI T)) [.ref X.1, .int y, .int q] (xPost Z X ((qS (vX k kp T) T (inR y 8 ∧ inR q 60) (q ≤ nI T) (nI (fb_ct (jsF (vX k kp T) (nN q) (nN y)) 60))))) (xErr Z X ((qS (vX k kp T) T (inR y 8 ∧ inR q 60) (q ≤ nI T) (nI (fb_ct (jsF (vX k kp T) (nN q) (nN y)) 60)))) cAB) := by
  refine mX_intro (own := RX0) [(0, .ref X.1), (1, .int y), (2, .int q)] (by decide +kernel) rfl rfl rfl rfl ?_
  intro p e s m args below meth c A K hr T9 htab
  refine gg_iload_n K (i := 1) dX0_joinedRuns_0 rfl rfl ?_
  refine gg_bipush K (v := 8) dX0_joinedRuns_1 (by decide) ?_
  refine gg_callTS 1 6 K T9 k_X0_X0_needRange (x_needRange hl0) dX0_joinedRuns_3 rfl rfl rfl rfl ⟨rfl, rfl⟩ (fun E u h => ?_) (fun v u h => ?_)
  · obtain ⟨rfl, rfl, h⟩ := h
    exact gx_out K htab (Nat.le_of_ble_eq_true rfl) (Nat.le_of_ble_eq_true rfl) (qE1 ok (fun z => h z.1) (by decide))
  obtain ⟨rfl, rfl, h1⟩ := h
  refine gg_aload_n K (i := 0) dX0_joinedRuns_6 rfl rfl ?_
  refine gg_iload_n K (i := 2) dX0_joinedRuns_7 rfl rfl ?_
  refine gg_callTX 3 18 K T9 k_X0_X0_needRecord (x_needRecord hl0) dX0_joinedRuns_8 rfl rfl rfl rfl ⟨rfl, rfl⟩ (fun E u h => ?_) (fun v u h => ?_)
  · obtain ⟨rfl, ⟨rfl, h⟩ | ⟨rfl, h, h'⟩⟩ := h
    · exact gx_out K htab (Nat.le_of_ble_eq_true rfl) (Nat.le_of_ble_eq_true rfl) (qE1 ok (fun z => h z.2) (by decide))
    · exact gx_out K htab (Nat.le_of_ble_eq_true rfl) (Nat.le_of_ble_eq_true rfl) (qE2 ok ⟨h1, h⟩ h' (by decide))
  obtain ⟨rfl, rfl, h3, h4⟩ := h
  have ⟨b1, b2⟩ := inR_N (b := 8) h1
  have ⟨q1, q2⟩ := inR_N (b := 60) h3
  refine gg_iconst K (v := 0) dX0_joinedRuns_11 (by decide) ?_
  refine gg_istore_n K (i := 3) dX0_joinedRuns_12 rfl (by decide) ?_
  refine gg_iconst K (v := 0) dX0_joinedRuns_13 (by decide) ?_
  refine gg_istore K dX0_joinedRuns_14 (by decide) ?_
  refine gg_sub (L' := [(4, .int (nI 0)), (3, .int (nI 0)), (0, .ref X.1), (1, .int y), (2, .int q)]) ⟨rfl, rfl, rfl, rfl, rfl, trivial⟩ ?_
  refine gg_loop (fun i w L => ∃ (j : Nat), j + i = 61 ∧ w = wX Z X k kp dr (nI T) ∧ j ≤ 60 ∧ L = [(4, .int (nI j)), (3, .int (nI ((fb_ct (jsF (vX k kp T) (nN q) (nN y)) j)))), (0, .ref X.1), (1, .int y), (2, .int q)]) (fun w L h => ?_) (fun i w L h ih => ?_) 61 _ _ ⟨0, rfl, rfl, by omega, rfl⟩
  · obtain ⟨j, hj, -, h2, -⟩ := h
    omega
  · obtain ⟨j, hj, rfl, -, rfl⟩ := h
    refine gg_iload K dX0_joinedRuns_16 rfl ?_
    refine gg_bipush K (v := 60) dX0_joinedRuns_18 (by decide) ?_
    refine gg_icmp_ge K (tgt := 43) dX0_joinedRuns_20 (by decide) (fun h20 => ?_) (fun h20 => ?_)
    · have hj2 := i_le (a := 60) h20
      have hj3 : j = 60 := by omega
      subst hj3
      refine gg_iload_n K (i := 3) dX0_joinedRuns_43 rfl rfl ?_
      exact gg_x (gg_iret K hr dX0_joinedRuns_44 (Nat.le_of_ble_eq_true rfl) (Nat.le_of_ble_eq_true rfl) (qOk ok ⟨h1, h3⟩ h4 rfl))
    have hj2 := i_nle (a := 60) h20
    refine gg_aload_n K (i := 0) dX0_joinedRuns_23 rfl rfl ?_
    refine gg_iload_n K (i := 2) dX0_joinedRuns_24 rfl rfl ?_
    refine gg_iload_n K (i := 1) dX0_joinedRuns_25 rfl rfl ?_
    refine gg_iload K dX0_joinedRuns_26 rfl ?_
    refine gg_callRX K k_X0_X0_startsJoinedRun (x_startsJoinedRun (nN q) (nN y) j ok hv (leT q2 q1 ok.1 h4) b1 hj2 q2 b2 rfl) dX0_joinedRuns_28 rfl rfl rfl rfl ⟨rfl, rfl⟩ ?_
    refine gg_b_eq K (tgt := 37) dX0_joinedRuns_31 (by decide) (fun h31 => ?_) (fun h31 => ?_)
    · refine gg_iinc K (v := nI (j + 1)) dX0_joinedRuns_37 rfl (nI_inc (j)) (by decide) ?_
      refine gg_goto K (tgt := 16) dX0_joinedRuns_40 (by decide) ?_
      refine gg_sub (L' := [(4, .int (nI (j + 1))), (3, .int (nI ((fb_ct (jsF (vX k kp T) (nN q) (nN y)) j)))), (0, .ref X.1), (1, .int y), (2, .int q)]) ⟨rfl, rfl, rfl, rfl, rfl, trivial⟩ ?_
      exact ih _ _ ⟨j + 1, by omega, rfl, by omega, by rw [fb_ct_succ, h31]; rfl⟩
    · refine gg_iinc K (v := nI (fb_ct (jsF (vX k kp T) (nN q) (nN y)) j + 1)) dX0_joinedRuns_34 rfl (nI_inc (fb_ct (jsF (vX k kp T) (nN q) (nN y)) j)) (by decide) ?_
      refine gg_iinc K (v := nI (j + 1)) dX0_joinedRuns_37 rfl (nI_inc (j)) (by decide) ?_
      refine gg_goto K (tgt := 16) dX0_joinedRuns_40 (by decide) ?_
      refine gg_sub (L' := [(4, .int (nI (j + 1))), (3, .int (nI ((fb_ct (jsF (vX k kp T) (nN q) (nN y)) j + 1)))), (0, .ref X.1), (1, .int y), (2, .int q)]) ⟨rfl, rfl, rfl, rfl, rfl, trivial⟩ ?_
      exact ih _ _ ⟨j + 1, by omega, rfl, by omega, by rw [fb_ct_succ, h31]; rfl⟩
set_option maxRecDepth 100000 in
theorem x_longest {l : Launch} {Z : ZT} {X : XT} {k kp dr : Nat → Int32} {T : Nat} (hl0 : l.stackTraces = false) (ok : okX kp T) {t y q : Int32} : mX l Z.1 (ty3 Z) yX0_longest (.code yX0_longest cX0_longest 7 (some .int)) (rmk 9 200 8 48) (wX Z X k kp dr (nI T)) [.ref X.1, .int t, .int y, .int q] (xPost Z X ((qS (vX k kp T) T (inR t 2 ∧ inR y 8 ∧ inR q 60) (q ≤ nI T) (nI (lgF (vX k kp T (nN q) (nN t * 8 + nN y)) 60))))) (xErr Z X ((qS (vX k kp T) T (inR t 2 ∧ inR y 8 ∧ inR q 60) (q ≤ nI T) (nI (lgF (vX k kp T (nN q) (nN t * 8 + nN y)) 60)))) cAB) := by
  refine mX_intro (own := RX0) [(0, .ref X.1), (1, .int t), (2, .int y), (3, .int q)] (by decide +kernel) rfl rfl rfl rfl ?_
  intro p e s m args below meth c A K hr T9 htab
  refine gg_iload_n K (i := 1) dX0_longest_0 rfl rfl ?_
  refine gg_iload_n K (i := 2) dX0_longest_1 rfl rfl ?_
  refine gg_callTS 2 12 K T9 k_X0_X0_needTableAndKey (x_needTK hl0) dX0_longest_2 rfl rfl rfl rfl ⟨rfl, rfl⟩ (fun E u h => ?_) (fun v u h => ?_)
  · obtain ⟨rfl, rfl, h⟩ := h
    exact gx_out K htab (Nat.le_of_ble_eq_true rfl) (Nat.le_of_ble_eq_true rfl) (qE1 ok (fun z => h ⟨z.1, z.2.1⟩) (by decide))
  obtain ⟨rfl, rfl, h1⟩ := h
  refine gg_aload_n K (i := 0) dX0_longest_5 rfl rfl ?_
  refine gg_iload_n K (i := 3) dX0_longest_6 rfl rfl ?_
  refine gg_callTX 4 24 K T9 k_X0_X0_needRecord (x_needRecord hl0) dX0_longest_7 rfl rfl rfl rfl ⟨rfl, rfl⟩ (fun E u h => ?_) (fun v u h => ?_)
  · obtain ⟨rfl, ⟨rfl, h⟩ | ⟨rfl, h, h'⟩⟩ := h
    · exact gx_out K htab (Nat.le_of_ble_eq_true rfl) (Nat.le_of_ble_eq_true rfl) (qE1 ok (fun z => h z.2.2) (by decide))
    · exact gx_out K htab (Nat.le_of_ble_eq_true rfl) (Nat.le_of_ble_eq_true rfl) (qE2 ok ⟨h1.1, h1.2, h⟩ h' (by decide))
  obtain ⟨rfl, rfl, h3, h4⟩ := h
  have ⟨a1, a2⟩ := inR_N (b := 2) h1.1
  have ⟨b1, b2⟩ := inR_N (b := 8) h1.2
  have ⟨q1, q2⟩ := inR_N (b := 60) h3
  refine gg_iload_n K (i := 1) dX0_longest_10 rfl rfl ?_
  refine gg_iload_n K (i := 2) dX0_longest_11 rfl rfl ?_
  refine gg_callSR K k_X0_X0_line (x_line (nN t) (nN y) a2 b2) dX0_longest_12 rfl rfl rfl rfl ⟨rfl, rfl⟩ ?_
  refine gg_istore K dX0_longest_15 (by decide) ?_
  refine gg_iconst K (v := 0) dX0_longest_17 (by decide) ?_
  refine gg_istore K dX0_longest_18 (by decide) ?_
  refine gg_iconst K (v := 0) dX0_longest_20 (by decide) ?_
  refine gg_istore K dX0_longest_21 (by decide) ?_
  refine gg_sub (L' := [(6, .int (nI 0)), (5, .int (nI 0)), (4, .int (nI (nN t * 8 + nN y))), (0, .ref X.1), (1, .int t), (2, .int y), (3, .int q)]) ⟨rfl, rfl, rfl, rfl, rfl, rfl, rfl, trivial⟩ ?_
  refine gg_loop (fun i w L => ∃ (j : Nat), j + i = 61 ∧ w = wX Z X k kp dr (nI T) ∧ j ≤ 60 ∧ L = [(6, .int (nI j)), (5, .int (nI ((lgF (vX k kp T (nN q) (nN t * 8 + nN y)) j)))), (4, .int (nI (nN t * 8 + nN y))), (0, .ref X.1), (1, .int t), (2, .int y), (3, .int q)]) (fun w L h => ?_) (fun i w L h ih => ?_) 61 _ _ ⟨0, rfl, rfl, by omega, rfl⟩
  · obtain ⟨j, hj, -, h2, -⟩ := h
    omega
  · obtain ⟨j, hj, rfl, -, rfl⟩ := h
    refine gg_iload K dX0_longest_23 rfl ?_
    refine gg_bipush K (v := 60) dX0_longest_25 (by decide) ?_
    refine gg_icmp_ge K (tgt := 67) dX0_longest_27 (by decide) (fun h27 => ?_) (fun h27 => ?_)
    · have hj2 := i_le (a := 60) h27
      have hj3 : j = 60 := by omega
      subst hj3
      refine gg_iload K dX0_longest_67 rfl ?_
      exact gg_x (gg_iret K hr dX0_longest_69 (Nat.le_of_ble_eq_true rfl) (Nat.le_of_ble_eq_true rfl) (qOk ok ⟨h1.1, h1.2, h3⟩ h4 rfl))
    have hj2 := i_nle (a := 60) h27
    refine gg_aload_n K (i := 0) dX0_longest_30 rfl rfl ?_
    refine gg_iload_n K (i := 3) dX0_longest_31 rfl rfl ?_
    refine gg_iload K dX0_longest_32 rfl ?_
    refine gg_iload K dX0_longest_34 rfl ?_
    refine gg_callRX K k_X0_X0_startsRun (x_startsRun (nN q) (nN t * 8 + nN y) j ok (leT q2 q1 ok.1 h4) (by omega) hj2 q2 rfl rfl) dX0_longest_36 rfl rfl rfl rfl ⟨rfl, rfl⟩ ?_
    refine gg_b_eq K (tgt := 61) dX0_longest_39 (by decide) (fun h39 => ?_) (fun h39 => ?_)
    · refine gg_iinc K (v := nI (j + 1)) dX0_longest_61 rfl (nI_inc (j)) (by decide) ?_
      refine gg_goto K (tgt := 23) dX0_longest_64 (by decide) ?_
      refine gg_sub (L' := [(6, .int (nI (j + 1))), (5, .int (nI ((lgF (vX k kp T (nN q) (nN t * 8 + nN y)) j)))), (4, .int (nI (nN t * 8 + nN y))), (0, .ref X.1), (1, .int t), (2, .int y), (3, .int q)]) ⟨rfl, rfl, rfl, rfl, rfl, rfl, rfl, trivial⟩ ?_
      exact ih _ _ ⟨j + 1, by omega, rfl, by omega, by rw [show lgF (vX k kp T (nN q) (nN t * 8 + nN y)) (j + 1) = lgF (vX k kp T (nN q) (nN t * 8 + nN y)) j from if_neg (by rw [h39]; decide)]⟩
    · refine gg_iload K dX0_longest_42 rfl ?_
      refine gg_aload_n K (i := 0) dX0_longest_44 rfl rfl ?_
      refine gg_iload_n K (i := 3) dX0_longest_45 rfl rfl ?_
      refine gg_iload K dX0_longest_46 rfl ?_
      refine gg_iload K dX0_longest_48 rfl ?_
      refine gg_callRX K k_X0_X0_endOfRun (x_endOfRun (nN q) (nN t * 8 + nN y) j ok (leT q2 q1 ok.1 h4) (by omega) hj2 q2 rfl rfl) dX0_longest_50 rfl rfl rfl rfl ⟨rfl, rfl⟩ ?_
      refine gg_iload K dX0_longest_53 rfl ?_
      refine gg_isub K dX0_longest_55 ?_
      have e1 := endF_le (f := vX k kp T (nN q) (nN t * 8 + nN y)) hj2
      have e2 := endF_gt (vX k kp T (nN q) (nN t * 8 + nN y)) j
      have e3 := lgF_le (vX k kp T (nN q) (nN t * 8 + nN y)) (n := j) (by omega)
      refine gg_top (pk_sub (by omega)) ?_
      refine gg_mmax K dX0_longest_56 rfl rfl ?_
      refine gg_top (y := nI (lgF (vX k kp T (nN q) (nN t * 8 + nN y)) (j + 1))) ?_ ?_
      · rw [show lgF (vX k kp T (nN q) (nN t * 8 + nN y)) (j + 1) = _ from if_pos h39]
        by_cases hq : lgF (vX k kp T (nN q) (nN t * 8 + nN y)) j < endF (vX k kp T (nN q) (nN t * 8 + nN y)) j - j
        · rw [if_pos hq, if_pos (nI_lt hq (by omega))]
        · rw [if_neg hq, if_neg (nI_nlt (by omega) (by omega))]
      refine gg_istore K dX0_longest_59 (by decide) ?_
      refine gg_iinc K (v := nI (j + 1)) dX0_longest_61 rfl (nI_inc (j)) (by decide) ?_
      refine gg_goto K (tgt := 23) dX0_longest_64 (by decide) ?_
      refine gg_sub (L' := [(6, .int (nI (j + 1))), (5, .int (nI ((lgF (vX k kp T (nN q) (nN t * 8 + nN y)) (j + 1))))), (4, .int (nI (nN t * 8 + nN y))), (0, .ref X.1), (1, .int t), (2, .int y), (3, .int q)]) ⟨rfl, rfl, rfl, rfl, rfl, rfl, rfl, trivial⟩ ?_
      exact ih _ _ ⟨j + 1, by omega, rfl, by omega, rfl⟩