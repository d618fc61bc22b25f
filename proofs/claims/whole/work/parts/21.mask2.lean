/-! the model: runs counted, found, the longest, joined; corrections; average -/
set_option maxRecDepth 100000 in
theorem m_runs {l : Launch} {Z : ZT} {Y : MT} {k : Nat → Int32} {th rf rb re : Int32} {T : Nat} (hT : T < 60) {t y q : Int32} : mA l Z.1 (ty3 Z) yX1_runs cX1_runs 4 (some .int) (rmk 9 200 0 0) (wM Z Y k th (nI T) rf rb re) [.ref Y.1, .int t, .int y, .int q] (mPost Z Y (qS (vM k T) T (inR t 2 ∧ inR y 8 ∧ inR q 60) (q ≤ nI T) (nI (fb_ct (stF (vM k T (nN q) (nN t * 8 + nN y))) 60)))) := by
  refine mA_intro (own := RX1) [(0, .ref Y.1), (1, .int t), (2, .int y), (3, .int q)] (by decide +kernel) rfl rfl rfl rfl ?_
  intro p e s m args below meth c A K hr hin
  refine gg_aload_n K (i := 0) dX1_runs_0 rfl rfl ?_
  refine gg_aload_n K (i := 0) dX1_runs_1 rfl rfl ?_
  refine gg_iload_n K (i := 1) dX1_runs_2 rfl rfl ?_
  refine gg_iload_n K (i := 2) dX1_runs_3 rfl rfl ?_
  refine gg_callSR K k_X1_X1_isKey m_isKey dX1_runs_4 rfl rfl rfl rfl ⟨rfl, rfl⟩ ?_
  refine gg_iload_n K (i := 3) dX1_runs_7 rfl rfl ?_
  refine gg_callRM K k_X1_X1_errorOfRecord (m_errR (P := (inR t 2 ∧ inR y 8)) hT bP_iff rfl) dX1_runs_8 rfl rfl rfl rfl ⟨rfl, rfl⟩ ?_
  refine gg_callUM K k_X1_X1_holds m_holds dX1_runs_11 rfl rfl rfl rfl ⟨rfl, rfl⟩ (fun v9 u h => ?_)
  obtain ⟨rfl, rfl⟩ := h
  refine gg_b_eq K (tgt := 27) dX1_runs_14 (by decide) (fun h14 => ?_) (fun h14 => ?_)
  · refine gg_iconst K (v := 0) dX1_runs_27 (by decide) ?_
    exact gg_iret K hr dX1_runs_28 (Nat.le_of_ble_eq_true rfl) (Nat.le_of_ble_eq_true rfl) (mQe (bP_nf h14) ⟨fun h => ⟨⟨h.1, h.2.1⟩, h.2.2⟩, fun h => ⟨h.1.1, h.1.2, h.2⟩⟩ id)
  obtain ⟨⟨⟨h1, h2⟩, h4⟩, h5⟩ := eR_0.mp (bP_iff.mp h14)
  have ⟨a1, a2⟩ := inR_N (b := 2) h1
  have ⟨b1, b2⟩ := inR_N (b := 8) h2
  have ⟨q1, q2⟩ := inR_N (b := 60) h4
  refine gg_aload_n K (i := 0) dX1_runs_17 rfl rfl ?_
  refine gg_iload_n K (i := 1) dX1_runs_18 rfl rfl ?_
  refine gg_iload_n K (i := 2) dX1_runs_19 rfl rfl ?_
  refine gg_iload_n K (i := 3) dX1_runs_20 rfl rfl ?_
  refine gg_callRM K k_X1_X1_runsOf (m_runsOf (nN q) (nN t) (nN y) hT (leT q2 q1 hT h5) a1 b1 a2 b2 q2) dX1_runs_21 rfl rfl rfl rfl ⟨rfl, rfl⟩ ?_
  refine gg_goto K (tgt := 28) dX1_runs_24 (by decide) ?_
  exact gg_iret K hr dX1_runs_28 (Nat.le_of_ble_eq_true rfl) (Nat.le_of_ble_eq_true rfl) (mQ0 (bP_iff.mp h14) ⟨h1, h2, h4⟩ h5 rfl)
theorem in_C {x : Int32} {n : Nat} (hn : n ≤ 3600) : (¬ x < 0 ∧ ¬ nI n - 1 < x) ↔ ∃ j, j < n ∧ x = nI j := by
  constructor
  · intro h
    obtain ⟨j, j1, j2⟩ := nI_of h.1
    refine ⟨j, ?_, j2⟩
    have h2 := h.2
    rw [j2] at h2
    refine Nat.not_le.mp (fun z => h2 ?_)
    by_cases h0 : n = 0
    · rw [h0, Int32.lt_iff_toInt_lt, nI_toInt j1, show (nI 0 - 1).toInt = -1 by decide]
      omega
    · rw [nI_sub1 (by omega)]
      exact nI_lt (by omega) (by omega)
  · intro ⟨j, j1, j2⟩
    rw [j2, nI_sub1 (by omega)]
    exact ⟨nI_pos (by omega), nI_nlt (by omega) (by omega)⟩
set_option maxRecDepth 100000 in
theorem m_run {l : Launch} {Z : ZT} {Y : MT} {k : Nat → Int32} {th rf rb re : Int32} {T : Nat} (hT : T < 60) {t y q w9 : Int32} : mA l Z.1 (ty3 Z) yX1_run cX1_run 8 (some .int) (rmk 9 200 0 0) (wM Z Y k th (nI T) rf rb re) [.ref Y.1, .int t, .int y, .int q, .int w9] (mPost Z Y (qS (vM k T) T (inR t 2 ∧ inR y 8 ∧ inR q 60) (q ≤ nI T ∧ ∃ j, j < fb_ct (stF (vM k T (nN q) (nN t * 8 + nN y))) 60 ∧ w9 = nI j) (runN (vM k T (nN q) (nN t * 8 + nN y)) (kthD (stF (vM k T (nN q) (nN t * 8 + nN y))) (nN w9) 60)))) := by
  refine mA_intro (own := RX1) [(0, .ref Y.1), (1, .int t), (2, .int y), (3, .int q), (4, .int w9)] (by decide +kernel) rfl rfl rfl rfl ?_
  intro p e s m args below meth c A K hr hin
  refine gg_aload_n K (i := 0) dX1_run_0 rfl rfl ?_
  refine gg_iload_n K (i := 1) dX1_run_1 rfl rfl ?_
  refine gg_iload_n K (i := 2) dX1_run_2 rfl rfl ?_
  refine gg_callSR K k_X1_X1_isKey m_isKey dX1_run_3 rfl rfl rfl rfl ⟨rfl, rfl⟩ ?_
  refine gg_iload_n K (i := 3) dX1_run_6 rfl rfl ?_
  refine gg_callRM K k_X1_X1_errorOfRecord (m_errR (P := (inR t 2 ∧ inR y 8)) hT bP_iff rfl) dX1_run_7 rfl rfl rfl rfl ⟨rfl, rfl⟩ ?_
  refine gg_istore K dX1_run_10 (by decide) ?_
  refine gg_aload_n K (i := 0) dX1_run_12 rfl rfl ?_
  refine gg_iload K dX1_run_13 rfl ?_
  refine gg_if_le K (tgt := 23) dX1_run_15 (by decide) (fun h15 => ?_) (fun h15 => ?_)
  rotate_left
  · have hne : ¬ eR (inR t 2 ∧ inR y 8) q T = 0 := fun z => h15 (by rw [z]; decide)
    refine gg_iload K dX1_run_18 rfl ?_
    refine gg_goto K (tgt := 46) dX1_run_20 (by decide) ?_
    refine gg_callUM K k_X1_X1_holds m_holds dX1_run_46 rfl rfl rfl rfl ⟨rfl, rfl⟩ (fun v9 u h => ?_)
    obtain ⟨rfl, rfl⟩ := h
    refine gg_b_ne K (tgt := 54) dX1_run_49 (by decide) (fun h49 => ?_) (fun h49 => ?_)
    · exact absurd (bP_iff.mp h49) hne
    refine gg_iconst K (v := 0) dX1_run_52 (by decide) ?_
    exact gg_iret K hr dX1_run_53 (Nat.le_of_ble_eq_true rfl) (Nat.le_of_ble_eq_true rfl) (mQe hne ⟨fun h => ⟨⟨h.1, h.2.1⟩, h.2.2⟩, fun h => ⟨h.1.1, h.1.2, h.2⟩⟩ (fun z => z.1))
  have he := eR_le h15
  obtain ⟨⟨⟨h1, h2⟩, h4⟩, h5⟩ := eR_0.mp he
  have ⟨a1, a2⟩ := inR_N (b := 2) h1
  have ⟨b1, b2⟩ := inR_N (b := 8) h2
  have ⟨q1, q2⟩ := inR_N (b := 60) h4
  have hq := leT q2 q1 hT h5
  have hc := fb_ct_le (stF (vM k T (nN q) (nN t * 8 + nN y))) 60
  refine gg_iload K dX1_run_23 rfl ?_
  refine gg_iconst K (v := 0) dX1_run_25 (by decide) ?_
  refine gg_aload_n K (i := 0) dX1_run_26 rfl rfl ?_
  refine gg_iload_n K (i := 1) dX1_run_27 rfl rfl ?_
  refine gg_iload_n K (i := 2) dX1_run_28 rfl rfl ?_
  refine gg_iload_n K (i := 3) dX1_run_29 rfl rfl ?_
  refine gg_callRM K k_X1_X1_runsOf (m_runsOf (nN q) (nN t) (nN y) hT hq a1 b1 a2 b2 q2) dX1_run_30 rfl rfl rfl rfl ⟨rfl, rfl⟩ ?_
  refine gg_iconst K (v := 1) dX1_run_33 (by decide) ?_
  refine gg_isub K dX1_run_34 ?_
  refine gg_callSR K k_X1_X1_in m_in dX1_run_35 rfl rfl rfl rfl ⟨rfl, rfl⟩ ?_
  refine gg_b_eq K (tgt := 45) dX1_run_38 (by decide) (fun h38 => ?_) (fun h38 => ?_)
  · refine gg_iconst K (v := 2) dX1_run_45 (by decide) ?_
    refine gg_callUM K k_X1_X1_holds m_holds dX1_run_46 rfl rfl rfl rfl ⟨rfl, rfl⟩ (fun v9 u h => ?_)
    obtain ⟨rfl, rfl⟩ := h
    refine gg_b_ne K (tgt := 54) dX1_run_49 (by decide) (fun h49 => ?_) (fun h49 => ?_)
    · exact absurd (bP_iff.mp h49) (by decide)
    refine gg_iconst K (v := 0) dX1_run_52 (by decide) ?_
    refine gg_iret K hr dX1_run_53 (Nat.le_of_ble_eq_true rfl) (Nat.le_of_ble_eq_true rfl) ⟨2, 0, k, T, rf, rb, re, rfl, rfl, rfl, rfl, Or.inr (Or.inl ⟨⟨h1, h2, h4⟩, fun z => bP_nf h38 ((in_C (by omega)).mpr z.2), rfl⟩)⟩
  obtain ⟨j, j1, j2⟩ := (in_C (by omega)).mp (bP_iff.mp h38)
  obtain ⟨e9, e1, e2, e3⟩ := fb_ct_kth j1
  refine gg_iconst K (v := 0) dX1_run_41 (by decide) ?_
  refine gg_goto K (tgt := 46) dX1_run_42 (by decide) ?_
  refine gg_callUM K k_X1_X1_holds m_holds dX1_run_46 rfl rfl rfl rfl ⟨rfl, rfl⟩ (fun v9 u h => ?_)
  obtain ⟨rfl, rfl⟩ := h
  refine gg_b_ne K (tgt := 54) dX1_run_49 (by decide) (fun h49 => ?_) (fun h49 => ?_)
  rotate_left
  · exact absurd rfl (bP_nf h49)
  refine gg_iconst K (v := 0) dX1_run_54 (by decide) ?_
  refine gg_istore K dX1_run_55 (by decide) ?_
  refine gg_iconst K (v := 0) dX1_run_57 (by decide) ?_
  refine gg_istore K dX1_run_58 (by decide) ?_
  refine gg_sub (L' := [(7, .int (nI 0)), (6, .int (nI (fb_ct (stF (vM k T (nN q) (nN t * 8 + nN y))) 0))), (0, .ref Y.1), (1, .int t), (2, .int y), (3, .int q), (4, .int w9)]) ⟨rfl, rfl, rfl, rfl, rfl, rfl, rfl, trivial⟩ ?_
  have fin : ∀ d, d = e9 → gg p l e (rmk 9 200 0 0) s m args below meth c Z.1 A 8 0 0 (MQ below (qA Z.1 (ty3 Z) A (mPost Z Y (qS (vM k T) T (inR t 2 ∧ inR y 8 ∧ inR q 60) (q ≤ nI T ∧ ∃ j, j < fb_ct (stF (vM k T (nN q) (nN t * 8 + nN y))) 60 ∧ w9 = nI j) (runN (vM k T (nN q) (nN t * 8 + nN y)) (kthD (stF (vM k T (nN q) (nN t * 8 + nN y))) (nN w9) 60))))) args s (rmk 9 200 0 0).cells (rmk 9 200 0 0).slots A) (wM Z Y k 0 (nI T) rf rb re) 107 ([(7, .int (nI d)), (6, .int (nI (fb_ct (stF (vM k T (nN q) (nN t * 8 + nN y))) d))), (0, .ref Y.1), (1, .int t), (2, .int y), (3, .int q), (4, .int w9)]) [] := fun d hd => by
    subst hd
    refine gg_aload_n K (i := 0) dX1_run_107 rfl rfl ?_
    refine gg_iload_n K (i := 1) dX1_run_108 rfl rfl ?_
    refine gg_iload_n K (i := 2) dX1_run_109 rfl rfl ?_
    refine gg_iload_n K (i := 3) dX1_run_110 rfl rfl ?_
    refine gg_iload K dX1_run_111 rfl ?_
    refine gg_callRM K k_X1_X1_told (m_told (nN q) (nN t) (nN y) d hT hq a1 b1 e1 a2 b2 q2 rfl) dX1_run_113 rfl rfl rfl rfl ⟨rfl, rfl⟩ ?_
    exact gg_iret K hr dX1_run_116 (Nat.le_of_ble_eq_true rfl) (Nat.le_of_ble_eq_true rfl) (mQ0 rfl ⟨h1, h2, h4⟩ ⟨h5, j, j1, j2⟩ (by rw [kthD_eq e2 (e3.trans (by rw [j2]; exact (nI_clamp (by omega)).symm)) e1]; exact if_pos e2))
  refine gg_loop (fun i w L => ∃ d : Nat, d + i = e9 + 1 ∧ w = wM Z Y k 0 (nI T) rf rb re ∧ d ≤ e9 ∧ L = [(7, .int (nI d)), (6, .int (nI (fb_ct (stF (vM k T (nN q) (nN t * 8 + nN y))) d))), (0, .ref Y.1), (1, .int t), (2, .int y), (3, .int q), (4, .int w9)]) (fun w L h => ?_) (fun i w L h ih => ?_) (e9 + 1) _ _ ⟨0, by omega, rfl, by omega, rfl⟩
  · obtain ⟨d, h1, -, h2, -⟩ := h
    omega
  obtain ⟨d, hd, rfl, hd2, rfl⟩ := h
  have hm := fb_ct_mono (stF (vM k T (nN q) (nN t * 8 + nN y))) hd2
  have step : (∀ b : Bool, stF (vM k T (nN q) (nN t * 8 + nN y)) d = b → d < e9 → gg p l e (rmk 9 200 0 0) s m args below meth c Z.1 A 8 0 0 (MQ below (qA Z.1 (ty3 Z) A (mPost Z Y (qS (vM k T) T (inR t 2 ∧ inR y 8 ∧ inR q 60) (q ≤ nI T ∧ ∃ j, j < fb_ct (stF (vM k T (nN q) (nN t * 8 + nN y))) 60 ∧ w9 = nI j) (runN (vM k T (nN q) (nN t * 8 + nN y)) (kthD (stF (vM k T (nN q) (nN t * 8 + nN y))) (nN w9) 60))))) args s (rmk 9 200 0 0).cells (rmk 9 200 0 0).slots A) (wM Z Y k 0 (nI T) rf rb re) 98 ([(7, .int (nI d)), (6, .int (nI (fb_ct (stF (vM k T (nN q) (nN t * 8 + nN y))) d))), (0, .ref Y.1), (1, .int t), (2, .int y), (3, .int q), (4, .int w9)]) [.int (bI b), .int (nI (fb_ct (stF (vM k T (nN q) (nN t * 8 + nN y))) d))]) := fun b hb hlt => by
    refine gg_iadd K dX1_run_98 ?_
    refine gg_top (y := nI (fb_ct (stF (vM k T (nN q) (nN t * 8 + nN y))) (d + 1))) (by rw [← hb]; exact ct_add) ?_
    refine gg_istore K dX1_run_99 (by decide) ?_
    refine gg_iinc K (v := nI (d + 1)) dX1_run_101 rfl (nI_inc (d)) (by decide) ?_
    refine gg_goto K (tgt := 60) dX1_run_104 (by decide) ?_
    refine gg_sub (L' := [(7, .int (nI (d + 1))), (6, .int (nI (fb_ct (stF (vM k T (nN q) (nN t * 8 + nN y))) (d + 1)))), (0, .ref Y.1), (1, .int t), (2, .int y), (3, .int q), (4, .int w9)]) ⟨rfl, rfl, rfl, rfl, rfl, rfl, rfl, trivial⟩ ?_
    exact ih _ _ ⟨d + 1, by omega, rfl, by omega, rfl⟩
  have body : d < e9 → gg p l e (rmk 9 200 0 0) s m args below meth c Z.1 A 8 0 0 (MQ below (qA Z.1 (ty3 Z) A (mPost Z Y (qS (vM k T) T (inR t 2 ∧ inR y 8 ∧ inR q 60) (q ≤ nI T ∧ ∃ j, j < fb_ct (stF (vM k T (nN q) (nN t * 8 + nN y))) 60 ∧ w9 = nI j) (runN (vM k T (nN q) (nN t * 8 + nN y)) (kthD (stF (vM k T (nN q) (nN t * 8 + nN y))) (nN w9) 60))))) args s (rmk 9 200 0 0).cells (rmk 9 200 0 0).slots A) (wM Z Y k 0 (nI T) rf rb re) 79 ([(7, .int (nI d)), (6, .int (nI (fb_ct (stF (vM k T (nN q) (nN t * 8 + nN y))) d))), (0, .ref Y.1), (1, .int t), (2, .int y), (3, .int q), (4, .int w9)]) [] := fun hlt => by
    refine gg_iload K dX1_run_79 rfl ?_
    refine gg_aload_n K (i := 0) dX1_run_81 rfl rfl ?_
    refine gg_iload_n K (i := 1) dX1_run_82 rfl rfl ?_
    refine gg_iload_n K (i := 2) dX1_run_83 rfl rfl ?_
    refine gg_iload_n K (i := 3) dX1_run_84 rfl rfl ?_
    refine gg_iload K dX1_run_85 rfl ?_
    refine gg_callRM K k_X1_X1_begins (m_begins (nN q) (nN t) (nN y) d hT hq a1 b1 (by omega) a2 b2 q2 rfl) dX1_run_87 rfl rfl rfl rfl ⟨rfl, rfl⟩ ?_
    refine gg_b_eq K (tgt := 97) dX1_run_90 (by decide) (fun h90 => ?_) (fun h90 => ?_)
    · refine gg_iconst K (v := 0) dX1_run_97 (by decide) ?_
      exact step false h90 hlt
    · refine gg_iconst K (v := 1) dX1_run_93 (by decide) ?_
      refine gg_goto K (tgt := 98) dX1_run_94 (by decide) ?_
      exact step true h90 hlt
  refine gg_iload K dX1_run_60 rfl ?_
  refine gg_iload K dX1_run_62 rfl ?_
  refine gg_icmp_lt K (tgt := 79) dX1_run_64 (by decide) (fun h64 => ?_) (fun h64 => ?_)
  · rw [j2] at h64
    have h9 := i_lt h64
    exact body (by
      by_cases hde : d = e9
      · rw [hde] at h9; omega
      · omega)
  rw [j2] at h64
  have h9 := i_nlt h64
  have h10 : fb_ct (stF (vM k T (nN q) (nN t * 8 + nN y))) d = j := by omega
  refine gg_aload_n K (i := 0) dX1_run_67 rfl rfl ?_
  refine gg_iload_n K (i := 1) dX1_run_68 rfl rfl ?_
  refine gg_iload_n K (i := 2) dX1_run_69 rfl rfl ?_
  refine gg_iload_n K (i := 3) dX1_run_70 rfl rfl ?_
  refine gg_iload K dX1_run_71 rfl ?_
  refine gg_callRM K k_X1_X1_begins (m_begins (nN q) (nN t) (nN y) d hT hq a1 b1 (by omega) a2 b2 q2 rfl) dX1_run_73 rfl rfl rfl rfl ⟨rfl, rfl⟩ ?_
  refine gg_b_ne K (tgt := 107) dX1_run_76 (by decide) (fun h76 => ?_) (fun h76 => ?_)
  · exact fin d (fb_ct_kth_one h76 e2 (by omega))
  · exact body (by
      by_cases hde : d = e9
      · rw [hde, e2] at h76; cases h76
      · omega)
theorem js_eq {V : VT} {r key j : Nat} {b : Bool} (hb : b = true ↔ (j = 0 ∨ ¬ V r (8 + key) j = V r (8 + key) (j - 1) ∨ ¬ jnF V r key j = jnF V r key (j - 1))) (h : ¬ V r (8 + key) j = -1) : jsF V r key j = b := by
  have hiff : (¬ V r (8 + key) j = -1 ∧ (stF (V r (8 + key)) j = true ∨ ¬ jnF V r key j = jnF V r key (j - 1))) ↔ (j = 0 ∨ ¬ V r (8 + key) j = V r (8 + key) (j - 1) ∨ ¬ jnF V r key j = jnF V r key (j - 1)) := by
    constructor
    · intro ⟨_, h2⟩
      rcases h2 with h2 | h2
      · have := (of_decide_eq_true h2).2
        rcases this with z | z
        · exact Or.inl z
        · exact Or.inr (Or.inl (fun w => z w.symm))
      · exact Or.inr (Or.inr h2)
    · intro h2
      refine ⟨h, ?_⟩
      rcases h2 with z | z | z
      · exact Or.inl (stF_t h (Or.inl z))
      · exact Or.inl (stF_t h (Or.inr (fun w => z w.symm)))
      · exact Or.inr z
  unfold jsF
  cases b with
  | true => exact bP_t (hiff.mpr (hb.mp rfl))
  | false => exact bP_f (fun z => by have := hb.mpr (hiff.mp z); cases this)
set_option maxRecDepth 100000 in
theorem m_joinedRuns {l : Launch} {Z : ZT} {Y : MT} {k : Nat → Int32} {th rf rb re : Int32} {T : Nat} (hT : T < 60) (hv : valOk (vM k T) T) {y q : Int32} : mA l Z.1 (ty3 Z) yX1_joinedRuns cX1_joinedRuns 6 (some .int) (rmk 9 200 0 0) (wM Z Y k th (nI T) rf rb re) [.ref Y.1, .int y, .int q] (mPost Z Y (qS (vM k T) T (inR y 8 ∧ inR q 60) (q ≤ nI T) (nI (fb_ct (jsF (vM k T) (nN q) (nN y)) 60)))) := by
  refine mA_intro (own := RX1) [(0, .ref Y.1), (1, .int y), (2, .int q)] (by decide +kernel) rfl rfl rfl rfl ?_
  intro p e s m args below meth c A K hr hin
  refine gg_aload_n K (i := 0) dX1_joinedRuns_0 rfl rfl ?_
  refine gg_aload_n K (i := 0) dX1_joinedRuns_1 rfl rfl ?_
  refine gg_iconst K (v := 1) dX1_joinedRuns_2 (by decide) ?_
  refine gg_iload_n K (i := 1) dX1_joinedRuns_3 rfl rfl ?_
  refine gg_callSR K k_X1_X1_isKey m_isKey dX1_joinedRuns_4 rfl rfl rfl rfl ⟨rfl, rfl⟩ ?_
  refine gg_iload_n K (i := 2) dX1_joinedRuns_7 rfl rfl ?_
  refine gg_callRM K k_X1_X1_errorOfRecord (m_errR (P := (inR 1 2 ∧ inR y 8)) hT bP_iff rfl) dX1_joinedRuns_8 rfl rfl rfl rfl ⟨rfl, rfl⟩ ?_
  refine gg_callUM K k_X1_X1_holds m_holds dX1_joinedRuns_11 rfl rfl rfl rfl ⟨rfl, rfl⟩ (fun v9 u h => ?_)
  obtain ⟨rfl, rfl⟩ := h
  refine gg_b_ne K (tgt := 19) dX1_joinedRuns_14 (by decide) (fun h14 => ?_) (fun h14 => ?_)
  rotate_left
  · refine gg_iconst K (v := 0) dX1_joinedRuns_17 (by decide) ?_
    exact gg_iret K hr dX1_joinedRuns_18 (Nat.le_of_ble_eq_true rfl) (Nat.le_of_ble_eq_true rfl) (mQe (bP_nf h14) ⟨fun h => ⟨⟨inR_of (j := 1) (b := 2) (by omega), h.1⟩, h.2⟩, fun h => ⟨h.1.2, h.2⟩⟩ id)
  obtain ⟨⟨⟨-, h2⟩, h4⟩, h5⟩ := eR_0.mp (bP_iff.mp h14)
  have ⟨b1, b2⟩ := inR_N (b := 8) h2
  have ⟨q1, q2⟩ := inR_N (b := 60) h4
  have hq := leT q2 q1 hT h5
  refine gg_iconst K (v := 0) dX1_joinedRuns_19 (by decide) ?_
  refine gg_istore_n K (i := 3) dX1_joinedRuns_20 rfl (by decide) ?_
  refine gg_iconst K (v := 0) dX1_joinedRuns_21 (by decide) ?_
  refine gg_istore K dX1_joinedRuns_22 (by decide) ?_
  refine gg_sub (L' := [(4, .int (nI 0)), (3, .int (nI (fb_ct (jsF (vM k T) (nN q) (nN y)) 0))), (0, .ref Y.1), (1, .int y), (2, .int q)]) ⟨rfl, rfl, rfl, rfl, rfl, trivial⟩ ?_
  refine gg_loop (fun i w L => ∃ (j : Nat), j + i = 61 ∧ w = wM Z Y k (eR (inR 1 2 ∧ inR y 8) q T) (nI T) rf rb re ∧ j ≤ 60 ∧ L = [(4, .int (nI j)), (3, .int (nI (fb_ct (jsF (vM k T) (nN q) (nN y)) j))), (0, .ref Y.1), (1, .int y), (2, .int q)]) (fun w L h => ?_) (fun i w L h ih => ?_) 61 _ _ ⟨0, rfl, rfl, by omega, rfl⟩
  · obtain ⟨j, hj, -, h2, -⟩ := h
    omega
  obtain ⟨j, hj, rfl, -, rfl⟩ := h
  refine gg_iload K dX1_joinedRuns_24 rfl ?_
  refine gg_bipush K (v := 60) dX1_joinedRuns_26 (by decide) ?_
  refine gg_icmp_ge K (tgt := 119) dX1_joinedRuns_28 (by decide) (fun h28 => ?_) (fun h28 => ?_)
  · have hj2 := i_le (a := 60) h28
    have hj3 : j = 60 := by omega
    subst hj3
    refine gg_iload_n K (i := 3) dX1_joinedRuns_119 rfl rfl ?_
    exact gg_iret K hr dX1_joinedRuns_120 (Nat.le_of_ble_eq_true rfl) (Nat.le_of_ble_eq_true rfl) (mQ0 (bP_iff.mp h14) ⟨h2, h4⟩ h5 rfl)
  have hj2 := i_nle (a := 60) h28
  have hof := fun d hd => m_of (l := l) (Z := Z) (Y := Y) (k := k) (th := eR (inR 1 2 ∧ inR y 8) q T) (rf := rf) (rb := rb) (re := re) (nN q) 1 (nN y) d hT hq (by omega) b1 hd q2 rfl b2 rfl
  refine gg_cut (j = 0 ∨ ¬ vM k T (nN q) (8 + nN y) j = vM k T (nN q) (8 + nN y) (j - 1) ∨ ¬ jnF (vM k T) (nN q) (nN y) j = jnF (vM k T) (nN q) (nN y) (j - 1)) 85 ([(4, .int (nI j)), (3, .int (nI (fb_ct (jsF (vM k T) (nN q) (nN y)) j))), (0, .ref Y.1), (1, .int y), (2, .int q)]) [] (fun b hb => ?_) (fun J => ?_)
  · have nxt : ∀ b9 : Bool, (jsF (vM k T) (nN q) (nN y)) j = b9 → gg p l e (rmk 9 200 0 0) s m args below meth c Z.1 A 6 0 0 (MQ below (qA Z.1 (ty3 Z) A (mPost Z Y (qS (vM k T) T (inR y 8 ∧ inR q 60) (q ≤ nI T) (nI (fb_ct (jsF (vM k T) (nN q) (nN y)) 60))))) args s (rmk 9 200 0 0).cells (rmk 9 200 0 0).slots A) (wM Z Y k (eR (inR 1 2 ∧ inR y 8) q T) (nI T) rf rb re) 111 ((5, .int (bI b)) :: [(4, .int (nI j)), (3, .int (nI (fb_ct (jsF (vM k T) (nN q) (nN y)) j))), (0, .ref Y.1), (1, .int y), (2, .int q)]) [.int (bI b9), .int (nI (fb_ct (jsF (vM k T) (nN q) (nN y)) j))] := fun b9 hb9 => by
      refine gg_iadd K dX1_joinedRuns_111 ?_
      refine gg_top (y := nI (fb_ct (jsF (vM k T) (nN q) (nN y)) (j + 1))) (by rw [← hb9]; exact ct_add) ?_
      refine gg_istore_n K (i := 3) dX1_joinedRuns_112 rfl (by decide) ?_
      refine gg_iinc K (v := nI (j + 1)) dX1_joinedRuns_113 rfl (nI_inc (j)) (by decide) ?_
      refine gg_goto K (tgt := 24) dX1_joinedRuns_116 (by decide) ?_
      refine gg_sub (L' := [(4, .int (nI (j + 1))), (3, .int (nI (fb_ct (jsF (vM k T) (nN q) (nN y)) (j + 1)))), (0, .ref Y.1), (1, .int y), (2, .int q)]) ⟨rfl, rfl, rfl, rfl, rfl, trivial⟩ ?_
      exact ih _ _ ⟨j + 1, by omega, rfl, by omega, rfl⟩
    refine gg_istore K dX1_joinedRuns_85 (by decide) ?_
    refine gg_iload_n K (i := 3) dX1_joinedRuns_87 rfl rfl ?_
    refine gg_aload_n K (i := 0) dX1_joinedRuns_88 rfl rfl ?_
    refine gg_iload_n K (i := 2) dX1_joinedRuns_89 rfl rfl ?_
    refine gg_iconst K (v := 1) dX1_joinedRuns_90 (by decide) ?_
    refine gg_iload_n K (i := 1) dX1_joinedRuns_91 rfl rfl ?_
    refine gg_iload K dX1_joinedRuns_92 rfl ?_
    refine gg_callRM K k_X1_X1_of (hof j hj2) dX1_joinedRuns_94 rfl rfl rfl rfl ⟨rfl, rfl⟩ ?_
    rw [show 1 * 8 + nN y = 8 + nN y by omega]
    refine gg_iconst K (v := (-1)) dX1_joinedRuns_97 (by decide) ?_
    refine gg_icmp_eq K (tgt := 110) dX1_joinedRuns_98 (by decide) (fun h98 => ?_) (fun h98 => ?_)
    · refine gg_iconst K (v := 0) dX1_joinedRuns_110 (by decide) ?_
      exact nxt false (bP_f (fun z => z.1 h98))
    refine gg_iload K dX1_joinedRuns_101 rfl ?_
    refine gg_b_eq K (tgt := 110) dX1_joinedRuns_103 (by decide) (fun h103 => ?_) (fun h103 => ?_)
    · refine gg_iconst K (v := 0) dX1_joinedRuns_110 (by decide) ?_
      exact nxt false ((js_eq hb h98).trans h103)
    · refine gg_iconst K (v := 1) dX1_joinedRuns_106 (by decide) ?_
      refine gg_goto K (tgt := 111) dX1_joinedRuns_107 (by decide) ?_
      exact nxt true ((js_eq hb h98).trans h103)
  refine gg_iload K dX1_joinedRuns_31 rfl ?_
  refine gg_if_eq K (tgt := 80) dX1_joinedRuns_33 (by decide) (fun h33 => ?_) (fun h33 => ?_)
  · refine gg_iconst K (v := 1) dX1_joinedRuns_80 (by decide) ?_
    refine gg_goto K (tgt := 85) dX1_joinedRuns_81 (by decide) ?_
    exact J true (tt_iff (Or.inl (i_eq (b := 0) h33)))
  have hj0 : ¬ j = 0 := fun z => h33 (by rw [z]; rfl)
  refine gg_aload_n K (i := 0) dX1_joinedRuns_36 rfl rfl ?_
  refine gg_iload_n K (i := 2) dX1_joinedRuns_37 rfl rfl ?_
  refine gg_iconst K (v := 1) dX1_joinedRuns_38 (by decide) ?_
  refine gg_iload_n K (i := 1) dX1_joinedRuns_39 rfl rfl ?_
  refine gg_iload K dX1_joinedRuns_40 rfl ?_
  refine gg_callRM K k_X1_X1_of (hof j hj2) dX1_joinedRuns_42 rfl rfl rfl rfl ⟨rfl, rfl⟩ ?_
  refine gg_aload_n K (i := 0) dX1_joinedRuns_45 rfl rfl ?_
  refine gg_iload_n K (i := 2) dX1_joinedRuns_46 rfl rfl ?_
  refine gg_iconst K (v := 1) dX1_joinedRuns_47 (by decide) ?_
  refine gg_iload_n K (i := 1) dX1_joinedRuns_48 rfl rfl ?_
  refine gg_iload K dX1_joinedRuns_49 rfl ?_
  refine gg_iconst K (v := 1) dX1_joinedRuns_51 (by decide) ?_
  refine gg_isub K dX1_joinedRuns_52 ?_
  refine gg_callRM K k_X1_X1_of (m_of (nN q) 1 (nN y) (j - 1) hT hq (by omega) b1 (by omega) q2 rfl b2 (nI_sub1 (by omega))) dX1_joinedRuns_53 rfl rfl rfl rfl ⟨rfl, rfl⟩ ?_
  rw [show 1 * 8 + nN y = 8 + nN y by omega]
  refine gg_icmp_ne K (tgt := 80) dX1_joinedRuns_56 (by decide) (fun h56 => ?_) (fun h56 => ?_)
  · refine gg_iconst K (v := 1) dX1_joinedRuns_80 (by decide) ?_
    refine gg_goto K (tgt := 85) dX1_joinedRuns_81 (by decide) ?_
    exact J true (tt_iff (Or.inr (Or.inl h56)))
  refine gg_aload_n K (i := 0) dX1_joinedRuns_59 rfl rfl ?_
  refine gg_iload_n K (i := 1) dX1_joinedRuns_60 rfl rfl ?_
  refine gg_iload K dX1_joinedRuns_61 rfl ?_
  refine gg_iload_n K (i := 2) dX1_joinedRuns_63 rfl rfl ?_
  refine gg_callRM K k_X1_X1_joinedOf (m_joinedOf (nN q) (nN y) j hT hv hq b1 hj2 b2 rfl q2) dX1_joinedRuns_64 rfl rfl rfl rfl ⟨rfl, rfl⟩ ?_
  refine gg_aload_n K (i := 0) dX1_joinedRuns_67 rfl rfl ?_
  refine gg_iload_n K (i := 1) dX1_joinedRuns_68 rfl rfl ?_
  refine gg_iload K dX1_joinedRuns_69 rfl ?_
  refine gg_iconst K (v := 1) dX1_joinedRuns_71 (by decide) ?_
  refine gg_isub K dX1_joinedRuns_72 ?_
  refine gg_iload_n K (i := 2) dX1_joinedRuns_73 rfl rfl ?_
  refine gg_callRM K k_X1_X1_joinedOf (m_joinedOf (nN q) (nN y) (j - 1) hT hv hq b1 (by omega) b2 (nI_sub1 (by omega)) q2) dX1_joinedRuns_74 rfl rfl rfl rfl ⟨rfl, rfl⟩ ?_
  refine gg_icmp_eq K (tgt := 84) dX1_joinedRuns_77 (by decide) (fun h77 => ?_) (fun h77 => ?_)
  · refine gg_iconst K (v := 0) dX1_joinedRuns_84 (by decide) ?_
    exact J false (ft_iff (fun z => z.elim hj0 (fun z => z.elim (fun z => z h56) (fun z => z h77))))
  · refine gg_iconst K (v := 1) dX1_joinedRuns_80 (by decide) ?_
    refine gg_goto K (tgt := 85) dX1_joinedRuns_81 (by decide) ?_
    exact J true (tt_iff (Or.inr (Or.inr h77)))
set_option maxRecDepth 100000 in
theorem m_longest {l : Launch} {Z : ZT} {Y : MT} {k : Nat → Int32} {th rf rb re : Int32} {T : Nat} (hT : T < 60) {t y q : Int32} : mA l Z.1 (ty3 Z) yX1_longest cX1_longest 7 (some .int) (rmk 9 200 0 0) (wM Z Y k th (nI T) rf rb re) [.ref Y.1, .int t, .int y, .int q] (mPost Z Y (qS (vM k T) T (inR t 2 ∧ inR y 8 ∧ inR q 60) (q ≤ nI T) (nI (lgF (vM k T (nN q) (nN t * 8 + nN y)) 60)))) := by
  refine mA_intro (own := RX1) [(0, .ref Y.1), (1, .int t), (2, .int y), (3, .int q)] (by decide +kernel) rfl rfl rfl rfl ?_
  intro p e s m args below meth c A K hr hin
  refine gg_aload_n K (i := 0) dX1_longest_0 rfl rfl ?_
  refine gg_aload_n K (i := 0) dX1_longest_1 rfl rfl ?_
  refine gg_iload_n K (i := 1) dX1_longest_2 rfl rfl ?_
  refine gg_iload_n K (i := 2) dX1_longest_3 rfl rfl ?_
  refine gg_callSR K k_X1_X1_isKey m_isKey dX1_longest_4 rfl rfl rfl rfl ⟨rfl, rfl⟩ ?_
  refine gg_iload_n K (i := 3) dX1_longest_7 rfl rfl ?_
  refine gg_callRM K k_X1_X1_errorOfRecord (m_errR (P := (inR t 2 ∧ inR y 8)) hT bP_iff rfl) dX1_longest_8 rfl rfl rfl rfl ⟨rfl, rfl⟩ ?_
  refine gg_callUM K k_X1_X1_holds m_holds dX1_longest_11 rfl rfl rfl rfl ⟨rfl, rfl⟩ (fun v9 u h => ?_)
  obtain ⟨rfl, rfl⟩ := h
  refine gg_b_ne K (tgt := 19) dX1_longest_14 (by decide) (fun h14 => ?_) (fun h14 => ?_)
  rotate_left
  · refine gg_iconst K (v := 0) dX1_longest_17 (by decide) ?_
    exact gg_iret K hr dX1_longest_18 (Nat.le_of_ble_eq_true rfl) (Nat.le_of_ble_eq_true rfl) (mQe (bP_nf h14) ⟨fun h => ⟨⟨h.1, h.2.1⟩, h.2.2⟩, fun h => ⟨h.1.1, h.1.2, h.2⟩⟩ id)
  obtain ⟨⟨⟨h1, h2⟩, h4⟩, h5⟩ := eR_0.mp (bP_iff.mp h14)
  have ⟨a1, a2⟩ := inR_N (b := 2) h1
  have ⟨b1, b2⟩ := inR_N (b := 8) h2
  have ⟨q1, q2⟩ := inR_N (b := 60) h4
  have hq := leT q2 q1 hT h5
  refine gg_iconst K (v := 0) dX1_longest_19 (by decide) ?_
  refine gg_istore K dX1_longest_20 (by decide) ?_
  refine gg_iconst K (v := 0) dX1_longest_22 (by decide) ?_
  refine gg_istore K dX1_longest_23 (by decide) ?_
  refine gg_sub (L' := [(5, .int (nI 0)), (4, .int (nI (lgF (vM k T (nN q) (nN t * 8 + nN y)) 0))), (0, .ref Y.1), (1, .int t), (2, .int y), (3, .int q)]) ⟨rfl, rfl, rfl, rfl, rfl, rfl, trivial⟩ ?_
  refine gg_loop (fun i w L => ∃ (j : Nat), j + i = 61 ∧ w = wM Z Y k (eR (inR t 2 ∧ inR y 8) q T) (nI T) rf rb re ∧ j ≤ 60 ∧ L = [(5, .int (nI j)), (4, .int (nI (lgF (vM k T (nN q) (nN t * 8 + nN y)) j))), (0, .ref Y.1), (1, .int t), (2, .int y), (3, .int q)]) (fun w L h => ?_) (fun i w L h ih => ?_) 61 _ _ ⟨0, rfl, rfl, by omega, rfl⟩
  · obtain ⟨j, hj, -, h2, -⟩ := h
    omega
  obtain ⟨j, hj, rfl, -, rfl⟩ := h
  refine gg_iload K dX1_longest_25 rfl ?_
  refine gg_bipush K (v := 60) dX1_longest_27 (by decide) ?_
  refine gg_icmp_ge K (tgt := 84) dX1_longest_29 (by decide) (fun h29 => ?_) (fun h29 => ?_)
  · have hj2 := i_le (a := 60) h29
    have hj3 : j = 60 := by omega
    subst hj3
    refine gg_iload K dX1_longest_84 rfl ?_
    exact gg_iret K hr dX1_longest_86 (Nat.le_of_ble_eq_true rfl) (Nat.le_of_ble_eq_true rfl) (mQ0 (bP_iff.mp h14) ⟨h1, h2, h4⟩ h5 rfl)
  have hj2 := i_nle (a := 60) h29
  have e3 := lgF_le (vM k T (nN q) (nN t * 8 + nN y)) (n := j) (by omega)
  have nxt : ∀ D9 : Nat, D9 ≤ 60 → lgF (vM k T (nN q) (nN t * 8 + nN y)) (j + 1) = (if lgF (vM k T (nN q) (nN t * 8 + nN y)) j < D9 then D9 else lgF (vM k T (nN q) (nN t * 8 + nN y)) j) → gg p l e (rmk 9 200 0 0) s m args below meth c Z.1 A 7 0 0 (MQ below (qA Z.1 (ty3 Z) A (mPost Z Y (qS (vM k T) T (inR t 2 ∧ inR y 8 ∧ inR q 60) (q ≤ nI T) (nI (lgF (vM k T (nN q) (nN t * 8 + nN y)) 60))))) args s (rmk 9 200 0 0).cells (rmk 9 200 0 0).slots A) (wM Z Y k (eR (inR t 2 ∧ inR y 8) q T) (nI T) rf rb re) 60 ([(5, .int (nI j)), (4, .int (nI (lgF (vM k T (nN q) (nN t * 8 + nN y)) j))), (0, .ref Y.1), (1, .int t), (2, .int y), (3, .int q)]) [.int (nI D9)] := fun D9 hD9 hl9 => by
    refine gg_istore K dX1_longest_60 (by decide) ?_
    refine gg_iload K dX1_longest_62 rfl ?_
    refine gg_iload K dX1_longest_64 rfl ?_
    refine gg_icmp_le K (tgt := 74) dX1_longest_66 (by decide) (fun h66 => ?_) (fun h66 => ?_)
    · have g := i_le h66
      rw [if_neg (by omega)] at hl9
      refine gg_iload K dX1_longest_74 rfl ?_
      refine gg_istore K dX1_longest_76 (by decide) ?_
      refine gg_iinc K (v := nI (j + 1)) dX1_longest_78 rfl (nI_inc (j)) (by decide) ?_
      refine gg_goto K (tgt := 25) dX1_longest_81 (by decide) ?_
      refine gg_sub (L' := [(5, .int (nI (j + 1))), (4, .int (nI (lgF (vM k T (nN q) (nN t * 8 + nN y)) (j + 1)))), (0, .ref Y.1), (1, .int t), (2, .int y), (3, .int q)]) ⟨rfl, by rw [hl9]; rfl, rfl, rfl, rfl, rfl, trivial⟩ ?_
      exact ih _ _ ⟨j + 1, by omega, rfl, by omega, rfl⟩
    · have g := i_nle h66
      rw [if_pos g] at hl9
      refine gg_iload K dX1_longest_69 rfl ?_
      refine gg_goto K (tgt := 76) dX1_longest_71 (by decide) ?_
      refine gg_istore K dX1_longest_76 (by decide) ?_
      refine gg_iinc K (v := nI (j + 1)) dX1_longest_78 rfl (nI_inc (j)) (by decide) ?_
      refine gg_goto K (tgt := 25) dX1_longest_81 (by decide) ?_
      refine gg_sub (L' := [(5, .int (nI (j + 1))), (4, .int (nI (lgF (vM k T (nN q) (nN t * 8 + nN y)) (j + 1)))), (0, .ref Y.1), (1, .int t), (2, .int y), (3, .int q)]) ⟨rfl, by rw [hl9]; rfl, rfl, rfl, rfl, rfl, trivial⟩ ?_
      exact ih _ _ ⟨j + 1, by omega, rfl, by omega, rfl⟩
  refine gg_aload_n K (i := 0) dX1_longest_32 rfl rfl ?_
  refine gg_iload_n K (i := 1) dX1_longest_33 rfl rfl ?_
  refine gg_iload_n K (i := 2) dX1_longest_34 rfl rfl ?_
  refine gg_iload_n K (i := 3) dX1_longest_35 rfl rfl ?_
  refine gg_iload K dX1_longest_36 rfl ?_
  refine gg_callRM K k_X1_X1_begins (m_begins (nN q) (nN t) (nN y) j hT hq a1 b1 hj2 a2 b2 q2 rfl) dX1_longest_38 rfl rfl rfl rfl ⟨rfl, rfl⟩ ?_
  refine gg_b_eq K (tgt := 59) dX1_longest_41 (by decide) (fun h41 => ?_) (fun h41 => ?_)
  · refine gg_iconst K (v := 0) dX1_longest_59 (by decide) ?_
    exact nxt 0 (by omega) (by rw [if_neg (by omega)]; exact if_neg (by rw [h41]; decide))
  · refine gg_aload_n K (i := 0) dX1_longest_44 rfl rfl ?_
    refine gg_iload_n K (i := 1) dX1_longest_45 rfl rfl ?_
    refine gg_iload_n K (i := 2) dX1_longest_46 rfl rfl ?_
    refine gg_iload_n K (i := 3) dX1_longest_47 rfl rfl ?_
    refine gg_iload K dX1_longest_48 rfl ?_
    refine gg_callRM K k_X1_X1_end (m_end (nN q) (nN t) (nN y) j hT hq a1 b1 hj2 a2 b2 q2 rfl) dX1_longest_50 rfl rfl rfl rfl ⟨rfl, rfl⟩ ?_
    have e1 := endF_le (f := (vM k T (nN q) (nN t * 8 + nN y))) hj2
    have e2 := endF_gt (vM k T (nN q) (nN t * 8 + nN y)) j
    refine gg_iload K dX1_longest_53 rfl ?_
    refine gg_isub K dX1_longest_55 ?_
    refine gg_top (pk_sub (by omega)) ?_
    refine gg_goto K (tgt := 60) dX1_longest_56 (by decide) ?_
    exact nxt (endF (vM k T (nN q) (nN t * 8 + nN y)) j - j) (by omega) (if_pos h41)
set_option maxRecDepth 100000 in
theorem m_corrections {l : Launch} {Z : ZT} {Y : MT} {k : Nat → Int32} {th rf rb re : Int32} {T : Nat} (hT : T < 60) {t y d f q : Int32} : mA l Z.1 (ty3 Z) yX1_corrections cX1_corrections 9 (some .int) (rmk 9 200 0 0) (wM Z Y k th (nI T) rf rb re) [.ref Y.1, .int t, .int y, .int d, .int f, .int q] (mPost Z Y (qS (vM k T) T (inR t 2 ∧ inR y 8 ∧ inR d 60 ∧ inR f 60 ∧ ¬ q < f ∧ inR q 60) (q ≤ nI T) (nI (fb_ct (fun i => bP (¬ vM k T (nN f + 1 + i) (nN t * 8 + nN y) (nN d) = vM k T (nN f + i) (nN t * 8 + nN y) (nN d))) (nN q - nN f))))) := by
  refine mA_intro (own := RX1) [(0, .ref Y.1), (1, .int t), (2, .int y), (3, .int d), (4, .int f), (5, .int q)] (by decide +kernel) rfl rfl rfl rfl ?_
  intro p e s m args below meth c A K hr hin
  refine gg_cut (inR t 2 ∧ inR y 8 ∧ inR d 60 ∧ inR f 60 ∧ ¬ q < f) 35 [(0, .ref Y.1), (1, .int t), (2, .int y), (3, .int d), (4, .int f), (5, .int q)] [] (fun b hb => ?_) (fun J => ?_)
  · refine gg_istore K dX1_corrections_35 (by decide) ?_
    refine gg_aload_n K (i := 0) dX1_corrections_37 rfl rfl ?_
    refine gg_aload_n K (i := 0) dX1_corrections_38 rfl rfl ?_
    refine gg_iload K dX1_corrections_39 rfl ?_
    refine gg_iload K dX1_corrections_41 rfl ?_
    refine gg_callRM K k_X1_X1_errorOfRecord (m_errR hT hb rfl) dX1_corrections_43 rfl rfl rfl rfl ⟨rfl, rfl⟩ ?_
    refine gg_callUM K k_X1_X1_holds m_holds dX1_corrections_46 rfl rfl rfl rfl ⟨rfl, rfl⟩ (fun v9 u h => ?_)
    obtain ⟨rfl, rfl⟩ := h
    refine gg_b_ne K (tgt := 54) dX1_corrections_49 (by decide) (fun h49 => ?_) (fun h49 => ?_)
    rotate_left
    · refine gg_iconst K (v := 0) dX1_corrections_52 (by decide) ?_
      exact gg_iret K hr dX1_corrections_53 (Nat.le_of_ble_eq_true rfl) (Nat.le_of_ble_eq_true rfl) (mQe (bP_nf h49) ⟨fun h => ⟨⟨h.1, h.2.1, h.2.2.1, h.2.2.2.1, h.2.2.2.2.1⟩, h.2.2.2.2.2⟩, fun h => ⟨h.1.1, h.1.2.1, h.1.2.2.1, h.1.2.2.2.1, h.1.2.2.2.2, h.2⟩⟩ id)
    obtain ⟨⟨⟨h1, h2, h3, h6, h7⟩, h4⟩, h5⟩ := eR_0.mp (bP_iff.mp h49)
    have ⟨a1, a2⟩ := inR_N (b := 2) h1
    have ⟨b1, b2⟩ := inR_N (b := 8) h2
    have ⟨d1, d2⟩ := inR_N (b := 60) h3
    have ⟨f1, f2⟩ := inR_N (b := 60) h6
    have ⟨q1, q2⟩ := inR_N (b := 60) h4
    have hq := leT q2 q1 hT h5
    have hfq : nN f ≤ nN q := by
      have h7' := h7
      rw [f2, q2] at h7'
      exact i_nlt h7'
    refine gg_iconst K (v := 0) dX1_corrections_54 (by decide) ?_
    refine gg_istore K dX1_corrections_55 (by decide) ?_
    refine gg_iload K dX1_corrections_57 rfl ?_
    refine gg_iconst K (v := 1) dX1_corrections_59 (by decide) ?_
    refine gg_iadd K dX1_corrections_60 ?_
    refine gg_top (y := nI (nN f + 1)) (by rw [f2]; exact (nI_1 _).trans (by rw [← f2])) ?_
    refine gg_istore K dX1_corrections_61 (by decide) ?_
    refine gg_sub (L' := [(8, .int (nI (nN f + 1 + 0))), (7, .int (nI (fb_ct (fun i => bP (¬ vM k T (nN f + 1 + i) (nN t * 8 + nN y) (nN d) = vM k T (nN f + i) (nN t * 8 + nN y) (nN d))) 0))), (0, .ref Y.1), (1, .int t), (2, .int y), (3, .int d), (4, .int f), (5, .int q)]) ⟨rfl, rfl, rfl, rfl, rfl, rfl, rfl, rfl, trivial⟩ ?_
    refine gg_loop (fun i w L => ∃ (j : Nat), j + i = nN q - nN f + 1 ∧ w = wM Z Y k (eR (inR t 2 ∧ inR y 8 ∧ inR d 60 ∧ inR f 60 ∧ ¬ q < f) q T) (nI T) rf rb re ∧ j ≤ nN q - nN f ∧ L = [(8, .int (nI (nN f + 1 + j))), (7, .int (nI (fb_ct (fun i => bP (¬ vM k T (nN f + 1 + i) (nN t * 8 + nN y) (nN d) = vM k T (nN f + i) (nN t * 8 + nN y) (nN d))) j))), (0, .ref Y.1), (1, .int t), (2, .int y), (3, .int d), (4, .int f), (5, .int q)]) (fun w L h => ?_) (fun i w L h ih => ?_) (nN q - nN f + 1) _ _ ⟨0, by omega, rfl, by omega, rfl⟩
    · obtain ⟨j, hj, -, h2, -⟩ := h
      omega
    obtain ⟨j, hj, rfl, hj1, rfl⟩ := h
    refine gg_iload K dX1_corrections_63 rfl ?_
    refine gg_iload K dX1_corrections_65 rfl ?_
    refine gg_icmp_gt K (tgt := 109) dX1_corrections_67 (by decide) (fun h67 => ?_) (fun h67 => ?_)
    · rw [q2] at h67
      have hj2 := i_lt h67
      have hj3 : j = nN q - nN f := by omega
      subst hj3
      refine gg_iload K dX1_corrections_109 rfl ?_
      exact gg_iret K hr dX1_corrections_111 (Nat.le_of_ble_eq_true rfl) (Nat.le_of_ble_eq_true rfl) (mQ0 (bP_iff.mp h49) ⟨h1, h2, h3, h6, h7, h4⟩ h5 rfl)
    rw [q2] at h67
    have hj2 := i_nlt h67
    have nxt : ∀ b9 : Bool, (fun i => bP (¬ vM k T (nN f + 1 + i) (nN t * 8 + nN y) (nN d) = vM k T (nN f + i) (nN t * 8 + nN y) (nN d))) j = b9 → gg p l e (rmk 9 200 0 0) s m args below meth c Z.1 A 9 0 0 (MQ below (qA Z.1 (ty3 Z) A (mPost Z Y (qS (vM k T) T (inR t 2 ∧ inR y 8 ∧ inR d 60 ∧ inR f 60 ∧ ¬ q < f ∧ inR q 60) (q ≤ nI T) (nI (fb_ct (fun i => bP (¬ vM k T (nN f + 1 + i) (nN t * 8 + nN y) (nN d) = vM k T (nN f + i) (nN t * 8 + nN y) (nN d))) (nN q - nN f)))))) args s (rmk 9 200 0 0).cells (rmk 9 200 0 0).slots A) (wM Z Y k (eR (inR t 2 ∧ inR y 8 ∧ inR d 60 ∧ inR f 60 ∧ ¬ q < f) q T) (nI T) rf rb re) 100 ([(8, .int (nI (nN f + 1 + j))), (7, .int (nI (fb_ct (fun i => bP (¬ vM k T (nN f + 1 + i) (nN t * 8 + nN y) (nN d) = vM k T (nN f + i) (nN t * 8 + nN y) (nN d))) j))), (0, .ref Y.1), (1, .int t), (2, .int y), (3, .int d), (4, .int f), (5, .int q)]) [.int (bI b9), .int (nI (fb_ct (fun i => bP (¬ vM k T (nN f + 1 + i) (nN t * 8 + nN y) (nN d) = vM k T (nN f + i) (nN t * 8 + nN y) (nN d))) j))] := fun b9 hb9 => by
      refine gg_iadd K dX1_corrections_100 ?_
      refine gg_top (y := nI (fb_ct (fun i => bP (¬ vM k T (nN f + 1 + i) (nN t * 8 + nN y) (nN d) = vM k T (nN f + i) (nN t * 8 + nN y) (nN d))) (j + 1))) (by rw [← hb9]; exact ct_add (q := (fun i => bP (¬ vM k T (nN f + 1 + i) (nN t * 8 + nN y) (nN d) = vM k T (nN f + i) (nN t * 8 + nN y) (nN d))))) ?_
      refine gg_istore K dX1_corrections_101 (by decide) ?_
      refine gg_iinc K (v := nI (nN f + 1 + j + 1)) dX1_corrections_103 rfl (nI_inc (nN f + 1 + j)) (by decide) ?_
      refine gg_goto K (tgt := 63) dX1_corrections_106 (by decide) ?_
      refine gg_sub (L' := [(8, .int (nI (nN f + 1 + (j + 1)))), (7, .int (nI (fb_ct (fun i => bP (¬ vM k T (nN f + 1 + i) (nN t * 8 + nN y) (nN d) = vM k T (nN f + i) (nN t * 8 + nN y) (nN d))) (j + 1)))), (0, .ref Y.1), (1, .int t), (2, .int y), (3, .int d), (4, .int f), (5, .int q)]) ⟨rfl, rfl, rfl, rfl, rfl, rfl, rfl, rfl, trivial⟩ ?_
      exact ih _ _ ⟨j + 1, by omega, rfl, by omega, rfl⟩
    refine gg_iload K dX1_corrections_70 rfl ?_
    refine gg_aload_n K (i := 0) dX1_corrections_72 rfl rfl ?_
    refine gg_iload K dX1_corrections_73 rfl ?_
    refine gg_iload_n K (i := 1) dX1_corrections_75 rfl rfl ?_
    refine gg_iload_n K (i := 2) dX1_corrections_76 rfl rfl ?_
    refine gg_iload_n K (i := 3) dX1_corrections_77 rfl rfl ?_
    refine gg_callRM K k_X1_X1_of (m_of (nN f + 1 + j) (nN t) (nN y) (nN d) hT (by omega) a1 b1 d1 rfl a2 b2 d2) dX1_corrections_78 rfl rfl rfl rfl ⟨rfl, rfl⟩ ?_
    refine gg_aload_n K (i := 0) dX1_corrections_81 rfl rfl ?_
    refine gg_iload K dX1_corrections_82 rfl ?_
    refine gg_iconst K (v := 1) dX1_corrections_84 (by decide) ?_
    refine gg_isub K dX1_corrections_85 ?_
    refine gg_iload_n K (i := 1) dX1_corrections_86 rfl rfl ?_
    refine gg_iload_n K (i := 2) dX1_corrections_87 rfl rfl ?_
    refine gg_iload_n K (i := 3) dX1_corrections_88 rfl rfl ?_
    refine gg_callRM K k_X1_X1_of (m_of (nN f + j) (nN t) (nN y) (nN d) hT (by omega) a1 b1 d1 ((nI_sub1 (by omega)).trans (congrArg nI (by omega))) a2 b2 d2) dX1_corrections_89 rfl rfl rfl rfl ⟨rfl, rfl⟩ ?_
    refine gg_icmp_ne K (tgt := 99) dX1_corrections_92 (by decide) (fun h92 => ?_) (fun h92 => ?_)
    · refine gg_iconst K (v := 1) dX1_corrections_99 (by decide) ?_
      exact nxt true (bP_t h92)
    · refine gg_iconst K (v := 0) dX1_corrections_95 (by decide) ?_
      refine gg_goto K (tgt := 100) dX1_corrections_96 (by decide) ?_
      exact nxt false (bP_f (fun z => z h92))
  refine gg_iload_n K (i := 1) dX1_corrections_0 rfl rfl ?_
  refine gg_iload_n K (i := 2) dX1_corrections_1 rfl rfl ?_
  refine gg_callSR K k_X1_X1_isKey m_isKey dX1_corrections_2 rfl rfl rfl rfl ⟨rfl, rfl⟩ ?_
  refine gg_b_eq K (tgt := 34) dX1_corrections_5 (by decide) (fun h5 => ?_) (fun h5 => ?_)
  · refine gg_iconst K (v := 0) dX1_corrections_34 (by decide) ?_
    exact J false (ft_iff (fun z => bP_nf h5 ⟨z.1, z.2.1⟩))
  refine gg_iload_n K (i := 3) dX1_corrections_8 rfl rfl ?_
  refine gg_callSR K k_X1_X1_isDay m_isDay dX1_corrections_9 rfl rfl rfl rfl ⟨rfl, rfl⟩ ?_
  refine gg_b_eq K (tgt := 34) dX1_corrections_12 (by decide) (fun h12 => ?_) (fun h12 => ?_)
  · refine gg_iconst K (v := 0) dX1_corrections_34 (by decide) ?_
    exact J false (ft_iff (fun z => bP_nf h12 z.2.2.1))
  refine gg_iload K dX1_corrections_15 rfl ?_
  refine gg_callSR K k_X1_X1_isDay m_isDay dX1_corrections_17 rfl rfl rfl rfl ⟨rfl, rfl⟩ ?_
  refine gg_b_eq K (tgt := 34) dX1_corrections_20 (by decide) (fun h20 => ?_) (fun h20 => ?_)
  · refine gg_iconst K (v := 0) dX1_corrections_34 (by decide) ?_
    exact J false (ft_iff (fun z => bP_nf h20 z.2.2.2.1))
  refine gg_iload K dX1_corrections_23 rfl ?_
  refine gg_iload K dX1_corrections_25 rfl ?_
  refine gg_icmp_lt K (tgt := 34) dX1_corrections_27 (by decide) (fun h27 => ?_) (fun h27 => ?_)
  · refine gg_iconst K (v := 0) dX1_corrections_34 (by decide) ?_
    exact J false (ft_iff (fun z => z.2.2.2.2 h27))
  · refine gg_iconst K (v := 1) dX1_corrections_30 (by decide) ?_
    refine gg_goto K (tgt := 35) dX1_corrections_31 (by decide) ?_
    exact J true (tt_iff ⟨(bP_iff.mp h5).1, (bP_iff.mp h5).2, bP_iff.mp h12, bP_iff.mp h20, h27⟩)
def mPostF (Z : ZT) (Y : MT) (S : STf) : Option Value → va_W → Prop := fun ret u => ∃ (c : Int32) (r : UInt32) (k' : Nat → Int32) (T' : Nat) (rf rb re : Int32), ret = some (.float r) ∧ u = wM Z Y k' c (nI T') rf rb re ∧ S c r (vM k' T') T'
set_option maxRecDepth 100000 in
theorem m_average {l : Launch} {Z : ZT} {Y : MT} {k : Nat → Int32} {th rf rb re : Int32} {T : Nat} (hT : T < 60) (hv : valOk (vM k T) T) {y q : Int32} : mA l Z.1 (ty3 Z) yX1_average cX1_average 8 (some .float) (rmk 9 200 0 0) (wM Z Y k th (nI T) rf rb re) [.ref Y.1, .int y, .int q] (mPostF Z Y (aS (vM k T) T (inR y 8 ∧ inR q 60) (q ≤ nI T) (vM k T (nN q) (nN y)))) := by
  refine mA_intro (own := RX1) [(0, .ref Y.1), (1, .int y), (2, .int q)] (by decide +kernel) rfl rfl rfl rfl ?_
  intro p e s m args below meth c A K hr hin
  have hPP : (inR 0 2 ∧ inR y 8) ↔ inR y 8 := ⟨fun z => z.2, fun z => ⟨inR_of (j := 0) (b := 2) (by omega), z⟩⟩
  refine gg_aload_n K (i := 0) dX1_average_0 rfl rfl ?_
  refine gg_iconst K (v := 0) dX1_average_1 (by decide) ?_
  refine gg_iload_n K (i := 1) dX1_average_2 rfl rfl ?_
  refine gg_callSR K k_X1_X1_isKey m_isKey dX1_average_3 rfl rfl rfl rfl ⟨rfl, rfl⟩ ?_
  refine gg_iload_n K (i := 2) dX1_average_6 rfl rfl ?_
  refine gg_callRM K k_X1_X1_errorOfRecord (m_errR (P := (inR 0 2 ∧ inR y 8)) hT bP_iff rfl) dX1_average_7 rfl rfl rfl rfl ⟨rfl, rfl⟩ ?_
  refine gg_istore_n K (i := 3) dX1_average_10 rfl (by decide) ?_
  refine gg_iconst K (v := 0) dX1_average_11 (by decide) ?_
  refine gg_istore K dX1_average_12 (by decide) ?_
  refine gg_iconst K (v := 0) dX1_average_14 (by decide) ?_
  refine gg_istore K dX1_average_15 (by decide) ?_
  refine gg_iconst K (v := 0) dX1_average_17 (by decide) ?_
  refine gg_istore K dX1_average_18 (by decide) ?_
  by_cases he : eR (inR 0 2 ∧ inR y 8) q T = 0
  rotate_left
  · refine gg_iload K dX1_average_20 rfl ?_
    refine gg_bipush K (v := 60) dX1_average_22 (by decide) ?_
    refine gg_icmp_ge K (tgt := 81) dX1_average_24 (by decide) (fun h24 => ?_) (fun h24 => ?_)
    · exact absurd h24 (by decide)
    refine gg_iload_n K (i := 3) dX1_average_27 rfl rfl ?_
    refine gg_if_ne K (tgt := 81) dX1_average_28 (by decide) (fun h28 => ?_) (fun h28 => ?_)
    rotate_left
    · exact absurd h28 he
    refine gg_aload_n K (i := 0) dX1_average_81 rfl rfl ?_
    refine gg_iload_n K (i := 3) dX1_average_82 rfl rfl ?_
    refine gg_if_le K (tgt := 90) dX1_average_83 (by decide) (fun h83 => ?_) (fun h83 => ?_)
    · exact absurd (eR_le h83) he
    refine gg_iload_n K (i := 3) dX1_average_86 rfl rfl ?_
    refine gg_goto K (tgt := 100) dX1_average_87 (by decide) ?_
    refine gg_callUM K k_X1_X1_holds m_holds dX1_average_100 rfl rfl rfl rfl ⟨rfl, rfl⟩ (fun v9 u h => ?_)
    obtain ⟨rfl, rfl⟩ := h
    refine gg_b_eq K (tgt := 116) dX1_average_103 (by decide) (fun h103 => ?_) (fun h103 => ?_)
    rotate_left
    · exact absurd (bP_iff.mp h103) he
    refine gg_fconst0 K dX1_average_116 ?_
    refine gg_fret K hr dX1_average_117 (Nat.le_of_ble_eq_true rfl) (Nat.le_of_ble_eq_true rfl) ⟨_, _, k, T, rf, rb, re, rfl, rfl, rfl, rfl, ?_⟩
    obtain ⟨-, -, h9⟩ := qS_e (V := vM k T) (r := 0) (r0 := 0) (P1 := inR y 8 ∧ inR q 60) (P2 := q ≤ nI T) he ⟨fun z => ⟨hPP.mpr z.1, z.2⟩, fun z => ⟨z.1.2, z.2⟩⟩ id
    rcases h9 with h9 | h9 | h9
    · exact Or.inl h9
    · exact Or.inr (Or.inl h9)
    · exact absurd h9.2.2.1 he
  obtain ⟨⟨⟨-, h2⟩, h4⟩, h5⟩ := eR_0.mp he
  have ⟨b1, b2⟩ := inR_N (b := 8) h2
  have ⟨q1, q2⟩ := inR_N (b := 60) h4
  have hq := leT q2 q1 hT h5
  have hf : ∀ d, d < 60 → (vM k T (nN q) (nN y)) d = -1 ∨ ∃ j, (vM k T (nN q) (nN y)) d = nI j ∧ j < 100 := fun d hd => (hv (nN q) (nN y) d hq (by omega) hd).elim Or.inl (fun ⟨j, g1, g2, _⟩ => Or.inr ⟨j, g1, g2⟩)
  refine gg_sub (L' := [(6, .int (nI 0)), (5, .int (nI (ctV (vM k T (nN q) (nN y)) 0))), (4, .int (smV (vM k T (nN q) (nN y)) 0)), (3, .int (eR (inR 0 2 ∧ inR y 8) q T)), (0, .ref Y.1), (1, .int y), (2, .int q)]) ⟨rfl, rfl, rfl, rfl, rfl, rfl, rfl, trivial⟩ ?_
  refine gg_loop (fun i w L => ∃ (j : Nat), j + i = 61 ∧ w = wM Z Y k th (nI T) rf rb re ∧ j ≤ 60 ∧ L = [(6, .int (nI j)), (5, .int (nI (ctV (vM k T (nN q) (nN y)) j))), (4, .int (smV (vM k T (nN q) (nN y)) j)), (3, .int (eR (inR 0 2 ∧ inR y 8) q T)), (0, .ref Y.1), (1, .int y), (2, .int q)]) (fun w L h => ?_) (fun i w L h ih => ?_) 61 _ _ ⟨0, rfl, rfl, by omega, rfl⟩
  · obtain ⟨j, hj, -, h2, -⟩ := h
    omega
  obtain ⟨j, hj, rfl, -, rfl⟩ := h
  refine gg_iload K dX1_average_20 rfl ?_
  refine gg_bipush K (v := 60) dX1_average_22 (by decide) ?_
  refine gg_icmp_ge K (tgt := 81) dX1_average_24 (by decide) (fun h24 => ?_) (fun h24 => ?_)
  · have hj2 := i_le (a := 60) h24
    have hj3 : j = 60 := by omega
    subst hj3
    have hle := fb_ct_le (fun d => bP (¬ (vM k T (nN q) (nN y)) d = -1)) 60
    refine gg_aload_n K (i := 0) dX1_average_81 rfl rfl ?_
    refine gg_iload_n K (i := 3) dX1_average_82 rfl rfl ?_
    refine gg_if_le K (tgt := 90) dX1_average_83 (by decide) (fun h83 => ?_) (fun h83 => ?_)
    rotate_left
    · exact absurd (by rw [he]; decide) h83
    refine gg_iload K dX1_average_90 rfl ?_
    refine gg_if_ne K (tgt := 99) dX1_average_92 (by decide) (fun h92 => ?_) (fun h92 => ?_)
    · have hn0 : ¬ ctV (vM k T (nN q) (nN y)) 60 = 0 := fun z => h92 (by rw [z]; rfl)
      have hnn := avF_num hf (n := ctV (vM k T (nN q) (nN y)) 60) (by omega) hle
      refine gg_iconst K (v := 0) dX1_average_99 (by decide) ?_
      refine gg_callUM K k_X1_X1_holds m_holds dX1_average_100 rfl rfl rfl rfl ⟨rfl, rfl⟩ (fun v9 u h => ?_)
      obtain ⟨rfl, rfl⟩ := h
      refine gg_b_eq K (tgt := 116) dX1_average_103 (by decide) (fun h103 => ?_) (fun h103 => ?_)
      · exact absurd rfl (bP_nf h103)
      refine gg_iload K dX1_average_106 rfl ?_
      refine gg_i2f K dX1_average_108 ?_
      refine gg_iload K dX1_average_109 rfl ?_
      refine gg_i2f K dX1_average_111 ?_
      refine gg_fdiv K dX1_average_112 (vf_n32_of hnn) ?_
      refine gg_goto K (tgt := 117) dX1_average_113 (by decide) ?_
      exact gg_fret K hr dX1_average_117 (Nat.le_of_ble_eq_true rfl) (Nat.le_of_ble_eq_true rfl) ⟨0, _, k, T, rf, rb, re, rfl, rfl, rfl, rfl, Or.inr (Or.inr (Or.inr ⟨⟨h2, h4⟩, h5, hn0, rfl, rfl⟩))⟩
    · have hn0 : ctV (vM k T (nN q) (nN y)) 60 = 0 := i_eq (b := 0) h92 (by unfold ctV; omega)
      refine gg_iconst K (v := 3) dX1_average_95 (by decide) ?_
      refine gg_goto K (tgt := 100) dX1_average_96 (by decide) ?_
      refine gg_callUM K k_X1_X1_holds m_holds dX1_average_100 rfl rfl rfl rfl ⟨rfl, rfl⟩ (fun v9 u h => ?_)
      obtain ⟨rfl, rfl⟩ := h
      refine gg_b_eq K (tgt := 116) dX1_average_103 (by decide) (fun h103 => ?_) (fun h103 => ?_)
      rotate_left
      · exact absurd (bP_iff.mp h103) (by decide)
      refine gg_fconst0 K dX1_average_116 ?_
      exact gg_fret K hr dX1_average_117 (Nat.le_of_ble_eq_true rfl) (Nat.le_of_ble_eq_true rfl) ⟨3, _, k, T, rf, rb, re, rfl, rfl, rfl, rfl, Or.inr (Or.inr (Or.inl ⟨⟨h2, h4⟩, h5, hn0, rfl⟩))⟩
  have hj2 := i_nle (a := 60) h24
  refine gg_iload_n K (i := 3) dX1_average_27 rfl rfl ?_
  refine gg_if_ne K (tgt := 81) dX1_average_28 (by decide) (fun h28 => ?_) (fun h28 => ?_)
  · exact absurd he h28
  refine gg_aload_n K (i := 0) dX1_average_31 rfl rfl ?_
  refine gg_iload_n K (i := 2) dX1_average_32 rfl rfl ?_
  refine gg_iconst K (v := 0) dX1_average_33 (by decide) ?_
  refine gg_iload_n K (i := 1) dX1_average_34 rfl rfl ?_
  refine gg_iload K dX1_average_35 rfl ?_
  refine gg_callRM K k_X1_X1_of (m_of (nN q) 0 (nN y) j hT hq (by omega) b1 hj2 q2 rfl b2 rfl) dX1_average_37 rfl rfl rfl rfl ⟨rfl, rfl⟩ ?_
  rw [show 0 * 8 + nN y = nN y by omega]
  refine gg_istore K dX1_average_40 (by decide) ?_
  refine gg_iload K dX1_average_42 rfl ?_
  refine gg_iload K dX1_average_44 rfl ?_
  refine gg_iconst K (v := (-1)) dX1_average_46 (by decide) ?_
  refine gg_icmp_ne K (tgt := 54) dX1_average_47 (by decide) (fun h47 => ?_) (fun h47 => ?_)
  · refine gg_iload K dX1_average_54 rfl ?_
    refine gg_iadd K dX1_average_56 ?_
    refine gg_top (y := smV (vM k T (nN q) (nN y)) (j + 1)) (if_neg h47).symm ?_
    refine gg_istore K dX1_average_57 (by decide) ?_
    refine gg_iload K dX1_average_59 rfl ?_
    refine gg_iload K dX1_average_61 rfl ?_
    refine gg_iconst K (v := (-1)) dX1_average_63 (by decide) ?_
    refine gg_icmp_ne K (tgt := 71) dX1_average_64 (by decide) (fun h64 => ?_) (fun h64 => ?_)
    · refine gg_iconst K (v := 1) dX1_average_71 (by decide) ?_
      refine gg_iadd K dX1_average_72 ?_
      refine gg_top (y := nI (ctV (vM k T (nN q) (nN y)) (j + 1))) (by rw [show ctV (vM k T (nN q) (nN y)) (j + 1) = ctV (vM k T (nN q) (nN y)) j + 1 by unfold ctV; rw [fb_ct_succ, bP_t h64]; rfl]; exact nI_add _ 1) ?_
      refine gg_istore K dX1_average_73 (by decide) ?_
      refine gg_iinc K (v := nI (j + 1)) dX1_average_75 rfl (nI_inc (j)) (by decide) ?_
      refine gg_goto K (tgt := 20) dX1_average_78 (by decide) ?_
      refine gg_sub (L' := [(6, .int (nI (j + 1))), (5, .int (nI (ctV (vM k T (nN q) (nN y)) (j + 1)))), (4, .int (smV (vM k T (nN q) (nN y)) (j + 1))), (3, .int (eR (inR 0 2 ∧ inR y 8) q T)), (0, .ref Y.1), (1, .int y), (2, .int q)]) ⟨rfl, rfl, rfl, rfl, rfl, rfl, rfl, trivial⟩ ?_
      exact ih _ _ ⟨j + 1, by omega, rfl, by omega, rfl⟩
    · exact absurd h64 h47
  · refine gg_iconst K (v := 0) dX1_average_50 (by decide) ?_
    refine gg_goto K (tgt := 56) dX1_average_51 (by decide) ?_
    refine gg_iadd K dX1_average_56 ?_
    refine gg_top (y := smV (vM k T (nN q) (nN y)) (j + 1)) ((Int32.add_zero _).trans (if_pos h47).symm) ?_
    refine gg_istore K dX1_average_57 (by decide) ?_
    refine gg_iload K dX1_average_59 rfl ?_
    refine gg_iload K dX1_average_61 rfl ?_
    refine gg_iconst K (v := (-1)) dX1_average_63 (by decide) ?_
    refine gg_icmp_ne K (tgt := 71) dX1_average_64 (by decide) (fun h64 => ?_) (fun h64 => ?_)
    · exact absurd h47 h64
    · refine gg_iconst K (v := 0) dX1_average_67 (by decide) ?_
      refine gg_goto K (tgt := 72) dX1_average_68 (by decide) ?_
      refine gg_iadd K dX1_average_72 ?_
      refine gg_top (y := nI (ctV (vM k T (nN q) (nN y)) (j + 1))) (by rw [show ctV (vM k T (nN q) (nN y)) (j + 1) = ctV (vM k T (nN q) (nN y)) j by unfold ctV; rw [fb_ct_succ, bP_f (fun z => z h47)]; rfl]; exact Int32.add_zero _) ?_
      refine gg_istore K dX1_average_73 (by decide) ?_
      refine gg_iinc K (v := nI (j + 1)) dX1_average_75 rfl (nI_inc (j)) (by decide) ?_
      refine gg_goto K (tgt := 20) dX1_average_78 (by decide) ?_
      refine gg_sub (L' := [(6, .int (nI (j + 1))), (5, .int (nI (ctV (vM k T (nN q) (nN y)) (j + 1)))), (4, .int (smV (vM k T (nN q) (nN y)) (j + 1))), (3, .int (eR (inR 0 2 ∧ inR y 8) q T)), (0, .ref Y.1), (1, .int y), (2, .int q)]) ⟨rfl, rfl, rfl, rfl, rfl, rfl, rfl, trivial⟩ ?_
      exact ih _ _ ⟨j + 1, by omega, rfl, by omega, rfl⟩
