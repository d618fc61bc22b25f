/-! the model: the changes -/
/-- references hold today -/
def refOk (V : VT) (T : Nat) : Prop := ∀ i d, i < 8 → d < 60 → V T (8 + i) d = -1 ∨ ∃ j, V T (8 + i) d = nI j ∧ j < 8 ∧ ¬ V T j d = -1
theorem keep_iff {V : VT} {T t9 y9 : Nat} {v f q : Int32} (hro : refOk V T) (ht9 : t9 < 2) (hy9 : y9 < 8) (hq : nN q ≤ 60) : (∀ d, nN f ≤ d → d < nN q → mayP V T t9 (nI y9) v d) ↔ keepP V T (spG V T (t9 * 8 + y9) v f q) t9 y9 := by
  constructor
  · intro h d hd
    unfold spG
    by_cases hc : nN f ≤ d ∧ d < nN q
    · rw [if_pos hc]
      exact h d hc.1 hc.2
    · rw [if_neg hc]
      constructor
      · intro t0 hm hr
        obtain ⟨i, i1, i2⟩ := hr
        rw [t0, show 0 * 8 + y9 = y9 by omega] at hm
        rcases hro i d i1 hd with g | ⟨j, g1, g2, g3⟩
        · rw [g] at i2
          exact nI_m1 (by omega) i2.symm
        · rw [g1] at i2
          have := i_eq i2
          rw [this] at g3
          exact g3 hm
      · intro t1 hm
        rw [t1, show 1 * 8 + y9 = 8 + y9 by omega] at hm ⊢
        obtain ⟨j, g1, g2, g3⟩ := (hro y9 d hy9 hd).resolve_left hm
        rw [g1, nI_clamp (by omega)]
        exact g3
  · intro h d h1 h2
    have h3 := h d (by omega)
    unfold spG at h3
    rw [if_pos ⟨h1, h2⟩] at h3
    exact h3
theorem ct_span {V : VT} {T li : Nat} {v f q : Int32} (hfq : nN f ≤ nN q) (hq : nN q ≤ 60) : fb_ct (fun i => bP (¬ V T li (nN f + i) = v)) (nN q - nN f) = fb_ct (fun d => bP (¬ V T li d = spG V T li v f q d)) 60 := by
  have h0 : fb_ct (fun d => bP (¬ V T li d = spG V T li v f q d)) (nN f) = 0 := fb_ct_zero.mpr (fun d hd => bP_f (fun z => z (if_neg (by omega)).symm))
  have h1 := fb_ct_split (fun d => bP (¬ V T li d = spG V T li v f q d)) (nN f) (nN q - nN f)
  rw [show nN f + (nN q - nN f) = nN q by omega] at h1
  have h2 := fb_ct_flat (q := fun d => bP (¬ V T li d = spG V T li v f q d)) (a := nN q) (n := 60 - nN q) (fun d g1 g2 => bP_f (fun z => z (if_neg (by omega)).symm))
  rw [show nN q + (60 - nN q) = 60 by omega] at h2
  rw [h2, h1, h0, Nat.zero_add]
  exact fb_ct_cong (fun i hi => by
    have : spG V T li v f q (nN f + i) = v := if_pos ⟨by omega, by omega⟩
    rw [this])
theorem updR_span {V : VT} {T li : Nat} {v f q : Int32} (hq : nN q ≤ 60) (hcl : ∀ d, 60 ≤ d → V T li d = -1) : updR V T li (fun _ => v) (nN f) (nN q) = updR V T li (spG V T li v f q) 0 60 := by
  funext r l d
  unfold updR spG
  by_cases h1 : r = T ∧ l = li ∧ nN f ≤ d ∧ d < nN q
  · rw [if_pos h1, if_pos ⟨h1.1, h1.2.1, by omega, by omega⟩, if_pos h1.2.2]
  · rw [if_neg h1]
    by_cases h2 : r = T ∧ l = li ∧ 0 ≤ d ∧ d < 60
    · obtain ⟨rfl, rfl, h3, h4⟩ := h2
      rw [if_pos ⟨rfl, rfl, h3, h4⟩, if_neg (fun z => h1 ⟨rfl, rfl, z⟩)]
    · rw [if_neg h2]
theorem vM_60 {k : Nat → Int32} {T r l d : Nat} (h : 60 ≤ d) : vM k T r l d = -1 := if_neg (by omega)
theorem vM_16 {k : Nat → Int32} {T r l d : Nat} (h : 16 ≤ l) : vM k T r l d = -1 := if_neg (by omega)
set_option maxRecDepth 100000 in
theorem m_put {l : Launch} {Z : ZT} {Y : MT} {k : Nat → Int32} {th rf rb re : Int32} {T : Nat} (hT : T < 60) (hro : refOk (vM k T) T) {t y v f q : Int32} : mA l Z.1 (ty3 Z) yX1_put cX1_put 7 (some .int) (rmk 9 200 0 0) (wM Z Y k th (nI T) rf rb re) [.ref Y.1, .int t, .int y, .int v, .int f, .int q] (mPost Z Y (sSet (vM k T) T (inR t 2 ∧ inR y 8 ∧ inR v (if t = 0 then 100 else 8) ∧ spanR f q) True (keepP (vM k T) T (spG (vM k T) T (nN t * 8 + nN y) v f q) (nN t) (nN y)) 2 (nN t * 8 + nN y) (spG (vM k T) T (nN t * 8 + nN y) v f q))) := by
  refine mA_intro (own := RX1) [(0, .ref Y.1), (1, .int t), (2, .int y), (3, .int v), (4, .int f), (5, .int q)] (by decide +kernel) rfl rfl rfl rfl ?_
  intro p e s m args below meth c A K hr hin
  refine gg_cut (inR t 2 ∧ inR y 8 ∧ inR v (if t = 0 then 100 else 8) ∧ spanR f q) 42 [(0, .ref Y.1), (1, .int t), (2, .int y), (3, .int v), (4, .int f), (5, .int q)] [] (fun b hb => ?_) (fun J => ?_)
  · refine gg_istore K dX1_put_42 (by decide) ?_
    refine gg_aload_n K (i := 0) dX1_put_44 rfl rfl ?_
    refine gg_iload K dX1_put_45 rfl ?_
    refine gg_b_ne K (tgt := 54) dX1_put_47 (by decide) (fun h47 => ?_) (fun h47 => ?_)
    rotate_left
    · refine gg_iconst K (v := 1) dX1_put_50 (by decide) ?_
      refine gg_goto K (tgt := 73) dX1_put_51 (by decide) ?_
      refine gg_callUM K k_X1_X1_holds m_holds dX1_put_73 rfl rfl rfl rfl ⟨rfl, rfl⟩ (fun v9 u h => ?_)
      obtain ⟨rfl, rfl⟩ := h
      refine gg_b_eq K (tgt := 93) dX1_put_76 (by decide) (fun h76 => ?_) (fun h76 => ?_)
      rotate_left
      · exact absurd (bP_iff.mp h76) (by decide)
      refine gg_iconst K (v := 0) dX1_put_93 (by decide) ?_
      exact gg_iret K hr dX1_put_94 (Nat.le_of_ble_eq_true rfl) (Nat.le_of_ble_eq_true rfl) ⟨1, 0, k, T, rf, rb, re, rfl, rfl, rfl, Or.inl ⟨fun z => (by have := hb.mpr z; rw [h47] at this; cases this), rfl, rfl⟩⟩
    have hP := hb.mp h47
    obtain ⟨h1, h2, h3, h4⟩ := id hP
    have ⟨a1, a2⟩ := inR_N (b := 2) h1
    have ⟨b1, b2⟩ := inR_N (b := 8) h2
    have ⟨f1, f2, f3, f4, f5⟩ := spanR_N h4
    have hki := keep_iff (V := vM k T) (v := v) (f := f) hro a1 b1 f4
    refine gg_aload_n K (i := 0) dX1_put_54 rfl rfl ?_
    refine gg_iload_n K (i := 1) dX1_put_55 rfl rfl ?_
    refine gg_iload_n K (i := 2) dX1_put_56 rfl rfl ?_
    refine gg_iload_n K (i := 3) dX1_put_57 rfl rfl ?_
    refine gg_iload K dX1_put_58 rfl ?_
    refine gg_iload K dX1_put_60 rfl ?_
    refine gg_callRM K k_X1_X1_mayAll (m_mayAll (nN t) hT a1 h4 (fun t1 => ?_) a2) dX1_put_62 rfl rfl rfl rfl ⟨rfl, rfl⟩ ?_
    · have hne : ¬ t = 0 := fun z => by rw [z] at t1; exact absurd t1 (by decide)
      rw [if_neg hne] at h3
      have ⟨c1, c2⟩ := inR_N (b := 8) h3
      exact Or.inr ⟨nN v, c2, c1⟩
    refine gg_b_eq K (tgt := 72) dX1_put_65 (by decide) (fun h65 => ?_) (fun h65 => ?_)
    · refine gg_iconst K (v := 2) dX1_put_72 (by decide) ?_
      refine gg_callUM K k_X1_X1_holds m_holds dX1_put_73 rfl rfl rfl rfl ⟨rfl, rfl⟩ (fun v9 u h => ?_)
      obtain ⟨rfl, rfl⟩ := h
      refine gg_b_eq K (tgt := 93) dX1_put_76 (by decide) (fun h76 => ?_) (fun h76 => ?_)
      rotate_left
      · exact absurd (bP_iff.mp h76) (by decide)
      refine gg_iconst K (v := 0) dX1_put_93 (by decide) ?_
      refine gg_iret K hr dX1_put_94 (Nat.le_of_ble_eq_true rfl) (Nat.le_of_ble_eq_true rfl) ⟨2, 0, k, T, rf, rb, re, rfl, rfl, rfl, Or.inr (Or.inr (Or.inl ⟨hP, trivial, fun z => bP_nf h65 ?_, rfl, rfl⟩))⟩
      rw [b2]
      exact hki.mpr z
    · refine gg_iconst K (v := 0) dX1_put_68 (by decide) ?_
      refine gg_goto K (tgt := 73) dX1_put_69 (by decide) ?_
      refine gg_callUM K k_X1_X1_holds m_holds dX1_put_73 rfl rfl rfl rfl ⟨rfl, rfl⟩ (fun v9 u h => ?_)
      obtain ⟨rfl, rfl⟩ := h
      refine gg_b_eq K (tgt := 93) dX1_put_76 (by decide) (fun h76 => ?_) (fun h76 => ?_)
      · exact absurd rfl (bP_nf h76)
      refine gg_aload_n K (i := 0) dX1_put_79 rfl rfl ?_
      refine gg_iload_n K (i := 1) dX1_put_80 rfl rfl ?_
      refine gg_iload_n K (i := 2) dX1_put_81 rfl rfl ?_
      refine gg_iload_n K (i := 3) dX1_put_82 rfl rfl ?_
      refine gg_iload K dX1_put_83 rfl ?_
      refine gg_iload K dX1_put_85 rfl ?_
      refine gg_callUM K k_X1_X1_setsAll (m_setsAll (nN t) (nN y) hT a1 b1 h4 a2 b2) dX1_put_87 rfl rfl rfl rfl ⟨rfl, rfl⟩ (fun v9 u h => ?_)
      obtain ⟨rfl, k', rfl, hk⟩ := h
      refine gg_goto K (tgt := 94) dX1_put_90 (by decide) ?_
      refine gg_iret K hr dX1_put_94 (Nat.le_of_ble_eq_true rfl) (Nat.le_of_ble_eq_true rfl) ⟨0, _, k', T, rf, rb, re, rfl, rfl, rfl, Or.inr (Or.inr (Or.inr ⟨hP, trivial, ?_, rfl, by rw [ct_span (by omega) f4], ?_⟩))⟩
      · have h9 := bP_iff.mp h65
        rw [b2] at h9
        exact hki.mp h9
      · rw [hk]; exact updR_span f4 (fun d hd => vM_60 hd)
  refine gg_iload_n K (i := 1) dX1_put_0 rfl rfl ?_
  refine gg_iload_n K (i := 2) dX1_put_1 rfl rfl ?_
  refine gg_callSR K k_X1_X1_isKey m_isKey dX1_put_2 rfl rfl rfl rfl ⟨rfl, rfl⟩ ?_
  refine gg_b_eq K (tgt := 41) dX1_put_5 (by decide) (fun h5 => ?_) (fun h5 => ?_)
  · refine gg_iconst K (v := 0) dX1_put_41 (by decide) ?_
    exact J false (ft_iff (fun z => bP_nf h5 ⟨z.1, z.2.1⟩))
  have tail : inR v (if t = 0 then 100 else 8) → gg p l e (rmk 9 200 0 0) s m args below meth c Z.1 A 7 0 0 (MQ below (qA Z.1 (ty3 Z) A (mPost Z Y (sSet (vM k T) T (inR t 2 ∧ inR y 8 ∧ inR v (if t = 0 then 100 else 8) ∧ spanR f q) True (keepP (vM k T) T (spG (vM k T) T (nN t * 8 + nN y) v f q) (nN t) (nN y)) 2 (nN t * 8 + nN y) (spG (vM k T) T (nN t * 8 + nN y) v f q)))) args s (rmk 9 200 0 0).cells (rmk 9 200 0 0).slots A) (wM Z Y k th (nI T) rf rb re) 27 [(0, .ref Y.1), (1, .int t), (2, .int y), (3, .int v), (4, .int f), (5, .int q)] [] := fun hv => by
    refine gg_iload K dX1_put_27 rfl ?_
    refine gg_iload K dX1_put_29 rfl ?_
    refine gg_callSR K k_X1_X1_isSpan m_isSpan dX1_put_31 rfl rfl rfl rfl ⟨rfl, rfl⟩ ?_
    refine gg_b_eq K (tgt := 41) dX1_put_34 (by decide) (fun h34 => ?_) (fun h34 => ?_)
    · refine gg_iconst K (v := 0) dX1_put_41 (by decide) ?_
      exact J false (ft_iff (fun z => bP_nf h34 z.2.2.2))
    · refine gg_iconst K (v := 1) dX1_put_37 (by decide) ?_
      refine gg_goto K (tgt := 42) dX1_put_38 (by decide) ?_
      exact J true (tt_iff ⟨(bP_iff.mp h5).1, (bP_iff.mp h5).2, hv, bP_iff.mp h34⟩)
  refine gg_iload_n K (i := 3) dX1_put_8 rfl rfl ?_
  refine gg_iconst K (v := 0) dX1_put_9 (by decide) ?_
  refine gg_iload_n K (i := 1) dX1_put_10 rfl rfl ?_
  refine gg_if_ne K (tgt := 19) dX1_put_11 (by decide) (fun h11 => ?_) (fun h11 => ?_)
  · refine gg_bipush K (v := 7) dX1_put_19 (by decide) ?_
    refine gg_callSR K k_X1_X1_in m_in dX1_put_21 rfl rfl rfl rfl ⟨rfl, rfl⟩ ?_
    refine gg_b_eq K (tgt := 41) dX1_put_24 (by decide) (fun h24 => ?_) (fun h24 => ?_)
    · refine gg_iconst K (v := 0) dX1_put_41 (by decide) ?_
      exact J false (ft_iff (fun z => by
        have := z.2.2.1
        rw [if_neg h11] at this
        exact bP_nf h24 ((in_R (b := 8) (by omega)).mpr this)))
    · exact tail (by rw [if_neg h11]; exact (in_R (b := 8) (by omega)).mp (bP_iff.mp h24))
  · refine gg_bipush K (v := 99) dX1_put_14 (by decide) ?_
    refine gg_goto K (tgt := 21) dX1_put_16 (by decide) ?_
    refine gg_callSR K k_X1_X1_in m_in dX1_put_21 rfl rfl rfl rfl ⟨rfl, rfl⟩ ?_
    refine gg_b_eq K (tgt := 41) dX1_put_24 (by decide) (fun h24 => ?_) (fun h24 => ?_)
    · refine gg_iconst K (v := 0) dX1_put_41 (by decide) ?_
      exact J false (ft_iff (fun z => by
        have := z.2.2.1
        rw [if_pos h11] at this
        exact bP_nf h24 ((in_R (b := 100) (by omega)).mpr this)))
    · exact tail (by rw [if_pos h11]; exact (in_R (b := 100) (by omega)).mp (bP_iff.mp h24))
set_option maxRecDepth 100000 in
theorem m_erase {l : Launch} {Z : ZT} {Y : MT} {k : Nat → Int32} {th rf rb re : Int32} {T : Nat} (hT : T < 60) (hro : refOk (vM k T) T) {t y f q : Int32} : mA l Z.1 (ty3 Z) yX1_erase cX1_erase 6 (some .int) (rmk 9 200 0 0) (wM Z Y k th (nI T) rf rb re) [.ref Y.1, .int t, .int y, .int f, .int q] (mPost Z Y (sSet (vM k T) T (inR t 2 ∧ inR y 8 ∧ spanR f q) True (keepP (vM k T) T (spG (vM k T) T (nN t * 8 + nN y) (-1) f q) (nN t) (nN y)) 2 (nN t * 8 + nN y) (spG (vM k T) T (nN t * 8 + nN y) (-1) f q))) := by
  refine mA_intro (own := RX1) [(0, .ref Y.1), (1, .int t), (2, .int y), (3, .int f), (4, .int q)] (by decide +kernel) rfl rfl rfl rfl ?_
  intro p e s m args below meth c A K hr hin
  refine gg_cut (inR t 2 ∧ inR y 8 ∧ spanR f q) 22 [(0, .ref Y.1), (1, .int t), (2, .int y), (3, .int f), (4, .int q)] [] (fun b hb => ?_) (fun J => ?_)
  · refine gg_istore K dX1_erase_22 (by decide) ?_
    refine gg_aload_n K (i := 0) dX1_erase_24 rfl rfl ?_
    refine gg_iload K dX1_erase_25 rfl ?_
    refine gg_b_ne K (tgt := 34) dX1_erase_27 (by decide) (fun h27 => ?_) (fun h27 => ?_)
    rotate_left
    · refine gg_iconst K (v := 1) dX1_erase_30 (by decide) ?_
      refine gg_goto K (tgt := 52) dX1_erase_31 (by decide) ?_
      refine gg_callUM K k_X1_X1_holds m_holds dX1_erase_52 rfl rfl rfl rfl ⟨rfl, rfl⟩ (fun v9 u h => ?_)
      obtain ⟨rfl, rfl⟩ := h
      refine gg_b_eq K (tgt := 71) dX1_erase_55 (by decide) (fun h55 => ?_) (fun h55 => ?_)
      rotate_left
      · exact absurd (bP_iff.mp h55) (by decide)
      refine gg_iconst K (v := 0) dX1_erase_71 (by decide) ?_
      exact gg_iret K hr dX1_erase_72 (Nat.le_of_ble_eq_true rfl) (Nat.le_of_ble_eq_true rfl) ⟨1, 0, k, T, rf, rb, re, rfl, rfl, rfl, Or.inl ⟨fun z => (by have := hb.mpr z; rw [h27] at this; cases this), rfl, rfl⟩⟩
    have hP := hb.mp h27
    obtain ⟨h1, h2, h4⟩ := id hP
    have ⟨a1, a2⟩ := inR_N (b := 2) h1
    have ⟨b1, b2⟩ := inR_N (b := 8) h2
    have ⟨f1, f2, f3, f4, f5⟩ := spanR_N h4
    have hki := keep_iff (V := vM k T) (v := -1) (f := f) hro a1 b1 f4
    refine gg_aload_n K (i := 0) dX1_erase_34 rfl rfl ?_
    refine gg_iload_n K (i := 1) dX1_erase_35 rfl rfl ?_
    refine gg_iload_n K (i := 2) dX1_erase_36 rfl rfl ?_
    refine gg_iconst K (v := (-1)) dX1_erase_37 (by decide) ?_
    refine gg_iload_n K (i := 3) dX1_erase_38 rfl rfl ?_
    refine gg_iload K dX1_erase_39 rfl ?_
    refine gg_callRM K k_X1_X1_mayAll (m_mayAll (nN t) hT a1 h4 (fun t1 => Or.inl rfl) a2) dX1_erase_41 rfl rfl rfl rfl ⟨rfl, rfl⟩ ?_
    refine gg_b_eq K (tgt := 51) dX1_erase_44 (by decide) (fun h44 => ?_) (fun h44 => ?_)
    · refine gg_iconst K (v := 2) dX1_erase_51 (by decide) ?_
      refine gg_callUM K k_X1_X1_holds m_holds dX1_erase_52 rfl rfl rfl rfl ⟨rfl, rfl⟩ (fun v9 u h => ?_)
      obtain ⟨rfl, rfl⟩ := h
      refine gg_b_eq K (tgt := 71) dX1_erase_55 (by decide) (fun h55 => ?_) (fun h55 => ?_)
      rotate_left
      · exact absurd (bP_iff.mp h55) (by decide)
      refine gg_iconst K (v := 0) dX1_erase_71 (by decide) ?_
      refine gg_iret K hr dX1_erase_72 (Nat.le_of_ble_eq_true rfl) (Nat.le_of_ble_eq_true rfl) ⟨2, 0, k, T, rf, rb, re, rfl, rfl, rfl, Or.inr (Or.inr (Or.inl ⟨hP, trivial, fun z => bP_nf h44 ?_, rfl, rfl⟩))⟩
      rw [b2]
      exact hki.mpr z
    · refine gg_iconst K (v := 0) dX1_erase_47 (by decide) ?_
      refine gg_goto K (tgt := 52) dX1_erase_48 (by decide) ?_
      refine gg_callUM K k_X1_X1_holds m_holds dX1_erase_52 rfl rfl rfl rfl ⟨rfl, rfl⟩ (fun v9 u h => ?_)
      obtain ⟨rfl, rfl⟩ := h
      refine gg_b_eq K (tgt := 71) dX1_erase_55 (by decide) (fun h55 => ?_) (fun h55 => ?_)
      · exact absurd rfl (bP_nf h55)
      refine gg_aload_n K (i := 0) dX1_erase_58 rfl rfl ?_
      refine gg_iload_n K (i := 1) dX1_erase_59 rfl rfl ?_
      refine gg_iload_n K (i := 2) dX1_erase_60 rfl rfl ?_
      refine gg_iconst K (v := (-1)) dX1_erase_61 (by decide) ?_
      refine gg_iload_n K (i := 3) dX1_erase_62 rfl rfl ?_
      refine gg_iload K dX1_erase_63 rfl ?_
      refine gg_callUM K k_X1_X1_setsAll (m_setsAll (nN t) (nN y) hT a1 b1 h4 a2 b2) dX1_erase_65 rfl rfl rfl rfl ⟨rfl, rfl⟩ (fun v9 u h => ?_)
      obtain ⟨rfl, k', rfl, hk⟩ := h
      refine gg_goto K (tgt := 72) dX1_erase_68 (by decide) ?_
      refine gg_iret K hr dX1_erase_72 (Nat.le_of_ble_eq_true rfl) (Nat.le_of_ble_eq_true rfl) ⟨0, _, k', T, rf, rb, re, rfl, rfl, rfl, Or.inr (Or.inr (Or.inr ⟨hP, trivial, ?_, rfl, by rw [ct_span (by omega) f4], ?_⟩))⟩
      · have h9 := bP_iff.mp h44
        rw [b2] at h9
        exact hki.mp h9
      · rw [hk]; exact updR_span f4 (fun d hd => vM_60 hd)
  refine gg_iload_n K (i := 1) dX1_erase_0 rfl rfl ?_
  refine gg_iload_n K (i := 2) dX1_erase_1 rfl rfl ?_
  refine gg_callSR K k_X1_X1_isKey m_isKey dX1_erase_2 rfl rfl rfl rfl ⟨rfl, rfl⟩ ?_
  refine gg_b_eq K (tgt := 21) dX1_erase_5 (by decide) (fun h5 => ?_) (fun h5 => ?_)
  · refine gg_iconst K (v := 0) dX1_erase_21 (by decide) ?_
    exact J false (ft_iff (fun z => bP_nf h5 ⟨z.1, z.2.1⟩))
  refine gg_iload_n K (i := 3) dX1_erase_8 rfl rfl ?_
  refine gg_iload K dX1_erase_9 rfl ?_
  refine gg_callSR K k_X1_X1_isSpan m_isSpan dX1_erase_11 rfl rfl rfl rfl ⟨rfl, rfl⟩ ?_
  refine gg_b_eq K (tgt := 21) dX1_erase_14 (by decide) (fun h14 => ?_) (fun h14 => ?_)
  · refine gg_iconst K (v := 0) dX1_erase_21 (by decide) ?_
    exact J false (ft_iff (fun z => bP_nf h14 z.2.2))
  · refine gg_iconst K (v := 1) dX1_erase_17 (by decide) ?_
    refine gg_goto K (tgt := 22) dX1_erase_18 (by decide) ?_
    exact J true (tt_iff ⟨(bP_iff.mp h5).1, (bP_iff.mp h5).2, bP_iff.mp h14⟩)
set_option maxRecDepth 100000 in
theorem m_restore {l : Launch} {Z : ZT} {Y : MT} {k : Nat → Int32} {th rf rb re : Int32} {T : Nat} (hT : T < 60) (hv : valOk (vM k T) T) {t y q : Int32} : mA l Z.1 (ty3 Z) yX1_restore cX1_restore 7 (some .int) (rmk 9 200 0 0) (wM Z Y k th (nI T) rf rb re) [.ref Y.1, .int t, .int y, .int q] (mPost Z Y (sSet (vM k T) T (inR t 2 ∧ inR y 8 ∧ inR q 60) (q ≤ nI T) (keepP (vM k T) T (vM k T (nN q) (nN t * 8 + nN y)) (nN t) (nN y)) 3 (nN t * 8 + nN y) (vM k T (nN q) (nN t * 8 + nN y)))) := by
  refine mA_intro (own := RX1) [(0, .ref Y.1), (1, .int t), (2, .int y), (3, .int q)] (by decide +kernel) rfl rfl rfl rfl ?_
  intro p e s m args below meth c A K hr hin
  refine gg_aload_n K (i := 0) dX1_restore_0 rfl rfl ?_
  refine gg_iload_n K (i := 1) dX1_restore_1 rfl rfl ?_
  refine gg_iload_n K (i := 2) dX1_restore_2 rfl rfl ?_
  refine gg_callSR K k_X1_X1_isKey m_isKey dX1_restore_3 rfl rfl rfl rfl ⟨rfl, rfl⟩ ?_
  refine gg_iload_n K (i := 3) dX1_restore_6 rfl rfl ?_
  refine gg_callRM K k_X1_X1_errorOfRecord (m_errR (P := (inR t 2 ∧ inR y 8)) hT bP_iff rfl) dX1_restore_7 rfl rfl rfl rfl ⟨rfl, rfl⟩ ?_
  refine gg_istore K dX1_restore_10 (by decide) ?_
  refine gg_iconst K (v := 0) dX1_restore_12 (by decide) ?_
  refine gg_istore K dX1_restore_13 (by decide) ?_
  by_cases he : eR (inR t 2 ∧ inR y 8) q T = 0
  rotate_left
  · refine gg_iload K dX1_restore_15 rfl ?_
    refine gg_bipush K (v := 60) dX1_restore_17 (by decide) ?_
    refine gg_icmp_ge K (tgt := 60) dX1_restore_19 (by decide) (fun h19 => ?_) (fun h19 => ?_)
    · exact absurd h19 (by decide)
    refine gg_iload K dX1_restore_22 rfl ?_
    refine gg_if_ne K (tgt := 60) dX1_restore_24 (by decide) (fun h24 => ?_) (fun h24 => ?_)
    rotate_left
    · exact absurd h24 he
    refine gg_aload_n K (i := 0) dX1_restore_60 rfl rfl ?_
    refine gg_iload K dX1_restore_61 rfl ?_
    refine gg_callUM K k_X1_X1_holds m_holds dX1_restore_63 rfl rfl rfl rfl ⟨rfl, rfl⟩ (fun v9 u h => ?_)
    obtain ⟨rfl, rfl⟩ := h
    refine gg_b_ne K (tgt := 71) dX1_restore_66 (by decide) (fun h66 => ?_) (fun h66 => ?_)
    · exact absurd (bP_iff.mp h66) he
    refine gg_iconst K (v := 0) dX1_restore_69 (by decide) ?_
    refine gg_iret K hr dX1_restore_70 (Nat.le_of_ble_eq_true rfl) (Nat.le_of_ble_eq_true rfl) ⟨_, 0, k, T, rf, rb, re, rfl, rfl, rfl, ?_⟩
    obtain ⟨-, -, h9⟩ := qS_e (V := vM k T) (r := 0) (r0 := 0) (P1 := (inR t 2 ∧ inR y 8 ∧ inR q 60)) (P2 := q ≤ nI T) he ⟨fun z => ⟨⟨z.1, z.2.1⟩, z.2.2⟩, fun z => ⟨z.1.1, z.1.2, z.2⟩⟩ id
    rcases h9 with h9 | h9 | h9
    · exact Or.inl ⟨h9.1, h9.2, rfl⟩
    · exact Or.inr (Or.inl ⟨h9.1, h9.2.1, h9.2.2, rfl⟩)
    · exact absurd h9.2.2.1 he
  obtain ⟨⟨⟨h1, h2⟩, h4⟩, h5⟩ := eR_0.mp he
  have hP : (inR t 2 ∧ inR y 8 ∧ inR q 60) := ⟨h1, h2, h4⟩
  have ⟨a1, a2⟩ := inR_N (b := 2) h1
  have ⟨b1, b2⟩ := inR_N (b := 8) h2
  have ⟨q1, q2⟩ := inR_N (b := 60) h4
  have hq := leT q2 q1 hT h5
  have gv : ∀ d, d < 60 → nN t = 1 → (vM k T (nN q) (nN t * 8 + nN y)) d = -1 ∨ ∃ j, (vM k T (nN q) (nN t * 8 + nN y)) d = nI j ∧ j < 8 := fun d hd t1 => (hv (nN q) (nN t * 8 + nN y) d hq (by omega) hd).elim Or.inl (fun ⟨j, g1, _, g3⟩ => Or.inr ⟨j, g1, g3 (by omega)⟩)
  refine gg_sub (L' := [(5, .int (nI 0)), (4, .int 0), (0, .ref Y.1), (1, .int t), (2, .int y), (3, .int q)]) ⟨rfl, by rw [← he]; rfl, rfl, rfl, rfl, rfl, trivial⟩ ?_
  refine gg_loop (fun i w L => ∃ (j : Nat), j + i = 61 ∧ w = wM Z Y k th (nI T) rf rb re ∧ j ≤ 60 ∧ L = [(5, .int (nI j)), (4, .int 0), (0, .ref Y.1), (1, .int t), (2, .int y), (3, .int q)] ∧ ∀ d, d < j → mayP (vM k T) T (nN t) y ((vM k T (nN q) (nN t * 8 + nN y)) d) d) (fun w L h => ?_) (fun i w L h ih => ?_) 61 _ _ ⟨0, rfl, rfl, by omega, rfl, fun d h => absurd h (by omega)⟩
  · obtain ⟨j, hj, -, h2, -⟩ := h
    omega
  obtain ⟨j, hj, rfl, -, rfl, hmay⟩ := h
  refine gg_iload K dX1_restore_15 rfl ?_
  refine gg_bipush K (v := 60) dX1_restore_17 (by decide) ?_
  refine gg_icmp_ge K (tgt := 60) dX1_restore_19 (by decide) (fun h19 => ?_) (fun h19 => ?_)
  · have hj2 := i_le (a := 60) h19
    have hj3 : j = 60 := by omega
    subst hj3
    have hkeep : keepP (vM k T) T (vM k T (nN q) (nN t * 8 + nN y)) (nN t) (nN y) := fun d hd => ⟨fun g1 g2 => by
      rw [← b2]
      exact (hmay d hd).1 g1 g2, (hmay d hd).2⟩
    refine gg_aload_n K (i := 0) dX1_restore_60 rfl rfl ?_
    refine gg_iload K dX1_restore_61 rfl ?_
    refine gg_callUM K k_X1_X1_holds m_holds dX1_restore_63 rfl rfl rfl rfl ⟨rfl, rfl⟩ (fun v9 u h => ?_)
    obtain ⟨rfl, rfl⟩ := h
    refine gg_b_ne K (tgt := 71) dX1_restore_66 (by decide) (fun h66 => ?_) (fun h66 => ?_)
    rotate_left
    · exact absurd rfl (bP_nf h66)
    refine gg_iconst K (v := 0) dX1_restore_71 (by decide) ?_
    refine gg_istore K dX1_restore_72 (by decide) ?_
    refine gg_iconst K (v := 0) dX1_restore_74 (by decide) ?_
    refine gg_istore K dX1_restore_75 (by decide) ?_
    refine gg_sub (L' := [(6, .int (nI 0)), (5, .int (nI (fb_ct (fun d => bP (¬ vM k T T (nN t * 8 + nN y) d = (vM k T (nN q) (nN t * 8 + nN y)) d)) 0))), (0, .ref Y.1), (1, .int t), (2, .int y), (3, .int q)]) ⟨rfl, rfl, rfl, rfl, rfl, rfl, trivial⟩ ?_
    refine gg_loop (fun i w L => ∃ (j : Nat) (k' : Nat → Int32), j + i = 61 ∧ w = wM Z Y k' 0 (nI T) rf rb re ∧ j ≤ 60 ∧ L = [(6, .int (nI j)), (5, .int (nI (fb_ct (fun d => bP (¬ vM k T T (nN t * 8 + nN y) d = (vM k T (nN q) (nN t * 8 + nN y)) d)) j))), (0, .ref Y.1), (1, .int t), (2, .int y), (3, .int q)] ∧ vM k' T = updR (vM k T) T (nN t * 8 + nN y) (vM k T (nN q) (nN t * 8 + nN y)) 0 j) (fun w L h => ?_) (fun i w L h ih2 => ?_) 61 _ _ ⟨0, k, rfl, rfl, by omega, rfl, (updR_0 _ _ _ _ _).symm⟩
    · obtain ⟨j, k', hj, -, h2, -⟩ := h
      omega
    obtain ⟨j, k', hj, rfl, -, rfl, hk⟩ := h
    refine gg_iload K dX1_restore_77 rfl ?_
    refine gg_bipush K (v := 60) dX1_restore_79 (by decide) ?_
    refine gg_icmp_ge K (tgt := 112) dX1_restore_81 (by decide) (fun h81 => ?_) (fun h81 => ?_)
    · have hj2 := i_le (a := 60) h81
      have hj3 : j = 60 := by omega
      subst hj3
      refine gg_iload K dX1_restore_112 rfl ?_
      exact gg_iret K hr dX1_restore_114 (Nat.le_of_ble_eq_true rfl) (Nat.le_of_ble_eq_true rfl) ⟨0, _, k', T, rf, rb, re, rfl, rfl, rfl, Or.inr (Or.inr (Or.inr ⟨hP, h5, hkeep, rfl, rfl, hk⟩))⟩
    have hj2 := i_nle (a := 60) h81
    refine gg_iload K dX1_restore_84 rfl ?_
    refine gg_aload_n K (i := 0) dX1_restore_86 rfl rfl ?_
    refine gg_iload_n K (i := 1) dX1_restore_87 rfl rfl ?_
    refine gg_iload_n K (i := 2) dX1_restore_88 rfl rfl ?_
    refine gg_aload_n K (i := 0) dX1_restore_89 rfl rfl ?_
    refine gg_iload_n K (i := 3) dX1_restore_90 rfl rfl ?_
    refine gg_iload_n K (i := 1) dX1_restore_91 rfl rfl ?_
    refine gg_iload_n K (i := 2) dX1_restore_92 rfl rfl ?_
    refine gg_iload K dX1_restore_93 rfl ?_
    refine gg_callRM K k_X1_X1_of (m_of (nN q) (nN t) (nN y) j hT hq a1 b1 hj2 q2 a2 b2 rfl) dX1_restore_95 rfl rfl rfl rfl ⟨rfl, rfl⟩ ?_
    refine gg_top (y := (vM k T (nN q) (nN t * 8 + nN y)) j) (by rw [hk]; exact if_neg (by omega)) ?_
    refine gg_iload K dX1_restore_98 rfl ?_
    refine gg_callUM K k_X1_X1_sets (m_sets (nN t) (nN y) j hT a1 b1 hj2 a2 b2 rfl) dX1_restore_100 rfl rfl rfl rfl ⟨rfl, rfl⟩ (fun v9 u h => ?_)
    obtain ⟨rfl, k2, rfl, hk2⟩ := h
    rw [hk, updR_step (g := (vM k T (nN q) (nN t * 8 + nN y))) (Nat.zero_le j)] at hk2
    refine gg_iadd K dX1_restore_103 ?_
    refine gg_top (y := nI (fb_ct (fun d => bP (¬ vM k T T (nN t * 8 + nN y) d = (vM k T (nN q) (nN t * 8 + nN y)) d)) (j + 1))) (by rw [hk, updR_at (Nat.le_refl j)]; exact ct_add (q := (fun d => bP (¬ vM k T T (nN t * 8 + nN y) d = (vM k T (nN q) (nN t * 8 + nN y)) d)))) ?_
    refine gg_istore K dX1_restore_104 (by decide) ?_
    refine gg_iinc K (v := nI (j + 1)) dX1_restore_106 rfl (nI_inc (j)) (by decide) ?_
    refine gg_goto K (tgt := 77) dX1_restore_109 (by decide) ?_
    refine gg_sub (L' := [(6, .int (nI (j + 1))), (5, .int (nI (fb_ct (fun d => bP (¬ vM k T T (nN t * 8 + nN y) d = (vM k T (nN q) (nN t * 8 + nN y)) d)) (j + 1)))), (0, .ref Y.1), (1, .int t), (2, .int y), (3, .int q)]) ⟨rfl, rfl, rfl, rfl, rfl, rfl, trivial⟩ ?_
    exact ih2 _ _ ⟨j + 1, k2, by omega, rfl, by omega, rfl, hk2⟩
  have hj2 := i_nle (a := 60) h19
  refine gg_iload K dX1_restore_22 rfl ?_
  refine gg_if_ne K (tgt := 60) dX1_restore_24 (by decide) (fun h24 => ?_) (fun h24 => ?_)
  · exact absurd rfl h24
  refine gg_aload_n K (i := 0) dX1_restore_27 rfl rfl ?_
  refine gg_iload_n K (i := 1) dX1_restore_28 rfl rfl ?_
  refine gg_iload_n K (i := 2) dX1_restore_29 rfl rfl ?_
  refine gg_aload_n K (i := 0) dX1_restore_30 rfl rfl ?_
  refine gg_iload_n K (i := 3) dX1_restore_31 rfl rfl ?_
  refine gg_iload_n K (i := 1) dX1_restore_32 rfl rfl ?_
  refine gg_iload_n K (i := 2) dX1_restore_33 rfl rfl ?_
  refine gg_iload K dX1_restore_34 rfl ?_
  refine gg_callRM K k_X1_X1_of (m_of (nN q) (nN t) (nN y) j hT hq a1 b1 hj2 q2 a2 b2 rfl) dX1_restore_36 rfl rfl rfl rfl ⟨rfl, rfl⟩ ?_
  refine gg_iload K dX1_restore_39 rfl ?_
  refine gg_callRM K k_X1_X1_may (m_may (nN t) j hT a1 hj2 (gv j hj2) a2 rfl) dX1_restore_41 rfl rfl rfl rfl ⟨rfl, rfl⟩ ?_
  refine gg_b_eq K (tgt := 51) dX1_restore_44 (by decide) (fun h44 => ?_) (fun h44 => ?_)
  · have bad : ¬ keepP (vM k T) T (vM k T (nN q) (nN t * 8 + nN y)) (nN t) (nN y) := fun z => bP_nf h44 ⟨fun g1 g2 => by
      have := (z j hj2).1 g1 g2
      rw [← b2] at this
      exact this, (z j hj2).2⟩
    refine gg_iconst K (v := 3) dX1_restore_51 (by decide) ?_
    refine gg_istore K dX1_restore_52 (by decide) ?_
    refine gg_iinc K (v := nI (j + 1)) dX1_restore_54 rfl (nI_inc j) (by decide) ?_
    refine gg_goto K (tgt := 15) dX1_restore_57 (by decide) ?_
    refine gg_iload K dX1_restore_15 rfl ?_
    refine gg_bipush K (v := 60) dX1_restore_17 (by decide) ?_
    refine gg_icmp_ge K (tgt := 60) dX1_restore_19 (by decide) (fun h19 => ?_) (fun h19 => ?_)
    · refine gg_aload_n K (i := 0) dX1_restore_60 rfl rfl ?_
      refine gg_iload K dX1_restore_61 rfl ?_
      refine gg_callUM K k_X1_X1_holds m_holds dX1_restore_63 rfl rfl rfl rfl ⟨rfl, rfl⟩ (fun v9 u h => ?_)
      obtain ⟨rfl, rfl⟩ := h
      refine gg_b_ne K (tgt := 71) dX1_restore_66 (by decide) (fun h66 => ?_) (fun h66 => ?_)
      · exact absurd (bP_iff.mp h66) (by decide)
      refine gg_iconst K (v := 0) dX1_restore_69 (by decide) ?_
      exact gg_iret K hr dX1_restore_70 (Nat.le_of_ble_eq_true rfl) (Nat.le_of_ble_eq_true rfl) ⟨3, 0, k, T, rf, rb, re, rfl, rfl, rfl, Or.inr (Or.inr (Or.inl ⟨hP, h5, bad, rfl, rfl⟩))⟩
    refine gg_iload K dX1_restore_22 rfl ?_
    refine gg_if_ne K (tgt := 60) dX1_restore_24 (by decide) (fun h24 => ?_) (fun h24 => ?_)
    rotate_left
    · exact absurd h24 (by decide)
    refine gg_aload_n K (i := 0) dX1_restore_60 rfl rfl ?_
    refine gg_iload K dX1_restore_61 rfl ?_
    refine gg_callUM K k_X1_X1_holds m_holds dX1_restore_63 rfl rfl rfl rfl ⟨rfl, rfl⟩ (fun v9 u h => ?_)
    obtain ⟨rfl, rfl⟩ := h
    refine gg_b_ne K (tgt := 71) dX1_restore_66 (by decide) (fun h66 => ?_) (fun h66 => ?_)
    · exact absurd (bP_iff.mp h66) (by decide)
    refine gg_iconst K (v := 0) dX1_restore_69 (by decide) ?_
    exact gg_iret K hr dX1_restore_70 (Nat.le_of_ble_eq_true rfl) (Nat.le_of_ble_eq_true rfl) ⟨3, 0, k, T, rf, rb, re, rfl, rfl, rfl, Or.inr (Or.inr (Or.inl ⟨hP, h5, bad, rfl, rfl⟩))⟩
  · refine gg_iconst K (v := 0) dX1_restore_47 (by decide) ?_
    refine gg_goto K (tgt := 52) dX1_restore_48 (by decide) ?_
    refine gg_istore K dX1_restore_52 (by decide) ?_
    refine gg_iinc K (v := nI (j + 1)) dX1_restore_54 rfl (nI_inc (j)) (by decide) ?_
    refine gg_goto K (tgt := 15) dX1_restore_57 (by decide) ?_
    refine gg_sub (L' := [(5, .int (nI (j + 1))), (4, .int 0), (0, .ref Y.1), (1, .int t), (2, .int y), (3, .int q)]) ⟨rfl, rfl, rfl, rfl, rfl, rfl, trivial⟩ ?_
    exact ih _ _ ⟨j + 1, by omega, rfl, by omega, rfl, fun d hd => by
      by_cases hdj : d = j
      · rw [hdj]; exact bP_iff.mp h44
      · exact hmay d (by omega)⟩
