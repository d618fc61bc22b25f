/-! the model: eraseAll, pass -/
theorem ct_sm (g : Nat → Bool) : ∀ n, fb_ct g n = fb_sm (fun i => if g i = true then 1 else 0) n
  | 0 => rfl
  | n + 1 => by rw [fb_ct_succ, fb_sm_succ, ct_sm g n]
/-- the key's values erased, and those that refer to it: on the days ahead of b, and on b ahead of key i -/
def erM (V : VT) (T y f q b i : Nat) : VT := fun r l d => if r = T ∧ f ≤ d ∧ ((l = y ∧ d < q) ∨ (8 ≤ l ∧ V T l d = nI y ∧ (d < b ∨ (d = b ∧ l < 8 + i)))) then -1 else V r l d
theorem erM_0 (V : VT) (T y f q : Nat) : updR V T y (fun _ => -1) f q = erM V T y f q f 0 := by
  funext r l d
  unfold updR erM
  by_cases h : r = T ∧ l = y ∧ f ≤ d ∧ d < q
  · rw [if_pos h, if_pos ⟨h.1, h.2.2.1, Or.inl ⟨h.2.1, h.2.2.2⟩⟩]
  · rw [if_neg h, if_neg (fun z => by
      obtain ⟨z1, z2, z3 | z3⟩ := z
      · exact h ⟨z1, z3.1, z2, z3.2⟩
      · omega)]
theorem erM_at {V : VT} {T y f q b i : Nat} (hy : y < 8) : erM V T y f q b i T (8 + i) b = V T (8 + i) b := if_neg (fun z => by
  obtain ⟨z1, z2, z3 | z3⟩ := z <;> omega)
theorem erM_hit {V : VT} {T y f q b i : Nat} (hf : f ≤ b) (h : V T (8 + i) b = nI y) : uV (erM V T y f q b i) T (8 + i) b (-1) = erM V T y f q b (i + 1) := by
  funext r l d
  unfold uV erM
  by_cases h1 : r = T ∧ l = 8 + i ∧ d = b
  · obtain ⟨rfl, rfl, rfl⟩ := h1
    rw [if_pos ⟨rfl, rfl, rfl⟩, if_pos ⟨rfl, hf, Or.inr ⟨by omega, h, Or.inr ⟨rfl, by omega⟩⟩⟩]
  · rw [if_neg h1]
    by_cases h2 : r = T ∧ f ≤ d ∧ ((l = y ∧ d < q) ∨ (8 ≤ l ∧ V T l d = nI y ∧ (d < b ∨ (d = b ∧ l < 8 + i))))
    · rw [if_pos h2, if_pos ⟨h2.1, h2.2.1, h2.2.2.elim Or.inl (fun z => Or.inr ⟨z.1, z.2.1, z.2.2.elim Or.inl (fun w => Or.inr ⟨w.1, by omega⟩)⟩)⟩]
    · rw [if_neg h2, if_neg (fun z => by
        obtain ⟨z1, z2, z3 | ⟨z3, z4, z5 | ⟨z5, z6⟩⟩⟩ := z
        · exact h2 ⟨z1, z2, Or.inl z3⟩
        · exact h2 ⟨z1, z2, Or.inr ⟨z3, z4, Or.inl z5⟩⟩
        · by_cases hl : l = 8 + i
          · exact h1 ⟨z1, hl, z5⟩
          · exact h2 ⟨z1, z2, Or.inr ⟨z3, z4, Or.inr ⟨z5, by omega⟩⟩⟩)]
theorem erM_miss {V : VT} {T y f q b i : Nat} (h : ¬ V T (8 + i) b = nI y) : erM V T y f q b i = erM V T y f q b (i + 1) := by
  funext r l d
  unfold erM
  by_cases h2 : r = T ∧ f ≤ d ∧ ((l = y ∧ d < q) ∨ (8 ≤ l ∧ V T l d = nI y ∧ (d < b ∨ (d = b ∧ l < 8 + i))))
  · rw [if_pos h2, if_pos ⟨h2.1, h2.2.1, h2.2.2.elim Or.inl (fun z => Or.inr ⟨z.1, z.2.1, z.2.2.elim Or.inl (fun w => Or.inr ⟨w.1, by omega⟩)⟩)⟩]
  · rw [if_neg h2, if_neg (fun z => by
      obtain ⟨z1, z2, z3 | ⟨z3, z4, z5 | ⟨z5, z6⟩⟩⟩ := z
      · exact h2 ⟨z1, z2, Or.inl z3⟩
      · exact h2 ⟨z1, z2, Or.inr ⟨z3, z4, Or.inl z5⟩⟩
      · by_cases hl : l = 8 + i
        · rw [hl, z5] at z4
          exact h z4
        · exact h2 ⟨z1, z2, Or.inr ⟨z3, z4, Or.inr ⟨z5, by omega⟩⟩⟩)]
theorem erM_day {V : VT} {T y f q b : Nat} (h16 : ∀ l, 16 ≤ l → V T l b = -1) (hy : y < 8) : erM V T y f q b 8 = erM V T y f q (b + 1) 0 := by
  funext r l d
  unfold erM
  by_cases h2 : r = T ∧ f ≤ d ∧ ((l = y ∧ d < q) ∨ (8 ≤ l ∧ V T l d = nI y ∧ (d < b ∨ (d = b ∧ l < 8 + 8))))
  · rw [if_pos h2, if_pos ⟨h2.1, h2.2.1, h2.2.2.elim Or.inl (fun z => Or.inr ⟨z.1, z.2.1, Or.inl (by omega)⟩)⟩]
  · rw [if_neg h2, if_neg (fun z => by
      obtain ⟨z1, z2, z3 | ⟨z3, z4, z5 | ⟨z5, z6⟩⟩⟩ := z
      · exact h2 ⟨z1, z2, Or.inl z3⟩
      · by_cases hd : d = b
        · by_cases hl : l < 16
          · exact h2 ⟨z1, z2, Or.inr ⟨z3, z4, Or.inr ⟨hd, by omega⟩⟩⟩
          · rw [hd, h16 l (by omega)] at z4
            exact nI_m1 (by omega) z4.symm
        · exact h2 ⟨z1, z2, Or.inr ⟨z3, z4, Or.inl (by omega)⟩⟩
      · omega)]
theorem erM_end {V : VT} {T y f q : Nat} : erM V T y f q q 0 = eraV V T y f q := by
  funext r l d
  unfold erM eraV
  by_cases h : r = T ∧ f ≤ d ∧ d < q ∧ (l = y ∨ (8 ≤ l ∧ V T l d = nI y))
  · rw [if_pos h, if_pos ⟨h.1, h.2.1, h.2.2.2.elim (fun z => Or.inl ⟨z, h.2.2.1⟩) (fun z => Or.inr ⟨z.1, z.2, Or.inl h.2.2.1⟩)⟩]
  · rw [if_neg h, if_neg (fun z => by
      obtain ⟨z1, z2, z3 | ⟨z3, z4, z5 | ⟨z5, z6⟩⟩⟩ := z
      · exact h ⟨z1, z2, z3.2, Or.inl z3.1⟩
      · exact h ⟨z1, z2, z5, Or.inr ⟨z3, z4⟩⟩
      · omega)]
noncomputable def rcN (V : VT) (T y b a : Nat) : Nat := fb_ct (fun i => bP (V T (8 + i) b = nI y)) a
theorem rcN_f {V : VT} {T y b a : Nat} (h : ¬ V T (8 + a) b = nI y) : rcN V T y b (a + 1) = rcN V T y b a := by
  unfold rcN
  rw [fb_ct_succ, bP_f h]
  rfl
theorem rcN_t {V : VT} {T y b a : Nat} (h : V T (8 + a) b = nI y) : rcN V T y b (a + 1) = rcN V T y b a + 1 := by
  unfold rcN
  rw [fb_ct_succ, bP_t h]
  rfl
def kfM (k : Nat → Int32) (T j : Nat) : Nat → Int32 := fun z => if 960 * (T + 1) ≤ z ∧ z < 960 * (T + 1) + j then k (960 * T + (z - 960 * (T + 1)) % 960) else k z
theorem kfM_0 (k : Nat → Int32) (T : Nat) : kfM k T 0 = k := funext (fun z => if_neg (by omega))
theorem kfM_lo {k : Nat → Int32} {T j z : Nat} (h : z < 960 * (T + 1)) : kfM k T j z = k z := if_neg (by omega)
theorem kfM_step {k : Nat → Int32} {T j : Nat} : upd (kfM k T j) (960 * (T + 1) + j) (kfM k T j (960 * T + j)) = kfM k T (j + 1) := by
  have h1 : kfM k T j (960 * T + j) = k (960 * T + j % 960) := by
    unfold kfM
    by_cases h : j < 960
    · rw [if_neg (by omega), show j % 960 = j by omega]
    · rw [if_pos (by omega), show (960 * T + j - 960 * (T + 1)) % 960 = j % 960 by omega]
  rw [h1]
  funext z
  unfold upd kfM
  by_cases hz : z = 960 * (T + 1) + j
  · subst hz
    rw [if_pos rfl, if_pos (by omega), show 960 * (T + 1) + j - 960 * (T + 1) = j by omega]
  · rw [if_neg hz]
    by_cases h2 : 960 * (T + 1) ≤ z ∧ z < 960 * (T + 1) + j
    · rw [if_pos h2, if_pos (by omega)]
    · rw [if_neg h2, if_neg (by omega)]
theorem kfM_V {k : Nat → Int32} {T n : Nat} : vM (kfM k T (960 * n)) (T + n) = psV (vM k T) T n := by
  funext r l d
  unfold psV vM
  by_cases hc : l < 16 ∧ d < 60
  · by_cases h1 : r ≤ T
    · rw [if_pos h1, if_pos ⟨by omega, hc⟩, if_pos ⟨h1, hc⟩, kfM_lo (by unfold ix; omega)]
    · rw [if_neg h1]
      by_cases h2 : r ≤ T + n
      · rw [if_pos h2, if_pos ⟨h2, hc⟩, if_pos ⟨Nat.le_refl T, hc⟩]
        unfold kfM
        rw [if_pos (by unfold ix; omega)]
        rw [show 960 * T + (ix r l d - 960 * (T + 1)) % 960 = ix T l d by unfold ix; omega]
      · rw [if_neg h2, if_neg (fun z => h2 z.1)]
  · rw [if_neg (fun z => hc z.2)]
    split
    · rw [if_neg (fun z => hc z.2)]
    · split
      · rw [if_neg (fun z => hc z.2)]
      · rfl
set_option maxRecDepth 100000 in
theorem m_eraseAll {l : Launch} {Z : ZT} {Y : MT} {k : Nat → Int32} {th rf rb re : Int32} {T : Nat} (hT : T < 60) {y f q : Int32} : mA l Z.1 (ty3 Z) yX1_eraseAll cX1_eraseAll 7 (some .int) (rmk 9 200 0 0) (wM Z Y k th (nI T) rf rb re) [.ref Y.1, .int y, .int f, .int q] (mPost Z Y (sEra (vM k T) T (inR y 8 ∧ spanR f q) (nN y) (nN f) (nN q))) := by
  refine mA_intro (own := RX1) [(0, .ref Y.1), (1, .int y), (2, .int f), (3, .int q)] (by decide +kernel) rfl rfl rfl rfl ?_
  intro p e s m args below meth c A K hr hin
  have bad : ¬ (inR y 8 ∧ spanR f q) → gg p l e (rmk 9 200 0 0) s m args below meth c Z.1 A 7 0 0 (MQ below (qA Z.1 (ty3 Z) A (mPost Z Y (sEra (vM k T) T (inR y 8 ∧ spanR f q) (nN y) (nN f) (nN q)))) args s (rmk 9 200 0 0).cells (rmk 9 200 0 0).slots A) (wM Z Y k th (nI T) rf rb re) 21 [(0, .ref Y.1), (1, .int y), (2, .int f), (3, .int q)] [.ref Y.1] := fun hb => by
    refine gg_iconst K (v := 1) dX1_eraseAll_21 (by decide) ?_
    refine gg_callUM K k_X1_X1_holds m_holds dX1_eraseAll_22 rfl rfl rfl rfl ⟨rfl, rfl⟩ (fun v9 u h => ?_)
    obtain ⟨rfl, rfl⟩ := h
    refine gg_b_ne K (tgt := 30) dX1_eraseAll_25 (by decide) (fun h25 => ?_) (fun h25 => ?_)
    · exact absurd (bP_iff.mp h25) (by decide)
    refine gg_iconst K (v := 0) dX1_eraseAll_28 (by decide) ?_
    exact gg_iret K hr dX1_eraseAll_29 (Nat.le_of_ble_eq_true rfl) (Nat.le_of_ble_eq_true rfl) ⟨1, 0, k, T, rf, rb, re, rfl, rfl, rfl, Or.inl ⟨hb, rfl, rfl⟩⟩
  refine gg_aload_n K (i := 0) dX1_eraseAll_0 rfl rfl ?_
  refine gg_iconst K (v := 0) dX1_eraseAll_1 (by decide) ?_
  refine gg_iload_n K (i := 1) dX1_eraseAll_2 rfl rfl ?_
  refine gg_callSR K k_X1_X1_isKey m_isKey dX1_eraseAll_3 rfl rfl rfl rfl ⟨rfl, rfl⟩ ?_
  refine gg_b_eq K (tgt := 21) dX1_eraseAll_6 (by decide) (fun h6 => ?_) (fun h6 => ?_)
  · exact bad (fun z => bP_nf h6 ⟨inR_of (j := 0) (b := 2) (by omega), z.1⟩)
  refine gg_iload_n K (i := 2) dX1_eraseAll_9 rfl rfl ?_
  refine gg_iload_n K (i := 3) dX1_eraseAll_10 rfl rfl ?_
  refine gg_callSR K k_X1_X1_isSpan m_isSpan dX1_eraseAll_11 rfl rfl rfl rfl ⟨rfl, rfl⟩ ?_
  refine gg_b_eq K (tgt := 21) dX1_eraseAll_14 (by decide) (fun h14 => ?_) (fun h14 => ?_)
  · exact bad (fun z => bP_nf h14 z.2)
  have h1 := (bP_iff.mp h6).2
  have h3 := bP_iff.mp h14
  have ⟨b1, b2⟩ := inR_N (b := 8) h1
  have ⟨f1, f2, f3, f4, f5⟩ := spanR_N h3
  refine gg_iconst K (v := 0) dX1_eraseAll_17 (by decide) ?_
  refine gg_goto K (tgt := 22) dX1_eraseAll_18 (by decide) ?_
  refine gg_callUM K k_X1_X1_holds m_holds dX1_eraseAll_22 rfl rfl rfl rfl ⟨rfl, rfl⟩ (fun v9 u h => ?_)
  obtain ⟨rfl, rfl⟩ := h
  refine gg_b_ne K (tgt := 30) dX1_eraseAll_25 (by decide) (fun h25 => ?_) (fun h25 => ?_)
  rotate_left
  · exact absurd rfl (bP_nf h25)
  refine gg_aload_n K (i := 0) dX1_eraseAll_30 rfl rfl ?_
  refine gg_iconst K (v := 0) dX1_eraseAll_31 (by decide) ?_
  refine gg_iload_n K (i := 1) dX1_eraseAll_32 rfl rfl ?_
  refine gg_iconst K (v := (-1)) dX1_eraseAll_33 (by decide) ?_
  refine gg_iload_n K (i := 2) dX1_eraseAll_34 rfl rfl ?_
  refine gg_iload_n K (i := 3) dX1_eraseAll_35 rfl rfl ?_
  refine gg_callUM K k_X1_X1_setsAll (m_setsAll 0 (nN y) hT (by omega) b1 h3 rfl b2) dX1_eraseAll_36 rfl rfl rfl rfl ⟨rfl, rfl⟩ (fun v9 u h => ?_)
  obtain ⟨rfl, k0, rfl, hk0⟩ := h
  rw [show 0 * 8 + nN y = nN y by omega, erM_0] at hk0
  refine gg_istore K dX1_eraseAll_39 (by decide) ?_
  refine gg_iload_n K (i := 2) dX1_eraseAll_41 rfl rfl ?_
  refine gg_istore K dX1_eraseAll_42 (by decide) ?_
  refine gg_sub (L' := [(5, .int (nI (nN f + 0))), (4, .int (nI ((fb_ct (fun i => bP (¬ vM k T T (0 * 8 + nN y) (nN f + i) = -1)) (nN q - nN f)) + (fb_sm (fun i => rcN (vM k T) T (nN y) (nN f + i) 8) (0))))), (0, .ref Y.1), (1, .int y), (2, .int f), (3, .int q)]) ⟨by rw [← show f = nI (nN f + 0) from f2]; rfl, rfl, rfl, rfl, rfl, rfl, trivial⟩ ?_
  refine gg_loop (fun i w L => ∃ (j : Nat) (k' : Nat → Int32), j + i = nN q - nN f + 1 ∧ w = wM Z Y k' 0 (nI T) rf rb re ∧ j ≤ nN q - nN f ∧ L = [(5, .int (nI (nN f + j))), (4, .int (nI ((fb_ct (fun i => bP (¬ vM k T T (0 * 8 + nN y) (nN f + i) = -1)) (nN q - nN f)) + (fb_sm (fun i => rcN (vM k T) T (nN y) (nN f + i) 8) (j))))), (0, .ref Y.1), (1, .int y), (2, .int f), (3, .int q)] ∧ vM k' T = erM (vM k T) T (nN y) (nN f) (nN q) (nN f + j) 0) (fun w L h => ?_) (fun i w L h ih => ?_) (nN q - nN f + 1) _ _ ⟨0, k0, by omega, rfl, by omega, rfl, hk0⟩
  · obtain ⟨j, k', hj, -, h2, -⟩ := h
    omega
  obtain ⟨j, k', hj, rfl, hj1, rfl, hk⟩ := h
  refine gg_iload K dX1_eraseAll_44 rfl ?_
  refine gg_iload_n K (i := 3) dX1_eraseAll_46 rfl rfl ?_
  refine gg_icmp_ge K (tgt := 108) dX1_eraseAll_47 (by decide) (fun h47 => ?_) (fun h47 => ?_)
  · rw [f5] at h47
    have hj2 := i_le h47
    have hj3 : j = nN q - nN f := by omega
    subst hj3
    rw [show nN f + (nN q - nN f) = nN q by omega, erM_end] at hk
    refine gg_iload K dX1_eraseAll_108 rfl ?_
    refine gg_iret K hr dX1_eraseAll_110 (Nat.le_of_ble_eq_true rfl) (Nat.le_of_ble_eq_true rfl) ⟨0, _, k', T, rf, rb, re, rfl, rfl, rfl, Or.inr ⟨⟨h1, h3⟩, rfl, ?_, hk⟩⟩
    refine congrArg nI ?_
    rw [ct_sm, ← fb_sm_add]
    refine fb_sm_cong (fun i hi => ?_)
    unfold loN
    rw [show 0 * 8 + nN y = nN y by omega]
    congr 1
    by_cases hm : vM k T T (nN y) (nN f + i) = -1
    · rw [if_pos hm, bP_f (fun z => z hm)]; rfl
    · rw [if_neg hm, bP_t hm]; rfl
  rw [f5] at h47
  have hj2 := i_nle h47
  refine gg_iconst K (v := 0) dX1_eraseAll_50 (by decide) ?_
  refine gg_istore K dX1_eraseAll_51 (by decide) ?_
  refine gg_sub (L' := [(6, .int (nI 0)), (5, .int (nI (nN f + j))), (4, .int (nI ((fb_ct (fun i => bP (¬ vM k T T (0 * 8 + nN y) (nN f + i) = -1)) (nN q - nN f)) + (fb_sm (fun i => rcN (vM k T) T (nN y) (nN f + i) 8) (j)) + (rcN (vM k T) T (nN y) ((nN f + j)) (0))))), (0, .ref Y.1), (1, .int y), (2, .int f), (3, .int q)]) ⟨rfl, rfl, rfl, rfl, rfl, rfl, rfl, trivial⟩ ?_
  refine gg_loop (fun i w L => ∃ (a : Nat) (k' : Nat → Int32), a + i = 9 ∧ w = wM Z Y k' 0 (nI T) rf rb re ∧ a ≤ 8 ∧ L = [(6, .int (nI a)), (5, .int (nI (nN f + j))), (4, .int (nI ((fb_ct (fun i => bP (¬ vM k T T (0 * 8 + nN y) (nN f + i) = -1)) (nN q - nN f)) + (fb_sm (fun i => rcN (vM k T) T (nN y) (nN f + i) 8) (j)) + (rcN (vM k T) T (nN y) ((nN f + j)) (a))))), (0, .ref Y.1), (1, .int y), (2, .int f), (3, .int q)] ∧ vM k' T = erM (vM k T) T (nN y) (nN f) (nN q) (nN f + j) a) (fun w L h => ?_) (fun i w L h ih2 => ?_) 9 _ _ ⟨0, k', rfl, rfl, by omega, rfl, hk⟩
  · obtain ⟨a, k', hj, -, h2, -⟩ := h
    omega
  obtain ⟨a, k', ha, rfl, -, rfl, hk⟩ := h
  refine gg_iload K dX1_eraseAll_53 rfl ?_
  refine gg_bipush K (v := 8) dX1_eraseAll_55 (by decide) ?_
  refine gg_icmp_ge K (tgt := 102) dX1_eraseAll_57 (by decide) (fun h57 => ?_) (fun h57 => ?_)
  · have hj5 := i_le (a := 8) h57
    have hj6 : a = 8 := by omega
    subst hj6
    rw [erM_day (fun l hl => vM_16 hl) b1] at hk
    refine gg_iinc K (v := nI (nN f + j + 1)) dX1_eraseAll_102 rfl (nI_inc (nN f + j)) (by decide) ?_
    refine gg_goto K (tgt := 44) dX1_eraseAll_105 (by decide) ?_
    refine gg_sub (L' := [(5, .int (nI (nN f + (j + 1)))), (4, .int (nI ((fb_ct (fun i => bP (¬ vM k T T (0 * 8 + nN y) (nN f + i) = -1)) (nN q - nN f)) + (fb_sm (fun i => rcN (vM k T) T (nN y) (nN f + i) 8) ((j + 1)))))), (0, .ref Y.1), (1, .int y), (2, .int f), (3, .int q)]) ⟨rfl, by rw [fb_sm_succ, ← Nat.add_assoc]; rfl, rfl, rfl, rfl, rfl, trivial⟩ ?_
    exact ih _ _ ⟨j + 1, k', by omega, rfl, by omega, rfl, hk⟩
  have ha2 := i_nle (a := 8) h57
  refine gg_iload K dX1_eraseAll_60 rfl ?_
  refine gg_aload_n K (i := 0) dX1_eraseAll_62 rfl rfl ?_
  refine gg_aload_n K (i := 0) dX1_eraseAll_63 rfl rfl ?_
  refine gM_today K dX1_eraseAll_64 ?_
  refine gg_iconst K (v := 1) dX1_eraseAll_67 (by decide) ?_
  refine gg_iload K dX1_eraseAll_68 rfl ?_
  refine gg_iload K dX1_eraseAll_70 rfl ?_
  refine gg_callRM K k_X1_X1_of (m_of T 1 a (nN f + j) hT (Nat.le_refl T) (by omega) ha2 (by omega) rfl rfl rfl rfl) dX1_eraseAll_72 rfl rfl rfl rfl ⟨rfl, rfl⟩ ?_
  have hat : vM k' T T (1 * 8 + a) (nN f + j) = vM k T T (8 + a) (nN f + j) := by
    rw [hk, show 1 * 8 + a = 8 + a by omega]
    exact erM_at b1
  rw [hat]
  refine gg_iload_n K (i := 1) dX1_eraseAll_75 rfl rfl ?_
  refine gg_icmp_ne K (tgt := 92) dX1_eraseAll_76 (by decide) (fun h76 => ?_) (fun h76 => ?_)
  · have h76 : ¬ vM k T T (8 + a) (nN f + j) = nI (nN y) := fun z => h76 (z.trans b2.symm)
    refine gg_iconst K (v := 0) dX1_eraseAll_92 (by decide) ?_
    refine gg_iadd K dX1_eraseAll_93 ?_
    refine gg_top (y := nI ((fb_ct (fun i => bP (¬ vM k T T (0 * 8 + nN y) (nN f + i) = -1)) (nN q - nN f)) + (fb_sm (fun i => rcN (vM k T) T (nN y) (nN f + i) 8) (j)) + (rcN (vM k T) T (nN y) ((nN f + j)) ((a + 1))))) (by rw [rcN_f h76]; exact Int32.add_zero _) ?_
    refine gg_istore K dX1_eraseAll_94 (by decide) ?_
    refine gg_iinc K (v := nI (a + 1)) dX1_eraseAll_96 rfl (nI_inc (a)) (by decide) ?_
    refine gg_goto K (tgt := 53) dX1_eraseAll_99 (by decide) ?_
    refine gg_sub (L' := [(6, .int (nI (a + 1))), (5, .int (nI (nN f + j))), (4, .int (nI ((fb_ct (fun i => bP (¬ vM k T T (0 * 8 + nN y) (nN f + i) = -1)) (nN q - nN f)) + (fb_sm (fun i => rcN (vM k T) T (nN y) (nN f + i) 8) (j)) + (rcN (vM k T) T (nN y) ((nN f + j)) ((a + 1)))))), (0, .ref Y.1), (1, .int y), (2, .int f), (3, .int q)]) ⟨rfl, rfl, rfl, rfl, rfl, rfl, rfl, trivial⟩ ?_
    exact ih2 _ _ ⟨a + 1, k', by omega, rfl, by omega, rfl, by rw [hk]; exact erM_miss h76⟩
  · have h76 : vM k T T (8 + a) (nN f + j) = nI (nN y) := h76.trans b2
    refine gg_aload_n K (i := 0) dX1_eraseAll_79 rfl rfl ?_
    refine gg_iconst K (v := 1) dX1_eraseAll_80 (by decide) ?_
    refine gg_iload K dX1_eraseAll_81 rfl ?_
    refine gg_iconst K (v := (-1)) dX1_eraseAll_83 (by decide) ?_
    refine gg_iload K dX1_eraseAll_84 rfl ?_
    refine gg_callUM K k_X1_X1_sets (m_sets 1 a (nN f + j) hT (by omega) ha2 (by omega) rfl rfl rfl) dX1_eraseAll_86 rfl rfl rfl rfl ⟨rfl, rfl⟩ (fun v9 u h => ?_)
    obtain ⟨rfl, k2, rfl, hk2⟩ := h
    rw [hk, show 1 * 8 + a = 8 + a by omega, erM_hit (by omega) h76] at hk2
    refine gg_top (y := nI 1) (bI_t (bP_t (by rw [hat, h76]; exact nI_m1 (by omega)))) ?_
    refine gg_goto K (tgt := 93) dX1_eraseAll_89 (by decide) ?_
    refine gg_iadd K dX1_eraseAll_93 ?_
    refine gg_top (y := nI ((fb_ct (fun i => bP (¬ vM k T T (0 * 8 + nN y) (nN f + i) = -1)) (nN q - nN f)) + (fb_sm (fun i => rcN (vM k T) T (nN y) (nN f + i) 8) (j)) + (rcN (vM k T) T (nN y) ((nN f + j)) ((a + 1))))) (by rw [rcN_t h76]; exact nI_add _ 1) ?_
    refine gg_istore K dX1_eraseAll_94 (by decide) ?_
    refine gg_iinc K (v := nI (a + 1)) dX1_eraseAll_96 rfl (nI_inc (a)) (by decide) ?_
    refine gg_goto K (tgt := 53) dX1_eraseAll_99 (by decide) ?_
    refine gg_sub (L' := [(6, .int (nI (a + 1))), (5, .int (nI (nN f + j))), (4, .int (nI ((fb_ct (fun i => bP (¬ vM k T T (0 * 8 + nN y) (nN f + i) = -1)) (nN q - nN f)) + (fb_sm (fun i => rcN (vM k T) T (nN y) (nN f + i) 8) (j)) + (rcN (vM k T) T (nN y) ((nN f + j)) ((a + 1)))))), (0, .ref Y.1), (1, .int y), (2, .int f), (3, .int q)]) ⟨rfl, rfl, rfl, rfl, rfl, rfl, rfl, trivial⟩ ?_
    exact ih2 _ _ ⟨a + 1, k2, by omega, rfl, by omega, rfl, hk2⟩
set_option maxRecDepth 100000 in
theorem m_pass {l : Launch} {Z : ZT} {Y : MT} {k : Nat → Int32} {th rf rb re : Int32} {T : Nat} (hT : T < 60) {n9 : Int32} : mA l Z.1 (ty3 Z) yX1_pass cX1_pass 4 (some .int) (rmk 9 200 0 0) (wM Z Y k th (nI T) rf rb re) [.ref Y.1, .int n9] (mPost Z Y (sPs (vM k T) T (¬ n9 < 1 ∧ ¬ 60 ≤ n9) (T + nN n9 < 60) (nN n9))) := by
  refine mA_intro (own := RX1) [(0, .ref Y.1), (1, .int n9)] (by decide +kernel) rfl rfl rfl rfl ?_
  intro p e s m args below meth c A K hr hin
  have hin9 : (¬ n9 < 1 ∧ ¬ (59 : Int32) < n9) ↔ (¬ n9 < 1 ∧ ¬ 60 ≤ n9) := by
    have e1 : ((59 : Int32) < n9) ↔ (59 < n9.toInt) := by rw [Int32.lt_iff_toInt_lt]; exact Iff.rfl
    have e2 : ((60 : Int32) ≤ n9) ↔ (60 ≤ n9.toInt) := by rw [Int32.le_iff_toInt_le]; exact Iff.rfl
    rw [e1, e2]
    exact ⟨fun h => ⟨h.1, by have := h.2; omega⟩, fun h => ⟨h.1, by have := h.2; omega⟩⟩
  have bad : ∀ c9 : Int32, ¬ c9 = 0 → sPs (vM k T) T (¬ n9 < 1 ∧ ¬ 60 ≤ n9) (T + nN n9 < 60) (nN n9) c9 0 (vM k T) T → gg p l e (rmk 9 200 0 0) s m args below meth c Z.1 A 4 0 0 (MQ below (qA Z.1 (ty3 Z) A (mPost Z Y (sPs (vM k T) T (¬ n9 < 1 ∧ ¬ 60 ≤ n9) (T + nN n9 < 60) (nN n9)))) args s (rmk 9 200 0 0).cells (rmk 9 200 0 0).slots A) (wM Z Y k th (nI T) rf rb re) 31 [(0, .ref Y.1), (1, .int n9)] [.int c9, .ref Y.1] := fun c9 h9 hs => by
    refine gg_callUM K k_X1_X1_holds m_holds dX1_pass_31 rfl rfl rfl rfl ⟨rfl, rfl⟩ (fun v9 u h => ?_)
    obtain ⟨rfl, rfl⟩ := h
    refine gg_b_ne K (tgt := 39) dX1_pass_34 (by decide) (fun h34 => ?_) (fun h34 => ?_)
    · exact absurd (bP_iff.mp h34) h9
    refine gg_iconst K (v := 0) dX1_pass_37 (by decide) ?_
    exact gg_iret K hr dX1_pass_38 (Nat.le_of_ble_eq_true rfl) (Nat.le_of_ble_eq_true rfl) ⟨c9, 0, k, T, rf, rb, re, rfl, rfl, hs⟩
  refine gg_aload_n K (i := 0) dX1_pass_0 rfl rfl ?_
  refine gg_iload_n K (i := 1) dX1_pass_1 rfl rfl ?_
  refine gg_iconst K (v := 1) dX1_pass_2 (by decide) ?_
  refine gg_bipush K (v := 59) dX1_pass_3 (by decide) ?_
  refine gg_callSR K k_X1_X1_in m_in dX1_pass_5 rfl rfl rfl rfl ⟨rfl, rfl⟩ ?_
  refine gg_b_ne K (tgt := 15) dX1_pass_8 (by decide) (fun h8 => ?_) (fun h8 => ?_)
  rotate_left
  · refine gg_iconst K (v := 1) dX1_pass_11 (by decide) ?_
    refine gg_goto K (tgt := 31) dX1_pass_12 (by decide) ?_
    exact bad 1 (by decide) (Or.inl ⟨fun z => bP_nf h8 (hin9.mpr z), rfl, rfl, rfl⟩)
  have hP1 := hin9.mp (bP_iff.mp h8)
  have hin : inR n9 60 := ⟨fun z => hP1.1 (by
    rw [Int32.lt_iff_toInt_lt] at z ⊢
    have g1 : (0 : Int32).toInt = 0 := by decide
    have g2 : (1 : Int32).toInt = 1 := by decide
    omega), hP1.2⟩
  have ⟨b1, b2⟩ := inR_N (b := 60) hin
  refine gg_aload_n K (i := 0) dX1_pass_15 rfl rfl ?_
  refine gM_today K dX1_pass_16 ?_
  refine gg_iload_n K (i := 1) dX1_pass_19 rfl rfl ?_
  refine gg_iadd K dX1_pass_20 ?_
  refine gg_top (y := nI (T + nN n9)) (by rw [← nI_add, ← b2]) ?_
  refine gg_bipush K (v := 60) dX1_pass_21 (by decide) ?_
  refine gg_icmp_lt K (tgt := 30) dX1_pass_23 (by decide) (fun h23 => ?_) (fun h23 => ?_)
  rotate_left
  · have h9 := i_nlt (b := 60) h23
    refine gg_iconst K (v := 2) dX1_pass_26 (by decide) ?_
    refine gg_goto K (tgt := 31) dX1_pass_27 (by decide) ?_
    exact bad 2 (by decide) (Or.inr (Or.inl ⟨hP1, by omega, rfl, rfl, rfl⟩))
  have h9 := i_lt (b := 60) h23
  refine gg_iconst K (v := 0) dX1_pass_30 (by decide) ?_
  refine gg_callUM K k_X1_X1_holds m_holds dX1_pass_31 rfl rfl rfl rfl ⟨rfl, rfl⟩ (fun v9 u h => ?_)
  obtain ⟨rfl, rfl⟩ := h
  refine gg_b_ne K (tgt := 39) dX1_pass_34 (by decide) (fun h34 => ?_) (fun h34 => ?_)
  rotate_left
  · exact absurd rfl (bP_nf h34)
  refine gg_sipush K (v := 960) dX1_pass_39 (by decide) ?_
  refine gg_istore_n K (i := 2) dX1_pass_42 rfl (by decide) ?_
  refine gg_iconst K (v := 0) dX1_pass_43 (by decide) ?_
  refine gg_istore_n K (i := 3) dX1_pass_44 rfl (by decide) ?_
  refine gg_sub (L' := [(3, .int (nI 0)), (2, .int 960), (0, .ref Y.1), (1, .int n9)]) ⟨rfl, rfl, rfl, rfl, trivial⟩ ?_
  refine gg_loop (fun i w L => ∃ (j : Nat), j + i = 960 * nN n9 + 1 ∧ w = wM Z Y (kfM k T (j)) 0 (nI T) rf rb re ∧ j ≤ 960 * nN n9 ∧ L = [(3, .int (nI j)), (2, .int 960), (0, .ref Y.1), (1, .int n9)]) (fun w L h => ?_) (fun i w L h ih => ?_) (960 * nN n9 + 1) _ _ ⟨0, by omega, by rw [kfM_0], by omega, rfl⟩
  · obtain ⟨j, hj, -, h2, -⟩ := h
    omega
  obtain ⟨j, hj, rfl, hj1, rfl⟩ := h
  refine gg_iload_n K (i := 3) dX1_pass_45 rfl rfl ?_
  refine gg_iload_n K (i := 2) dX1_pass_46 rfl rfl ?_
  refine gg_iload_n K (i := 1) dX1_pass_47 rfl rfl ?_
  refine gg_imul K dX1_pass_48 ?_
  refine gg_top (y := nI (960 * nN n9)) (by rw [← nI_mul, ← b2]; rfl) ?_
  refine gg_icmp_ge K (tgt := 86) dX1_pass_49 (by decide) (fun h49 => ?_) (fun h49 => ?_)
  · have hj2 := i_le h49
    have hj3 : j = 960 * nN n9 := by omega
    subst hj3
    refine gg_aload_n K (i := 0) dX1_pass_86 rfl rfl ?_
    refine gg_dup K dX1_pass_87 rfl ?_
    refine gM_today K dX1_pass_88 ?_
    refine gg_iload_n K (i := 1) dX1_pass_91 rfl rfl ?_
    refine gg_iadd K dX1_pass_92 ?_
    refine gg_top (y := nI (T + nN n9)) (by rw [← nI_add, ← b2]) ?_
    refine gM_ptoday K dX1_pass_93 ?_
    refine gg_aload_n K (i := 0) dX1_pass_96 rfl rfl ?_
    refine gM_today K dX1_pass_97 ?_
    exact gg_iret K hr dX1_pass_100 (Nat.le_of_ble_eq_true rfl) (Nat.le_of_ble_eq_true rfl) ⟨0, _, _, T + nN n9, rf, rb, re, rfl, rfl, Or.inr (Or.inr ⟨hP1, h9, rfl, rfl, kfM_V, rfl⟩)⟩
  have hj2 := i_nle h49
  refine gg_aload_n K (i := 0) dX1_pass_52 rfl rfl ?_
  refine gM_known K dX1_pass_53 ?_
  refine gg_iload_n K (i := 2) dX1_pass_56 rfl rfl ?_
  refine gg_aload_n K (i := 0) dX1_pass_57 rfl rfl ?_
  refine gM_today K dX1_pass_58 ?_
  refine gg_iconst K (v := 1) dX1_pass_61 (by decide) ?_
  refine gg_iadd K dX1_pass_62 ?_
  refine gg_imul K dX1_pass_63 ?_
  refine gg_top (y := nI (960 * (T + 1))) (by rw [nI_1]; exact nI_mul 960 _) ?_
  refine gg_iload_n K (i := 3) dX1_pass_64 rfl rfl ?_
  refine gg_iadd K dX1_pass_65 ?_
  refine gg_top (y := nI (960 * (T + 1) + j)) (nI_add _ j) ?_
  refine gg_aload_n K (i := 0) dX1_pass_66 rfl rfl ?_
  refine gM_known K dX1_pass_67 ?_
  refine gg_iload_n K (i := 2) dX1_pass_70 rfl rfl ?_
  refine gg_aload_n K (i := 0) dX1_pass_71 rfl rfl ?_
  refine gM_today K dX1_pass_72 ?_
  refine gg_imul K dX1_pass_75 ?_
  refine gg_top (y := nI (960 * T)) (nI_mul 960 _) ?_
  refine gg_iload_n K (i := 3) dX1_pass_76 rfl rfl ?_
  refine gg_iadd K dX1_pass_77 ?_
  refine gg_top (y := nI (960 * T + j)) (nI_add _ j) ?_
  refine gM_ld_known (960 * T + j) K rfl (by omega) dX1_pass_78 ?_
  refine gM_st_known (960 * (T + 1) + j) K rfl (by omega) dX1_pass_79 ?_
  rw [kfM_step]
  refine gg_iinc K (v := nI (j + 1)) dX1_pass_80 rfl (nI_inc (j)) (by decide) ?_
  refine gg_goto K (tgt := 45) dX1_pass_83 (by decide) ?_
  refine gg_sub (L' := [(3, .int (nI (j + 1))), (2, .int 960), (0, .ref Y.1), (1, .int n9)]) ⟨rfl, rfl, rfl, rfl, trivial⟩ ?_
  exact ih _ _ ⟨j + 1, by omega, rfl, by omega, rfl⟩
