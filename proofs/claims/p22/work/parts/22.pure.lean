/-! the changes as relations on the table of values: the answers are one, what stays true -/
def refOk (V : VT) (T : Nat) : Prop := ∀ i d, i < 8 → d < 60 → V T (8 + i) d = -1 ∨ ∃ j, V T (8 + i) d = nI j ∧ j < 8 ∧ ¬ V T j d = -1
noncomputable def S_put (V : VT) (T : Nat) (t y v f q : Int32) : ST := sSet V T (inR t 2 ∧ inR y 8 ∧ inR v (if t = 0 then 100 else 8) ∧ spanR f q) True (keepP V T (spG V T (nN t * 8 + nN y) v f q) (nN t) (nN y)) 2 (nN t * 8 + nN y) (spG V T (nN t * 8 + nN y) v f q)
noncomputable def S_erase (V : VT) (T : Nat) (t y f q : Int32) : ST := sSet V T (inR t 2 ∧ inR y 8 ∧ spanR f q) True (keepP V T (spG V T (nN t * 8 + nN y) (-1) f q) (nN t) (nN y)) 2 (nN t * 8 + nN y) (spG V T (nN t * 8 + nN y) (-1) f q)
noncomputable def S_eraseAll (V : VT) (T : Nat) (y f q : Int32) : ST := sEra V T (inR y 8 ∧ spanR f q) (nN y) (nN f) (nN q)
noncomputable def S_restore (V : VT) (T : Nat) (t y q : Int32) : ST := sSet V T (inR t 2 ∧ inR y 8 ∧ inR q 60) (q ≤ nI T) (keepP V T (V (nN q) (nN t * 8 + nN y)) (nN t) (nN y)) 3 (nN t * 8 + nN y) (V (nN q) (nN t * 8 + nN y))
noncomputable def S_pass (V : VT) (T : Nat) (n9 : Int32) : ST := sPs V T (¬ n9 < 1 ∧ ¬ 60 ≤ n9) (T + nN n9 < 60) (nN n9)
def sameA (c r : Int32) (V1 : VT) (T1 : Nat) (c2 r2 : Int32) (V2 : VT) (T2 : Nat) : Prop := c = c2 ∧ V1 = V2 ∧ T1 = T2 ∧ (c = 0 → r = r2)
theorem uq_sSet {V V1 V2 : VT} {T T1 T2 : Nat} {P1 P2 P3 : Prop} {c3 c c2 r r2 : Int32} {li : Nat} {gf : Nat → Int32} (h0 : ¬ c3 = 0) (h : sSet V T P1 P2 P3 c3 li gf c r V1 T1) (g : sSet V T P1 P2 P3 c3 li gf c2 r2 V2 T2) : sameA c r V1 T1 c2 r2 V2 T2 := by
  obtain ⟨rfl, h⟩ := h
  obtain ⟨rfl, g⟩ := g
  rcases h with ⟨h1, h2, h3⟩ | ⟨h1, h2, h3, h4⟩ | ⟨h1, h2, h3, h4, h5⟩ | ⟨h1, h2, h3, h4, h5, h6⟩ <;> rcases g with ⟨g1, g2, g3⟩ | ⟨g1, g2, g3, g4⟩ | ⟨g1, g2, g3, g4, g5⟩ | ⟨g1, g2, g3, g4, g5, g6⟩
  · exact ⟨h2.trans g2.symm, h3.trans g3.symm, rfl, fun z => absurd (h2.symm.trans z) (by decide)⟩
  · exact absurd g1 h1
  · exact absurd g1 h1
  · exact absurd g1 h1
  · exact absurd h1 g1
  · exact ⟨h3.trans g3.symm, h4.trans g4.symm, rfl, fun z => absurd (h3.symm.trans z) (by decide)⟩
  · exact absurd g2 h2
  · exact absurd g2 h2
  · exact absurd h1 g1
  · exact absurd h2 g2
  · exact ⟨h4.trans g4.symm, h5.trans g5.symm, rfl, fun z => absurd (h4.symm.trans z) h0⟩
  · exact absurd g3 h3
  · exact absurd h1 g1
  · exact absurd h2 g2
  · exact absurd h3 g3
  · exact ⟨h4.trans g4.symm, h6.trans g6.symm, rfl, fun _ => h5.trans g5.symm⟩
theorem uq_sEra {V V1 V2 : VT} {T T1 T2 : Nat} {P1 : Prop} {c c2 r r2 : Int32} {y a b : Nat} (h : sEra V T P1 y a b c r V1 T1) (g : sEra V T P1 y a b c2 r2 V2 T2) : sameA c r V1 T1 c2 r2 V2 T2 := by
  obtain ⟨rfl, h⟩ := h
  obtain ⟨rfl, g⟩ := g
  rcases h with ⟨h1, h2, h3⟩ | ⟨h1, h2, h3, h4⟩ <;> rcases g with ⟨g1, g2, g3⟩ | ⟨g1, g2, g3, g4⟩
  · exact ⟨h2.trans g2.symm, h3.trans g3.symm, rfl, fun z => absurd (h2.symm.trans z) (by decide)⟩
  · exact absurd g1 h1
  · exact absurd h1 g1
  · exact ⟨h2.trans g2.symm, h4.trans g4.symm, rfl, fun _ => h3.trans g3.symm⟩
theorem uq_sPs {V V1 V2 : VT} {T T1 T2 : Nat} {P1 P2 : Prop} {c c2 r r2 : Int32} {n : Nat} (h : sPs V T P1 P2 n c r V1 T1) (g : sPs V T P1 P2 n c2 r2 V2 T2) : sameA c r V1 T1 c2 r2 V2 T2 := by
  rcases h with ⟨h1, h2, h3, h4⟩ | ⟨h1, h2, h3, h4, h5⟩ | ⟨h1, h2, h3, h4, h5, h6⟩ <;> rcases g with ⟨g1, g2, g3, g4⟩ | ⟨g1, g2, g3, g4, g5⟩ | ⟨g1, g2, g3, g4, g5, g6⟩
  · exact ⟨h2.trans g2.symm, h3.trans g3.symm, h4.trans g4.symm, fun z => absurd (h2.symm.trans z) (by decide)⟩
  · exact absurd g1 h1
  · exact absurd g1 h1
  · exact absurd h1 g1
  · exact ⟨h3.trans g3.symm, h4.trans g4.symm, h5.trans g5.symm, fun z => absurd (h3.symm.trans z) (by decide)⟩
  · exact absurd g2 h2
  · exact absurd h1 g1
  · exact absurd h2 g2
  · exact ⟨h3.trans g3.symm, h5.trans g5.symm, h6.trans g6.symm, fun _ => h4.trans g4.symm⟩
def inv (V : VT) (T : Nat) : Prop := valOk V T ∧ refOk V T
theorem inv_new : inv (fun _ _ _ => -1) 0 := ⟨fun _ _ _ _ _ _ => Or.inl rfl, fun _ _ _ _ => Or.inl rfl⟩
def gOk (g : Nat → Int32) (li : Nat) : Prop := ∀ d, d < 60 → g d = -1 ∨ ∃ j, g d = nI j ∧ j < 100 ∧ (8 ≤ li → j < 8)
theorem inv_sSet {V V1 : VT} {T T1 : Nat} {P1 P2 P3 : Prop} {c3 c r : Int32} {li : Nat} {g : Nat → Int32} (hi : inv V T) (hg : P1 → P2 → gOk g li ∧ ∃ t9 y9, t9 < 2 ∧ y9 < 8 ∧ li = t9 * 8 + y9 ∧ (P3 → keepP V T g t9 y9)) (h : sSet V T P1 P2 P3 c3 li g c r V1 T1) : inv V1 T1 := by
  obtain ⟨rfl, ⟨-, -, rfl⟩ | ⟨-, -, -, rfl⟩ | ⟨-, -, -, -, rfl⟩ | ⟨h1, h2, h3, -, -, rfl⟩⟩ := h
  · exact hi
  · exact hi
  · exact hi
  obtain ⟨hv, hr⟩ := hi
  obtain ⟨h4, t9, y9, ht, hy, rfl, hk⟩ := hg h1 h2
  have hk := hk h3
  refine ⟨fun r l d a1 a2 a3 => ?_, fun i d a1 a2 => ?_⟩
  · unfold updR
    by_cases h : r = T1 ∧ l = t9 * 8 + y9 ∧ 0 ≤ d ∧ d < 60
    · rw [if_pos h]
      have := h4 d a3
      rw [← h.2.1] at this
      exact this
    · rw [if_neg h]
      exact hv r l d a1 a2 a3
  · by_cases ht0 : t9 = 0
    · subst ht0
      have e1 : updR V T1 (0 * 8 + y9) g 0 60 T1 (8 + i) d = V T1 (8 + i) d := if_neg (by omega)
      rw [e1]
      rcases hr i d a1 a2 with z | ⟨j, z1, z2, z3⟩
      · exact Or.inl z
      · refine Or.inr ⟨j, z1, z2, ?_⟩
        unfold updR
        by_cases hj : j = y9
        · subst hj
          rw [if_pos ⟨rfl, by omega, by omega, a2⟩]
          exact fun q => (hk d a2).1 rfl q ⟨i, a1, z1⟩
        · rw [if_neg (by omega)]
          exact z3
    · have ht1 : t9 = 1 := by omega
      subst ht1
      have e2 : ∀ j, j < 8 → updR V T1 (1 * 8 + y9) g 0 60 T1 j d = V T1 j d := fun j hj => if_neg (by omega)
      by_cases hi : i = y9
      · subst hi
        have e1 : updR V T1 (1 * 8 + i) g 0 60 T1 (8 + i) d = g d := if_pos ⟨rfl, by omega, by omega, a2⟩
        rw [e1]
        rcases h4 d a2 with z | ⟨j, z1, z2, z3⟩
        · exact Or.inl z
        · have z4 := z3 (by omega)
          refine Or.inr ⟨j, z1, z4, ?_⟩
          rw [e2 j z4]
          have := (hk d a2).2 rfl (by rw [z1]; exact nI_m1 (by omega))
          rw [z1, nI_clamp (by omega)] at this
          exact this
      · have e1 : updR V T1 (1 * 8 + y9) g 0 60 T1 (8 + i) d = V T1 (8 + i) d := if_neg (by omega)
        rw [e1]
        rcases hr i d a1 a2 with z | ⟨j, z1, z2, z3⟩
        · exact Or.inl z
        · exact Or.inr ⟨j, z1, z2, by rw [e2 j z2]; exact z3⟩
theorem inv_sEra {V V1 : VT} {T T1 : Nat} {P1 : Prop} {c r : Int32} {y a b : Nat} (hy : P1 → y < 8) (hi : inv V T) (h : sEra V T P1 y a b c r V1 T1) : inv V1 T1 := by
  obtain ⟨rfl, ⟨-, -, rfl⟩ | ⟨h1, -, -, rfl⟩⟩ := h
  · exact hi
  have hy := hy h1
  obtain ⟨hv, hr⟩ := hi
  refine ⟨fun r l d a1 a2 a3 => ?_, fun i d a1 a2 => ?_⟩
  · unfold eraV
    by_cases h : r = T1 ∧ a ≤ d ∧ d < b ∧ (l = y ∨ (8 ≤ l ∧ V T1 l d = nI y))
    · rw [if_pos h]
      exact Or.inl rfl
    · rw [if_neg h]
      exact hv r l d a1 a2 a3
  · unfold eraV
    by_cases h : T1 = T1 ∧ a ≤ d ∧ d < b ∧ (8 + i = y ∨ (8 ≤ 8 + i ∧ V T1 (8 + i) d = nI y))
    · rw [if_pos h]
      exact Or.inl rfl
    · rw [if_neg h]
      rcases hr i d a1 a2 with z | ⟨j, z1, z2, z3⟩
      · exact Or.inl z
      · refine Or.inr ⟨j, z1, z2, ?_⟩
        rw [if_neg (fun q => ?_)]
        · exact z3
        · rcases q.2.2.2 with q2 | q2
          · subst q2
            exact h ⟨rfl, q.2.1, q.2.2.1, Or.inr ⟨by omega, z1⟩⟩
          · omega
theorem inv_sPs {V V1 : VT} {T T1 : Nat} {P1 P2 : Prop} {c r : Int32} {n : Nat} (hi : inv V T) (h : sPs V T P1 P2 n c r V1 T1) : inv V1 T1 := by
  obtain ⟨-, -, rfl, rfl⟩ | ⟨-, -, -, rfl, rfl⟩ | ⟨-, -, -, -, rfl, rfl⟩ := h
  · exact hi
  · exact hi
  obtain ⟨hv, hr⟩ := hi
  refine ⟨fun r l d a1 a2 a3 => ?_, fun i d a1 a2 => ?_⟩
  · unfold psV
    by_cases h : r ≤ T
    · rw [if_pos h]
      exact hv r l d h a2 a3
    · rw [if_neg h, if_pos a1]
      exact hv T l d (Nat.le_refl T) a2 a3
  · have e : ∀ l, psV V T n (T + n) l d = V T l d := fun l => by
      unfold psV
      by_cases h : T + n ≤ T
      · rw [if_pos h, show T + n = T by omega]
      · rw [if_neg h, if_pos (Nat.le_refl _)]
    rw [e]
    rcases hr i d a1 a2 with z | ⟨j, z1, z2, z3⟩
    · exact Or.inl z
    · exact Or.inr ⟨j, z1, z2, by rw [e]; exact z3⟩
theorem gOk_span {V : VT} {T t9 y9 : Nat} {v f q : Int32} (hv : valOk V T) (ht : t9 < 2) (hy : y9 < 8) (h : v = -1 ∨ ∃ j, v = nI j ∧ j < 100 ∧ (8 ≤ t9 * 8 + y9 → j < 8)) : gOk (spG V T (t9 * 8 + y9) v f q) (t9 * 8 + y9) := by
  intro d hd
  unfold spG
  by_cases hc : nN f ≤ d ∧ d < nN q
  · rw [if_pos hc]
    exact h
  · rw [if_neg hc]
    exact hv T (t9 * 8 + y9) d (Nat.le_refl T) (by omega) hd
theorem uq_put {V V1 V2 : VT} {T T1 T2 : Nat} {t y v f q c c2 r r2 : Int32} (h : S_put V T t y v f q c r V1 T1) (g : S_put V T t y v f q c2 r2 V2 T2) : sameA c r V1 T1 c2 r2 V2 T2 := uq_sSet (by decide) h g
theorem inv_put {V V1 : VT} {T T1 : Nat} {t y v f q c r : Int32} (hi : inv V T) (h : S_put V T t y v f q c r V1 T1) : inv V1 T1 := by
  refine inv_sSet hi (fun h1 _ => ?_) h
  obtain ⟨g1, g2, g3, g4⟩ := h1
  have ⟨a1, a2⟩ := inR_N (b := 2) g1
  have ⟨b1, b2⟩ := inR_N (b := 8) g2
  refine ⟨gOk_span hi.1 a1 b1 (Or.inr ?_), nN t, nN y, a1, b1, rfl, fun z => z⟩
  by_cases ht : t = 0
  · rw [if_pos ht] at g3
    have ⟨c1, c2⟩ := inR_N (b := 100) g3
    refine ⟨nN v, c2, c1, fun z => ?_⟩
    have e : nN t = 0 := by rw [ht]; rfl
    omega
  · rw [if_neg ht] at g3
    have ⟨c1, c2⟩ := inR_N (b := 8) g3
    exact ⟨nN v, c2, by omega, fun _ => c1⟩
theorem uq_erase {V V1 V2 : VT} {T T1 T2 : Nat} {t y f q c c2 r r2 : Int32} (h : S_erase V T t y f q c r V1 T1) (g : S_erase V T t y f q c2 r2 V2 T2) : sameA c r V1 T1 c2 r2 V2 T2 := uq_sSet (by decide) h g
theorem inv_erase {V V1 : VT} {T T1 : Nat} {t y f q c r : Int32} (hi : inv V T) (h : S_erase V T t y f q c r V1 T1) : inv V1 T1 := by
  refine inv_sSet hi (fun h1 _ => ?_) h
  obtain ⟨g1, g2, g3⟩ := h1
  have ⟨a1, a2⟩ := inR_N (b := 2) g1
  have ⟨b1, b2⟩ := inR_N (b := 8) g2
  exact ⟨gOk_span hi.1 a1 b1 (Or.inl rfl), nN t, nN y, a1, b1, rfl, fun z => z⟩
theorem uq_eraseAll {V V1 V2 : VT} {T T1 T2 : Nat} {y f q c c2 r r2 : Int32} (h : S_eraseAll V T y f q c r V1 T1) (g : S_eraseAll V T y f q c2 r2 V2 T2) : sameA c r V1 T1 c2 r2 V2 T2 := uq_sEra h g
theorem inv_eraseAll {V V1 : VT} {T T1 : Nat} {y f q c r : Int32} (hi : inv V T) (h : S_eraseAll V T y f q c r V1 T1) : inv V1 T1 := inv_sEra (fun h1 => (inR_N (b := 8) h1.1).1) hi h
theorem uq_restore {V V1 V2 : VT} {T T1 T2 : Nat} {t y q c c2 r r2 : Int32} (h : S_restore V T t y q c r V1 T1) (g : S_restore V T t y q c2 r2 V2 T2) : sameA c r V1 T1 c2 r2 V2 T2 := uq_sSet (by decide) h g
theorem inv_restore {V V1 : VT} {T T1 : Nat} {t y q c r : Int32} (hT : T < 60) (hi : inv V T) (h : S_restore V T t y q c r V1 T1) : inv V1 T1 := by
  refine inv_sSet hi (fun h1 h2 => ?_) h
  obtain ⟨g1, g2, g3⟩ := h1
  have ⟨a1, a2⟩ := inR_N (b := 2) g1
  have ⟨b1, b2⟩ := inR_N (b := 8) g2
  have ⟨c1, c2⟩ := inR_N (b := 60) g3
  rw [c2] at h2
  have c3 := i_le (b := T) h2
  exact ⟨fun d hd => hi.1 _ _ d c3 (by omega) hd, nN t, nN y, a1, b1, rfl, fun z => z⟩
theorem uq_pass {V V1 V2 : VT} {T T1 T2 : Nat} {n9 c c2 r r2 : Int32} (h : S_pass V T n9 c r V1 T1) (g : S_pass V T n9 c2 r2 V2 T2) : sameA c r V1 T1 c2 r2 V2 T2 := uq_sPs h g
theorem inv_pass {V V1 : VT} {T T1 : Nat} {n9 c r : Int32} (hi : inv V T) (h : S_pass V T n9 c r V1 T1) : inv V1 T1 := inv_sPs hi h
/-- references hold on all days of record -/
def refA (V : VT) (T : Nat) : Prop := ∀ r i d, r ≤ T → i < 8 → d < 60 → V r (8 + i) d = -1 ∨ ∃ j, V r (8 + i) d = nI j ∧ j < 8 ∧ ¬ V r j d = -1
def INV (V : VT) (T : Nat) : Prop := valOk V T ∧ refA V T
theorem INV.inv {V : VT} {T : Nat} (h : INV V T) : inv V T := ⟨h.1, fun i d a1 a2 => h.2 T i d (Nat.le_refl T) a1 a2⟩
theorem INV_new : INV (fun _ _ _ => -1) 0 := ⟨inv_new.1, fun _ _ _ _ _ _ => Or.inl rfl⟩
theorem INV_of {V V1 : VT} {T : Nat} (h : INV V T) (h1 : inv V1 T) (e : ∀ r l d, r < T → V1 r l d = V r l d) : INV V1 T := ⟨h1.1, fun r i d a0 a1 a2 => by
  by_cases hr : r = T
  · subst hr
    exact h1.2 i d a1 a2
  · rcases h.2 r i d a0 a1 a2 with z | ⟨j, z1, z2, z3⟩
    · exact Or.inl (by rw [e r _ d (by omega)]; exact z)
    · exact Or.inr ⟨j, by rw [e r _ d (by omega)]; exact z1, z2, by rw [e r _ d (by omega)]; exact z3⟩⟩
theorem INV_sSet {V V1 : VT} {T T1 : Nat} {P1 P2 P3 : Prop} {c3 c r : Int32} {li : Nat} {g : Nat → Int32} (hi : INV V T) (h1 : inv V1 T1) (h : sSet V T P1 P2 P3 c3 li g c r V1 T1) : INV V1 T1 := by
  obtain ⟨rfl, ⟨-, -, rfl⟩ | ⟨-, -, -, rfl⟩ | ⟨-, -, -, -, rfl⟩ | ⟨-, -, -, -, -, rfl⟩⟩ := h
  · exact hi
  · exact hi
  · exact hi
  · exact INV_of hi h1 (fun r l d hr => if_neg (by omega))
theorem INV_sEra {V V1 : VT} {T T1 : Nat} {P1 : Prop} {c r : Int32} {y a b : Nat} (hi : INV V T) (h1 : inv V1 T1) (h : sEra V T P1 y a b c r V1 T1) : INV V1 T1 := by
  obtain ⟨rfl, ⟨-, -, rfl⟩ | ⟨-, -, -, rfl⟩⟩ := h
  · exact hi
  · exact INV_of hi h1 (fun r l d hr => if_neg (by omega))
theorem INV_sPs {V V1 : VT} {T T1 : Nat} {P1 P2 : Prop} {c r : Int32} {n : Nat} (hi : INV V T) (h1 : inv V1 T1) (h : sPs V T P1 P2 n c r V1 T1) : INV V1 T1 := by
  obtain ⟨-, -, rfl, rfl⟩ | ⟨-, -, -, rfl, rfl⟩ | ⟨-, -, -, -, rfl, rfl⟩ := h
  · exact hi
  · exact hi
  refine ⟨h1.1, fun r i d a0 a1 a2 => ?_⟩
  by_cases hr : r ≤ T
  · rcases hi.2 r i d hr a1 a2 with z | ⟨j, z1, z2, z3⟩
    · exact Or.inl (by unfold psV; rw [if_pos hr]; exact z)
    · exact Or.inr ⟨j, by unfold psV; rw [if_pos hr]; exact z1, z2, by unfold psV; rw [if_pos hr]; exact z3⟩
  · rcases hi.2 T i d (Nat.le_refl T) a1 a2 with z | ⟨j, z1, z2, z3⟩
    · exact Or.inl (by unfold psV; rw [if_neg hr, if_pos a0]; exact z)
    · exact Or.inr ⟨j, by unfold psV; rw [if_neg hr, if_pos a0]; exact z1, z2, by unfold psV; rw [if_neg hr, if_pos a0]; exact z3⟩
/-- what the law's 'does' does -/
def sDo (V : VT) (T : Nat) (h t y x f q r : Int32) (V' : VT) (T' : Nat) : Prop := ∃ c r0 : Int32, (if h = 0 then S_put V T t y x f q c r0 V' T' else if h = 1 then S_erase V T t y f q c r0 V' T' else if h = 2 then S_eraseAll V T y f q c r0 V' T' else if h = 3 then S_restore V T t y f c r0 V' T' else S_pass V T x c r0 V' T') ∧ r = if c = 0 then r0 else -99999
theorem told_of {c r0 c2 r2 : Int32} {V1 V2 : VT} {T1 T2 : Nat} (h : sameA c r0 V1 T1 c2 r2 V2 T2) : (if c = 0 then r0 else -99999) = (if c2 = 0 then r2 else -99999) ∧ V1 = V2 ∧ T1 = T2 := by
  obtain ⟨rfl, h1, h2, h3⟩ := h
  refine ⟨?_, h1, h2⟩
  by_cases hc : c = 0
  · rw [if_pos hc, if_pos hc, h3 hc]
  · rw [if_neg hc, if_neg hc]
theorem sDo_uq {V : VT} {T : Nat} {h t y x f q r r2 : Int32} {V1 V2 : VT} {T1 T2 : Nat} (h1 : sDo V T h t y x f q r V1 T1) (h2 : sDo V T h t y x f q r2 V2 T2) : r = r2 ∧ V1 = V2 ∧ T1 = T2 := by
  obtain ⟨c, r0, g1, rfl⟩ := h1
  obtain ⟨c2, r02, g2, rfl⟩ := h2
  refine told_of ?_
  by_cases e0 : h = 0
  · rw [if_pos e0] at g1 g2
    exact uq_put g1 g2
  rw [if_neg e0] at g1 g2
  by_cases e1 : h = 1
  · rw [if_pos e1] at g1 g2
    exact uq_erase g1 g2
  rw [if_neg e1] at g1 g2
  by_cases e2 : h = 2
  · rw [if_pos e2] at g1 g2
    exact uq_eraseAll g1 g2
  rw [if_neg e2] at g1 g2
  by_cases e3 : h = 3
  · rw [if_pos e3] at g1 g2
    exact uq_restore g1 g2
  rw [if_neg e3] at g1 g2
  exact uq_pass g1 g2
theorem sDo_inv {V : VT} {T : Nat} {h t y x f q r : Int32} {V1 : VT} {T1 : Nat} (hT : T < 60) (hi : INV V T) (h1 : sDo V T h t y x f q r V1 T1) : INV V1 T1 := by
  obtain ⟨c, r0, g1, rfl⟩ := h1
  by_cases e0 : h = 0
  · rw [if_pos e0] at g1
    exact INV_sSet hi (inv_put hi.inv g1) g1
  rw [if_neg e0] at g1
  by_cases e1 : h = 1
  · rw [if_pos e1] at g1
    exact INV_sSet hi (inv_erase hi.inv g1) g1
  rw [if_neg e1] at g1
  by_cases e2 : h = 2
  · rw [if_pos e2] at g1
    exact INV_sEra hi (inv_eraseAll hi.inv g1) g1
  rw [if_neg e2] at g1
  by_cases e3 : h = 3
  · rw [if_pos e3] at g1
    exact INV_sSet hi (inv_restore hT hi.inv g1) g1
  rw [if_neg e3] at g1
  exact INV_sPs hi (inv_pass hi.inv g1) g1
theorem m9_ne {n : Nat} (h : n < 2 ^ 31) : ¬ nI n = -99999 := fun q => by
  have h1 : (nI n).toInt = (-99999 : Int32).toInt := by rw [q]
  rw [nI_toInt h, show (-99999 : Int32).toInt = -99999 from by decide] at h1
  omega
/-- what throws changes nothing -/
theorem off_sSet {V V1 : VT} {T T1 : Nat} {P1 P2 P3 : Prop} {c3 c r : Int32} {li : Nat} {g : Nat → Int32} (h : sSet V T P1 P2 P3 c3 li g c r V1 T1) (hr : (if c = 0 then r else -99999) = (-99999 : Int32)) : V1 = V ∧ T1 = T := by
  obtain ⟨rfl, ⟨-, -, rfl⟩ | ⟨-, -, -, rfl⟩ | ⟨-, -, -, -, rfl⟩ | ⟨-, -, -, rfl, rfl, rfl⟩⟩ := h
  · exact ⟨rfl, rfl⟩
  · exact ⟨rfl, rfl⟩
  · exact ⟨rfl, rfl⟩
  · have := fb_ct_le (fun d => bP (¬ V T1 li d = g d)) 60
    rw [if_pos rfl] at hr
    exact absurd hr (m9_ne (by omega))
theorem loN_le (V : VT) (T y d : Nat) : loN V T y d ≤ 9 := by
  unfold loN
  have := fb_ct_le (fun i => bP (V T (8 + i) d = nI y)) 8
  split <;> omega
theorem off_sEra {V V1 : VT} {T T1 : Nat} {P1 : Prop} {c r : Int32} {y a b : Nat} (hb : P1 → b ≤ 60) (h : sEra V T P1 y a b c r V1 T1) (hr : (if c = 0 then r else -99999) = (-99999 : Int32)) : V1 = V ∧ T1 = T := by
  obtain ⟨rfl, ⟨-, -, rfl⟩ | ⟨hp, rfl, rfl, rfl⟩⟩ := h
  · exact ⟨rfl, rfl⟩
  · have h1 := fb_sm_bound (f := fun i => loN V T1 y (a + i)) (c := 9) (n := b - a) (fun k _ => loN_le V T1 y (a + k))
    have h2 := hb hp
    rw [if_pos rfl] at hr
    exact absurd hr (m9_ne (by omega))
theorem off_sPs {V V1 : VT} {T T1 : Nat} {P1 P2 : Prop} {c r : Int32} {n : Nat} (hn : P1 → P2 → T + n < 60) (h : sPs V T P1 P2 n c r V1 T1) (hr : (if c = 0 then r else -99999) = (-99999 : Int32)) : V1 = V ∧ T1 = T := by
  obtain ⟨-, -, rfl, rfl⟩ | ⟨-, -, -, rfl, rfl⟩ | ⟨h1, h2, rfl, rfl, rfl, rfl⟩ := h
  · exact ⟨rfl, rfl⟩
  · exact ⟨rfl, rfl⟩
  · have := hn h1 h2
    rw [if_pos rfl] at hr
    exact absurd hr (m9_ne (by omega))
theorem sDo_off {V : VT} {T : Nat} {h t y x f q r : Int32} {V1 : VT} {T1 : Nat} (h1 : sDo V T h t y x f q r V1 T1) (hr : r = -99999) : V1 = V ∧ T1 = T := by
  obtain ⟨c, r0, g1, e⟩ := h1
  rw [e] at hr
  by_cases e0 : h = 0
  · rw [if_pos e0] at g1
    exact off_sSet g1 hr
  rw [if_neg e0] at g1
  by_cases e1 : h = 1
  · rw [if_pos e1] at g1
    exact off_sSet g1 hr
  rw [if_neg e1] at g1
  by_cases e2 : h = 2
  · rw [if_pos e2] at g1
    exact off_sEra (fun z => (spanR_N z.2).2.2.2.1) g1 hr
  rw [if_neg e2] at g1
  by_cases e3 : h = 3
  · rw [if_pos e3] at g1
    exact off_sSet g1 hr
  rw [if_neg e3] at g1
  exact off_sPs (fun _ z => z) g1 hr
/-- a key restored to a day of record -/
theorem restore_so {V : VT} {T t y q : Nat} (ht : t < 2) (hy : y < 8) (hT : T < 60) (hq : q ≤ T) (hi : INV V T) {x z r : Int32} {V1 : VT} {T1 : Nat} (h1 : sDo V T 3 (nI t) (nI y) x (nI q) z r V1 T1) :
    T1 = T ∧ ((r = -99999 ∧ V1 = V ∧ q < T) ∨ ∃ n, n ≤ 60 ∧ r = nI n ∧ (∀ d, d < 60 → V1 T (t * 8 + y) d = V1 q (t * 8 + y) d) ∧ (n = 0 → V1 = V) ∧ (q = T → n = 0)) := by
  obtain ⟨c, r0, g1, rfl⟩ := h1
  rw [if_neg (by decide), if_neg (by decide), if_neg (by decide), if_pos rfl] at g1
  unfold S_restore at g1
  rw [show nN (nI t) = t from nI_clamp (by omega), show nN (nI y) = y from nI_clamp (by omega), show nN (nI q) = q from nI_clamp (by omega)] at g1
  obtain ⟨rfl, ⟨hp, -⟩ | ⟨-, hp, -⟩ | ⟨-, -, hp, rfl, rfl⟩ | ⟨-, -, hp, rfl, rfl, rfl⟩⟩ := g1
  · exact absurd ⟨inR_of (b := 2) ht, inR_of (b := 8) hy, inR_of (b := 60) (by omega)⟩ hp
  · exact absurd (nI_le hq (by omega)) hp
  · refine ⟨rfl, Or.inl ⟨if_neg (by decide), rfl, ?_⟩⟩
    by_cases hqT : q = T1
    · subst hqT
      refine absurd (fun d hd => ⟨fun e1 e2 ⟨i, i1, i2⟩ => ?_, fun e1 e2 => ?_⟩) hp
      · rcases hi.2 q i d (Nat.le_refl _) i1 hd with w | ⟨j, w1, w2, w3⟩
        · rw [i2] at w
          exact nI_m1 (by omega) w
        · rw [i2] at w1
          have w4 := i_eq w1
          subst w4
          subst e1
          rw [show 0 * 8 + y = y by omega] at e2
          exact w3 e2
      · subst e1
        rw [show 1 * 8 + y = 8 + y by omega] at e2 ⊢
        rcases hi.2 q y d (Nat.le_refl _) hy hd with w | ⟨j, w1, w2, w3⟩
        · exact absurd w e2
        · rw [w1, nI_clamp (by omega)]
          exact w3
    · omega
  · refine ⟨rfl, Or.inr ⟨_, fb_ct_le _ 60, if_pos rfl, fun d hd => ?_, fun hn => ?_, fun hqT => ?_⟩⟩
    · unfold updR
      rw [if_pos ⟨rfl, rfl, by omega, hd⟩]
      by_cases hqT : q = T1
      · rw [if_pos ⟨hqT, rfl, by omega, hd⟩]
      · rw [if_neg (fun z => hqT z.1)]
    · funext a l d
      unfold updR
      by_cases hc : a = T1 ∧ l = t * 8 + y ∧ 0 ≤ d ∧ d < 60
      · rw [if_pos hc]
        have w := bP_nf (fb_ct_zero.mp hn d hc.2.2.2)
        obtain ⟨rfl, rfl, -⟩ := hc
        exact (Classical.not_not.mp w).symm
      · rw [if_neg hc]
    · refine fb_ct_zero.mpr (fun d hd => bP_f (fun z => z ?_))
      rw [hqT]
