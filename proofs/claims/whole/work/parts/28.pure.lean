/-! the answers are one: what is the same on both sides; what stays true of the table -/
def sameA (c r : Int32) (V1 : VT) (T1 : Nat) (c2 r2 : Int32) (V2 : VT) (T2 : Nat) : Prop := c = c2 ∧ V1 = V2 ∧ T1 = T2 ∧ (c = 0 → r = r2)
theorem uq_qS {V V1 V2 : VT} {T T1 T2 : Nat} {P1 P2 : Prop} {r0 c c2 r r2 : Int32} (h : qS V T P1 P2 r0 c r V1 T1) (g : qS V T P1 P2 r0 c2 r2 V2 T2) : sameA c r V1 T1 c2 r2 V2 T2 := by
  obtain ⟨rfl, rfl, h⟩ := h
  obtain ⟨rfl, rfl, g⟩ := g
  rcases h with ⟨h1, h2⟩ | ⟨h1, h2, h3⟩ | ⟨h1, h2, h3, h4⟩ <;> rcases g with ⟨g1, g2⟩ | ⟨g1, g2, g3⟩ | ⟨g1, g2, g3, g4⟩
  · exact ⟨h2.trans g2.symm, rfl, rfl, fun z => absurd (h2.symm.trans z) (by decide)⟩
  · exact absurd g1 h1
  · exact absurd g1 h1
  · exact absurd h1 g1
  · exact ⟨h3.trans g3.symm, rfl, rfl, fun z => absurd (h3.symm.trans z) (by decide)⟩
  · exact absurd g2 h2
  · exact absurd h1 g1
  · exact absurd h2 g2
  · exact ⟨h3.trans g3.symm, rfl, rfl, fun _ => h4.trans g4.symm⟩
theorem uq_sSet {V V1 V2 : VT} {T T1 T2 : Nat} {P1 P2 P3 : Prop} {c3 c c2 r r2 : Int32} {li : Nat} {gf : Nat → Int32} (h0 : ¬ c3 = 0) (h : sSet V T P1 P2 P3 c3 li gf c r V1 T1) (g : sSet V T P1 P2 P3 c3 li gf c2 r2 V2 T2) : sameA c r V1 T1 c2 r2 V2 T2 := by
  obtain ⟨rfl, h⟩ := h
  obtain ⟨rfl, g⟩ := g
  rcases h with ⟨h1, h2, h3⟩ | ⟨h1, h2, h3, h4⟩ | ⟨h1, h2, h3, h4, h5⟩ | ⟨h1, h2, h3, h4, h5, h6⟩ <;> rcases g with ⟨g1, g2, g3⟩ | ⟨g1, g2, g3, g4⟩ | ⟨g1, g2, g3, g4, g5⟩ | ⟨g1, g2, g3, g4, g5, g6⟩
  · exact ⟨h2.trans g2.symm, h3.trans g3.symm, rfl, fun z => absurd (h2.symm.trans z) (by decide)⟩
  · exact absurd g1 h1
  · exact absurd g1 h1
  · exact absurd g1 h1
  · exact absurd h1 g1
  · exact ⟨h3.trans g3.symm, h4.trans g4.symm, rfl, fun z => absurd (h3.symm.trans z) (by decide)⟩
  · exact absurd g2 h2
  · exact absurd g2 h2
  · exact absurd h1 g1
  · exact absurd h2 g2
  · exact ⟨h4.trans g4.symm, h5.trans g5.symm, rfl, fun z => absurd (h4.symm.trans z) h0⟩
  · exact absurd g3 h3
  · exact absurd h1 g1
  · exact absurd h2 g2
  · exact absurd h3 g3
  · exact ⟨h4.trans g4.symm, h6.trans g6.symm, rfl, fun _ => h5.trans g5.symm⟩
theorem uq_sEra {V V1 V2 : VT} {T T1 T2 : Nat} {P1 : Prop} {c c2 r r2 : Int32} {y a b : Nat} (h : sEra V T P1 y a b c r V1 T1) (g : sEra V T P1 y a b c2 r2 V2 T2) : sameA c r V1 T1 c2 r2 V2 T2 := by
  obtain ⟨rfl, h⟩ := h
  obtain ⟨rfl, g⟩ := g
  rcases h with ⟨h1, h2, h3⟩ | ⟨h1, h2, h3, h4⟩ <;> rcases g with ⟨g1, g2, g3⟩ | ⟨g1, g2, g3, g4⟩
  · exact ⟨h2.trans g2.symm, h3.trans g3.symm, rfl, fun z => absurd (h2.symm.trans z) (by decide)⟩
  · exact absurd g1 h1
  · exact absurd h1 g1
  · exact ⟨h2.trans g2.symm, h4.trans g4.symm, rfl, fun _ => h3.trans g3.symm⟩
theorem uq_sPs {V V1 V2 : VT} {T T1 T2 : Nat} {P1 P2 : Prop} {c c2 r r2 : Int32} {n : Nat} (h : sPs V T P1 P2 n c r V1 T1) (g : sPs V T P1 P2 n c2 r2 V2 T2) : sameA c r V1 T1 c2 r2 V2 T2 := by
  rcases h with ⟨h1, h2, h3, h4⟩ | ⟨h1, h2, h3, h4, h5⟩ | ⟨h1, h2, h3, h4, h5, h6⟩ <;> rcases g with ⟨g1, g2, g3, g4⟩ | ⟨g1, g2, g3, g4, g5⟩ | ⟨g1, g2, g3, g4, g5, g6⟩
  · exact ⟨h2.trans g2.symm, h3.trans g3.symm, h4.trans g4.symm, fun z => absurd (h2.symm.trans z) (by decide)⟩
  · exact absurd g1 h1
  · exact absurd g1 h1
  · exact absurd h1 g1
  · exact ⟨h3.trans g3.symm, h4.trans g4.symm, h5.trans g5.symm, fun z => absurd (h3.symm.trans z) (by decide)⟩
  · exact absurd g2 h2
  · exact absurd h1 g1
  · exact absurd h2 g2
  · exact ⟨h3.trans g3.symm, h5.trans g5.symm, h6.trans g6.symm, fun _ => h4.trans g4.symm⟩
theorem uq_aS {V V1 V2 : VT} {T T1 T2 : Nat} {P1 P2 : Prop} {fv : Nat → Int32} {c c2 : Int32} {r r2 : UInt32} (h : aS V T P1 P2 fv c r V1 T1) (g : aS V T P1 P2 fv c2 r2 V2 T2) : c = c2 ∧ V1 = V2 ∧ T1 = T2 ∧ (c = 0 → r = r2) := by
  obtain ⟨rfl, rfl, h⟩ := h
  obtain ⟨rfl, rfl, g⟩ := g
  rcases h with ⟨h1, h2⟩ | ⟨h1, h2, h3⟩ | ⟨h1, h2, h3, h4⟩ | ⟨h1, h2, h3, h4, h5⟩ <;> rcases g with ⟨g1, g2⟩ | ⟨g1, g2, g3⟩ | ⟨g1, g2, g3, g4⟩ | ⟨g1, g2, g3, g4, g5⟩
  · exact ⟨h2.trans g2.symm, rfl, rfl, fun z => absurd (h2.symm.trans z) (by decide)⟩
  · exact absurd g1 h1
  · exact absurd g1 h1
  · exact absurd g1 h1
  · exact absurd h1 g1
  · exact ⟨h3.trans g3.symm, rfl, rfl, fun z => absurd (h3.symm.trans z) (by decide)⟩
  · exact absurd g2 h2
  · exact absurd g2 h2
  · exact absurd h1 g1
  · exact absurd h2 g2
  · exact ⟨h4.trans g4.symm, rfl, rfl, fun z => absurd (h4.symm.trans z) (by decide)⟩
  · exact absurd h3 g3
  · exact absurd h1 g1
  · exact absurd h2 g2
  · exact absurd g3 h3
  · exact ⟨h4.trans g4.symm, rfl, rfl, fun _ => h5.trans g5.symm⟩
def inv (V : VT) (T : Nat) : Prop := valOk V T ∧ refOk V T
theorem inv_new : inv (fun _ _ _ => -1) 0 := ⟨fun _ _ _ _ _ _ => Or.inl rfl, fun _ _ _ _ => Or.inl rfl⟩
theorem inv_qS {V V1 : VT} {T T1 : Nat} {P1 P2 : Prop} {r0 c r : Int32} (hi : inv V T) (h : qS V T P1 P2 r0 c r V1 T1) : inv V1 T1 := by
  obtain ⟨rfl, rfl, -⟩ := h
  exact hi
theorem inv_aS {V V1 : VT} {T T1 : Nat} {P1 P2 : Prop} {fv : Nat → Int32} {c : Int32} {r : UInt32} (hi : inv V T) (h : aS V T P1 P2 fv c r V1 T1) : inv V1 T1 := by
  obtain ⟨rfl, rfl, -⟩ := h
  exact hi
def gOk (g : Nat → Int32) (li : Nat) : Prop := ∀ d, d < 60 → g d = -1 ∨ ∃ j, g d = nI j ∧ j < 100 ∧ (8 ≤ li → j < 8)
theorem inv_sSet {V V1 : VT} {T T1 : Nat} {P1 P2 P3 : Prop} {c3 c r : Int32} {li : Nat} {g : Nat → Int32} (hi : inv V T) (hg : P1 → P2 → gOk g li ∧ ∃ t9 y9, t9 < 2 ∧ y9 < 8 ∧ li = t9 * 8 + y9 ∧ (P3 → keepP V T g t9 y9)) (h : sSet V T P1 P2 P3 c3 li g c r V1 T1) : inv V1 T1 := by
  obtain ⟨rfl, ⟨-, -, rfl⟩ | ⟨-, -, -, rfl⟩ | ⟨-, -, -, -, rfl⟩ | ⟨h1, h2, h3, -, -, rfl⟩⟩ := h
  · exact hi
  · exact hi
  · exact hi
  obtain ⟨hv, hr⟩ := hi
  obtain ⟨h4, t9, y9, ht, hy, rfl, hk⟩ := hg h1 h2
  have hk := hk h3
  refine ⟨fun r l d a1 a2 a3 => ?_, fun i d a1 a2 => ?_⟩
  · unfold updR
    by_cases h : r = T1 ∧ l = t9 * 8 + y9 ∧ 0 ≤ d ∧ d < 60
    · rw [if_pos h]
      have := h4 d a3
      rw [← h.2.1] at this
      exact this
    · rw [if_neg h]
      exact hv r l d a1 a2 a3
  · by_cases ht0 : t9 = 0
    · subst ht0
      have e1 : updR V T1 (0 * 8 + y9) g 0 60 T1 (8 + i) d = V T1 (8 + i) d := if_neg (by omega)
      rw [e1]
      rcases hr i d a1 a2 with z | ⟨j, z1, z2, z3⟩
      · exact Or.inl z
      · refine Or.inr ⟨j, z1, z2, ?_⟩
        unfold updR
        by_cases hj : j = y9
        · subst hj
          rw [if_pos ⟨rfl, by omega, by omega, a2⟩]
          exact fun q => (hk d a2).1 rfl q ⟨i, a1, z1⟩
        · rw [if_neg (by omega)]
          exact z3
    · have ht1 : t9 = 1 := by omega
      subst ht1
      have e2 : ∀ j, j < 8 → updR V T1 (1 * 8 + y9) g 0 60 T1 j d = V T1 j d := fun j hj => if_neg (by omega)
      by_cases hi : i = y9
      · subst hi
        have e1 : updR V T1 (1 * 8 + i) g 0 60 T1 (8 + i) d = g d := if_pos ⟨rfl, by omega, by omega, a2⟩
        rw [e1]
        rcases h4 d a2 with z | ⟨j, z1, z2, z3⟩
        · exact Or.inl z
        · have z4 := z3 (by omega)
          refine Or.inr ⟨j, z1, z4, ?_⟩
          rw [e2 j z4]
          have := (hk d a2).2 rfl (by rw [z1]; exact nI_m1 (by omega))
          rw [z1, nI_clamp (by omega)] at this
          exact this
      · have e1 : updR V T1 (1 * 8 + y9) g 0 60 T1 (8 + i) d = V T1 (8 + i) d := if_neg (by omega)
        rw [e1]
        rcases hr i d a1 a2 with z | ⟨j, z1, z2, z3⟩
        · exact Or.inl z
        · exact Or.inr ⟨j, z1, z2, by rw [e2 j z2]; exact z3⟩
theorem inv_sEra {V V1 : VT} {T T1 : Nat} {P1 : Prop} {c r : Int32} {y a b : Nat} (hy : P1 → y < 8) (hi : inv V T) (h : sEra V T P1 y a b c r V1 T1) : inv V1 T1 := by
  obtain ⟨rfl, ⟨-, -, rfl⟩ | ⟨h1, -, -, rfl⟩⟩ := h
  · exact hi
  have hy := hy h1
  obtain ⟨hv, hr⟩ := hi
  refine ⟨fun r l d a1 a2 a3 => ?_, fun i d a1 a2 => ?_⟩
  · unfold eraV
    by_cases h : r = T1 ∧ a ≤ d ∧ d < b ∧ (l = y ∨ (8 ≤ l ∧ V T1 l d = nI y))
    · rw [if_pos h]
      exact Or.inl rfl
    · rw [if_neg h]
      exact hv r l d a1 a2 a3
  · unfold eraV
    by_cases h : T1 = T1 ∧ a ≤ d ∧ d < b ∧ (8 + i = y ∨ (8 ≤ 8 + i ∧ V T1 (8 + i) d = nI y))
    · rw [if_pos h]
      exact Or.inl rfl
    · rw [if_neg h]
      rcases hr i d a1 a2 with z | ⟨j, z1, z2, z3⟩
      · exact Or.inl z
      · refine Or.inr ⟨j, z1, z2, ?_⟩
        rw [if_neg (fun q => ?_)]
        · exact z3
        · rcases q.2.2.2 with q2 | q2
          · subst q2
            exact h ⟨rfl, q.2.1, q.2.2.1, Or.inr ⟨by omega, z1⟩⟩
          · omega
theorem inv_sPs {V V1 : VT} {T T1 : Nat} {P1 P2 : Prop} {c r : Int32} {n : Nat} (hi : inv V T) (h : sPs V T P1 P2 n c r V1 T1) : inv V1 T1 := by
  obtain ⟨-, -, rfl, rfl⟩ | ⟨-, -, -, rfl, rfl⟩ | ⟨-, -, -, -, rfl, rfl⟩ := h
  · exact hi
  · exact hi
  obtain ⟨hv, hr⟩ := hi
  refine ⟨fun r l d a1 a2 a3 => ?_, fun i d a1 a2 => ?_⟩
  · unfold psV
    by_cases h : r ≤ T
    · rw [if_pos h]
      exact hv r l d h a2 a3
    · rw [if_neg h, if_pos a1]
      exact hv T l d (Nat.le_refl T) a2 a3
  · have e : ∀ l, psV V T n (T + n) l d = V T l d := fun l => by
      unfold psV
      by_cases h : T + n ≤ T
      · rw [if_pos h, show T + n = T by omega]
      · rw [if_neg h, if_pos (Nat.le_refl _)]
    rw [e]
    rcases hr i d a1 a2 with z | ⟨j, z1, z2, z3⟩
    · exact Or.inl z
    · exact Or.inr ⟨j, z1, z2, by rw [e]; exact z3⟩
theorem gOk_span {V : VT} {T t9 y9 : Nat} {v f q : Int32} (hv : valOk V T) (ht : t9 < 2) (hy : y9 < 8) (h : v = -1 ∨ ∃ j, v = nI j ∧ j < 100 ∧ (8 ≤ t9 * 8 + y9 → j < 8)) : gOk (spG V T (t9 * 8 + y9) v f q) (t9 * 8 + y9) := by
  intro d hd
  unfold spG
  by_cases hc : nN f ≤ d ∧ d < nN q
  · rw [if_pos hc]
    exact h
  · rw [if_neg hc]
    exact hv T (t9 * 8 + y9) d (Nat.le_refl T) (by omega) hd
theorem uq_put {V V1 V2 : VT} {T T1 T2 : Nat} {t y v f q c c2 r r2 : Int32} (h : S_put V T t y v f q c r V1 T1) (g : S_put V T t y v f q c2 r2 V2 T2) : sameA c r V1 T1 c2 r2 V2 T2 := uq_sSet (by decide) h g
theorem inv_put {V V1 : VT} {T T1 : Nat} {t y v f q c r : Int32} (hi : inv V T) (h : S_put V T t y v f q c r V1 T1) : inv V1 T1 := by
  refine inv_sSet hi (fun h1 _ => ?_) h
  obtain ⟨g1, g2, g3, g4⟩ := h1
  have ⟨a1, a2⟩ := inR_N (b := 2) g1
  have ⟨b1, b2⟩ := inR_N (b := 8) g2
  refine ⟨gOk_span hi.1 a1 b1 (Or.inr ?_), nN t, nN y, a1, b1, rfl, fun z => z⟩
  by_cases ht : t = 0
  · rw [if_pos ht] at g3
    have ⟨c1, c2⟩ := inR_N (b := 100) g3
    refine ⟨nN v, c2, c1, fun z => ?_⟩
    have e : nN t = 0 := by rw [ht]; rfl
    omega
  · rw [if_neg ht] at g3
    have ⟨c1, c2⟩ := inR_N (b := 8) g3
    exact ⟨nN v, c2, by omega, fun _ => c1⟩
theorem uq_erase {V V1 V2 : VT} {T T1 T2 : Nat} {t y f q c c2 r r2 : Int32} (h : S_erase V T t y f q c r V1 T1) (g : S_erase V T t y f q c2 r2 V2 T2) : sameA c r V1 T1 c2 r2 V2 T2 := uq_sSet (by decide) h g
theorem inv_erase {V V1 : VT} {T T1 : Nat} {t y f q c r : Int32} (hi : inv V T) (h : S_erase V T t y f q c r V1 T1) : inv V1 T1 := by
  refine inv_sSet hi (fun h1 _ => ?_) h
  obtain ⟨g1, g2, g3⟩ := h1
  have ⟨a1, a2⟩ := inR_N (b := 2) g1
  have ⟨b1, b2⟩ := inR_N (b := 8) g2
  exact ⟨gOk_span hi.1 a1 b1 (Or.inl rfl), nN t, nN y, a1, b1, rfl, fun z => z⟩
theorem uq_eraseAll {V V1 V2 : VT} {T T1 T2 : Nat} {y f q c c2 r r2 : Int32} (h : S_eraseAll V T y f q c r V1 T1) (g : S_eraseAll V T y f q c2 r2 V2 T2) : sameA c r V1 T1 c2 r2 V2 T2 := uq_sEra h g
theorem inv_eraseAll {V V1 : VT} {T T1 : Nat} {y f q c r : Int32} (hi : inv V T) (h : S_eraseAll V T y f q c r V1 T1) : inv V1 T1 := inv_sEra (fun h1 => (inR_N (b := 8) h1.1).1) hi h
theorem uq_restore {V V1 V2 : VT} {T T1 T2 : Nat} {t y q c c2 r r2 : Int32} (h : S_restore V T t y q c r V1 T1) (g : S_restore V T t y q c2 r2 V2 T2) : sameA c r V1 T1 c2 r2 V2 T2 := uq_sSet (by decide) h g
theorem inv_restore {V V1 : VT} {T T1 : Nat} {t y q c r : Int32} (hT : T < 60) (hi : inv V T) (h : S_restore V T t y q c r V1 T1) : inv V1 T1 := by
  refine inv_sSet hi (fun h1 h2 => ?_) h
  obtain ⟨g1, g2, g3⟩ := h1
  have ⟨a1, a2⟩ := inR_N (b := 2) g1
  have ⟨b1, b2⟩ := inR_N (b := 8) g2
  have ⟨c1, c2⟩ := inR_N (b := 60) g3
  rw [c2] at h2
  have c3 := i_le (b := T) h2
  exact ⟨fun d hd => hi.1 _ _ d c3 (by omega) hd, nN t, nN y, a1, b1, rfl, fun z => z⟩
theorem uq_pass {V V1 V2 : VT} {T T1 T2 : Nat} {n9 c c2 r r2 : Int32} (h : S_pass V T n9 c r V1 T1) (g : S_pass V T n9 c2 r2 V2 T2) : sameA c r V1 T1 c2 r2 V2 T2 := uq_sPs h g
theorem inv_pass {V V1 : VT} {T T1 : Nat} {n9 c r : Int32} (hi : inv V T) (h : S_pass V T n9 c r V1 T1) : inv V1 T1 := inv_sPs hi h
theorem lg_cmp_self (x : Int64) : lg_cmp x x = 0 := by
  unfold lg_cmp
  simp
theorem and31 (x : Int32) : ∃ j : Nat, j < 32 ∧ x &&& 31 = nI j := by
  refine ⟨(x &&& 31).toBitVec.toNat, ?_, ?_⟩
  · rw [show (x &&& 31).toBitVec = x.toBitVec &&& 31#32 from rfl, BitVec.toNat_and]
    exact Nat.lt_of_le_of_lt Nat.and_le_right (by decide)
  · refine Int32.toBitVec_inj.mp ?_
    show (x &&& 31).toBitVec = BitVec.ofNat 32 _
    rw [BitVec.ofNat_toNat]
    exact (BitVec.setWidth_eq _).symm
theorem len6 {L i : Nat} (hL : L ≤ 3072) (hi : i ≤ 3072) : nI L - 6 < nI i ↔ L < i + 6 := by
  by_cases h : 6 ≤ L
  · have e : nI L - 6 = nI (L - 6) := by
      obtain ⟨a, rfl⟩ : ∃ a, L = a + 6 := ⟨L - 6, by omega⟩
      rw [← nI_add, show a + 6 - 6 = a by omega]
      exact Int32.add_sub_cancel _ _
    rw [e, nI_ltI (by omega) (by omega)]
    omega
  · have h0 : nI L - 6 < 0 := by
      rcases (show L = 0 ∨ L = 1 ∨ L = 2 ∨ L = 3 ∨ L = 4 ∨ L = 5 by omega) with rfl | rfl | rfl | rfl | rfl | rfl <;> decide
    have h1 : (0 : Int32) ≤ nI i := nI_pos' (by omega)
    have h2 : nI L - 6 < nI i := by
      rw [Int32.lt_iff_toInt_lt] at h0 ⊢
      rw [Int32.le_iff_toInt_le] at h1
      omega
    exact ⟨fun _ => by omega, fun _ => h2⟩
theorem uq_value {V V1 V2 : VT} {T T1 T2 : Nat} {t y d q c c2 r r2 : Int32} (h : S_value V T t y d q c r V1 T1) (g : S_value V T t y d q c2 r2 V2 T2) : sameA c r V1 T1 c2 r2 V2 T2 := uq_qS h g
theorem inv_value {V V1 : VT} {T T1 : Nat} {t y d q c r : Int32} (hi : inv V T) (h : S_value V T t y d q c r V1 T1) : inv V1 T1 := inv_qS hi h
theorem uq_keys {V V1 V2 : VT} {T T1 T2 : Nat} {t d q c c2 r r2 : Int32} (h : S_keys V T t d q c r V1 T1) (g : S_keys V T t d q c2 r2 V2 T2) : sameA c r V1 T1 c2 r2 V2 T2 := uq_qS h g
theorem inv_keys {V V1 : VT} {T T1 : Nat} {t d q c r : Int32} (hi : inv V T) (h : S_keys V T t d q c r V1 T1) : inv V1 T1 := inv_qS hi h
theorem uq_joined {V V1 V2 : VT} {T T1 T2 : Nat} {y d q c c2 r r2 : Int32} (h : S_joined V T y d q c r V1 T1) (g : S_joined V T y d q c2 r2 V2 T2) : sameA c r V1 T1 c2 r2 V2 T2 := uq_qS h g
theorem inv_joined {V V1 : VT} {T T1 : Nat} {y d q c r : Int32} (hi : inv V T) (h : S_joined V T y d q c r V1 T1) : inv V1 T1 := inv_qS hi h
theorem uq_runs {V V1 V2 : VT} {T T1 T2 : Nat} {t y q c c2 r r2 : Int32} (h : S_runs V T t y q c r V1 T1) (g : S_runs V T t y q c2 r2 V2 T2) : sameA c r V1 T1 c2 r2 V2 T2 := uq_qS h g
theorem inv_runs {V V1 : VT} {T T1 : Nat} {t y q c r : Int32} (hi : inv V T) (h : S_runs V T t y q c r V1 T1) : inv V1 T1 := inv_qS hi h
theorem uq_run {V V1 V2 : VT} {T T1 T2 : Nat} {t y q w9 c c2 r r2 : Int32} (h : S_run V T t y q w9 c r V1 T1) (g : S_run V T t y q w9 c2 r2 V2 T2) : sameA c r V1 T1 c2 r2 V2 T2 := uq_qS h g
theorem inv_run {V V1 : VT} {T T1 : Nat} {t y q w9 c r : Int32} (hi : inv V T) (h : S_run V T t y q w9 c r V1 T1) : inv V1 T1 := inv_qS hi h
theorem uq_joinedRuns {V V1 V2 : VT} {T T1 T2 : Nat} {y q c c2 r r2 : Int32} (h : S_joinedRuns V T y q c r V1 T1) (g : S_joinedRuns V T y q c2 r2 V2 T2) : sameA c r V1 T1 c2 r2 V2 T2 := uq_qS h g
theorem inv_joinedRuns {V V1 : VT} {T T1 : Nat} {y q c r : Int32} (hi : inv V T) (h : S_joinedRuns V T y q c r V1 T1) : inv V1 T1 := inv_qS hi h
theorem uq_rows {V V1 V2 : VT} {T T1 T2 : Nat} {t y c c2 r r2 : Int32} (h : S_rows V T t y c r V1 T1) (g : S_rows V T t y c2 r2 V2 T2) : sameA c r V1 T1 c2 r2 V2 T2 := uq_qS h g
theorem inv_rows {V V1 : VT} {T T1 : Nat} {t y c r : Int32} (hi : inv V T) (h : S_rows V T t y c r V1 T1) : inv V1 T1 := inv_qS hi h
theorem uq_rowRun {V V1 V2 : VT} {T T1 T2 : Nat} {t y w9 c c2 r r2 : Int32} (h : S_rowRun V T t y w9 c r V1 T1) (g : S_rowRun V T t y w9 c2 r2 V2 T2) : sameA c r V1 T1 c2 r2 V2 T2 := uq_qS h g
theorem inv_rowRun {V V1 : VT} {T T1 : Nat} {t y w9 c r : Int32} (hi : inv V T) (h : S_rowRun V T t y w9 c r V1 T1) : inv V1 T1 := inv_qS hi h
theorem uq_rowFrom {V V1 V2 : VT} {T T1 T2 : Nat} {t y w9 c c2 r r2 : Int32} (h : S_rowFrom V T t y w9 c r V1 T1) (g : S_rowFrom V T t y w9 c2 r2 V2 T2) : sameA c r V1 T1 c2 r2 V2 T2 := uq_qS h g
theorem inv_rowFrom {V V1 : VT} {T T1 : Nat} {t y w9 c r : Int32} (hi : inv V T) (h : S_rowFrom V T t y w9 c r V1 T1) : inv V1 T1 := inv_qS hi h
theorem uq_rowTo {V V1 V2 : VT} {T T1 T2 : Nat} {t y w9 c c2 r r2 : Int32} (h : S_rowTo V T t y w9 c r V1 T1) (g : S_rowTo V T t y w9 c2 r2 V2 T2) : sameA c r V1 T1 c2 r2 V2 T2 := uq_qS h g
theorem inv_rowTo {V V1 : VT} {T T1 : Nat} {t y w9 c r : Int32} (hi : inv V T) (h : S_rowTo V T t y w9 c r V1 T1) : inv V1 T1 := inv_qS hi h
theorem uq_corrections {V V1 V2 : VT} {T T1 T2 : Nat} {t y d f q c c2 r r2 : Int32} (h : S_corrections V T t y d f q c r V1 T1) (g : S_corrections V T t y d f q c2 r2 V2 T2) : sameA c r V1 T1 c2 r2 V2 T2 := uq_qS h g
theorem inv_corrections {V V1 : VT} {T T1 : Nat} {t y d f q c r : Int32} (hi : inv V T) (h : S_corrections V T t y d f q c r V1 T1) : inv V1 T1 := inv_qS hi h
theorem uq_longest {V V1 V2 : VT} {T T1 T2 : Nat} {t y q c c2 r r2 : Int32} (h : S_longest V T t y q c r V1 T1) (g : S_longest V T t y q c2 r2 V2 T2) : sameA c r V1 T1 c2 r2 V2 T2 := uq_qS h g
theorem inv_longest {V V1 : VT} {T T1 : Nat} {t y q c r : Int32} (hi : inv V T) (h : S_longest V T t y q c r V1 T1) : inv V1 T1 := inv_qS hi h
