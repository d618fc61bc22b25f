/-! Twotimes: the changes -/
def sSet (V : VT) (T : Nat) (P1 P2 P3 : Prop) (c3 : Int32) (li : Nat) (g : Nat → Int32) : ST := fun c r V' T' => T' = T ∧ ((¬ P1 ∧ c = 1 ∧ V' = V) ∨ (P1 ∧ ¬ P2 ∧ c = 2 ∧ V' = V) ∨ (P1 ∧ P2 ∧ ¬ P3 ∧ c = c3 ∧ V' = V) ∨ (P1 ∧ P2 ∧ P3 ∧ c = 0 ∧ r = nI (fb_ct (fun d => bP (¬ V T li d = g d)) 60) ∧ V' = updR V T li g 0 60))
def spG (V : VT) (T li : Nat) (v f q : Int32) : Nat → Int32 := fun d => if nN f ≤ d ∧ d < nN q then v else V T li d
theorem keepP_cong {V : VT} {T : Nat} {g h : Nat → Int32} {t9 key : Nat} (e : ∀ d, d < 60 → g d = h d) (hk : keepP V T g t9 key) : keepP V T h t9 key := fun d hd => by
  have := hk d hd
  rw [e d hd] at this
  exact this
theorem updR_cong {V : VT} {T li : Nat} {g h : Nat → Int32} (e : ∀ d, d < 60 → g d = h d) : updR V T li g 0 60 = updR V T li h 0 60 := by
  funext r l d
  unfold updR
  by_cases hc : r = T ∧ l = li ∧ 0 ≤ d ∧ d < 60
  · rw [if_pos hc, if_pos hc, e d hc.2.2.2]
  · rw [if_neg hc, if_neg hc]
theorem ct_cong {V : VT} {T li : Nat} {g h : Nat → Int32} (e : ∀ d, d < 60 → g d = h d) : fb_ct (fun d => bP (¬ V T li d = g d)) 60 = fb_ct (fun d => bP (¬ V T li d = h d)) 60 := fb_ct_cong (fun d hd => by rw [e d hd])
theorem spanR_N {f q : Int32} (h : spanR f q) : nN f < 60 ∧ f = nI (nN f) ∧ nN f < nN q ∧ nN q ≤ 60 ∧ q = nI (nN q) := by
  obtain ⟨f1, f2⟩ := inR_N (b := 60) h.1
  have h0 : ¬ q < 0 := fun z => h.2.1 (by
    rw [Int32.lt_iff_toInt_lt] at z
    rw [Int32.le_iff_toInt_le, f2, nI_toInt (by omega)]
    have : (0 : Int32).toInt = 0 := by decide
    omega)
  obtain ⟨j, h1, h2⟩ := nI_of h0
  have e : nN q = j := by rw [h2]; exact nI_clamp (by omega)
  have h3 := h.2.1
  have h4 := h.2.2
  rw [h2, f2] at h3
  rw [h2] at h4
  have h5 := i_nle h3
  have h6 := i_le (b := 60) h4
  exact ⟨f1, f2, by omega, by omega, by rw [e]; exact h2⟩
theorem sE1 {Z : ZT} {X : XT} {k kp dr : Nat → Int32} {T : Nat} {P1 P2 P3 : Prop} {c3 : Int32} {li : Nat} {g : Nat → Int32} {codes : List (String × Int32)} (ok : okX kp T) (h : ¬ P1) (hm : (eA, 1) ∈ codes) : xErr Z X (sSet (vX k kp T) T P1 P2 P3 c3 li g) codes eA (wX Z X k kp dr (nI T)) := ⟨1, k, kp, dr, T, hm, rfl, ok, rfl, Or.inl ⟨h, rfl, rfl⟩⟩
theorem sE2 {Z : ZT} {X : XT} {k kp dr : Nat → Int32} {T : Nat} {P1 P2 P3 : Prop} {c3 : Int32} {li : Nat} {g : Nat → Int32} {codes : List (String × Int32)} {E : String} (ok : okX kp T) (h1 : P1) (h : ¬ P2) (hm : (E, 2) ∈ codes) : xErr Z X (sSet (vX k kp T) T P1 P2 P3 c3 li g) codes E (wX Z X k kp dr (nI T)) := ⟨2, k, kp, dr, T, hm, rfl, ok, rfl, Or.inr (Or.inl ⟨h1, h, rfl, rfl⟩)⟩
theorem sE3 {Z : ZT} {X : XT} {k kp dr : Nat → Int32} {T : Nat} {P1 P2 P3 : Prop} {c3 : Int32} {li : Nat} {g : Nat → Int32} {codes : List (String × Int32)} {E : String} (ok : okX kp T) (h1 : P1) (h2 : P2) (h : ¬ P3) (hm : (E, c3) ∈ codes) : xErr Z X (sSet (vX k kp T) T P1 P2 P3 c3 li g) codes E (wX Z X k kp dr (nI T)) := ⟨c3, k, kp, dr, T, hm, rfl, ok, rfl, Or.inr (Or.inr (Or.inl ⟨h1, h2, h, rfl, rfl⟩))⟩
theorem sOk {Z : ZT} {X : XT} {k k' kp dr : Nat → Int32} {T : Nat} {P1 P2 P3 : Prop} {c3 : Int32} {li : Nat} {g dr' : Nat → Int32} (ok : okX kp T) (h1 : P1) (h2 : P2) (h3 : P3) (e : ∀ d, d < 60 → dr' d = g d) (hv : vX k' kp T = updR (vX k kp T) T li dr' 0 60) : xPost Z X (sSet (vX k kp T) T P1 P2 P3 c3 li g) (some (.int (nI (fb_ct (fun d => bP (¬ vX k kp T T li d = dr' d)) 60)))) (wX Z X k' kp dr (nI T)) := ⟨_, k', kp, dr, T, rfl, rfl, ok, rfl, Or.inr (Or.inr (Or.inr ⟨h1, h2, h3, rfl, by rw [ct_cong e], by rw [hv, updR_cong e]⟩))⟩
set_option maxRecDepth 100000 in
theorem x_put {l : Launch} {Z : ZT} {X : XT} {k kp dr : Nat → Int32} {T : Nat} (hl0 : l.stackTraces = false) (ok : okX kp T) (hv : valOk (vX k kp T) T) {t y v f q : Int32} : mX l Z.1 (ty3 Z) yX0_put (.code yX0_put cX0_put 6 (some .int)) (rmk 9 200 8 48) (wX Z X k kp dr (nI T)) [.ref X.1, .int t, .int y, .int v, .int f, .int q] (xPost Z X ((sSet (vX k kp T) T (inR t 2 ∧ inR y 8 ∧ inR v (if t = 0 then 100 else 8) ∧ spanR f q) True (keepP (vX k kp T) T (spG (vX k kp T) T (nN t * 8 + nN y) v f q) (nN t) (nN y)) 2 (nN t * 8 + nN y) (spG (vX k kp T) T (nN t * 8 + nN y) v f q)))) (xErr Z X ((sSet (vX k kp T) T (inR t 2 ∧ inR y 8 ∧ inR v (if t = 0 then 100 else 8) ∧ spanR f q) True (keepP (vX k kp T) T (spG (vX k kp T) T (nN t * 8 + nN y) v f q) (nN t) (nN y)) 2 (nN t * 8 + nN y) (spG (vX k kp T) T (nN t * 8 + nN y) v f q))) cAS) := by
  refine mX_intro (own := RX0) [(0, .ref X.1), (1, .int t), (2, .int y), (3, .int v), (4, .int f), (5, .int q)] (by decide +kernel) rfl rfl rfl rfl ?_
  intro p e s m args below meth c A K hr T9 htab
  refine gg_iload_n K (i := 1) dX0_put_0 rfl rfl ?_
  refine gg_iload_n K (i := 2) dX0_put_1 rfl rfl ?_
  refine gg_callTS 2 12 K T9 k_X0_X0_needTableAndKey (x_needTK hl0) dX0_put_2 rfl rfl rfl rfl ⟨rfl, rfl⟩ (fun E u h => ?_) (fun v u h => ?_)
  · obtain ⟨rfl, rfl, h⟩ := h
    exact gx_out K htab (Nat.le_of_ble_eq_true rfl) (Nat.le_of_ble_eq_true rfl) (sE1 ok (fun z => h ⟨z.1, z.2.1⟩) (by decide))
  obtain ⟨rfl, rfl, h1⟩ := h
  refine gg_iload_n K (i := 3) dX0_put_5 rfl rfl ?_
  refine gg_iload_n K (i := 1) dX0_put_6 rfl rfl ?_
  refine gg_callSR K k_X0_X0_valuesOf x_valuesOf dX0_put_7 rfl rfl rfl rfl ⟨rfl, rfl⟩ ?_
  refine gg_callTS 3 18 K T9 k_X0_X0_needRange (x_needRange hl0) dX0_put_10 rfl rfl rfl rfl ⟨rfl, rfl⟩ (fun E u h => ?_) (fun v u h => ?_)
  · obtain ⟨rfl, rfl, h⟩ := h
    exact gx_out K htab (Nat.le_of_ble_eq_true rfl) (Nat.le_of_ble_eq_true rfl) (sE1 ok (fun z => h z.2.2.1) (by decide))
  obtain ⟨rfl, rfl, h2⟩ := h
  refine gg_iload K dX0_put_13 rfl ?_
  refine gg_iload K dX0_put_15 rfl ?_
  refine gg_callTS 5 30 K T9 k_X0_X0_needSpan (x_needSpan hl0) dX0_put_17 rfl rfl rfl rfl ⟨rfl, rfl⟩ (fun E u h => ?_) (fun v u h => ?_)
  · obtain ⟨rfl, rfl, h⟩ := h
    exact gx_out K htab (Nat.le_of_ble_eq_true rfl) (Nat.le_of_ble_eq_true rfl) (sE1 ok (fun z => h z.2.2.2) (by decide))
  obtain ⟨rfl, rfl, h3⟩ := h
  have ⟨a1, a2⟩ := inR_N (b := 2) h1.1
  have ⟨b1, b2⟩ := inR_N (b := 8) h1.2
  have ⟨f1, f2, f3, f4, f5⟩ := spanR_N h3
  refine gg_aload_n K (i := 0) dX0_put_20 rfl rfl ?_
  refine gg_iload_n K (i := 1) dX0_put_21 rfl rfl ?_
  refine gg_iload_n K (i := 2) dX0_put_22 rfl rfl ?_
  refine gg_callSR K k_X0_X0_line (x_line (nN t) (nN y) a2 b2) dX0_put_23 rfl rfl rfl rfl ⟨rfl, rfl⟩ ?_
  refine gg_iload K dX0_put_26 rfl ?_
  refine gg_iload K dX0_put_28 rfl ?_
  refine gg_iload_n K (i := 3) dX0_put_30 rfl rfl ?_
  refine gg_callUX K k_X0_X0_draftSpan (x_draftSpan (nN t * 8 + nN y) (nN f) (nN q) ok rfl (by omega) f1 f4 rfl f2 f5) dX0_put_31 rfl rfl rfl rfl ⟨rfl, rfl⟩ (fun v9 u h => ?_)
  obtain ⟨rfl, dr', rfl, hdr⟩ := h
  have he : ∀ d, d < 60 → dr' d = (spG (vX k kp T) T (nN t * 8 + nN y) v f q) d := hdr
  refine gg_aload_n K (i := 0) dX0_put_34 rfl rfl ?_
  refine gg_iload_n K (i := 1) dX0_put_35 rfl rfl ?_
  refine gg_iload_n K (i := 2) dX0_put_36 rfl rfl ?_
  refine gg_callTX 6 36 K T9 k_X0_X0_recordDraft (x_recordDraft hl0 (nN t) (nN y) ok rfl a1 b1 (fun ht d hd => ?_) a2 b2) dX0_put_37 rfl rfl rfl rfl ⟨rfl, rfl⟩ (fun E u h => ?_) (fun v9 u h => ?_)
  · rw [he d hd]
    unfold spG
    split
    · have hne : ¬ t = 0 := fun z => by rw [z] at ht; exact absurd ht (by decide)
      rw [if_neg hne] at h2
      have ⟨c1, c2⟩ := inR_N (b := 8) h2
      exact Or.inr ⟨nN v, c2, c1⟩
    · rcases hv T (nN t * 8 + nN y) d (Nat.le_refl T) (by omega) hd with g | ⟨j, g1, -, g2⟩
      · exact Or.inl g
      · exact Or.inr ⟨j, g1, g2 (by omega)⟩
  · obtain ⟨rfl, rfl, h⟩ := h
    exact gx_out K htab (Nat.le_of_ble_eq_true rfl) (Nat.le_of_ble_eq_true rfl) (sE3 ok ⟨h1.1, h1.2, h2, h3⟩ trivial (fun z => h (keepP_cong (fun d hd => (he d hd).symm) z)) (by decide))
  · obtain ⟨g1, rfl, k', rfl, g2⟩ := h
    exact gg_x (gg_iret K hr dX0_put_40 (Nat.le_of_ble_eq_true rfl) (Nat.le_of_ble_eq_true rfl) (sOk ok ⟨h1.1, h1.2, h2, h3⟩ trivial (keepP_cong he g1) he g2))
set_option maxRecDepth 100000 in
theorem x_erase {l : Launch} {Z : ZT} {X : XT} {k kp dr : Nat → Int32} {T : Nat} (hl0 : l.stackTraces = false) (ok : okX kp T) (hv : valOk (vX k kp T) T) {t y f q : Int32} : mX l Z.1 (ty3 Z) yX0_erase (.code yX0_erase cX0_erase 5 (some .int)) (rmk 9 200 8 48) (wX Z X k kp dr (nI T)) [.ref X.1, .int t, .int y, .int f, .int q] (xPost Z X ((sSet (vX k kp T) T (inR t 2 ∧ inR y 8 ∧ spanR f q) True (keepP (vX k kp T) T (spG (vX k kp T) T (nN t * 8 + nN y) (-1) f q) (nN t) (nN y)) 2 (nN t * 8 + nN y) (spG (vX k kp T) T (nN t * 8 + nN y) (-1) f q)))) (xErr Z X ((sSet (vX k kp T) T (inR t 2 ∧ inR y 8 ∧ spanR f q) True (keepP (vX k kp T) T (spG (vX k kp T) T (nN t * 8 + nN y) (-1) f q) (nN t) (nN y)) 2 (nN t * 8 + nN y) (spG (vX k kp T) T (nN t * 8 + nN y) (-1) f q))) cAS) := by
  refine mX_intro (own := RX0) [(0, .ref X.1), (1, .int t), (2, .int y), (3, .int f), (4, .int q)] (by decide +kernel) rfl rfl rfl rfl ?_
  intro p e s m args below meth c A K hr T9 htab
  refine gg_iload_n K (i := 1) dX0_erase_0 rfl rfl ?_
  refine gg_iload_n K (i := 2) dX0_erase_1 rfl rfl ?_
  refine gg_callTS 2 12 K T9 k_X0_X0_needTableAndKey (x_needTK hl0) dX0_erase_2 rfl rfl rfl rfl ⟨rfl, rfl⟩ (fun E u h => ?_) (fun v u h => ?_)
  · obtain ⟨rfl, rfl, h⟩ := h
    exact gx_out K htab (Nat.le_of_ble_eq_true rfl) (Nat.le_of_ble_eq_true rfl) (sE1 ok (fun z => h ⟨z.1, z.2.1⟩) (by decide))
  obtain ⟨rfl, rfl, h1⟩ := h
  refine gg_iload_n K (i := 3) dX0_erase_5 rfl rfl ?_
  refine gg_iload K dX0_erase_6 rfl ?_
  refine gg_callTS 4 24 K T9 k_X0_X0_needSpan (x_needSpan hl0) dX0_erase_8 rfl rfl rfl rfl ⟨rfl, rfl⟩ (fun E u h => ?_) (fun v u h => ?_)
  · obtain ⟨rfl, rfl, h⟩ := h
    exact gx_out K htab (Nat.le_of_ble_eq_true rfl) (Nat.le_of_ble_eq_true rfl) (sE1 ok (fun z => h z.2.2) (by decide))
  obtain ⟨rfl, rfl, h3⟩ := h
  have ⟨a1, a2⟩ := inR_N (b := 2) h1.1
  have ⟨b1, b2⟩ := inR_N (b := 8) h1.2
  have ⟨f1, f2, f3, f4, f5⟩ := spanR_N h3
  refine gg_aload_n K (i := 0) dX0_erase_11 rfl rfl ?_
  refine gg_iload_n K (i := 1) dX0_erase_12 rfl rfl ?_
  refine gg_iload_n K (i := 2) dX0_erase_13 rfl rfl ?_
  refine gg_callSR K k_X0_X0_line (x_line (nN t) (nN y) a2 b2) dX0_erase_14 rfl rfl rfl rfl ⟨rfl, rfl⟩ ?_
  refine gg_iload_n K (i := 3) dX0_erase_17 rfl rfl ?_
  refine gg_iload K dX0_erase_18 rfl ?_
  refine gg_iconst K (v := (-1)) dX0_erase_20 (by decide) ?_
  refine gg_callUX K k_X0_X0_draftSpan (x_draftSpan (nN t * 8 + nN y) (nN f) (nN q) ok rfl (by omega) f1 f4 rfl f2 f5) dX0_erase_21 rfl rfl rfl rfl ⟨rfl, rfl⟩ (fun v9 u h => ?_)
  obtain ⟨rfl, dr', rfl, hdr⟩ := h
  have he : ∀ d, d < 60 → dr' d = (spG (vX k kp T) T (nN t * 8 + nN y) (-1) f q) d := hdr
  refine gg_aload_n K (i := 0) dX0_erase_24 rfl rfl ?_
  refine gg_iload_n K (i := 1) dX0_erase_25 rfl rfl ?_
  refine gg_iload_n K (i := 2) dX0_erase_26 rfl rfl ?_
  refine gg_callTX 5 30 K T9 k_X0_X0_recordDraft (x_recordDraft hl0 (nN t) (nN y) ok rfl a1 b1 (fun ht d hd => ?_) a2 b2) dX0_erase_27 rfl rfl rfl rfl ⟨rfl, rfl⟩ (fun E u h => ?_) (fun v9 u h => ?_)
  · rw [he d hd]
    unfold spG
    split
    · exact Or.inl rfl
    · rcases hv T (nN t * 8 + nN y) d (Nat.le_refl T) (by omega) hd with g | ⟨j, g1, -, g2⟩
      · exact Or.inl g
      · exact Or.inr ⟨j, g1, g2 (by omega)⟩
  · obtain ⟨rfl, rfl, h⟩ := h
    exact gx_out K htab (Nat.le_of_ble_eq_true rfl) (Nat.le_of_ble_eq_true rfl) (sE3 ok ⟨h1.1, h1.2, h3⟩ trivial (fun z => h (keepP_cong (fun d hd => (he d hd).symm) z)) (by decide))
  · obtain ⟨g1, rfl, k', rfl, g2⟩ := h
    exact gg_x (gg_iret K hr dX0_erase_30 (Nat.le_of_ble_eq_true rfl) (Nat.le_of_ble_eq_true rfl) (sOk ok ⟨h1.1, h1.2, h3⟩ trivial (keepP_cong he g1) he g2))
set_option maxRecDepth 100000 in
theorem x_restore {l : Launch} {Z : ZT} {X : XT} {k kp dr : Nat → Int32} {T : Nat} (hl0 : l.stackTraces = false) (ok : okX kp T) (hv : valOk (vX k kp T) T) {t y q : Int32} : mX l Z.1 (ty3 Z) yX0_restore (.code yX0_restore cX0_restore 4 (some .int)) (rmk 9 200 8 48) (wX Z X k kp dr (nI T)) [.ref X.1, .int t, .int y, .int q] (xPost Z X ((sSet (vX k kp T) T (inR t 2 ∧ inR y 8 ∧ inR q 60) (q ≤ nI T) (keepP (vX k kp T) T (vX k kp T (nN q) (nN t * 8 + nN y)) (nN t) (nN y)) 3 (nN t * 8 + nN y) (vX k kp T (nN q) (nN t * 8 + nN y))))) (xErr Z X ((sSet (vX k kp T) T (inR t 2 ∧ inR y 8 ∧ inR q 60) (q ≤ nI T) (keepP (vX k kp T) T (vX k kp T (nN q) (nN t * 8 + nN y)) (nN t) (nN y)) 3 (nN t * 8 + nN y) (vX k kp T (nN q) (nN t * 8 + nN y)))) cABS) := by
  refine mX_intro (own := RX0) [(0, .ref X.1), (1, .int t), (2, .int y), (3, .int q)] (by decide +kernel) rfl rfl rfl rfl ?_
  intro p e s m args below meth c A K hr T9 htab
  refine gg_iload_n K (i := 1) dX0_restore_0 rfl rfl ?_
  refine gg_iload_n K (i := 2) dX0_restore_1 rfl rfl ?_
  refine gg_callTS 2 12 K T9 k_X0_X0_needTableAndKey (x_needTK hl0) dX0_restore_2 rfl rfl rfl rfl ⟨rfl, rfl⟩ (fun E u h => ?_) (fun v u h => ?_)
  · obtain ⟨rfl, rfl, h⟩ := h
    exact gx_out K htab (Nat.le_of_ble_eq_true rfl) (Nat.le_of_ble_eq_true rfl) (sE1 ok (fun z => h ⟨z.1, z.2.1⟩) (by decide))
  obtain ⟨rfl, rfl, h1⟩ := h
  refine gg_aload_n K (i := 0) dX0_restore_5 rfl rfl ?_
  refine gg_iload_n K (i := 3) dX0_restore_6 rfl rfl ?_
  refine gg_callTX 4 24 K T9 k_X0_X0_needRecord (x_needRecord hl0) dX0_restore_7 rfl rfl rfl rfl ⟨rfl, rfl⟩ (fun E u h => ?_) (fun v u h => ?_)
  · obtain ⟨rfl, ⟨rfl, h⟩ | ⟨rfl, h, h'⟩⟩ := h
    · exact gx_out K htab (Nat.le_of_ble_eq_true rfl) (Nat.le_of_ble_eq_true rfl) (sE1 ok (fun z => h z.2.2) (by decide))
    · exact gx_out K htab (Nat.le_of_ble_eq_true rfl) (Nat.le_of_ble_eq_true rfl) (sE2 ok ⟨h1.1, h1.2, h⟩ h' (by decide))
  obtain ⟨rfl, rfl, h3, h4⟩ := h
  have ⟨a1, a2⟩ := inR_N (b := 2) h1.1
  have ⟨b1, b2⟩ := inR_N (b := 8) h1.2
  have ⟨q1, q2⟩ := inR_N (b := 60) h3
  have hT := leT q2 q1 ok.1 h4
  refine gg_aload_n K (i := 0) dX0_restore_10 rfl rfl ?_
  refine gg_iload_n K (i := 1) dX0_restore_11 rfl rfl ?_
  refine gg_iload_n K (i := 2) dX0_restore_12 rfl rfl ?_
  refine gg_callSR K k_X0_X0_line (x_line (nN t) (nN y) a2 b2) dX0_restore_13 rfl rfl rfl rfl ⟨rfl, rfl⟩ ?_
  refine gg_iload_n K (i := 3) dX0_restore_16 rfl rfl ?_
  refine gg_callUX K k_X0_X0_draftRecord (x_draftRecord (nN t * 8 + nN y) (nN q) ok (by omega) hT rfl q2) dX0_restore_17 rfl rfl rfl rfl ⟨rfl, rfl⟩ (fun v9 u h => ?_)
  obtain ⟨rfl, dr', rfl, he⟩ := h
  refine gg_aload_n K (i := 0) dX0_restore_20 rfl rfl ?_
  refine gg_iload_n K (i := 1) dX0_restore_21 rfl rfl ?_
  refine gg_iload_n K (i := 2) dX0_restore_22 rfl rfl ?_
  refine gg_callTX 5 30 K T9 k_X0_X0_recordDraft (x_recordDraft hl0 (nN t) (nN y) ok rfl a1 b1 (fun ht d hd => ?_) a2 b2) dX0_restore_23 rfl rfl rfl rfl ⟨rfl, rfl⟩ (fun E u h => ?_) (fun v9 u h => ?_)
  · rw [he d hd]
    rcases hv (nN q) (nN t * 8 + nN y) d hT (by omega) hd with g | ⟨j, g1, -, g2⟩
    · exact Or.inl g
    · exact Or.inr ⟨j, g1, g2 (by omega)⟩
  · obtain ⟨rfl, rfl, h⟩ := h
    exact gx_out K htab (Nat.le_of_ble_eq_true rfl) (Nat.le_of_ble_eq_true rfl) (sE3 ok ⟨h1.1, h1.2, h3⟩ h4 (fun z => h (keepP_cong (fun d hd => (he d hd).symm) z)) (by decide))
  · obtain ⟨g1, rfl, k', rfl, g2⟩ := h
    exact gg_x (gg_iret K hr dX0_restore_26 (Nat.le_of_ble_eq_true rfl) (Nat.le_of_ble_eq_true rfl) (sOk ok ⟨h1.1, h1.2, h3⟩ h4 (keepP_cong he g1) he g2))
/-! what is lost with all references -/
def loV (V : VT) (T y d i : Nat) : VT := fun r l d' => if r = T ∧ d' = d ∧ (l = y ∨ (8 ≤ l ∧ l < 8 + i ∧ V T l d = nI y)) then -1 else V r l d'
noncomputable def loN (V : VT) (T y d : Nat) : Nat := (if V T y d = -1 then 0 else 1) + fb_ct (fun i => bP (V T (8 + i) d = nI y)) 8
def eraV (V : VT) (T y a b : Nat) : VT := fun r l d => if r = T ∧ a ≤ d ∧ d < b ∧ (l = y ∨ (8 ≤ l ∧ V T l d = nI y)) then -1 else V r l d
theorem loV_0 (V : VT) (T y d : Nat) : uV V T y d (-1) = loV V T y d 0 := by
  funext r l d'
  unfold uV loV
  by_cases h : r = T ∧ l = y ∧ d' = d
  · rw [if_pos h, if_pos ⟨h.1, h.2.2, Or.inl h.2.1⟩]
  · rw [if_neg h, if_neg (fun q => by
      obtain ⟨q1, q2, q3 | q3⟩ := q
      · exact h ⟨q1, q3, q2⟩
      · omega)]
theorem loV_at {V : VT} {T y d i : Nat} (hy : y < 8) : loV V T y d i T (8 + i) d = V T (8 + i) d := if_neg (fun q => by
  obtain ⟨q1, q2, q3 | q3⟩ := q <;> omega)
theorem loV_hit {V : VT} {T y d i : Nat} (h : V T (8 + i) d = nI y) : uV (loV V T y d i) T (8 + i) d (-1) = loV V T y d (i + 1) := by
  funext r l d'
  unfold uV loV
  by_cases h1 : r = T ∧ l = 8 + i ∧ d' = d
  · obtain ⟨rfl, rfl, rfl⟩ := h1
    rw [if_pos ⟨rfl, rfl, rfl⟩, if_pos ⟨rfl, rfl, Or.inr ⟨by omega, by omega, h⟩⟩]
  · rw [if_neg h1]
    by_cases h2 : r = T ∧ d' = d ∧ (l = y ∨ (8 ≤ l ∧ l < 8 + i ∧ V T l d = nI y))
    · rw [if_pos h2, if_pos ⟨h2.1, h2.2.1, h2.2.2.elim Or.inl (fun z => Or.inr ⟨z.1, by omega, z.2.2⟩)⟩]
    · rw [if_neg h2, if_neg (fun q => by
        obtain ⟨q1, q2, q3 | q3⟩ := q
        · exact h2 ⟨q1, q2, Or.inl q3⟩
        · by_cases hl : l = 8 + i
          · exact h1 ⟨q1, hl, q2⟩
          · exact h2 ⟨q1, q2, Or.inr ⟨q3.1, by omega, q3.2.2⟩⟩)]
theorem loV_miss {V : VT} {T y d i : Nat} (h : ¬ V T (8 + i) d = nI y) : loV V T y d i = loV V T y d (i + 1) := by
  funext r l d'
  unfold loV
  by_cases h2 : r = T ∧ d' = d ∧ (l = y ∨ (8 ≤ l ∧ l < 8 + i ∧ V T l d = nI y))
  · rw [if_pos h2, if_pos ⟨h2.1, h2.2.1, h2.2.2.elim Or.inl (fun z => Or.inr ⟨z.1, by omega, z.2.2⟩)⟩]
  · rw [if_neg h2, if_neg (fun q => by
      obtain ⟨q1, q2, q3 | q3⟩ := q
      · exact h2 ⟨q1, q2, Or.inl q3⟩
      · by_cases hl : l = 8 + i
        · rw [hl] at q3
          exact h q3.2.2
        · exact h2 ⟨q1, q2, Or.inr ⟨q3.1, by omega, q3.2.2⟩⟩)]
set_option maxRecDepth 100000 in
theorem x_loseRefs {l : Launch} {Z : ZT} {X : XT} {k kp dr : Nat → Int32} {T : Nat} (ok : okX kp T) (y9 d : Nat) {x z : Int32} (hy9 : y9 < 8) (hd : d < 60) (hx : x = nI y9) (hz : z = nI d) : mA l Z.1 (ty3 Z) yX0_loseWithReferences cX0_loseWithReferences 5 (some .int) (rmk 3 90 0 0) (wX Z X k kp dr (nI T)) [.ref X.1, .int x, .int z] (fun v u => v = some (.int (nI (loN (vX k kp T) T y9 d))) ∧ ∃ k', u = wX Z X k' kp dr (nI T) ∧ vX k' kp T = loV (vX k kp T) T y9 d 8) := by
  refine mA_intro (own := RX0) [(0, .ref X.1), (1, .int x), (2, .int z)] (by decide +kernel) rfl rfl rfl rfl ?_
  intro p e s m args below meth c A K hr hin
  subst hx hz
  refine gg_aload_n K (i := 0) dX0_loseWithReferences_0 rfl rfl ?_
  refine gg_iconst K (v := 0) dX0_loseWithReferences_1 (by decide) ?_
  refine gg_iload_n K (i := 1) dX0_loseWithReferences_2 rfl rfl ?_
  refine gg_callSR K k_X0_X0_line (x_line 0 y9 rfl rfl) dX0_loseWithReferences_3 rfl rfl rfl rfl ⟨rfl, rfl⟩ ?_
  refine gg_iload_n K (i := 2) dX0_loseWithReferences_6 rfl rfl ?_
  refine gg_callUX K k_X0_X0_lose (x_lose y9 d ok rfl (by omega) hd (congrArg nI (by omega)) rfl) dX0_loseWithReferences_7 rfl rfl rfl rfl ⟨rfl, rfl⟩ (fun v9 u h => ?_)
  obtain ⟨rfl, k', rfl, hk⟩ := h
  rw [loV_0] at hk
  refine gg_top (y := nI ((if vX k kp T T y9 d = -1 then 0 else 1) + fb_ct (fun i => bP (vX k kp T T (8 + i) d = nI y9)) 0)) ?_ ?_
  · by_cases hm : vX k kp T T y9 d = -1
    · rw [bP_f (fun z => z hm), if_pos hm]; rfl
    · rw [bP_t hm, if_neg hm]; rfl
  refine gg_istore_n K (i := 3) dX0_loseWithReferences_10 rfl (by decide) ?_
  refine gg_iconst K (v := 0) dX0_loseWithReferences_11 (by decide) ?_
  refine gg_istore K dX0_loseWithReferences_12 (by decide) ?_
  refine gg_sub (L' := [(4, .int (nI 0)), (3, .int (nI ((if vX k kp T T y9 d = -1 then 0 else 1) + fb_ct (fun i => bP (vX k kp T T (8 + i) d = nI y9)) 0))), (0, .ref X.1), (1, .int (nI y9)), (2, .int (nI d))]) ⟨rfl, rfl, rfl, rfl, rfl, trivial⟩ ?_
  refine gg_loop (fun i w L => ∃ (j : Nat) (k' : Nat → Int32), j + i = 9 ∧ w = wX Z X k' kp dr (nI T) ∧ j ≤ 8 ∧ L = [(4, .int (nI j)), (3, .int (nI ((if vX k kp T T y9 d = -1 then 0 else 1) + fb_ct (fun i => bP (vX k kp T T (8 + i) d = nI y9)) j))), (0, .ref X.1), (1, .int (nI y9)), (2, .int (nI d))] ∧ vX k' kp T = loV (vX k kp T) T y9 d j) (fun w L h => ?_) (fun i w L h ih => ?_) 9 _ _ ⟨0, k', rfl, rfl, by omega, rfl, hk⟩
  · obtain ⟨j, k', hj, -, h2, -⟩ := h
    omega
  · obtain ⟨j, k', hj, rfl, -, rfl, hk⟩ := h
    refine gg_iload K dX0_loseWithReferences_14 rfl ?_
    refine gg_bipush K (v := 8) dX0_loseWithReferences_16 (by decide) ?_
    refine gg_icmp_ge K (tgt := 60) dX0_loseWithReferences_18 (by decide) (fun h18 => ?_) (fun h18 => ?_)
    · have hj2 := i_le (a := 8) h18
      have hj3 : j = 8 := by omega
      subst hj3
      refine gg_iload_n K (i := 3) dX0_loseWithReferences_60 rfl rfl ?_
      exact gg_iret K hr dX0_loseWithReferences_61 (Nat.le_of_ble_eq_true rfl) (Nat.le_of_ble_eq_true rfl) ⟨rfl, k', rfl, hk⟩
    have hj2 := i_nle (a := 8) h18
    refine gg_aload_n K (i := 0) dX0_loseWithReferences_21 rfl rfl ?_
    refine gg_aload_n K (i := 0) dX0_loseWithReferences_22 rfl rfl ?_
    refine gX_today K dX0_loseWithReferences_23 ?_
    refine gg_iconst K (v := 1) dX0_loseWithReferences_26 (by decide) ?_
    refine gg_iload K dX0_loseWithReferences_27 rfl ?_
    refine gg_callSR K k_X0_X0_line (x_line 1 j rfl rfl) dX0_loseWithReferences_29 rfl rfl rfl rfl ⟨rfl, rfl⟩ ?_
    refine gg_iload_n K (i := 2) dX0_loseWithReferences_32 rfl rfl ?_
    refine gg_callRX K k_X0_X0_knownOn (x_knownOn T (8 + j) d ok (Nat.le_refl T) (by omega) hd rfl (congrArg nI (by omega)) rfl) dX0_loseWithReferences_33 rfl rfl rfl rfl ⟨rfl, rfl⟩ ?_
    have hat : vX k' kp T T (8 + j) d = vX k kp T T (8 + j) d := by rw [hk]; exact loV_at hy9
    refine gg_iload_n K (i := 1) dX0_loseWithReferences_36 rfl rfl ?_
    refine gg_icmp_ne K (tgt := 54) dX0_loseWithReferences_37 (by decide) (fun h37 => ?_) (fun h37 => ?_)
    · rw [hat] at h37
      refine gg_iinc K (v := nI (j + 1)) dX0_loseWithReferences_54 rfl (nI_inc (j)) (by decide) ?_
      refine gg_goto K (tgt := 14) dX0_loseWithReferences_57 (by decide) ?_
      refine gg_sub (L' := [(4, .int (nI (j + 1))), (3, .int (nI ((if vX k kp T T y9 d = -1 then 0 else 1) + fb_ct (fun i => bP (vX k kp T T (8 + i) d = nI y9)) j))), (0, .ref X.1), (1, .int (nI y9)), (2, .int (nI d))]) ⟨rfl, rfl, rfl, rfl, rfl, trivial⟩ ?_
      exact ih _ _ ⟨j + 1, k', by omega, rfl, by omega, by rw [fb_ct_succ, bP_f h37]; rfl, by rw [hk]; exact loV_miss h37⟩
    · rw [hat] at h37
      refine gg_iload_n K (i := 3) dX0_loseWithReferences_40 rfl rfl ?_
      refine gg_aload_n K (i := 0) dX0_loseWithReferences_41 rfl rfl ?_
      refine gg_iconst K (v := 1) dX0_loseWithReferences_42 (by decide) ?_
      refine gg_iload K dX0_loseWithReferences_43 rfl ?_
      refine gg_callSR K k_X0_X0_line (x_line 1 j rfl rfl) dX0_loseWithReferences_45 rfl rfl rfl rfl ⟨rfl, rfl⟩ ?_
      refine gg_iload_n K (i := 2) dX0_loseWithReferences_48 rfl rfl ?_
      refine gg_callUX K k_X0_X0_lose (x_lose (8 + j) d ok rfl (by omega) hd (congrArg nI (by omega)) rfl) dX0_loseWithReferences_49 rfl rfl rfl rfl ⟨rfl, rfl⟩ (fun v9 u h => ?_)
      obtain ⟨rfl, k2, rfl, hk2⟩ := h
      rw [hk, loV_hit h37] at hk2
      refine gg_top (y := nI 1) (bI_t (bP_t (by rw [hat, h37]; exact nI_m1 (by omega)))) ?_
      refine gg_iadd K dX0_loseWithReferences_52 ?_
      refine gg_top (nI_add _ _) ?_
      refine gg_istore_n K (i := 3) dX0_loseWithReferences_53 rfl (by decide) ?_
      refine gg_iinc K (v := nI (j + 1)) dX0_loseWithReferences_54 rfl (nI_inc (j)) (by decide) ?_
      refine gg_goto K (tgt := 14) dX0_loseWithReferences_57 (by decide) ?_
      refine gg_sub (L' := [(4, .int (nI (j + 1))), (3, .int (nI ((if vX k kp T T y9 d = -1 then 0 else 1) + fb_ct (fun i => bP (vX k kp T T (8 + i) d = nI y9)) j + 1))), (0, .ref X.1), (1, .int (nI y9)), (2, .int (nI d))]) ⟨rfl, rfl, rfl, rfl, rfl, trivial⟩ ?_
      exact ih _ _ ⟨j + 1, k2, by omega, rfl, by omega, by rw [fb_ct_succ, bP_t h37]; rfl, hk2⟩
theorem eraV_0 (V : VT) (T y a : Nat) : eraV V T y a a = V := by
  funext r l d
  exact if_neg (by omega)
theorem eraV_at {V : VT} {T y a b : Nat} (l d : Nat) (h : b ≤ d) : eraV V T y a b T l d = V T l d := if_neg (by omega)
theorem loN_eraV {V : VT} {T y a b : Nat} : loN (eraV V T y a b) T y b = loN V T y b := by
  unfold loN
  rw [eraV_at y b (Nat.le_refl b)]
  congr 1
  exact fb_ct_cong (fun i _ => by rw [eraV_at (8 + i) b (Nat.le_refl b)])
theorem eraV_step {V : VT} {T y a b : Nat} (hab : a ≤ b) (h16 : ∀ l, 16 ≤ l → V T l b = -1) (hy : y < 8) : loV (eraV V T y a b) T y b 8 = eraV V T y a (b + 1) := by
  funext r l d
  have e : eraV V T y a b T l b = V T l b := eraV_at l b (Nat.le_refl b)
  unfold loV
  rw [e]
  by_cases h1 : r = T ∧ d = b ∧ (l = y ∨ (8 ≤ l ∧ l < 8 + 8 ∧ V T l b = nI y))
  · rw [if_pos h1]
    obtain ⟨rfl, rfl, h1⟩ := h1
    exact (if_pos ⟨rfl, hab, by omega, h1.elim Or.inl (fun z => Or.inr ⟨z.1, z.2.2⟩)⟩).symm
  · rw [if_neg h1]
    unfold eraV
    by_cases h2 : r = T ∧ a ≤ d ∧ d < b ∧ (l = y ∨ (8 ≤ l ∧ V T l d = nI y))
    · rw [if_pos h2, if_pos ⟨h2.1, h2.2.1, by omega, h2.2.2.2⟩]
    · rw [if_neg h2, if_neg (fun q => by
        obtain ⟨q1, q2, q3, q4⟩ := q
        by_cases hd : d = b
        · rw [hd] at q4
          refine h1 ⟨q1, hd, q4.elim Or.inl (fun z => Or.inr ⟨z.1, ?_, z.2⟩)⟩
          by_cases hl : l < 16
          · exact hl
          · have := z.2
            rw [h16 l (by omega)] at this
            exact absurd this.symm (nI_m1 (by omega))
        · exact h2 ⟨q1, q2, by omega, q4⟩)]
def sEra (V : VT) (T : Nat) (P1 : Prop) (y a b : Nat) : ST := fun c r V' T' => T' = T ∧ ((¬ P1 ∧ c = 1 ∧ V' = V) ∨ (P1 ∧ c = 0 ∧ r = nI (fb_sm (fun i => loN V T y (a + i)) (b - a)) ∧ V' = eraV V T y a b))
theorem vX_16 {k kp : Nat → Int32} {T r l d : Nat} (h : 16 ≤ l) : vX k kp T r l d = -1 := if_neg (by omega)
set_option maxRecDepth 100000 in
theorem x_eraseAll {l : Launch} {Z : ZT} {X : XT} {k kp dr : Nat → Int32} {T : Nat} (hl0 : l.stackTraces = false) (ok : okX kp T) {y f q : Int32} : mX l Z.1 (ty3 Z) yX0_eraseAll (.code yX0_eraseAll cX0_eraseAll 6 (some .int)) (rmk 9 200 8 48) (wX Z X k kp dr (nI T)) [.ref X.1, .int y, .int f, .int q] (xPost Z X ((sEra (vX k kp T) T (inR y 8 ∧ spanR f q) (nN y) (nN f) (nN q)))) (xErr Z X ((sEra (vX k kp T) T (inR y 8 ∧ spanR f q) (nN y) (nN f) (nN q))) cA1) := by
  refine mX_intro (own := RX0) [(0, .ref X.1), (1, .int y), (2, .int f), (3, .int q)] (by decide +kernel) rfl rfl rfl rfl ?_
  intro p e s m args below meth c A K hr T9 htab
  refine gg_iload_n K (i := 1) dX0_eraseAll_0 rfl rfl ?_
  refine gg_bipush K (v := 8) dX0_eraseAll_1 (by decide) ?_
  refine gg_callTS 1 6 K T9 k_X0_X0_needRange (x_needRange hl0) dX0_eraseAll_3 rfl rfl rfl rfl ⟨rfl, rfl⟩ (fun E u h => ?_) (fun v u h => ?_)
  · obtain ⟨rfl, rfl, h⟩ := h
    exact gx_out K htab (Nat.le_of_ble_eq_true rfl) (Nat.le_of_ble_eq_true rfl) (⟨1, k, kp, dr, T, by decide, rfl, ok, rfl, Or.inl ⟨fun z => h z.1, rfl, rfl⟩⟩)
  obtain ⟨rfl, rfl, h1⟩ := h
  refine gg_iload_n K (i := 2) dX0_eraseAll_6 rfl rfl ?_
  refine gg_iload_n K (i := 3) dX0_eraseAll_7 rfl rfl ?_
  refine gg_callTS 3 18 K T9 k_X0_X0_needSpan (x_needSpan hl0) dX0_eraseAll_8 rfl rfl rfl rfl ⟨rfl, rfl⟩ (fun E u h => ?_) (fun v u h => ?_)
  · obtain ⟨rfl, rfl, h⟩ := h
    exact gx_out K htab (Nat.le_of_ble_eq_true rfl) (Nat.le_of_ble_eq_true rfl) (⟨1, k, kp, dr, T, by decide, rfl, ok, rfl, Or.inl ⟨fun z => h z.2, rfl, rfl⟩⟩)
  obtain ⟨rfl, rfl, h3⟩ := h
  have ⟨b1, b2⟩ := inR_N (b := 8) h1
  have ⟨f1, f2, f3, f4, f5⟩ := spanR_N h3
  refine gg_iconst K (v := 0) dX0_eraseAll_11 (by decide) ?_
  refine gg_istore K dX0_eraseAll_12 (by decide) ?_
  refine gg_iload_n K (i := 2) dX0_eraseAll_14 rfl rfl ?_
  refine gg_istore K dX0_eraseAll_15 (by decide) ?_
  refine gg_sub (L' := [(5, .int (nI (nN f + 0))), (4, .int (nI ((fb_sm (fun i => loN (vX k kp T) T (nN y) (nN f + i)) (0))))), (0, .ref X.1), (1, .int y), (2, .int f), (3, .int q)]) ⟨by rw [← show f = nI (nN f + 0) from f2]; rfl, rfl, rfl, rfl, rfl, rfl, trivial⟩ ?_
  refine gg_loop (fun i w L => ∃ (j : Nat) (k' : Nat → Int32), j + i = nN q - nN f + 1 ∧ w = wX Z X k' kp dr (nI T) ∧ j ≤ nN q - nN f ∧ L = [(5, .int (nI (nN f + j))), (4, .int (nI ((fb_sm (fun i => loN (vX k kp T) T (nN y) (nN f + i)) (j))))), (0, .ref X.1), (1, .int y), (2, .int f), (3, .int q)] ∧ vX k' kp T = eraV (vX k kp T) T (nN y) (nN f) (nN f + j)) (fun w L h => ?_) (fun i w L h ih => ?_) (nN q - nN f + 1) _ _ ⟨0, k, by omega, rfl, by omega, rfl, (eraV_0 _ _ _ _).symm⟩
  · obtain ⟨j, k', hj, -, h2, -⟩ := h
    omega
  · obtain ⟨j, k', hj, rfl, hj1, rfl, hk⟩ := h
    refine gg_iload K dX0_eraseAll_17 rfl ?_
    refine gg_iload_n K (i := 3) dX0_eraseAll_19 rfl rfl ?_
    refine gg_icmp_ge K (tgt := 41) dX0_eraseAll_20 (by decide) (fun h20 => ?_) (fun h20 => ?_)
    · rw [f5] at h20
      have hj2 := i_le h20
      have hj3 : j = nN q - nN f := by omega
      subst hj3
      rw [show nN f + (nN q - nN f) = nN q by omega] at hk
      refine gg_iload K dX0_eraseAll_41 rfl ?_
      exact gg_x (gg_iret K hr dX0_eraseAll_43 (Nat.le_of_ble_eq_true rfl) (Nat.le_of_ble_eq_true rfl) ⟨_, k', kp, dr, T, rfl, rfl, ok, rfl, Or.inr ⟨⟨h1, h3⟩, rfl, rfl, hk⟩⟩)
    rw [f5] at h20
    have hj2 := i_nle h20
    refine gg_iload K dX0_eraseAll_23 rfl ?_
    refine gg_aload_n K (i := 0) dX0_eraseAll_25 rfl rfl ?_
    refine gg_iload_n K (i := 1) dX0_eraseAll_26 rfl rfl ?_
    refine gg_iload K dX0_eraseAll_27 rfl ?_
    refine gg_callUX K k_X0_X0_loseWithReferences (x_loseRefs ok (nN y) (nN f + j) b1 (by omega) b2 rfl) dX0_eraseAll_29 rfl rfl rfl rfl ⟨rfl, rfl⟩ (fun v9 u h => ?_)
    obtain ⟨rfl, k2, rfl, hk2⟩ := h
    rw [hk, eraV_step (by omega) (fun l hl => vX_16 hl) b1] at hk2
    refine gg_iadd K dX0_eraseAll_32 ?_
    refine gg_top (y := nI (fb_sm (fun i => loN (vX k kp T) T (nN y) (nN f + i)) ((j + 1)))) (by rw [hk, loN_eraV]; exact nI_add _ _) ?_
    refine gg_istore K dX0_eraseAll_33 (by decide) ?_
    refine gg_iinc K (v := nI (nN f + j + 1)) dX0_eraseAll_35 rfl (nI_inc (nN f + j)) (by decide) ?_
    refine gg_goto K (tgt := 17) dX0_eraseAll_38 (by decide) ?_
    refine gg_sub (L' := [(5, .int (nI (nN f + (j + 1)))), (4, .int (nI ((fb_sm (fun i => loN (vX k kp T) T (nN y) (nN f + i)) ((j + 1)))))), (0, .ref X.1), (1, .int y), (2, .int f), (3, .int q)]) ⟨rfl, rfl, rfl, rfl, rfl, rfl, trivial⟩ ?_
    exact ih _ _ ⟨j + 1, k2, by omega, rfl, by omega, rfl, hk2⟩
