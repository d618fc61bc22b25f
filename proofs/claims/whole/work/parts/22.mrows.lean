/-! the model: rows -/
theorem runN_nI {f : Nat → Int32} {d j : Nat} (h : f d = nI j) : runN f d = nI (10000 * d + 100 * endF f d + j) := by
  unfold runN
  rw [h, nI_mul, nI_mul, nI_add, nI_add]
theorem told_st {f : Nat → Int32} {d j : Nat} (hd : d < 60) (h : f d = nI j) (hj : j < 100) : toldF f d = -1 ↔ stF f d = false := by
  unfold toldF
  have he := endF_le (f := f) hd
  cases hs : stF f d with
  | true =>
    rw [if_pos rfl, runN_nI h]
    exact ⟨fun z => absurd z (nI_m1 (by omega)), fun z => by cases z⟩
  | false =>
    rw [if_neg (by decide)]
    exact ⟨fun _ => rfl, fun _ => rfl⟩
theorem st_val {V : VT} {T r l d : Nat} (hv : valOk V T) (hr : r ≤ T) (hl : l < 16) (hd : d < 60) (h : stF (V r l) d = true) : ∃ j, V r l d = nI j ∧ j < 100 := by
  obtain ⟨j, g1, g2, -⟩ := (hv r l d hr hl hd).resolve_left (of_decide_eq_true h).1
  exact ⟨j, g1, g2⟩
theorem told_no {V : VT} {T r l d : Nat} (hv : valOk V T) (hr : r ≤ T) (hl : l < 16) (hd : d < 60) : toldF (V r l) d = -1 ↔ stF (V r l) d = false := by
  cases hs : stF (V r l) d with
  | true =>
    obtain ⟨j, g1, g2⟩ := st_val hv hr hl hd hs
    rw [told_st hd g1 g2, hs]
  | false =>
    unfold toldF
    rw [hs, if_neg (by decide)]
    exact ⟨fun _ => rfl, fun _ => rfl⟩
theorem told_same {V : VT} {T r o l d : Nat} (hv : valOk V T) (hr : r ≤ T) (ho : o ≤ T) (hl : l < 16) (hd : d < 60) (h : stF (V r l) d = true) : toldF (V o l) d = toldF (V r l) d ↔ smF (V r l) (V o l) d = true := by
  obtain ⟨j, g1, g2⟩ := st_val hv hr hl hd h
  have e1 := endF_le (f := V r l) hd
  have e2 := endF_le (f := V o l) hd
  have hA : toldF (V r l) d = nI (10000 * d + 100 * endF (V r l) d + j) := (if_pos h).trans (runN_nI g1)
  constructor
  · intro he
    cases hs : stF (V o l) d with
    | true =>
      obtain ⟨i, g3, g4⟩ := st_val hv ho hl hd hs
      have hB : toldF (V o l) d = nI (10000 * d + 100 * endF (V o l) d + i) := (if_pos hs).trans (runN_nI g3)
      rw [hA, hB] at he
      have h3 := i_eq he
      exact bP_t ⟨hs, by rw [g1, g3]; exact congrArg nI (by omega), by omega⟩
    | false =>
      rw [(told_no hv ho hl hd).mpr hs, hA] at he
      exact absurd he.symm (nI_m1 (by omega))
  · intro he
    obtain ⟨h1, h2, h3⟩ := bP_iff.mp he
    rw [hA]
    refine (if_pos h1).trans ((runN_nI (h2.trans g1)).trans ?_)
    rw [h3]
theorem row_told {V : VT} {T l r d : Nat} (hv : valOk V T) (hr : r ≤ T) (hl : l < 16) (hd : d < 60) : rowF V l r d = true ↔ (¬ toldF (V r l) d = -1 ∧ (r = 0 ∨ ¬ toldF (V (r - 1) l) d = toldF (V r l) d)) := by
  unfold rowF
  rw [bP_iff, told_no hv hr hl hd]
  constructor
  · intro ⟨h1, h2⟩
    refine ⟨by rw [h1]; decide, h2.elim Or.inl (fun z => Or.inr ?_)⟩
    rw [told_same hv hr (by omega) hl hd h1, z]
    decide
  · intro ⟨h1, h2⟩
    have h3 : stF (V r l) d = true := by
      cases hs : stF (V r l) d with
      | true => rfl
      | false => exact absurd hs h1
    refine ⟨h3, h2.elim Or.inl (fun z => Or.inr ?_)⟩
    rw [told_same hv hr (by omega) hl hd h3] at z
    cases hm : smF (V r l) (V (r - 1) l) d with
    | true => exact absurd hm z
    | false => rfl
set_option maxRecDepth 100000 in
theorem m_rowsOf {l : Launch} {Z : ZT} {Y : MT} {k : Nat → Int32} {th rf rb re : Int32} {T : Nat} (hT : T < 60) (hv : valOk (vM k T) T) (t9 y9 R9 : Nat) {t y w9 : Int32} (ht9 : t9 < 2) (hy9 : y9 < 8) (hR : R9 ≤ 3600) (ht : t = nI t9) (hy : y = nI y9) (hw : w9 = nI R9) : mA l Z.1 (ty3 Z) yX1_rowsOf cX1_rowsOf 8 (some .int) (rmk 4 120 0 0) (wM Z Y k th (nI T) rf rb re) [.ref Y.1, .int t, .int y, .int w9] (fun v u => ∃ rf' rb', u = wM Z Y k th (nI T) rf' rb' re ∧ ((fb_ct (rwF (vM k T) (t9 * 8 + y9)) (60 * (T + 1)) ≤ R9 ∧ v = some (.int (nI (fb_ct (rwF (vM k T) (t9 * 8 + y9)) (60 * (T + 1)))))) ∨ (R9 < fb_ct (rwF (vM k T) (t9 * 8 + y9)) (60 * (T + 1)) ∧ v = some (.int (nI (R9 + 1))) ∧ ∃ e9, (e9 < (60 * (T + 1)) ∧ (rwF (vM k T) (t9 * 8 + y9)) e9 = true ∧ fb_ct (rwF (vM k T) (t9 * 8 + y9)) e9 = R9 ∧ (rf') = runN (vM k T (e9 / 60) (t9 * 8 + y9)) (e9 % 60) ∧ (rb') = nI (e9 / 60))))) := by
  refine mA_intro (own := RX1) [(0, .ref Y.1), (1, .int t), (2, .int y), (3, .int w9)] (by decide +kernel) rfl rfl rfl rfl ?_
  intro p e s m args below meth c A K hr hin
  have hcN := fb_ct_le (rwF (vM k T) (t9 * 8 + y9)) (60 * (T + 1))
  refine gg_iconst K (v := 0) dX1_rowsOf_0 (by decide) ?_
  refine gg_istore K dX1_rowsOf_1 (by decide) ?_
  refine gg_iconst K (v := 0) dX1_rowsOf_3 (by decide) ?_
  refine gg_istore K dX1_rowsOf_4 (by decide) ?_
  refine gg_sub (L' := [(5, .int (nI 0)), (4, .int (nI (fb_ct (rwF (vM k T) (t9 * 8 + y9)) 0))), (0, .ref Y.1), (1, .int t), (2, .int y), (3, .int w9)]) ⟨rfl, rfl, rfl, rfl, rfl, rfl, trivial⟩ ?_
  refine gg_loop (fun i w L => ∃ (j : Nat) (rf' rb' : Int32), j + i = (60 * (T + 1)) + 1 ∧ w = wM Z Y k th (nI T) rf' rb' re ∧ j ≤ (60 * (T + 1)) ∧ L = [(5, .int (nI j)), (4, .int (nI (fb_ct (rwF (vM k T) (t9 * 8 + y9)) j))), (0, .ref Y.1), (1, .int t), (2, .int y), (3, .int w9)] ∧ fb_ct (rwF (vM k T) (t9 * 8 + y9)) j ≤ R9 + 1 ∧ (fb_ct (rwF (vM k T) (t9 * 8 + y9)) j = R9 + 1 → ∃ e9, (e9 < (60 * (T + 1)) ∧ (rwF (vM k T) (t9 * 8 + y9)) e9 = true ∧ fb_ct (rwF (vM k T) (t9 * 8 + y9)) e9 = R9 ∧ (rf') = runN (vM k T (e9 / 60) (t9 * 8 + y9)) (e9 % 60) ∧ (rb') = nI (e9 / 60)))) (fun w L h => ?_) (fun i w L h ih => ?_) ((60 * (T + 1)) + 1) _ _ ⟨0, rf, rb, by omega, rfl, by omega, rfl, Nat.zero_le _, fun z => absurd z (by have : fb_ct (rwF (vM k T) (t9 * 8 + y9)) 0 = 0 := rfl; omega)⟩
  · obtain ⟨j, rf', rb', hj, -, h2, -⟩ := h
    omega
  obtain ⟨j, rf', rb', hj, rfl, hj1, rfl, hn, hlast⟩ := h
  have hcj := fb_ct_le (rwF (vM k T) (t9 * 8 + y9)) j
  refine gg_iload K dX1_rowsOf_6 rfl ?_
  refine gg_bipush K (v := 60) dX1_rowsOf_8 (by decide) ?_
  refine gg_aload_n K (i := 0) dX1_rowsOf_10 rfl rfl ?_
  refine gM_today K dX1_rowsOf_11 ?_
  refine gg_iconst K (v := 1) dX1_rowsOf_14 (by decide) ?_
  refine gg_iadd K dX1_rowsOf_15 ?_
  refine gg_imul K dX1_rowsOf_16 ?_
  refine gg_top (y := nI (60 * (T + 1))) (by rw [nI_1]; exact nI_mul 60 _) ?_
  refine gg_icmp_ge K (tgt := 100) dX1_rowsOf_17 (by decide) (fun h17 => ?_) (fun h17 => ?_)
  · have hj2 := i_le h17
    have hj3 : j = (60 * (T + 1)) := by omega
    subst hj3
    refine gg_iload K dX1_rowsOf_100 rfl ?_
    refine gg_iret K hr dX1_rowsOf_102 (Nat.le_of_ble_eq_true rfl) (Nat.le_of_ble_eq_true rfl) ⟨rf', rb', rfl, ?_⟩
    by_cases hc : fb_ct (rwF (vM k T) (t9 * 8 + y9)) (60 * (T + 1)) ≤ R9
    · exact Or.inl ⟨hc, rfl⟩
    · exact Or.inr ⟨by omega, some_int (congrArg nI (by omega)), hlast (by omega)⟩
  have hj2 := i_nle h17
  refine gg_iload K dX1_rowsOf_20 rfl ?_
  refine gg_iload_n K (i := 3) dX1_rowsOf_22 rfl rfl ?_
  refine gg_top (y := nI R9) hw ?_
  refine gg_icmp_gt K (tgt := 100) dX1_rowsOf_23 (by decide) (fun h23 => ?_) (fun h23 => ?_)
  · have h3 := i_lt h23
    refine gg_iload K dX1_rowsOf_100 rfl ?_
    have hm := fb_ct_mono (rwF (vM k T) (t9 * 8 + y9)) (show j ≤ (60 * (T + 1)) by omega)
    exact gg_iret K hr dX1_rowsOf_102 (Nat.le_of_ble_eq_true rfl) (Nat.le_of_ble_eq_true rfl) ⟨rf', rb', rfl, Or.inr ⟨by omega, some_int (congrArg nI (by omega)), hlast (by omega)⟩⟩
  have h3 := i_nlt h23
  have hrT : j / 60 ≤ T := by omega
  have hrow := row_told (l := t9 * 8 + y9) (r := j / 60) (d := j % 60) hv hrT (by omega) (by omega)
  have hRW : (rwF (vM k T) (t9 * 8 + y9)) j = rowF (vM k T) (t9 * 8 + y9) (j / 60) (j % 60) := rfl
  refine gg_iload K dX1_rowsOf_26 rfl ?_
  refine gg_bipush K (v := 60) dX1_rowsOf_28 (by decide) ?_
  refine gg_idiv K dX1_rowsOf_30 (by decide) ?_
  refine gg_top (pk_div (d := 60) (by omega) (by omega) (by omega)) ?_
  refine gg_istore K dX1_rowsOf_31 (by decide) ?_
  refine gg_aload_n K (i := 0) dX1_rowsOf_33 rfl rfl ?_
  refine gg_iload_n K (i := 1) dX1_rowsOf_34 rfl rfl ?_
  refine gg_iload_n K (i := 2) dX1_rowsOf_35 rfl rfl ?_
  refine gg_iload K dX1_rowsOf_36 rfl ?_
  refine gg_iload K dX1_rowsOf_38 rfl ?_
  refine gg_bipush K (v := 60) dX1_rowsOf_40 (by decide) ?_
  refine gg_irem K dX1_rowsOf_42 (by decide) ?_
  refine gg_top (pk_rem (d := 60) (by omega) (by omega) (by omega)) ?_
  refine gg_callRM K k_X1_X1_told (m_told (j / 60) t9 y9 (j % 60) hT hrT ht9 hy9 (by omega) ht hy rfl rfl) dX1_rowsOf_43 rfl rfl rfl rfl ⟨rfl, rfl⟩ ?_
  refine gg_istore K dX1_rowsOf_46 (by decide) ?_
  refine gg_iload K dX1_rowsOf_48 rfl ?_
  refine gg_iconst K (v := (-1)) dX1_rowsOf_50 (by decide) ?_
  refine gg_icmp_eq K (tgt := 94) dX1_rowsOf_51 (by decide) (fun h51 => ?_) (fun h51 => ?_)
  · have hf : (rwF (vM k T) (t9 * 8 + y9)) j = false := by
      cases hs : (rwF (vM k T) (t9 * 8 + y9)) j with
      | false => rfl
      | true => exact absurd h51 (hrow.mp (hRW.symm.trans hs)).1
    have hc : fb_ct (rwF (vM k T) (t9 * 8 + y9)) (j + 1) = fb_ct (rwF (vM k T) (t9 * 8 + y9)) j := by rw [fb_ct_succ, hf]; rfl
    refine gg_iinc K (v := nI (j + 1)) dX1_rowsOf_94 rfl (nI_inc (j)) (by decide) ?_
    refine gg_goto K (tgt := 6) dX1_rowsOf_97 (by decide) ?_
    refine gg_sub (L' := [(5, .int (nI (j + 1))), (4, .int (nI (fb_ct (rwF (vM k T) (t9 * 8 + y9)) (j + 1)))), (0, .ref Y.1), (1, .int t), (2, .int y), (3, .int w9)]) ⟨rfl, by rw [hc]; rfl, rfl, rfl, rfl, rfl, trivial⟩ ?_
    exact ih _ _ ⟨j + 1, rf', rb', by omega, rfl, by omega, rfl, by omega, fun z => by
      rw [hc] at z
      obtain ⟨e9, g1, g2, g3, g4, g5⟩ := hlast z
      exact ⟨e9, g1, g2, g3, g4, g5⟩⟩
  have hit : (rwF (vM k T) (t9 * 8 + y9)) j = true → gg p l e (rmk 4 120 0 0) s m args below meth c Z.1 A 8 0 0 (MQ below (qA Z.1 (ty3 Z) A (fun v u => ∃ rf' rb', u = wM Z Y k th (nI T) rf' rb' re ∧ ((fb_ct (rwF (vM k T) (t9 * 8 + y9)) (60 * (T + 1)) ≤ R9 ∧ v = some (.int (nI (fb_ct (rwF (vM k T) (t9 * 8 + y9)) (60 * (T + 1)))))) ∨ (R9 < fb_ct (rwF (vM k T) (t9 * 8 + y9)) (60 * (T + 1)) ∧ v = some (.int (nI (R9 + 1))) ∧ ∃ e9, (e9 < (60 * (T + 1)) ∧ (rwF (vM k T) (t9 * 8 + y9)) e9 = true ∧ fb_ct (rwF (vM k T) (t9 * 8 + y9)) e9 = R9 ∧ (rf') = runN (vM k T (e9 / 60) (t9 * 8 + y9)) (e9 % 60) ∧ (rb') = nI (e9 / 60)))))) args s (rmk 4 120 0 0).cells (rmk 4 120 0 0).slots A) (wM Z Y k th (nI T) rf' rb' re) 79 ((7, .int (toldF (vM k T (j / 60) (t9 * 8 + y9)) (j % 60))) :: (6, .int (nI (j / 60))) :: [(5, .int (nI j)), (4, .int (nI (fb_ct (rwF (vM k T) (t9 * 8 + y9)) j))), (0, .ref Y.1), (1, .int t), (2, .int y), (3, .int w9)]) [] := fun hs => by
    have hc : fb_ct (rwF (vM k T) (t9 * 8 + y9)) (j + 1) = fb_ct (rwF (vM k T) (t9 * 8 + y9)) j + 1 := by rw [fb_ct_succ, hs]; rfl
    have hst : stF (vM k T (j / 60) (t9 * 8 + y9)) (j % 60) = true := (bP_iff.mp (hRW.symm.trans hs)).1
    refine gg_aload_n K (i := 0) dX1_rowsOf_79 rfl rfl ?_
    refine gg_iload K dX1_rowsOf_80 rfl ?_
    refine gM_prowFirst K dX1_rowsOf_82 ?_
    refine gg_aload_n K (i := 0) dX1_rowsOf_85 rfl rfl ?_
    refine gg_iload K dX1_rowsOf_86 rfl ?_
    refine gM_prowBegin K dX1_rowsOf_88 ?_
    refine gg_iinc K (v := nI (fb_ct (rwF (vM k T) (t9 * 8 + y9)) j + 1)) dX1_rowsOf_91 rfl (nI_inc (fb_ct (rwF (vM k T) (t9 * 8 + y9)) j)) (by decide) ?_
    refine gg_iinc K (v := nI (j + 1)) dX1_rowsOf_94 rfl (nI_inc (j)) (by decide) ?_
    refine gg_goto K (tgt := 6) dX1_rowsOf_97 (by decide) ?_
    refine gg_sub (L' := [(5, .int (nI (j + 1))), (4, .int (nI (fb_ct (rwF (vM k T) (t9 * 8 + y9)) (j + 1)))), (0, .ref Y.1), (1, .int t), (2, .int y), (3, .int w9)]) ⟨rfl, by rw [hc]; rfl, rfl, rfl, rfl, rfl, trivial⟩ ?_
    exact ih _ _ ⟨j + 1, _, _, by omega, rfl, by omega, rfl, by omega, fun z => ⟨j, by omega, hs, by omega, if_pos hst, rfl⟩⟩
  refine gg_iload K dX1_rowsOf_54 rfl ?_
  refine gg_if_eq K (tgt := 79) dX1_rowsOf_56 (by decide) (fun h56 => ?_) (fun h56 => ?_)
  · exact hit (hRW.trans (hrow.mpr ⟨h51, Or.inl (i_eq (b := 0) h56)⟩))
  have hr0 : ¬ j / 60 = 0 := fun z => h56 (by rw [z]; rfl)
  refine gg_aload_n K (i := 0) dX1_rowsOf_59 rfl rfl ?_
  refine gg_iload_n K (i := 1) dX1_rowsOf_60 rfl rfl ?_
  refine gg_iload_n K (i := 2) dX1_rowsOf_61 rfl rfl ?_
  refine gg_iload K dX1_rowsOf_62 rfl ?_
  refine gg_iconst K (v := 1) dX1_rowsOf_64 (by decide) ?_
  refine gg_isub K dX1_rowsOf_65 ?_
  refine gg_iload K dX1_rowsOf_66 rfl ?_
  refine gg_bipush K (v := 60) dX1_rowsOf_68 (by decide) ?_
  refine gg_irem K dX1_rowsOf_70 (by decide) ?_
  refine gg_top (pk_rem (d := 60) (by omega) (by omega) (by omega)) ?_
  refine gg_callRM K k_X1_X1_told (m_told (j / 60 - 1) t9 y9 (j % 60) hT (by omega) ht9 hy9 (by omega) ht hy (nI_sub1 (by omega)) rfl) dX1_rowsOf_71 rfl rfl rfl rfl ⟨rfl, rfl⟩ ?_
  refine gg_iload K dX1_rowsOf_74 rfl ?_
  refine gg_icmp_eq K (tgt := 94) dX1_rowsOf_76 (by decide) (fun h76 => ?_) (fun h76 => ?_)
  · have hf : (rwF (vM k T) (t9 * 8 + y9)) j = false := by
      cases hs : (rwF (vM k T) (t9 * 8 + y9)) j with
      | false => rfl
      | true => exact ((hrow.mp (hRW.symm.trans hs)).2.elim hr0 (fun z => z h76)).elim
    have hc : fb_ct (rwF (vM k T) (t9 * 8 + y9)) (j + 1) = fb_ct (rwF (vM k T) (t9 * 8 + y9)) j := by rw [fb_ct_succ, hf]; rfl
    refine gg_iinc K (v := nI (j + 1)) dX1_rowsOf_94 rfl (nI_inc (j)) (by decide) ?_
    refine gg_goto K (tgt := 6) dX1_rowsOf_97 (by decide) ?_
    refine gg_sub (L' := [(5, .int (nI (j + 1))), (4, .int (nI (fb_ct (rwF (vM k T) (t9 * 8 + y9)) (j + 1)))), (0, .ref Y.1), (1, .int t), (2, .int y), (3, .int w9)]) ⟨rfl, by rw [hc]; rfl, rfl, rfl, rfl, rfl, trivial⟩ ?_
    exact ih _ _ ⟨j + 1, rf', rb', by omega, rfl, by omega, rfl, by omega, fun z => by
      rw [hc] at z
      obtain ⟨e9, g1, g2, g3, g4, g5⟩ := hlast z
      exact ⟨e9, g1, g2, g3, g4, g5⟩⟩
  · exact hit (hRW.trans (hrow.mpr ⟨h51, Or.inr h76⟩))
set_option maxRecDepth 100000 in
theorem m_rows {l : Launch} {Z : ZT} {Y : MT} {k : Nat → Int32} {th rf rb re : Int32} {T : Nat} (hT : T < 60) (hv : valOk (vM k T) T) {t y : Int32} : mA l Z.1 (ty3 Z) yX1_rows cX1_rows 3 (some .int) (rmk 9 200 0 0) (wM Z Y k th (nI T) rf rb re) [.ref Y.1, .int t, .int y] (mPost Z Y (qS (vM k T) T (inR t 2 ∧ inR y 8) True (nI (fb_ct (rwF (vM k T) (nN t * 8 + nN y)) (60 * (T + 1)))))) := by
  refine mA_intro (own := RX1) [(0, .ref Y.1), (1, .int t), (2, .int y)] (by decide +kernel) rfl rfl rfl rfl ?_
  intro p e s m args below meth c A K hr hin
  refine gg_aload_n K (i := 0) dX1_rows_0 rfl rfl ?_
  refine gg_iload_n K (i := 1) dX1_rows_1 rfl rfl ?_
  refine gg_iload_n K (i := 2) dX1_rows_2 rfl rfl ?_
  refine gg_callSR K k_X1_X1_isKey m_isKey dX1_rows_3 rfl rfl rfl rfl ⟨rfl, rfl⟩ ?_
  refine gg_b_eq K (tgt := 13) dX1_rows_6 (by decide) (fun h6 => ?_) (fun h6 => ?_)
  · refine gg_iconst K (v := 1) dX1_rows_13 (by decide) ?_
    refine gg_callUM K k_X1_X1_holds m_holds dX1_rows_14 rfl rfl rfl rfl ⟨rfl, rfl⟩ (fun v9 u h => ?_)
    obtain ⟨rfl, rfl⟩ := h
    refine gg_b_eq K (tgt := 32) dX1_rows_17 (by decide) (fun h17 => ?_) (fun h17 => ?_)
    rotate_left
    · exact absurd (bP_iff.mp h17) (by decide)
    refine gg_iconst K (v := 0) dX1_rows_32 (by decide) ?_
    exact gg_iret K hr dX1_rows_33 (Nat.le_of_ble_eq_true rfl) (Nat.le_of_ble_eq_true rfl) ⟨1, 0, k, T, rf, rb, re, rfl, rfl, rfl, rfl, Or.inl ⟨bP_nf h6, rfl⟩⟩
  have ⟨h1, h2⟩ := bP_iff.mp h6
  have ⟨a1, a2⟩ := inR_N (b := 2) h1
  have ⟨b1, b2⟩ := inR_N (b := 8) h2
  have hcN := fb_ct_le (rwF (vM k T) (nN t * 8 + nN y)) (60 * (T + 1))
  refine gg_iconst K (v := 0) dX1_rows_9 (by decide) ?_
  refine gg_goto K (tgt := 14) dX1_rows_10 (by decide) ?_
  refine gg_callUM K k_X1_X1_holds m_holds dX1_rows_14 rfl rfl rfl rfl ⟨rfl, rfl⟩ (fun v9 u h => ?_)
  obtain ⟨rfl, rfl⟩ := h
  refine gg_b_eq K (tgt := 32) dX1_rows_17 (by decide) (fun h17 => ?_) (fun h17 => ?_)
  · exact absurd rfl (bP_nf h17)
  refine gg_aload_n K (i := 0) dX1_rows_20 rfl rfl ?_
  refine gg_iload_n K (i := 1) dX1_rows_21 rfl rfl ?_
  refine gg_iload_n K (i := 2) dX1_rows_22 rfl rfl ?_
  refine gg_sipush K (v := 3600) dX1_rows_23 (by decide) ?_
  refine gg_callUM K k_X1_X1_rowsOf (m_rowsOf hT hv (nN t) (nN y) 3600 a1 b1 (by omega) a2 b2 rfl) dX1_rows_26 rfl rfl rfl rfl ⟨rfl, rfl⟩ (fun v9 u h => ?_)
  obtain ⟨rf', rb', rfl, ⟨-, rfl⟩ | ⟨h9, -⟩⟩ := h
  · refine gg_goto K (tgt := 33) dX1_rows_29 (by decide) ?_
    exact gg_iret K hr dX1_rows_33 (Nat.le_of_ble_eq_true rfl) (Nat.le_of_ble_eq_true rfl) (mQ0 rfl ⟨h1, h2⟩ trivial rfl)
  · omega
set_option maxRecDepth 100000 in
theorem m_errRow {l : Launch} {Z : ZT} {Y : MT} {k : Nat → Int32} {th rf rb re : Int32} {T : Nat} (hT : T < 60) (hv : valOk (vM k T) T) {t y w9 : Int32} : mA l Z.1 (ty3 Z) yX1_errorOfRow cX1_errorOfRow 4 (some .int) (rmk 5 150 0 0) (wM Z Y k th (nI T) rf rb re) [.ref Y.1, .int t, .int y, .int w9] (fun v u => ∃ (rf' rb' c9 : Int32), v = some (.int c9) ∧ u = wM Z Y k th (nI T) rf' rb' re ∧ ((¬ (inR t 2 ∧ inR y 8) ∧ c9 = 1) ∨ ((inR t 2 ∧ inR y 8) ∧ ¬ (∃ j, j < fb_ct (rwF (vM k T) (nN t * 8 + nN y)) (60 * (T + 1)) ∧ w9 = nI j) ∧ c9 = 2) ∨ ((inR t 2 ∧ inR y 8) ∧ c9 = 0 ∧ ∃ e9, (e9 < (60 * (T + 1)) ∧ (rwF (vM k T) (nN t * 8 + nN y)) e9 = true ∧ nI (fb_ct (rwF (vM k T) (nN t * 8 + nN y)) e9) = w9 ∧ (rf') = runN (vM k T (e9 / 60) (nN t * 8 + nN y)) (e9 % 60) ∧ (rb') = nI (e9 / 60))))) := by
  refine mA_intro (own := RX1) [(0, .ref Y.1), (1, .int t), (2, .int y), (3, .int w9)] (by decide +kernel) rfl rfl rfl rfl ?_
  intro p e s m args below meth c A K hr hin
  refine gg_iload_n K (i := 1) dX1_errorOfRow_0 rfl rfl ?_
  refine gg_iload_n K (i := 2) dX1_errorOfRow_1 rfl rfl ?_
  refine gg_callSR K k_X1_X1_isKey m_isKey dX1_errorOfRow_2 rfl rfl rfl rfl ⟨rfl, rfl⟩ ?_
  refine gg_b_ne K (tgt := 10) dX1_errorOfRow_5 (by decide) (fun h5 => ?_) (fun h5 => ?_)
  rotate_left
  · refine gg_iconst K (v := 1) dX1_errorOfRow_8 (by decide) ?_
    exact gg_iret K hr dX1_errorOfRow_9 (Nat.le_of_ble_eq_true rfl) (Nat.le_of_ble_eq_true rfl) ⟨rf, rb, 1, rfl, rfl, Or.inl ⟨bP_nf h5, rfl⟩⟩
  have hP1 := bP_iff.mp h5
  have ⟨a1, a2⟩ := inR_N (b := 2) hP1.1
  have ⟨b1, b2⟩ := inR_N (b := 8) hP1.2
  have hcN := fb_ct_le (rwF (vM k T) (nN t * 8 + nN y)) (60 * (T + 1))
  refine gg_iload_n K (i := 3) dX1_errorOfRow_10 rfl rfl ?_
  refine gg_if_lt K (tgt := 32) dX1_errorOfRow_11 (by decide) (fun h11 => ?_) (fun h11 => ?_)
  · refine gg_iconst K (v := 2) dX1_errorOfRow_32 (by decide) ?_
    refine gg_goto K (tgt := 37) dX1_errorOfRow_33 (by decide) ?_
    exact gg_iret K hr dX1_errorOfRow_37 (Nat.le_of_ble_eq_true rfl) (Nat.le_of_ble_eq_true rfl) ⟨rf, rb, 2, rfl, rfl, Or.inr (Or.inl ⟨hP1, fun ⟨j, j1, j2⟩ => nI_pos (by omega) (j2 ▸ h11), rfl⟩)⟩
  obtain ⟨R9, r1, r2⟩ := nI_of h11
  refine gg_iload_n K (i := 3) dX1_errorOfRow_14 rfl rfl ?_
  refine gg_sipush K (v := 3600) dX1_errorOfRow_15 (by decide) ?_
  refine gg_icmp_gt K (tgt := 32) dX1_errorOfRow_18 (by decide) (fun h18 => ?_) (fun h18 => ?_)
  · rw [r2] at h18
    have h18 := i_lt (a := 3600) h18
    refine gg_iconst K (v := 2) dX1_errorOfRow_32 (by decide) ?_
    refine gg_goto K (tgt := 37) dX1_errorOfRow_33 (by decide) ?_
    exact gg_iret K hr dX1_errorOfRow_37 (Nat.le_of_ble_eq_true rfl) (Nat.le_of_ble_eq_true rfl) ⟨rf, rb, 2, rfl, rfl, Or.inr (Or.inl ⟨hP1, fun ⟨j, j1, j2⟩ => by
      rw [r2] at j2
      have := i_eq j2
      omega, rfl⟩)⟩
  rw [r2] at h18
  have h18 := i_nlt (a := 3600) h18
  refine gg_aload_n K (i := 0) dX1_errorOfRow_21 rfl rfl ?_
  refine gg_iload_n K (i := 1) dX1_errorOfRow_22 rfl rfl ?_
  refine gg_iload_n K (i := 2) dX1_errorOfRow_23 rfl rfl ?_
  refine gg_iload_n K (i := 3) dX1_errorOfRow_24 rfl rfl ?_
  refine gg_callUM K k_X1_X1_rowsOf (m_rowsOf hT hv (nN t) (nN y) R9 a1 b1 (by omega) a2 b2 r2) dX1_errorOfRow_25 rfl rfl rfl rfl ⟨rfl, rfl⟩ (fun v9 u h => ?_)
  obtain ⟨rf', rb', rfl, ⟨h9, rfl⟩ | ⟨h9, rfl, e9, g1, g2, g3, g4, g5⟩⟩ := h
  · refine gg_iload_n K (i := 3) dX1_errorOfRow_28 rfl rfl ?_
    refine gg_top (y := nI R9) r2 ?_
    refine gg_icmp_gt K (tgt := 36) dX1_errorOfRow_29 (by decide) (fun h29 => ?_) (fun h29 => ?_)
    · have := i_lt h29
      omega
    refine gg_iconst K (v := 2) dX1_errorOfRow_32 (by decide) ?_
    refine gg_goto K (tgt := 37) dX1_errorOfRow_33 (by decide) ?_
    exact gg_iret K hr dX1_errorOfRow_37 (Nat.le_of_ble_eq_true rfl) (Nat.le_of_ble_eq_true rfl) ⟨rf', rb', 2, rfl, rfl, Or.inr (Or.inl ⟨hP1, fun ⟨j, j1, j2⟩ => by
      rw [r2] at j2
      have := i_eq j2
      omega, rfl⟩)⟩
  · refine gg_iload_n K (i := 3) dX1_errorOfRow_28 rfl rfl ?_
    refine gg_top (y := nI R9) r2 ?_
    refine gg_icmp_gt K (tgt := 36) dX1_errorOfRow_29 (by decide) (fun h29 => ?_) (fun h29 => ?_)
    rotate_left
    · have := i_nlt h29
      omega
    refine gg_iconst K (v := 0) dX1_errorOfRow_36 (by decide) ?_
    exact gg_iret K hr dX1_errorOfRow_37 (Nat.le_of_ble_eq_true rfl) (Nat.le_of_ble_eq_true rfl) ⟨rf', rb', 0, rfl, rfl, Or.inr (Or.inr ⟨hP1, rfl, e9, g1, g2, by rw [g3, r2], g4, g5⟩)⟩
theorem mR_err {Z : ZT} {Y : MT} {k : Nat → Int32} {T : Nat} {rf rb re : Int32} {P1 P2 : Prop} {c r r0 : Int32} (h : (¬ P1 ∧ c = 1) ∨ (P1 ∧ ¬ P2 ∧ c = 2)) : mPost Z Y (qS (vM k T) T P1 P2 r0) (some (.int r)) (wM Z Y k c (nI T) rf rb re) := ⟨c, r, k, T, rf, rb, re, rfl, rfl, rfl, rfl, h.elim Or.inl (fun z => Or.inr (Or.inl z))⟩
set_option maxRecDepth 100000 in
theorem m_rowRun {l : Launch} {Z : ZT} {Y : MT} {k : Nat → Int32} {th rf rb re : Int32} {T : Nat} (hT : T < 60) (hv : valOk (vM k T) T) {t y w9 : Int32} : mA l Z.1 (ty3 Z) yX1_rowRun cX1_rowRun 4 (some .int) (rmk 9 200 0 0) (wM Z Y k th (nI T) rf rb re) [.ref Y.1, .int t, .int y, .int w9] (mPost Z Y (qS (vM k T) T (inR t 2 ∧ inR y 8) (∃ j, j < fb_ct (rwF (vM k T) (nN t * 8 + nN y)) (60 * (T + 1)) ∧ w9 = nI j) (runN (vM k T ((kthD (rwF (vM k T) (nN t * 8 + nN y)) (nN w9) (60 * (T + 1))) / 60) (nN t * 8 + nN y)) ((kthD (rwF (vM k T) (nN t * 8 + nN y)) (nN w9) (60 * (T + 1))) % 60)))) := by
  refine mA_intro (own := RX1) [(0, .ref Y.1), (1, .int t), (2, .int y), (3, .int w9)] (by decide +kernel) rfl rfl rfl rfl ?_
  intro p e s m args below meth c A K hr hin
  refine gg_aload_n K (i := 0) dX1_rowRun_0 rfl rfl ?_
  refine gg_aload_n K (i := 0) dX1_rowRun_1 rfl rfl ?_
  refine gg_iload_n K (i := 1) dX1_rowRun_2 rfl rfl ?_
  refine gg_iload_n K (i := 2) dX1_rowRun_3 rfl rfl ?_
  refine gg_iload_n K (i := 3) dX1_rowRun_4 rfl rfl ?_
  refine gg_callUM K k_X1_X1_errorOfRow (m_errRow hT hv) dX1_rowRun_5 rfl rfl rfl rfl ⟨rfl, rfl⟩ (fun v9 u h => ?_)
  obtain ⟨rf', rb', c9, rfl, rfl, h⟩ := h
  refine gg_callUM K k_X1_X1_holds m_holds dX1_rowRun_8 rfl rfl rfl rfl ⟨rfl, rfl⟩ (fun v9 u h => ?_)
  obtain ⟨rfl, rfl⟩ := h
  refine gg_b_eq K (tgt := 21) dX1_rowRun_11 (by decide) (fun h11 => ?_) (fun h11 => ?_)
  · refine gg_iconst K (v := 0) dX1_rowRun_21 (by decide) ?_
    exact gg_iret K hr dX1_rowRun_22 (Nat.le_of_ble_eq_true rfl) (Nat.le_of_ble_eq_true rfl) (mR_err (by
      rcases h with h | h | h
      · exact Or.inl h
      · exact Or.inr h
      · exact absurd h.2.1 (bP_nf h11)))
  have h0 := bP_iff.mp h11
  rcases h with h | h | ⟨hP1, -, e9, g1, g2, g3, rfl, rfl⟩
  · rw [h.2] at h0; exact absurd h0 (by decide)
  · rw [h.2.2] at h0; exact absurd h0 (by decide)
  obtain ⟨r1, r2⟩ := row_found g1 (by omega) g2 g3
  refine gg_aload_n K (i := 0) dX1_rowRun_14 rfl rfl ?_
  refine gM_rowFirst K dX1_rowRun_15 ?_
  refine gg_goto K (tgt := 22) dX1_rowRun_18 (by decide) ?_
  exact gg_iret K hr dX1_rowRun_22 (Nat.le_of_ble_eq_true rfl) (Nat.le_of_ble_eq_true rfl) (mQ0 h0 hP1 r1 (by rw [r2]))
set_option maxRecDepth 100000 in
theorem m_rowFrom {l : Launch} {Z : ZT} {Y : MT} {k : Nat → Int32} {th rf rb re : Int32} {T : Nat} (hT : T < 60) (hv : valOk (vM k T) T) {t y w9 : Int32} : mA l Z.1 (ty3 Z) yX1_rowFrom cX1_rowFrom 4 (some .int) (rmk 9 200 0 0) (wM Z Y k th (nI T) rf rb re) [.ref Y.1, .int t, .int y, .int w9] (mPost Z Y (qS (vM k T) T (inR t 2 ∧ inR y 8) (∃ j, j < fb_ct (rwF (vM k T) (nN t * 8 + nN y)) (60 * (T + 1)) ∧ w9 = nI j) (nI ((kthD (rwF (vM k T) (nN t * 8 + nN y)) (nN w9) (60 * (T + 1))) / 60)))) := by
  refine mA_intro (own := RX1) [(0, .ref Y.1), (1, .int t), (2, .int y), (3, .int w9)] (by decide +kernel) rfl rfl rfl rfl ?_
  intro p e s m args below meth c A K hr hin
  refine gg_aload_n K (i := 0) dX1_rowFrom_0 rfl rfl ?_
  refine gg_aload_n K (i := 0) dX1_rowFrom_1 rfl rfl ?_
  refine gg_iload_n K (i := 1) dX1_rowFrom_2 rfl rfl ?_
  refine gg_iload_n K (i := 2) dX1_rowFrom_3 rfl rfl ?_
  refine gg_iload_n K (i := 3) dX1_rowFrom_4 rfl rfl ?_
  refine gg_callUM K k_X1_X1_errorOfRow (m_errRow hT hv) dX1_rowFrom_5 rfl rfl rfl rfl ⟨rfl, rfl⟩ (fun v9 u h => ?_)
  obtain ⟨rf', rb', c9, rfl, rfl, h⟩ := h
  refine gg_callUM K k_X1_X1_holds m_holds dX1_rowFrom_8 rfl rfl rfl rfl ⟨rfl, rfl⟩ (fun v9 u h => ?_)
  obtain ⟨rfl, rfl⟩ := h
  refine gg_b_eq K (tgt := 21) dX1_rowFrom_11 (by decide) (fun h11 => ?_) (fun h11 => ?_)
  · refine gg_iconst K (v := 0) dX1_rowFrom_21 (by decide) ?_
    exact gg_iret K hr dX1_rowFrom_22 (Nat.le_of_ble_eq_true rfl) (Nat.le_of_ble_eq_true rfl) (mR_err (by
      rcases h with h | h | h
      · exact Or.inl h
      · exact Or.inr h
      · exact absurd h.2.1 (bP_nf h11)))
  have h0 := bP_iff.mp h11
  rcases h with h | h | ⟨hP1, -, e9, g1, g2, g3, rfl, rfl⟩
  · rw [h.2] at h0; exact absurd h0 (by decide)
  · rw [h.2.2] at h0; exact absurd h0 (by decide)
  obtain ⟨r1, r2⟩ := row_found g1 (by omega) g2 g3
  refine gg_aload_n K (i := 0) dX1_rowFrom_14 rfl rfl ?_
  refine gM_rowBegin K dX1_rowFrom_15 ?_
  refine gg_goto K (tgt := 22) dX1_rowFrom_18 (by decide) ?_
  exact gg_iret K hr dX1_rowFrom_22 (Nat.le_of_ble_eq_true rfl) (Nat.le_of_ble_eq_true rfl) (mQ0 h0 hP1 r1 (by rw [r2]))
set_option maxRecDepth 100000 in
theorem m_rowTo {l : Launch} {Z : ZT} {Y : MT} {k : Nat → Int32} {th rf rb re : Int32} {T : Nat} (hT : T < 60) (hv : valOk (vM k T) T) {t y w9 : Int32} : mA l Z.1 (ty3 Z) yX1_rowTo cX1_rowTo 4 (some .int) (rmk 9 200 0 0) (wM Z Y k th (nI T) rf rb re) [.ref Y.1, .int t, .int y, .int w9] (mPost Z Y (qS (vM k T) T (inR t 2 ∧ inR y 8) (∃ j, j < fb_ct (rwF (vM k T) (nN t * 8 + nN y)) (60 * (T + 1)) ∧ w9 = nI j) (reF (fun a => smF (vM k T (((kthD (rwF (vM k T) (nN t * 8 + nN y)) (nN w9) (60 * (T + 1)))) / 60) (nN t * 8 + nN y)) (vM k T a (nN t * 8 + nN y)) (((kthD (rwF (vM k T) (nN t * 8 + nN y)) (nN w9) (60 * (T + 1)))) % 60)) (T - (kthD (rwF (vM k T) (nN t * 8 + nN y)) (nN w9) (60 * (T + 1))) / 60) ((kthD (rwF (vM k T) (nN t * 8 + nN y)) (nN w9) (60 * (T + 1))) / 60 + 1)))) := by
  refine mA_intro (own := RX1) [(0, .ref Y.1), (1, .int t), (2, .int y), (3, .int w9)] (by decide +kernel) rfl rfl rfl rfl ?_
  intro p e s m args below meth c A K hr hin
  refine gg_aload_n K (i := 0) dX1_rowTo_0 rfl rfl ?_
  refine gg_aload_n K (i := 0) dX1_rowTo_1 rfl rfl ?_
  refine gg_iload_n K (i := 1) dX1_rowTo_2 rfl rfl ?_
  refine gg_iload_n K (i := 2) dX1_rowTo_3 rfl rfl ?_
  refine gg_iload_n K (i := 3) dX1_rowTo_4 rfl rfl ?_
  refine gg_callUM K k_X1_X1_errorOfRow (m_errRow hT hv) dX1_rowTo_5 rfl rfl rfl rfl ⟨rfl, rfl⟩ (fun v9 u h => ?_)
  obtain ⟨rf', rb', c9, rfl, rfl, h⟩ := h
  refine gg_callUM K k_X1_X1_holds m_holds dX1_rowTo_8 rfl rfl rfl rfl ⟨rfl, rfl⟩ (fun v9 u h => ?_)
  obtain ⟨rfl, rfl⟩ := h
  refine gg_b_ne K (tgt := 16) dX1_rowTo_11 (by decide) (fun h11 => ?_) (fun h11 => ?_)
  rotate_left
  · refine gg_iconst K (v := 0) dX1_rowTo_14 (by decide) ?_
    exact gg_iret K hr dX1_rowTo_15 (Nat.le_of_ble_eq_true rfl) (Nat.le_of_ble_eq_true rfl) (mR_err (by
      rcases h with h | h | h
      · exact Or.inl h
      · exact Or.inr h
      · exact absurd h.2.1 (bP_nf h11)))
  have h0 := bP_iff.mp h11
  rcases h with h | h | ⟨hP1, -, e9, g1, g2, g3, rfl, rfl⟩
  · rw [h.2] at h0; exact absurd h0 (by decide)
  · rw [h.2.2] at h0; exact absurd h0 (by decide)
  obtain ⟨r1, r2⟩ := row_found g1 (by omega) g2 g3
  rw [r2]
  have ⟨a1, a2⟩ := inR_N (b := 2) hP1.1
  have ⟨b1, b2⟩ := inR_N (b := 8) hP1.2
  have hst : stF (vM k T (e9 / 60) (nN t * 8 + nN y)) (e9 % 60) = true := (bP_iff.mp g2).1
  obtain ⟨j9, v1, v2⟩ := st_val hv (by omega) (by omega) (by omega) hst
  have hen := endF_le (f := vM k T (e9 / 60) (nN t * 8 + nN y)) (d := e9 % 60) (by omega)
  have hrun : runN (vM k T (e9 / 60) (nN t * 8 + nN y)) (e9 % 60) / 10000 = nI (e9 % 60) := by
    rw [runN_nI v1]
    refine (pk_div (d := 10000) (by omega) (by omega) (by omega)).trans (congrArg nI (by omega))
  have htold : toldF (vM k T (e9 / 60) (nN t * 8 + nN y)) (e9 % 60) = runN (vM k T (e9 / 60) (nN t * 8 + nN y)) (e9 % 60) := if_pos hst
  refine gg_aload_n K (i := 0) dX1_rowTo_16 rfl rfl ?_
  refine gg_aload_n K (i := 0) dX1_rowTo_17 rfl rfl ?_
  refine gM_rowBegin K dX1_rowTo_18 ?_
  refine gM_prowEnd K dX1_rowTo_21 ?_
  obtain ⟨G, hG⟩ : ∃ G, G = reF (fun a => smF (vM k T (e9 / 60) (nN t * 8 + nN y)) (vM k T a (nN t * 8 + nN y)) (e9 % 60)) (T - e9 / 60) (e9 / 60 + 1) := ⟨_, rfl⟩
  rw [← hG]
  have hself : (fun a => smF (vM k T (e9 / 60) (nN t * 8 + nN y)) (vM k T a (nN t * 8 + nN y)) (e9 % 60)) (e9 / 60) = true := (smF_self _ _).mpr hst
  have hG0 : G = reF (fun a => smF (vM k T (e9 / 60) (nN t * 8 + nN y)) (vM k T a (nN t * 8 + nN y)) (e9 % 60)) (T + 1 - e9 / 60) (e9 / 60) := by
    rw [hG, show T + 1 - e9 / 60 = (T - e9 / 60) + 1 by omega]
    exact (if_pos hself).symm
  refine gg_loop (fun i w L => ∃ (a : Nat), a + i = T + 2 ∧ w = wM Z Y k c9 (nI T) (runN (vM k T (e9 / 60) (nN t * 8 + nN y)) (e9 % 60)) (nI (e9 / 60)) (nI (a)) ∧ a ≤ T + 1 ∧ L = [(0, .ref Y.1), (1, .int t), (2, .int y), (3, .int w9)] ∧ G = reF (fun a => smF (vM k T (e9 / 60) (nN t * 8 + nN y)) (vM k T a (nN t * 8 + nN y)) (e9 % 60)) (T + 1 - a) a) (fun w L h => ?_) (fun i w L h ih => ?_) (T + 2 - e9 / 60) _ _ ⟨e9 / 60, by omega, rfl, by omega, rfl, hG0⟩
  · obtain ⟨a, hj, -, h2, -⟩ := h
    omega
  obtain ⟨a, hj, rfl, hj1, rfl, he⟩ := h
  refine gg_aload_n K (i := 0) dX1_rowTo_24 rfl rfl ?_
  refine gM_rowEnd K dX1_rowTo_25 ?_
  refine gg_aload_n K (i := 0) dX1_rowTo_28 rfl rfl ?_
  refine gM_today K dX1_rowTo_29 ?_
  refine gg_icmp_gt K (tgt := 73) dX1_rowTo_32 (by decide) (fun h32 => ?_) (fun h32 => ?_)
  · have hj2 := i_lt h32
    refine gg_aload_n K (i := 0) dX1_rowTo_73 rfl rfl ?_
    refine gM_rowEnd K dX1_rowTo_74 ?_
    refine gg_aload_n K (i := 0) dX1_rowTo_77 rfl rfl ?_
    refine gM_today K dX1_rowTo_78 ?_
    refine gg_icmp_le K (tgt := 88) dX1_rowTo_81 (by decide) (fun h81 => ?_) (fun h81 => ?_)
    · have := i_le h81
      omega
    refine gg_iconst K (v := (-1)) dX1_rowTo_84 (by decide) ?_
    refine gg_goto K (tgt := 92) dX1_rowTo_85 (by decide) ?_
    exact gg_iret K hr dX1_rowTo_92 (Nat.le_of_ble_eq_true rfl) (Nat.le_of_ble_eq_true rfl) (mQ0 h0 hP1 r1 (by rw [he, show T + 1 - a = 0 by omega]; rfl))
  have hj2 := i_nlt h32
  rw [show T + 1 - a = (T - a) + 1 by omega] at he
  unfold reF at he
  refine gg_aload_n K (i := 0) dX1_rowTo_35 rfl rfl ?_
  refine gg_iload_n K (i := 1) dX1_rowTo_36 rfl rfl ?_
  refine gg_iload_n K (i := 2) dX1_rowTo_37 rfl rfl ?_
  refine gg_aload_n K (i := 0) dX1_rowTo_38 rfl rfl ?_
  refine gM_rowEnd K dX1_rowTo_39 ?_
  refine gg_aload_n K (i := 0) dX1_rowTo_42 rfl rfl ?_
  refine gM_rowFirst K dX1_rowTo_43 ?_
  refine gg_sipush K (v := 10000) dX1_rowTo_46 (by decide) ?_
  refine gg_idiv K dX1_rowTo_49 (by decide) ?_
  refine gg_top hrun ?_
  refine gg_callRM K k_X1_X1_told (m_told a (nN t) (nN y) (e9 % 60) hT hj2 a1 b1 (by omega) a2 b2 rfl rfl) dX1_rowTo_50 rfl rfl rfl rfl ⟨rfl, rfl⟩ ?_
  have hsm := told_same (l := nN t * 8 + nN y) (o := a) hv (r := e9 / 60) (by omega) hj2 (by omega) (d := e9 % 60) (by omega) hst
  rw [htold] at hsm
  refine gg_aload_n K (i := 0) dX1_rowTo_53 rfl rfl ?_
  refine gM_rowFirst K dX1_rowTo_54 ?_
  refine gg_icmp_ne K (tgt := 73) dX1_rowTo_57 (by decide) (fun h57 => ?_) (fun h57 => ?_)
  · rw [if_neg (fun z => h57 (hsm.mpr z))] at he
    refine gg_aload_n K (i := 0) dX1_rowTo_73 rfl rfl ?_
    refine gM_rowEnd K dX1_rowTo_74 ?_
    refine gg_aload_n K (i := 0) dX1_rowTo_77 rfl rfl ?_
    refine gM_today K dX1_rowTo_78 ?_
    refine gg_icmp_le K (tgt := 88) dX1_rowTo_81 (by decide) (fun h81 => ?_) (fun h81 => ?_)
    rotate_left
    · have := i_nle h81
      omega
    refine gg_aload_n K (i := 0) dX1_rowTo_88 rfl rfl ?_
    refine gM_rowEnd K dX1_rowTo_89 ?_
    exact gg_iret K hr dX1_rowTo_92 (Nat.le_of_ble_eq_true rfl) (Nat.le_of_ble_eq_true rfl) (mQ0 h0 hP1 r1 he.symm)
  · rw [if_pos (hsm.mp h57)] at he
    refine gg_aload_n K (i := 0) dX1_rowTo_60 rfl rfl ?_
    refine gg_dup K dX1_rowTo_61 rfl ?_
    refine gM_rowEnd K dX1_rowTo_62 ?_
    refine gg_iconst K (v := 1) dX1_rowTo_65 (by decide) ?_
    refine gg_iadd K dX1_rowTo_66 ?_
    refine gg_top (nI_1 a) ?_
    refine gM_prowEnd K dX1_rowTo_67 ?_
    refine gg_goto K (tgt := 24) dX1_rowTo_70 (by decide) ?_
    exact ih _ _ ⟨a + 1, by omega, rfl, by omega, rfl, by rw [he, show T - a = T + 1 - (a + 1) by omega]⟩
