/-! Twotimes: rows -/
theorem fb_ct_flat {q : Nat → Bool} {a : Nat} : ∀ {n : Nat}, (∀ e, a ≤ e → e < a + n → q e = false) → fb_ct q (a + n) = fb_ct q a
  | 0, _ => rfl
  | n + 1, h => by
    rw [show a + (n + 1) = (a + n) + 1 from rfl, fb_ct_succ, h (a + n) (by omega) (by omega), fb_ct_flat (fun e h1 h2 => h e h1 (by omega))]
    rfl
/-- rows by the number of the day of record and of validity in one -/
noncomputable def rwF (V : VT) (l : Nat) (z : Nat) : Bool := rowF V l (z / 60) (z % 60)
theorem rwF_at (V : VT) (l r d : Nat) (hd : d < 60) : rwF V l (60 * r + d) = rowF V l r d := by
  unfold rwF
  rw [show (60 * r + d) / 60 = r by omega, show (60 * r + d) % 60 = d by omega]
theorem smF_self (f : Nat → Int32) (d : Nat) : smF f f d = true ↔ stF f d = true := ⟨fun h => (bP_iff.mp h).1, fun h => bP_t ⟨h, rfl, rfl⟩⟩
theorem row_off {V : VT} {l r : Nat} (h0 : 0 < r) (h : ∀ d, V r l d = V (r - 1) l d) (d : Nat) : rowF V l r d = false := by
  refine bP_f (fun q => ?_)
  have e : V r l = V (r - 1) l := funext h
  rcases q.2 with h2 | h2
  · omega
  · rw [← e, (smF_self _ _).mpr q.1] at h2
    cases h2
theorem vX_off {k kp : Nat → Int32} {T r : Nat} (ok : okX kp T) (hr : r ≤ T) (h : ¬ kp r = nI r) (l d : Nat) : rowF (vX k kp T) l r d = false := by
  obtain ⟨h1, h2⟩ := ((ok.2.2.2 r hr).2).resolve_left h
  refine row_off h1 (fun d => ?_) d
  unfold vX kq
  rw [← h2]
  by_cases hc : r ≤ T ∧ l < 16 ∧ d < 60
  · rw [if_pos hc, if_pos (by omega)]
  · rw [if_neg hc, if_neg (by omega)]
def reF (q : Nat → Bool) : Nat → Nat → Int32
  | 0, _ => -1
  | n + 1, a => if q a = true then reF q n (a + 1) else nI a
set_option maxRecDepth 100000 in
theorem x_startOfRow {l : Launch} {Z : ZT} {X : XT} {k kp dr : Nat → Int32} {T : Nat} (hl0 : l.stackTraces = false) (ok : okX kp T) (li : Nat) (hli : li < 16) {x w9 : Int32} (hx : x = nI li) : mX l Z.1 (ty3 Z) yX0_startOfRow (.code yX0_startOfRow cX0_startOfRow 6 (some .int)) (rmk 7 150 1 6) (wX Z X k kp dr (nI T)) [.ref X.1, .int x, .int w9] (fun v u => u = wX Z X k kp dr (nI T) ∧ ∃ e9, e9 < 60 * (T + 1) ∧ (rwF (vX k kp T) li) e9 = true ∧ nI (fb_ct (rwF (vX k kp T) li) e9) = w9 ∧ v = some (.int (nI e9))) (fun E u => E = eB ∧ u = wX Z X k kp dr (nI T) ∧ ∀ e9, e9 < 60 * (T + 1) → (rwF (vX k kp T) li) e9 = true → ¬ nI (fb_ct (rwF (vX k kp T) li) e9) = w9) := by
  refine mX_intro (own := RX0) [(0, .ref X.1), (1, .int x), (2, .int w9)] (by decide +kernel) rfl rfl rfl rfl ?_
  intro p e s m args below meth c A K hr T9 htab
  have hT9 := ok.1
  subst hx
  refine gg_iconst K (v := 0) dX0_startOfRow_0 (by decide) ?_
  refine gg_istore_n K (i := 3) dX0_startOfRow_1 rfl (by decide) ?_
  refine gg_iconst K (v := 0) dX0_startOfRow_2 (by decide) ?_
  refine gg_istore K dX0_startOfRow_3 (by decide) ?_
  refine gg_sub (L' := [(4, .int (nI 0)), (3, .int (nI 0)), (0, .ref X.1), (1, .int (nI li)), (2, .int w9)]) ⟨rfl, rfl, rfl, rfl, rfl, trivial⟩ ?_
  refine gg_loop (fun i w L => ∃ (r : Nat), r + i = T + 2 ∧ w = wX Z X k kp dr (nI T) ∧ r ≤ T + 1 ∧ L = [(4, .int (nI r)), (3, .int (nI ((fb_ct (rwF (vX k kp T) li) (60 * r))))), (0, .ref X.1), (1, .int (nI li)), (2, .int w9)] ∧ ∀ e9, e9 < 60 * r → (rwF (vX k kp T) li) e9 = true → ¬ nI (fb_ct (rwF (vX k kp T) li) e9) = w9) (fun w L h => ?_) (fun i w L h ih => ?_) (T + 2) _ _ ⟨0, by omega, rfl, by omega, rfl, fun e9 h => absurd h (by omega)⟩
  · obtain ⟨r, hj, -, h2, -⟩ := h
    omega
  · obtain ⟨r, hj, rfl, hj1, rfl, hno⟩ := h
    refine gg_iload K dX0_startOfRow_5 rfl ?_
    refine gg_aload_n K (i := 0) dX0_startOfRow_7 rfl rfl ?_
    refine gX_today K dX0_startOfRow_8 ?_
    refine gg_icmp_gt K (tgt := 74) dX0_startOfRow_11 (by decide) (fun h11 => ?_) (fun h11 => ?_)
    · have hj2 := i_lt h11
      have hj3 : r = T + 1 := by omega
      subst hj3
      exact gg_throw_eB K T9 hl0 htab (is := 165) (text := "row") (by decide) dX0_startOfRow_74 dX0_startOfRow_77 dX0_startOfRow_78 dX0_startOfRow_80 dX0_startOfRow_83 rfl rfl (Nat.le_of_ble_eq_true rfl) (Nat.le_of_ble_eq_true rfl) ⟨rfl, rfl, hno⟩
    have hj2 := i_nlt h11
    refine gg_iconst K (v := 0) dX0_startOfRow_14 (by decide) ?_
    refine gg_istore K dX0_startOfRow_15 (by decide) ?_
    refine gg_sub (L' := [(5, .int (nI 0)), (4, .int (nI r)), (3, .int (nI ((fb_ct (rwF (vX k kp T) li) (60 * r + 0))))), (0, .ref X.1), (1, .int (nI li)), (2, .int w9)]) ⟨rfl, rfl, rfl, rfl, rfl, rfl, trivial⟩ ?_
    refine gg_loop (fun i w L => ∃ (d : Nat), d + i = 61 ∧ w = wX Z X k kp dr (nI T) ∧ d ≤ 60 ∧ L = [(5, .int (nI d)), (4, .int (nI r)), (3, .int (nI ((fb_ct (rwF (vX k kp T) li) (60 * r + d))))), (0, .ref X.1), (1, .int (nI li)), (2, .int w9)] ∧ ∀ e9, e9 < 60 * r + d → (rwF (vX k kp T) li) e9 = true → ¬ nI (fb_ct (rwF (vX k kp T) li) e9) = w9) (fun w L h => ?_) (fun i w L h ih2 => ?_) 61 _ _ ⟨0, by omega, rfl, by omega, rfl, hno⟩
    · obtain ⟨d, hj, -, h2, -⟩ := h
      omega
    · obtain ⟨d, hd1, rfl, hd2, rfl, hno2⟩ := h
      refine gg_iload K dX0_startOfRow_17 rfl ?_
      refine gg_bipush K (v := 60) dX0_startOfRow_19 (by decide) ?_
      refine gg_icmp_ge K (tgt := 68) dX0_startOfRow_21 (by decide) (fun h21 => ?_) (fun h21 => ?_)
      · have hd3 := i_le (a := 60) h21
        have hd4 : d = 60 := by omega
        subst hd4
        refine gg_iinc K (v := nI (r + 1)) dX0_startOfRow_68 rfl (nI_inc (r)) (by decide) ?_
        refine gg_goto K (tgt := 5) dX0_startOfRow_71 (by decide) ?_
        refine gg_sub (L' := [(4, .int (nI (r + 1))), (3, .int (nI ((fb_ct (rwF (vX k kp T) li) (60 * (r + 1)))))), (0, .ref X.1), (1, .int (nI li)), (2, .int w9)]) ⟨rfl, rfl, rfl, rfl, rfl, trivial⟩ ?_
        exact ih _ _ ⟨r + 1, by omega, rfl, by omega, rfl, hno2⟩
      have hd3 := i_nle (a := 60) h21
      refine gg_aload_n K (i := 0) dX0_startOfRow_24 rfl rfl ?_
      refine gg_iload K dX0_startOfRow_25 rfl ?_
      refine gg_callRX K k_X0_X0_isKept (x_isKept r ok hj2 rfl) dX0_startOfRow_27 rfl rfl rfl rfl ⟨rfl, rfl⟩ ?_
      refine gg_b_eq K (tgt := 68) dX0_startOfRow_30 (by decide) (fun h30 => ?_) (fun h30 => ?_)
      · have hoff := fun d => vX_off (k := k) ok hj2 (of_decide_eq_false h30) li d
        have hfl : ∀ e9, 60 * r + d ≤ e9 → e9 < 60 * r + d + (60 - d) → (rwF (vX k kp T) li) e9 = false := fun e9 g1 g2 => by
          have e := rwF_at (vX k kp T) li r (e9 - 60 * r) (by omega)
          rw [show 60 * r + (e9 - 60 * r) = e9 by omega] at e
          rw [e]
          exact hoff _
        have hc := fb_ct_flat hfl
        rw [show 60 * r + d + (60 - d) = 60 * (r + 1) by omega] at hc
        refine gg_iinc K (v := nI (r + 1)) dX0_startOfRow_68 rfl (nI_inc (r)) (by decide) ?_
        refine gg_goto K (tgt := 5) dX0_startOfRow_71 (by decide) ?_
        refine gg_sub (L' := [(4, .int (nI (r + 1))), (3, .int (nI ((fb_ct (rwF (vX k kp T) li) (60 * r + d))))), (0, .ref X.1), (1, .int (nI li)), (2, .int w9)]) ⟨rfl, rfl, rfl, rfl, rfl, trivial⟩ ?_
        refine ih _ _ ⟨r + 1, by omega, rfl, by omega, by rw [hc], fun e9 g1 g2 => ?_⟩
        by_cases hlt : e9 < 60 * r + d
        · exact hno2 e9 hlt g2
        · rw [hfl e9 (by omega) (by omega)] at g2
          cases g2
      have hat := rwF_at (vX k kp T) li r d hd3
      refine gg_aload_n K (i := 0) dX0_startOfRow_33 rfl rfl ?_
      refine gg_iload K dX0_startOfRow_34 rfl ?_
      refine gg_iload_n K (i := 1) dX0_startOfRow_36 rfl rfl ?_
      refine gg_iload K dX0_startOfRow_37 rfl ?_
      refine gg_callRX K k_X0_X0_startsRow (x_startsRow r li d ok hj2 hli hd3 rfl rfl rfl) dX0_startOfRow_39 rfl rfl rfl rfl ⟨rfl, rfl⟩ ?_
      refine gg_b_eq K (tgt := 62) dX0_startOfRow_42 (by decide) (fun h42 => ?_) (fun h42 => ?_)
      · rw [← hat] at h42
        refine gg_iinc K (v := nI (d + 1)) dX0_startOfRow_62 rfl (nI_inc (d)) (by decide) ?_
        refine gg_goto K (tgt := 17) dX0_startOfRow_65 (by decide) ?_
        refine gg_sub (L' := [(5, .int (nI (d + 1))), (4, .int (nI r)), (3, .int (nI ((fb_ct (rwF (vX k kp T) li) (60 * r + d))))), (0, .ref X.1), (1, .int (nI li)), (2, .int w9)]) ⟨rfl, rfl, rfl, rfl, rfl, rfl, trivial⟩ ?_
        refine ih2 _ _ ⟨d + 1, by omega, rfl, by omega, by rw [show 60 * r + (d + 1) = (60 * r + d) + 1 from rfl, fb_ct_succ, h42]; rfl, fun e9 g1 g2 => ?_⟩
        by_cases hlt : e9 < 60 * r + d
        · exact hno2 e9 hlt g2
        · rw [show e9 = 60 * r + d by omega, h42] at g2
          cases g2
      rw [← hat] at h42
      refine gg_iload_n K (i := 3) dX0_startOfRow_45 rfl rfl ?_
      refine gg_iload_n K (i := 2) dX0_startOfRow_46 rfl rfl ?_
      refine gg_icmp_ne K (tgt := 59) dX0_startOfRow_47 (by decide) (fun h47 => ?_) (fun h47 => ?_)
      · refine gg_iinc K (v := nI (fb_ct (rwF (vX k kp T) li) (60 * r + d) + 1)) dX0_startOfRow_59 rfl (nI_inc (fb_ct (rwF (vX k kp T) li) (60 * r + d))) (by decide) ?_
        refine gg_iinc K (v := nI (d + 1)) dX0_startOfRow_62 rfl (nI_inc (d)) (by decide) ?_
        refine gg_goto K (tgt := 17) dX0_startOfRow_65 (by decide) ?_
        refine gg_sub (L' := [(5, .int (nI (d + 1))), (4, .int (nI r)), (3, .int (nI ((fb_ct (rwF (vX k kp T) li) (60 * r + d) + 1)))), (0, .ref X.1), (1, .int (nI li)), (2, .int w9)]) ⟨rfl, rfl, rfl, rfl, rfl, rfl, trivial⟩ ?_
        refine ih2 _ _ ⟨d + 1, by omega, rfl, by omega, by rw [show 60 * r + (d + 1) = (60 * r + d) + 1 from rfl, fb_ct_succ, h42]; rfl, fun e9 g1 g2 => ?_⟩
        by_cases hlt : e9 < 60 * r + d
        · exact hno2 e9 hlt g2
        · rw [show e9 = 60 * r + d by omega]
          exact h47
      · refine gg_iload K dX0_startOfRow_50 rfl ?_
        refine gg_bipush K (v := 60) dX0_startOfRow_52 (by decide) ?_
        refine gg_imul K dX0_startOfRow_54 ?_
        refine gg_iload K dX0_startOfRow_55 rfl ?_
        refine gg_iadd K dX0_startOfRow_57 ?_
        exact gg_x (gg_iret K hr dX0_startOfRow_58 (Nat.le_of_ble_eq_true rfl) (Nat.le_of_ble_eq_true rfl) ⟨rfl, 60 * r + d, by omega, h42, h47, some_int (by simp only [nI_lit, nI_mul, nI_add]; exact congrArg nI (by omega))⟩)
set_option maxRecDepth 100000 in
theorem x_rows {l : Launch} {Z : ZT} {X : XT} {k kp dr : Nat → Int32} {T : Nat} (hl0 : l.stackTraces = false) (ok : okX kp T) {t y : Int32} : mX l Z.1 (ty3 Z) yX0_rows (.code yX0_rows cX0_rows 7 (some .int)) (rmk 9 200 8 48) (wX Z X k kp dr (nI T)) [.ref X.1, .int t, .int y] (xPost Z X ((qS (vX k kp T) T (inR t 2 ∧ inR y 8) True (nI (fb_ct (rwF (vX k kp T) (nN t * 8 + nN y)) (60 * (T + 1))))))) (xErr Z X ((qS (vX k kp T) T (inR t 2 ∧ inR y 8) True (nI (fb_ct (rwF (vX k kp T) (nN t * 8 + nN y)) (60 * (T + 1)))))) cA1) := by
  refine mX_intro (own := RX0) [(0, .ref X.1), (1, .int t), (2, .int y)] (by decide +kernel) rfl rfl rfl rfl ?_
  intro p e s m args below meth c A K hr T9 htab
  have hT9 := ok.1
  refine gg_iload_n K (i := 1) dX0_rows_0 rfl rfl ?_
  refine gg_iload_n K (i := 2) dX0_rows_1 rfl rfl ?_
  refine gg_callTS 2 12 K T9 k_X0_X0_needTableAndKey (x_needTK hl0) dX0_rows_2 rfl rfl rfl rfl ⟨rfl, rfl⟩ (fun E u h => ?_) (fun v u h => ?_)
  · obtain ⟨rfl, rfl, h⟩ := h
    exact gx_out K htab (Nat.le_of_ble_eq_true rfl) (Nat.le_of_ble_eq_true rfl) (qE1 ok h (by decide))
  obtain ⟨rfl, rfl, h1⟩ := h
  have ⟨a1, a2⟩ := inR_N (b := 2) h1.1
  have ⟨b1, b2⟩ := inR_N (b := 8) h1.2
  refine gg_iload_n K (i := 1) dX0_rows_5 rfl rfl ?_
  refine gg_iload_n K (i := 2) dX0_rows_6 rfl rfl ?_
  refine gg_callSR K k_X0_X0_line (x_line (nN t) (nN y) a2 b2) dX0_rows_7 rfl rfl rfl rfl ⟨rfl, rfl⟩ ?_
  refine gg_istore_n K (i := 3) dX0_rows_10 rfl (by decide) ?_
  refine gg_iconst K (v := 0) dX0_rows_11 (by decide) ?_
  refine gg_istore K dX0_rows_12 (by decide) ?_
  refine gg_iconst K (v := 0) dX0_rows_14 (by decide) ?_
  refine gg_istore K dX0_rows_15 (by decide) ?_
  refine gg_sub (L' := [(5, .int (nI 0)), (4, .int (nI 0)), (3, .int (nI (nN t * 8 + nN y))), (0, .ref X.1), (1, .int t), (2, .int y)]) ⟨rfl, rfl, rfl, rfl, rfl, rfl, trivial⟩ ?_
  refine gg_loop (fun i w L => ∃ (r : Nat), r + i = T + 2 ∧ w = wX Z X k kp dr (nI T) ∧ r ≤ T + 1 ∧ L = [(5, .int (nI r)), (4, .int (nI ((fb_ct (rwF (vX k kp T) (nN t * 8 + nN y)) (60 * r))))), (3, .int (nI (nN t * 8 + nN y))), (0, .ref X.1), (1, .int t), (2, .int y)]) (fun w L h => ?_) (fun i w L h ih => ?_) (T + 2) _ _ ⟨0, by omega, rfl, by omega, rfl⟩
  · obtain ⟨r, hj, -, h2, -⟩ := h
    omega
  · obtain ⟨r, hj, rfl, hj1, rfl⟩ := h
    refine gg_iload K dX0_rows_17 rfl ?_
    refine gg_aload_n K (i := 0) dX0_rows_19 rfl rfl ?_
    refine gX_today K dX0_rows_20 ?_
    refine gg_icmp_gt K (tgt := 72) dX0_rows_23 (by decide) (fun h23 => ?_) (fun h23 => ?_)
    · have hj2 := i_lt h23
      have hj3 : r = T + 1 := by omega
      subst hj3
      refine gg_iload K dX0_rows_72 rfl ?_
      exact gg_x (gg_iret K hr dX0_rows_74 (Nat.le_of_ble_eq_true rfl) (Nat.le_of_ble_eq_true rfl) (qOk ok h1 trivial rfl))
    have hj2 := i_nlt h23
    refine gg_iconst K (v := 0) dX0_rows_26 (by decide) ?_
    refine gg_istore K dX0_rows_27 (by decide) ?_
    refine gg_sub (L' := [(6, .int (nI 0)), (5, .int (nI r)), (4, .int (nI ((fb_ct (rwF (vX k kp T) (nN t * 8 + nN y)) (60 * r + 0))))), (3, .int (nI (nN t * 8 + nN y))), (0, .ref X.1), (1, .int t), (2, .int y)]) ⟨rfl, rfl, rfl, rfl, rfl, rfl, rfl, trivial⟩ ?_
    refine gg_loop (fun i w L => ∃ (d : Nat), d + i = 61 ∧ w = wX Z X k kp dr (nI T) ∧ d ≤ 60 ∧ L = [(6, .int (nI d)), (5, .int (nI r)), (4, .int (nI ((fb_ct (rwF (vX k kp T) (nN t * 8 + nN y)) (60 * r + d))))), (3, .int (nI (nN t * 8 + nN y))), (0, .ref X.1), (1, .int t), (2, .int y)]) (fun w L h => ?_) (fun i w L h ih2 => ?_) 61 _ _ ⟨0, by omega, rfl, by omega, rfl⟩
    · obtain ⟨d, hj, -, h2, -⟩ := h
      omega
    · obtain ⟨d, hd1, rfl, hd2, rfl⟩ := h
      refine gg_iload K dX0_rows_29 rfl ?_
      refine gg_bipush K (v := 60) dX0_rows_31 (by decide) ?_
      refine gg_icmp_ge K (tgt := 66) dX0_rows_33 (by decide) (fun h33 => ?_) (fun h33 => ?_)
      · have hd3 := i_le (a := 60) h33
        have hd4 : d = 60 := by omega
        subst hd4
        refine gg_iinc K (v := nI (r + 1)) dX0_rows_66 rfl (nI_inc (r)) (by decide) ?_
        refine gg_goto K (tgt := 17) dX0_rows_69 (by decide) ?_
        refine gg_sub (L' := [(5, .int (nI (r + 1))), (4, .int (nI ((fb_ct (rwF (vX k kp T) (nN t * 8 + nN y)) (60 * (r + 1)))))), (3, .int (nI (nN t * 8 + nN y))), (0, .ref X.1), (1, .int t), (2, .int y)]) ⟨rfl, rfl, rfl, rfl, rfl, rfl, trivial⟩ ?_
        exact ih _ _ ⟨r + 1, by omega, rfl, by omega, rfl⟩
      have hd3 := i_nle (a := 60) h33
      refine gg_aload_n K (i := 0) dX0_rows_36 rfl rfl ?_
      refine gg_iload K dX0_rows_37 rfl ?_
      refine gg_callRX K k_X0_X0_isKept (x_isKept r ok hj2 rfl) dX0_rows_39 rfl rfl rfl rfl ⟨rfl, rfl⟩ ?_
      refine gg_b_eq K (tgt := 66) dX0_rows_42 (by decide) (fun h42 => ?_) (fun h42 => ?_)
      · have hoff := fun d => vX_off (k := k) ok hj2 (of_decide_eq_false h42) (nN t * 8 + nN y) d
        have hc := fb_ct_flat (q := (rwF (vX k kp T) (nN t * 8 + nN y))) (a := 60 * r + d) (n := 60 - d) (fun e9 g1 g2 => by
          have e := rwF_at (vX k kp T) (nN t * 8 + nN y) r (e9 - 60 * r) (by omega)
          rw [show 60 * r + (e9 - 60 * r) = e9 by omega] at e
          rw [e]
          exact hoff _)
        rw [show 60 * r + d + (60 - d) = 60 * (r + 1) by omega] at hc
        refine gg_iinc K (v := nI (r + 1)) dX0_rows_66 rfl (nI_inc (r)) (by decide) ?_
        refine gg_goto K (tgt := 17) dX0_rows_69 (by decide) ?_
        refine gg_sub (L' := [(5, .int (nI (r + 1))), (4, .int (nI ((fb_ct (rwF (vX k kp T) (nN t * 8 + nN y)) (60 * r + d))))), (3, .int (nI (nN t * 8 + nN y))), (0, .ref X.1), (1, .int t), (2, .int y)]) ⟨rfl, rfl, rfl, rfl, rfl, rfl, trivial⟩ ?_
        exact ih _ _ ⟨r + 1, by omega, rfl, by omega, by rw [hc]⟩
      have hat := rwF_at (vX k kp T) (nN t * 8 + nN y) r d hd3
      refine gg_aload_n K (i := 0) dX0_rows_45 rfl rfl ?_
      refine gg_iload K dX0_rows_46 rfl ?_
      refine gg_iload_n K (i := 3) dX0_rows_48 rfl rfl ?_
      refine gg_iload K dX0_rows_49 rfl ?_
      refine gg_callRX K k_X0_X0_startsRow (x_startsRow r (nN t * 8 + nN y) d ok hj2 (by omega) hd3 rfl rfl rfl) dX0_rows_51 rfl rfl rfl rfl ⟨rfl, rfl⟩ ?_
      refine gg_b_eq K (tgt := 60) dX0_rows_54 (by decide) (fun h54 => ?_) (fun h54 => ?_)
      · rw [← hat] at h54
        refine gg_iinc K (v := nI (d + 1)) dX0_rows_60 rfl (nI_inc (d)) (by decide) ?_
        refine gg_goto K (tgt := 29) dX0_rows_63 (by decide) ?_
        refine gg_sub (L' := [(6, .int (nI (d + 1))), (5, .int (nI r)), (4, .int (nI ((fb_ct (rwF (vX k kp T) (nN t * 8 + nN y)) (60 * r + d))))), (3, .int (nI (nN t * 8 + nN y))), (0, .ref X.1), (1, .int t), (2, .int y)]) ⟨rfl, rfl, rfl, rfl, rfl, rfl, rfl, trivial⟩ ?_
        exact ih2 _ _ ⟨d + 1, by omega, rfl, by omega, by rw [show 60 * r + (d + 1) = (60 * r + d) + 1 from rfl, fb_ct_succ, h54]; rfl⟩
      · rw [← hat] at h54
        refine gg_iinc K (v := nI (fb_ct (rwF (vX k kp T) (nN t * 8 + nN y)) (60 * r + d) + 1)) dX0_rows_57 rfl (nI_inc (fb_ct (rwF (vX k kp T) (nN t * 8 + nN y)) (60 * r + d))) (by decide) ?_
        refine gg_iinc K (v := nI (d + 1)) dX0_rows_60 rfl (nI_inc (d)) (by decide) ?_
        refine gg_goto K (tgt := 29) dX0_rows_63 (by decide) ?_
        refine gg_sub (L' := [(6, .int (nI (d + 1))), (5, .int (nI r)), (4, .int (nI ((fb_ct (rwF (vX k kp T) (nN t * 8 + nN y)) (60 * r + d) + 1)))), (3, .int (nI (nN t * 8 + nN y))), (0, .ref X.1), (1, .int t), (2, .int y)]) ⟨rfl, rfl, rfl, rfl, rfl, rfl, rfl, trivial⟩ ?_
        exact ih2 _ _ ⟨d + 1, by omega, rfl, by omega, by rw [show 60 * r + (d + 1) = (60 * r + d) + 1 from rfl, fb_ct_succ, h54]; rfl⟩
/-- a row found: its number, and that it is the one -/
theorem row_found {q : Nat → Bool} {N e9 : Nat} {w9 : Int32} (h1 : e9 < N) (hN : N < 2 ^ 31) (h2 : q e9 = true) (h3 : nI (fb_ct q e9) = w9) : (∃ j, j < fb_ct q N ∧ w9 = nI j) ∧ kthD q (nN w9) N = e9 := by
  have hl := fb_ct_le q N
  have h6 := fb_ct_mono q (show e9 + 1 ≤ N by omega)
  rw [fb_ct_succ, if_pos h2] at h6
  exact ⟨⟨fb_ct q e9, by omega, h3.symm⟩, kthD_eq h2 (by rw [← h3]; exact (nI_clamp (by omega)).symm) h1⟩
theorem row_none {q : Nat → Bool} {N : Nat} {w9 : Int32} (h : ∀ e9, e9 < N → q e9 = true → ¬ nI (fb_ct q e9) = w9) : ¬ ∃ j, j < fb_ct q N ∧ w9 = nI j := fun ⟨j, hj, hj2⟩ => by
  obtain ⟨e9, g1, g2, g3⟩ := fb_ct_kth hj
  exact h e9 g1 g2 (by rw [g3, hj2])
set_option maxRecDepth 100000 in
theorem x_rowRun {l : Launch} {Z : ZT} {X : XT} {k kp dr : Nat → Int32} {T : Nat} (hl0 : l.stackTraces = false) (ok : okX kp T) {t y w9 : Int32} : mX l Z.1 (ty3 Z) yX0_rowRun (.code yX0_rowRun cX0_rowRun 6 (some .int)) (rmk 9 200 8 48) (wX Z X k kp dr (nI T)) [.ref X.1, .int t, .int y, .int w9] (xPost Z X ((qS (vX k kp T) T (inR t 2 ∧ inR y 8) (∃ j, j < fb_ct (rwF (vX k kp T) (nN t * 8 + nN y)) (60 * (T + 1)) ∧ w9 = nI j) (runN (vX k kp T ((kthD (rwF (vX k kp T) (nN t * 8 + nN y)) (nN w9) (60 * (T + 1))) / 60) (nN t * 8 + nN y)) ((kthD (rwF (vX k kp T) (nN t * 8 + nN y)) (nN w9) (60 * (T + 1))) % 60))))) (xErr Z X ((qS (vX k kp T) T (inR t 2 ∧ inR y 8) (∃ j, j < fb_ct (rwF (vX k kp T) (nN t * 8 + nN y)) (60 * (T + 1)) ∧ w9 = nI j) (runN (vX k kp T ((kthD (rwF (vX k kp T) (nN t * 8 + nN y)) (nN w9) (60 * (T + 1))) / 60) (nN t * 8 + nN y)) ((kthD (rwF (vX k kp T) (nN t * 8 + nN y)) (nN w9) (60 * (T + 1))) % 60)))) cAB) := by
  refine mX_intro (own := RX0) [(0, .ref X.1), (1, .int t), (2, .int y), (3, .int w9)] (by decide +kernel) rfl rfl rfl rfl ?_
  intro p e s m args below meth c A K hr T9 htab
  have hT9 := ok.1
  refine gg_iload_n K (i := 1) dX0_rowRun_0 rfl rfl ?_
  refine gg_iload_n K (i := 2) dX0_rowRun_1 rfl rfl ?_
  refine gg_callTS 2 12 K T9 k_X0_X0_needTableAndKey (x_needTK hl0) dX0_rowRun_2 rfl rfl rfl rfl ⟨rfl, rfl⟩ (fun E u h => ?_) (fun v u h => ?_)
  · obtain ⟨rfl, rfl, h⟩ := h
    exact gx_out K htab (Nat.le_of_ble_eq_true rfl) (Nat.le_of_ble_eq_true rfl) (qE1 ok h (by decide))
  obtain ⟨rfl, rfl, h1⟩ := h
  have ⟨a1, a2⟩ := inR_N (b := 2) h1.1
  have ⟨b1, b2⟩ := inR_N (b := 8) h1.2
  refine gg_iload_n K (i := 1) dX0_rowRun_5 rfl rfl ?_
  refine gg_iload_n K (i := 2) dX0_rowRun_6 rfl rfl ?_
  refine gg_callSR K k_X0_X0_line (x_line (nN t) (nN y) a2 b2) dX0_rowRun_7 rfl rfl rfl rfl ⟨rfl, rfl⟩ ?_
  refine gg_istore K dX0_rowRun_10 (by decide) ?_
  refine gg_aload_n K (i := 0) dX0_rowRun_12 rfl rfl ?_
  refine gg_iload K dX0_rowRun_13 rfl ?_
  refine gg_iload_n K (i := 3) dX0_rowRun_15 rfl rfl ?_
  refine gg_callTX 3 18 K T9 k_X0_X0_startOfRow (x_startOfRow hl0 ok (nN t * 8 + nN y) (by omega) rfl) dX0_rowRun_16 rfl rfl rfl rfl ⟨rfl, rfl⟩ (fun E u h => ?_) (fun v u h => ?_)
  · obtain ⟨rfl, rfl, h⟩ := h
    exact gx_out K htab (Nat.le_of_ble_eq_true rfl) (Nat.le_of_ble_eq_true rfl) (qE2 ok h1 (row_none h) (by decide))
  obtain ⟨rfl, e9, g1, g2, g3, rfl⟩ := h
  obtain ⟨r1, r2⟩ := row_found g1 (by omega) g2 g3
  refine gg_istore K dX0_rowRun_19 (by decide) ?_
  refine gg_aload_n K (i := 0) dX0_rowRun_21 rfl rfl ?_
  refine gg_iload K dX0_rowRun_22 rfl ?_
  refine gg_callSR K k_X0_X0_recordOfStart x_recordOfStart dX0_rowRun_24 rfl rfl rfl rfl ⟨rfl, rfl⟩ ?_
  refine gg_iload K dX0_rowRun_27 rfl ?_
  refine gg_iload K dX0_rowRun_29 rfl ?_
  refine gg_callSR K k_X0_X0_validOfStart x_validOfStart dX0_rowRun_31 rfl rfl rfl rfl ⟨rfl, rfl⟩ ?_
  refine gg_callRX K k_X0_X0_runNumber (x_runNumber (e9 / 60) (nN t * 8 + nN y) (e9 % 60) ok (by omega) (by omega) (by omega) (pk_div (d := 60) (by omega) (by omega) (by omega)) rfl (pk_rem (d := 60) (by omega) (by omega) (by omega))) dX0_rowRun_34 rfl rfl rfl rfl ⟨rfl, rfl⟩ ?_
  exact gg_x (gg_iret K hr dX0_rowRun_37 (Nat.le_of_ble_eq_true rfl) (Nat.le_of_ble_eq_true rfl) (qOk ok h1 r1 (by rw [r2])))
set_option maxRecDepth 100000 in
theorem x_rowFrom {l : Launch} {Z : ZT} {X : XT} {k kp dr : Nat → Int32} {T : Nat} (hl0 : l.stackTraces = false) (ok : okX kp T) {t y w9 : Int32} : mX l Z.1 (ty3 Z) yX0_rowFrom (.code yX0_rowFrom cX0_rowFrom 4 (some .int)) (rmk 9 200 8 48) (wX Z X k kp dr (nI T)) [.ref X.1, .int t, .int y, .int w9] (xPost Z X ((qS (vX k kp T) T (inR t 2 ∧ inR y 8) (∃ j, j < fb_ct (rwF (vX k kp T) (nN t * 8 + nN y)) (60 * (T + 1)) ∧ w9 = nI j) (nI ((kthD (rwF (vX k kp T) (nN t * 8 + nN y)) (nN w9) (60 * (T + 1))) / 60))))) (xErr Z X ((qS (vX k kp T) T (inR t 2 ∧ inR y 8) (∃ j, j < fb_ct (rwF (vX k kp T) (nN t * 8 + nN y)) (60 * (T + 1)) ∧ w9 = nI j) (nI ((kthD (rwF (vX k kp T) (nN t * 8 + nN y)) (nN w9) (60 * (T + 1))) / 60)))) cAB) := by
  refine mX_intro (own := RX0) [(0, .ref X.1), (1, .int t), (2, .int y), (3, .int w9)] (by decide +kernel) rfl rfl rfl rfl ?_
  intro p e s m args below meth c A K hr T9 htab
  have hT9 := ok.1
  refine gg_iload_n K (i := 1) dX0_rowFrom_0 rfl rfl ?_
  refine gg_iload_n K (i := 2) dX0_rowFrom_1 rfl rfl ?_
  refine gg_callTS 2 12 K T9 k_X0_X0_needTableAndKey (x_needTK hl0) dX0_rowFrom_2 rfl rfl rfl rfl ⟨rfl, rfl⟩ (fun E u h => ?_) (fun v u h => ?_)
  · obtain ⟨rfl, rfl, h⟩ := h
    exact gx_out K htab (Nat.le_of_ble_eq_true rfl) (Nat.le_of_ble_eq_true rfl) (qE1 ok h (by decide))
  obtain ⟨rfl, rfl, h1⟩ := h
  have ⟨a1, a2⟩ := inR_N (b := 2) h1.1
  have ⟨b1, b2⟩ := inR_N (b := 8) h1.2
  refine gg_aload_n K (i := 0) dX0_rowFrom_5 rfl rfl ?_
  refine gg_iload_n K (i := 1) dX0_rowFrom_6 rfl rfl ?_
  refine gg_iload_n K (i := 2) dX0_rowFrom_7 rfl rfl ?_
  refine gg_callSR K k_X0_X0_line (x_line (nN t) (nN y) a2 b2) dX0_rowFrom_8 rfl rfl rfl rfl ⟨rfl, rfl⟩ ?_
  refine gg_iload_n K (i := 3) dX0_rowFrom_11 rfl rfl ?_
  refine gg_callTX 3 18 K T9 k_X0_X0_startOfRow (x_startOfRow hl0 ok (nN t * 8 + nN y) (by omega) rfl) dX0_rowFrom_12 rfl rfl rfl rfl ⟨rfl, rfl⟩ (fun E u h => ?_) (fun v u h => ?_)
  · obtain ⟨rfl, rfl, h⟩ := h
    exact gx_out K htab (Nat.le_of_ble_eq_true rfl) (Nat.le_of_ble_eq_true rfl) (qE2 ok h1 (row_none h) (by decide))
  obtain ⟨rfl, e9, g1, g2, g3, rfl⟩ := h
  obtain ⟨r1, r2⟩ := row_found g1 (by omega) g2 g3
  refine gg_callSR K k_X0_X0_recordOfStart x_recordOfStart dX0_rowFrom_15 rfl rfl rfl rfl ⟨rfl, rfl⟩ ?_
  exact gg_x (gg_iret K hr dX0_rowFrom_18 (Nat.le_of_ble_eq_true rfl) (Nat.le_of_ble_eq_true rfl) (qOk ok h1 r1 (by rw [r2]; exact pk_div (d := 60) (by omega) (by omega) (by omega))))
set_option maxRecDepth 100000 in
theorem x_rowTo {l : Launch} {Z : ZT} {X : XT} {k kp dr : Nat → Int32} {T : Nat} (hl0 : l.stackTraces = false) (ok : okX kp T) {t y w9 : Int32} : mX l Z.1 (ty3 Z) yX0_rowTo (.code yX0_rowTo cX0_rowTo 9 (some .int)) (rmk 9 200 8 48) (wX Z X k kp dr (nI T)) [.ref X.1, .int t, .int y, .int w9] (xPost Z X ((qS (vX k kp T) T (inR t 2 ∧ inR y 8) (∃ j, j < fb_ct (rwF (vX k kp T) (nN t * 8 + nN y)) (60 * (T + 1)) ∧ w9 = nI j) (reF (fun a => smF (vX k kp T (((kthD (rwF (vX k kp T) (nN t * 8 + nN y)) (nN w9) (60 * (T + 1)))) / 60) (nN t * 8 + nN y)) (vX k kp T a (nN t * 8 + nN y)) (((kthD (rwF (vX k kp T) (nN t * 8 + nN y)) (nN w9) (60 * (T + 1)))) % 60)) (T - (kthD (rwF (vX k kp T) (nN t * 8 + nN y)) (nN w9) (60 * (T + 1))) / 60) ((kthD (rwF (vX k kp T) (nN t * 8 + nN y)) (nN w9) (60 * (T + 1))) / 60 + 1))))) (xErr Z X ((qS (vX k kp T) T (inR t 2 ∧ inR y 8) (∃ j, j < fb_ct (rwF (vX k kp T) (nN t * 8 + nN y)) (60 * (T + 1)) ∧ w9 = nI j) (reF (fun a => smF (vX k kp T (((kthD (rwF (vX k kp T) (nN t * 8 + nN y)) (nN w9) (60 * (T + 1)))) / 60) (nN t * 8 + nN y)) (vX k kp T a (nN t * 8 + nN y)) (((kthD (rwF (vX k kp T) (nN t * 8 + nN y)) (nN w9) (60 * (T + 1)))) % 60)) (T - (kthD (rwF (vX k kp T) (nN t * 8 + nN y)) (nN w9) (60 * (T + 1))) / 60) ((kthD (rwF (vX k kp T) (nN t * 8 + nN y)) (nN w9) (60 * (T + 1))) / 60 + 1)))) cAB) := by
  refine mX_intro (own := RX0) [(0, .ref X.1), (1, .int t), (2, .int y), (3, .int w9)] (by decide +kernel) rfl rfl rfl rfl ?_
  intro p e s m args below meth c A K hr T9 htab
  have hT9 := ok.1
  refine gg_iload_n K (i := 1) dX0_rowTo_0 rfl rfl ?_
  refine gg_iload_n K (i := 2) dX0_rowTo_1 rfl rfl ?_
  refine gg_callTS 2 12 K T9 k_X0_X0_needTableAndKey (x_needTK hl0) dX0_rowTo_2 rfl rfl rfl rfl ⟨rfl, rfl⟩ (fun E u h => ?_) (fun v u h => ?_)
  · obtain ⟨rfl, rfl, h⟩ := h
    exact gx_out K htab (Nat.le_of_ble_eq_true rfl) (Nat.le_of_ble_eq_true rfl) (qE1 ok h (by decide))
  obtain ⟨rfl, rfl, h1⟩ := h
  have ⟨a1, a2⟩ := inR_N (b := 2) h1.1
  have ⟨b1, b2⟩ := inR_N (b := 8) h1.2
  refine gg_iload_n K (i := 1) dX0_rowTo_5 rfl rfl ?_
  refine gg_iload_n K (i := 2) dX0_rowTo_6 rfl rfl ?_
  refine gg_callSR K k_X0_X0_line (x_line (nN t) (nN y) a2 b2) dX0_rowTo_7 rfl rfl rfl rfl ⟨rfl, rfl⟩ ?_
  refine gg_istore K dX0_rowTo_10 (by decide) ?_
  refine gg_aload_n K (i := 0) dX0_rowTo_12 rfl rfl ?_
  refine gg_iload K dX0_rowTo_13 rfl ?_
  refine gg_iload_n K (i := 3) dX0_rowTo_15 rfl rfl ?_
  refine gg_callTX 3 18 K T9 k_X0_X0_startOfRow (x_startOfRow hl0 ok (nN t * 8 + nN y) (by omega) rfl) dX0_rowTo_16 rfl rfl rfl rfl ⟨rfl, rfl⟩ (fun E u h => ?_) (fun v u h => ?_)
  · obtain ⟨rfl, rfl, h⟩ := h
    exact gx_out K htab (Nat.le_of_ble_eq_true rfl) (Nat.le_of_ble_eq_true rfl) (qE2 ok h1 (row_none h) (by decide))
  obtain ⟨rfl, e9, g1, g2, g3, rfl⟩ := h
  obtain ⟨r1, r2⟩ := row_found g1 (by omega) g2 g3
  rw [r2]
  refine gg_istore K dX0_rowTo_19 (by decide) ?_
  refine gg_iload K dX0_rowTo_21 rfl ?_
  refine gg_callSR K k_X0_X0_recordOfStart x_recordOfStart dX0_rowTo_23 rfl rfl rfl rfl ⟨rfl, rfl⟩ ?_
  refine gg_top (pk_div (d := 60) (by omega) (by omega) (by omega)) ?_
  refine gg_istore K dX0_rowTo_26 (by decide) ?_
  refine gg_iload K dX0_rowTo_28 rfl ?_
  refine gg_callSR K k_X0_X0_validOfStart x_validOfStart dX0_rowTo_30 rfl rfl rfl rfl ⟨rfl, rfl⟩ ?_
  refine gg_top (pk_rem (d := 60) (by omega) (by omega) (by omega)) ?_
  refine gg_istore K dX0_rowTo_33 (by decide) ?_
  refine gg_iload K dX0_rowTo_35 rfl ?_
  refine gg_iconst K (v := 1) dX0_rowTo_37 (by decide) ?_
  refine gg_iadd K dX0_rowTo_38 ?_
  refine gg_top (nI_1 _) ?_
  refine gg_istore K dX0_rowTo_39 (by decide) ?_
  obtain ⟨G, hG⟩ : ∃ G, G = reF (fun a => smF (vX k kp T (e9 / 60) (nN t * 8 + nN y)) (vX k kp T a (nN t * 8 + nN y)) (e9 % 60)) (T - e9 / 60) (e9 / 60 + 1) := ⟨_, rfl⟩
  rw [← hG]
  refine gg_sub (L' := [(8, .int (nI (e9 / 60 + 1))), (7, .int (nI (e9 % 60))), (6, .int (nI (e9 / 60))), (4, .int (nI (nN t * 8 + nN y))), (0, .ref X.1)]) ⟨rfl, rfl, rfl, rfl, rfl, trivial⟩ ?_
  refine gg_loop (fun i w L => ∃ (a : Nat), a + i = T + 2 ∧ w = wX Z X k kp dr (nI T) ∧ a ≤ T + 1 ∧ L = [(8, .int (nI a)), (7, .int (nI (e9 % 60))), (6, .int (nI (e9 / 60))), (4, .int (nI (nN t * 8 + nN y))), (0, .ref X.1)] ∧ G = reF (fun a => smF (vX k kp T (e9 / 60) (nN t * 8 + nN y)) (vX k kp T a (nN t * 8 + nN y)) (e9 % 60)) (T + 1 - a) a) (fun w L h => ?_) (fun i w L h ih => ?_) (T + 1 - e9 / 60) _ _ ⟨e9 / 60 + 1, by omega, rfl, by omega, rfl, by rw [hG, show T + 1 - (e9 / 60 + 1) = T - e9 / 60 by omega]⟩
  · obtain ⟨a, hj, -, h2, -⟩ := h
    omega
  · obtain ⟨a, hj, rfl, hj1, rfl, he⟩ := h
    refine gg_iload K dX0_rowTo_41 rfl ?_
    refine gg_aload_n K (i := 0) dX0_rowTo_43 rfl rfl ?_
    refine gX_today K dX0_rowTo_44 ?_
    refine gg_icmp_gt K (tgt := 74) dX0_rowTo_47 (by decide) (fun h47 => ?_) (fun h47 => ?_)
    · have hj2 := i_lt h47
      refine gg_iconst K (v := (-1)) dX0_rowTo_74 (by decide) ?_
      exact gg_x (gg_iret K hr dX0_rowTo_75 (Nat.le_of_ble_eq_true rfl) (Nat.le_of_ble_eq_true rfl) (qOk ok h1 r1 (by rw [he, show T + 1 - a = 0 by omega]; rfl)))
    have hj2 := i_nlt h47
    rw [show T + 1 - a = (T - a) + 1 by omega] at he
    unfold reF at he
    refine gg_aload_n K (i := 0) dX0_rowTo_50 rfl rfl ?_
    refine gg_iload K dX0_rowTo_51 rfl ?_
    refine gg_iload K dX0_rowTo_53 rfl ?_
    refine gg_iload K dX0_rowTo_55 rfl ?_
    refine gg_iload K dX0_rowTo_57 rfl ?_
    refine gg_callRX K k_X0_X0_sameRun (x_sameRun (e9 / 60) a (nN t * 8 + nN y) (e9 % 60) ok (by omega) hj2 (by omega) (by omega) rfl rfl rfl rfl) dX0_rowTo_59 rfl rfl rfl rfl ⟨rfl, rfl⟩ ?_
    refine gg_b_ne K (tgt := 68) dX0_rowTo_62 (by decide) (fun h62 => ?_) (fun h62 => ?_)
    · rw [if_pos h62] at he
      refine gg_iinc K (v := nI (a + 1)) dX0_rowTo_68 rfl (nI_inc (a)) (by decide) ?_
      refine gg_goto K (tgt := 41) dX0_rowTo_71 (by decide) ?_
      refine gg_sub (L' := [(8, .int (nI (a + 1))), (7, .int (nI (e9 % 60))), (6, .int (nI (e9 / 60))), (4, .int (nI (nN t * 8 + nN y))), (0, .ref X.1)]) ⟨rfl, rfl, rfl, rfl, rfl, trivial⟩ ?_
      exact ih _ _ ⟨a + 1, by omega, rfl, by omega, rfl, by rw [he, show T - a = T + 1 - (a + 1) by omega]⟩
    · rw [if_neg (by rw [h62]; decide)] at he
      refine gg_iload K dX0_rowTo_65 rfl ?_
      exact gg_x (gg_iret K hr dX0_rowTo_67 (Nat.le_of_ble_eq_true rfl) (Nat.le_of_ble_eq_true rfl) (qOk ok h1 r1 he.symm))
