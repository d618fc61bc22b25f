/-! the model: runs read; questions -/
set_option maxRecDepth 100000 in
theorem m_begins {l : Launch} {Z : ZT} {Y : MT} {k : Nat → Int32} {th rf rb re : Int32} {T : Nat} (r t9 y9 d : Nat) {t y q z : Int32} (hT : T < 60) (hr0 : r ≤ T) (ht9 : t9 < 2) (hy9 : y9 < 8) (hd0 : d < 60) (ht : t = nI t9) (hy : y = nI y9) (hq : q = nI r) (hz : z = nI d) : mR l Z yX1_begins cX1_begins 6 (some .boolean) (rmk 2 60 0 0) (wM Z Y k th (nI T) rf rb re) [.ref Y.1, .int t, .int y, .int q, .int z] (.int (bI (stF (vM k T r (t9 * 8 + y9)) d))) := by
  refine mA_intro (own := RX1) [(0, .ref Y.1), (1, .int t), (2, .int y), (3, .int q), (4, .int z)] (by decide +kernel) rfl rfl rfl rfl ?_
  intro p e s m args below meth c A K hr hin
  refine gg_aload_n K (i := 0) dX1_begins_0 rfl rfl ?_
  refine gg_iload_n K (i := 3) dX1_begins_1 rfl rfl ?_
  refine gg_iload_n K (i := 1) dX1_begins_2 rfl rfl ?_
  refine gg_iload_n K (i := 2) dX1_begins_3 rfl rfl ?_
  refine gg_iload K dX1_begins_4 rfl ?_
  refine gg_callRM K k_X1_X1_of (m_of r t9 y9 d hT hr0 ht9 hy9 hd0 hq ht hy hz) dX1_begins_6 rfl rfl rfl rfl ⟨rfl, rfl⟩ ?_
  refine gg_istore K dX1_begins_9 (by decide) ?_
  refine gg_iload K dX1_begins_11 rfl ?_
  refine gg_iconst K (v := (-1)) dX1_begins_13 (by decide) ?_
  refine gg_icmp_eq K (tgt := 42) dX1_begins_14 (by decide) (fun h14 => ?_) (fun h14 => ?_)
  · refine gg_iconst K (v := 0) dX1_begins_42 (by decide) ?_
    exact gg_zret K hr dX1_begins_43 (Or.inl rfl) (Nat.le_of_ble_eq_true rfl) (Nat.le_of_ble_eq_true rfl) ⟨some_int (bI_f (stF_f (fun q => q.1 h14))).symm, rfl⟩
  subst hz
  refine gg_iload K dX1_begins_17 rfl ?_
  refine gg_if_eq K (tgt := 38) dX1_begins_19 (by decide) (fun h19 => ?_) (fun h19 => ?_)
  · refine gg_iconst K (v := 1) dX1_begins_38 (by decide) ?_
    refine gg_goto K (tgt := 43) dX1_begins_39 (by decide) ?_
    exact gg_zret K hr dX1_begins_43 (Or.inr rfl) (Nat.le_of_ble_eq_true rfl) (Nat.le_of_ble_eq_true rfl) ⟨some_int (bI_t (stF_t h14 (Or.inl (i_eq (b := 0) h19)))).symm, rfl⟩
  have hd1 : ¬ d = 0 := fun q => h19 (by rw [q]; rfl)
  refine gg_aload_n K (i := 0) dX1_begins_22 rfl rfl ?_
  refine gg_iload_n K (i := 3) dX1_begins_23 rfl rfl ?_
  refine gg_iload_n K (i := 1) dX1_begins_24 rfl rfl ?_
  refine gg_iload_n K (i := 2) dX1_begins_25 rfl rfl ?_
  refine gg_iload K dX1_begins_26 rfl ?_
  refine gg_iconst K (v := 1) dX1_begins_28 (by decide) ?_
  refine gg_isub K dX1_begins_29 ?_
  refine gg_callRM K k_X1_X1_of (m_of r t9 y9 (d - 1) hT hr0 ht9 hy9 (by omega) hq ht hy (nI_sub1 (by omega))) dX1_begins_30 rfl rfl rfl rfl ⟨rfl, rfl⟩ ?_
  refine gg_iload K dX1_begins_33 rfl ?_
  refine gg_icmp_eq K (tgt := 42) dX1_begins_35 (by decide) (fun h35 => ?_) (fun h35 => ?_)
  · refine gg_iconst K (v := 0) dX1_begins_42 (by decide) ?_
    exact gg_zret K hr dX1_begins_43 (Or.inl rfl) (Nat.le_of_ble_eq_true rfl) (Nat.le_of_ble_eq_true rfl) ⟨some_int (bI_f (stF_f (fun q => q.2.elim hd1 (fun z => z h35)))).symm, rfl⟩
  · refine gg_iconst K (v := 1) dX1_begins_38 (by decide) ?_
    refine gg_goto K (tgt := 43) dX1_begins_39 (by decide) ?_
    exact gg_zret K hr dX1_begins_43 (Or.inr rfl) (Nat.le_of_ble_eq_true rfl) (Nat.le_of_ble_eq_true rfl) ⟨some_int (bI_t (stF_t h14 (Or.inr h35))).symm, rfl⟩
set_option maxRecDepth 100000 in
theorem m_end {l : Launch} {Z : ZT} {Y : MT} {k : Nat → Int32} {th rf rb re : Int32} {T : Nat} (r t9 y9 d : Nat) {t y q z : Int32} (hT : T < 60) (hr0 : r ≤ T) (ht9 : t9 < 2) (hy9 : y9 < 8) (hd0 : d < 60) (ht : t = nI t9) (hy : y = nI y9) (hq : q = nI r) (hz : z = nI d) : mR l Z yX1_end cX1_end 6 (some .int) (rmk 2 60 0 0) (wM Z Y k th (nI T) rf rb re) [.ref Y.1, .int t, .int y, .int q, .int z] (.int (nI (endF (vM k T r (t9 * 8 + y9)) d))) := by
  refine mA_intro (own := RX1) [(0, .ref Y.1), (1, .int t), (2, .int y), (3, .int q), (4, .int z)] (by decide +kernel) rfl rfl rfl rfl ?_
  intro p e s m args below meth c A K hr hin
  refine gg_iload K dX1_end_0 rfl ?_
  refine gg_istore K dX1_end_2 (by decide) ?_
  refine gg_sub (L' := [(5, .int (nI d)), (0, .ref Y.1), (1, .int t), (2, .int y), (3, .int q), (4, .int z)]) ⟨by rw [← hz]; rfl, rfl, rfl, rfl, rfl, rfl, trivial⟩ ?_
  have hend : endF (vM k T r (t9 * 8 + y9)) d = enF (vM k T r (t9 * 8 + y9)) (vM k T r (t9 * 8 + y9) d) (60 - d) d := by
    rw [show 60 - d = (59 - d) + 1 by omega]
    exact (if_pos rfl).symm
  refine gg_loop (fun i w L => ∃ j : Nat, j + i = 61 ∧ w = wM Z Y k th (nI T) rf rb re ∧ L = [(5, .int (nI j)), (0, .ref Y.1), (1, .int t), (2, .int y), (3, .int q), (4, .int z)] ∧ j ≤ 60 ∧ endF (vM k T r (t9 * 8 + y9)) d = enF (vM k T r (t9 * 8 + y9)) (vM k T r (t9 * 8 + y9) d) (60 - j) j) (fun w L h => ?_) (fun i w L h ih => ?_) (61 - d) _ _ ⟨d, by omega, rfl, rfl, by omega, hend⟩
  · obtain ⟨j, h1, -, -, h2, -⟩ := h
    omega
  · obtain ⟨j, hj, rfl, rfl, -, he⟩ := h
    refine gg_iload K dX1_end_4 rfl ?_
    refine gg_bipush K (v := 60) dX1_end_6 (by decide) ?_
    refine gg_icmp_ge K (tgt := 38) dX1_end_8 (by decide) (fun h8 => ?_) (fun h8 => ?_)
    · have hj2 := i_le (a := 60) h8
      refine gg_iload K dX1_end_38 rfl ?_
      exact gg_iret K hr dX1_end_40 (Nat.le_of_ble_eq_true rfl) (Nat.le_of_ble_eq_true rfl) ⟨some_int (by rw [he, show 60 - j = 0 by omega]; rfl), rfl⟩
    have hj2 := i_nle (a := 60) h8
    rw [show 60 - j = (59 - j) + 1 by omega] at he
    unfold enF at he
    refine gg_aload_n K (i := 0) dX1_end_11 rfl rfl ?_
    refine gg_iload_n K (i := 3) dX1_end_12 rfl rfl ?_
    refine gg_iload_n K (i := 1) dX1_end_13 rfl rfl ?_
    refine gg_iload_n K (i := 2) dX1_end_14 rfl rfl ?_
    refine gg_iload K dX1_end_15 rfl ?_
    refine gg_callRM K k_X1_X1_of (m_of r t9 y9 j hT hr0 ht9 hy9 hj2 hq ht hy rfl) dX1_end_17 rfl rfl rfl rfl ⟨rfl, rfl⟩ ?_
    refine gg_aload_n K (i := 0) dX1_end_20 rfl rfl ?_
    refine gg_iload_n K (i := 3) dX1_end_21 rfl rfl ?_
    refine gg_iload_n K (i := 1) dX1_end_22 rfl rfl ?_
    refine gg_iload_n K (i := 2) dX1_end_23 rfl rfl ?_
    refine gg_iload K dX1_end_24 rfl ?_
    refine gg_callRM K k_X1_X1_of (m_of r t9 y9 d hT hr0 ht9 hy9 hd0 hq ht hy hz) dX1_end_26 rfl rfl rfl rfl ⟨rfl, rfl⟩ ?_
    refine gg_icmp_ne K (tgt := 38) dX1_end_29 (by decide) (fun h29 => ?_) (fun h29 => ?_)
    · refine gg_iload K dX1_end_38 rfl ?_
      exact gg_iret K hr dX1_end_40 (Nat.le_of_ble_eq_true rfl) (Nat.le_of_ble_eq_true rfl) ⟨some_int (by rw [he, if_neg h29]), rfl⟩
    refine gg_iinc K (v := nI (j + 1)) dX1_end_32 rfl (nI_inc (j)) (by decide) ?_
    refine gg_goto K (tgt := 4) dX1_end_35 (by decide) ?_
    refine gg_sub (L' := [(5, .int (nI (j + 1))), (0, .ref Y.1), (1, .int t), (2, .int y), (3, .int q), (4, .int z)]) ⟨rfl, rfl, rfl, rfl, rfl, rfl, trivial⟩ ?_
    rw [if_pos h29] at he
    exact ih _ _ ⟨j + 1, by omega, rfl, rfl, by omega, by rw [he, show 59 - j = 60 - (j + 1) by omega]⟩
set_option maxRecDepth 100000 in
theorem m_told {l : Launch} {Z : ZT} {Y : MT} {k : Nat → Int32} {th rf rb re : Int32} {T : Nat} (r t9 y9 d : Nat) {t y q z : Int32} (hT : T < 60) (hr0 : r ≤ T) (ht9 : t9 < 2) (hy9 : y9 < 8) (hd0 : d < 60) (ht : t = nI t9) (hy : y = nI y9) (hq : q = nI r) (hz : z = nI d) : mR l Z yX1_told cX1_told 5 (some .int) (rmk 3 90 0 0) (wM Z Y k th (nI T) rf rb re) [.ref Y.1, .int t, .int y, .int q, .int z] (.int (toldF (vM k T r (t9 * 8 + y9)) d)) := by
  refine mA_intro (own := RX1) [(0, .ref Y.1), (1, .int t), (2, .int y), (3, .int q), (4, .int z)] (by decide +kernel) rfl rfl rfl rfl ?_
  intro p e s m args below meth c A K hr hin
  refine gg_aload_n K (i := 0) dX1_told_0 rfl rfl ?_
  refine gg_iload_n K (i := 1) dX1_told_1 rfl rfl ?_
  refine gg_iload_n K (i := 2) dX1_told_2 rfl rfl ?_
  refine gg_iload_n K (i := 3) dX1_told_3 rfl rfl ?_
  refine gg_iload K dX1_told_4 rfl ?_
  refine gg_callRM K k_X1_X1_begins (m_begins r t9 y9 d hT hr0 ht9 hy9 hd0 ht hy hq hz) dX1_told_6 rfl rfl rfl rfl ⟨rfl, rfl⟩ ?_
  refine gg_b_eq K (tgt := 44) dX1_told_9 (by decide) (fun h9 => ?_) (fun h9 => ?_)
  · refine gg_iconst K (v := (-1)) dX1_told_44 (by decide) ?_
    exact gg_iret K hr dX1_told_45 (Nat.le_of_ble_eq_true rfl) (Nat.le_of_ble_eq_true rfl) ⟨some_int (if_neg (by rw [h9]; decide)).symm, rfl⟩
  refine gg_sipush K (v := 10000) dX1_told_12 (by decide) ?_
  refine gg_iload K dX1_told_15 rfl ?_
  refine gg_imul K dX1_told_17 ?_
  refine gg_bipush K (v := 100) dX1_told_18 (by decide) ?_
  refine gg_aload_n K (i := 0) dX1_told_20 rfl rfl ?_
  refine gg_iload_n K (i := 1) dX1_told_21 rfl rfl ?_
  refine gg_iload_n K (i := 2) dX1_told_22 rfl rfl ?_
  refine gg_iload_n K (i := 3) dX1_told_23 rfl rfl ?_
  refine gg_iload K dX1_told_24 rfl ?_
  refine gg_callRM K k_X1_X1_end (m_end r t9 y9 d hT hr0 ht9 hy9 hd0 ht hy hq hz) dX1_told_26 rfl rfl rfl rfl ⟨rfl, rfl⟩ ?_
  refine gg_imul K dX1_told_29 ?_
  refine gg_iadd K dX1_told_30 ?_
  refine gg_aload_n K (i := 0) dX1_told_31 rfl rfl ?_
  refine gg_iload_n K (i := 3) dX1_told_32 rfl rfl ?_
  refine gg_iload_n K (i := 1) dX1_told_33 rfl rfl ?_
  refine gg_iload_n K (i := 2) dX1_told_34 rfl rfl ?_
  refine gg_iload K dX1_told_35 rfl ?_
  refine gg_callRM K k_X1_X1_of (m_of r t9 y9 d hT hr0 ht9 hy9 hd0 hq ht hy hz) dX1_told_37 rfl rfl rfl rfl ⟨rfl, rfl⟩ ?_
  refine gg_iadd K dX1_told_40 ?_
  refine gg_goto K (tgt := 45) dX1_told_41 (by decide) ?_
  exact gg_iret K hr dX1_told_45 (Nat.le_of_ble_eq_true rfl) (Nat.le_of_ble_eq_true rfl) ⟨some_int (by rw [hz]; exact (if_pos h9).symm), rfl⟩
set_option maxRecDepth 100000 in
theorem m_runsOf {l : Launch} {Z : ZT} {Y : MT} {k : Nat → Int32} {th rf rb re : Int32} {T : Nat} (r t9 y9 : Nat) {t y q : Int32} (hT : T < 60) (hr0 : r ≤ T) (ht9 : t9 < 2) (hy9 : y9 < 8) (ht : t = nI t9) (hy : y = nI y9) (hq : q = nI r) : mR l Z yX1_runsOf cX1_runsOf 6 (some .int) (rmk 3 90 0 0) (wM Z Y k th (nI T) rf rb re) [.ref Y.1, .int t, .int y, .int q] (.int (nI (fb_ct (stF (vM k T r (t9 * 8 + y9))) 60))) := by
  refine mA_intro (own := RX1) [(0, .ref Y.1), (1, .int t), (2, .int y), (3, .int q)] (by decide +kernel) rfl rfl rfl rfl ?_
  intro p e s m args below meth c A K hr hin
  refine gg_iconst K (v := 0) dX1_runsOf_0 (by decide) ?_
  refine gg_istore K dX1_runsOf_1 (by decide) ?_
  refine gg_iconst K (v := 0) dX1_runsOf_3 (by decide) ?_
  refine gg_istore K dX1_runsOf_4 (by decide) ?_
  refine gg_sub (L' := [(5, .int (nI 0)), (4, .int (nI 0)), (0, .ref Y.1), (1, .int t), (2, .int y), (3, .int q)]) ⟨rfl, rfl, rfl, rfl, rfl, rfl, trivial⟩ ?_
  refine gg_loop (fun i w L => ∃ j : Nat, j + i = 61 ∧ w = wM Z Y k th (nI T) rf rb re ∧ L = [(5, .int (nI j)), (4, .int (nI (fb_ct (stF (vM k T r (t9 * 8 + y9))) j))), (0, .ref Y.1), (1, .int t), (2, .int y), (3, .int q)] ∧ j ≤ 60) (fun w L h => ?_) (fun i w L h ih => ?_) 61 _ _ ⟨0, by omega, rfl, rfl, by omega⟩
  · obtain ⟨j, h1, -, -, h2⟩ := h
    omega
  · obtain ⟨j, hj, rfl, rfl, -⟩ := h
    refine gg_iload K dX1_runsOf_6 rfl ?_
    refine gg_bipush K (v := 60) dX1_runsOf_8 (by decide) ?_
    refine gg_icmp_ge K (tgt := 41) dX1_runsOf_10 (by decide) (fun h10 => ?_) (fun h10 => ?_)
    · have hj2 := i_le (a := 60) h10
      have hj3 : j = 60 := by omega
      subst hj3
      refine gg_iload K dX1_runsOf_41 rfl ?_
      exact gg_iret K hr dX1_runsOf_43 (Nat.le_of_ble_eq_true rfl) (Nat.le_of_ble_eq_true rfl) ⟨rfl, rfl⟩
    have hj2 := i_nle (a := 60) h10
    refine gg_iload K dX1_runsOf_13 rfl ?_
    refine gg_aload_n K (i := 0) dX1_runsOf_15 rfl rfl ?_
    refine gg_iload_n K (i := 1) dX1_runsOf_16 rfl rfl ?_
    refine gg_iload_n K (i := 2) dX1_runsOf_17 rfl rfl ?_
    refine gg_iload_n K (i := 3) dX1_runsOf_18 rfl rfl ?_
    refine gg_iload K dX1_runsOf_19 rfl ?_
    refine gg_callRM K k_X1_X1_begins (m_begins r t9 y9 j hT hr0 ht9 hy9 hj2 ht hy hq rfl) dX1_runsOf_21 rfl rfl rfl rfl ⟨rfl, rfl⟩ ?_
    refine gg_b_eq K (tgt := 31) dX1_runsOf_24 (by decide) (fun h24 => ?_) (fun h24 => ?_)
    · refine gg_iconst K (v := 0) dX1_runsOf_31 (by decide) ?_
      refine gg_iadd K dX1_runsOf_32 ?_
      refine gg_top (y := nI (fb_ct (stF (vM k T r (t9 * 8 + y9))) (j + 1))) (by rw [fb_ct_succ, h24]; exact nI_add _ 0) ?_
      refine gg_istore K dX1_runsOf_33 (by decide) ?_
      refine gg_iinc K (v := nI (j + 1)) dX1_runsOf_35 rfl (nI_inc (j)) (by decide) ?_
      refine gg_goto K (tgt := 6) dX1_runsOf_38 (by decide) ?_
      refine gg_sub (L' := [(5, .int (nI (j + 1))), (4, .int (nI (fb_ct (stF (vM k T r (t9 * 8 + y9))) (j + 1)))), (0, .ref Y.1), (1, .int t), (2, .int y), (3, .int q)]) ⟨rfl, rfl, rfl, rfl, rfl, rfl, trivial⟩ ?_
      exact ih _ _ ⟨j + 1, by omega, rfl, rfl, by omega⟩
    · refine gg_iconst K (v := 1) dX1_runsOf_27 (by decide) ?_
      refine gg_goto K (tgt := 32) dX1_runsOf_28 (by decide) ?_
      refine gg_iadd K dX1_runsOf_32 ?_
      refine gg_top (y := nI (fb_ct (stF (vM k T r (t9 * 8 + y9))) (j + 1))) (by rw [fb_ct_succ, h24]; exact nI_add _ 1) ?_
      refine gg_istore K dX1_runsOf_33 (by decide) ?_
      refine gg_iinc K (v := nI (j + 1)) dX1_runsOf_35 rfl (nI_inc (j)) (by decide) ?_
      refine gg_goto K (tgt := 6) dX1_runsOf_38 (by decide) ?_
      refine gg_sub (L' := [(5, .int (nI (j + 1))), (4, .int (nI (fb_ct (stF (vM k T r (t9 * 8 + y9))) (j + 1)))), (0, .ref Y.1), (1, .int t), (2, .int y), (3, .int q)]) ⟨rfl, rfl, rfl, rfl, rfl, rfl, trivial⟩ ?_
      exact ih _ _ ⟨j + 1, by omega, rfl, rfl, by omega⟩
set_option maxRecDepth 100000 in
theorem m_joinedOf {l : Launch} {Z : ZT} {Y : MT} {k : Nat → Int32} {th rf rb re : Int32} {T : Nat} (r key d : Nat) {y z q : Int32} (hT : T < 60) (hv : valOk (vM k T) T) (hr0 : r ≤ T) (hl0 : key < 8) (hd0 : d < 60) (hy : y = nI key) (hz : z = nI d) (hq : q = nI r) : mR l Z yX1_joinedOf cX1_joinedOf 5 (some .int) (rmk 2 60 0 0) (wM Z Y k th (nI T) rf rb re) [.ref Y.1, .int y, .int z, .int q] (.int (jnF (vM k T) r key d)) := by
  refine mA_intro (own := RX1) [(0, .ref Y.1), (1, .int y), (2, .int z), (3, .int q)] (by decide +kernel) rfl rfl rfl rfl ?_
  intro p e s m args below meth c A K hr hin
  refine gg_aload_n K (i := 0) dX1_joinedOf_0 rfl rfl ?_
  refine gg_iload_n K (i := 3) dX1_joinedOf_1 rfl rfl ?_
  refine gg_iconst K (v := 1) dX1_joinedOf_2 (by decide) ?_
  refine gg_iload_n K (i := 1) dX1_joinedOf_3 rfl rfl ?_
  refine gg_iload_n K (i := 2) dX1_joinedOf_4 rfl rfl ?_
  refine gg_callRM K k_X1_X1_of (m_of r 1 key d hT hr0 (by omega) hl0 hd0 hq rfl hy hz) dX1_joinedOf_5 rfl rfl rfl rfl ⟨rfl, rfl⟩ ?_
  rw [show 1 * 8 + key = 8 + key by omega]
  refine gg_istore K dX1_joinedOf_8 (by decide) ?_
  refine gg_iload K dX1_joinedOf_10 rfl ?_
  refine gg_iconst K (v := (-1)) dX1_joinedOf_12 (by decide) ?_
  refine gg_icmp_ne K (tgt := 20) dX1_joinedOf_13 (by decide) (fun h13 => ?_) (fun h13 => ?_)
  rotate_left
  · refine gg_iconst K (v := (-1)) dX1_joinedOf_16 (by decide) ?_
    refine gg_goto K (tgt := 29) dX1_joinedOf_17 (by decide) ?_
    exact gg_iret K hr dX1_joinedOf_29 (Nat.le_of_ble_eq_true rfl) (Nat.le_of_ble_eq_true rfl) ⟨some_int (if_pos h13).symm, rfl⟩
  obtain ⟨j, hj1, -, hj2⟩ := (hv r (8 + key) d hr0 (by omega) hd0).resolve_left h13
  have hj2 := hj2 (by omega)
  refine gg_aload_n K (i := 0) dX1_joinedOf_20 rfl rfl ?_
  refine gg_iload_n K (i := 3) dX1_joinedOf_21 rfl rfl ?_
  refine gg_iconst K (v := 0) dX1_joinedOf_22 (by decide) ?_
  refine gg_iload K dX1_joinedOf_23 rfl ?_
  refine gg_iload_n K (i := 2) dX1_joinedOf_25 rfl rfl ?_
  refine gg_callRM K k_X1_X1_of (m_of r 0 j d hT hr0 (by omega) hj2 hd0 hq rfl hj1 hz) dX1_joinedOf_26 rfl rfl rfl rfl ⟨rfl, rfl⟩ ?_
  exact gg_iret K hr dX1_joinedOf_29 (Nat.le_of_ble_eq_true rfl) (Nat.le_of_ble_eq_true rfl) ⟨some_int (by unfold jnF; rw [if_neg h13, hj1, nI_clamp (by omega), show 0 * 8 + j = j by omega]), rfl⟩
noncomputable def eR (P : Prop) (q : Int32) (T : Nat) : Int32 := if bP (P ∧ inR q 60) = true then (if q ≤ nI T then 0 else 2) else 1
theorem eR_0 {P : Prop} {q : Int32} {T : Nat} : eR P q T = 0 ↔ ((P ∧ inR q 60) ∧ q ≤ nI T) := by
  unfold eR
  by_cases h : P ∧ inR q 60
  · rw [if_pos (bP_t h)]
    by_cases h2 : q ≤ nI T
    · rw [if_pos h2]
      exact ⟨fun _ => ⟨h, h2⟩, fun _ => rfl⟩
    · rw [if_neg h2]
      exact ⟨fun z => absurd z (by decide), fun z => absurd z.2 h2⟩
  · rw [if_neg (fun z => h (bP_iff.mp z))]
    exact ⟨fun z => absurd z (by decide), fun z => absurd z.1 h⟩
theorem eR_le {P : Prop} {q : Int32} {T : Nat} (h : eR P q T ≤ 0) : eR P q T = 0 := by
  unfold eR at h ⊢
  by_cases h1 : bP (P ∧ inR q 60) = true
  · rw [if_pos h1] at h ⊢
    by_cases h2 : q ≤ nI T
    · rw [if_pos h2]
    · rw [if_neg h2] at h; exact absurd h (by decide)
  · rw [if_neg h1] at h; exact absurd h (by decide)
theorem qS_e {V : VT} {T : Nat} {P P1 P2 : Prop} {q r r0 : Int32} (h : ¬ eR P q T = 0) (h1 : P1 ↔ P ∧ inR q 60) (h2 : P2 → q ≤ nI T) : qS V T P1 P2 r0 (eR P q T) r V T := by
  refine ⟨rfl, rfl, ?_⟩
  by_cases hp : P ∧ inR q 60
  · have hq : ¬ q ≤ nI T := fun z => h (eR_0.mpr ⟨hp, z⟩)
    refine Or.inr (Or.inl ⟨h1.mpr hp, fun z => hq (h2 z), ?_⟩)
    unfold eR
    rw [if_pos (bP_t hp), if_neg hq]
  · refine Or.inl ⟨fun z => hp (h1.mp z), ?_⟩
    unfold eR
    rw [if_neg (fun z => hp (bP_iff.mp z))]
set_option maxRecDepth 100000 in
theorem m_errR {l : Launch} {Z : ZT} {Y : MT} {k : Nat → Int32} {th rf rb re : Int32} {T : Nat} {P : Prop} {b : Bool} (hT : T < 60) (hb : b = true ↔ P) {x q : Int32} (hx : x = bI b) : mR l Z yX1_errorOfRecord cX1_errorOfRecord 3 (some .int) (rmk 2 60 0 0) (wM Z Y k th (nI T) rf rb re) [.ref Y.1, .int x, .int q] (.int (eR P q T)) := by
  refine mA_intro (own := RX1) [(0, .ref Y.1), (1, .int x), (2, .int q)] (by decide +kernel) rfl rfl rfl rfl ?_
  intro p e s m args below meth c A K hr hin
  subst hx
  refine gg_iload_n K (i := 1) dX1_errorOfRecord_0 rfl rfl ?_
  refine gg_b_eq K (tgt := 11) dX1_errorOfRecord_1 (by decide) (fun h1 => ?_) (fun h1 => ?_)
  · refine gg_iconst K (v := 1) dX1_errorOfRecord_11 (by decide) ?_
    refine gg_goto K (tgt := 28) dX1_errorOfRecord_12 (by decide) ?_
    exact gg_iret K hr dX1_errorOfRecord_28 (Nat.le_of_ble_eq_true rfl) (Nat.le_of_ble_eq_true rfl) ⟨some_int (if_neg (fun z => by have := hb.mpr (bP_iff.mp z).1; rw [h1] at this; cases this)).symm, rfl⟩
  refine gg_iload_n K (i := 2) dX1_errorOfRecord_4 rfl rfl ?_
  refine gg_callSR K k_X1_X1_isDay m_isDay dX1_errorOfRecord_5 rfl rfl rfl rfl ⟨rfl, rfl⟩ ?_
  refine gg_b_ne K (tgt := 15) dX1_errorOfRecord_8 (by decide) (fun h8 => ?_) (fun h8 => ?_)
  rotate_left
  · refine gg_iconst K (v := 1) dX1_errorOfRecord_11 (by decide) ?_
    refine gg_goto K (tgt := 28) dX1_errorOfRecord_12 (by decide) ?_
    exact gg_iret K hr dX1_errorOfRecord_28 (Nat.le_of_ble_eq_true rfl) (Nat.le_of_ble_eq_true rfl) ⟨some_int (if_neg (fun z => bP_nf h8 (bP_iff.mp z).2)).symm, rfl⟩
  have hp : P ∧ inR q 60 := ⟨hb.mp h1, bP_iff.mp h8⟩
  refine gg_iload_n K (i := 2) dX1_errorOfRecord_15 rfl rfl ?_
  refine gg_aload_n K (i := 0) dX1_errorOfRecord_16 rfl rfl ?_
  refine gM_today K dX1_errorOfRecord_17 ?_
  refine gg_icmp_le K (tgt := 27) dX1_errorOfRecord_20 (by decide) (fun h20 => ?_) (fun h20 => ?_)
  · refine gg_iconst K (v := 0) dX1_errorOfRecord_27 (by decide) ?_
    exact gg_iret K hr dX1_errorOfRecord_28 (Nat.le_of_ble_eq_true rfl) (Nat.le_of_ble_eq_true rfl) ⟨some_int (by unfold eR; rw [if_pos (bP_t hp), if_pos h20]), rfl⟩
  · refine gg_iconst K (v := 2) dX1_errorOfRecord_23 (by decide) ?_
    refine gg_goto K (tgt := 28) dX1_errorOfRecord_24 (by decide) ?_
    exact gg_iret K hr dX1_errorOfRecord_28 (Nat.le_of_ble_eq_true rfl) (Nat.le_of_ble_eq_true rfl) ⟨some_int (by unfold eR; rw [if_pos (bP_t hp), if_neg h20]), rfl⟩
def mPost (Z : ZT) (Y : MT) (S : ST) : Option Value → va_W → Prop := fun ret u => ∃ (c r : Int32) (k' : Nat → Int32) (T' : Nat) (rf rb re : Int32), ret = some (.int r) ∧ u = wM Z Y k' c (nI T') rf rb re ∧ S c r (vM k' T') T'
theorem mQe {Z : ZT} {Y : MT} {k : Nat → Int32} {T : Nat} {rf rb re : Int32} {P P1 P2 : Prop} {q r r0 : Int32} (h : ¬ eR P q T = 0) (h1 : P1 ↔ P ∧ inR q 60) (h2 : P2 → q ≤ nI T) : mPost Z Y (qS (vM k T) T P1 P2 r0) (some (.int r)) (wM Z Y k (eR P q T) (nI T) rf rb re) := ⟨_, r, k, T, rf, rb, re, rfl, rfl, qS_e h h1 h2⟩
theorem mQ0 {Z : ZT} {Y : MT} {k : Nat → Int32} {T : Nat} {rf rb re : Int32} {P1 P2 : Prop} {c r r0 : Int32} (hc : c = 0) (h1 : P1) (h2 : P2) (e : r = r0) : mPost Z Y (qS (vM k T) T P1 P2 r0) (some (.int r)) (wM Z Y k c (nI T) rf rb re) := ⟨c, r, k, T, rf, rb, re, rfl, rfl, rfl, rfl, Or.inr (Or.inr ⟨h1, h2, hc, e⟩)⟩
set_option maxRecDepth 100000 in
theorem m_value {l : Launch} {Z : ZT} {Y : MT} {k : Nat → Int32} {th rf rb re : Int32} {T : Nat} (hT : T < 60) {t y d q : Int32} : mA l Z.1 (ty3 Z) yX1_value cX1_value 5 (some .int) (rmk 9 200 0 0) (wM Z Y k th (nI T) rf rb re) [.ref Y.1, .int t, .int y, .int d, .int q] (mPost Z Y (qS (vM k T) T (inR t 2 ∧ inR y 8 ∧ inR d 60 ∧ inR q 60) (q ≤ nI T) (vM k T (nN q) (nN t * 8 + nN y) (nN d)))) := by
  refine mA_intro (own := RX1) [(0, .ref Y.1), (1, .int t), (2, .int y), (3, .int d), (4, .int q)] (by decide +kernel) rfl rfl rfl rfl ?_
  intro p e s m args below meth c A K hr hin
  refine gg_cut (inR t 2 ∧ inR y 8 ∧ inR d 60) 22 [(0, .ref Y.1), (1, .int t), (2, .int y), (3, .int d), (4, .int q)] [.ref Y.1, .ref Y.1] (fun b hb => ?_) (fun J => ?_)
  · refine gg_iload K dX1_value_22 rfl ?_
    refine gg_callRM K k_X1_X1_errorOfRecord (m_errR hT hb rfl) dX1_value_24 rfl rfl rfl rfl ⟨rfl, rfl⟩ ?_
    refine gg_callUM K k_X1_X1_holds m_holds dX1_value_27 rfl rfl rfl rfl ⟨rfl, rfl⟩ (fun v9 u h => ?_)
    obtain ⟨rfl, rfl⟩ := h
    refine gg_b_eq K (tgt := 45) dX1_value_30 (by decide) (fun h30 => ?_) (fun h30 => ?_)
    · refine gg_iconst K (v := 0) dX1_value_45 (by decide) ?_
      exact gg_iret K hr dX1_value_46 (Nat.le_of_ble_eq_true rfl) (Nat.le_of_ble_eq_true rfl) (mQe (bP_nf h30) ⟨fun h => ⟨⟨h.1, h.2.1, h.2.2.1⟩, h.2.2.2⟩, fun h => ⟨h.1.1, h.1.2.1, h.1.2.2, h.2⟩⟩ id)
    have he := eR_0.mp (bP_iff.mp h30)
    obtain ⟨⟨⟨h1, h2, h3⟩, h4⟩, h5⟩ := he
    have ⟨a1, a2⟩ := inR_N (b := 2) h1
    have ⟨b1, b2⟩ := inR_N (b := 8) h2
    have ⟨d1, d2⟩ := inR_N (b := 60) h3
    have ⟨q1, q2⟩ := inR_N (b := 60) h4
    refine gg_aload_n K (i := 0) dX1_value_33 rfl rfl ?_
    refine gg_iload K dX1_value_34 rfl ?_
    refine gg_iload_n K (i := 1) dX1_value_36 rfl rfl ?_
    refine gg_iload_n K (i := 2) dX1_value_37 rfl rfl ?_
    refine gg_iload_n K (i := 3) dX1_value_38 rfl rfl ?_
    refine gg_callRM K k_X1_X1_of (m_of (nN q) (nN t) (nN y) (nN d) hT (leT q2 q1 hT h5) a1 b1 d1 q2 a2 b2 d2) dX1_value_39 rfl rfl rfl rfl ⟨rfl, rfl⟩ ?_
    refine gg_goto K (tgt := 46) dX1_value_42 (by decide) ?_
    exact gg_iret K hr dX1_value_46 (Nat.le_of_ble_eq_true rfl) (Nat.le_of_ble_eq_true rfl) (mQ0 (bP_iff.mp h30) ⟨h1, h2, h3, h4⟩ h5 rfl)
  refine gg_aload_n K (i := 0) dX1_value_0 rfl rfl ?_
  refine gg_aload_n K (i := 0) dX1_value_1 rfl rfl ?_
  refine gg_iload_n K (i := 1) dX1_value_2 rfl rfl ?_
  refine gg_iload_n K (i := 2) dX1_value_3 rfl rfl ?_
  refine gg_callSR K k_X1_X1_isKey m_isKey dX1_value_4 rfl rfl rfl rfl ⟨rfl, rfl⟩ ?_
  refine gg_b_eq K (tgt := 21) dX1_value_7 (by decide) (fun h7 => ?_) (fun h7 => ?_)
  · refine gg_iconst K (v := 0) dX1_value_21 (by decide) ?_
    exact J false (ft_iff (fun z => bP_nf h7 ⟨z.1, z.2.1⟩))
  refine gg_iload_n K (i := 3) dX1_value_10 rfl rfl ?_
  refine gg_callSR K k_X1_X1_isDay m_isDay dX1_value_11 rfl rfl rfl rfl ⟨rfl, rfl⟩ ?_
  refine gg_b_eq K (tgt := 21) dX1_value_14 (by decide) (fun h14 => ?_) (fun h14 => ?_)
  · refine gg_iconst K (v := 0) dX1_value_21 (by decide) ?_
    exact J false (ft_iff (fun z => bP_nf h14 z.2.2))
  · refine gg_iconst K (v := 1) dX1_value_17 (by decide) ?_
    refine gg_goto K (tgt := 22) dX1_value_18 (by decide) ?_
    exact J true (tt_iff ⟨(bP_iff.mp h7).1, (bP_iff.mp h7).2, bP_iff.mp h14⟩)
set_option maxRecDepth 100000 in
theorem m_keys {l : Launch} {Z : ZT} {Y : MT} {k : Nat → Int32} {th rf rb re : Int32} {T : Nat} (hT : T < 60) {t d q : Int32} : mA l Z.1 (ty3 Z) yX1_keys cX1_keys 6 (some .int) (rmk 9 200 0 0) (wM Z Y k th (nI T) rf rb re) [.ref Y.1, .int t, .int d, .int q] (mPost Z Y (qS (vM k T) T (inR t 2 ∧ inR d 60 ∧ inR q 60) (q ≤ nI T) (kyF (fun i => vM k T (nN q) (nN t * 8 + i) (nN d)) 8))) := by
  refine mA_intro (own := RX1) [(0, .ref Y.1), (1, .int t), (2, .int d), (3, .int q)] (by decide +kernel) rfl rfl rfl rfl ?_
  intro p e s m args below meth c A K hr hin
  refine gg_cut (inR t 2 ∧ inR d 60) 23 [(0, .ref Y.1), (1, .int t), (2, .int d), (3, .int q)] [.ref Y.1, .ref Y.1] (fun b hb => ?_) (fun J => ?_)
  · refine gg_iload_n K (i := 3) dX1_keys_23 rfl rfl ?_
    refine gg_callRM K k_X1_X1_errorOfRecord (m_errR hT hb rfl) dX1_keys_24 rfl rfl rfl rfl ⟨rfl, rfl⟩ ?_
    refine gg_callUM K k_X1_X1_holds m_holds dX1_keys_27 rfl rfl rfl rfl ⟨rfl, rfl⟩ (fun v9 u h => ?_)
    obtain ⟨rfl, rfl⟩ := h
    refine gg_b_ne K (tgt := 35) dX1_keys_30 (by decide) (fun h30 => ?_) (fun h30 => ?_)
    rotate_left
    · refine gg_iconst K (v := 0) dX1_keys_33 (by decide) ?_
      exact gg_iret K hr dX1_keys_34 (Nat.le_of_ble_eq_true rfl) (Nat.le_of_ble_eq_true rfl) (mQe (bP_nf h30) ⟨fun h => ⟨⟨h.1, h.2.1⟩, h.2.2⟩, fun h => ⟨h.1.1, h.1.2, h.2⟩⟩ id)
    have he := eR_0.mp (bP_iff.mp h30)
    obtain ⟨⟨⟨h1, h3⟩, h4⟩, h5⟩ := he
    have ⟨a1, a2⟩ := inR_N (b := 2) h1
    have ⟨d1, d2⟩ := inR_N (b := 60) h3
    have ⟨q1, q2⟩ := inR_N (b := 60) h4
    refine gg_iconst K (v := 0) dX1_keys_35 (by decide) ?_
    refine gg_istore K dX1_keys_36 (by decide) ?_
    refine gg_iconst K (v := 0) dX1_keys_38 (by decide) ?_
    refine gg_istore K dX1_keys_39 (by decide) ?_
    refine gg_sub (L' := [(5, .int (nI 0)), (4, .int 0), (0, .ref Y.1), (1, .int t), (2, .int d), (3, .int q)]) ⟨rfl, rfl, rfl, rfl, rfl, rfl, trivial⟩ ?_
    refine gg_loop (fun i w L => ∃ (j : Nat), j + i = 9 ∧ w = wM Z Y k (eR (inR t 2 ∧ inR d 60) q T) (nI T) rf rb re ∧ j ≤ 8 ∧ L = [(5, .int (nI j)), (4, .int ((kyF (fun i => vM k T (nN q) (nN t * 8 + i) (nN d)) (j)))), (0, .ref Y.1), (1, .int t), (2, .int d), (3, .int q)]) (fun w L h => ?_) (fun i w L h ih => ?_) 9 _ _ ⟨0, rfl, rfl, by omega, rfl⟩
    · obtain ⟨j, hj, -, h2, -⟩ := h
      omega
    · obtain ⟨j, hj, rfl, -, rfl⟩ := h
      refine gg_iload K dX1_keys_41 rfl ?_
      refine gg_bipush K (v := 8) dX1_keys_43 (by decide) ?_
      refine gg_icmp_ge K (tgt := 80) dX1_keys_45 (by decide) (fun h45 => ?_) (fun h45 => ?_)
      · have hj2 := i_le (a := 8) h45
        have hj3 : j = 8 := by omega
        subst hj3
        refine gg_iload K dX1_keys_80 rfl ?_
        exact gg_iret K hr dX1_keys_82 (Nat.le_of_ble_eq_true rfl) (Nat.le_of_ble_eq_true rfl) (mQ0 (bP_iff.mp h30) ⟨h1, h3, h4⟩ h5 rfl)
      have hj2 := i_nle (a := 8) h45
      refine gg_iload K dX1_keys_48 rfl ?_
      refine gg_aload_n K (i := 0) dX1_keys_50 rfl rfl ?_
      refine gg_iload_n K (i := 3) dX1_keys_51 rfl rfl ?_
      refine gg_iload_n K (i := 1) dX1_keys_52 rfl rfl ?_
      refine gg_iload K dX1_keys_53 rfl ?_
      refine gg_iload_n K (i := 2) dX1_keys_55 rfl rfl ?_
      refine gg_callRM K k_X1_X1_of (m_of (nN q) (nN t) j (nN d) hT (leT q2 q1 hT h5) a1 hj2 d1 q2 a2 rfl d2) dX1_keys_56 rfl rfl rfl rfl ⟨rfl, rfl⟩ ?_
      refine gg_iconst K (v := (-1)) dX1_keys_59 (by decide) ?_
      refine gg_icmp_ne K (tgt := 67) dX1_keys_60 (by decide) (fun h60 => ?_) (fun h60 => ?_)
      · refine gg_iconst K (v := 1) dX1_keys_67 (by decide) ?_
        refine gg_iload K dX1_keys_68 rfl ?_
        refine gg_ishl K dX1_keys_70 ?_
        refine gg_ior K dX1_keys_71 ?_
        refine gg_top (y := (kyF (fun i => vM k T (nN q) (nN t * 8 + i) (nN d)) ((j + 1)))) (if_neg h60).symm ?_
        refine gg_istore K dX1_keys_72 (by decide) ?_
        refine gg_iinc K (v := nI (j + 1)) dX1_keys_74 rfl (nI_inc (j)) (by decide) ?_
        refine gg_goto K (tgt := 41) dX1_keys_77 (by decide) ?_
        refine gg_sub (L' := [(5, .int (nI (j + 1))), (4, .int ((kyF (fun i => vM k T (nN q) (nN t * 8 + i) (nN d)) ((j + 1))))), (0, .ref Y.1), (1, .int t), (2, .int d), (3, .int q)]) ⟨rfl, rfl, rfl, rfl, rfl, rfl, trivial⟩ ?_
        exact ih _ _ ⟨j + 1, by omega, rfl, by omega, rfl⟩
      · refine gg_iconst K (v := 0) dX1_keys_63 (by decide) ?_
        refine gg_goto K (tgt := 71) dX1_keys_64 (by decide) ?_
        refine gg_ior K dX1_keys_71 ?_
        refine gg_top (y := (kyF (fun i => vM k T (nN q) (nN t * 8 + i) (nN d)) ((j + 1)))) ((Int32.or_zero).trans (if_pos h60).symm) ?_
        refine gg_istore K dX1_keys_72 (by decide) ?_
        refine gg_iinc K (v := nI (j + 1)) dX1_keys_74 rfl (nI_inc (j)) (by decide) ?_
        refine gg_goto K (tgt := 41) dX1_keys_77 (by decide) ?_
        refine gg_sub (L' := [(5, .int (nI (j + 1))), (4, .int ((kyF (fun i => vM k T (nN q) (nN t * 8 + i) (nN d)) ((j + 1))))), (0, .ref Y.1), (1, .int t), (2, .int d), (3, .int q)]) ⟨rfl, rfl, rfl, rfl, rfl, rfl, trivial⟩ ?_
        exact ih _ _ ⟨j + 1, by omega, rfl, by omega, rfl⟩
  refine gg_aload_n K (i := 0) dX1_keys_0 rfl rfl ?_
  refine gg_aload_n K (i := 0) dX1_keys_1 rfl rfl ?_
  refine gg_iload_n K (i := 1) dX1_keys_2 rfl rfl ?_
  refine gg_iconst K (v := 0) dX1_keys_3 (by decide) ?_
  refine gg_iconst K (v := 1) dX1_keys_4 (by decide) ?_
  refine gg_callSR K k_X1_X1_in m_in dX1_keys_5 rfl rfl rfl rfl ⟨rfl, rfl⟩ ?_
  refine gg_b_eq K (tgt := 22) dX1_keys_8 (by decide) (fun h8 => ?_) (fun h8 => ?_)
  · refine gg_iconst K (v := 0) dX1_keys_22 (by decide) ?_
    exact J false (ft_iff (fun z => bP_nf h8 ((in_R (b := 2) (by omega)).mpr z.1)))
  refine gg_iload_n K (i := 2) dX1_keys_11 rfl rfl ?_
  refine gg_callSR K k_X1_X1_isDay m_isDay dX1_keys_12 rfl rfl rfl rfl ⟨rfl, rfl⟩ ?_
  refine gg_b_eq K (tgt := 22) dX1_keys_15 (by decide) (fun h15 => ?_) (fun h15 => ?_)
  · refine gg_iconst K (v := 0) dX1_keys_22 (by decide) ?_
    exact J false (ft_iff (fun z => bP_nf h15 z.2))
  · refine gg_iconst K (v := 1) dX1_keys_18 (by decide) ?_
    refine gg_goto K (tgt := 23) dX1_keys_19 (by decide) ?_
    exact J true (tt_iff ⟨(in_R (b := 2) (by omega)).mp (bP_iff.mp h8), bP_iff.mp h15⟩)
theorem inR_0 (b : Nat) (h : 0 < b) (hb : b < 2 ^ 31 := by omega) : inR 0 (nI b) := inR_of (j := 0) h
set_option maxRecDepth 100000 in
theorem m_joined {l : Launch} {Z : ZT} {Y : MT} {k : Nat → Int32} {th rf rb re : Int32} {T : Nat} (hT : T < 60) (hv : valOk (vM k T) T) {y d q : Int32} : mA l Z.1 (ty3 Z) yX1_joined cX1_joined 4 (some .int) (rmk 9 200 0 0) (wM Z Y k th (nI T) rf rb re) [.ref Y.1, .int y, .int d, .int q] (mPost Z Y (qS (vM k T) T (inR y 8 ∧ inR d 60 ∧ inR q 60) (q ≤ nI T) (jnF (vM k T) (nN q) (nN y) (nN d)))) := by
  refine mA_intro (own := RX1) [(0, .ref Y.1), (1, .int y), (2, .int d), (3, .int q)] (by decide +kernel) rfl rfl rfl rfl ?_
  intro p e s m args below meth c A K hr hin
  refine gg_cut (inR y 8 ∧ inR d 60) 22 [(0, .ref Y.1), (1, .int y), (2, .int d), (3, .int q)] [.ref Y.1, .ref Y.1] (fun b hb => ?_) (fun J => ?_)
  · refine gg_iload_n K (i := 3) dX1_joined_22 rfl rfl ?_
    refine gg_callRM K k_X1_X1_errorOfRecord (m_errR hT hb rfl) dX1_joined_23 rfl rfl rfl rfl ⟨rfl, rfl⟩ ?_
    refine gg_callUM K k_X1_X1_holds m_holds dX1_joined_26 rfl rfl rfl rfl ⟨rfl, rfl⟩ (fun v9 u h => ?_)
    obtain ⟨rfl, rfl⟩ := h
    refine gg_b_eq K (tgt := 42) dX1_joined_29 (by decide) (fun h29 => ?_) (fun h29 => ?_)
    · refine gg_iconst K (v := 0) dX1_joined_42 (by decide) ?_
      exact gg_iret K hr dX1_joined_43 (Nat.le_of_ble_eq_true rfl) (Nat.le_of_ble_eq_true rfl) (mQe (bP_nf h29) ⟨fun h => ⟨⟨h.1, h.2.1⟩, h.2.2⟩, fun h => ⟨h.1.1, h.1.2, h.2⟩⟩ id)
    have he := eR_0.mp (bP_iff.mp h29)
    obtain ⟨⟨⟨h1, h3⟩, h4⟩, h5⟩ := he
    have ⟨b1, b2⟩ := inR_N (b := 8) h1
    have ⟨d1, d2⟩ := inR_N (b := 60) h3
    have ⟨q1, q2⟩ := inR_N (b := 60) h4
    refine gg_aload_n K (i := 0) dX1_joined_32 rfl rfl ?_
    refine gg_iload_n K (i := 1) dX1_joined_33 rfl rfl ?_
    refine gg_iload_n K (i := 2) dX1_joined_34 rfl rfl ?_
    refine gg_iload_n K (i := 3) dX1_joined_35 rfl rfl ?_
    refine gg_callRM K k_X1_X1_joinedOf (m_joinedOf (nN q) (nN y) (nN d) hT hv (leT q2 q1 hT h5) b1 d1 b2 d2 q2) dX1_joined_36 rfl rfl rfl rfl ⟨rfl, rfl⟩ ?_
    refine gg_goto K (tgt := 43) dX1_joined_39 (by decide) ?_
    exact gg_iret K hr dX1_joined_43 (Nat.le_of_ble_eq_true rfl) (Nat.le_of_ble_eq_true rfl) (mQ0 (bP_iff.mp h29) ⟨h1, h3, h4⟩ h5 rfl)
  refine gg_aload_n K (i := 0) dX1_joined_0 rfl rfl ?_
  refine gg_aload_n K (i := 0) dX1_joined_1 rfl rfl ?_
  refine gg_iconst K (v := 1) dX1_joined_2 (by decide) ?_
  refine gg_iload_n K (i := 1) dX1_joined_3 rfl rfl ?_
  refine gg_callSR K k_X1_X1_isKey m_isKey dX1_joined_4 rfl rfl rfl rfl ⟨rfl, rfl⟩ ?_
  refine gg_b_eq K (tgt := 21) dX1_joined_7 (by decide) (fun h7 => ?_) (fun h7 => ?_)
  · refine gg_iconst K (v := 0) dX1_joined_21 (by decide) ?_
    exact J false (ft_iff (fun z => bP_nf h7 ⟨by have := inR_of (j := 1) (b := 2) (by omega); exact this, z.1⟩))
  refine gg_iload_n K (i := 2) dX1_joined_10 rfl rfl ?_
  refine gg_callSR K k_X1_X1_isDay m_isDay dX1_joined_11 rfl rfl rfl rfl ⟨rfl, rfl⟩ ?_
  refine gg_b_eq K (tgt := 21) dX1_joined_14 (by decide) (fun h14 => ?_) (fun h14 => ?_)
  · refine gg_iconst K (v := 0) dX1_joined_21 (by decide) ?_
    exact J false (ft_iff (fun z => bP_nf h14 z.2))
  · refine gg_iconst K (v := 1) dX1_joined_17 (by decide) ?_
    refine gg_goto K (tgt := 22) dX1_joined_18 (by decide) ?_
    exact J true (tt_iff ⟨(bP_iff.mp h7).2, bP_iff.mp h14⟩)
