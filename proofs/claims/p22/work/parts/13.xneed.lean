/-! Twotimes: the checks of arguments; a draft recorded; what is lost with references; days copied -/
def inR (x : Int32) (b : Int32) : Prop := ¬ x < 0 ∧ ¬ b ≤ x
theorem inR_nat {x : Int32} {b : Nat} (h : inR x (nI b)) (hb : b < 2 ^ 31 := by omega) : ∃ j, j < b ∧ x = nI j := by
  obtain ⟨j, h1, h2⟩ := nI_of h.1
  refine ⟨j, ?_, h2⟩
  have := h.2
  rw [h2] at this
  exact i_nle this
theorem inR_of {j b : Nat} (h : j < b) (hb : b < 2 ^ 31 := by omega) : inR (nI j) (nI b) := ⟨nI_pos (by omega), nI_ge h (by omega)⟩
set_option maxRecDepth 100000 in
theorem x_needRange {l : Launch} (hl0 : l.stackTraces = false) {D : va_G} {tys : List (ClassId × FieldType)} {x b : Int32} : mX l D tys yX0_needRange (.code yX0_needRange cX0_needRange 2 none) (rmk 6 90 1 6) [] [.int x, .int b] (fun r u => r = none ∧ u = [] ∧ inR x b) (fun E u => E = eA ∧ u = [] ∧ ¬ inR x b) := by
  refine mX_intro (own := RX0) [(0, .int x), (1, .int b)] (by decide +kernel) rfl rfl rfl rfl ?_
  intro p e s m args below meth c A K hr T9 htab
  refine gg_iload_n K (i := 0) dX0_needRange_0 rfl rfl ?_
  refine gg_if_lt K (tgt := 9) dX0_needRange_1 (by decide) (fun h1 => ?_) (fun h1 => ?_)
  · exact gg_throw_eA K T9 hl0 htab (is := 134) (text := "out of range") (by decide) dX0_needRange_9 dX0_needRange_12 dX0_needRange_13 dX0_needRange_15 dX0_needRange_18 rfl rfl (Nat.le_of_ble_eq_true rfl) (Nat.le_of_ble_eq_true rfl) ⟨rfl, rfl, fun q => q.1 h1⟩
  refine gg_iload_n K (i := 0) dX0_needRange_4 rfl rfl ?_
  refine gg_iload_n K (i := 1) dX0_needRange_5 rfl rfl ?_
  refine gg_icmp_lt K (tgt := 19) dX0_needRange_6 (by decide) (fun h6 => ?_) (fun h6 => ?_)
  · exact gg_x (gg_vret K hr dX0_needRange_19 (Nat.le_of_ble_eq_true rfl) (Nat.le_of_ble_eq_true rfl) ⟨rfl, rfl, h1, fun q => by rw [Int32.lt_iff_toInt_lt] at h6; rw [Int32.le_iff_toInt_le] at q; omega⟩)
  · exact gg_throw_eA K T9 hl0 htab (is := 134) (text := "out of range") (by decide) dX0_needRange_9 dX0_needRange_12 dX0_needRange_13 dX0_needRange_15 dX0_needRange_18 rfl rfl (Nat.le_of_ble_eq_true rfl) (Nat.le_of_ble_eq_true rfl) ⟨rfl, rfl, fun q => q.2 (by rw [Int32.lt_iff_toInt_lt] at h6; rw [Int32.le_iff_toInt_le]; omega)⟩
set_option maxRecDepth 100000 in
theorem x_needTK {l : Launch} (hl0 : l.stackTraces = false) {D : va_G} {tys : List (ClassId × FieldType)} {x y : Int32} : mX l D tys yX0_needTableAndKey (.code yX0_needTableAndKey cX0_needTableAndKey 2 none) (rmk 7 120 2 12) [] [.int x, .int y] (fun r u => r = none ∧ u = [] ∧ inR x 2 ∧ inR y 8) (fun E u => E = eA ∧ u = [] ∧ ¬ (inR x 2 ∧ inR y 8)) := by
  refine mX_intro (own := RX0) [(0, .int x), (1, .int y)] (by decide +kernel) rfl rfl rfl rfl ?_
  intro p e s m args below meth c A K hr T9 htab
  refine gg_iload_n K (i := 0) dX0_needTableAndKey_0 rfl rfl ?_
  refine gg_iconst K (v := 2) dX0_needTableAndKey_1 (by decide) ?_
  refine gg_callTS 1 6 K T9 k_X0_X0_needRange (x_needRange hl0) dX0_needTableAndKey_2 rfl rfl rfl rfl ⟨rfl, rfl⟩ (fun E u h => ?_) (fun v u h => ?_)
  · obtain ⟨rfl, rfl, h⟩ := h
    exact gx_out K htab (Nat.le_of_ble_eq_true rfl) (Nat.le_of_ble_eq_true rfl) ⟨rfl, rfl, fun q => h q.1⟩
  obtain ⟨rfl, rfl, h1⟩ := h
  refine gg_iload_n K (i := 1) dX0_needTableAndKey_5 rfl rfl ?_
  refine gg_bipush K (v := 8) dX0_needTableAndKey_6 (by decide) ?_
  refine gg_callTS 2 12 K T9 k_X0_X0_needRange (x_needRange hl0) dX0_needTableAndKey_8 rfl rfl rfl rfl ⟨rfl, rfl⟩ (fun E u h => ?_) (fun v u h => ?_)
  · obtain ⟨rfl, rfl, h⟩ := h
    exact gx_out K htab (Nat.le_of_ble_eq_true rfl) (Nat.le_of_ble_eq_true rfl) ⟨rfl, rfl, fun q => h q.2⟩
  obtain ⟨rfl, rfl, h2⟩ := h
  exact gg_x (gg_vret K hr dX0_needTableAndKey_11 (Nat.le_of_ble_eq_true rfl) (Nat.le_of_ble_eq_true rfl) ⟨rfl, rfl, h1, h2⟩)
def spanR (f t : Int32) : Prop := inR f 60 ∧ ¬ t ≤ f ∧ t ≤ 60
set_option maxRecDepth 100000 in
theorem x_needSpan {l : Launch} (hl0 : l.stackTraces = false) {D : va_G} {tys : List (ClassId × FieldType)} {x y : Int32} : mX l D tys yX0_needSpan (.code yX0_needSpan cX0_needSpan 2 none) (rmk 7 120 2 12) [] [.int x, .int y] (fun r u => r = none ∧ u = [] ∧ spanR x y) (fun E u => E = eA ∧ u = [] ∧ ¬ spanR x y) := by
  refine mX_intro (own := RX0) [(0, .int x), (1, .int y)] (by decide +kernel) rfl rfl rfl rfl ?_
  intro p e s m args below meth c A K hr T9 htab
  refine gg_iload_n K (i := 0) dX0_needSpan_0 rfl rfl ?_
  refine gg_bipush K (v := 60) dX0_needSpan_1 (by decide) ?_
  refine gg_callTS 1 6 K T9 k_X0_X0_needRange (x_needRange hl0) dX0_needSpan_3 rfl rfl rfl rfl ⟨rfl, rfl⟩ (fun E u h => ?_) (fun v u h => ?_)
  · obtain ⟨rfl, rfl, h⟩ := h
    exact gx_out K htab (Nat.le_of_ble_eq_true rfl) (Nat.le_of_ble_eq_true rfl) ⟨rfl, rfl, fun q => h q.1⟩
  obtain ⟨rfl, rfl, h1⟩ := h
  refine gg_iload_n K (i := 1) dX0_needSpan_6 rfl rfl ?_
  refine gg_iload_n K (i := 0) dX0_needSpan_7 rfl rfl ?_
  refine gg_icmp_le K (tgt := 17) dX0_needSpan_8 (by decide) (fun h8 => ?_) (fun h8 => ?_)
  · exact gg_throw_eA K T9 hl0 htab (is := 136) (text := "span") (by decide) dX0_needSpan_17 dX0_needSpan_20 dX0_needSpan_21 dX0_needSpan_23 dX0_needSpan_26 rfl rfl (Nat.le_of_ble_eq_true rfl) (Nat.le_of_ble_eq_true rfl) ⟨rfl, rfl, fun q => q.2.1 h8⟩
  refine gg_iload_n K (i := 1) dX0_needSpan_11 rfl rfl ?_
  refine gg_bipush K (v := 60) dX0_needSpan_12 (by decide) ?_
  refine gg_icmp_le K (tgt := 27) dX0_needSpan_14 (by decide) (fun h14 => ?_) (fun h14 => ?_)
  · exact gg_x (gg_vret K hr dX0_needSpan_27 (Nat.le_of_ble_eq_true rfl) (Nat.le_of_ble_eq_true rfl) ⟨rfl, rfl, h1, h8, h14⟩)
  · exact gg_throw_eA K T9 hl0 htab (is := 136) (text := "span") (by decide) dX0_needSpan_17 dX0_needSpan_20 dX0_needSpan_21 dX0_needSpan_23 dX0_needSpan_26 rfl rfl (Nat.le_of_ble_eq_true rfl) (Nat.le_of_ble_eq_true rfl) ⟨rfl, rfl, fun q => h14 q.2.2⟩
set_option maxRecDepth 100000 in
theorem x_needRecord {l : Launch} {Z : ZT} {X : XT} {k kp dr : Nat → Int32} {td : Int32} (hl0 : l.stackTraces = false) {x : Int32} : mX l Z.1 (ty3 Z) yX0_needRecord (.code yX0_needRecord cX0_needRecord 2 none) (rmk 7 120 2 12) (wX Z X k kp dr td) [.ref X.1, .int x] (fun r u => r = none ∧ u = wX Z X k kp dr td ∧ inR x 60 ∧ x ≤ td) (fun E u => u = wX Z X k kp dr td ∧ ((E = eA ∧ ¬ inR x 60) ∨ (E = eB ∧ inR x 60 ∧ ¬ x ≤ td))) := by
  refine mX_intro (own := RX0) [(0, .ref X.1), (1, .int x)] (by decide +kernel) rfl rfl rfl rfl ?_
  intro p e s m args below meth c A K hr T9 htab
  refine gg_iload_n K (i := 1) dX0_needRecord_0 rfl rfl ?_
  refine gg_bipush K (v := 60) dX0_needRecord_1 (by decide) ?_
  refine gg_callTS 1 6 K T9 k_X0_X0_needRange (x_needRange hl0) dX0_needRecord_3 rfl rfl rfl rfl ⟨rfl, rfl⟩ (fun E u h => ?_) (fun v u h => ?_)
  · obtain ⟨rfl, rfl, h⟩ := h
    exact gx_out K htab (Nat.le_of_ble_eq_true rfl) (Nat.le_of_ble_eq_true rfl) ⟨rfl, Or.inl ⟨rfl, h⟩⟩
  obtain ⟨rfl, rfl, h1⟩ := h
  refine gg_iload_n K (i := 1) dX0_needRecord_6 rfl rfl ?_
  refine gg_aload_n K (i := 0) dX0_needRecord_7 rfl rfl ?_
  refine gX_today K dX0_needRecord_8 ?_
  refine gg_icmp_le K (tgt := 24) dX0_needRecord_11 (by decide) (fun h11 => ?_) (fun h11 => ?_)
  · exact gg_x (gg_vret K hr dX0_needRecord_24 (Nat.le_of_ble_eq_true rfl) (Nat.le_of_ble_eq_true rfl) ⟨rfl, rfl, h1, h11⟩)
  · exact gg_throw_eB K T9 hl0 htab (is := 138) (text := "record") (by decide) dX0_needRecord_14 dX0_needRecord_17 dX0_needRecord_18 dX0_needRecord_20 dX0_needRecord_23 rfl rfl (Nat.le_of_ble_eq_true rfl) (Nat.le_of_ble_eq_true rfl) ⟨rfl, Or.inr ⟨rfl, h1, h11⟩⟩
set_option maxRecDepth 100000 in
theorem x_recordDraft {l : Launch} {Z : ZT} {X : XT} {k kp dr : Nat → Int32} {td : Int32} {T : Nat} (hl0 : l.stackTraces = false) (t9 key : Nat) {x y : Int32} (ok : okX kp T) (ht : td = nI T) (ht9 : t9 < 2) (hk : key < 8) (hdr : t9 = 1 → ∀ d, d < 60 → dr d = -1 ∨ ∃ j, dr d = nI j ∧ j < 8) (hx : x = nI t9) (hy : y = nI key) : mX l Z.1 (ty3 Z) yX0_recordDraft (.code yX0_recordDraft cX0_recordDraft 6 (some .int)) (rmk 7 120 1 6) (wX Z X k kp dr td) [.ref X.1, .int x, .int y]
    (fun r u => keepP (vX k kp T) T dr t9 key ∧ r = some (.int (nI (fb_ct (fun d => bP (¬ vX k kp T T (t9 * 8 + key) d = dr d)) 60))) ∧ ∃ k', u = wX Z X k' kp dr td ∧ vX k' kp T = updR (vX k kp T) T (t9 * 8 + key) dr 0 60) (fun E u => E = eS ∧ u = wX Z X k kp dr td ∧ ¬ keepP (vX k kp T) T dr t9 key) := by
  refine mX_intro (own := RX0) [(0, .ref X.1), (1, .int x), (2, .int y)] (by decide +kernel) rfl rfl rfl rfl ?_
  intro p e s m args below meth c A K hr T9 htab
  have o1 := ok.1
  subst hx hy
  refine gg_aload_n K (i := 0) dX0_recordDraft_0 rfl rfl ?_
  refine gg_iload_n K (i := 1) dX0_recordDraft_1 rfl rfl ?_
  refine gg_iload_n K (i := 2) dX0_recordDraft_2 rfl rfl ?_
  refine gg_callRX K k_X0_X0_draftKeepsReferences (x_draftKeeps t9 key ok ht ht9 hdr rfl rfl) dX0_recordDraft_3 rfl rfl rfl rfl ⟨rfl, rfl⟩ ?_
  refine gg_b_ne K (tgt := 19) dX0_recordDraft_6 (by decide) (fun h6 => ?_) (fun h6 => ?_)
  rotate_left
  · exact gg_throw_eS K T9 hl0 htab (is := 153) (text := "references") (by decide) dX0_recordDraft_9 dX0_recordDraft_12 dX0_recordDraft_13 dX0_recordDraft_15 dX0_recordDraft_18 rfl rfl (Nat.le_of_ble_eq_true rfl) (Nat.le_of_ble_eq_true rfl) ⟨rfl, rfl, bP_nf h6⟩
  have hkeep := bP_iff.mp h6
  refine gg_iload_n K (i := 1) dX0_recordDraft_19 rfl rfl ?_
  refine gg_iload_n K (i := 2) dX0_recordDraft_20 rfl rfl ?_
  refine gg_callSR K k_X0_X0_line (x_line t9 key rfl rfl) dX0_recordDraft_21 rfl rfl rfl rfl ⟨rfl, rfl⟩ ?_
  refine gg_istore_n K (i := 3) dX0_recordDraft_24 rfl (by decide) ?_
  refine gg_iconst K (v := 0) dX0_recordDraft_25 (by decide) ?_
  refine gg_istore K dX0_recordDraft_26 (by decide) ?_
  refine gg_iconst K (v := 0) dX0_recordDraft_28 (by decide) ?_
  refine gg_istore K dX0_recordDraft_29 (by decide) ?_
  refine gg_sub (L' := [(5, .int (nI 0)), (4, .int (nI 0)), (3, .int (nI (t9 * 8 + key))), (0, .ref X.1), (1, .int (nI t9)), (2, .int (nI key))]) ⟨rfl, rfl, rfl, rfl, rfl, rfl, trivial⟩ ?_
  refine gg_loop (fun i w L => ∃ (j b : Nat) (k' : Nat → Int32), j + i = 61 ∧ w = wX Z X k' kp dr td ∧ L = [(5, .int (nI j)), (4, .int (nI b)), (3, .int (nI (t9 * 8 + key))), (0, .ref X.1), (1, .int (nI t9)), (2, .int (nI key))] ∧ j ≤ 60 ∧ b = fb_ct ((fun d => bP (¬ vX k kp T T (t9 * 8 + key) d = dr d))) j ∧ vX k' kp T = updR (vX k kp T) T (t9 * 8 + key) dr 0 j) (fun w L h => ?_) (fun i w L h ih => ?_) 61 _ _ ⟨0, 0, k, rfl, rfl, rfl, by omega, rfl, (updR_0 _ _ _ _ _).symm⟩
  · obtain ⟨j, b, k', hj, -, -, h2, -⟩ := h
    omega
  · obtain ⟨j, b, k', hj, rfl, rfl, -, hb, he⟩ := h
    refine gg_iload K dX0_recordDraft_31 rfl ?_
    refine gg_bipush K (v := 60) dX0_recordDraft_33 (by decide) ?_
    refine gg_icmp_ge K (tgt := 82) dX0_recordDraft_35 (by decide) (fun h35 => ?_) (fun h35 => ?_)
    · have hj2 := i_le (a := 60) h35
      have hj3 : j = 60 := by omega
      subst hj3
      refine gg_iload K dX0_recordDraft_82 rfl ?_
      exact gg_x (gg_iret K hr dX0_recordDraft_84 (Nat.le_of_ble_eq_true rfl) (Nat.le_of_ble_eq_true rfl) ⟨hkeep, some_int (by rw [hb]), k', rfl, he⟩)
    have hj2 := i_nle (a := 60) h35
    refine gg_aload_n K (i := 0) dX0_recordDraft_38 rfl rfl ?_
    refine gg_aload_n K (i := 0) dX0_recordDraft_39 rfl rfl ?_
    refine gX_today K dX0_recordDraft_40 ?_
    refine gg_iload_n K (i := 3) dX0_recordDraft_43 rfl rfl ?_
    refine gg_iload K dX0_recordDraft_44 rfl ?_
    refine gg_callRX K k_X0_X0_knownOn (x_knownOn T (t9 * 8 + key) j ok (Nat.le_refl T) (by omega) hj2 ht rfl rfl) dX0_recordDraft_46 rfl rfl rfl rfl ⟨rfl, rfl⟩ ?_
    refine gg_aload_n K (i := 0) dX0_recordDraft_49 rfl rfl ?_
    refine gX_draft K dX0_recordDraft_50 ?_
    refine gg_iload K dX0_recordDraft_53 rfl ?_
    refine gX_ld_draft j K rfl hj2 dX0_recordDraft_55 ?_
    have hat : vX k' kp T T (t9 * 8 + key) j = vX k kp T T (t9 * 8 + key) j := by rw [he]; exact updR_at (Nat.le_refl j)
    refine gg_icmp_eq K (tgt := 76) dX0_recordDraft_56 (by decide) (fun h56 => ?_) (fun h56 => ?_)
    · rw [hat] at h56
      refine gg_iinc K (v := nI (j + 1)) dX0_recordDraft_76 rfl (nI_inc (j)) (by decide) ?_
      refine gg_goto K (tgt := 31) dX0_recordDraft_79 (by decide) ?_
      refine gg_sub (L' := [(5, .int (nI (j + 1))), (4, .int (nI b)), (3, .int (nI (t9 * 8 + key))), (0, .ref X.1), (1, .int (nI t9)), (2, .int (nI key))]) ⟨rfl, rfl, rfl, rfl, rfl, rfl, trivial⟩ ?_
      refine ih _ _ ⟨j + 1, b, k', by omega, rfl, rfl, by omega, ?_, ?_⟩
      · rw [fb_ct_succ, bP_f (fun q => q h56), ← hb]; rfl
      · rw [he]; exact updR_skip (Nat.zero_le j) h56
    · rw [hat] at h56
      refine gg_aload_n K (i := 0) dX0_recordDraft_59 rfl rfl ?_
      refine gg_iload_n K (i := 3) dX0_recordDraft_60 rfl rfl ?_
      refine gg_iload K dX0_recordDraft_61 rfl ?_
      refine gg_aload_n K (i := 0) dX0_recordDraft_63 rfl rfl ?_
      refine gX_draft K dX0_recordDraft_64 ?_
      refine gg_iload K dX0_recordDraft_67 rfl ?_
      refine gX_ld_draft j K rfl hj2 dX0_recordDraft_69 ?_
      refine gg_callUX K k_X0_X0_recordToday (x_recordToday (t9 * 8 + key) j ok ht (by omega) hj2 rfl rfl) dX0_recordDraft_70 rfl rfl rfl rfl ⟨rfl, rfl⟩ (fun v u h => ?_)
      obtain ⟨rfl, rfl⟩ := h
      refine gg_iinc K (v := nI (b + 1)) dX0_recordDraft_73 rfl (nI_inc (b)) (by decide) ?_
      refine gg_iinc K (v := nI (j + 1)) dX0_recordDraft_76 rfl (nI_inc (j)) (by decide) ?_
      refine gg_goto K (tgt := 31) dX0_recordDraft_79 (by decide) ?_
      refine gg_sub (L' := [(5, .int (nI (j + 1))), (4, .int (nI (b + 1))), (3, .int (nI (t9 * 8 + key))), (0, .ref X.1), (1, .int (nI t9)), (2, .int (nI key))]) ⟨rfl, rfl, rfl, rfl, rfl, rfl, trivial⟩ ?_
      refine ih _ _ ⟨j + 1, b + 1, _, by omega, rfl, rfl, by omega, ?_, ?_⟩
      · rw [fb_ct_succ, bP_t h56, ← hb]; rfl
      · rw [vX_upd ok (by omega) hj2, he]; exact updR_step (Nat.zero_le j)
