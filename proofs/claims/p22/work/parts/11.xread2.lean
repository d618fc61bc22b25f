/-! Twotimes: rows, joins, references read -/
noncomputable def bP (P : Prop) : Bool := @decide P (Classical.propDecidable P)
theorem bP_t {P : Prop} (h : P) : bP P = true := @decide_eq_true P (Classical.propDecidable P) h
theorem bP_f {P : Prop} (h : ¬ P) : bP P = false := @decide_eq_false P (Classical.propDecidable P) h
theorem bP_iff {P : Prop} : bP P = true ↔ P := ⟨fun h => @of_decide_eq_true P (Classical.propDecidable P) h, bP_t⟩
theorem bP_nf {P : Prop} (h : bP P = false) : ¬ P := fun q => by rw [bP_t q] at h; cases h
def fstF (q : Nat → Bool) (run : Int32) : Nat → Nat → Nat → Int32
  | 0, _, _ => -1
  | n + 1, d, b => if q d = true then (if nI b = run then nI d else fstF q run n (d + 1) (b + 1)) else fstF q run n (d + 1) b
/-- all values are -1 or numbers below 100, in the second table below 8 -/
def valOk (V : VT) (T : Nat) : Prop := ∀ r l d, r ≤ T → l < 16 → d < 60 → V r l d = -1 ∨ ∃ j, V r l d = nI j ∧ j < 100 ∧ (8 ≤ l → j < 8)
def jnF (V : VT) (r key d : Nat) : Int32 := if V r (8 + key) d = -1 then -1 else V r (V r (8 + key) d).toNatClampNeg d
noncomputable def jsF (V : VT) (r key d : Nat) : Bool := bP (¬ V r (8 + key) d = -1 ∧ (stF (V r (8 + key)) d = true ∨ ¬ jnF V r key d = jnF V r key (d - 1)))
noncomputable def smF (f g : Nat → Int32) (d : Nat) : Bool := bP (stF g d = true ∧ g d = f d ∧ endF g d = endF f d)
noncomputable def rowF (V : VT) (l r d : Nat) : Bool := bP (stF (V r l) d = true ∧ (r = 0 ∨ smF (V r l) (V (r - 1) l) d = false))
def refd (V : VT) (T : Nat) (x : Int32) (d : Nat) : Prop := ∃ i, i < 8 ∧ V T (8 + i) d = x
set_option maxRecDepth 100000 in
theorem x_firstDayOfRun {l : Launch} {Z : ZT} {X : XT} {k kp dr : Nat → Int32} {td : Int32} {T : Nat} (r li : Nat) {x y z : Int32} (ok : okX kp T) (hr0 : r ≤ T) (hl0 : li < 16) (hx : x = nI r) (hy : y = nI li) : mR l Z yX0_firstDayOfRun cX0_firstDayOfRun 6 (some .int) (rmk 3 90 0 0) (wX Z X k kp dr td) [.ref X.1, .int x, .int y, .int z] (.int (fstF (stF (vX k kp T r li)) z 60 0 0)) := by
  refine mA_intro (own := RX0) [(0, .ref X.1), (1, .int x), (2, .int y), (3, .int z)] (by decide +kernel) rfl rfl rfl rfl ?_
  intro p e s m args below meth c A K hr hin
  subst hx hy
  obtain ⟨G, hG⟩ : ∃ G, G = fstF (stF (vX k kp T r li)) z 60 0 0 := ⟨_, rfl⟩
  rw [← hG]
  refine gg_iconst K (v := 0) dX0_firstDayOfRun_0 (by decide) ?_
  refine gg_istore K dX0_firstDayOfRun_1 (by decide) ?_
  refine gg_iconst K (v := 0) dX0_firstDayOfRun_3 (by decide) ?_
  refine gg_istore K dX0_firstDayOfRun_4 (by decide) ?_
  refine gg_sub (L' := [(5, .int (nI 0)), (4, .int (nI 0)), (0, .ref X.1), (1, .int (nI r)), (2, .int (nI li)), (3, .int z)]) ⟨rfl, rfl, rfl, rfl, rfl, rfl, trivial⟩ ?_
  refine gg_loop (fun i w L => ∃ d b : Nat, d + i = 61 ∧ w = wX Z X k kp dr td ∧ L = [(5, .int (nI d)), (4, .int (nI b)), (0, .ref X.1), (1, .int (nI r)), (2, .int (nI li)), (3, .int z)] ∧ d ≤ 60 ∧ G = fstF (stF (vX k kp T r li)) z (60 - d) d b) (fun w L h => ?_) (fun i w L h ih => ?_) 61 _ _ ⟨0, 0, rfl, rfl, rfl, by omega, hG⟩
  · obtain ⟨d, b, h1, -, -, h2, -⟩ := h
    omega
  · obtain ⟨d, b, hj, rfl, rfl, -, he⟩ := h
    refine gg_iload K dX0_firstDayOfRun_6 rfl ?_
    refine gg_bipush K (v := 60) dX0_firstDayOfRun_8 (by decide) ?_
    refine gg_icmp_ge K (tgt := 42) dX0_firstDayOfRun_10 (by decide) (fun h10 => ?_) (fun h10 => ?_)
    · have hj2 := i_le (a := 60) h10
      refine gg_iconst K (v := (-1)) dX0_firstDayOfRun_42 (by decide) ?_
      exact gg_iret K hr dX0_firstDayOfRun_43 (Nat.zero_le _) (Nat.zero_le _) ⟨some_int (by rw [he, show 60 - d = 0 by omega]; rfl), rfl⟩
    have hj2 := i_nle (a := 60) h10
    rw [show 60 - d = (59 - d) + 1 by omega] at he
    unfold fstF at he
    refine gg_aload_n K (i := 0) dX0_firstDayOfRun_13 rfl rfl ?_
    refine gg_iload_n K (i := 1) dX0_firstDayOfRun_14 rfl rfl ?_
    refine gg_iload_n K (i := 2) dX0_firstDayOfRun_15 rfl rfl ?_
    refine gg_iload K dX0_firstDayOfRun_16 rfl ?_
    refine gg_callRX K k_X0_X0_startsRun (x_startsRun r li d ok hr0 hl0 hj2 rfl rfl rfl) dX0_firstDayOfRun_18 rfl rfl rfl rfl ⟨rfl, rfl⟩ ?_
    refine gg_b_eq K (tgt := 36) dX0_firstDayOfRun_21 (by decide) (fun h21 => ?_) (fun h21 => ?_)
    · rw [if_neg (by rw [h21]; decide)] at he
      refine gg_iinc K (v := nI (d + 1)) dX0_firstDayOfRun_36 rfl (nI_inc (d)) (by decide) ?_
      refine gg_goto K (tgt := 6) dX0_firstDayOfRun_39 (by decide) ?_
      refine gg_sub (L' := [(5, .int (nI (d + 1))), (4, .int (nI b)), (0, .ref X.1), (1, .int (nI r)), (2, .int (nI li)), (3, .int z)]) ⟨rfl, rfl, rfl, rfl, rfl, rfl, trivial⟩ ?_
      exact ih _ _ ⟨d + 1, b, by omega, rfl, rfl, by omega, by rw [he, show 59 - d = 60 - (d + 1) by omega]⟩
    rw [if_pos h21] at he
    refine gg_iload K dX0_firstDayOfRun_24 rfl ?_
    refine gg_iload_n K (i := 3) dX0_firstDayOfRun_26 rfl rfl ?_
    refine gg_icmp_ne K (tgt := 33) dX0_firstDayOfRun_27 (by decide) (fun h27 => ?_) (fun h27 => ?_)
    · rw [if_neg h27] at he
      refine gg_iinc K (v := nI (b + 1)) dX0_firstDayOfRun_33 rfl (nI_inc (b)) (by decide) ?_
      refine gg_iinc K (v := nI (d + 1)) dX0_firstDayOfRun_36 rfl (nI_inc (d)) (by decide) ?_
      refine gg_goto K (tgt := 6) dX0_firstDayOfRun_39 (by decide) ?_
      refine gg_sub (L' := [(5, .int (nI (d + 1))), (4, .int (nI (b + 1))), (0, .ref X.1), (1, .int (nI r)), (2, .int (nI li)), (3, .int z)]) ⟨rfl, rfl, rfl, rfl, rfl, rfl, trivial⟩ ?_
      exact ih _ _ ⟨d + 1, b + 1, by omega, rfl, rfl, by omega, by rw [he, show 59 - d = 60 - (d + 1) by omega]⟩
    · rw [if_pos h27] at he
      refine gg_iload K dX0_firstDayOfRun_30 rfl ?_
      exact gg_iret K hr dX0_firstDayOfRun_32 (Nat.zero_le _) (Nat.zero_le _) ⟨some_int he.symm, rfl⟩
set_option maxRecDepth 100000 in
theorem x_joinedOn {l : Launch} {Z : ZT} {X : XT} {k kp dr : Nat → Int32} {td : Int32} {T : Nat} (r key d : Nat) {x y z : Int32} (ok : okX kp T) (hv : valOk (vX k kp T) T) (hr0 : r ≤ T) (hl0 : key < 8) (hd0 : d < 60) (hx : x = nI r) (hy : y = nI key) (hz : z = nI d) : mR l Z yX0_joinedOn cX0_joinedOn 5 (some .int) (rmk 2 60 0 0) (wX Z X k kp dr td) [.ref X.1, .int x, .int y, .int z] (.int (jnF (vX k kp T) r key d)) := by
  refine mA_intro (own := RX0) [(0, .ref X.1), (1, .int x), (2, .int y), (3, .int z)] (by decide +kernel) rfl rfl rfl rfl ?_
  intro p e s m args below meth c A K hr hin
  subst hx hy hz
  refine gg_aload_n K (i := 0) dX0_joinedOn_0 rfl rfl ?_
  refine gg_iload_n K (i := 1) dX0_joinedOn_1 rfl rfl ?_
  refine gg_iconst K (v := 1) dX0_joinedOn_2 (by decide) ?_
  refine gg_iload_n K (i := 2) dX0_joinedOn_3 rfl rfl ?_
  refine gg_callSR K k_X0_X0_line (x_line 1 key rfl rfl) dX0_joinedOn_4 rfl rfl rfl rfl ⟨rfl, rfl⟩ ?_
  refine gg_iload_n K (i := 3) dX0_joinedOn_7 rfl rfl ?_
  refine gg_callRX K k_X0_X0_knownOn (x_knownOn r (8 + key) d ok hr0 (by omega) hd0 rfl (congrArg nI (by omega)) rfl) dX0_joinedOn_8 rfl rfl rfl rfl ⟨rfl, rfl⟩ ?_
  refine gg_istore K dX0_joinedOn_11 (by decide) ?_
  refine gg_iload K dX0_joinedOn_13 rfl ?_
  refine gg_iconst K (v := (-1)) dX0_joinedOn_15 (by decide) ?_
  refine gg_icmp_ne K (tgt := 23) dX0_joinedOn_16 (by decide) (fun h16 => ?_) (fun h16 => ?_)
  rotate_left
  · refine gg_iconst K (v := (-1)) dX0_joinedOn_19 (by decide) ?_
    refine gg_goto K (tgt := 35) dX0_joinedOn_20 (by decide) ?_
    exact gg_iret K hr dX0_joinedOn_35 (Nat.zero_le _) (Nat.zero_le _) ⟨some_int (if_pos h16).symm, rfl⟩
  obtain ⟨j, hj1, -, hj2⟩ := (hv r (8 + key) d hr0 (by omega) hd0).resolve_left h16
  have hj2 := hj2 (by omega)
  refine gg_aload_n K (i := 0) dX0_joinedOn_23 rfl rfl ?_
  refine gg_iload_n K (i := 1) dX0_joinedOn_24 rfl rfl ?_
  refine gg_iconst K (v := 0) dX0_joinedOn_25 (by decide) ?_
  refine gg_iload K dX0_joinedOn_26 rfl ?_
  refine gg_callSR K k_X0_X0_line (x_line 0 j rfl hj1) dX0_joinedOn_28 rfl rfl rfl rfl ⟨rfl, rfl⟩ ?_
  refine gg_iload_n K (i := 3) dX0_joinedOn_31 rfl rfl ?_
  refine gg_callRX K k_X0_X0_knownOn (x_knownOn r j d ok hr0 (by omega) hd0 rfl (congrArg nI (by omega)) rfl) dX0_joinedOn_32 rfl rfl rfl rfl ⟨rfl, rfl⟩ ?_
  exact gg_iret K hr dX0_joinedOn_35 (Nat.zero_le _) (Nat.zero_le _) ⟨some_int (by unfold jnF; rw [if_neg h16, hj1, nI_clamp (by omega)]), rfl⟩
set_option maxRecDepth 100000 in
theorem x_startsJoinedRun {l : Launch} {Z : ZT} {X : XT} {k kp dr : Nat → Int32} {td : Int32} {T : Nat} (r key d : Nat) {x y z : Int32} (ok : okX kp T) (hv : valOk (vX k kp T) T) (hr0 : r ≤ T) (hl0 : key < 8) (hd0 : d < 60) (hx : x = nI r) (hy : y = nI key) (hz : z = nI d) : mR l Z yX0_startsJoinedRun cX0_startsJoinedRun 4 (some .boolean) (rmk 3 90 0 0) (wX Z X k kp dr td) [.ref X.1, .int x, .int y, .int z] (.int (bI (jsF (vX k kp T) r key d))) := by
  refine mA_intro (own := RX0) [(0, .ref X.1), (1, .int x), (2, .int y), (3, .int z)] (by decide +kernel) rfl rfl rfl rfl ?_
  intro p e s m args below meth c A K hr hin
  subst hx hy hz
  refine gg_aload_n K (i := 0) dX0_startsJoinedRun_0 rfl rfl ?_
  refine gg_iload_n K (i := 1) dX0_startsJoinedRun_1 rfl rfl ?_
  refine gg_iconst K (v := 1) dX0_startsJoinedRun_2 (by decide) ?_
  refine gg_iload_n K (i := 2) dX0_startsJoinedRun_3 rfl rfl ?_
  refine gg_callSR K k_X0_X0_line (x_line 1 key rfl rfl) dX0_startsJoinedRun_4 rfl rfl rfl rfl ⟨rfl, rfl⟩ ?_
  refine gg_iload_n K (i := 3) dX0_startsJoinedRun_7 rfl rfl ?_
  refine gg_callRX K k_X0_X0_knownOn (x_knownOn r (8 + key) d ok hr0 (by omega) hd0 rfl (congrArg nI (by omega)) rfl) dX0_startsJoinedRun_8 rfl rfl rfl rfl ⟨rfl, rfl⟩ ?_
  refine gg_iconst K (v := (-1)) dX0_startsJoinedRun_11 (by decide) ?_
  refine gg_icmp_ne K (tgt := 17) dX0_startsJoinedRun_12 (by decide) (fun h12 => ?_) (fun h12 => ?_)
  rotate_left
  · refine gg_iconst K (v := 0) dX0_startsJoinedRun_15 (by decide) ?_
    exact gg_zret K hr dX0_startsJoinedRun_16 (Or.inl rfl) (Nat.zero_le _) (Nat.zero_le _) ⟨some_int (bI_f (bP_f (fun q => q.1 h12))).symm, rfl⟩
  refine gg_aload_n K (i := 0) dX0_startsJoinedRun_17 rfl rfl ?_
  refine gg_iload_n K (i := 1) dX0_startsJoinedRun_18 rfl rfl ?_
  refine gg_iconst K (v := 1) dX0_startsJoinedRun_19 (by decide) ?_
  refine gg_iload_n K (i := 2) dX0_startsJoinedRun_20 rfl rfl ?_
  refine gg_callSR K k_X0_X0_line (x_line 1 key rfl rfl) dX0_startsJoinedRun_21 rfl rfl rfl rfl ⟨rfl, rfl⟩ ?_
  refine gg_iload_n K (i := 3) dX0_startsJoinedRun_24 rfl rfl ?_
  refine gg_callRX K k_X0_X0_startsRun (x_startsRun r (8 + key) d ok hr0 (by omega) hd0 rfl (congrArg nI (by omega)) rfl) dX0_startsJoinedRun_25 rfl rfl rfl rfl ⟨rfl, rfl⟩ ?_
  refine gg_b_ne K (tgt := 50) dX0_startsJoinedRun_28 (by decide) (fun h28 => ?_) (fun h28 => ?_)
  · refine gg_iconst K (v := 1) dX0_startsJoinedRun_50 (by decide) ?_
    refine gg_goto K (tgt := 55) dX0_startsJoinedRun_51 (by decide) ?_
    exact gg_zret K hr dX0_startsJoinedRun_55 (Or.inr rfl) (Nat.zero_le _) (Nat.zero_le _) ⟨some_int (bI_t (bP_t ⟨h12, Or.inl h28⟩)).symm, rfl⟩
  have hd1 : ¬ d = 0 := fun q => by rw [stF_t h12 (Or.inl q)] at h28; cases h28
  have hnt : ¬ stF (vX k kp T r (8 + key)) d = true := by rw [h28]; decide
  refine gg_aload_n K (i := 0) dX0_startsJoinedRun_31 rfl rfl ?_
  refine gg_iload_n K (i := 1) dX0_startsJoinedRun_32 rfl rfl ?_
  refine gg_iload_n K (i := 2) dX0_startsJoinedRun_33 rfl rfl ?_
  refine gg_iload_n K (i := 3) dX0_startsJoinedRun_34 rfl rfl ?_
  refine gg_callRX K k_X0_X0_joinedOn (x_joinedOn r key d ok hv hr0 hl0 hd0 rfl rfl rfl) dX0_startsJoinedRun_35 rfl rfl rfl rfl ⟨rfl, rfl⟩ ?_
  refine gg_aload_n K (i := 0) dX0_startsJoinedRun_38 rfl rfl ?_
  refine gg_iload_n K (i := 1) dX0_startsJoinedRun_39 rfl rfl ?_
  refine gg_iload_n K (i := 2) dX0_startsJoinedRun_40 rfl rfl ?_
  refine gg_iload_n K (i := 3) dX0_startsJoinedRun_41 rfl rfl ?_
  refine gg_iconst K (v := 1) dX0_startsJoinedRun_42 (by decide) ?_
  refine gg_isub K dX0_startsJoinedRun_43 ?_
  refine gg_callRX K k_X0_X0_joinedOn (x_joinedOn r key (d - 1) ok hv hr0 hl0 (by omega) rfl rfl (nI_sub1 (by omega))) dX0_startsJoinedRun_44 rfl rfl rfl rfl ⟨rfl, rfl⟩ ?_
  refine gg_icmp_eq K (tgt := 54) dX0_startsJoinedRun_47 (by decide) (fun h47 => ?_) (fun h47 => ?_)
  · refine gg_iconst K (v := 0) dX0_startsJoinedRun_54 (by decide) ?_
    exact gg_zret K hr dX0_startsJoinedRun_55 (Or.inl rfl) (Nat.zero_le _) (Nat.zero_le _) ⟨some_int (bI_f (bP_f (fun q => q.2.elim hnt (fun z => z h47)))).symm, rfl⟩
  · refine gg_iconst K (v := 1) dX0_startsJoinedRun_50 (by decide) ?_
    refine gg_goto K (tgt := 55) dX0_startsJoinedRun_51 (by decide) ?_
    exact gg_zret K hr dX0_startsJoinedRun_55 (Or.inr rfl) (Nat.zero_le _) (Nat.zero_le _) ⟨some_int (bI_t (bP_t ⟨h12, Or.inr h47⟩)).symm, rfl⟩
set_option maxRecDepth 100000 in
theorem x_sameRun {l : Launch} {Z : ZT} {X : XT} {k kp dr : Nat → Int32} {td : Int32} {T : Nat} (r o9 li d : Nat) {x y z v : Int32} (ok : okX kp T) (hr0 : r ≤ T) (ho0 : o9 ≤ T) (hl0 : li < 16) (hd0 : d < 60) (hx : x = nI r) (hy : y = nI o9) (hz : z = nI li) (hv : v = nI d) : mR l Z yX0_sameRun cX0_sameRun 5 (some .boolean) (rmk 3 90 0 0) (wX Z X k kp dr td) [.ref X.1, .int x, .int y, .int z, .int v] (.int (bI (smF (vX k kp T r li) (vX k kp T o9 li) d))) := by
  refine mA_intro (own := RX0) [(0, .ref X.1), (1, .int x), (2, .int y), (3, .int z), (4, .int v)] (by decide +kernel) rfl rfl rfl rfl ?_
  intro p e s m args below meth c A K hr hin
  subst hx hy hz hv
  refine gg_aload_n K (i := 0) dX0_sameRun_0 rfl rfl ?_
  refine gg_iload_n K (i := 2) dX0_sameRun_1 rfl rfl ?_
  refine gg_iload_n K (i := 3) dX0_sameRun_2 rfl rfl ?_
  refine gg_iload K dX0_sameRun_3 rfl ?_
  refine gg_callRX K k_X0_X0_startsRun (x_startsRun o9 li d ok ho0 hl0 hd0 rfl rfl rfl) dX0_sameRun_5 rfl rfl rfl rfl ⟨rfl, rfl⟩ ?_
  refine gg_b_eq K (tgt := 53) dX0_sameRun_8 (by decide) (fun h8 => ?_) (fun h8 => ?_)
  · refine gg_iconst K (v := 0) dX0_sameRun_53 (by decide) ?_
    exact gg_zret K hr dX0_sameRun_54 (Or.inl rfl) (Nat.zero_le _) (Nat.zero_le _) ⟨some_int (bI_f (bP_f (fun q => by rw [q.1] at h8; cases h8))).symm, rfl⟩
  refine gg_aload_n K (i := 0) dX0_sameRun_11 rfl rfl ?_
  refine gg_iload_n K (i := 2) dX0_sameRun_12 rfl rfl ?_
  refine gg_iload_n K (i := 3) dX0_sameRun_13 rfl rfl ?_
  refine gg_iload K dX0_sameRun_14 rfl ?_
  refine gg_callRX K k_X0_X0_knownOn (x_knownOn o9 li d ok ho0 hl0 hd0 rfl rfl rfl) dX0_sameRun_16 rfl rfl rfl rfl ⟨rfl, rfl⟩ ?_
  refine gg_aload_n K (i := 0) dX0_sameRun_19 rfl rfl ?_
  refine gg_iload_n K (i := 1) dX0_sameRun_20 rfl rfl ?_
  refine gg_iload_n K (i := 3) dX0_sameRun_21 rfl rfl ?_
  refine gg_iload K dX0_sameRun_22 rfl ?_
  refine gg_callRX K k_X0_X0_knownOn (x_knownOn r li d ok hr0 hl0 hd0 rfl rfl rfl) dX0_sameRun_24 rfl rfl rfl rfl ⟨rfl, rfl⟩ ?_
  refine gg_icmp_ne K (tgt := 53) dX0_sameRun_27 (by decide) (fun h27 => ?_) (fun h27 => ?_)
  · refine gg_iconst K (v := 0) dX0_sameRun_53 (by decide) ?_
    exact gg_zret K hr dX0_sameRun_54 (Or.inl rfl) (Nat.zero_le _) (Nat.zero_le _) ⟨some_int (bI_f (bP_f (fun q => h27 q.2.1))).symm, rfl⟩
  refine gg_aload_n K (i := 0) dX0_sameRun_30 rfl rfl ?_
  refine gg_iload_n K (i := 2) dX0_sameRun_31 rfl rfl ?_
  refine gg_iload_n K (i := 3) dX0_sameRun_32 rfl rfl ?_
  refine gg_iload K dX0_sameRun_33 rfl ?_
  refine gg_callRX K k_X0_X0_endOfRun (x_endOfRun o9 li d ok ho0 hl0 hd0 rfl rfl rfl) dX0_sameRun_35 rfl rfl rfl rfl ⟨rfl, rfl⟩ ?_
  refine gg_aload_n K (i := 0) dX0_sameRun_38 rfl rfl ?_
  refine gg_iload_n K (i := 1) dX0_sameRun_39 rfl rfl ?_
  refine gg_iload_n K (i := 3) dX0_sameRun_40 rfl rfl ?_
  refine gg_iload K dX0_sameRun_41 rfl ?_
  refine gg_callRX K k_X0_X0_endOfRun (x_endOfRun r li d ok hr0 hl0 hd0 rfl rfl rfl) dX0_sameRun_43 rfl rfl rfl rfl ⟨rfl, rfl⟩ ?_
  have e1 := endF_le (f := vX k kp T r li) hd0
  have e2 := endF_le (f := vX k kp T o9 li) hd0
  refine gg_icmp_ne K (tgt := 53) dX0_sameRun_46 (by decide) (fun h46 => ?_) (fun h46 => ?_)
  · refine gg_iconst K (v := 0) dX0_sameRun_53 (by decide) ?_
    exact gg_zret K hr dX0_sameRun_54 (Or.inl rfl) (Nat.zero_le _) (Nat.zero_le _) ⟨some_int (bI_f (bP_f (fun q => h46 (by rw [q.2.2])))).symm, rfl⟩
  · refine gg_iconst K (v := 1) dX0_sameRun_49 (by decide) ?_
    refine gg_goto K (tgt := 54) dX0_sameRun_50 (by decide) ?_
    exact gg_zret K hr dX0_sameRun_54 (Or.inr rfl) (Nat.zero_le _) (Nat.zero_le _) ⟨some_int (bI_t (bP_t ⟨h8, h27, i_eq h46⟩)).symm, rfl⟩
set_option maxRecDepth 100000 in
theorem x_startsRow {l : Launch} {Z : ZT} {X : XT} {k kp dr : Nat → Int32} {td : Int32} {T : Nat} (r li d : Nat) {x y z : Int32} (ok : okX kp T) (hr0 : r ≤ T) (hl0 : li < 16) (hd0 : d < 60) (hx : x = nI r) (hy : y = nI li) (hz : z = nI d) : mR l Z yX0_startsRow cX0_startsRow 4 (some .boolean) (rmk 4 120 0 0) (wX Z X k kp dr td) [.ref X.1, .int x, .int y, .int z] (.int (bI (rowF (vX k kp T) li r d))) := by
  refine mA_intro (own := RX0) [(0, .ref X.1), (1, .int x), (2, .int y), (3, .int z)] (by decide +kernel) rfl rfl rfl rfl ?_
  intro p e s m args below meth c A K hr hin
  have o1 := ok.1
  subst hx hy hz
  refine gg_aload_n K (i := 0) dX0_startsRow_0 rfl rfl ?_
  refine gg_iload_n K (i := 1) dX0_startsRow_1 rfl rfl ?_
  refine gg_iload_n K (i := 2) dX0_startsRow_2 rfl rfl ?_
  refine gg_iload_n K (i := 3) dX0_startsRow_3 rfl rfl ?_
  refine gg_callRX K k_X0_X0_startsRun (x_startsRun r li d ok hr0 hl0 hd0 rfl rfl rfl) dX0_startsRow_4 rfl rfl rfl rfl ⟨rfl, rfl⟩ ?_
  refine gg_b_eq K (tgt := 31) dX0_startsRow_7 (by decide) (fun h7 => ?_) (fun h7 => ?_)
  · refine gg_iconst K (v := 0) dX0_startsRow_31 (by decide) ?_
    exact gg_zret K hr dX0_startsRow_32 (Or.inl rfl) (Nat.zero_le _) (Nat.zero_le _) ⟨some_int (bI_f (bP_f (fun q => by rw [q.1] at h7; cases h7))).symm, rfl⟩
  refine gg_iload_n K (i := 1) dX0_startsRow_10 rfl rfl ?_
  refine gg_if_eq K (tgt := 27) dX0_startsRow_11 (by decide) (fun h11 => ?_) (fun h11 => ?_)
  · refine gg_iconst K (v := 1) dX0_startsRow_27 (by decide) ?_
    refine gg_goto K (tgt := 32) dX0_startsRow_28 (by decide) ?_
    exact gg_zret K hr dX0_startsRow_32 (Or.inr rfl) (Nat.zero_le _) (Nat.zero_le _) ⟨some_int (bI_t (bP_t ⟨h7, Or.inl (i_eq (b := 0) h11)⟩)).symm, rfl⟩
  have hr1 : ¬ r = 0 := fun q => h11 (by rw [q]; rfl)
  refine gg_aload_n K (i := 0) dX0_startsRow_14 rfl rfl ?_
  refine gg_iload_n K (i := 1) dX0_startsRow_15 rfl rfl ?_
  refine gg_iload_n K (i := 1) dX0_startsRow_16 rfl rfl ?_
  refine gg_iconst K (v := 1) dX0_startsRow_17 (by decide) ?_
  refine gg_isub K dX0_startsRow_18 ?_
  refine gg_iload_n K (i := 2) dX0_startsRow_19 rfl rfl ?_
  refine gg_iload_n K (i := 3) dX0_startsRow_20 rfl rfl ?_
  refine gg_callRX K k_X0_X0_sameRun (x_sameRun r (r - 1) li d ok hr0 (by omega) hl0 hd0 rfl (nI_sub1 (by omega)) rfl rfl) dX0_startsRow_21 rfl rfl rfl rfl ⟨rfl, rfl⟩ ?_
  refine gg_b_ne K (tgt := 31) dX0_startsRow_24 (by decide) (fun h24 => ?_) (fun h24 => ?_)
  · refine gg_iconst K (v := 0) dX0_startsRow_31 (by decide) ?_
    exact gg_zret K hr dX0_startsRow_32 (Or.inl rfl) (Nat.zero_le _) (Nat.zero_le _) ⟨some_int (bI_f (bP_f (fun q => q.2.elim hr1 (fun z => by rw [h24] at z; cases z)))).symm, rfl⟩
  · refine gg_iconst K (v := 1) dX0_startsRow_27 (by decide) ?_
    refine gg_goto K (tgt := 32) dX0_startsRow_28 (by decide) ?_
    exact gg_zret K hr dX0_startsRow_32 (Or.inr rfl) (Nat.zero_le _) (Nat.zero_le _) ⟨some_int (bI_t (bP_t ⟨h7, Or.inr h24⟩)).symm, rfl⟩
set_option maxRecDepth 100000 in
theorem x_isReferredTo {l : Launch} {Z : ZT} {X : XT} {k kp dr : Nat → Int32} {td : Int32} {T : Nat} (d : Nat) {x y : Int32} (ok : okX kp T) (ht : td = nI T) (hd0 : d < 60) (hy : y = nI d) : mR l Z yX0_isReferredTo cX0_isReferredTo 4 (some .boolean) (rmk 2 60 0 0) (wX Z X k kp dr td) [.ref X.1, .int x, .int y] (.int (bI (bP (refd (vX k kp T) T x d)))) := by
  refine mA_intro (own := RX0) [(0, .ref X.1), (1, .int x), (2, .int y)] (by decide +kernel) rfl rfl rfl rfl ?_
  intro p e s m args below meth c A K hr hin
  have o1 := ok.1
  subst hy
  refine gg_iconst K (v := 0) dX0_isReferredTo_0 (by decide) ?_
  refine gg_istore_n K (i := 3) dX0_isReferredTo_1 rfl (by decide) ?_
  refine gg_sub (L' := [(3, .int (nI 0)), (0, .ref X.1), (1, .int x), (2, .int (nI d))]) ⟨rfl, rfl, rfl, rfl, trivial⟩ ?_
  refine gg_loop (fun i w L => ∃ j : Nat, j + i = 9 ∧ w = wX Z X k kp dr td ∧ L = [(3, .int (nI j)), (0, .ref X.1), (1, .int x), (2, .int (nI d))] ∧ j ≤ 8 ∧ ∀ q, q < j → ¬ vX k kp T T (8 + q) d = x) (fun w L h => ?_) (fun i w L h ih => ?_) 9 _ _ ⟨0, rfl, rfl, rfl, by omega, fun q h => absurd h (by omega)⟩
  · obtain ⟨j, hj, -, -, h2, -⟩ := h
    omega
  · obtain ⟨j, hj, rfl, rfl, -, he⟩ := h
    refine gg_iload_n K (i := 3) dX0_isReferredTo_2 rfl rfl ?_
    refine gg_bipush K (v := 8) dX0_isReferredTo_3 (by decide) ?_
    refine gg_icmp_ge K (tgt := 34) dX0_isReferredTo_5 (by decide) (fun h5 => ?_) (fun h5 => ?_)
    · have hj2 := i_le (a := 8) h5
      refine gg_iconst K (v := 0) dX0_isReferredTo_34 (by decide) ?_
      exact gg_zret K hr dX0_isReferredTo_35 (Or.inl rfl) (Nat.zero_le _) (Nat.zero_le _) ⟨some_int (bI_f (bP_f (fun ⟨q, q1, q2⟩ => he q (by omega) q2))).symm, rfl⟩
    have hj2 := i_nle (a := 8) h5
    refine gg_aload_n K (i := 0) dX0_isReferredTo_8 rfl rfl ?_
    refine gg_aload_n K (i := 0) dX0_isReferredTo_9 rfl rfl ?_
    refine gX_today K dX0_isReferredTo_10 ?_
    refine gg_iconst K (v := 1) dX0_isReferredTo_13 (by decide) ?_
    refine gg_iload_n K (i := 3) dX0_isReferredTo_14 rfl rfl ?_
    refine gg_callSR K k_X0_X0_line (x_line 1 j rfl rfl) dX0_isReferredTo_15 rfl rfl rfl rfl ⟨rfl, rfl⟩ ?_
    refine gg_iload_n K (i := 2) dX0_isReferredTo_18 rfl rfl ?_
    refine gg_callRX K k_X0_X0_knownOn (x_knownOn T (8 + j) d ok (Nat.le_refl T) (by omega) hd0 ht (congrArg nI (by omega)) rfl) dX0_isReferredTo_19 rfl rfl rfl rfl ⟨rfl, rfl⟩ ?_
    refine gg_iload_n K (i := 1) dX0_isReferredTo_22 rfl rfl ?_
    refine gg_icmp_ne K (tgt := 28) dX0_isReferredTo_23 (by decide) (fun h23 => ?_) (fun h23 => ?_)
    · refine gg_iinc K (v := nI (j + 1)) dX0_isReferredTo_28 rfl (nI_inc (j)) (by decide) ?_
      refine gg_goto K (tgt := 2) dX0_isReferredTo_31 (by decide) ?_
      refine gg_sub (L' := [(3, .int (nI (j + 1))), (0, .ref X.1), (1, .int x), (2, .int (nI d))]) ⟨rfl, rfl, rfl, rfl, trivial⟩ ?_
      exact ih _ _ ⟨j + 1, by omega, rfl, rfl, by omega, fun q hq => by
        by_cases hqj : q = j
        · rw [hqj]; exact h23
        · exact he q (by omega)⟩
    · refine gg_iconst K (v := 1) dX0_isReferredTo_26 (by decide) ?_
      exact gg_zret K hr dX0_isReferredTo_27 (Or.inr rfl) (Nat.zero_le _) (Nat.zero_le _) ⟨some_int (bI_t (bP_t ⟨j, hj2, h23⟩)).symm, rfl⟩
