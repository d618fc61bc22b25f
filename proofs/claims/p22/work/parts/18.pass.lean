/-! floats that are no NaN; Twotimes: days that pass, the average -/
theorem settle_num (f : FP.Core.Fmt) (s : Bool) (c : Nat) (q : Int) : FP.Core.settle f s c q ≠ .nan := by
  unfold FP.Core.settle FP.Core.bound
  split <;> split <;> (intro h; cases h)
theorem ratio_num (f : FP.Core.Fmt) (s : Bool) (a b : Nat) (e : Int) : FP.Core.roundRatio f s a b e ≠ .nan := by
  unfold FP.Core.roundRatio FP.Core.roundAt
  split
  · intro h; cases h
  · exact settle_num _ _ _ _
theorem whole_fin {i : Int} {d : FP.Core.Datum} (h : FP.Core.Whole i d) : ∃ s c q, d = .fin s c q := by
  cases d with
  | nan => exact h.elim
  | inf s => exact h.elim
  | fin s c q => exact ⟨s, c, q, rfl⟩
theorem fdiv_num {a b : Int32} (ha : a.toInt.natAbs ≤ 2 ^ 24) (hb : b.toInt.natAbs ≤ 2 ^ 24) (h0 : b.toInt ≠ 0) : FP.Core.val32 (FP.fdiv (FP.i2f a) (FP.i2f b)) ≠ .nan := by
  have h1 := FP.Core.i2f_int ha
  have h2 := FP.Core.i2f_int hb
  show FP.Core.val32 (FP.Core.fdiv (FP.Core.i2f a) (FP.Core.i2f b)) ≠ .nan
  rw [FP.Core.val32_fdiv]
  unfold FP.Core.FInt at h1 h2
  obtain ⟨s1, c1, q1, e1⟩ := whole_fin h1
  obtain ⟨s2, c2, q2, e2⟩ := whole_fin h2
  rw [e1] at h1 ⊢
  rw [e2] at h2 ⊢
  have hd : ¬ c2 = 0 := fun z => h0 ((FP.Core.whole_zero h2).mp z)
  show (if c2 = 0 then (if c1 = 0 then FP.Core.Datum.nan else .inf (s1 != s2)) else FP.Core.roundRatio FP.Core.b32 (s1 != s2) c1 c2 (q1 - q2)) ≠ .nan
  rw [if_neg hd]
  exact ratio_num _ _ _ _ _
theorem vf_n32_of {a : UInt32} (h : FP.Core.val32 a ≠ .nan) : vf_n32 a := by
  unfold vf_n32
  rw [UInt32.le_iff_toNat_le]
  have e : (a &&& 0x7fffffff).toNat = a.toNat % 2 ^ 31 := by
    rw [UInt32.toNat_and]
    exact Nat.and_two_pow_sub_one_eq_mod _ 31
  rw [e]
  show a.toNat % 2 ^ 31 ≤ 255 * 2 ^ 23
  refine Nat.not_lt.mp (fun q => h ?_)
  have ht : FP.Core.b32.tails = 2 ^ 23 := rfl
  have he : FP.Core.b32.exps = 2 ^ 8 := rfl
  have h1 : FP.Core.fieldE FP.Core.b32 a.toNat = FP.Core.b32.exps - 1 := by
    unfold FP.Core.fieldE
    rw [ht, he]
    omega
  have h2 : ¬ FP.Core.fieldT FP.Core.b32 a.toNat = 0 := by
    unfold FP.Core.fieldT
    rw [ht]
    omega
  unfold FP.Core.val32 FP.Core.decode
  rw [if_pos h1, if_neg h2]
theorem vf_n64_of {a : UInt64} (h : FP.Core.val64 a ≠ .nan) : vf_n64 a := by
  unfold vf_n64
  rw [UInt64.le_iff_toNat_le]
  have e : (a &&& 0x7fffffffffffffff).toNat = a.toNat % 2 ^ 63 := by
    rw [UInt64.toNat_and]
    exact Nat.and_two_pow_sub_one_eq_mod _ 63
  rw [e]
  show a.toNat % 2 ^ 63 ≤ 2047 * 2 ^ 52
  refine Nat.not_lt.mp (fun q => h ?_)
  have ht : FP.Core.b64.tails = 2 ^ 52 := rfl
  have he : FP.Core.b64.exps = 2 ^ 11 := rfl
  have h1 : FP.Core.fieldE FP.Core.b64 a.toNat = FP.Core.b64.exps - 1 := by
    unfold FP.Core.fieldE
    rw [ht, he]
    omega
  have h2 : ¬ FP.Core.fieldT FP.Core.b64 a.toNat = 0 := by
    unfold FP.Core.fieldT
    rw [ht]
    omega
  unfold FP.Core.val64 FP.Core.decode
  rw [if_pos h1, if_neg h2]
theorem f2d_num {a : UInt32} (h : FP.Core.val32 a ≠ .nan) : FP.Core.val64 (FP.f2d a) ≠ .nan := by
  have e : FP.f2d a = FP.Core.f2d a := if_neg (fun z => h ((FP.Core.fIsNaN_iff a).mp z))
  rw [e, FP.Core.val64_f2d]
  cases hd : FP.Core.val32 a with
  | nan => exact absurd hd h
  | inf s => intro q; cases q
  | fin s c q => exact ratio_num _ _ _ _ _
/-- the sum of the values, and how many there are -/
def smV (f : Nat → Int32) : Nat → Int32
  | 0 => 0
  | n + 1 => if f n = -1 then smV f n else smV f n + f n
noncomputable def ctV (f : Nat → Int32) (n : Nat) : Nat := fb_ct (fun d => bP (¬ f d = -1)) n
theorem smV_le {f : Nat → Int32} : ∀ {n : Nat}, (∀ d, d < n → f d = -1 ∨ ∃ j, f d = nI j ∧ j < 100) → n ≤ 60 → ∃ z, smV f n = nI z ∧ z ≤ 100 * n
  | 0, _, _ => ⟨0, rfl, by omega⟩
  | n + 1, h, hn => by
    obtain ⟨z, h1, h2⟩ := smV_le (f := f) (n := n) (fun d hd => h d (by omega)) (by omega)
    unfold smV
    by_cases hm : f n = -1
    · rw [if_pos hm]
      exact ⟨z, h1, by omega⟩
    · obtain ⟨j, g1, g2⟩ := (h n (by omega)).resolve_left hm
      rw [if_neg hm, h1, g1, nI_add]
      exact ⟨z + j, rfl, by omega⟩
def avF (f : Nat → Int32) (n : Nat) : UInt32 := FP.fdiv (FP.i2f (smV f 60)) (FP.i2f (nI n))
theorem avF_num {f : Nat → Int32} (h : ∀ d, d < 60 → f d = -1 ∨ ∃ j, f d = nI j ∧ j < 100) {n : Nat} (h0 : 0 < n) (hn : n ≤ 60) : FP.Core.val32 (avF f n) ≠ .nan := by
  obtain ⟨z, h1, h2⟩ := smV_le h (Nat.le_refl 60)
  unfold avF
  rw [h1]
  refine fdiv_num ?_ ?_ ?_
  · rw [nI_toInt (by omega)]; omega
  · rw [nI_toInt (by omega)]; omega
  · rw [nI_toInt (by omega)]; omega
/-- what a call may answer, a float -/
abbrev STf : Type := Int32 → UInt32 → VT → Nat → Prop
noncomputable def aS (V : VT) (T : Nat) (P1 P2 : Prop) (f : Nat → Int32) : STf := fun c r V' T' => V' = V ∧ T' = T ∧ ((¬ P1 ∧ c = 1) ∨ (P1 ∧ ¬ P2 ∧ c = 2) ∨ (P1 ∧ P2 ∧ ctV f 60 = 0 ∧ c = 3) ∨ (P1 ∧ P2 ∧ ¬ ctV f 60 = 0 ∧ c = 0 ∧ r = avF f (ctV f 60)))
def xPostF (Z : ZT) (X : XT) (S : STf) : Option Value → va_W → Prop := fun ret u => ∃ (r : UInt32) (k' kp' dr' : Nat → Int32) (T' : Nat), ret = some (.float r) ∧ u = wX Z X k' kp' dr' (nI T') ∧ okX kp' T' ∧ S 0 r (vX k' kp' T') T'
def xErrF (Z : ZT) (X : XT) (S : STf) (codes : List (String × Int32)) : String → va_W → Prop := fun E u => ∃ (c : Int32) (k' kp' dr' : Nat → Int32) (T' : Nat), (E, c) ∈ codes ∧ u = wX Z X k' kp' dr' (nI T') ∧ okX kp' T' ∧ S c 0 (vX k' kp' T') T'
set_option maxRecDepth 100000 in
theorem x_average {l : Launch} {Z : ZT} {X : XT} {k kp dr : Nat → Int32} {T : Nat} (hl0 : l.stackTraces = false) (ok : okX kp T) (hv : valOk (vX k kp T) T) {y q : Int32} : mX l Z.1 (ty3 Z) yX0_average (.code yX0_average cX0_average 7 (some .float)) (rmk 9 200 8 48) (wX Z X k kp dr (nI T)) [.ref X.1, .int y, .int q] (xPostF Z X (aS (vX k kp T) T (inR y 8 ∧ inR q 60) (q ≤ nI T) (vX k kp T (nN q) (nN y)))) (xErrF Z X (aS (vX k kp T) T (inR y 8 ∧ inR q 60) (q ≤ nI T) (vX k kp T (nN q) (nN y))) cABS) := by
  refine mX_intro (own := RX0) [(0, .ref X.1), (1, .int y), (2, .int q)] (by decide +kernel) rfl rfl rfl rfl ?_
  intro p e s m args below meth c A K hr T9 htab
  refine gg_iload_n K (i := 1) dX0_average_0 rfl rfl ?_
  refine gg_bipush K (v := 8) dX0_average_1 (by decide) ?_
  refine gg_callTS 1 6 K T9 k_X0_X0_needRange (x_needRange hl0) dX0_average_3 rfl rfl rfl rfl ⟨rfl, rfl⟩ (fun E u h => ?_) (fun v u h => ?_)
  · obtain ⟨rfl, rfl, h⟩ := h
    exact gx_out K htab (Nat.le_of_ble_eq_true rfl) (Nat.le_of_ble_eq_true rfl) (⟨1, k, kp, dr, T, by decide, rfl, ok, rfl, rfl, Or.inl ⟨fun z => h z.1, rfl⟩⟩)
  obtain ⟨rfl, rfl, h1⟩ := h
  refine gg_aload_n K (i := 0) dX0_average_6 rfl rfl ?_
  refine gg_iload_n K (i := 2) dX0_average_7 rfl rfl ?_
  refine gg_callTX 3 18 K T9 k_X0_X0_needRecord (x_needRecord hl0) dX0_average_8 rfl rfl rfl rfl ⟨rfl, rfl⟩ (fun E u h => ?_) (fun v u h => ?_)
  · obtain ⟨rfl, ⟨rfl, h⟩ | ⟨rfl, h, h'⟩⟩ := h
    · exact gx_out K htab (Nat.le_of_ble_eq_true rfl) (Nat.le_of_ble_eq_true rfl) (⟨1, k, kp, dr, T, by decide, rfl, ok, rfl, rfl, Or.inl ⟨fun z => h z.2, rfl⟩⟩)
    · exact gx_out K htab (Nat.le_of_ble_eq_true rfl) (Nat.le_of_ble_eq_true rfl) (⟨2, k, kp, dr, T, by decide, rfl, ok, rfl, rfl, Or.inr (Or.inl ⟨⟨h1, h⟩, h', rfl⟩)⟩)
  obtain ⟨rfl, rfl, h3, h4⟩ := h
  have ⟨b1, b2⟩ := inR_N (b := 8) h1
  have ⟨q1, q2⟩ := inR_N (b := 60) h3
  have hT := leT q2 q1 ok.1 h4
  have hf : ∀ d, d < 60 → (vX k kp T (nN q) (nN y)) d = -1 ∨ ∃ j, (vX k kp T (nN q) (nN y)) d = nI j ∧ j < 100 := fun d hd => (hv (nN q) (nN y) d hT (by omega) hd).elim Or.inl (fun ⟨j, g1, g2, _⟩ => Or.inr ⟨j, g1, g2⟩)
  refine gg_iconst K (v := 0) dX0_average_11 (by decide) ?_
  refine gg_istore_n K (i := 3) dX0_average_12 rfl (by decide) ?_
  refine gg_iconst K (v := 0) dX0_average_13 (by decide) ?_
  refine gg_istore K dX0_average_14 (by decide) ?_
  refine gg_iconst K (v := 0) dX0_average_16 (by decide) ?_
  refine gg_istore K dX0_average_17 (by decide) ?_
  refine gg_sub (L' := [(5, .int (nI 0)), (4, .int (nI (ctV (vX k kp T (nN q) (nN y)) 0))), (3, .int (smV (vX k kp T (nN q) (nN y)) 0)), (0, .ref X.1), (1, .int y), (2, .int q)]) ⟨rfl, rfl, rfl, rfl, rfl, rfl, trivial⟩ ?_
  refine gg_loop (fun i w L => ∃ (j : Nat), j + i = 61 ∧ w = wX Z X k kp dr (nI T) ∧ j ≤ 60 ∧ L = [(5, .int (nI j)), (4, .int (nI (ctV (vX k kp T (nN q) (nN y)) j))), (3, .int (smV (vX k kp T (nN q) (nN y)) j)), (0, .ref X.1), (1, .int y), (2, .int q)]) (fun w L h => ?_) (fun i w L h ih => ?_) 61 _ _ ⟨0, rfl, rfl, by omega, rfl⟩
  · obtain ⟨j, hj, -, h2, -⟩ := h
    omega
  · obtain ⟨j, hj, rfl, -, rfl⟩ := h
    refine gg_iload K dX0_average_19 rfl ?_
    refine gg_bipush K (v := 60) dX0_average_21 (by decide) ?_
    refine gg_icmp_ge K (tgt := 60) dX0_average_23 (by decide) (fun h23 => ?_) (fun h23 => ?_)
    · have hj2 := i_le (a := 60) h23
      have hj3 : j = 60 := by omega
      subst hj3
      have hle := fb_ct_le (fun d => bP (¬ (vX k kp T (nN q) (nN y)) d = -1)) 60
      refine gg_iload K dX0_average_60 rfl ?_
      refine gg_if_ne K (tgt := 75) dX0_average_62 (by decide) (fun h62 => ?_) (fun h62 => ?_)
      · have hn0 : ¬ ctV (vX k kp T (nN q) (nN y)) 60 = 0 := fun z => h62 (by rw [z]; rfl)
        have hnn := avF_num hf (n := ctV (vX k kp T (nN q) (nN y)) 60) (by omega) hle
        refine gg_iload_n K (i := 3) dX0_average_75 rfl rfl ?_
        refine gg_i2f K dX0_average_76 ?_
        refine gg_iload K dX0_average_77 rfl ?_
        refine gg_i2f K dX0_average_79 ?_
        refine gg_fdiv K dX0_average_80 (vf_n32_of hnn) ?_
        exact gg_x (gg_fret K hr dX0_average_81 (Nat.le_of_ble_eq_true rfl) (Nat.le_of_ble_eq_true rfl) ⟨_, k, kp, dr, T, rfl, rfl, ok, rfl, rfl, Or.inr (Or.inr (Or.inr ⟨⟨h1, h3⟩, h4, hn0, rfl, rfl⟩))⟩)
      · have hn0 : ctV (vX k kp T (nN q) (nN y)) 60 = 0 := i_eq (b := 0) h62 (by unfold ctV; omega)
        exact gg_throw_eS K T9 hl0 htab (is := 132) (text := "no values") (by decide) dX0_average_65 dX0_average_68 dX0_average_69 dX0_average_71 dX0_average_74 rfl rfl (Nat.le_of_ble_eq_true rfl) (Nat.le_of_ble_eq_true rfl) ⟨3, k, kp, dr, T, by decide, rfl, ok, rfl, rfl, Or.inr (Or.inr (Or.inl ⟨⟨h1, h3⟩, h4, hn0, rfl⟩))⟩
    have hj2 := i_nle (a := 60) h23
    refine gg_aload_n K (i := 0) dX0_average_26 rfl rfl ?_
    refine gg_iload_n K (i := 2) dX0_average_27 rfl rfl ?_
    refine gg_iconst K (v := 0) dX0_average_28 (by decide) ?_
    refine gg_iload_n K (i := 1) dX0_average_29 rfl rfl ?_
    refine gg_callSR K k_X0_X0_line (x_line 0 (nN y) rfl b2) dX0_average_30 rfl rfl rfl rfl ⟨rfl, rfl⟩ ?_
    refine gg_iload K dX0_average_33 rfl ?_
    refine gg_callRX K k_X0_X0_knownOn (x_knownOn (nN q) (nN y) j ok hT (by omega) hj2 q2 (congrArg nI (by omega)) rfl) dX0_average_35 rfl rfl rfl rfl ⟨rfl, rfl⟩ ?_
    refine gg_istore K dX0_average_38 (by decide) ?_
    refine gg_iload K dX0_average_40 rfl ?_
    refine gg_iconst K (v := (-1)) dX0_average_42 (by decide) ?_
    refine gg_icmp_eq K (tgt := 54) dX0_average_43 (by decide) (fun h43 => ?_) (fun h43 => ?_)
    · refine gg_iinc K (v := nI (j + 1)) dX0_average_54 rfl (nI_inc (j)) (by decide) ?_
      refine gg_goto K (tgt := 19) dX0_average_57 (by decide) ?_
      refine gg_sub (L' := [(5, .int (nI (j + 1))), (4, .int (nI (ctV (vX k kp T (nN q) (nN y)) j))), (3, .int (smV (vX k kp T (nN q) (nN y)) j)), (0, .ref X.1), (1, .int y), (2, .int q)]) ⟨rfl, rfl, rfl, rfl, rfl, rfl, trivial⟩ ?_
      exact ih _ _ ⟨j + 1, by omega, rfl, by omega, by rw [show smV (vX k kp T (nN q) (nN y)) (j + 1) = smV (vX k kp T (nN q) (nN y)) j from if_pos h43, show ctV (vX k kp T (nN q) (nN y)) (j + 1) = ctV (vX k kp T (nN q) (nN y)) j by unfold ctV; rw [fb_ct_succ, bP_f (fun z => z h43)]; rfl]⟩
    · refine gg_iload_n K (i := 3) dX0_average_46 rfl rfl ?_
      refine gg_iload K dX0_average_47 rfl ?_
      refine gg_iadd K dX0_average_49 ?_
      refine gg_istore_n K (i := 3) dX0_average_50 rfl (by decide) ?_
      refine gg_iinc K (v := nI (ctV (vX k kp T (nN q) (nN y)) j + 1)) dX0_average_51 rfl (nI_inc (ctV (vX k kp T (nN q) (nN y)) j)) (by decide) ?_
      refine gg_iinc K (v := nI (j + 1)) dX0_average_54 rfl (nI_inc (j)) (by decide) ?_
      refine gg_goto K (tgt := 19) dX0_average_57 (by decide) ?_
      refine gg_sub (L' := [(5, .int (nI (j + 1))), (4, .int (nI (ctV (vX k kp T (nN q) (nN y)) j + 1))), (3, .int (smV (vX k kp T (nN q) (nN y)) j + (vX k kp T (nN q) (nN y)) j)), (0, .ref X.1), (1, .int y), (2, .int q)]) ⟨rfl, rfl, rfl, rfl, rfl, rfl, trivial⟩ ?_
      exact ih _ _ ⟨j + 1, by omega, rfl, by omega, by rw [show smV (vX k kp T (nN q) (nN y)) (j + 1) = smV (vX k kp T (nN q) (nN y)) j + (vX k kp T (nN q) (nN y)) j from if_neg h43, show ctV (vX k kp T (nN q) (nN y)) (j + 1) = ctV (vX k kp T (nN q) (nN y)) j + 1 by unfold ctV; rw [fb_ct_succ, bP_t h43]; rfl]⟩
/-! days that pass -/
def psV (V : VT) (T n : Nat) : VT := fun r l d => if r ≤ T then V r l d else if r ≤ T + n then V T l d else -1
def sPs (V : VT) (T : Nat) (P1 P2 : Prop) (n : Nat) : ST := fun c r V' T' => (¬ P1 ∧ c = 1 ∧ V' = V ∧ T' = T) ∨ (P1 ∧ ¬ P2 ∧ c = 2 ∧ V' = V ∧ T' = T) ∨ (P1 ∧ P2 ∧ c = 0 ∧ r = nI (T + n) ∧ V' = psV V T n ∧ T' = T + n)
set_option maxRecDepth 100000 in
theorem x_copyDay {l : Launch} {Z : ZT} {X : XT} {k kp dr : Nat → Int32} {td : Int32} (a b : Nat) {x y : Int32} (ha : a < 60) (hb0 : b < 60) (hx : x = nI a) (hy : y = nI b) : mA l Z.1 (ty3 Z) yX0_copyDay cX0_copyDay 3 none (rmk 1 60 0 0) (wX Z X k kp dr td) [.ref X.1, .int x, .int y] (fun v u => v = none ∧ u = wX Z X (va_cpy k k (ix a 0 0) (ix b 0 0) 960) kp dr td) := by
  refine mA_intro (own := RX0) [(0, .ref X.1), (1, .int x), (2, .int y)] (by decide +kernel) rfl rfl rfl rfl ?_
  intro p e s m args below meth c A K hr hin
  subst hx hy
  have g1 : ix a 0 0 + 960 ≤ 57600 := by unfold ix; omega
  have g2 : ix b 0 0 + 960 ≤ 57600 := by unfold ix; omega
  refine gg_iload_n K (i := 1) dX0_copyDay_0 rfl rfl ?_
  refine gg_if_lt K (tgt := 46) dX0_copyDay_1 (by decide) (fun h1 => ?_) (fun h1 => ?_)
  · exact absurd h1 (nI_pos (by omega))
  refine gg_iload_n K (i := 1) dX0_copyDay_4 rfl rfl ?_
  refine gg_bipush K (v := 60) dX0_copyDay_5 (by decide) ?_
  refine gg_icmp_ge K (tgt := 46) dX0_copyDay_7 (by decide) (fun h7 => ?_) (fun h7 => ?_)
  · exact absurd (i_le (a := 60) h7) (by omega)
  refine gg_iload_n K (i := 2) dX0_copyDay_10 rfl rfl ?_
  refine gg_if_lt K (tgt := 46) dX0_copyDay_11 (by decide) (fun h11 => ?_) (fun h11 => ?_)
  · exact absurd h11 (nI_pos (by omega))
  refine gg_iload_n K (i := 2) dX0_copyDay_14 rfl rfl ?_
  refine gg_bipush K (v := 60) dX0_copyDay_15 (by decide) ?_
  refine gg_icmp_ge K (tgt := 46) dX0_copyDay_17 (by decide) (fun h17 => ?_) (fun h17 => ?_)
  · exact absurd (i_le (a := 60) h17) (by omega)
  refine gg_aload_n K (i := 0) dX0_copyDay_20 rfl rfl ?_
  refine gX_known K dX0_copyDay_21 ?_
  refine gg_iload_n K (i := 1) dX0_copyDay_24 rfl rfl ?_
  refine gg_iconst K (v := 0) dX0_copyDay_25 (by decide) ?_
  refine gg_iconst K (v := 0) dX0_copyDay_26 (by decide) ?_
  refine gg_callSR K k_X0_X0_index (x_index a 0 0 rfl rfl rfl) dX0_copyDay_27 rfl rfl rfl rfl ⟨rfl, rfl⟩ ?_
  refine gg_aload_n K (i := 0) dX0_copyDay_30 rfl rfl ?_
  refine gX_known K dX0_copyDay_31 ?_
  refine gg_iload_n K (i := 2) dX0_copyDay_34 rfl rfl ?_
  refine gg_iconst K (v := 0) dX0_copyDay_35 (by decide) ?_
  refine gg_iconst K (v := 0) dX0_copyDay_36 (by decide) ?_
  refine gg_callSR K k_X0_X0_index (x_index b 0 0 rfl rfl rfl) dX0_copyDay_37 rfl rfl rfl rfl ⟨rfl, rfl⟩ ?_
  refine gg_sipush K (v := 960) dX0_copyDay_40 (by decide) ?_
  have e1 : (nI (ix a 0 0)).toNatClampNeg = ix a 0 0 := nI_clamp (by omega)
  have e2 : (nI (ix b 0 0)).toNatClampNeg = ix b 0 0 := nI_clamp (by omega)
  have e3 : (960 : Int32).toNatClampNeg = 960 := by decide
  have main : gg p l e (rmk 1 60 0 0) s m args below meth c Z.1 A 3 0 0 (MQ below (qA Z.1 (ty3 Z) A (fun v u => v = none ∧ u = wX Z X (va_cpy k k (ix a 0 0) (ix b 0 0) 960) kp dr td)) args s (rmk 1 60 0 0).cells (rmk 1 60 0 0).slots A) (wX Z X k kp dr td) 43 [(0, .ref X.1), (1, .int (nI a)), (2, .int (nI b))] [.int 960, .int (nI (ix b 0 0)), .ref X.2.1, .int (nI (ix a 0 0)), .ref X.2.1] := by
    intro H locs ls hP hD hS hl
    refine va_copyi K.1.1 K.1.2.1 (K.1.2.2.1.trans hl.1.symm) K.1.2.2.2.1 (K.1.2.2.2.2 _ wd_125) (K.1.2.2.2.2 _ wd_126) (K.1.2.2.2.2 _ wd_127) (K.1.2.2.2.2 _ wd_128) K.2.1 hP hD hS 1 1 0 0 (c0 := Z.2.1) (c1 := Z.2.1) (n0 := 57600) (n1 := 57600) (f := k) (g := k) (ty := .int) rfl rfl rfl rfl rfl (nI_pos (by omega)) (nI_pos (by omega)) (by decide) (by rw [e1, e3]; exact g1) (by rw [e2, e3]; exact g2) (fun i _ => rfl) (Nat.le_of_ble_eq_true rfl) (Nat.le_of_ble_eq_true (by decide +kernel)) dX0_copyDay_43 (fun H1 locs1 hP hD hS => ?_)
    rw [e1, e2, e3] at hP hD
    exact gg_vret K hr dX0_copyDay_46 (Nat.le_of_ble_eq_true rfl) (Nat.le_of_ble_eq_true rfl) ⟨rfl, rfl⟩ H1 locs1 ls hP hD hS hl
  exact main
theorem ix_lt2 {a b l d : Nat} (h : a < b) (hl : l < 16) (hd : d < 60) : ix a l d < ix b 0 0 := by unfold ix; omega
set_option maxRecDepth 100000 in
theorem x_pass {l : Launch} {Z : ZT} {X : XT} {k kp dr : Nat → Int32} {T : Nat} (hl0 : l.stackTraces = false) (ok : okX kp T) {n9 : Int32} : mX l Z.1 (ty3 Z) yX0_pass (.code yX0_pass cX0_pass 4 (some .int)) (rmk 9 200 8 48) (wX Z X k kp dr (nI T)) [.ref X.1, .int n9] (xPost Z X ((sPs (vX k kp T) T (¬ n9 < 1 ∧ ¬ 60 ≤ n9) (T + nN n9 < 60) (nN n9)))) (xErr Z X ((sPs (vX k kp T) T (¬ n9 < 1 ∧ ¬ 60 ≤ n9) (T + nN n9 < 60) (nN n9))) cAS) := by
  refine mX_intro (own := RX0) [(0, .ref X.1), (1, .int n9)] (by decide +kernel) rfl rfl rfl rfl ?_
  intro p e s m args below meth c A K hr T9 htab
  have hT9 := ok.1
  refine gg_iload_n K (i := 1) dX0_pass_0 rfl rfl ?_
  refine gg_iconst K (v := 1) dX0_pass_1 (by decide) ?_
  refine gg_icmp_lt K (tgt := 11) dX0_pass_2 (by decide) (fun h2 => ?_) (fun h2 => ?_)
  · exact gg_throw_eA K T9 hl0 htab (is := 57) (text := "days") (by decide) dX0_pass_11 dX0_pass_14 dX0_pass_15 dX0_pass_17 dX0_pass_20 rfl rfl (Nat.le_of_ble_eq_true rfl) (Nat.le_of_ble_eq_true rfl) ⟨1, k, kp, dr, T, by decide, rfl, ok, Or.inl ⟨fun z => z.1 h2, rfl, rfl, rfl⟩⟩
  refine gg_iload_n K (i := 1) dX0_pass_5 rfl rfl ?_
  refine gg_bipush K (v := 60) dX0_pass_6 (by decide) ?_
  refine gg_icmp_lt K (tgt := 21) dX0_pass_8 (by decide) (fun h8 => ?_) (fun h8 => ?_)
  rotate_left
  · exact gg_throw_eA K T9 hl0 htab (is := 57) (text := "days") (by decide) dX0_pass_11 dX0_pass_14 dX0_pass_15 dX0_pass_17 dX0_pass_20 rfl rfl (Nat.le_of_ble_eq_true rfl) (Nat.le_of_ble_eq_true rfl) ⟨1, k, kp, dr, T, by decide, rfl, ok, Or.inl ⟨fun z => z.2 (by rw [Int32.le_iff_toInt_le]; rw [Int32.lt_iff_toInt_lt] at h8; omega), rfl, rfl, rfl⟩⟩
  have hP1 : ¬ n9 < 1 ∧ ¬ 60 ≤ n9 := ⟨h2, fun z => by rw [Int32.le_iff_toInt_le] at z; rw [Int32.lt_iff_toInt_lt] at h8; omega⟩
  have hin : inR n9 60 := ⟨fun z => h2 (by
    rw [Int32.lt_iff_toInt_lt] at z ⊢
    have g1 : (0 : Int32).toInt = 0 := by decide
    have g2 : (1 : Int32).toInt = 1 := by decide
    omega), hP1.2⟩
  have ⟨b1, b2⟩ := inR_N (b := 60) hin
  have b3 : 0 < nN n9 := by
    have h2' := h2
    rw [b2] at h2'
    exact i_nlt (b := 1) h2'
  refine gg_aload_n K (i := 0) dX0_pass_21 rfl rfl ?_
  refine gX_today K dX0_pass_22 ?_
  refine gg_iload_n K (i := 1) dX0_pass_25 rfl rfl ?_
  refine gg_iadd K dX0_pass_26 ?_
  refine gg_top (y := nI (T + nN n9)) (by rw [← nI_add, ← b2]) ?_
  refine gg_bipush K (v := 60) dX0_pass_27 (by decide) ?_
  refine gg_icmp_lt K (tgt := 42) dX0_pass_29 (by decide) (fun h29 => ?_) (fun h29 => ?_)
  rotate_left
  · have h9 := i_nlt (b := 60) h29
    exact gg_throw_eS K T9 hl0 htab (is := 68) (text := "the last day") (by decide) dX0_pass_32 dX0_pass_35 dX0_pass_36 dX0_pass_38 dX0_pass_41 rfl rfl (Nat.le_of_ble_eq_true rfl) (Nat.le_of_ble_eq_true rfl) ⟨2, k, kp, dr, T, by decide, rfl, ok, Or.inr (Or.inl ⟨hP1, by omega, rfl, rfl, rfl⟩)⟩
  have h9 := i_lt (b := 60) h29
  refine gg_aload_n K (i := 0) dX0_pass_42 rfl rfl ?_
  refine gX_today K dX0_pass_43 ?_
  refine gg_iload_n K (i := 1) dX0_pass_46 rfl rfl ?_
  refine gg_iadd K dX0_pass_47 ?_
  refine gg_top (y := nI (T + nN n9)) (by rw [← nI_add, ← b2]) ?_
  refine gg_istore_n K (i := 2) dX0_pass_48 rfl (by decide) ?_
  refine gg_aload_n K (i := 0) dX0_pass_49 rfl rfl ?_
  refine gX_today K dX0_pass_50 ?_
  refine gg_iconst K (v := 1) dX0_pass_53 (by decide) ?_
  refine gg_iadd K dX0_pass_54 ?_
  refine gg_top (nI_1 T) ?_
  refine gg_istore_n K (i := 3) dX0_pass_55 rfl (by decide) ?_
  refine gg_sub (L' := [(3, .int (nI (T + 1))), (2, .int (nI (T + nN n9))), (0, .ref X.1), (1, .int n9)]) ⟨rfl, rfl, rfl, rfl, trivial⟩ ?_
  refine gg_loop (fun i w L => ∃ (j : Nat) (kp' : Nat → Int32), j + i = T + nN n9 + 1 ∧ w = wX Z X k kp' dr (nI T) ∧ T < j ∧ j ≤ T + nN n9 ∧ L = [(3, .int (nI j)), (2, .int (nI (T + nN n9))), (0, .ref X.1), (1, .int n9)] ∧ ∀ r, kp' r = if T < r ∧ r < j then nI T else kp r) (fun w L h => ?_) (fun i w L h ih => ?_) (nN n9) _ _ ⟨T + 1, kp, by omega, rfl, by omega, by omega, rfl, fun r => (if_neg (by omega)).symm⟩
  · obtain ⟨j, kp', hj, -, -, h2, -⟩ := h
    omega
  obtain ⟨j, kp', hj, rfl, hj1, hj2, rfl, hkp⟩ := h
  refine gg_iload_n K (i := 3) dX0_pass_56 rfl rfl ?_
  refine gg_iload_n K (i := 2) dX0_pass_57 rfl rfl ?_
  refine gg_icmp_ge K (tgt := 76) dX0_pass_58 (by decide) (fun h58 => ?_) (fun h58 => ?_)
  rotate_left
  · have hj3 := i_nle h58
    refine gg_aload_n K (i := 0) dX0_pass_61 rfl rfl ?_
    refine gg_iload_n K (i := 3) dX0_pass_62 rfl rfl ?_
    refine gg_aload_n K (i := 0) dX0_pass_63 rfl rfl ?_
    refine gX_today K dX0_pass_64 ?_
    refine gg_callUX K k_X0_X0_keepOn (x_keepOn j (by omega) rfl) dX0_pass_67 rfl rfl rfl rfl ⟨rfl, rfl⟩ (fun v9 u h => ?_)
    obtain ⟨rfl, rfl⟩ := h
    refine gg_iinc K (v := nI (j + 1)) dX0_pass_70 rfl (nI_inc (j)) (by decide) ?_
    refine gg_goto K (tgt := 56) dX0_pass_73 (by decide) ?_
    refine gg_sub (L' := [(3, .int (nI (j + 1))), (2, .int (nI (T + nN n9))), (0, .ref X.1), (1, .int n9)]) ⟨rfl, rfl, rfl, rfl, trivial⟩ ?_
    refine ih _ _ ⟨j + 1, _, by omega, rfl, by omega, by omega, rfl, fun r => ?_⟩
    unfold upd
    by_cases hrj : r = j
    · rw [if_pos hrj, if_pos (by omega)]
    · rw [if_neg hrj, hkp r]
      by_cases hc : T < r ∧ r < j
      · rw [if_pos hc, if_pos (by omega)]
      · rw [if_neg hc, if_neg (by omega)]
  have hj3 := i_le h58
  have hj4 : j = T + nN n9 := by omega
  subst hj4
  refine gg_aload_n K (i := 0) dX0_pass_76 rfl rfl ?_
  refine gg_iload_n K (i := 2) dX0_pass_77 rfl rfl ?_
  refine gg_iload_n K (i := 2) dX0_pass_78 rfl rfl ?_
  refine gg_callUX K k_X0_X0_keepOn (x_keepOn (T + nN n9) (by omega) rfl) dX0_pass_79 rfl rfl rfl rfl ⟨rfl, rfl⟩ (fun v9 u h => ?_)
  obtain ⟨rfl, rfl⟩ := h
  refine gg_aload_n K (i := 0) dX0_pass_82 rfl rfl ?_
  refine gg_aload_n K (i := 0) dX0_pass_83 rfl rfl ?_
  refine gX_today K dX0_pass_84 ?_
  refine gg_iload_n K (i := 2) dX0_pass_87 rfl rfl ?_
  refine gg_callUX K k_X0_X0_copyDay (x_copyDay T (T + nN n9) (by omega) (by omega) rfl rfl) dX0_pass_88 rfl rfl rfl rfl ⟨rfl, rfl⟩ (fun v9 u h => ?_)
  obtain ⟨rfl, rfl⟩ := h
  refine gg_aload_n K (i := 0) dX0_pass_91 rfl rfl ?_
  refine gg_iload_n K (i := 2) dX0_pass_92 rfl rfl ?_
  refine gX_ptoday K dX0_pass_93 ?_
  refine gg_aload_n K (i := 0) dX0_pass_96 rfl rfl ?_
  refine gX_today K dX0_pass_97 ?_
  obtain ⟨n8, hn8⟩ : ∃ z, z = nN n9 := ⟨_, rfl⟩
  rw [← hn8] at hkp h9 b3 ⊢
  have hq : ∀ r, upd kp' (T + n8) (nI (T + n8)) r = if r = T + n8 then nI (T + n8) else if T < r ∧ r < T + n8 then nI T else kp r := fun r => by
    unfold upd
    by_cases hr1 : r = T + n8
    · rw [if_pos hr1, if_pos hr1]
    · rw [if_neg hr1, if_neg hr1, hkp r]
  have ok' : okX (upd kp' (T + n8) (nI (T + n8))) (T + n8) := by
    obtain ⟨o1, o2, o3, o4⟩ := ok
    refine ⟨h9, by rw [hq, if_pos rfl], by rw [hq, if_neg (by omega), if_neg (by omega)]; exact o3, fun r hr1 => ?_⟩
    by_cases g1 : r ≤ T
    · have e : upd kp' (T + n8) (nI (T + n8)) r = kp r := by rw [hq, if_neg (by omega), if_neg (by omega)]
      have e2 : upd kp' (T + n8) (nI (T + n8)) (r - 1) = kp (r - 1) := by rw [hq, if_neg (by omega), if_neg (by omega)]
      have := o4 r g1
      unfold kq at this ⊢
      rw [e, e2]
      exact this
    · by_cases g2 : r = T + n8
      · have e : upd kp' (T + n8) (nI (T + n8)) r = nI r := by rw [hq, if_pos g2, g2]
        have e3 := kq_nI e (by omega)
        rw [e3]
        exact ⟨⟨e, by omega⟩, Or.inl e⟩
      · have e : upd kp' (T + n8) (nI (T + n8)) r = nI T := by rw [hq, if_neg g2, if_pos (by omega)]
        have e3 := kq_nI e (by omega)
        rw [e3]
        refine ⟨⟨e, by omega⟩, Or.inr ⟨by omega, ?_⟩⟩
        rw [e, hq, if_neg (by omega)]
        by_cases g3 : T < r - 1
        · rw [if_pos (by omega)]
        · rw [if_neg (by omega), show r - 1 = T by omega]; exact o2.symm
  have hv : vX (va_cpy k k (ix T 0 0) (ix (T + n8) 0 0) 960) (upd kp' (T + n8) (nI (T + n8))) (T + n8) = psV (vX k kp T) T n8 := by
    obtain ⟨o1, o2, o3, o4⟩ := ok
    funext r l9 d
    unfold psV vX
    by_cases hc : l9 < 16 ∧ d < 60
    · by_cases g1 : r ≤ T
      · have e : kq (upd kp' (T + n8) (nI (T + n8))) r = kq kp r := by unfold kq; rw [hq, if_neg (by omega), if_neg (by omega)]
        have g4 := (o4 r g1).1.2
        rw [if_pos ⟨by omega, hc.1, hc.2⟩, if_pos g1, if_pos ⟨g1, hc.1, hc.2⟩, e]
        exact pk_cpy_out (Or.inl (ix_lt2 (by omega) hc.1 hc.2))
      · rw [if_neg g1]
        by_cases g5 : r ≤ T + n8
        · rw [if_pos g5, if_pos ⟨g5, hc.1, hc.2⟩, if_pos ⟨Nat.le_refl T, hc.1, hc.2⟩, kq_nI o2 o1]
          by_cases g2 : r = T + n8
          · have e : kq (upd kp' (T + n8) (nI (T + n8))) r = T + n8 := kq_nI (by rw [hq, if_pos g2]) h9
            rw [e, pk_cpy_in (by unfold ix; omega) (by unfold ix; omega)]
            exact congrArg k (by unfold ix; omega)
          · have e : kq (upd kp' (T + n8) (nI (T + n8))) r = T := kq_nI (by rw [hq, if_neg g2, if_pos (by omega)]) (by omega)
            rw [e]
            exact pk_cpy_out (Or.inl (ix_lt2 (by omega) hc.1 hc.2))
        · rw [if_neg g5, if_neg (by omega)]
    · rw [if_neg (by omega)]
      by_cases g1 : r ≤ T
      · rw [if_pos g1, if_neg (by omega)]
      · rw [if_neg g1]
        by_cases g5 : r ≤ T + n8
        · rw [if_pos g5, if_neg (by omega)]
        · rw [if_neg g5]
  exact gg_x (gg_iret K hr dX0_pass_100 (Nat.le_of_ble_eq_true rfl) (Nat.le_of_ble_eq_true rfl) ⟨_, _, _, dr, T + n8, rfl, rfl, ok', Or.inr (Or.inr ⟨hP1, h9, rfl, rfl, hv, rfl⟩)⟩)
