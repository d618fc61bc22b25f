/-! areRowsSo -/
set_option maxRecDepth 100000 in
theorem c_rows {l : Launch} {Z : ZT} {X : XT} {k kp dr : Nat → Int32} {T : Nat} (hl0 : l.stackTraces = false) (ok : okX kp T) (hv : valOk (vX k kp T) T) (t' y' : Nat) {t y : Int32} (a1 : t' < 2) (b1 : y' < 8) (a2 : t = nI t') (b2 : y = nI y') : mX l Z.1 (ty3 Z) yL_areRowsSo (.code yL_areRowsSo cL_areRowsSo 11 (some .boolean)) (rmk 11 300 16 96) (wX Z X k kp dr (nI T)) [.ref X.1, .int t, .int y] (sameW Z X (vX k kp T) T (.int 1)) (fun _ _ => False) := by
  have hT9 := ok.1
  refine mX_intro (own := RL) [(0, .ref X.1), (1, .int t), (2, .int y)] (by decide +kernel) rfl rfl rfl rfl ?_
  intro p e s m args below meth c A K hr T9 htab
  subst a2 b2
  refine gg_aload_n K (i := 0) dL_areRowsSo_0 rfl rfl ?_
  refine gg_iload_n K (i := 1) dL_areRowsSo_1 rfl rfl ?_
  refine gg_iload_n K (i := 2) dL_areRowsSo_2 rfl rfl ?_
  refine gg_callRX K k_L_X0_rows (n_rows ok t' y' a1 b1 rfl rfl) dL_areRowsSo_3 rfl rfl rfl rfl ⟨rfl, rfl⟩ ?_
  refine gg_istore_n K (i := 3) dL_areRowsSo_6 rfl (by decide) ?_
  refine gg_iconst K (v := 0) dL_areRowsSo_7 (by decide) ?_
  refine gg_istore K dL_areRowsSo_8 (by decide) ?_
  refine gg_aload_n K (i := 0) dL_areRowsSo_10 rfl rfl ?_
  refine gg_iload_n K (i := 1) dL_areRowsSo_11 rfl rfl ?_
  refine gg_iload_n K (i := 2) dL_areRowsSo_12 rfl rfl ?_
  refine gg_iload_n K (i := 3) dL_areRowsSo_13 rfl rfl ?_
  refine gg_callJH (wc := wX Z X k kp dr (nI T)) (wr := []) [0, 1, 2, 3] [] rfl rfl rfl K T9 k_L_L_rowRun (c_noRow hl0 ok t' y' a1 b1 rfl rfl (fun j hj => fun z => by
    have hb := fb_ct_le (rwF (vX k kp T) (t' * 8 + y')) (60 * (T + 1))
    have := i_eq z
    omega)) dL_areRowsSo_14 rfl rfl rfl rfl (fun v u h => ?_)
  obtain ⟨k, kp, dr, rfl, rfl, ok, e8⟩ := h
  rw [← e8] at hv ⊢
  clear e8
  refine gg_ldc K wd_3 dL_areRowsSo_17 ?_
  refine gg_icmp_ne K (tgt := 38) dL_areRowsSo_19 (by decide) (fun h19 => ?_) (fun h19 => ?_)
  · exact absurd rfl h19
  refine gg_aload_n K (i := 0) dL_areRowsSo_22 rfl rfl ?_
  refine gg_iload_n K (i := 1) dL_areRowsSo_23 rfl rfl ?_
  refine gg_iload_n K (i := 2) dL_areRowsSo_24 rfl rfl ?_
  refine gg_iconst K (v := (-1)) dL_areRowsSo_25 (by decide) ?_
  refine gg_callJH (wc := wX Z X k kp dr (nI T)) (wr := []) [0, 1, 2, 3] [] rfl rfl rfl K T9 k_L_L_rowRun (c_noRow hl0 ok t' y' a1 b1 rfl rfl (fun j hj => fun z => by
    have hb := fb_ct_le (rwF (vX k kp T) (t' * 8 + y')) (60 * (T + 1))
    exact nI_m1 (a := j) (by omega) z.symm)) dL_areRowsSo_26 rfl rfl rfl rfl (fun v u h => ?_)
  obtain ⟨k, kp, dr, rfl, rfl, ok, e8⟩ := h
  rw [← e8] at hv ⊢
  clear e8
  have hnb := fb_ct_le (rwF (vX k kp T) (t' * 8 + y')) (60 * (T + 1))
  have hrs := rows_sum (vX k kp T) (t' * 8 + y') T
  refine gg_ldc K wd_3 dL_areRowsSo_29 ?_
  refine gg_icmp_ne K (tgt := 38) dL_areRowsSo_31 (by decide) (fun h31 => ?_) (fun h31 => ?_)
  · exact absurd rfl h31
  refine gg_iconst K (v := 1) dL_areRowsSo_34 (by decide) ?_
  refine gg_goto K (tgt := 39) dL_areRowsSo_35 (by decide) ?_
  refine gg_istore K dL_areRowsSo_39 (by decide) ?_
  refine gg_iconst K (v := 0) dL_areRowsSo_41 (by decide) ?_
  refine gg_istore K dL_areRowsSo_42 (by decide) ?_
  refine gg_sub (L' := [(6, .int (nI 0)), (5, .int 1), (4, .int (nI (fb_sm (fun i => rLen (vX k kp T) (t' * 8 + y') T (kthD (rwF (vX k kp T) (t' * 8 + y')) i (60 * (T + 1)))) 0))), (3, .int (nI (fb_ct (rwF (vX k kp T) (t' * 8 + y')) (60 * (T + 1))))), (0, .ref X.1), (1, .int (nI t')), (2, .int (nI y'))]) ⟨rfl, rfl, rfl, rfl, rfl, rfl, rfl, trivial⟩ ?_
  refine gg_loop (fun i w L => ∃ (j : Nat), j + i = (fb_ct (rwF (vX k kp T) (t' * 8 + y')) (60 * (T + 1))) + 1 ∧ w = wX Z X k kp dr (nI T) ∧ j ≤ (fb_ct (rwF (vX k kp T) (t' * 8 + y')) (60 * (T + 1))) ∧ L = [(6, .int (nI j)), (5, .int 1), (4, .int (nI (fb_sm (fun i => rLen (vX k kp T) (t' * 8 + y') T (kthD (rwF (vX k kp T) (t' * 8 + y')) i (60 * (T + 1)))) j))), (3, .int (nI (fb_ct (rwF (vX k kp T) (t' * 8 + y')) (60 * (T + 1))))), (0, .ref X.1), (1, .int (nI t')), (2, .int (nI y'))]) (fun w L h => ?_) (fun i w L h ih => ?_) ((fb_ct (rwF (vX k kp T) (t' * 8 + y')) (60 * (T + 1))) + 1) _ _ ⟨0, by omega, rfl, by omega, rfl⟩
  · obtain ⟨j, hj, -, h2, -⟩ := h
    omega
  obtain ⟨j, hj, rfl, hj1, rfl⟩ := h
  refine gg_iload K dL_areRowsSo_44 rfl ?_
  refine gg_iload_n K (i := 3) dL_areRowsSo_46 rfl rfl ?_
  refine gg_icmp_ge K (tgt := 245) dL_areRowsSo_47 (by decide) (fun h47 => ?_) (fun h47 => ?_)
  · have hj2 := i_le h47
    have hj3 : j = (fb_ct (rwF (vX k kp T) (t' * 8 + y')) (60 * (T + 1))) := by omega
    rw [hj3, hrs]
    refine gg_iconst K (v := 0) dL_areRowsSo_245 (by decide) ?_
    refine gg_istore K dL_areRowsSo_246 (by decide) ?_
    refine gg_sub (L' := [(6, .int (nI 0)), (5, .int 1), (4, .int (nI ((fb_sm (fun r => fb_ct (stF (vX k kp T r (t' * 8 + y'))) 60) (T + 1)) - (fb_sm (fun r => fb_ct (stF (vX k kp T r (t' * 8 + y'))) 60) 0)))), (0, .ref X.1), (1, .int (nI t')), (2, .int (nI y'))]) ⟨rfl, rfl, rfl, rfl, rfl, rfl, trivial⟩ ?_
    refine gg_loop (fun i w L => ∃ (j : Nat), j + i = T + 2 ∧ w = wX Z X k kp dr (nI T) ∧ j ≤ T + 1 ∧ L = [(6, .int (nI j)), (5, .int 1), (4, .int (nI ((fb_sm (fun r => fb_ct (stF (vX k kp T r (t' * 8 + y'))) 60) (T + 1)) - (fb_sm (fun r => fb_ct (stF (vX k kp T r (t' * 8 + y'))) 60) j)))), (0, .ref X.1), (1, .int (nI t')), (2, .int (nI y'))]) (fun w L h => ?_) (fun i w L h ih2 => ?_) (T + 2) _ _ ⟨0, by omega, rfl, by omega, rfl⟩
    · obtain ⟨j, hj, -, h2, -⟩ := h
      omega
    obtain ⟨j, hj, rfl, hj1, rfl⟩ := h
    refine gg_iload K dL_areRowsSo_248 rfl ?_
    refine gg_aload_n K (i := 0) dL_areRowsSo_250 rfl rfl ?_
    refine gg_callRX K k_L_X0_today x_today dL_areRowsSo_251 rfl rfl rfl rfl ⟨rfl, rfl⟩ ?_
    refine gg_icmp_gt K (tgt := 276) dL_areRowsSo_254 (by decide) (fun h254 => ?_) (fun h254 => ?_)
    · have hj2 := i_lt h254
      have hj3 : j = T + 1 := by omega
      subst hj3
      refine gg_iload K dL_areRowsSo_276 rfl ?_
      refine gg_if_eq K (tgt := 290) dL_areRowsSo_278 (by decide) (fun h278 => ?_) (fun h278 => ?_)
      · exact absurd h278 (by decide)
      refine gg_iload K dL_areRowsSo_281 rfl ?_
      refine gg_if_ne K (tgt := 290) dL_areRowsSo_283 (by decide) (fun h283 => ?_) (fun h283 => ?_)
      · exact absurd (by rw [Nat.sub_self]; rfl) h283
      refine gg_iconst K (v := 1) dL_areRowsSo_286 (by decide) ?_
      refine gg_goto K (tgt := 291) dL_areRowsSo_287 (by decide) ?_
      exact gg_x (gg_zret K hr dL_areRowsSo_291 (Or.inr rfl) (Nat.le_of_ble_eq_true rfl) (Nat.le_of_ble_eq_true rfl) ⟨k, kp, dr, rfl, rfl, ok, rfl⟩)
    have hj2 := i_nlt h254
    refine gg_iload K dL_areRowsSo_257 rfl ?_
    refine gg_aload_n K (i := 0) dL_areRowsSo_259 rfl rfl ?_
    refine gg_iload_n K (i := 1) dL_areRowsSo_260 rfl rfl ?_
    refine gg_iload_n K (i := 2) dL_areRowsSo_261 rfl rfl ?_
    refine gg_iload K dL_areRowsSo_262 rfl ?_
    refine gg_callRX K k_L_X0_runs (n_runs ok t' y' a1 b1 rfl rfl j hj2 rfl) dL_areRowsSo_264 rfl rfl rfl rfl ⟨rfl, rfl⟩ ?_
    have hp : (fb_sm (fun r => fb_ct (stF (vX k kp T r (t' * 8 + y'))) 60) j) + fb_ct (stF (vX k kp T j (t' * 8 + y'))) 60 ≤ (fb_sm (fun r => fb_ct (stF (vX k kp T r (t' * 8 + y'))) 60) (T + 1)) := fb_sm_part (fun r => fb_ct (stF (vX k kp T r (t' * 8 + y'))) 60) (i := j) (n := T + 1) (by omega)
    have hsc : (fb_sm (fun r => fb_ct (stF (vX k kp T r (t' * 8 + y'))) 60) (j + 1)) = (fb_sm (fun r => fb_ct (stF (vX k kp T r (t' * 8 + y'))) 60) j) + fb_ct (stF (vX k kp T j (t' * 8 + y'))) 60 := rfl
    refine gg_isub K dL_areRowsSo_267 ?_
    refine gg_top (show nI ((fb_sm (fun r => fb_ct (stF (vX k kp T r (t' * 8 + y'))) 60) (T + 1)) - (fb_sm (fun r => fb_ct (stF (vX k kp T r (t' * 8 + y'))) 60) j)) - nI (fb_ct (stF (vX k kp T j (t' * 8 + y'))) 60) = nI ((fb_sm (fun r => fb_ct (stF (vX k kp T r (t' * 8 + y'))) 60) (T + 1)) - (fb_sm (fun r => fb_ct (stF (vX k kp T r (t' * 8 + y'))) 60) (j + 1))) by rw [pk_sub (by omega)]; exact congrArg nI (by omega)) ?_
    refine gg_istore K dL_areRowsSo_268 (by decide) ?_
    refine gg_iinc K (v := nI (j + 1)) dL_areRowsSo_270 rfl (nI_inc (j)) (by decide) ?_
    refine gg_goto K (tgt := 248) dL_areRowsSo_273 (by decide) ?_
    refine gg_sub (L' := [(6, .int (nI (j + 1))), (5, .int 1), (4, .int (nI ((fb_sm (fun r => fb_ct (stF (vX k kp T r (t' * 8 + y'))) 60) (T + 1)) - (fb_sm (fun r => fb_ct (stF (vX k kp T r (t' * 8 + y'))) 60) ((j + 1)))))), (0, .ref X.1), (1, .int (nI t')), (2, .int (nI y'))]) ⟨rfl, rfl, rfl, rfl, rfl, rfl, trivial⟩ ?_
    exact ih2 _ _ ⟨j + 1, by omega, rfl, by omega, rfl⟩
  have hj2 := i_nle h47
  refine gg_iload K dL_areRowsSo_50 rfl ?_
  refine gg_if_eq K (tgt := 245) dL_areRowsSo_52 (by decide) (fun h52 => ?_) (fun h52 => ?_)
  · exact absurd h52 (by decide)
  refine gg_aload_n K (i := 0) dL_areRowsSo_55 rfl rfl ?_
  refine gg_iload_n K (i := 1) dL_areRowsSo_56 rfl rfl ?_
  refine gg_iload_n K (i := 2) dL_areRowsSo_57 rfl rfl ?_
  refine gg_iload K dL_areRowsSo_58 rfl ?_
  refine gg_callRX K k_L_X0_rowRun (n_rowRun ok t' y' a1 b1 rfl rfl j hj2 rfl) dL_areRowsSo_60 rfl rfl rfl rfl ⟨rfl, rfl⟩ ?_
  refine gg_istore K dL_areRowsSo_63 (by decide) ?_
  refine gg_aload_n K (i := 0) dL_areRowsSo_65 rfl rfl ?_
  refine gg_iload_n K (i := 1) dL_areRowsSo_66 rfl rfl ?_
  refine gg_iload_n K (i := 2) dL_areRowsSo_67 rfl rfl ?_
  refine gg_iload K dL_areRowsSo_68 rfl ?_
  refine gg_callRX K k_L_X0_rowFrom (n_rowFrom ok t' y' a1 b1 rfl rfl j hj2 rfl) dL_areRowsSo_70 rfl rfl rfl rfl ⟨rfl, rfl⟩ ?_
  refine gg_istore K dL_areRowsSo_73 (by decide) ?_
  refine gg_aload_n K (i := 0) dL_areRowsSo_75 rfl rfl ?_
  refine gg_iload_n K (i := 1) dL_areRowsSo_76 rfl rfl ?_
  refine gg_iload_n K (i := 2) dL_areRowsSo_77 rfl rfl ?_
  refine gg_iload K dL_areRowsSo_78 rfl ?_
  refine gg_callRX K k_L_X0_rowTo (n_rowTo ok t' y' a1 b1 rfl rfl j hj2 rfl) dL_areRowsSo_80 rfl rfl rfl rfl ⟨rfl, rfl⟩ ?_
  have hps := rows_le (vX k kp T) (t' * 8 + y') T (j + 1) hT9
  have hps1 : (fb_sm (fun i => rLen (vX k kp T) (t' * 8 + y') T (kthD (rwF (vX k kp T) (t' * 8 + y')) i (60 * (T + 1)))) (j + 1)) = (fb_sm (fun i => rLen (vX k kp T) (t' * 8 + y') T (kthD (rwF (vX k kp T) (t' * 8 + y')) i (60 * (T + 1)))) j) + rLen (vX k kp T) (t' * 8 + y') T (kthD (rwF (vX k kp T) (t' * 8 + y')) j (60 * (T + 1))) := rfl
  obtain ⟨g1, g2, g3⟩ := kthD_at hj2
  generalize hz : kthD (rwF (vX k kp T) (t' * 8 + y')) j (60 * (T + 1)) = z at g1 g2 g3 hps1
  obtain ⟨r, hrz⟩ : ∃ r, r = z / 60 := ⟨_, rfl⟩
  obtain ⟨d, hdz⟩ : ∃ d, d = z % 60 := ⟨_, rfl⟩
  have hlen : rLen (vX k kp T) (t' * 8 + y') T z = rEnd (vX k kp T) (t' * 8 + y') T r d - r := by rw [hrz, hdz]; rfl
  have hrow : rowF (vX k kp T) (t' * 8 + y') r d = true := by rw [hrz, hdz]; exact g2
  rw [← hrz, ← hdz]
  have hr1 : r ≤ T := by omega
  have hd1 : d < 60 := by omega
  obtain ⟨hst, hbe⟩ := rw_iff.mp hrow
  have hF : ∀ a, a ≤ T → okF (vX k kp T a (t' * 8 + y')) := fun a ha => okF_of hv ha (by omega)
  have hgt := rEnd_gt (vX k kp T) (t' * 8 + y') T r d
  have hle := rEnd_le (V := vX k kp T) (l := (t' * 8 + y')) (d := d) hr1
  have hsp := (reN_spec (fun a => smF (vX k kp T r (t' * 8 + y')) (vX k kp T a (t' * 8 + y')) d) (T - r) (r + 1)).2.2.2
  rw [show reN (fun a => smF (vX k kp T r (t' * 8 + y')) (vX k kp T a (t' * 8 + y')) d) (T - r) (r + 1) = rEnd (vX k kp T) (t' * 8 + y') T r d from rfl] at hsp
  have hin := fun a => rEnd_in (V := vX k kp T) (l := (t' * 8 + y')) (T := T) (r := r) (d := d) (a := a)
  generalize rEnd (vX k kp T) (t' * 8 + y') T r d = en at hlen hgt hle hsp hin
  have ham : ∀ a, a ≤ T → (amongR (vX k kp T a (t' * 8 + y')) (runN (vX k kp T r (t' * 8 + y')) d) (fb_ct (stF (vX k kp T a (t' * 8 + y'))) 60) ↔ smF (vX k kp T r (t' * 8 + y')) (vX k kp T a (t' * 8 + y')) d = true) := fun a ha => among_iff (hF a ha) (hF r hr1) hd1 hst
  have hself : smF (vX k kp T r (t' * 8 + y')) (vX k kp T r (t' * 8 + y')) d = true := (smF_self _ _).mpr hst
  generalize reF (fun a => smF (vX k kp T r (t' * 8 + y')) (vX k kp T a (t' * 8 + y')) d) (T - r) (r + 1) = to9 at hsp
  have hto : (to9 = -1 ∧ en = T + 1 ∧ smF (vX k kp T r (t' * 8 + y')) (vX k kp T T (t' * 8 + y')) d = true) ∨ (to9 = nI en ∧ en ≤ T ∧ smF (vX k kp T r (t' * 8 + y')) (vX k kp T en (t' * 8 + y')) d = false) := by
    rcases hsp with ⟨z1, z2⟩ | ⟨z1, z2, z3⟩
    · refine Or.inl ⟨z1, by omega, ?_⟩
      by_cases hrT : r = T
      · rw [hrT] at hself ⊢
        exact hself
      · exact hin T (by omega) (by omega)
    · exact Or.inr ⟨z1, by omega, z3⟩
  clear hsp
  refine gg_istore K dL_areRowsSo_83 (by decide) ?_
  refine gg_sub (L' := [(9, .int to9), (8, .int (nI r)), (7, .int (runN (vX k kp T r (t' * 8 + y')) d)), (6, .int (nI j)), (5, .int 1), (4, .int (nI (fb_sm (fun i => rLen (vX k kp T) (t' * 8 + y') T (kthD (rwF (vX k kp T) (t' * 8 + y')) i (60 * (T + 1)))) j))), (3, .int (nI (fb_ct (rwF (vX k kp T) (t' * 8 + y')) (60 * (T + 1))))), (0, .ref X.1), (1, .int (nI t')), (2, .int (nI y'))]) ⟨rfl, rfl, rfl, rfl, rfl, rfl, rfl, rfl, rfl, rfl, trivial⟩ ?_
  refine gg_cut 101 [(9, .int to9), (8, .int (nI r)), (7, .int (runN (vX k kp T r (t' * 8 + y')) d)), (6, .int (nI j)), (5, .int 1), (4, .int (nI (fb_sm (fun i => rLen (vX k kp T) (t' * 8 + y') T (kthD (rwF (vX k kp T) (t' * 8 + y')) i (60 * (T + 1)))) j))), (3, .int (nI (fb_ct (rwF (vX k kp T) (t' * 8 + y')) (60 * (T + 1))))), (0, .ref X.1), (1, .int (nI t')), (2, .int (nI y'))] [.int (nI en)] ?_ (fun k101 => ?_)
  rotate_left
  · rcases hto with ⟨z1, z2, -⟩ | ⟨z1, z2, -⟩
    · refine gg_iload K dL_areRowsSo_85 rfl ?_
      refine gg_if_ge K (tgt := 99) dL_areRowsSo_87 (by decide) (fun h87 => ?_) (fun h87 => ?_)
      · rw [z1] at h87; exact absurd h87 neg_lt0
      refine gg_aload_n K (i := 0) dL_areRowsSo_90 rfl rfl ?_
      refine gg_callRX K k_L_X0_today x_today dL_areRowsSo_91 rfl rfl rfl rfl ⟨rfl, rfl⟩ ?_
      refine gg_iconst K (v := 1) dL_areRowsSo_94 (by decide) ?_
      refine gg_iadd K dL_areRowsSo_95 ?_
      refine gg_top (show nI T + 1 = nI en by rw [z2]; exact nI_1 T) ?_
      refine gg_goto K (tgt := 101) dL_areRowsSo_96 (by decide) ?_
      exact k101
    · refine gg_iload K dL_areRowsSo_85 rfl ?_
      refine gg_if_ge K (tgt := 99) dL_areRowsSo_87 (by decide) (fun h87 => ?_) (fun h87 => ?_)
      rotate_left
      · rw [z1] at h87; exact absurd (nI_pos' (by omega)) h87
      refine gg_iload K dL_areRowsSo_99 rfl ?_
      refine gg_top z1 ?_
      exact k101
  refine gg_istore K dL_areRowsSo_101 (by decide) ?_
  refine gg_iload K dL_areRowsSo_103 rfl ?_
  refine gg_iload K dL_areRowsSo_105 rfl ?_
  refine gg_iload K dL_areRowsSo_107 rfl ?_
  refine gg_isub K dL_areRowsSo_109 ?_
  refine gg_top (pk_sub (Nat.le_of_lt hgt)) ?_
  refine gg_iadd K dL_areRowsSo_110 ?_
  refine gg_top (show nI (fb_sm (fun i => rLen (vX k kp T) (t' * 8 + y') T (kthD (rwF (vX k kp T) (t' * 8 + y')) i (60 * (T + 1)))) j) + nI (en - r) = nI (fb_sm (fun i => rLen (vX k kp T) (t' * 8 + y') T (kthD (rwF (vX k kp T) (t' * 8 + y')) i (60 * (T + 1)))) (j + 1)) by rw [nI_add, hps1, hlen]) ?_
  refine gg_istore K dL_areRowsSo_111 (by decide) ?_
  obtain ⟨ps, hpse⟩ : ∃ ps, ps = (fb_sm (fun i => rLen (vX k kp T) (t' * 8 + y') T (kthD (rwF (vX k kp T) (t' * 8 + y')) i (60 * (T + 1)))) (j + 1)) := ⟨_, rfl⟩
  rw [← hpse]
  refine gg_sub (L' := [(10, .int (nI en)), (9, .int to9), (8, .int (nI r)), (7, .int (runN (vX k kp T r (t' * 8 + y')) d)), (6, .int (nI j)), (5, .int 1), (4, .int (nI ps)), (3, .int (nI (fb_ct (rwF (vX k kp T) (t' * 8 + y')) (60 * (T + 1))))), (0, .ref X.1), (1, .int (nI t')), (2, .int (nI y'))]) ⟨rfl, rfl, rfl, rfl, rfl, rfl, rfl, rfl, rfl, rfl, rfl, trivial⟩ ?_
  refine gg_iload K dL_areRowsSo_113 rfl ?_
  refine gg_if_lt K (tgt := 236) dL_areRowsSo_115 (by decide) (fun h115 => ?_) (fun h115 => ?_)
  · exact absurd h115 (nI_pos (by omega))
  refine gg_iload K dL_areRowsSo_118 rfl ?_
  refine gg_iload K dL_areRowsSo_120 rfl ?_
  refine gg_icmp_ge K (tgt := 236) dL_areRowsSo_122 (by decide) (fun h122 => ?_) (fun h122 => ?_)
  · exact absurd h122 (nI_ge hgt (by omega))
  refine gg_iload K dL_areRowsSo_125 rfl ?_
  refine gg_aload_n K (i := 0) dL_areRowsSo_127 rfl rfl ?_
  refine gg_callRX K k_L_X0_today x_today dL_areRowsSo_128 rfl rfl rfl rfl ⟨rfl, rfl⟩ ?_
  refine gg_iconst K (v := 1) dL_areRowsSo_131 (by decide) ?_
  refine gg_iadd K dL_areRowsSo_132 ?_
  refine gg_top (nI_1 T) ?_
  refine gg_icmp_gt K (tgt := 236) dL_areRowsSo_133 (by decide) (fun h133 => ?_) (fun h133 => ?_)
  · exact absurd h133 (nI_nlt hle (by omega))
  refine gg_cut 165 [(10, .int (nI en)), (9, .int to9), (8, .int (nI r)), (7, .int (runN (vX k kp T r (t' * 8 + y')) d)), (6, .int (nI j)), (5, .int 1), (4, .int (nI ps)), (3, .int (nI (fb_ct (rwF (vX k kp T) (t' * 8 + y')) (60 * (T + 1))))), (0, .ref X.1), (1, .int (nI t')), (2, .int (nI y'))] [] ?_ (fun k165 => ?_)
  rotate_left
  · rcases hto with ⟨z1, z2, z3⟩ | ⟨z1, z2, z3⟩
    · refine gg_iload K dL_areRowsSo_136 rfl ?_
      refine gg_if_ge K (tgt := 145) dL_areRowsSo_138 (by decide) (fun h138 => ?_) (fun h138 => ?_)
      · rw [z1] at h138; exact absurd h138 neg_lt0
      refine gg_iconst K (v := 1) dL_areRowsSo_141 (by decide) ?_
      refine gg_goto K (tgt := 146) dL_areRowsSo_142 (by decide) ?_
      refine gg_aload_n K (i := 0) dL_areRowsSo_146 rfl rfl ?_
      refine gg_iload_n K (i := 1) dL_areRowsSo_147 rfl rfl ?_
      refine gg_iload_n K (i := 2) dL_areRowsSo_148 rfl rfl ?_
      refine gg_aload_n K (i := 0) dL_areRowsSo_149 rfl rfl ?_
      refine gg_callRX K k_L_X0_today x_today dL_areRowsSo_150 rfl rfl rfl rfl ⟨rfl, rfl⟩ ?_
      refine gg_iload K dL_areRowsSo_153 rfl ?_
      refine gg_iload K dL_areRowsSo_155 rfl ?_
      refine gg_iload K dL_areRowsSo_157 rfl ?_
      refine gg_1S K k_L_L_hasRun (c_hasRun ok t' y' a1 b1 rfl rfl T (Nat.le_refl T) rfl) dL_areRowsSo_159 rfl rfl rfl rfl ⟨rfl, rfl⟩ ?_
      refine gg_icmp_ne K (tgt := 236) dL_areRowsSo_162 (by decide) (fun h162 => ?_) (fun h162 => ?_)
      · refine absurd ?_ h162
        rw [bP_t (show nI r ≤ nI T ∧ nI T < nI en ∧ _ from ⟨nI_le hr1 (by omega), nI_lt (by omega) (by omega), (ham T (Nat.le_refl T)).mpr z3⟩)]
        rfl
      exact k165
    · refine gg_iload K dL_areRowsSo_136 rfl ?_
      refine gg_if_ge K (tgt := 145) dL_areRowsSo_138 (by decide) (fun h138 => ?_) (fun h138 => ?_)
      rotate_left
      · rw [z1] at h138; exact absurd (nI_pos' (by omega)) h138
      refine gg_iconst K (v := 0) dL_areRowsSo_145 (by decide) ?_
      refine gg_aload_n K (i := 0) dL_areRowsSo_146 rfl rfl ?_
      refine gg_iload_n K (i := 1) dL_areRowsSo_147 rfl rfl ?_
      refine gg_iload_n K (i := 2) dL_areRowsSo_148 rfl rfl ?_
      refine gg_aload_n K (i := 0) dL_areRowsSo_149 rfl rfl ?_
      refine gg_callRX K k_L_X0_today x_today dL_areRowsSo_150 rfl rfl rfl rfl ⟨rfl, rfl⟩ ?_
      refine gg_iload K dL_areRowsSo_153 rfl ?_
      refine gg_iload K dL_areRowsSo_155 rfl ?_
      refine gg_iload K dL_areRowsSo_157 rfl ?_
      refine gg_1S K k_L_L_hasRun (c_hasRun ok t' y' a1 b1 rfl rfl T (Nat.le_refl T) rfl) dL_areRowsSo_159 rfl rfl rfl rfl ⟨rfl, rfl⟩ ?_
      refine gg_icmp_ne K (tgt := 236) dL_areRowsSo_162 (by decide) (fun h162 => ?_) (fun h162 => ?_)
      · refine absurd ?_ h162
        rw [bP_f (fun z => absurd z.2.1 (nI_nlt z2 (by omega)))]
        rfl
      exact k165
  refine gg_aload_n K (i := 0) dL_areRowsSo_165 rfl rfl ?_
  refine gg_iload_n K (i := 1) dL_areRowsSo_166 rfl rfl ?_
  refine gg_iload_n K (i := 2) dL_areRowsSo_167 rfl rfl ?_
  refine gg_iload K dL_areRowsSo_168 rfl ?_
  refine gg_iload K dL_areRowsSo_170 rfl ?_
  refine gg_iload K dL_areRowsSo_172 rfl ?_
  refine gg_iload K dL_areRowsSo_174 rfl ?_
  refine gg_1S K k_L_L_hasRun (c_hasRun ok t' y' a1 b1 rfl rfl r hr1 rfl) dL_areRowsSo_176 rfl rfl rfl rfl ⟨rfl, rfl⟩ ?_
  refine gg_b_eq K (tgt := 236) dL_areRowsSo_179 (by decide) (fun h179 => ?_) (fun h179 => ?_)
  · exact absurd ⟨nI_le (Nat.le_refl r) (by omega), nI_lt hgt (by omega), (ham r hr1).mpr hself⟩ (bP_nf h179)
  refine gg_cut 208 [(10, .int (nI en)), (9, .int to9), (8, .int (nI r)), (7, .int (runN (vX k kp T r (t' * 8 + y')) d)), (6, .int (nI j)), (5, .int 1), (4, .int (nI ps)), (3, .int (nI (fb_ct (rwF (vX k kp T) (t' * 8 + y')) (60 * (T + 1))))), (0, .ref X.1), (1, .int (nI t')), (2, .int (nI y'))] [] ?_ (fun k208 => ?_)
  rotate_left
  · refine gg_iload K dL_areRowsSo_182 rfl ?_
    refine gg_if_le K (tgt := 208) dL_areRowsSo_184 (by decide) (fun h184 => ?_) (fun h184 => ?_)
    · exact k208
    have hr0 : 0 < r := Nat.pos_of_ne_zero (fun z => h184 (by rw [z]; decide))
    refine gg_aload_n K (i := 0) dL_areRowsSo_187 rfl rfl ?_
    refine gg_iload_n K (i := 1) dL_areRowsSo_188 rfl rfl ?_
    refine gg_iload_n K (i := 2) dL_areRowsSo_189 rfl rfl ?_
    refine gg_iload K dL_areRowsSo_190 rfl ?_
    refine gg_iconst K (v := 1) dL_areRowsSo_192 (by decide) ?_
    refine gg_isub K dL_areRowsSo_193 ?_
    refine gg_iload K dL_areRowsSo_194 rfl ?_
    refine gg_iload K dL_areRowsSo_196 rfl ?_
    refine gg_iconst K (v := 1) dL_areRowsSo_198 (by decide) ?_
    refine gg_isub K dL_areRowsSo_199 ?_
    refine gg_iload K dL_areRowsSo_200 rfl ?_
    refine gg_1S K k_L_L_hasRun (c_hasRun ok t' y' a1 b1 rfl rfl (r - 1) (by omega) (nI_sub1 hr0)) dL_areRowsSo_202 rfl rfl rfl rfl ⟨rfl, rfl⟩ ?_
    refine gg_b_ne K (tgt := 236) dL_areRowsSo_205 (by decide) (fun h205 => ?_) (fun h205 => ?_)
    · have w := (ham (r - 1) (by omega)).mp (bP_iff.mp h205).2.2
      rcases hbe with z | z
      · omega
      · rw [z] at w; cases w
    exact k208
  refine gg_cut 232 [(10, .int (nI en)), (9, .int to9), (8, .int (nI r)), (7, .int (runN (vX k kp T r (t' * 8 + y')) d)), (6, .int (nI j)), (5, .int 1), (4, .int (nI ps)), (3, .int (nI (fb_ct (rwF (vX k kp T) (t' * 8 + y')) (60 * (T + 1))))), (0, .ref X.1), (1, .int (nI t')), (2, .int (nI y'))] [] ?_ (fun k232 => ?_)
  rotate_left
  · rcases hto with ⟨z1, z2, z3⟩ | ⟨z1, z2, z3⟩
    · refine gg_iload K dL_areRowsSo_208 rfl ?_
      refine gg_if_lt K (tgt := 232) dL_areRowsSo_210 (by decide) (fun h210 => ?_) (fun h210 => ?_)
      · exact k232
      · rw [z1] at h210; exact absurd (show (-1 : Int32) < 0 by decide) h210
    · refine gg_iload K dL_areRowsSo_208 rfl ?_
      refine gg_if_lt K (tgt := 232) dL_areRowsSo_210 (by decide) (fun h210 => ?_) (fun h210 => ?_)
      · rw [z1] at h210; exact absurd h210 (nI_pos (by omega))
      refine gg_aload_n K (i := 0) dL_areRowsSo_213 rfl rfl ?_
      refine gg_iload_n K (i := 1) dL_areRowsSo_214 rfl rfl ?_
      refine gg_iload_n K (i := 2) dL_areRowsSo_215 rfl rfl ?_
      refine gg_iload K dL_areRowsSo_216 rfl ?_
      refine gg_iload K dL_areRowsSo_218 rfl ?_
      refine gg_iload K dL_areRowsSo_220 rfl ?_
      refine gg_iload K dL_areRowsSo_222 rfl ?_
      refine gg_iconst K (v := 1) dL_areRowsSo_224 (by decide) ?_
      refine gg_iadd K dL_areRowsSo_225 ?_
      refine gg_1S K k_L_L_hasRun (c_hasRun ok t' y' a1 b1 rfl rfl en z2 z1) dL_areRowsSo_226 rfl rfl rfl rfl ⟨rfl, rfl⟩ ?_
      refine gg_b_ne K (tgt := 236) dL_areRowsSo_229 (by decide) (fun h229 => ?_) (fun h229 => ?_)
      · have w := (ham en z2).mp (bP_iff.mp h229).2.2
        rw [z3] at w; cases w
      exact k232
  refine gg_iconst K (v := 1) dL_areRowsSo_232 (by decide) ?_
  refine gg_goto K (tgt := 237) dL_areRowsSo_233 (by decide) ?_
  refine gg_istore K dL_areRowsSo_237 (by decide) ?_
  refine gg_iinc K (v := nI (j + 1)) dL_areRowsSo_239 rfl (nI_inc (j)) (by decide) ?_
  refine gg_goto K (tgt := 44) dL_areRowsSo_242 (by decide) ?_
  refine gg_sub (L' := [(6, .int (nI (j + 1))), (5, .int 1), (4, .int (nI (fb_sm (fun i => rLen (vX k kp T) (t' * 8 + y') T (kthD (rwF (vX k kp T) (t' * 8 + y')) i (60 * (T + 1)))) ((j + 1))))), (3, .int (nI (fb_ct (rwF (vX k kp T) (t' * 8 + y')) (60 * (T + 1))))), (0, .ref X.1), (1, .int (nI t')), (2, .int (nI y'))]) ⟨rfl, rfl, by rw [hpse]; rfl, rfl, rfl, rfl, rfl, trivial⟩ ?_
  exact ih _ _ ⟨j + 1, by omega, rfl, by omega, rfl⟩
