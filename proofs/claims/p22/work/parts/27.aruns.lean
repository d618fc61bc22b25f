/-! the law's questions of one object: averages and rows that may throw; areRunsSo -/
/-- the same table, however it is held -/
def sameW (Z : ZT) (X : XT) (V : VT) (T : Nat) (v : Value) : Option Value → va_W → Prop := fun ret u => ∃ k' kp' dr' : Nat → Int32, ret = some v ∧ u = wX Z X k' kp' dr' (nI T) ∧ okX kp' T ∧ vX k' kp' T = V
noncomputable def avO (f : Nat → Int32) : UInt32 := if ctV f 60 = 0 then 3212836864 else avF f (ctV f 60)
set_option maxRecDepth 100000 in
theorem c_average {l : Launch} {Z : ZT} {X : XT} {k kp dr : Nat → Int32} {T : Nat} (hl0 : l.stackTraces = false) (ok : okX kp T) (hv : valOk (vX k kp T) T) (y' r : Nat) {y q : Int32} (b1 : y' < 8) (b2 : y = nI y') (q1 : r ≤ T) (q2 : q = nI r) : mX l Z.1 (ty3 Z) yL_average (Cond.codeWith yL_average cL_average 4 (some .float) [(0, 6, 7, 34)]) (rmk 10 250 8 48) (wX Z X k kp dr (nI T)) [.ref X.1, .int y, .int q] (sameW Z X (vX k kp T) T (.float (avO (vX k kp T r y')))) (fun _ _ => False) := by
  have hT9 := ok.1
  refine mH_intro (own := RL) [(0, .ref X.1), (1, .int y), (2, .int q)] (by decide +kernel) rfl rfl rfl rfl ?_
  intro p e s m args below meth c A K hr T9 htab
  subst b2 q2
  have p1 : inR (nI y') 8 ∧ inR (nI r) 60 := ⟨inR_of (b := 8) b1, inR_of (b := 60) (by omega)⟩
  have p2 : nI r ≤ nI T := nI_le q1 (by omega)
  have n1 : nN (nI r) = r := nI_clamp (by omega)
  have n2 : nN (nI y') = y' := nI_clamp (by omega)
  refine gg_aload_n K (i := 0) dL_average_0 rfl rfl ?_
  refine gg_iload_n K (i := 1) dL_average_1 rfl rfl ?_
  refine gg_iload_n K (i := 2) dL_average_2 rfl rfl ?_
  refine gg_callJX (wr := []) [0, 1, 2, 3] [] rfl rfl rfl K T9 k_L_X0_average (x_average hl0 ok hv) 0 (ci := 0) (N := 4) (T := TX0) rfl rfl dL_average_3 rfl rfl rfl rfl (fun E u h => ?_) (fun v u h => ?_)
  · obtain ⟨c9, k', kp', dr', T', hm, rfl, ok', e1, e2, hS⟩ := h
    have e2 := e2.symm
    subst e2
    simp only [cABS, List.mem_cons, List.not_mem_nil, or_false, Prod.mk.injEq] at hm
    rcases hS with ⟨z, -⟩ | ⟨-, z, -⟩ | ⟨-, -, z, hc⟩ | ⟨-, -, -, hc, -⟩
    · exact absurd p1 z
    · exact absurd p2 z
    · rcases hm with ⟨rfl, rfl⟩ | ⟨rfl, rfl⟩ | ⟨rfl, rfl⟩
      · exact absurd hc (by decide)
      · exact absurd hc (by decide)
      · refine gx_catch K T9 htab [] ⟨0, 6, 7, 34⟩ [] rfl (fun _ h => absurd h List.not_mem_nil) (by decide) (by decide) wd_31 (List.mem_of_getElem? (i := 1) rfl) (fun q9 => ?_)
        refine gg_astore_n K (i := 3) dL_average_7 rfl (by decide) ?_
        refine gg_ldcf K wd_194 dL_average_8 ?_
        rw [n1, n2] at z
        exact gg_x (gg_fret K hr dL_average_10 (Nat.le_of_ble_eq_true rfl) (Nat.le_of_ble_eq_true rfl) ⟨k', kp', dr', by rw [show avO (vX k kp T r y') = _ from if_pos z], rfl, ok', e1⟩)
    · rcases hm with ⟨rfl, rfl⟩ | ⟨rfl, rfl⟩ | ⟨rfl, rfl⟩ <;> exact absurd hc (by decide)
  obtain ⟨r9, k', kp', dr', T', rfl, rfl, ok', e1, e2, hS⟩ := h
  have e2 := e2.symm
  subst e2
  rcases hS with ⟨-, z⟩ | ⟨-, -, z⟩ | ⟨-, -, -, z⟩ | ⟨-, -, z, -, rfl⟩
  · exact absurd z (by decide)
  · exact absurd z (by decide)
  · exact absurd z (by decide)
  rw [n1, n2] at z ⊢
  exact gg_x (gg_fret K hr dL_average_6 (Nat.le_of_ble_eq_true rfl) (Nat.le_of_ble_eq_true rfl) ⟨k', kp', dr', by rw [show avO (vX k kp T r y') = _ from if_neg z], rfl, ok', e1⟩)
set_option maxRecDepth 100000 in
theorem c_noRow {l : Launch} {Z : ZT} {X : XT} {k kp dr : Nat → Int32} {T : Nat} (hl0 : l.stackTraces = false) (ok : okX kp T) (t' y' : Nat) {t y w9 : Int32} (a1 : t' < 2) (b1 : y' < 8) (a2 : t = nI t') (b2 : y = nI y') (hw : ∀ j, j < fb_ct (rwF (vX k kp T) (t' * 8 + y')) (60 * (T + 1)) → ¬ w9 = nI j) : mX l Z.1 (ty3 Z) yL_rowRun (Cond.codeWith yL_rowRun cL_rowRun 5 (some .int) [(0, 7, 8, 32)]) (rmk 10 250 8 48) (wX Z X k kp dr (nI T)) [.ref X.1, .int t, .int y, .int w9] (sameW Z X (vX k kp T) T (.int (-99999))) (fun _ _ => False) := by
  have hT9 := ok.1
  refine mH_intro (own := RL) [(0, .ref X.1), (1, .int t), (2, .int y), (3, .int w9)] (by decide +kernel) rfl rfl rfl rfl ?_
  intro p e s m args below meth c A K hr T9 htab
  subst a2 b2
  have p1 : inR (nI t') 2 ∧ inR (nI y') 8 := ⟨inR_of (b := 2) a1, inR_of (b := 8) b1⟩
  have n1 : nN (nI t') = t' := nI_clamp (by omega)
  have n2 : nN (nI y') = y' := nI_clamp (by omega)
  refine gg_aload_n K (i := 0) dL_rowRun_0 rfl rfl ?_
  refine gg_iload_n K (i := 1) dL_rowRun_1 rfl rfl ?_
  refine gg_iload_n K (i := 2) dL_rowRun_2 rfl rfl ?_
  refine gg_iload_n K (i := 3) dL_rowRun_3 rfl rfl ?_
  refine gg_callJX (wr := []) [0, 1, 2, 3] [] rfl rfl rfl K T9 k_L_X0_rowRun (x_rowRun hl0 ok) 0 (ci := 0) (N := 4) (T := TX0) rfl rfl dL_rowRun_4 rfl rfl rfl rfl (fun E u h => ?_) (fun v u h => ?_)
  · obtain ⟨c9, k', kp', dr', T', hm, rfl, ok', e1, e2, hS⟩ := h
    have e2 := e2.symm
    subst e2
    simp only [cAB, List.mem_cons, List.not_mem_nil, or_false, Prod.mk.injEq] at hm
    rcases hS with ⟨z, -⟩ | ⟨-, -, hc⟩ | ⟨-, -, hc, -⟩
    · exact absurd p1 z
    · rcases hm with ⟨rfl, rfl⟩ | ⟨rfl, rfl⟩
      · exact absurd hc (by decide)
      · refine gx_catch K T9 htab [] ⟨0, 7, 8, 32⟩ [] rfl (fun _ h => absurd h List.not_mem_nil) (by decide) (by decide) wd_30 (List.mem_of_getElem? (i := 2) rfl) (fun q9 => ?_)
        refine gg_astore K dL_rowRun_8 (by decide) ?_
        refine gg_ldc K wd_3 dL_rowRun_10 ?_
        exact gg_x (gg_iret K hr dL_rowRun_12 (Nat.le_of_ble_eq_true rfl) (Nat.le_of_ble_eq_true rfl) ⟨k', kp', dr', rfl, rfl, ok', e1⟩)
    · rcases hm with ⟨rfl, rfl⟩ | ⟨rfl, rfl⟩ <;> exact absurd hc (by decide)
  obtain ⟨r9, k', kp', dr', T', rfl, rfl, ok', e1, e2, hS⟩ := h
  rcases hS with ⟨-, z⟩ | ⟨-, -, z⟩ | ⟨-, ⟨j, j1, j2⟩, -, -⟩
  · exact absurd z (by decide)
  · exact absurd z (by decide)
  rw [n1, n2] at j1
  exact absurd j2 (hw j j1)
set_option maxRecDepth 100000 in
theorem c_runs {l : Launch} {Z : ZT} {X : XT} {k kp dr : Nat → Int32} {T : Nat} (hl0 : l.stackTraces = false) (ok : okX kp T) (hv : valOk (vX k kp T) T) (t' y' r : Nat) {t y q : Int32} (a1 : t' < 2) (b1 : y' < 8) (a2 : t = nI t') (b2 : y = nI y') (q1 : r ≤ T) (q2 : q = nI r) : mX l Z.1 (ty3 Z) yL_areRunsSo (.code yL_areRunsSo cL_areRunsSo 14 (some .boolean)) (rmk 11 300 8 48) (wX Z X k kp dr (nI T)) [.ref X.1, .int t, .int y, .int q] (sameW Z X (vX k kp T) T (.int 1)) (fun _ _ => False) := by
  have hT9 := ok.1
  have hF : okF (vX k kp T r (t' * 8 + y')) := okF_of hv q1 (by omega)
  have hfb := fb_ct_le (stF (vX k kp T r (t' * 8 + y'))) 60
  refine mX_intro (own := RL) [(0, .ref X.1), (1, .int t), (2, .int y), (3, .int q)] (by decide +kernel) rfl rfl rfl rfl ?_
  intro p e s m args below meth c A K hr T9 htab
  subst a2 b2 q2
  refine gg_iconst K (v := 0) dL_areRunsSo_0 (by decide) ?_
  refine gg_istore K dL_areRunsSo_1 (by decide) ?_
  refine gg_iconst K (v := (-1)) dL_areRunsSo_3 (by decide) ?_
  refine gg_istore K dL_areRunsSo_4 (by decide) ?_
  refine gg_iconst K (v := 0) dL_areRunsSo_6 (by decide) ?_
  refine gg_istore K dL_areRunsSo_7 (by decide) ?_
  refine gg_iconst K (v := 0) dL_areRunsSo_9 (by decide) ?_
  refine gg_istore K dL_areRunsSo_10 (by decide) ?_
  refine gg_iconst K (v := 0) dL_areRunsSo_12 (by decide) ?_
  refine gg_istore K dL_areRunsSo_13 (by decide) ?_
  refine gg_iconst K (v := 1) dL_areRunsSo_15 (by decide) ?_
  refine gg_istore K dL_areRunsSo_16 (by decide) ?_
  refine gg_iconst K (v := 0) dL_areRunsSo_18 (by decide) ?_
  refine gg_istore K dL_areRunsSo_19 (by decide) ?_
  refine gg_sub (L' := [(10, .int (nI 0)), (9, .int 1), (8, .int (smV (vX k kp T r (t' * 8 + y')) 0)), (7, .int (nI (ctV (vX k kp T r (t' * 8 + y')) 0))), (6, .int (nI (lgF (vX k kp T r (t' * 8 + y')) 0))), (5, .int ((-1))), (4, .int (nI 0)), (0, .ref X.1), (1, .int (nI t')), (2, .int (nI y')), (3, .int (nI r))]) ⟨rfl, rfl, rfl, rfl, rfl, rfl, rfl, rfl, rfl, rfl, rfl, trivial⟩ ?_
  refine gg_loop (fun i w L => ∃ (j en : Nat) (val : Int32), j + i = 62 ∧ w = wX Z X k kp dr (nI T) ∧ j ≤ fb_ct (stF (vX k kp T r (t' * 8 + y'))) 60 ∧ atR (vX k kp T r (t' * 8 + y')) j en ∧ (¬ j = 0 → val = (vX k kp T r (t' * 8 + y')) (en - 1)) ∧ L = [(10, .int (nI j)), (9, .int 1), (8, .int (smV (vX k kp T r (t' * 8 + y')) en)), (7, .int (nI (ctV (vX k kp T r (t' * 8 + y')) en))), (6, .int (nI (lgF (vX k kp T r (t' * 8 + y')) en))), (5, .int val), (4, .int (nI en)), (0, .ref X.1), (1, .int (nI t')), (2, .int (nI y')), (3, .int (nI r))]) (fun w L h => ?_) (fun i w L h ih => ?_) 62 _ _ ⟨0, 0, -1, by omega, rfl, by omega, atR_0 _, fun z => absurd rfl z, rfl⟩
  · obtain ⟨j, en, val, hj, -, h2, -⟩ := h
    omega
  obtain ⟨j, en, val, hj, rfl, hj1, hat, hval, rfl⟩ := h
  have hen := hat.1
  refine gg_iload K dL_areRunsSo_21 rfl ?_
  refine gg_aload_n K (i := 0) dL_areRunsSo_23 rfl rfl ?_
  refine gg_iload_n K (i := 1) dL_areRunsSo_24 rfl rfl ?_
  refine gg_iload_n K (i := 2) dL_areRunsSo_25 rfl rfl ?_
  refine gg_iload_n K (i := 3) dL_areRunsSo_26 rfl rfl ?_
  refine gg_callRX K k_L_X0_runs (n_runs ok t' y' a1 b1 rfl rfl r q1 rfl) dL_areRunsSo_27 rfl rfl rfl rfl ⟨rfl, rfl⟩ ?_
  refine gg_icmp_ge K (tgt := 240) dL_areRunsSo_30 (by decide) (fun h30 => ?_) (fun h30 => ?_)
  · have hj2 := i_le h30
    obtain ⟨g1, g2, g3, g4⟩ := atR_end hat hj2
    have hct : ctV (vX k kp T r (t' * 8 + y')) 60 ≤ 60 := fb_ct_le _ 60
    have hcte : ctV (vX k kp T r (t' * 8 + y')) en ≤ en := fb_ct_le _ en
    refine gg_iload K dL_areRunsSo_240 rfl ?_
    refine gg_if_eq K (tgt := 281) dL_areRunsSo_242 (by decide) (fun h242 => ?_) (fun h242 => ?_)
    · exact absurd h242 (by decide)
    refine gg_aload_n K (i := 0) dL_areRunsSo_245 rfl rfl ?_
    refine gg_iload_n K (i := 1) dL_areRunsSo_246 rfl rfl ?_
    refine gg_iload_n K (i := 2) dL_areRunsSo_247 rfl rfl ?_
    refine gg_iload_n K (i := 3) dL_areRunsSo_248 rfl rfl ?_
    refine gg_callRX K k_L_X0_longest (n_longest ok t' y' a1 b1 rfl rfl r q1 rfl) dL_areRunsSo_249 rfl rfl rfl rfl ⟨rfl, rfl⟩ ?_
    refine gg_iload K dL_areRunsSo_252 rfl ?_
    refine gg_icmp_ne K (tgt := 281) dL_areRunsSo_254 (by decide) (fun h254 => ?_) (fun h254 => ?_)
    · exact absurd (congrArg nI g2) h254
    refine gg_cut 277 [(10, .int (nI j)), (9, .int 1), (8, .int (smV (vX k kp T r (t' * 8 + y')) en)), (7, .int (nI (ctV (vX k kp T r (t' * 8 + y')) en))), (6, .int (nI (lgF (vX k kp T r (t' * 8 + y')) en))), (5, .int val), (4, .int (nI en)), (0, .ref X.1), (1, .int (nI t')), (2, .int (nI y')), (3, .int (nI r))] [] ?_ (fun k277 => ?_)
    rotate_left
    · refine gg_iload K dL_areRunsSo_257 rfl ?_
      refine gg_bipush K (v := 60) dL_areRunsSo_259 (by decide) ?_
      refine gg_icmp_eq K (tgt := 277) dL_areRunsSo_261 (by decide) (fun h261 => ?_) (fun h261 => ?_)
      · exact k277
      rcases g1 with z | z
      · exact absurd (by rw [z]; rfl) h261
      have hen2 : en < 60 := by
        apply Nat.not_le.mp
        intro z2
        exact h261 (by rw [show en = 60 by omega]; rfl)
      refine gg_aload_n K (i := 0) dL_areRunsSo_264 rfl rfl ?_
      refine gg_iload_n K (i := 1) dL_areRunsSo_265 rfl rfl ?_
      refine gg_iload_n K (i := 2) dL_areRunsSo_266 rfl rfl ?_
      refine gg_iload K dL_areRunsSo_267 rfl ?_
      refine gg_iload_n K (i := 3) dL_areRunsSo_269 rfl rfl ?_
      refine gg_callRX K k_L_X0_value (n_value ok t' y' a1 b1 rfl rfl en hen2 rfl r q1 rfl) dL_areRunsSo_270 rfl rfl rfl rfl ⟨rfl, rfl⟩ ?_
      refine gg_iconst K (v := (-1)) dL_areRunsSo_273 (by decide) ?_
      refine gg_icmp_ne K (tgt := 281) dL_areRunsSo_274 (by decide) (fun h274 => ?_) (fun h274 => ?_)
      · exact absurd z h274
      exact k277
    refine gg_iconst K (v := 1) dL_areRunsSo_277 (by decide) ?_
    refine gg_goto K (tgt := 282) dL_areRunsSo_278 (by decide) ?_
    refine gg_istore K dL_areRunsSo_282 (by decide) ?_
    refine gg_iload K dL_areRunsSo_284 rfl ?_
    refine gg_if_eq K (tgt := 344) dL_areRunsSo_286 (by decide) (fun h286 => ?_) (fun h286 => ?_)
    · exact absurd h286 (by decide)
    refine gg_iload_n K (i := 1) dL_areRunsSo_289 rfl rfl ?_
    refine gg_iconst K (v := 1) dL_areRunsSo_290 (by decide) ?_
    refine gg_icmp_ne K (tgt := 313) dL_areRunsSo_291 (by decide) (fun h291 => ?_) (fun h291 => ?_)
    · have ht0 : t' = 0 := by
        have : ¬ t' = 1 := fun z => h291 (by rw [z]; rfl)
        omega
      subst ht0
      refine gg_aload_n K (i := 0) dL_areRunsSo_313 rfl rfl ?_
      refine gg_iload_n K (i := 2) dL_areRunsSo_314 rfl rfl ?_
      refine gg_iload_n K (i := 3) dL_areRunsSo_315 rfl rfl ?_
      refine gg_callJH (wc := wX Z X k kp dr (nI T)) (wr := []) [0, 1, 2, 3] [] rfl rfl rfl K T9 k_L_L_average (c_average hl0 ok hv y' r b1 rfl q1 rfl) dL_areRunsSo_316 rfl rfl rfl rfl (fun v u h => ?_)
      obtain ⟨k', kp', dr', rfl, rfl, ok', e'⟩ := h
      have e0 : vX k kp T r y' = vX k kp T r (0 * 8 + y') := by rw [show 0 * 8 + y' = y' by omega]
      rw [e0]
      refine gg_iload K dL_areRunsSo_319 rfl ?_
      refine gg_if_ne K (tgt := 329) dL_areRunsSo_321 (by decide) (fun h321 => ?_) (fun h321 => ?_)
      · have hc : ¬ ctV (vX k kp T r (0 * 8 + y')) 60 = 0 := fun z => by
          have z2 : ctV (vX k kp T r (0 * 8 + y')) en = 0 := g3.symm.trans z
          exact h321 (by rw [z2]; rfl)
        have hnum := avF_num (f := vX k kp T r (0 * 8 + y')) hF (Nat.pos_of_ne_zero hc) hct
        refine gg_top_f (x := avO (vX k kp T r (0 * 8 + y'))) (show avO (vX k kp T r (0 * 8 + y')) = avF (vX k kp T r (0 * 8 + y')) (ctV (vX k kp T r (0 * 8 + y')) 60) from if_neg hc) ?_
        refine gg_iload K dL_areRunsSo_329 rfl ?_
        refine gg_i2f K dL_areRunsSo_331 ?_
        refine gg_iload K dL_areRunsSo_332 rfl ?_
        refine gg_i2f K dL_areRunsSo_334 ?_
        refine gg_fdiv K dL_areRunsSo_335 (vf_n32_of (by rw [← g3, ← g4]; exact hnum)) ?_
        refine gg_fcmp K dL_areRunsSo_336 ?_
        refine gg_if_ne K (tgt := 344) dL_areRunsSo_337 (by decide) (fun h337 => ?_) (fun h337 => ?_)
        · refine absurd ?_ h337
          rw [← g3, ← g4]
          rw [show FP.fcmp (avF (vX k kp T r (0 * 8 + y')) (ctV (vX k kp T r (0 * 8 + y')) 60)) (FP.fdiv (FP.i2f (smV (vX k kp T r (0 * 8 + y')) 60)) (FP.i2f (nI (ctV (vX k kp T r (0 * 8 + y')) 60)))) = some .eq from FP.Core.fcmp_self hnum]
          rfl
        refine gg_iconst K (v := 1) dL_areRunsSo_340 (by decide) ?_
        refine gg_goto K (tgt := 345) dL_areRunsSo_341 (by decide) ?_
        exact gg_x (gg_zret K hr dL_areRunsSo_345 (Or.inr rfl) (Nat.le_of_ble_eq_true rfl) (Nat.le_of_ble_eq_true rfl) ⟨k', kp', dr', rfl, rfl, ok', e'⟩)
      · have hc : ctV (vX k kp T r (0 * 8 + y')) 60 = 0 := g3.trans (i_eq (b := 0) h321)
        refine gg_top_f (x := avO (vX k kp T r (0 * 8 + y'))) (show avO (vX k kp T r (0 * 8 + y')) = 3212836864 from if_pos hc) ?_
        refine gg_ldcf K wd_194 dL_areRunsSo_324 ?_
        refine gg_goto K (tgt := 336) dL_areRunsSo_326 (by decide) ?_
        refine gg_fcmp K dL_areRunsSo_336 ?_
        refine gg_if_ne K (tgt := 344) dL_areRunsSo_337 (by decide) (fun h337 => ?_) (fun h337 => ?_)
        · exact absurd (by decide +kernel) h337
        refine gg_iconst K (v := 1) dL_areRunsSo_340 (by decide) ?_
        refine gg_goto K (tgt := 345) dL_areRunsSo_341 (by decide) ?_
        exact gg_x (gg_zret K hr dL_areRunsSo_345 (Or.inr rfl) (Nat.le_of_ble_eq_true rfl) (Nat.le_of_ble_eq_true rfl) ⟨k', kp', dr', rfl, rfl, ok', e'⟩)
    · have ht1 : t' = 1 := i_eq (b := 1) h291
      subst ht1
      refine gg_aload_n K (i := 0) dL_areRunsSo_294 rfl rfl ?_
      refine gg_iload_n K (i := 2) dL_areRunsSo_295 rfl rfl ?_
      refine gg_iload_n K (i := 3) dL_areRunsSo_296 rfl rfl ?_
      refine gg_callRX K k_L_X0_joinedRuns (n_joinedRuns ok hv y' b1 rfl r q1 rfl) dL_areRunsSo_297 rfl rfl rfl rfl ⟨rfl, rfl⟩ ?_
      refine gg_aload_n K (i := 0) dL_areRunsSo_300 rfl rfl ?_
      refine gg_iconst K (v := 1) dL_areRunsSo_301 (by decide) ?_
      refine gg_iload_n K (i := 2) dL_areRunsSo_302 rfl rfl ?_
      refine gg_iload_n K (i := 3) dL_areRunsSo_303 rfl rfl ?_
      refine gg_callRX K k_L_X0_runs (n_runs ok 1 y' a1 b1 rfl rfl r q1 rfl) dL_areRunsSo_304 rfl rfl rfl rfl ⟨rfl, rfl⟩ ?_
      have hjb := fb_ct_le (jsF (vX k kp T) r y') 60
      refine gg_icmp_lt K (tgt := 344) dL_areRunsSo_307 (by decide) (fun h307 => ?_) (fun h307 => ?_)
      · exact absurd h307 (nI_nlt (joined_ge (V := vX k kp T) (r := r) (y := y')) (by omega))
      refine gg_goto K (tgt := 340) dL_areRunsSo_310 (by decide) ?_
      refine gg_iconst K (v := 1) dL_areRunsSo_340 (by decide) ?_
      refine gg_goto K (tgt := 345) dL_areRunsSo_341 (by decide) ?_
      exact gg_x (gg_zret K hr dL_areRunsSo_345 (Or.inr rfl) (Nat.le_of_ble_eq_true rfl) (Nat.le_of_ble_eq_true rfl) ⟨k, kp, dr, rfl, rfl, ok, rfl⟩)
  have hj2 := i_nle h30
  obtain ⟨d, v9, hs, hd, hle, hfv, hv9, hlt, he6, hlast, hgap, hnew, hat', hlg, hct, hsm⟩ := atR_next hF hat hj2
  have hcle := fb_ct_le (fun d => bP (¬ (vX k kp T r (t' * 8 + y')) d = -1)) en
  have hlgle := lgF_le (vX k kp T r (t' * 8 + y')) (n := en) hen
  refine gg_iload K dL_areRunsSo_33 rfl ?_
  refine gg_if_eq K (tgt := 240) dL_areRunsSo_35 (by decide) (fun h35 => ?_) (fun h35 => ?_)
  · exact absurd h35 (by decide)
  refine gg_aload_n K (i := 0) dL_areRunsSo_38 rfl rfl ?_
  refine gg_iload_n K (i := 1) dL_areRunsSo_39 rfl rfl ?_
  refine gg_iload_n K (i := 2) dL_areRunsSo_40 rfl rfl ?_
  refine gg_iload_n K (i := 3) dL_areRunsSo_41 rfl rfl ?_
  refine gg_iload K dL_areRunsSo_42 rfl ?_
  refine gg_callRX K k_L_X0_run (n_run ok t' y' a1 b1 rfl rfl r q1 rfl j hj2 rfl) dL_areRunsSo_44 rfl rfl rfl rfl ⟨rfl, rfl⟩ ?_
  rw [hs]
  refine gg_top (runN_nI hfv) ?_
  refine gg_istore K dL_areRunsSo_47 (by decide) ?_
  refine gg_iload K dL_areRunsSo_49 rfl ?_
  refine gg_sipush K (v := 10000) dL_areRunsSo_51 (by decide) ?_
  refine gg_idiv K dL_areRunsSo_54 (by decide) ?_
  refine gg_top (run_from hd he6 hv9) ?_
  refine gg_istore K dL_areRunsSo_55 (by decide) ?_
  refine gg_iload K dL_areRunsSo_57 rfl ?_
  refine gg_bipush K (v := 100) dL_areRunsSo_59 (by decide) ?_
  refine gg_idiv K dL_areRunsSo_61 (by decide) ?_
  refine gg_bipush K (v := 100) dL_areRunsSo_62 (by decide) ?_
  refine gg_irem K dL_areRunsSo_64 (by decide) ?_
  refine gg_top (run_to hd he6 hv9) ?_
  refine gg_istore K dL_areRunsSo_65 (by decide) ?_
  refine gg_sub (L' := [(13, .int (nI (endF (vX k kp T r (t' * 8 + y')) d))), (12, .int (nI d)), (11, .int (nI (10000 * d + 100 * endF (vX k kp T r (t' * 8 + y')) d + v9))), (10, .int (nI j)), (9, .int 1), (8, .int (smV (vX k kp T r (t' * 8 + y')) en)), (7, .int (nI (ctV (vX k kp T r (t' * 8 + y')) en))), (6, .int (nI (lgF (vX k kp T r (t' * 8 + y')) en))), (5, .int val), (4, .int (nI en)), (0, .ref X.1), (1, .int (nI t')), (2, .int (nI y')), (3, .int (nI r))]) ⟨rfl, rfl, rfl, rfl, rfl, rfl, rfl, rfl, rfl, rfl, rfl, rfl, rfl, rfl, trivial⟩ ?_
  refine gg_iload K dL_areRunsSo_67 rfl ?_
  refine gg_iload K dL_areRunsSo_69 rfl ?_
  refine gg_icmp_lt K (tgt := 172) dL_areRunsSo_71 (by decide) (fun h71 => ?_) (fun h71 => ?_)
  · exact absurd h71 (nI_nlt hle (by omega))
  refine gg_iload K dL_areRunsSo_74 rfl ?_
  refine gg_iload K dL_areRunsSo_76 rfl ?_
  refine gg_icmp_le K (tgt := 172) dL_areRunsSo_78 (by decide) (fun h78 => ?_) (fun h78 => ?_)
  · exact absurd h78 (nI_ge hlt (by omega))
  refine gg_iload K dL_areRunsSo_81 rfl ?_
  refine gg_bipush K (v := 60) dL_areRunsSo_83 (by decide) ?_
  refine gg_icmp_gt K (tgt := 172) dL_areRunsSo_85 (by decide) (fun h85 => ?_) (fun h85 => ?_)
  · exact absurd h85 (nI_nlt (a := 60) he6 (by omega))
  refine gg_cut 110 [(13, .int (nI (endF (vX k kp T r (t' * 8 + y')) d))), (12, .int (nI d)), (11, .int (nI (10000 * d + 100 * endF (vX k kp T r (t' * 8 + y')) d + v9))), (10, .int (nI j)), (9, .int 1), (8, .int (smV (vX k kp T r (t' * 8 + y')) en)), (7, .int (nI (ctV (vX k kp T r (t' * 8 + y')) en))), (6, .int (nI (lgF (vX k kp T r (t' * 8 + y')) en))), (5, .int val), (4, .int (nI en)), (0, .ref X.1), (1, .int (nI t')), (2, .int (nI y')), (3, .int (nI r))] [] ?_ (fun k110 => ?_)
  rotate_left
  · refine gg_iload K dL_areRunsSo_88 rfl ?_
    refine gg_if_eq K (tgt := 110) dL_areRunsSo_90 (by decide) (fun h90 => ?_) (fun h90 => ?_)
    · exact k110
    have hj0 : ¬ j = 0 := fun z => h90 (by rw [z]; rfl)
    refine gg_iload K dL_areRunsSo_93 rfl ?_
    refine gg_iload K dL_areRunsSo_95 rfl ?_
    refine gg_icmp_gt K (tgt := 110) dL_areRunsSo_97 (by decide) (fun h97 => ?_) (fun h97 => ?_)
    · exact k110
    have hde : en = d := by
      have := i_nlt h97
      omega
    refine gg_iload K dL_areRunsSo_100 rfl ?_
    refine gg_bipush K (v := 100) dL_areRunsSo_102 (by decide) ?_
    refine gg_irem K dL_areRunsSo_104 (by decide) ?_
    refine gg_top (run_val hd he6 hv9) ?_
    refine gg_iload K dL_areRunsSo_105 rfl ?_
    refine gg_icmp_eq K (tgt := 172) dL_areRunsSo_107 (by decide) (fun h107 => ?_) (fun h107 => ?_)
    · exact absurd (h107.trans (hval hj0)).symm (hnew hj0 hde)
    exact k110
  refine gg_aload_n K (i := 0) dL_areRunsSo_110 rfl rfl ?_
  refine gg_iload_n K (i := 1) dL_areRunsSo_111 rfl rfl ?_
  refine gg_iload_n K (i := 2) dL_areRunsSo_112 rfl rfl ?_
  refine gg_iload K dL_areRunsSo_113 rfl ?_
  refine gg_iload_n K (i := 3) dL_areRunsSo_115 rfl rfl ?_
  refine gg_callRX K k_L_X0_value (n_value ok t' y' a1 b1 rfl rfl d hd rfl r q1 rfl) dL_areRunsSo_116 rfl rfl rfl rfl ⟨rfl, rfl⟩ ?_
  refine gg_iload K dL_areRunsSo_119 rfl ?_
  refine gg_bipush K (v := 100) dL_areRunsSo_121 (by decide) ?_
  refine gg_irem K dL_areRunsSo_123 (by decide) ?_
  refine gg_top (run_val hd he6 hv9) ?_
  refine gg_icmp_ne K (tgt := 172) dL_areRunsSo_124 (by decide) (fun h124 => ?_) (fun h124 => ?_)
  · exact absurd hfv h124
  refine gg_aload_n K (i := 0) dL_areRunsSo_127 rfl rfl ?_
  refine gg_iload_n K (i := 1) dL_areRunsSo_128 rfl rfl ?_
  refine gg_iload_n K (i := 2) dL_areRunsSo_129 rfl rfl ?_
  refine gg_iload K dL_areRunsSo_130 rfl ?_
  refine gg_iconst K (v := 1) dL_areRunsSo_132 (by decide) ?_
  refine gg_isub K dL_areRunsSo_133 ?_
  refine gg_iload_n K (i := 3) dL_areRunsSo_134 rfl rfl ?_
  refine gg_callRX K k_L_X0_value (n_value ok t' y' a1 b1 rfl rfl (endF (vX k kp T r (t' * 8 + y')) d - 1) (by omega) (nI_sub1 (by omega)) r q1 rfl) dL_areRunsSo_135 rfl rfl rfl rfl ⟨rfl, rfl⟩ ?_
  refine gg_iload K dL_areRunsSo_138 rfl ?_
  refine gg_bipush K (v := 100) dL_areRunsSo_140 (by decide) ?_
  refine gg_irem K dL_areRunsSo_142 (by decide) ?_
  refine gg_top (run_val hd he6 hv9) ?_
  refine gg_icmp_ne K (tgt := 172) dL_areRunsSo_143 (by decide) (fun h143 => ?_) (fun h143 => ?_)
  · exact absurd hlast h143
  refine gg_cut 168 [(13, .int (nI (endF (vX k kp T r (t' * 8 + y')) d))), (12, .int (nI d)), (11, .int (nI (10000 * d + 100 * endF (vX k kp T r (t' * 8 + y')) d + v9))), (10, .int (nI j)), (9, .int 1), (8, .int (smV (vX k kp T r (t' * 8 + y')) en)), (7, .int (nI (ctV (vX k kp T r (t' * 8 + y')) en))), (6, .int (nI (lgF (vX k kp T r (t' * 8 + y')) en))), (5, .int val), (4, .int (nI en)), (0, .ref X.1), (1, .int (nI t')), (2, .int (nI y')), (3, .int (nI r))] [] ?_ (fun k168 => ?_)
  rotate_left
  · refine gg_iload K dL_areRunsSo_146 rfl ?_
    refine gg_iload K dL_areRunsSo_148 rfl ?_
    refine gg_icmp_eq K (tgt := 168) dL_areRunsSo_150 (by decide) (fun h150 => ?_) (fun h150 => ?_)
    · exact k168
    have hde : en < d := by
      have : ¬ d = en := i_ne h150
      omega
    refine gg_aload_n K (i := 0) dL_areRunsSo_153 rfl rfl ?_
    refine gg_iload_n K (i := 1) dL_areRunsSo_154 rfl rfl ?_
    refine gg_iload_n K (i := 2) dL_areRunsSo_155 rfl rfl ?_
    refine gg_iload K dL_areRunsSo_156 rfl ?_
    refine gg_iconst K (v := 1) dL_areRunsSo_158 (by decide) ?_
    refine gg_isub K dL_areRunsSo_159 ?_
    refine gg_iload_n K (i := 3) dL_areRunsSo_160 rfl rfl ?_
    refine gg_callRX K k_L_X0_value (n_value ok t' y' a1 b1 rfl rfl (d - 1) (by omega) (nI_sub1 (by omega)) r q1 rfl) dL_areRunsSo_161 rfl rfl rfl rfl ⟨rfl, rfl⟩ ?_
    refine gg_iconst K (v := (-1)) dL_areRunsSo_164 (by decide) ?_
    refine gg_icmp_ne K (tgt := 172) dL_areRunsSo_165 (by decide) (fun h165 => ?_) (fun h165 => ?_)
    · exact absurd (hgap hde) h165
    exact k168
  refine gg_iconst K (v := 1) dL_areRunsSo_168 (by decide) ?_
  refine gg_goto K (tgt := 173) dL_areRunsSo_169 (by decide) ?_
  refine gg_istore K dL_areRunsSo_173 (by decide) ?_
  refine gg_sub (L' := [(13, .int (nI (endF (vX k kp T r (t' * 8 + y')) d))), (12, .int (nI d)), (11, .int (nI (10000 * d + 100 * endF (vX k kp T r (t' * 8 + y')) d + v9))), (10, .int (nI j)), (9, .int 1), (8, .int (smV (vX k kp T r (t' * 8 + y')) en)), (7, .int (nI (ctV (vX k kp T r (t' * 8 + y')) en))), (6, .int (nI (lgF (vX k kp T r (t' * 8 + y')) en))), (5, .int val), (4, .int (nI en)), (0, .ref X.1), (1, .int (nI t')), (2, .int (nI y')), (3, .int (nI r))]) ⟨rfl, rfl, rfl, rfl, rfl, rfl, rfl, rfl, rfl, rfl, rfl, rfl, rfl, rfl, trivial⟩ ?_
  refine gg_cut 195 [(13, .int (nI (endF (vX k kp T r (t' * 8 + y')) d))), (12, .int (nI d)), (11, .int (nI (10000 * d + 100 * endF (vX k kp T r (t' * 8 + y')) d + v9))), (10, .int (nI j)), (9, .int 1), (8, .int (smV (vX k kp T r (t' * 8 + y')) en)), (7, .int (nI (ctV (vX k kp T r (t' * 8 + y')) en))), (6, .int (nI (lgF (vX k kp T r (t' * 8 + y')) en))), (5, .int val), (4, .int (nI en)), (0, .ref X.1), (1, .int (nI t')), (2, .int (nI y')), (3, .int (nI r))] [.int (nI (lgF (vX k kp T r (t' * 8 + y')) (endF (vX k kp T r (t' * 8 + y')) d)))] ?_ (fun k195 => ?_)
  rotate_left
  · refine gg_iload K dL_areRunsSo_175 rfl ?_
    refine gg_iload K dL_areRunsSo_177 rfl ?_
    refine gg_isub K dL_areRunsSo_179 ?_
    refine gg_top (pk_sub (Nat.le_of_lt hlt)) ?_
    refine gg_iload K dL_areRunsSo_180 rfl ?_
    refine gg_icmp_le K (tgt := 193) dL_areRunsSo_182 (by decide) (fun h182 => ?_) (fun h182 => ?_)
    · have := i_le h182
      rw [hlg, if_neg (by omega)] at k195
      refine gg_iload K dL_areRunsSo_193 rfl ?_
      exact k195
    · have := i_nle h182
      rw [hlg, if_pos (by omega)] at k195
      refine gg_iload K dL_areRunsSo_185 rfl ?_
      refine gg_iload K dL_areRunsSo_187 rfl ?_
      refine gg_isub K dL_areRunsSo_189 ?_
      refine gg_top (pk_sub (Nat.le_of_lt hlt)) ?_
      refine gg_goto K (tgt := 195) dL_areRunsSo_190 (by decide) ?_
      exact k195
  refine gg_istore K dL_areRunsSo_195 (by decide) ?_
  refine gg_iload K dL_areRunsSo_197 rfl ?_
  refine gg_iload K dL_areRunsSo_199 rfl ?_
  refine gg_iload K dL_areRunsSo_201 rfl ?_
  refine gg_isub K dL_areRunsSo_203 ?_
  refine gg_top (pk_sub (Nat.le_of_lt hlt)) ?_
  refine gg_iadd K dL_areRunsSo_204 ?_
  refine gg_top (show nI (ctV (vX k kp T r (t' * 8 + y')) en) + nI (endF (vX k kp T r (t' * 8 + y')) d - d) = nI (ctV (vX k kp T r (t' * 8 + y')) (endF (vX k kp T r (t' * 8 + y')) d)) by rw [nI_add, hct]) ?_
  refine gg_istore K dL_areRunsSo_205 (by decide) ?_
  refine gg_iload K dL_areRunsSo_207 rfl ?_
  refine gg_iload K dL_areRunsSo_209 rfl ?_
  refine gg_iload K dL_areRunsSo_211 rfl ?_
  refine gg_isub K dL_areRunsSo_213 ?_
  refine gg_top (pk_sub (Nat.le_of_lt hlt)) ?_
  refine gg_iload K dL_areRunsSo_214 rfl ?_
  refine gg_bipush K (v := 100) dL_areRunsSo_216 (by decide) ?_
  refine gg_irem K dL_areRunsSo_218 (by decide) ?_
  refine gg_top (run_val hd he6 hv9) ?_
  refine gg_imul K dL_areRunsSo_219 ?_
  refine gg_top (pk_mul _ _) ?_
  refine gg_iadd K dL_areRunsSo_220 ?_
  refine gg_top hsm.symm ?_
  refine gg_istore K dL_areRunsSo_221 (by decide) ?_
  refine gg_iload K dL_areRunsSo_223 rfl ?_
  refine gg_istore K dL_areRunsSo_225 (by decide) ?_
  refine gg_iload K dL_areRunsSo_227 rfl ?_
  refine gg_bipush K (v := 100) dL_areRunsSo_229 (by decide) ?_
  refine gg_irem K dL_areRunsSo_231 (by decide) ?_
  refine gg_top (run_val hd he6 hv9) ?_
  refine gg_istore K dL_areRunsSo_232 (by decide) ?_
  refine gg_iinc K (v := nI (j + 1)) dL_areRunsSo_234 rfl (nI_inc (j)) (by decide) ?_
  refine gg_goto K (tgt := 21) dL_areRunsSo_237 (by decide) ?_
  refine gg_sub (L' := [(10, .int (nI (j + 1))), (9, .int 1), (8, .int (smV (vX k kp T r (t' * 8 + y')) (endF (vX k kp T r (t' * 8 + y')) d))), (7, .int (nI (ctV (vX k kp T r (t' * 8 + y')) (endF (vX k kp T r (t' * 8 + y')) d)))), (6, .int (nI (lgF (vX k kp T r (t' * 8 + y')) (endF (vX k kp T r (t' * 8 + y')) d)))), (5, .int (nI v9)), (4, .int (nI (endF (vX k kp T r (t' * 8 + y')) d))), (0, .ref X.1), (1, .int (nI t')), (2, .int (nI y')), (3, .int (nI r))]) ⟨rfl, rfl, rfl, rfl, rfl, rfl, rfl, rfl, rfl, rfl, rfl, trivial⟩ ?_
  exact ih _ _ ⟨j + 1, endF (vX k kp T r (t' * 8 + y')) d, nI v9, by omega, rfl, by omega, hat', fun _ => hlast.symm, rfl⟩
