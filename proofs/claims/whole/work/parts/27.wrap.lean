/-! what each call answers and does, as a function of the table of values; the law's wrappers -/
noncomputable def S_put (V : VT) (T : Nat) (t y v f q : Int32) : ST := sSet V T (inR t 2 ∧ inR y 8 ∧ inR v (if t = 0 then 100 else 8) ∧ spanR f q) True (keepP V T (spG V T (nN t * 8 + nN y) v f q) (nN t) (nN y)) 2 (nN t * 8 + nN y) (spG V T (nN t * 8 + nN y) v f q)
noncomputable def S_erase (V : VT) (T : Nat) (t y f q : Int32) : ST := sSet V T (inR t 2 ∧ inR y 8 ∧ spanR f q) True (keepP V T (spG V T (nN t * 8 + nN y) (-1) f q) (nN t) (nN y)) 2 (nN t * 8 + nN y) (spG V T (nN t * 8 + nN y) (-1) f q)
noncomputable def S_eraseAll (V : VT) (T : Nat) (y f q : Int32) : ST := sEra V T (inR y 8 ∧ spanR f q) (nN y) (nN f) (nN q)
noncomputable def S_restore (V : VT) (T : Nat) (t y q : Int32) : ST := sSet V T (inR t 2 ∧ inR y 8 ∧ inR q 60) (q ≤ nI T) (keepP V T (V (nN q) (nN t * 8 + nN y)) (nN t) (nN y)) 3 (nN t * 8 + nN y) (V (nN q) (nN t * 8 + nN y))
noncomputable def S_pass (V : VT) (T : Nat) (n9 : Int32) : ST := sPs V T (¬ n9 < 1 ∧ ¬ 60 ≤ n9) (T + nN n9 < 60) (nN n9)
noncomputable def S_value (V : VT) (T : Nat) (t y d q : Int32) : ST := qS V T (inR t 2 ∧ inR y 8 ∧ inR d 60 ∧ inR q 60) (q ≤ nI T) (V (nN q) (nN t * 8 + nN y) (nN d))
noncomputable def S_keys (V : VT) (T : Nat) (t d q : Int32) : ST := qS V T (inR t 2 ∧ inR d 60 ∧ inR q 60) (q ≤ nI T) (kyF (fun i => V (nN q) (nN t * 8 + i) (nN d)) 8)
noncomputable def S_joined (V : VT) (T : Nat) (y d q : Int32) : ST := qS V T (inR y 8 ∧ inR d 60 ∧ inR q 60) (q ≤ nI T) (jnF V (nN q) (nN y) (nN d))
noncomputable def S_runs (V : VT) (T : Nat) (t y q : Int32) : ST := qS V T (inR t 2 ∧ inR y 8 ∧ inR q 60) (q ≤ nI T) (nI (fb_ct (stF (V (nN q) (nN t * 8 + nN y))) 60))
noncomputable def S_run (V : VT) (T : Nat) (t y q w9 : Int32) : ST := qS V T (inR t 2 ∧ inR y 8 ∧ inR q 60) (q ≤ nI T ∧ ∃ j, j < fb_ct (stF (V (nN q) (nN t * 8 + nN y))) 60 ∧ w9 = nI j) (runN (V (nN q) (nN t * 8 + nN y)) (kthD (stF (V (nN q) (nN t * 8 + nN y))) (nN w9) 60))
noncomputable def S_joinedRuns (V : VT) (T : Nat) (y q : Int32) : ST := qS V T (inR y 8 ∧ inR q 60) (q ≤ nI T) (nI (fb_ct (jsF V (nN q) (nN y)) 60))
noncomputable def S_rows (V : VT) (T : Nat) (t y : Int32) : ST := qS V T (inR t 2 ∧ inR y 8) True (nI (fb_ct (rwF V (nN t * 8 + nN y)) (60 * (T + 1))))
noncomputable def S_rowRun (V : VT) (T : Nat) (t y w9 : Int32) : ST := qS V T (inR t 2 ∧ inR y 8) (∃ j, j < fb_ct (rwF V (nN t * 8 + nN y)) (60 * (T + 1)) ∧ w9 = nI j) (runN (V ((kthD (rwF V (nN t * 8 + nN y)) (nN w9) (60 * (T + 1))) / 60) (nN t * 8 + nN y)) ((kthD (rwF V (nN t * 8 + nN y)) (nN w9) (60 * (T + 1))) % 60))
noncomputable def S_rowFrom (V : VT) (T : Nat) (t y w9 : Int32) : ST := qS V T (inR t 2 ∧ inR y 8) (∃ j, j < fb_ct (rwF V (nN t * 8 + nN y)) (60 * (T + 1)) ∧ w9 = nI j) (nI ((kthD (rwF V (nN t * 8 + nN y)) (nN w9) (60 * (T + 1))) / 60))
noncomputable def S_rowTo (V : VT) (T : Nat) (t y w9 : Int32) : ST := qS V T (inR t 2 ∧ inR y 8) (∃ j, j < fb_ct (rwF V (nN t * 8 + nN y)) (60 * (T + 1)) ∧ w9 = nI j) (reF (fun a => smF (V ((kthD (rwF V (nN t * 8 + nN y)) (nN w9) (60 * (T + 1))) / 60) (nN t * 8 + nN y)) (V a (nN t * 8 + nN y)) ((kthD (rwF V (nN t * 8 + nN y)) (nN w9) (60 * (T + 1))) % 60)) (T - (kthD (rwF V (nN t * 8 + nN y)) (nN w9) (60 * (T + 1))) / 60) ((kthD (rwF V (nN t * 8 + nN y)) (nN w9) (60 * (T + 1))) / 60 + 1))
noncomputable def S_corrections (V : VT) (T : Nat) (t y d f q : Int32) : ST := qS V T (inR t 2 ∧ inR y 8 ∧ inR d 60 ∧ inR f 60 ∧ ¬ q < f ∧ inR q 60) (q ≤ nI T) (nI (fb_ct (fun i => bP (¬ V (nN f + 1 + i) (nN t * 8 + nN y) (nN d) = V (nN f + i) (nN t * 8 + nN y) (nN d))) (nN q - nN f)))
noncomputable def S_longest (V : VT) (T : Nat) (t y q : Int32) : ST := qS V T (inR t 2 ∧ inR y 8 ∧ inR q 60) (q ≤ nI T) (nI (lgF (V (nN q) (nN t * 8 + nN y)) 60))
noncomputable def S_average (V : VT) (T : Nat) (y q : Int32) : STf := aS V T (inR y 8 ∧ inR q 60) (q ≤ nI T) (V (nN q) (nN y))
def hPost (Z : ZT) (X : XT) (o : Nat) (S : ST) : Option Value → va_W → Prop := fun ret u => ∃ (c r : Int32) (k' kp' dr' : Nat → Int32) (T' : Nat) (g : Nat → Int64), ret = some (.int c) ∧ u = oJ Z o g :: wX Z X k' kp' dr' (nI T') ∧ okX kp' T' ∧ S c r (vX k' kp' T') T' ∧ (c = 0 → g 0 = r.toInt64)
def hPostF (Z : ZT) (X : XT) (o : Nat) (S : STf) : Option Value → va_W → Prop := fun ret u => ∃ (c : Int32) (r : UInt32) (k' kp' dr' : Nat → Int32) (T' : Nat) (g : Nat → UInt64), ret = some (.int c) ∧ u = oD Z o g :: wX Z X k' kp' dr' (nI T') ∧ okX kp' T' ∧ S c r (vX k' kp' T') T' ∧ (c = 0 → g 0 = FP.f2d r)
theorem updL_0 (g : Nat → Int64) (x : Int64) : vp_updL g 0 x 0 = x := if_pos rfl
theorem updD_0 (g : Nat → UInt64) (x : UInt64) : vf_upd g 0 x 0 = x := if_pos rfl
set_option maxRecDepth 100000 in
theorem h_put {l : Launch} {Z : ZT} {X : XT} {k kp dr : Nat → Int32} {T o : Nat} {fo : Nat → Int64} (hl0 : l.stackTraces = false) (ok : okX kp T) (hv : valOk (vX k kp T) T) {t y v f q : Int32} : mX l Z.1 (ty3 Z) yL_put (Cond.codeWith yL_put cL_put 8 (some .int) [(0, 16, 19, 13), (0, 16, 23, 15)]) (rmk 10 250 8 48) (oJ Z o fo :: wX Z X k kp dr (nI T)) [.ref X.1, .int t, .int y, .int v, .int f, .int q, .ref o] (hPost Z X o (S_put (vX k kp T) T t y v f q)) (fun _ _ => False) := by
  refine mH_intro (own := RL) [(0, .ref X.1), (1, .int t), (2, .int y), (3, .int v), (4, .int f), (5, .int q), (6, .ref o)] (by decide +kernel) rfl rfl rfl rfl ?_
  intro p e s m args below meth c A K hr T9 htab
  refine gg_aload K dL_put_0 rfl ?_
  refine gg_iconst K (v := 0) dL_put_2 (by decide) ?_
  refine gg_aload_n K (i := 0) dL_put_3 rfl rfl ?_
  refine gg_iload_n K (i := 1) dL_put_4 rfl rfl ?_
  refine gg_iload_n K (i := 2) dL_put_5 rfl rfl ?_
  refine gg_iload_n K (i := 3) dL_put_6 rfl rfl ?_
  refine gg_iload K dL_put_7 rfl ?_
  refine gg_iload K dL_put_9 rfl ?_
  refine gg_callJX (wr := [oJ Z o fo]) [1, 2, 3, 4] [0] rfl rfl rfl K T9 k_L_X0_put (x_put hl0 ok hv) 0 (ci := 0) (N := 4) (T := TX0) rfl rfl dL_put_11 rfl rfl rfl rfl (fun E u h => ?_) (fun v u h => ?_)
  · obtain ⟨c9, k', kp', dr', T', hm, rfl, ok', hS⟩ := h
    simp only [cAS, List.mem_cons, List.not_mem_nil, or_false, Prod.mk.injEq] at hm
    rcases hm with ⟨rfl, rfl⟩ | ⟨rfl, rfl⟩
    · refine gx_catch K T9 htab [] ⟨0, 16, 19, 13⟩ [⟨0, 16, 23, 15⟩] rfl (fun _ h => absurd h List.not_mem_nil) (by decide) (by decide) wd_29 (List.mem_of_getElem? (i := 0) rfl) (fun q9 => ?_)
      refine gg_astore K dL_put_19 (by decide) ?_
      refine gg_iconst K (v := 1) dL_put_21 (by decide) ?_
      exact gg_x (gg_iret K hr dL_put_22 (Nat.le_of_ble_eq_true rfl) (Nat.le_of_ble_eq_true rfl) ⟨1, 0, k', kp', dr', T', fo, rfl, rfl, ok', hS, fun z => absurd z (by decide)⟩)
    · refine gx_catch K T9 htab [⟨0, 16, 19, 13⟩] ⟨0, 16, 23, 15⟩ [] rfl (List.forall_mem_cons.mpr ⟨⟨by decide, eA, wd_29, List.mem_of_getElem? (i := 2) rfl⟩, (fun _ h => absurd h List.not_mem_nil)⟩) (by decide) (by decide) wd_30 (List.mem_of_getElem? (i := 1) rfl) (fun q9 => ?_)
      refine gg_astore K dL_put_23 (by decide) ?_
      refine gg_iconst K (v := 2) dL_put_25 (by decide) ?_
      exact gg_x (gg_iret K hr dL_put_26 (Nat.le_of_ble_eq_true rfl) (Nat.le_of_ble_eq_true rfl) ⟨2, 0, k', kp', dr', T', fo, rfl, rfl, ok', hS, fun z => absurd z (by decide)⟩)
  obtain ⟨r, k', kp', dr', T', rfl, rfl, ok', hS⟩ := h
  refine gg_i2l K dL_put_14 ?_
  refine gg_stJ 0 K rfl dL_put_15 rfl ?_
  refine gg_goto K (tgt := 27) dL_put_16 (by decide) ?_
  refine gg_iconst K (v := 0) dL_put_27 (by decide) ?_
  exact gg_x (gg_iret K hr dL_put_28 (Nat.le_of_ble_eq_true rfl) (Nat.le_of_ble_eq_true rfl) ⟨0, r, k', kp', dr', T', vp_updL fo 0 r.toInt64, rfl, rfl, ok', hS, fun _ => updL_0 _ _⟩)
set_option maxRecDepth 100000 in
theorem h_erase {l : Launch} {Z : ZT} {X : XT} {k kp dr : Nat → Int32} {T o : Nat} {fo : Nat → Int64} (hl0 : l.stackTraces = false) (ok : okX kp T) (hv : valOk (vX k kp T) T) {t y f q : Int32} : mX l Z.1 (ty3 Z) yL_erase (Cond.codeWith yL_erase cL_erase 7 (some .int) [(0, 14, 17, 13), (0, 14, 21, 15)]) (rmk 10 250 8 48) (oJ Z o fo :: wX Z X k kp dr (nI T)) [.ref X.1, .int t, .int y, .int f, .int q, .ref o] (hPost Z X o (S_erase (vX k kp T) T t y f q)) (fun _ _ => False) := by
  refine mH_intro (own := RL) [(0, .ref X.1), (1, .int t), (2, .int y), (3, .int f), (4, .int q), (5, .ref o)] (by decide +kernel) rfl rfl rfl rfl ?_
  intro p e s m args below meth c A K hr T9 htab
  refine gg_aload K dL_erase_0 rfl ?_
  refine gg_iconst K (v := 0) dL_erase_2 (by decide) ?_
  refine gg_aload_n K (i := 0) dL_erase_3 rfl rfl ?_
  refine gg_iload_n K (i := 1) dL_erase_4 rfl rfl ?_
  refine gg_iload_n K (i := 2) dL_erase_5 rfl rfl ?_
  refine gg_iload_n K (i := 3) dL_erase_6 rfl rfl ?_
  refine gg_iload K dL_erase_7 rfl ?_
  refine gg_callJX (wr := [oJ Z o fo]) [1, 2, 3, 4] [0] rfl rfl rfl K T9 k_L_X0_erase (x_erase hl0 ok hv) 0 (ci := 0) (N := 4) (T := TX0) rfl rfl dL_erase_9 rfl rfl rfl rfl (fun E u h => ?_) (fun v u h => ?_)
  · obtain ⟨c9, k', kp', dr', T', hm, rfl, ok', hS⟩ := h
    simp only [cAS, List.mem_cons, List.not_mem_nil, or_false, Prod.mk.injEq] at hm
    rcases hm with ⟨rfl, rfl⟩ | ⟨rfl, rfl⟩
    · refine gx_catch K T9 htab [] ⟨0, 14, 17, 13⟩ [⟨0, 14, 21, 15⟩] rfl (fun _ h => absurd h List.not_mem_nil) (by decide) (by decide) wd_29 (List.mem_of_getElem? (i := 0) rfl) (fun q9 => ?_)
      refine gg_astore K dL_erase_17 (by decide) ?_
      refine gg_iconst K (v := 1) dL_erase_19 (by decide) ?_
      exact gg_x (gg_iret K hr dL_erase_20 (Nat.le_of_ble_eq_true rfl) (Nat.le_of_ble_eq_true rfl) ⟨1, 0, k', kp', dr', T', fo, rfl, rfl, ok', hS, fun z => absurd z (by decide)⟩)
    · refine gx_catch K T9 htab [⟨0, 14, 17, 13⟩] ⟨0, 14, 21, 15⟩ [] rfl (List.forall_mem_cons.mpr ⟨⟨by decide, eA, wd_29, List.mem_of_getElem? (i := 2) rfl⟩, (fun _ h => absurd h List.not_mem_nil)⟩) (by decide) (by decide) wd_30 (List.mem_of_getElem? (i := 1) rfl) (fun q9 => ?_)
      refine gg_astore K dL_erase_21 (by decide) ?_
      refine gg_iconst K (v := 2) dL_erase_23 (by decide) ?_
      exact gg_x (gg_iret K hr dL_erase_24 (Nat.le_of_ble_eq_true rfl) (Nat.le_of_ble_eq_true rfl) ⟨2, 0, k', kp', dr', T', fo, rfl, rfl, ok', hS, fun z => absurd z (by decide)⟩)
  obtain ⟨r, k', kp', dr', T', rfl, rfl, ok', hS⟩ := h
  refine gg_i2l K dL_erase_12 ?_
  refine gg_stJ 0 K rfl dL_erase_13 rfl ?_
  refine gg_goto K (tgt := 25) dL_erase_14 (by decide) ?_
  refine gg_iconst K (v := 0) dL_erase_25 (by decide) ?_
  exact gg_x (gg_iret K hr dL_erase_26 (Nat.le_of_ble_eq_true rfl) (Nat.le_of_ble_eq_true rfl) ⟨0, r, k', kp', dr', T', vp_updL fo 0 r.toInt64, rfl, rfl, ok', hS, fun _ => updL_0 _ _⟩)
set_option maxRecDepth 100000 in
theorem h_eraseAll {l : Launch} {Z : ZT} {X : XT} {k kp dr : Nat → Int32} {T o : Nat} {fo : Nat → Int64} (hl0 : l.stackTraces = false) (ok : okX kp T) {y f q : Int32} : mX l Z.1 (ty3 Z) yL_eraseAll (Cond.codeWith yL_eraseAll cL_eraseAll 6 (some .int) [(0, 12, 15, 13)]) (rmk 10 250 8 48) (oJ Z o fo :: wX Z X k kp dr (nI T)) [.ref X.1, .int y, .int f, .int q, .ref o] (hPost Z X o (S_eraseAll (vX k kp T) T y f q)) (fun _ _ => False) := by
  refine mH_intro (own := RL) [(0, .ref X.1), (1, .int y), (2, .int f), (3, .int q), (4, .ref o)] (by decide +kernel) rfl rfl rfl rfl ?_
  intro p e s m args below meth c A K hr T9 htab
  refine gg_aload K dL_eraseAll_0 rfl ?_
  refine gg_iconst K (v := 0) dL_eraseAll_2 (by decide) ?_
  refine gg_aload_n K (i := 0) dL_eraseAll_3 rfl rfl ?_
  refine gg_iload_n K (i := 1) dL_eraseAll_4 rfl rfl ?_
  refine gg_iload_n K (i := 2) dL_eraseAll_5 rfl rfl ?_
  refine gg_iload_n K (i := 3) dL_eraseAll_6 rfl rfl ?_
  refine gg_callJX (wr := [oJ Z o fo]) [1, 2, 3, 4] [0] rfl rfl rfl K T9 k_L_X0_eraseAll (x_eraseAll hl0 ok) 0 (ci := 0) (N := 4) (T := TX0) rfl rfl dL_eraseAll_7 rfl rfl rfl rfl (fun E u h => ?_) (fun v u h => ?_)
  · obtain ⟨c9, k', kp', dr', T', hm, rfl, ok', hS⟩ := h
    simp only [cA1, List.mem_cons, List.not_mem_nil, or_false, Prod.mk.injEq] at hm
    obtain ⟨rfl, rfl⟩ := hm
    refine gx_catch K T9 htab [] ⟨0, 12, 15, 13⟩ [] rfl (fun _ h => absurd h List.not_mem_nil) (by decide) (by decide) wd_29 (List.mem_of_getElem? (i := 0) rfl) (fun q9 => ?_)
    refine gg_astore K dL_eraseAll_15 (by decide) ?_
    refine gg_iconst K (v := 1) dL_eraseAll_17 (by decide) ?_
    exact gg_x (gg_iret K hr dL_eraseAll_18 (Nat.le_of_ble_eq_true rfl) (Nat.le_of_ble_eq_true rfl) ⟨1, 0, k', kp', dr', T', fo, rfl, rfl, ok', hS, fun z => absurd z (by decide)⟩)
  obtain ⟨r, k', kp', dr', T', rfl, rfl, ok', hS⟩ := h
  refine gg_i2l K dL_eraseAll_10 ?_
  refine gg_stJ 0 K rfl dL_eraseAll_11 rfl ?_
  refine gg_goto K (tgt := 19) dL_eraseAll_12 (by decide) ?_
  refine gg_iconst K (v := 0) dL_eraseAll_19 (by decide) ?_
  exact gg_x (gg_iret K hr dL_eraseAll_20 (Nat.le_of_ble_eq_true rfl) (Nat.le_of_ble_eq_true rfl) ⟨0, r, k', kp', dr', T', vp_updL fo 0 r.toInt64, rfl, rfl, ok', hS, fun _ => updL_0 _ _⟩)
set_option maxRecDepth 100000 in
theorem h_restore {l : Launch} {Z : ZT} {X : XT} {k kp dr : Nat → Int32} {T o : Nat} {fo : Nat → Int64} (hl0 : l.stackTraces = false) (ok : okX kp T) (hv : valOk (vX k kp T) T) {t y q : Int32} : mX l Z.1 (ty3 Z) yL_restore (Cond.codeWith yL_restore cL_restore 6 (some .int) [(0, 12, 15, 13), (0, 12, 19, 28), (0, 12, 23, 15)]) (rmk 10 250 8 48) (oJ Z o fo :: wX Z X k kp dr (nI T)) [.ref X.1, .int t, .int y, .int q, .ref o] (hPost Z X o (S_restore (vX k kp T) T t y q)) (fun _ _ => False) := by
  refine mH_intro (own := RL) [(0, .ref X.1), (1, .int t), (2, .int y), (3, .int q), (4, .ref o)] (by decide +kernel) rfl rfl rfl rfl ?_
  intro p e s m args below meth c A K hr T9 htab
  refine gg_aload K dL_restore_0 rfl ?_
  refine gg_iconst K (v := 0) dL_restore_2 (by decide) ?_
  refine gg_aload_n K (i := 0) dL_restore_3 rfl rfl ?_
  refine gg_iload_n K (i := 1) dL_restore_4 rfl rfl ?_
  refine gg_iload_n K (i := 2) dL_restore_5 rfl rfl ?_
  refine gg_iload_n K (i := 3) dL_restore_6 rfl rfl ?_
  refine gg_callJX (wr := [oJ Z o fo]) [1, 2, 3, 4] [0] rfl rfl rfl K T9 k_L_X0_restore (x_restore hl0 ok hv) 0 (ci := 0) (N := 4) (T := TX0) rfl rfl dL_restore_7 rfl rfl rfl rfl (fun E u h => ?_) (fun v u h => ?_)
  · obtain ⟨c9, k', kp', dr', T', hm, rfl, ok', hS⟩ := h
    simp only [cABS, List.mem_cons, List.not_mem_nil, or_false, Prod.mk.injEq] at hm
    rcases hm with ⟨rfl, rfl⟩ | ⟨rfl, rfl⟩ | ⟨rfl, rfl⟩
    · refine gx_catch K T9 htab [] ⟨0, 12, 15, 13⟩ [⟨0, 12, 19, 28⟩, ⟨0, 12, 23, 15⟩] rfl (fun _ h => absurd h List.not_mem_nil) (by decide) (by decide) wd_29 (List.mem_of_getElem? (i := 0) rfl) (fun q9 => ?_)
      refine gg_astore K dL_restore_15 (by decide) ?_
      refine gg_iconst K (v := 1) dL_restore_17 (by decide) ?_
      exact gg_x (gg_iret K hr dL_restore_18 (Nat.le_of_ble_eq_true rfl) (Nat.le_of_ble_eq_true rfl) ⟨1, 0, k', kp', dr', T', fo, rfl, rfl, ok', hS, fun z => absurd z (by decide)⟩)
    · refine gx_catch K T9 htab [⟨0, 12, 15, 13⟩] ⟨0, 12, 19, 28⟩ [⟨0, 12, 23, 15⟩] rfl (List.forall_mem_cons.mpr ⟨⟨by decide, eA, wd_29, List.mem_of_getElem? (i := 4) rfl⟩, (fun _ h => absurd h List.not_mem_nil)⟩) (by decide) (by decide) wd_168 (List.mem_of_getElem? (i := 2) rfl) (fun q9 => ?_)
      refine gg_astore K dL_restore_19 (by decide) ?_
      refine gg_iconst K (v := 2) dL_restore_21 (by decide) ?_
      exact gg_x (gg_iret K hr dL_restore_22 (Nat.le_of_ble_eq_true rfl) (Nat.le_of_ble_eq_true rfl) ⟨2, 0, k', kp', dr', T', fo, rfl, rfl, ok', hS, fun z => absurd z (by decide)⟩)
    · refine gx_catch K T9 htab [⟨0, 12, 15, 13⟩, ⟨0, 12, 19, 28⟩] ⟨0, 12, 23, 15⟩ [] rfl (List.forall_mem_cons.mpr ⟨⟨by decide, eA, wd_29, List.mem_of_getElem? (i := 2) rfl⟩, (List.forall_mem_cons.mpr ⟨⟨by decide, eB, wd_168, List.mem_of_getElem? (i := 3) rfl⟩, (fun _ h => absurd h List.not_mem_nil)⟩)⟩) (by decide) (by decide) wd_30 (List.mem_of_getElem? (i := 1) rfl) (fun q9 => ?_)
      refine gg_astore K dL_restore_23 (by decide) ?_
      refine gg_iconst K (v := 3) dL_restore_25 (by decide) ?_
      exact gg_x (gg_iret K hr dL_restore_26 (Nat.le_of_ble_eq_true rfl) (Nat.le_of_ble_eq_true rfl) ⟨3, 0, k', kp', dr', T', fo, rfl, rfl, ok', hS, fun z => absurd z (by decide)⟩)
  obtain ⟨r, k', kp', dr', T', rfl, rfl, ok', hS⟩ := h
  refine gg_i2l K dL_restore_10 ?_
  refine gg_stJ 0 K rfl dL_restore_11 rfl ?_
  refine gg_goto K (tgt := 27) dL_restore_12 (by decide) ?_
  refine gg_iconst K (v := 0) dL_restore_27 (by decide) ?_
  exact gg_x (gg_iret K hr dL_restore_28 (Nat.le_of_ble_eq_true rfl) (Nat.le_of_ble_eq_true rfl) ⟨0, r, k', kp', dr', T', vp_updL fo 0 r.toInt64, rfl, rfl, ok', hS, fun _ => updL_0 _ _⟩)
set_option maxRecDepth 100000 in
theorem h_pass {l : Launch} {Z : ZT} {X : XT} {k kp dr : Nat → Int32} {T o : Nat} {fo : Nat → Int64} (hl0 : l.stackTraces = false) (ok : okX kp T) {n9 : Int32} : mX l Z.1 (ty3 Z) yL_pass (Cond.codeWith yL_pass cL_pass 4 (some .int) [(0, 9, 12, 13), (0, 9, 15, 15)]) (rmk 10 250 8 48) (oJ Z o fo :: wX Z X k kp dr (nI T)) [.ref X.1, .int n9, .ref o] (hPost Z X o (S_pass (vX k kp T) T n9)) (fun _ _ => False) := by
  refine mH_intro (own := RL) [(0, .ref X.1), (1, .int n9), (2, .ref o)] (by decide +kernel) rfl rfl rfl rfl ?_
  intro p e s m args below meth c A K hr T9 htab
  refine gg_aload_n K (i := 2) dL_pass_0 rfl rfl ?_
  refine gg_iconst K (v := 0) dL_pass_1 (by decide) ?_
  refine gg_aload_n K (i := 0) dL_pass_2 rfl rfl ?_
  refine gg_iload_n K (i := 1) dL_pass_3 rfl rfl ?_
  refine gg_callJX (wr := [oJ Z o fo]) [1, 2, 3, 4] [0] rfl rfl rfl K T9 k_L_X0_pass (x_pass hl0 ok) 0 (ci := 0) (N := 4) (T := TX0) rfl rfl dL_pass_4 rfl rfl rfl rfl (fun E u h => ?_) (fun v u h => ?_)
  · obtain ⟨c9, k', kp', dr', T', hm, rfl, ok', hS⟩ := h
    simp only [cAS, List.mem_cons, List.not_mem_nil, or_false, Prod.mk.injEq] at hm
    rcases hm with ⟨rfl, rfl⟩ | ⟨rfl, rfl⟩
    · refine gx_catch K T9 htab [] ⟨0, 9, 12, 13⟩ [⟨0, 9, 15, 15⟩] rfl (fun _ h => absurd h List.not_mem_nil) (by decide) (by decide) wd_29 (List.mem_of_getElem? (i := 0) rfl) (fun q9 => ?_)
      refine gg_astore_n K (i := 3) dL_pass_12 rfl (by decide) ?_
      refine gg_iconst K (v := 1) dL_pass_13 (by decide) ?_
      exact gg_x (gg_iret K hr dL_pass_14 (Nat.le_of_ble_eq_true rfl) (Nat.le_of_ble_eq_true rfl) ⟨1, 0, k', kp', dr', T', fo, rfl, rfl, ok', hS, fun z => absurd z (by decide)⟩)
    · refine gx_catch K T9 htab [⟨0, 9, 12, 13⟩] ⟨0, 9, 15, 15⟩ [] rfl (List.forall_mem_cons.mpr ⟨⟨by decide, eA, wd_29, List.mem_of_getElem? (i := 2) rfl⟩, (fun _ h => absurd h List.not_mem_nil)⟩) (by decide) (by decide) wd_30 (List.mem_of_getElem? (i := 1) rfl) (fun q9 => ?_)
      refine gg_astore_n K (i := 3) dL_pass_15 rfl (by decide) ?_
      refine gg_iconst K (v := 2) dL_pass_16 (by decide) ?_
      exact gg_x (gg_iret K hr dL_pass_17 (Nat.le_of_ble_eq_true rfl) (Nat.le_of_ble_eq_true rfl) ⟨2, 0, k', kp', dr', T', fo, rfl, rfl, ok', hS, fun z => absurd z (by decide)⟩)
  obtain ⟨r, k', kp', dr', T', rfl, rfl, ok', hS⟩ := h
  refine gg_i2l K dL_pass_7 ?_
  refine gg_stJ 0 K rfl dL_pass_8 rfl ?_
  refine gg_goto K (tgt := 18) dL_pass_9 (by decide) ?_
  refine gg_iconst K (v := 0) dL_pass_18 (by decide) ?_
  exact gg_x (gg_iret K hr dL_pass_19 (Nat.le_of_ble_eq_true rfl) (Nat.le_of_ble_eq_true rfl) ⟨0, r, k', kp', dr', T', vp_updL fo 0 r.toInt64, rfl, rfl, ok', hS, fun _ => updL_0 _ _⟩)
set_option maxRecDepth 100000 in
theorem h_value {l : Launch} {Z : ZT} {X : XT} {k kp dr : Nat → Int32} {T o : Nat} {fo : Nat → Int64} (hl0 : l.stackTraces = false) (ok : okX kp T) {t y d q : Int32} : mX l Z.1 (ty3 Z) yL_value (Cond.codeWith yL_value cL_value 7 (some .int) [(0, 14, 17, 13), (0, 14, 21, 28)]) (rmk 10 250 8 48) (oJ Z o fo :: wX Z X k kp dr (nI T)) [.ref X.1, .int t, .int y, .int d, .int q, .ref o] (hPost Z X o (S_value (vX k kp T) T t y d q)) (fun _ _ => False) := by
  refine mH_intro (own := RL) [(0, .ref X.1), (1, .int t), (2, .int y), (3, .int d), (4, .int q), (5, .ref o)] (by decide +kernel) rfl rfl rfl rfl ?_
  intro p e s m args below meth c A K hr T9 htab
  refine gg_aload K dL_value_0 rfl ?_
  refine gg_iconst K (v := 0) dL_value_2 (by decide) ?_
  refine gg_aload_n K (i := 0) dL_value_3 rfl rfl ?_
  refine gg_iload_n K (i := 1) dL_value_4 rfl rfl ?_
  refine gg_iload_n K (i := 2) dL_value_5 rfl rfl ?_
  refine gg_iload_n K (i := 3) dL_value_6 rfl rfl ?_
  refine gg_iload K dL_value_7 rfl ?_
  refine gg_callJX (wr := [oJ Z o fo]) [1, 2, 3, 4] [0] rfl rfl rfl K T9 k_L_X0_value (x_value hl0 ok) 0 (ci := 0) (N := 4) (T := TX0) rfl rfl dL_value_9 rfl rfl rfl rfl (fun E u h => ?_) (fun v u h => ?_)
  · obtain ⟨c9, k', kp', dr', T', hm, rfl, ok', hS⟩ := h
    simp only [cAB, List.mem_cons, List.not_mem_nil, or_false, Prod.mk.injEq] at hm
    rcases hm with ⟨rfl, rfl⟩ | ⟨rfl, rfl⟩
    · refine gx_catch K T9 htab [] ⟨0, 14, 17, 13⟩ [⟨0, 14, 21, 28⟩] rfl (fun _ h => absurd h List.not_mem_nil) (by decide) (by decide) wd_29 (List.mem_of_getElem? (i := 0) rfl) (fun q9 => ?_)
      refine gg_astore K dL_value_17 (by decide) ?_
      refine gg_iconst K (v := 1) dL_value_19 (by decide) ?_
      exact gg_x (gg_iret K hr dL_value_20 (Nat.le_of_ble_eq_true rfl) (Nat.le_of_ble_eq_true rfl) ⟨1, 0, k', kp', dr', T', fo, rfl, rfl, ok', hS, fun z => absurd z (by decide)⟩)
    · refine gx_catch K T9 htab [⟨0, 14, 17, 13⟩] ⟨0, 14, 21, 28⟩ [] rfl (List.forall_mem_cons.mpr ⟨⟨by decide, eA, wd_29, List.mem_of_getElem? (i := 4) rfl⟩, (fun _ h => absurd h List.not_mem_nil)⟩) (by decide) (by decide) wd_168 (List.mem_of_getElem? (i := 2) rfl) (fun q9 => ?_)
      refine gg_astore K dL_value_21 (by decide) ?_
      refine gg_iconst K (v := 2) dL_value_23 (by decide) ?_
      exact gg_x (gg_iret K hr dL_value_24 (Nat.le_of_ble_eq_true rfl) (Nat.le_of_ble_eq_true rfl) ⟨2, 0, k', kp', dr', T', fo, rfl, rfl, ok', hS, fun z => absurd z (by decide)⟩)
  obtain ⟨r, k', kp', dr', T', rfl, rfl, ok', hS⟩ := h
  refine gg_i2l K dL_value_12 ?_
  refine gg_stJ 0 K rfl dL_value_13 rfl ?_
  refine gg_goto K (tgt := 25) dL_value_14 (by decide) ?_
  refine gg_iconst K (v := 0) dL_value_25 (by decide) ?_
  exact gg_x (gg_iret K hr dL_value_26 (Nat.le_of_ble_eq_true rfl) (Nat.le_of_ble_eq_true rfl) ⟨0, r, k', kp', dr', T', vp_updL fo 0 r.toInt64, rfl, rfl, ok', hS, fun _ => updL_0 _ _⟩)
set_option maxRecDepth 100000 in
theorem h_keys {l : Launch} {Z : ZT} {X : XT} {k kp dr : Nat → Int32} {T o : Nat} {fo : Nat → Int64} (hl0 : l.stackTraces = false) (ok : okX kp T) {t d q : Int32} : mX l Z.1 (ty3 Z) yL_keys (Cond.codeWith yL_keys cL_keys 6 (some .int) [(0, 12, 15, 13), (0, 12, 19, 28)]) (rmk 10 250 8 48) (oJ Z o fo :: wX Z X k kp dr (nI T)) [.ref X.1, .int t, .int d, .int q, .ref o] (hPost Z X o (S_keys (vX k kp T) T t d q)) (fun _ _ => False) := by
  refine mH_intro (own := RL) [(0, .ref X.1), (1, .int t), (2, .int d), (3, .int q), (4, .ref o)] (by decide +kernel) rfl rfl rfl rfl ?_
  intro p e s m args below meth c A K hr T9 htab
  refine gg_aload K dL_keys_0 rfl ?_
  refine gg_iconst K (v := 0) dL_keys_2 (by decide) ?_
  refine gg_aload_n K (i := 0) dL_keys_3 rfl rfl ?_
  refine gg_iload_n K (i := 1) dL_keys_4 rfl rfl ?_
  refine gg_iload_n K (i := 2) dL_keys_5 rfl rfl ?_
  refine gg_iload_n K (i := 3) dL_keys_6 rfl rfl ?_
  refine gg_callJX (wr := [oJ Z o fo]) [1, 2, 3, 4] [0] rfl rfl rfl K T9 k_L_X0_keys (x_keys hl0 ok) 0 (ci := 0) (N := 4) (T := TX0) rfl rfl dL_keys_7 rfl rfl rfl rfl (fun E u h => ?_) (fun v u h => ?_)
  · obtain ⟨c9, k', kp', dr', T', hm, rfl, ok', hS⟩ := h
    simp only [cAB, List.mem_cons, List.not_mem_nil, or_false, Prod.mk.injEq] at hm
    rcases hm with ⟨rfl, rfl⟩ | ⟨rfl, rfl⟩
    · refine gx_catch K T9 htab [] ⟨0, 12, 15, 13⟩ [⟨0, 12, 19, 28⟩] rfl (fun _ h => absurd h List.not_mem_nil) (by decide) (by decide) wd_29 (List.mem_of_getElem? (i := 0) rfl) (fun q9 => ?_)
      refine gg_astore K dL_keys_15 (by decide) ?_
      refine gg_iconst K (v := 1) dL_keys_17 (by decide) ?_
      exact gg_x (gg_iret K hr dL_keys_18 (Nat.le_of_ble_eq_true rfl) (Nat.le_of_ble_eq_true rfl) ⟨1, 0, k', kp', dr', T', fo, rfl, rfl, ok', hS, fun z => absurd z (by decide)⟩)
    · refine gx_catch K T9 htab [⟨0, 12, 15, 13⟩] ⟨0, 12, 19, 28⟩ [] rfl (List.forall_mem_cons.mpr ⟨⟨by decide, eA, wd_29, List.mem_of_getElem? (i := 4) rfl⟩, (fun _ h => absurd h List.not_mem_nil)⟩) (by decide) (by decide) wd_168 (List.mem_of_getElem? (i := 2) rfl) (fun q9 => ?_)
      refine gg_astore K dL_keys_19 (by decide) ?_
      refine gg_iconst K (v := 2) dL_keys_21 (by decide) ?_
      exact gg_x (gg_iret K hr dL_keys_22 (Nat.le_of_ble_eq_true rfl) (Nat.le_of_ble_eq_true rfl) ⟨2, 0, k', kp', dr', T', fo, rfl, rfl, ok', hS, fun z => absurd z (by decide)⟩)
  obtain ⟨r, k', kp', dr', T', rfl, rfl, ok', hS⟩ := h
  refine gg_i2l K dL_keys_10 ?_
  refine gg_stJ 0 K rfl dL_keys_11 rfl ?_
  refine gg_goto K (tgt := 23) dL_keys_12 (by decide) ?_
  refine gg_iconst K (v := 0) dL_keys_23 (by decide) ?_
  exact gg_x (gg_iret K hr dL_keys_24 (Nat.le_of_ble_eq_true rfl) (Nat.le_of_ble_eq_true rfl) ⟨0, r, k', kp', dr', T', vp_updL fo 0 r.toInt64, rfl, rfl, ok', hS, fun _ => updL_0 _ _⟩)
set_option maxRecDepth 100000 in
theorem h_joined {l : Launch} {Z : ZT} {X : XT} {k kp dr : Nat → Int32} {T o : Nat} {fo : Nat → Int64} (hl0 : l.stackTraces = false) (ok : okX kp T) (hv : valOk (vX k kp T) T) {y d q : Int32} : mX l Z.1 (ty3 Z) yL_joined (Cond.codeWith yL_joined cL_joined 6 (some .int) [(0, 12, 15, 13), (0, 12, 19, 28)]) (rmk 10 250 8 48) (oJ Z o fo :: wX Z X k kp dr (nI T)) [.ref X.1, .int y, .int d, .int q, .ref o] (hPost Z X o (S_joined (vX k kp T) T y d q)) (fun _ _ => False) := by
  refine mH_intro (own := RL) [(0, .ref X.1), (1, .int y), (2, .int d), (3, .int q), (4, .ref o)] (by decide +kernel) rfl rfl rfl rfl ?_
  intro p e s m args below meth c A K hr T9 htab
  refine gg_aload K dL_joined_0 rfl ?_
  refine gg_iconst K (v := 0) dL_joined_2 (by decide) ?_
  refine gg_aload_n K (i := 0) dL_joined_3 rfl rfl ?_
  refine gg_iload_n K (i := 1) dL_joined_4 rfl rfl ?_
  refine gg_iload_n K (i := 2) dL_joined_5 rfl rfl ?_
  refine gg_iload_n K (i := 3) dL_joined_6 rfl rfl ?_
  refine gg_callJX (wr := [oJ Z o fo]) [1, 2, 3, 4] [0] rfl rfl rfl K T9 k_L_X0_joined (x_joined hl0 ok hv) 0 (ci := 0) (N := 4) (T := TX0) rfl rfl dL_joined_7 rfl rfl rfl rfl (fun E u h => ?_) (fun v u h => ?_)
  · obtain ⟨c9, k', kp', dr', T', hm, rfl, ok', hS⟩ := h
    simp only [cAB, List.mem_cons, List.not_mem_nil, or_false, Prod.mk.injEq] at hm
    rcases hm with ⟨rfl, rfl⟩ | ⟨rfl, rfl⟩
    · refine gx_catch K T9 htab [] ⟨0, 12, 15, 13⟩ [⟨0, 12, 19, 28⟩] rfl (fun _ h => absurd h List.not_mem_nil) (by decide) (by decide) wd_29 (List.mem_of_getElem? (i := 0) rfl) (fun q9 => ?_)
      refine gg_astore K dL_joined_15 (by decide) ?_
      refine gg_iconst K (v := 1) dL_joined_17 (by decide) ?_
      exact gg_x (gg_iret K hr dL_joined_18 (Nat.le_of_ble_eq_true rfl) (Nat.le_of_ble_eq_true rfl) ⟨1, 0, k', kp', dr', T', fo, rfl, rfl, ok', hS, fun z => absurd z (by decide)⟩)
    · refine gx_catch K T9 htab [⟨0, 12, 15, 13⟩] ⟨0, 12, 19, 28⟩ [] rfl (List.forall_mem_cons.mpr ⟨⟨by decide, eA, wd_29, List.mem_of_getElem? (i := 4) rfl⟩, (fun _ h => absurd h List.not_mem_nil)⟩) (by decide) (by decide) wd_168 (List.mem_of_getElem? (i := 2) rfl) (fun q9 => ?_)
      refine gg_astore K dL_joined_19 (by decide) ?_
      refine gg_iconst K (v := 2) dL_joined_21 (by decide) ?_
      exact gg_x (gg_iret K hr dL_joined_22 (Nat.le_of_ble_eq_true rfl) (Nat.le_of_ble_eq_true rfl) ⟨2, 0, k', kp', dr', T', fo, rfl, rfl, ok', hS, fun z => absurd z (by decide)⟩)
  obtain ⟨r, k', kp', dr', T', rfl, rfl, ok', hS⟩ := h
  refine gg_i2l K dL_joined_10 ?_
  refine gg_stJ 0 K rfl dL_joined_11 rfl ?_
  refine gg_goto K (tgt := 23) dL_joined_12 (by decide) ?_
  refine gg_iconst K (v := 0) dL_joined_23 (by decide) ?_
  exact gg_x (gg_iret K hr dL_joined_24 (Nat.le_of_ble_eq_true rfl) (Nat.le_of_ble_eq_true rfl) ⟨0, r, k', kp', dr', T', vp_updL fo 0 r.toInt64, rfl, rfl, ok', hS, fun _ => updL_0 _ _⟩)
set_option maxRecDepth 100000 in
theorem h_runs {l : Launch} {Z : ZT} {X : XT} {k kp dr : Nat → Int32} {T o : Nat} {fo : Nat → Int64} (hl0 : l.stackTraces = false) (ok : okX kp T) {t y q : Int32} : mX l Z.1 (ty3 Z) yL_runs (Cond.codeWith yL_runs cL_runs 6 (some .int) [(0, 12, 15, 13), (0, 12, 19, 28)]) (rmk 10 250 8 48) (oJ Z o fo :: wX Z X k kp dr (nI T)) [.ref X.1, .int t, .int y, .int q, .ref o] (hPost Z X o (S_runs (vX k kp T) T t y q)) (fun _ _ => False) := by
  refine mH_intro (own := RL) [(0, .ref X.1), (1, .int t), (2, .int y), (3, .int q), (4, .ref o)] (by decide +kernel) rfl rfl rfl rfl ?_
  intro p e s m args below meth c A K hr T9 htab
  refine gg_aload K dL_runs_0 rfl ?_
  refine gg_iconst K (v := 0) dL_runs_2 (by decide) ?_
  refine gg_aload_n K (i := 0) dL_runs_3 rfl rfl ?_
  refine gg_iload_n K (i := 1) dL_runs_4 rfl rfl ?_
  refine gg_iload_n K (i := 2) dL_runs_5 rfl rfl ?_
  refine gg_iload_n K (i := 3) dL_runs_6 rfl rfl ?_
  refine gg_callJX (wr := [oJ Z o fo]) [1, 2, 3, 4] [0] rfl rfl rfl K T9 k_L_X0_runs (x_runs hl0 ok) 0 (ci := 0) (N := 4) (T := TX0) rfl rfl dL_runs_7 rfl rfl rfl rfl (fun E u h => ?_) (fun v u h => ?_)
  · obtain ⟨c9, k', kp', dr', T', hm, rfl, ok', hS⟩ := h
    simp only [cAB, List.mem_cons, List.not_mem_nil, or_false, Prod.mk.injEq] at hm
    rcases hm with ⟨rfl, rfl⟩ | ⟨rfl, rfl⟩
    · refine gx_catch K T9 htab [] ⟨0, 12, 15, 13⟩ [⟨0, 12, 19, 28⟩] rfl (fun _ h => absurd h List.not_mem_nil) (by decide) (by decide) wd_29 (List.mem_of_getElem? (i := 0) rfl) (fun q9 => ?_)
      refine gg_astore K dL_runs_15 (by decide) ?_
      refine gg_iconst K (v := 1) dL_runs_17 (by decide) ?_
      exact gg_x (gg_iret K hr dL_runs_18 (Nat.le_of_ble_eq_true rfl) (Nat.le_of_ble_eq_true rfl) ⟨1, 0, k', kp', dr', T', fo, rfl, rfl, ok', hS, fun z => absurd z (by decide)⟩)
    · refine gx_catch K T9 htab [⟨0, 12, 15, 13⟩] ⟨0, 12, 19, 28⟩ [] rfl (List.forall_mem_cons.mpr ⟨⟨by decide, eA, wd_29, List.mem_of_getElem? (i := 4) rfl⟩, (fun _ h => absurd h List.not_mem_nil)⟩) (by decide) (by decide) wd_168 (List.mem_of_getElem? (i := 2) rfl) (fun q9 => ?_)
      refine gg_astore K dL_runs_19 (by decide) ?_
      refine gg_iconst K (v := 2) dL_runs_21 (by decide) ?_
      exact gg_x (gg_iret K hr dL_runs_22 (Nat.le_of_ble_eq_true rfl) (Nat.le_of_ble_eq_true rfl) ⟨2, 0, k', kp', dr', T', fo, rfl, rfl, ok', hS, fun z => absurd z (by decide)⟩)
  obtain ⟨r, k', kp', dr', T', rfl, rfl, ok', hS⟩ := h
  refine gg_i2l K dL_runs_10 ?_
  refine gg_stJ 0 K rfl dL_runs_11 rfl ?_
  refine gg_goto K (tgt := 23) dL_runs_12 (by decide) ?_
  refine gg_iconst K (v := 0) dL_runs_23 (by decide) ?_
  exact gg_x (gg_iret K hr dL_runs_24 (Nat.le_of_ble_eq_true rfl) (Nat.le_of_ble_eq_true rfl) ⟨0, r, k', kp', dr', T', vp_updL fo 0 r.toInt64, rfl, rfl, ok', hS, fun _ => updL_0 _ _⟩)
set_option maxRecDepth 100000 in
theorem h_run {l : Launch} {Z : ZT} {X : XT} {k kp dr : Nat → Int32} {T o : Nat} {fo : Nat → Int64} (hl0 : l.stackTraces = false) (ok : okX kp T) {t y q w9 : Int32} : mX l Z.1 (ty3 Z) yL_run (Cond.codeWith yL_run cL_run 7 (some .int) [(0, 14, 17, 13), (0, 14, 21, 28)]) (rmk 10 250 8 48) (oJ Z o fo :: wX Z X k kp dr (nI T)) [.ref X.1, .int t, .int y, .int q, .int w9, .ref o] (hPost Z X o (S_run (vX k kp T) T t y q w9)) (fun _ _ => False) := by
  refine mH_intro (own := RL) [(0, .ref X.1), (1, .int t), (2, .int y), (3, .int q), (4, .int w9), (5, .ref o)] (by decide +kernel) rfl rfl rfl rfl ?_
  intro p e s m args below meth c A K hr T9 htab
  refine gg_aload K dL_run_0 rfl ?_
  refine gg_iconst K (v := 0) dL_run_2 (by decide) ?_
  refine gg_aload_n K (i := 0) dL_run_3 rfl rfl ?_
  refine gg_iload_n K (i := 1) dL_run_4 rfl rfl ?_
  refine gg_iload_n K (i := 2) dL_run_5 rfl rfl ?_
  refine gg_iload_n K (i := 3) dL_run_6 rfl rfl ?_
  refine gg_iload K dL_run_7 rfl ?_
  refine gg_callJX (wr := [oJ Z o fo]) [1, 2, 3, 4] [0] rfl rfl rfl K T9 k_L_X0_run (x_run hl0 ok) 0 (ci := 0) (N := 4) (T := TX0) rfl rfl dL_run_9 rfl rfl rfl rfl (fun E u h => ?_) (fun v u h => ?_)
  · obtain ⟨c9, k', kp', dr', T', hm, rfl, ok', hS⟩ := h
    simp only [cAB, List.mem_cons, List.not_mem_nil, or_false, Prod.mk.injEq] at hm
    rcases hm with ⟨rfl, rfl⟩ | ⟨rfl, rfl⟩
    · refine gx_catch K T9 htab [] ⟨0, 14, 17, 13⟩ [⟨0, 14, 21, 28⟩] rfl (fun _ h => absurd h List.not_mem_nil) (by decide) (by decide) wd_29 (List.mem_of_getElem? (i := 0) rfl) (fun q9 => ?_)
      refine gg_astore K dL_run_17 (by decide) ?_
      refine gg_iconst K (v := 1) dL_run_19 (by decide) ?_
      exact gg_x (gg_iret K hr dL_run_20 (Nat.le_of_ble_eq_true rfl) (Nat.le_of_ble_eq_true rfl) ⟨1, 0, k', kp', dr', T', fo, rfl, rfl, ok', hS, fun z => absurd z (by decide)⟩)
    · refine gx_catch K T9 htab [⟨0, 14, 17, 13⟩] ⟨0, 14, 21, 28⟩ [] rfl (List.forall_mem_cons.mpr ⟨⟨by decide, eA, wd_29, List.mem_of_getElem? (i := 4) rfl⟩, (fun _ h => absurd h List.not_mem_nil)⟩) (by decide) (by decide) wd_168 (List.mem_of_getElem? (i := 2) rfl) (fun q9 => ?_)
      refine gg_astore K dL_run_21 (by decide) ?_
      refine gg_iconst K (v := 2) dL_run_23 (by decide) ?_
      exact gg_x (gg_iret K hr dL_run_24 (Nat.le_of_ble_eq_true rfl) (Nat.le_of_ble_eq_true rfl) ⟨2, 0, k', kp', dr', T', fo, rfl, rfl, ok', hS, fun z => absurd z (by decide)⟩)
  obtain ⟨r, k', kp', dr', T', rfl, rfl, ok', hS⟩ := h
  refine gg_i2l K dL_run_12 ?_
  refine gg_stJ 0 K rfl dL_run_13 rfl ?_
  refine gg_goto K (tgt := 25) dL_run_14 (by decide) ?_
  refine gg_iconst K (v := 0) dL_run_25 (by decide) ?_
  exact gg_x (gg_iret K hr dL_run_26 (Nat.le_of_ble_eq_true rfl) (Nat.le_of_ble_eq_true rfl) ⟨0, r, k', kp', dr', T', vp_updL fo 0 r.toInt64, rfl, rfl, ok', hS, fun _ => updL_0 _ _⟩)
set_option maxRecDepth 100000 in
theorem h_joinedRuns {l : Launch} {Z : ZT} {X : XT} {k kp dr : Nat → Int32} {T o : Nat} {fo : Nat → Int64} (hl0 : l.stackTraces = false) (ok : okX kp T) (hv : valOk (vX k kp T) T) {y q : Int32} : mX l Z.1 (ty3 Z) yL_joinedRuns (Cond.codeWith yL_joinedRuns cL_joinedRuns 5 (some .int) [(0, 10, 13, 13), (0, 10, 17, 28)]) (rmk 10 250 8 48) (oJ Z o fo :: wX Z X k kp dr (nI T)) [.ref X.1, .int y, .int q, .ref o] (hPost Z X o (S_joinedRuns (vX k kp T) T y q)) (fun _ _ => False) := by
  refine mH_intro (own := RL) [(0, .ref X.1), (1, .int y), (2, .int q), (3, .ref o)] (by decide +kernel) rfl rfl rfl rfl ?_
  intro p e s m args below meth c A K hr T9 htab
  refine gg_aload_n K (i := 3) dL_joinedRuns_0 rfl rfl ?_
  refine gg_iconst K (v := 0) dL_joinedRuns_1 (by decide) ?_
  refine gg_aload_n K (i := 0) dL_joinedRuns_2 rfl rfl ?_
  refine gg_iload_n K (i := 1) dL_joinedRuns_3 rfl rfl ?_
  refine gg_iload_n K (i := 2) dL_joinedRuns_4 rfl rfl ?_
  refine gg_callJX (wr := [oJ Z o fo]) [1, 2, 3, 4] [0] rfl rfl rfl K T9 k_L_X0_joinedRuns (x_joinedRuns hl0 ok hv) 0 (ci := 0) (N := 4) (T := TX0) rfl rfl dL_joinedRuns_5 rfl rfl rfl rfl (fun E u h => ?_) (fun v u h => ?_)
  · obtain ⟨c9, k', kp', dr', T', hm, rfl, ok', hS⟩ := h
    simp only [cAB, List.mem_cons, List.not_mem_nil, or_false, Prod.mk.injEq] at hm
    rcases hm with ⟨rfl, rfl⟩ | ⟨rfl, rfl⟩
    · refine gx_catch K T9 htab [] ⟨0, 10, 13, 13⟩ [⟨0, 10, 17, 28⟩] rfl (fun _ h => absurd h List.not_mem_nil) (by decide) (by decide) wd_29 (List.mem_of_getElem? (i := 0) rfl) (fun q9 => ?_)
      refine gg_astore K dL_joinedRuns_13 (by decide) ?_
      refine gg_iconst K (v := 1) dL_joinedRuns_15 (by decide) ?_
      exact gg_x (gg_iret K hr dL_joinedRuns_16 (Nat.le_of_ble_eq_true rfl) (Nat.le_of_ble_eq_true rfl) ⟨1, 0, k', kp', dr', T', fo, rfl, rfl, ok', hS, fun z => absurd z (by decide)⟩)
    · refine gx_catch K T9 htab [⟨0, 10, 13, 13⟩] ⟨0, 10, 17, 28⟩ [] rfl (List.forall_mem_cons.mpr ⟨⟨by decide, eA, wd_29, List.mem_of_getElem? (i := 4) rfl⟩, (fun _ h => absurd h List.not_mem_nil)⟩) (by decide) (by decide) wd_168 (List.mem_of_getElem? (i := 2) rfl) (fun q9 => ?_)
      refine gg_astore K dL_joinedRuns_17 (by decide) ?_
      refine gg_iconst K (v := 2) dL_joinedRuns_19 (by decide) ?_
      exact gg_x (gg_iret K hr dL_joinedRuns_20 (Nat.le_of_ble_eq_true rfl) (Nat.le_of_ble_eq_true rfl) ⟨2, 0, k', kp', dr', T', fo, rfl, rfl, ok', hS, fun z => absurd z (by decide)⟩)
  obtain ⟨r, k', kp', dr', T', rfl, rfl, ok', hS⟩ := h
  refine gg_i2l K dL_joinedRuns_8 ?_
  refine gg_stJ 0 K rfl dL_joinedRuns_9 rfl ?_
  refine gg_goto K (tgt := 21) dL_joinedRuns_10 (by decide) ?_
  refine gg_iconst K (v := 0) dL_joinedRuns_21 (by decide) ?_
  exact gg_x (gg_iret K hr dL_joinedRuns_22 (Nat.le_of_ble_eq_true rfl) (Nat.le_of_ble_eq_true rfl) ⟨0, r, k', kp', dr', T', vp_updL fo 0 r.toInt64, rfl, rfl, ok', hS, fun _ => updL_0 _ _⟩)
set_option maxRecDepth 100000 in
theorem h_rows {l : Launch} {Z : ZT} {X : XT} {k kp dr : Nat → Int32} {T o : Nat} {fo : Nat → Int64} (hl0 : l.stackTraces = false) (ok : okX kp T) {t y : Int32} : mX l Z.1 (ty3 Z) yL_rows (Cond.codeWith yL_rows cL_rows 5 (some .int) [(0, 10, 13, 13)]) (rmk 10 250 8 48) (oJ Z o fo :: wX Z X k kp dr (nI T)) [.ref X.1, .int t, .int y, .ref o] (hPost Z X o (S_rows (vX k kp T) T t y)) (fun _ _ => False) := by
  refine mH_intro (own := RL) [(0, .ref X.1), (1, .int t), (2, .int y), (3, .ref o)] (by decide +kernel) rfl rfl rfl rfl ?_
  intro p e s m args below meth c A K hr T9 htab
  refine gg_aload_n K (i := 3) dL_rows_0 rfl rfl ?_
  refine gg_iconst K (v := 0) dL_rows_1 (by decide) ?_
  refine gg_aload_n K (i := 0) dL_rows_2 rfl rfl ?_
  refine gg_iload_n K (i := 1) dL_rows_3 rfl rfl ?_
  refine gg_iload_n K (i := 2) dL_rows_4 rfl rfl ?_
  refine gg_callJX (wr := [oJ Z o fo]) [1, 2, 3, 4] [0] rfl rfl rfl K T9 k_L_X0_rows (x_rows hl0 ok) 0 (ci := 0) (N := 4) (T := TX0) rfl rfl dL_rows_5 rfl rfl rfl rfl (fun E u h => ?_) (fun v u h => ?_)
  · obtain ⟨c9, k', kp', dr', T', hm, rfl, ok', hS⟩ := h
    simp only [cA1, List.mem_cons, List.not_mem_nil, or_false, Prod.mk.injEq] at hm
    obtain ⟨rfl, rfl⟩ := hm
    refine gx_catch K T9 htab [] ⟨0, 10, 13, 13⟩ [] rfl (fun _ h => absurd h List.not_mem_nil) (by decide) (by decide) wd_29 (List.mem_of_getElem? (i := 0) rfl) (fun q9 => ?_)
    refine gg_astore K dL_rows_13 (by decide) ?_
    refine gg_iconst K (v := 1) dL_rows_15 (by decide) ?_
    exact gg_x (gg_iret K hr dL_rows_16 (Nat.le_of_ble_eq_true rfl) (Nat.le_of_ble_eq_true rfl) ⟨1, 0, k', kp', dr', T', fo, rfl, rfl, ok', hS, fun z => absurd z (by decide)⟩)
  obtain ⟨r, k', kp', dr', T', rfl, rfl, ok', hS⟩ := h
  refine gg_i2l K dL_rows_8 ?_
  refine gg_stJ 0 K rfl dL_rows_9 rfl ?_
  refine gg_goto K (tgt := 17) dL_rows_10 (by decide) ?_
  refine gg_iconst K (v := 0) dL_rows_17 (by decide) ?_
  exact gg_x (gg_iret K hr dL_rows_18 (Nat.le_of_ble_eq_true rfl) (Nat.le_of_ble_eq_true rfl) ⟨0, r, k', kp', dr', T', vp_updL fo 0 r.toInt64, rfl, rfl, ok', hS, fun _ => updL_0 _ _⟩)
set_option maxRecDepth 100000 in
theorem h_rowRun {l : Launch} {Z : ZT} {X : XT} {k kp dr : Nat → Int32} {T o : Nat} {fo : Nat → Int64} (hl0 : l.stackTraces = false) (ok : okX kp T) {t y w9 : Int32} : mX l Z.1 (ty3 Z) yL_rowRun (Cond.codeWith yL_rowRun cL_rowRun 6 (some .int) [(0, 12, 15, 13), (0, 12, 19, 28)]) (rmk 10 250 8 48) (oJ Z o fo :: wX Z X k kp dr (nI T)) [.ref X.1, .int t, .int y, .int w9, .ref o] (hPost Z X o (S_rowRun (vX k kp T) T t y w9)) (fun _ _ => False) := by
  refine mH_intro (own := RL) [(0, .ref X.1), (1, .int t), (2, .int y), (3, .int w9), (4, .ref o)] (by decide +kernel) rfl rfl rfl rfl ?_
  intro p e s m args below meth c A K hr T9 htab
  refine gg_aload K dL_rowRun_0 rfl ?_
  refine gg_iconst K (v := 0) dL_rowRun_2 (by decide) ?_
  refine gg_aload_n K (i := 0) dL_rowRun_3 rfl rfl ?_
  refine gg_iload_n K (i := 1) dL_rowRun_4 rfl rfl ?_
  refine gg_iload_n K (i := 2) dL_rowRun_5 rfl rfl ?_
  refine gg_iload_n K (i := 3) dL_rowRun_6 rfl rfl ?_
  refine gg_callJX (wr := [oJ Z o fo]) [1, 2, 3, 4] [0] rfl rfl rfl K T9 k_L_X0_rowRun (x_rowRun hl0 ok) 0 (ci := 0) (N := 4) (T := TX0) rfl rfl dL_rowRun_7 rfl rfl rfl rfl (fun E u h => ?_) (fun v u h => ?_)
  · obtain ⟨c9, k', kp', dr', T', hm, rfl, ok', hS⟩ := h
    simp only [cAB, List.mem_cons, List.not_mem_nil, or_false, Prod.mk.injEq] at hm
    rcases hm with ⟨rfl, rfl⟩ | ⟨rfl, rfl⟩
    · refine gx_catch K T9 htab [] ⟨0, 12, 15, 13⟩ [⟨0, 12, 19, 28⟩] rfl (fun _ h => absurd h List.not_mem_nil) (by decide) (by decide) wd_29 (List.mem_of_getElem? (i := 0) rfl) (fun q9 => ?_)
      refine gg_astore K dL_rowRun_15 (by decide) ?_
      refine gg_iconst K (v := 1) dL_rowRun_17 (by decide) ?_
      exact gg_x (gg_iret K hr dL_rowRun_18 (Nat.le_of_ble_eq_true rfl) (Nat.le_of_ble_eq_true rfl) ⟨1, 0, k', kp', dr', T', fo, rfl, rfl, ok', hS, fun z => absurd z (by decide)⟩)
    · refine gx_catch K T9 htab [⟨0, 12, 15, 13⟩] ⟨0, 12, 19, 28⟩ [] rfl (List.forall_mem_cons.mpr ⟨⟨by decide, eA, wd_29, List.mem_of_getElem? (i := 4) rfl⟩, (fun _ h => absurd h List.not_mem_nil)⟩) (by decide) (by decide) wd_168 (List.mem_of_getElem? (i := 2) rfl) (fun q9 => ?_)
      refine gg_astore K dL_rowRun_19 (by decide) ?_
      refine gg_iconst K (v := 2) dL_rowRun_21 (by decide) ?_
      exact gg_x (gg_iret K hr dL_rowRun_22 (Nat.le_of_ble_eq_true rfl) (Nat.le_of_ble_eq_true rfl) ⟨2, 0, k', kp', dr', T', fo, rfl, rfl, ok', hS, fun z => absurd z (by decide)⟩)
  obtain ⟨r, k', kp', dr', T', rfl, rfl, ok', hS⟩ := h
  refine gg_i2l K dL_rowRun_10 ?_
  refine gg_stJ 0 K rfl dL_rowRun_11 rfl ?_
  refine gg_goto K (tgt := 23) dL_rowRun_12 (by decide) ?_
  refine gg_iconst K (v := 0) dL_rowRun_23 (by decide) ?_
  exact gg_x (gg_iret K hr dL_rowRun_24 (Nat.le_of_ble_eq_true rfl) (Nat.le_of_ble_eq_true rfl) ⟨0, r, k', kp', dr', T', vp_updL fo 0 r.toInt64, rfl, rfl, ok', hS, fun _ => updL_0 _ _⟩)
set_option maxRecDepth 100000 in
theorem h_rowFrom {l : Launch} {Z : ZT} {X : XT} {k kp dr : Nat → Int32} {T o : Nat} {fo : Nat → Int64} (hl0 : l.stackTraces = false) (ok : okX kp T) {t y w9 : Int32} : mX l Z.1 (ty3 Z) yL_rowFrom (Cond.codeWith yL_rowFrom cL_rowFrom 6 (some .int) [(0, 12, 15, 13), (0, 12, 19, 28)]) (rmk 10 250 8 48) (oJ Z o fo :: wX Z X k kp dr (nI T)) [.ref X.1, .int t, .int y, .int w9, .ref o] (hPost Z X o (S_rowFrom (vX k kp T) T t y w9)) (fun _ _ => False) := by
  refine mH_intro (own := RL) [(0, .ref X.1), (1, .int t), (2, .int y), (3, .int w9), (4, .ref o)] (by decide +kernel) rfl rfl rfl rfl ?_
  intro p e s m args below meth c A K hr T9 htab
  refine gg_aload K dL_rowFrom_0 rfl ?_
  refine gg_iconst K (v := 0) dL_rowFrom_2 (by decide) ?_
  refine gg_aload_n K (i := 0) dL_rowFrom_3 rfl rfl ?_
  refine gg_iload_n K (i := 1) dL_rowFrom_4 rfl rfl ?_
  refine gg_iload_n K (i := 2) dL_rowFrom_5 rfl rfl ?_
  refine gg_iload_n K (i := 3) dL_rowFrom_6 rfl rfl ?_
  refine gg_callJX (wr := [oJ Z o fo]) [1, 2, 3, 4] [0] rfl rfl rfl K T9 k_L_X0_rowFrom (x_rowFrom hl0 ok) 0 (ci := 0) (N := 4) (T := TX0) rfl rfl dL_rowFrom_7 rfl rfl rfl rfl (fun E u h => ?_) (fun v u h => ?_)
  · obtain ⟨c9, k', kp', dr', T', hm, rfl, ok', hS⟩ := h
    simp only [cAB, List.mem_cons, List.not_mem_nil, or_false, Prod.mk.injEq] at hm
    rcases hm with ⟨rfl, rfl⟩ | ⟨rfl, rfl⟩
    · refine gx_catch K T9 htab [] ⟨0, 12, 15, 13⟩ [⟨0, 12, 19, 28⟩] rfl (fun _ h => absurd h List.not_mem_nil) (by decide) (by decide) wd_29 (List.mem_of_getElem? (i := 0) rfl) (fun q9 => ?_)
      refine gg_astore K dL_rowFrom_15 (by decide) ?_
      refine gg_iconst K (v := 1) dL_rowFrom_17 (by decide) ?_
      exact gg_x (gg_iret K hr dL_rowFrom_18 (Nat.le_of_ble_eq_true rfl) (Nat.le_of_ble_eq_true rfl) ⟨1, 0, k', kp', dr', T', fo, rfl, rfl, ok', hS, fun z => absurd z (by decide)⟩)
    · refine gx_catch K T9 htab [⟨0, 12, 15, 13⟩] ⟨0, 12, 19, 28⟩ [] rfl (List.forall_mem_cons.mpr ⟨⟨by decide, eA, wd_29, List.mem_of_getElem? (i := 4) rfl⟩, (fun _ h => absurd h List.not_mem_nil)⟩) (by decide) (by decide) wd_168 (List.mem_of_getElem? (i := 2) rfl) (fun q9 => ?_)
      refine gg_astore K dL_rowFrom_19 (by decide) ?_
      refine gg_iconst K (v := 2) dL_rowFrom_21 (by decide) ?_
      exact gg_x (gg_iret K hr dL_rowFrom_22 (Nat.le_of_ble_eq_true rfl) (Nat.le_of_ble_eq_true rfl) ⟨2, 0, k', kp', dr', T', fo, rfl, rfl, ok', hS, fun z => absurd z (by decide)⟩)
  obtain ⟨r, k', kp', dr', T', rfl, rfl, ok', hS⟩ := h
  refine gg_i2l K dL_rowFrom_10 ?_
  refine gg_stJ 0 K rfl dL_rowFrom_11 rfl ?_
  refine gg_goto K (tgt := 23) dL_rowFrom_12 (by decide) ?_
  refine gg_iconst K (v := 0) dL_rowFrom_23 (by decide) ?_
  exact gg_x (gg_iret K hr dL_rowFrom_24 (Nat.le_of_ble_eq_true rfl) (Nat.le_of_ble_eq_true rfl) ⟨0, r, k', kp', dr', T', vp_updL fo 0 r.toInt64, rfl, rfl, ok', hS, fun _ => updL_0 _ _⟩)
set_option maxRecDepth 100000 in
theorem h_rowTo {l : Launch} {Z : ZT} {X : XT} {k kp dr : Nat → Int32} {T o : Nat} {fo : Nat → Int64} (hl0 : l.stackTraces = false) (ok : okX kp T) {t y w9 : Int32} : mX l Z.1 (ty3 Z) yL_rowTo (Cond.codeWith yL_rowTo cL_rowTo 6 (some .int) [(0, 12, 15, 13), (0, 12, 19, 28)]) (rmk 10 250 8 48) (oJ Z o fo :: wX Z X k kp dr (nI T)) [.ref X.1, .int t, .int y, .int w9, .ref o] (hPost Z X o (S_rowTo (vX k kp T) T t y w9)) (fun _ _ => False) := by
  refine mH_intro (own := RL) [(0, .ref X.1), (1, .int t), (2, .int y), (3, .int w9), (4, .ref o)] (by decide +kernel) rfl rfl rfl rfl ?_
  intro p e s m args below meth c A K hr T9 htab
  refine gg_aload K dL_rowTo_0 rfl ?_
  refine gg_iconst K (v := 0) dL_rowTo_2 (by decide) ?_
  refine gg_aload_n K (i := 0) dL_rowTo_3 rfl rfl ?_
  refine gg_iload_n K (i := 1) dL_rowTo_4 rfl rfl ?_
  refine gg_iload_n K (i := 2) dL_rowTo_5 rfl rfl ?_
  refine gg_iload_n K (i := 3) dL_rowTo_6 rfl rfl ?_
  refine gg_callJX (wr := [oJ Z o fo]) [1, 2, 3, 4] [0] rfl rfl rfl K T9 k_L_X0_rowTo (x_rowTo hl0 ok) 0 (ci := 0) (N := 4) (T := TX0) rfl rfl dL_rowTo_7 rfl rfl rfl rfl (fun E u h => ?_) (fun v u h => ?_)
  · obtain ⟨c9, k', kp', dr', T', hm, rfl, ok', hS⟩ := h
    simp only [cAB, List.mem_cons, List.not_mem_nil, or_false, Prod.mk.injEq] at hm
    rcases hm with ⟨rfl, rfl⟩ | ⟨rfl, rfl⟩
    · refine gx_catch K T9 htab [] ⟨0, 12, 15, 13⟩ [⟨0, 12, 19, 28⟩] rfl (fun _ h => absurd h List.not_mem_nil) (by decide) (by decide) wd_29 (List.mem_of_getElem? (i := 0) rfl) (fun q9 => ?_)
      refine gg_astore K dL_rowTo_15 (by decide) ?_
      refine gg_iconst K (v := 1) dL_rowTo_17 (by decide) ?_
      exact gg_x (gg_iret K hr dL_rowTo_18 (Nat.le_of_ble_eq_true rfl) (Nat.le_of_ble_eq_true rfl) ⟨1, 0, k', kp', dr', T', fo, rfl, rfl, ok', hS, fun z => absurd z (by decide)⟩)
    · refine gx_catch K T9 htab [⟨0, 12, 15, 13⟩] ⟨0, 12, 19, 28⟩ [] rfl (List.forall_mem_cons.mpr ⟨⟨by decide, eA, wd_29, List.mem_of_getElem? (i := 4) rfl⟩, (fun _ h => absurd h List.not_mem_nil)⟩) (by decide) (by decide) wd_168 (List.mem_of_getElem? (i := 2) rfl) (fun q9 => ?_)
      refine gg_astore K dL_rowTo_19 (by decide) ?_
      refine gg_iconst K (v := 2) dL_rowTo_21 (by decide) ?_
      exact gg_x (gg_iret K hr dL_rowTo_22 (Nat.le_of_ble_eq_true rfl) (Nat.le_of_ble_eq_true rfl) ⟨2, 0, k', kp', dr', T', fo, rfl, rfl, ok', hS, fun z => absurd z (by decide)⟩)
  obtain ⟨r, k', kp', dr', T', rfl, rfl, ok', hS⟩ := h
  refine gg_i2l K dL_rowTo_10 ?_
  refine gg_stJ 0 K rfl dL_rowTo_11 rfl ?_
  refine gg_goto K (tgt := 23) dL_rowTo_12 (by decide) ?_
  refine gg_iconst K (v := 0) dL_rowTo_23 (by decide) ?_
  exact gg_x (gg_iret K hr dL_rowTo_24 (Nat.le_of_ble_eq_true rfl) (Nat.le_of_ble_eq_true rfl) ⟨0, r, k', kp', dr', T', vp_updL fo 0 r.toInt64, rfl, rfl, ok', hS, fun _ => updL_0 _ _⟩)
set_option maxRecDepth 100000 in
theorem h_corrections {l : Launch} {Z : ZT} {X : XT} {k kp dr : Nat → Int32} {T o : Nat} {fo : Nat → Int64} (hl0 : l.stackTraces = false) (ok : okX kp T) {t y d f q : Int32} : mX l Z.1 (ty3 Z) yL_corrections (Cond.codeWith yL_corrections cL_corrections 8 (some .int) [(0, 16, 19, 13), (0, 16, 23, 28)]) (rmk 10 250 8 48) (oJ Z o fo :: wX Z X k kp dr (nI T)) [.ref X.1, .int t, .int y, .int d, .int f, .int q, .ref o] (hPost Z X o (S_corrections (vX k kp T) T t y d f q)) (fun _ _ => False) := by
  refine mH_intro (own := RL) [(0, .ref X.1), (1, .int t), (2, .int y), (3, .int d), (4, .int f), (5, .int q), (6, .ref o)] (by decide +kernel) rfl rfl rfl rfl ?_
  intro p e s m args below meth c A K hr T9 htab
  refine gg_aload K dL_corrections_0 rfl ?_
  refine gg_iconst K (v := 0) dL_corrections_2 (by decide) ?_
  refine gg_aload_n K (i := 0) dL_corrections_3 rfl rfl ?_
  refine gg_iload_n K (i := 1) dL_corrections_4 rfl rfl ?_
  refine gg_iload_n K (i := 2) dL_corrections_5 rfl rfl ?_
  refine gg_iload_n K (i := 3) dL_corrections_6 rfl rfl ?_
  refine gg_iload K dL_corrections_7 rfl ?_
  refine gg_iload K dL_corrections_9 rfl ?_
  refine gg_callJX (wr := [oJ Z o fo]) [1, 2, 3, 4] [0] rfl rfl rfl K T9 k_L_X0_corrections (x_corrections hl0 ok) 0 (ci := 0) (N := 4) (T := TX0) rfl rfl dL_corrections_11 rfl rfl rfl rfl (fun E u h => ?_) (fun v u h => ?_)
  · obtain ⟨c9, k', kp', dr', T', hm, rfl, ok', hS⟩ := h
    simp only [cAB, List.mem_cons, List.not_mem_nil, or_false, Prod.mk.injEq] at hm
    rcases hm with ⟨rfl, rfl⟩ | ⟨rfl, rfl⟩
    · refine gx_catch K T9 htab [] ⟨0, 16, 19, 13⟩ [⟨0, 16, 23, 28⟩] rfl (fun _ h => absurd h List.not_mem_nil) (by decide) (by decide) wd_29 (List.mem_of_getElem? (i := 0) rfl) (fun q9 => ?_)
      refine gg_astore K dL_corrections_19 (by decide) ?_
      refine gg_iconst K (v := 1) dL_corrections_21 (by decide) ?_
      exact gg_x (gg_iret K hr dL_corrections_22 (Nat.le_of_ble_eq_true rfl) (Nat.le_of_ble_eq_true rfl) ⟨1, 0, k', kp', dr', T', fo, rfl, rfl, ok', hS, fun z => absurd z (by decide)⟩)
    · refine gx_catch K T9 htab [⟨0, 16, 19, 13⟩] ⟨0, 16, 23, 28⟩ [] rfl (List.forall_mem_cons.mpr ⟨⟨by decide, eA, wd_29, List.mem_of_getElem? (i := 4) rfl⟩, (fun _ h => absurd h List.not_mem_nil)⟩) (by decide) (by decide) wd_168 (List.mem_of_getElem? (i := 2) rfl) (fun q9 => ?_)
      refine gg_astore K dL_corrections_23 (by decide) ?_
      refine gg_iconst K (v := 2) dL_corrections_25 (by decide) ?_
      exact gg_x (gg_iret K hr dL_corrections_26 (Nat.le_of_ble_eq_true rfl) (Nat.le_of_ble_eq_true rfl) ⟨2, 0, k', kp', dr', T', fo, rfl, rfl, ok', hS, fun z => absurd z (by decide)⟩)
  obtain ⟨r, k', kp', dr', T', rfl, rfl, ok', hS⟩ := h
  refine gg_i2l K dL_corrections_14 ?_
  refine gg_stJ 0 K rfl dL_corrections_15 rfl ?_
  refine gg_goto K (tgt := 27) dL_corrections_16 (by decide) ?_
  refine gg_iconst K (v := 0) dL_corrections_27 (by decide) ?_
  exact gg_x (gg_iret K hr dL_corrections_28 (Nat.le_of_ble_eq_true rfl) (Nat.le_of_ble_eq_true rfl) ⟨0, r, k', kp', dr', T', vp_updL fo 0 r.toInt64, rfl, rfl, ok', hS, fun _ => updL_0 _ _⟩)
set_option maxRecDepth 100000 in
theorem h_longest {l : Launch} {Z : ZT} {X : XT} {k kp dr : Nat → Int32} {T o : Nat} {fo : Nat → Int64} (hl0 : l.stackTraces = false) (ok : okX kp T) {t y q : Int32} : mX l Z.1 (ty3 Z) yL_longest (Cond.codeWith yL_longest cL_longest 6 (some .int) [(0, 12, 15, 13), (0, 12, 19, 28)]) (rmk 10 250 8 48) (oJ Z o fo :: wX Z X k kp dr (nI T)) [.ref X.1, .int t, .int y, .int q, .ref o] (hPost Z X o (S_longest (vX k kp T) T t y q)) (fun _ _ => False) := by
  refine mH_intro (own := RL) [(0, .ref X.1), (1, .int t), (2, .int y), (3, .int q), (4, .ref o)] (by decide +kernel) rfl rfl rfl rfl ?_
  intro p e s m args below meth c A K hr T9 htab
  refine gg_aload K dL_longest_0 rfl ?_
  refine gg_iconst K (v := 0) dL_longest_2 (by decide) ?_
  refine gg_aload_n K (i := 0) dL_longest_3 rfl rfl ?_
  refine gg_iload_n K (i := 1) dL_longest_4 rfl rfl ?_
  refine gg_iload_n K (i := 2) dL_longest_5 rfl rfl ?_
  refine gg_iload_n K (i := 3) dL_longest_6 rfl rfl ?_
  refine gg_callJX (wr := [oJ Z o fo]) [1, 2, 3, 4] [0] rfl rfl rfl K T9 k_L_X0_longest (x_longest hl0 ok) 0 (ci := 0) (N := 4) (T := TX0) rfl rfl dL_longest_7 rfl rfl rfl rfl (fun E u h => ?_) (fun v u h => ?_)
  · obtain ⟨c9, k', kp', dr', T', hm, rfl, ok', hS⟩ := h
    simp only [cAB, List.mem_cons, List.not_mem_nil, or_false, Prod.mk.injEq] at hm
    rcases hm with ⟨rfl, rfl⟩ | ⟨rfl, rfl⟩
    · refine gx_catch K T9 htab [] ⟨0, 12, 15, 13⟩ [⟨0, 12, 19, 28⟩] rfl (fun _ h => absurd h List.not_mem_nil) (by decide) (by decide) wd_29 (List.mem_of_getElem? (i := 0) rfl) (fun q9 => ?_)
      refine gg_astore K dL_longest_15 (by decide) ?_
      refine gg_iconst K (v := 1) dL_longest_17 (by decide) ?_
      exact gg_x (gg_iret K hr dL_longest_18 (Nat.le_of_ble_eq_true rfl) (Nat.le_of_ble_eq_true rfl) ⟨1, 0, k', kp', dr', T', fo, rfl, rfl, ok', hS, fun z => absurd z (by decide)⟩)
    · refine gx_catch K T9 htab [⟨0, 12, 15, 13⟩] ⟨0, 12, 19, 28⟩ [] rfl (List.forall_mem_cons.mpr ⟨⟨by decide, eA, wd_29, List.mem_of_getElem? (i := 4) rfl⟩, (fun _ h => absurd h List.not_mem_nil)⟩) (by decide) (by decide) wd_168 (List.mem_of_getElem? (i := 2) rfl) (fun q9 => ?_)
      refine gg_astore K dL_longest_19 (by decide) ?_
      refine gg_iconst K (v := 2) dL_longest_21 (by decide) ?_
      exact gg_x (gg_iret K hr dL_longest_22 (Nat.le_of_ble_eq_true rfl) (Nat.le_of_ble_eq_true rfl) ⟨2, 0, k', kp', dr', T', fo, rfl, rfl, ok', hS, fun z => absurd z (by decide)⟩)
  obtain ⟨r, k', kp', dr', T', rfl, rfl, ok', hS⟩ := h
  refine gg_i2l K dL_longest_10 ?_
  refine gg_stJ 0 K rfl dL_longest_11 rfl ?_
  refine gg_goto K (tgt := 23) dL_longest_12 (by decide) ?_
  refine gg_iconst K (v := 0) dL_longest_23 (by decide) ?_
  exact gg_x (gg_iret K hr dL_longest_24 (Nat.le_of_ble_eq_true rfl) (Nat.le_of_ble_eq_true rfl) ⟨0, r, k', kp', dr', T', vp_updL fo 0 r.toInt64, rfl, rfl, ok', hS, fun _ => updL_0 _ _⟩)
set_option maxRecDepth 100000 in
theorem h_average {l : Launch} {Z : ZT} {X : XT} {k kp dr : Nat → Int32} {T o : Nat} {fo : Nat → UInt64} (hl0 : l.stackTraces = false) (ok : okX kp T) (hv : valOk (vX k kp T) T) {y q : Int32} : mX l Z.1 (ty3 Z) yL_average (Cond.codeWith yL_average cL_average 5 (some .int) [(0, 10, 13, 13), (0, 10, 17, 28), (0, 10, 21, 15)]) (rmk 10 250 8 48) (oD Z o fo :: wX Z X k kp dr (nI T)) [.ref X.1, .int y, .int q, .ref o] (hPostF Z X o (S_average (vX k kp T) T y q)) (fun _ _ => False) := by
  refine mH_intro (own := RL) [(0, .ref X.1), (1, .int y), (2, .int q), (3, .ref o)] (by decide +kernel) rfl rfl rfl rfl ?_
  intro p e s m args below meth c A K hr T9 htab
  refine gg_aload_n K (i := 3) dL_average_0 rfl rfl ?_
  refine gg_iconst K (v := 0) dL_average_1 (by decide) ?_
  refine gg_aload_n K (i := 0) dL_average_2 rfl rfl ?_
  refine gg_iload_n K (i := 1) dL_average_3 rfl rfl ?_
  refine gg_iload_n K (i := 2) dL_average_4 rfl rfl ?_
  refine gg_callJX (wr := [oD Z o fo]) [1, 2, 3, 4] [0] rfl rfl rfl K T9 k_L_X0_average (x_average hl0 ok hv) 0 (ci := 0) (N := 4) (T := TX0) rfl rfl dL_average_5 rfl rfl rfl rfl (fun E u h => ?_) (fun v u h => ?_)
  · obtain ⟨c9, k', kp', dr', T', hm, rfl, ok', hS⟩ := h
    simp only [cABS, List.mem_cons, List.not_mem_nil, or_false, Prod.mk.injEq] at hm
    rcases hm with ⟨rfl, rfl⟩ | ⟨rfl, rfl⟩ | ⟨rfl, rfl⟩
    · refine gx_catch K T9 htab [] ⟨0, 10, 13, 13⟩ [⟨0, 10, 17, 28⟩, ⟨0, 10, 21, 15⟩] rfl (fun _ h => absurd h List.not_mem_nil) (by decide) (by decide) wd_29 (List.mem_of_getElem? (i := 0) rfl) (fun q9 => ?_)
      refine gg_astore K dL_average_13 (by decide) ?_
      refine gg_iconst K (v := 1) dL_average_15 (by decide) ?_
      exact gg_x (gg_iret K hr dL_average_16 (Nat.le_of_ble_eq_true rfl) (Nat.le_of_ble_eq_true rfl) ⟨1, 0, k', kp', dr', T', fo, rfl, rfl, ok', hS, fun z => absurd z (by decide)⟩)
    · refine gx_catch K T9 htab [⟨0, 10, 13, 13⟩] ⟨0, 10, 17, 28⟩ [⟨0, 10, 21, 15⟩] rfl (List.forall_mem_cons.mpr ⟨⟨by decide, eA, wd_29, List.mem_of_getElem? (i := 4) rfl⟩, (fun _ h => absurd h List.not_mem_nil)⟩) (by decide) (by decide) wd_168 (List.mem_of_getElem? (i := 2) rfl) (fun q9 => ?_)
      refine gg_astore K dL_average_17 (by decide) ?_
      refine gg_iconst K (v := 2) dL_average_19 (by decide) ?_
      exact gg_x (gg_iret K hr dL_average_20 (Nat.le_of_ble_eq_true rfl) (Nat.le_of_ble_eq_true rfl) ⟨2, 0, k', kp', dr', T', fo, rfl, rfl, ok', hS, fun z => absurd z (by decide)⟩)
    · refine gx_catch K T9 htab [⟨0, 10, 13, 13⟩, ⟨0, 10, 17, 28⟩] ⟨0, 10, 21, 15⟩ [] rfl (List.forall_mem_cons.mpr ⟨⟨by decide, eA, wd_29, List.mem_of_getElem? (i := 2) rfl⟩, (List.forall_mem_cons.mpr ⟨⟨by decide, eB, wd_168, List.mem_of_getElem? (i := 3) rfl⟩, (fun _ h => absurd h List.not_mem_nil)⟩)⟩) (by decide) (by decide) wd_30 (List.mem_of_getElem? (i := 1) rfl) (fun q9 => ?_)
      refine gg_astore K dL_average_21 (by decide) ?_
      refine gg_iconst K (v := 3) dL_average_23 (by decide) ?_
      exact gg_x (gg_iret K hr dL_average_24 (Nat.le_of_ble_eq_true rfl) (Nat.le_of_ble_eq_true rfl) ⟨3, 0, k', kp', dr', T', fo, rfl, rfl, ok', hS, fun z => absurd z (by decide)⟩)
  obtain ⟨r, k', kp', dr', T', rfl, rfl, ok', hS⟩ := h
  have hn : vf_n64 (FP.f2d r) := by
    refine vf_n64_of (f2d_num ?_)
    obtain ⟨-, -, ⟨-, z⟩ | ⟨-, -, z⟩ | ⟨-, -, -, z⟩ | ⟨hP1, hP2, h0, -, rfl⟩⟩ := hS
    · exact absurd z (by decide)
    · exact absurd z (by decide)
    · exact absurd z (by decide)
    have ⟨g1, g2⟩ := inR_N (b := 60) hP1.2
    have ⟨g3, g4⟩ := inR_N (b := 8) hP1.1
    rw [g2] at hP2
    have g5 := i_le (b := T) hP2 (by omega) (by have := ok.1; omega)
    refine avF_num (fun d hd => ?_) (Nat.pos_of_ne_zero h0) (fb_ct_le _ 60)
    rcases hv _ _ d g5 (show nN y < 16 by omega) hd with z | ⟨j, z1, z2, -⟩
    · exact Or.inl z
    · exact Or.inr ⟨j, z1, z2⟩
  refine gg_f2d K dL_average_8 hn ?_
  refine gg_stD 0 K rfl dL_average_9 rfl ?_
  refine gg_goto K (tgt := 25) dL_average_10 (by decide) ?_
  refine gg_iconst K (v := 0) dL_average_25 (by decide) ?_
  exact gg_x (gg_iret K hr dL_average_26 (Nat.le_of_ble_eq_true rfl) (Nat.le_of_ble_eq_true rfl) ⟨0, r, k', kp', dr', T', vf_upd fo 0 (FP.f2d r), rfl, rfl, ok', hS, fun _ => updD_0 _ _⟩)
