/-! the law's loop: its world, its calls, its cases -/
theorem av_num {V V1 : VT} {T T1 : Nat} {y q : Int32} {r : UInt32} (hT : T < 60) (hv : valOk V T) (hS : S_average V T y q 0 r V1 T1) : FP.Core.val32 r ≠ .nan := by
  obtain ⟨-, -, ⟨-, z⟩ | ⟨-, -, z⟩ | ⟨-, -, -, z⟩ | ⟨hP1, hP2, h0, -, rfl⟩⟩ := hS
  · exact absurd z (by decide)
  · exact absurd z (by decide)
  · exact absurd z (by decide)
  have ⟨g1, g2⟩ := inR_N (b := 60) hP1.2
  have ⟨g3, g4⟩ := inR_N (b := 8) hP1.1
  rw [g2] at hP2
  have g5 := i_le (b := T) hP2
  refine avF_num (fun d hd => ?_) (Nat.pos_of_ne_zero h0) (fb_ct_le _ 60)
  rcases hv _ _ d g5 (show nN y < 16 by omega) hd with z | ⟨j, z1, z2, -⟩
  · exact Or.inl z
  · exact Or.inr ⟨j, z1, z2⟩
def wL (Z : ZT) (X : XT) (Y : MT) (oj od : Nat) (k kp dr : Nat → Int32) (td : Int32) (k2 : Nat → Int32) (th tm rf rb re : Int32) (g : Nat → Int64) (gd : Nat → UInt64) : va_W := oJ Z oj g :: oD Z od gd :: (wM Z Y k2 th tm rf rb re ++ wX Z X k kp dr td)
abbrev LH (b : Nat) (X : XT) (Y : MT) (oj od i : Nat) : List (Nat × Value) := [(0, .ref b), (1, .ref X.1), (2, .ref Y.1), (3, .ref oj), (4, .ref od), (5, .int (nI i))]
theorem rOk_law {f lo mc ms maxL cells slots : Nat} (hf : (Nat.ble f 11 && (Nat.ble maxL 20 && Nat.ble lo 300)) = true) (h1 : cells + mc ≤ 601024) (h2 : slots + ms ≤ 7293034) : rOk (rmk f lo mc ms) room_1 maxL cells slots = true := by
  simp only [Bool.and_eq_true] at hf
  have g1 := Nat.le_of_ble_eq_true hf.1
  have g2 := Nat.le_of_ble_eq_true hf.2.1
  have g3 := Nat.le_of_ble_eq_true hf.2.2
  unfold rOk
  simp only [Bool.and_eq_true]
  refine ⟨Nat.ble_eq_true_of_le ?_, Nat.ble_eq_true_of_le ?_, Nat.ble_eq_true_of_le h1, Nat.ble_eq_true_of_le h2⟩
  · show f + 1 ≤ 12
    omega
  · show 8 + (maxL + 11) + lo ≤ 444
    omega
section
variable {p : Program} {l : Launch} {e : Env} {s : State} {m : MethodId} {args : Array Value} {below : List Frame} {meth : Method} {c : Code} {Z : ZT} {A : Nat → Prop} {n cells slots pc : Nat} {Q : State → Prop} {L : List (Nat × Value)} {st rest : List Value} {cc : ByteArray} {ws : va_W} {R : Room}
variable {X : XT} {Y : MT} {oj od : Nat} {k kp dr k2 : Nat → Int32} {td th tm rf rb re : Int32} {T : Nat} {g : Nat → Int64} {gd : Nat → UInt64} {y : MethodName} {cd : ByteArray} {maxL k9 idx : Nat} {ret : Option FieldType} {As : List Value} {hh : List (Nat × Nat × Nat × Nat)}
theorem gg_sld {b Ln : Nat} {xs : Nat → Int32} {D : va_G} {tys : List (ClassId × FieldType)} {own : String} (K : kx p s m args meth c D A tys cc own n) (hX : va_X b Ln xs s s.heap) (hbl : b < s.heap.size) (hbA : ¬ A b) {x : Int32} (j : Nat) (hx : x = nI j) (hj : j < Ln) (hL : Ln ≤ 3072) (hd : decode cc pc = .ok (.iaload, 1)) (kk : gg p l e R s m args below meth c D A n cells slots Q ws (pc + 1) L (.int (xs j) :: st)) : gg p l e R s m args below meth c D A n cells slots Q ws pc L (.int x :: .ref b :: st) := by
  intro H locs ls hP hD hS hl
  subst hx
  refine va_sld K.1.1 K.1.2.1 hX hbl hbA hS (vp_in_nI hj (by omega)) hd ?_
  rw [nI_clamp (by omega)]
  exact kk H locs ls hP hD hS hl
theorem gg_slen {b Ln : Nat} {xs : Nat → Int32} {D : va_G} {tys : List (ClassId × FieldType)} {own : String} (K : kx p s m args meth c D A tys cc own n) (hX : va_X b Ln xs s s.heap) (hbl : b < s.heap.size) (hbA : ¬ A b) (hd : decode cc pc = .ok (.arraylength, 1)) (kk : gg p l e R s m args below meth c D A n cells slots Q ws (pc + 1) L (.int (nI Ln) :: st)) : gg p l e R s m args below meth c D A n cells slots Q ws pc L (.ref b :: st) :=
  fun H locs ls hP hD hS hl => va_slen K.1.1 K.1.2.1 hX hbl hbA hS hd (kk H locs ls hP hD hS hl)
theorem gg_tableIn {dflt lo hi : Int} {offs : Array Int} {len : Nat} {x : Int32} {off : Int} {tgt : Nat} {D : va_G} {tys : List (ClassId × FieldType)} {own : String} (K : kx p s m args meth c D A tys cc own n) (hd : decode cc pc = .ok (.tableswitch dflt lo hi offs, len)) (h1 : ¬ x.toInt < lo) (h2 : ¬ hi < x.toInt) (ho : offs[(x.toInt - lo).toNat]? = some off) (ht : (pc : Int) + off = (tgt : Int)) (kk : gg p l e R s m args below meth c D A n cells slots Q ws tgt L st) : gg p l e R s m args below meth c D A n cells slots Q ws pc L (.int x :: st) :=
  fun H locs ls hP hD hS hl => lv_tableIn K.1.1 K.1.2.1 hd h1 h2 ho ht (kk H locs ls hP hD hS hl)
theorem gg_tableOut {dflt lo hi : Int} {offs : Array Int} {len : Nat} {x : Int32} {tgt : Nat} {D : va_G} {tys : List (ClassId × FieldType)} {own : String} (K : kx p s m args meth c D A tys cc own n) (hd : decode cc pc = .ok (.tableswitch dflt lo hi offs, len)) (h : x.toInt < lo ∨ hi < x.toInt) (ht : (pc : Int) + dflt = (tgt : Int)) (kk : gg p l e R s m args below meth c D A n cells slots Q ws tgt L st) : gg p l e R s m args below meth c D A n cells slots Q ws pc L (.int x :: st) :=
  fun H locs ls hP hD hS hl => lv_tableOut K.1.1 K.1.2.1 hd h ht (kk H locs ls hP hD hS hl)
theorem gg_lawH {S : ST} (K : kx p s m args meth c Z.1 A (ty3 Z) cc RL n) (T9 : te A s s.heap) (ok : okS RL idx y (.codeWith y cd maxL ret hh) k9) (hM : mX l Z.1 (ty3 Z) y (.codeWith y cd maxL ret hh) (rmk 10 250 8 48) (oJ Z oj g :: wX Z X k kp dr td) As (hPost Z X oj S) (fun _ _ => False)) (hd : decode cc pc = .ok (.invokestatic idx, 3)) (hst : st = As.reverse ++ rest) (hAs : As.length = k9) (hf : (Nat.ble 10 11 && (Nat.ble maxL 20 && Nat.ble 250 300)) = true) (h1 : cells + 8 ≤ 601024) (h2 : slots + 48 ≤ 7293034) (hw : c8 rest = true)
    (kk : ∀ (v r : Int32) (k' kp' dr' : Nat → Int32) (T' : Nat) (g' : Nat → Int64), okX kp' T' → S v r (vX k' kp' T') T' → (v = 0 → g' 0 = r.toInt64) → gg p l e room_1 s m args below meth c Z.1 A n (cells + 8) (slots + 48) Q (wL Z X Y oj od k' kp' dr' (nI T') k2 th tm rf rb re g' gd) (pc + 3) L (.int v :: rest)) : gg p l e room_1 s m args below meth c Z.1 A n cells slots Q (wL Z X Y oj od k kp dr td k2 th tm rf rb re g gd) pc L st := by
  refine gg_callJH (wc := oJ Z oj g :: wX Z X k kp dr td) (wr := oD Z od gd :: wM Z Y k2 th tm rf rb re) [0, 4, 5, 6, 7] [1, 2, 3] rfl rfl rfl K T9 ok hM hd hst hAs (rOk_law hf h1 h2) hw (fun v u h => ?_)
  obtain ⟨v, r, k', kp', dr', T', g', rfl, rfl, ok', hS, hg⟩ := h
  exact gg_perm (ws' := wL Z X Y oj od k' kp' dr' (nI T') k2 th tm rf rb re g' gd) [3, 0, 1, 2, 4, 5, 6, 7] rfl rfl (kk v r k' kp' dr' T' g' ok' hS hg)
theorem gg_lawHF {S : STf} (K : kx p s m args meth c Z.1 A (ty3 Z) cc RL n) (T9 : te A s s.heap) (ok : okS RL idx y (.codeWith y cd maxL ret hh) k9) (hM : mX l Z.1 (ty3 Z) y (.codeWith y cd maxL ret hh) (rmk 10 250 8 48) (oD Z od gd :: wX Z X k kp dr td) As (hPostF Z X od S) (fun _ _ => False)) (hd : decode cc pc = .ok (.invokestatic idx, 3)) (hst : st = As.reverse ++ rest) (hAs : As.length = k9) (hf : (Nat.ble 10 11 && (Nat.ble maxL 20 && Nat.ble 250 300)) = true) (h1 : cells + 8 ≤ 601024) (h2 : slots + 48 ≤ 7293034) (hw : c8 rest = true)
    (kk : ∀ (v : Int32) (r : UInt32) (k' kp' dr' : Nat → Int32) (T' : Nat) (g' : Nat → UInt64), okX kp' T' → S v r (vX k' kp' T') T' → (v = 0 → g' 0 = FP.f2d r) → gg p l e room_1 s m args below meth c Z.1 A n (cells + 8) (slots + 48) Q (wL Z X Y oj od k' kp' dr' (nI T') k2 th tm rf rb re g g') (pc + 3) L (.int v :: rest)) : gg p l e room_1 s m args below meth c Z.1 A n cells slots Q (wL Z X Y oj od k kp dr td k2 th tm rf rb re g gd) pc L st := by
  refine gg_callJH (wc := oD Z od gd :: wX Z X k kp dr td) (wr := oJ Z oj g :: wM Z Y k2 th tm rf rb re) [1, 4, 5, 6, 7] [0, 2, 3] rfl rfl rfl K T9 ok hM hd hst hAs (rOk_law hf h1 h2) hw (fun v u h => ?_)
  obtain ⟨v, r, k', kp', dr', T', g', rfl, rfl, ok', hS, hg⟩ := h
  exact gg_perm (ws' := wL Z X Y oj od k' kp' dr' (nI T') k2 th tm rf rb re g g') [0, 3, 1, 2, 4, 5, 6, 7] rfl rfl (kk v r k' kp' dr' T' g' ok' hS hg)
theorem gg_lawM {post : Option Value → va_W → Prop} {f lo : Nat} (K : kx p s m args meth c Z.1 A (ty3 Z) cc RL n) (ok : okV RL idx RX1 y (.code y cd maxL ret) k9) (hM : mA l Z.1 (ty3 Z) y cd maxL ret (rmk f lo 0 0) (wM Z Y k2 th tm rf rb re) (.ref Y.1 :: As) post) (hd : decode cc pc = .ok (.invokevirtual idx, 3)) (hst : st = As.reverse ++ .ref Y.1 :: rest) (hAs : As.length = k9) (hf : (Nat.ble f 11 && (Nat.ble maxL 20 && Nat.ble lo 300)) = true) (h1 : cells + 0 ≤ 601024) (h2 : slots + 0 ≤ 7293034) (hw : c8 rest = true)
    (kk : ∀ (v : Option Value) (u : va_W), post v u → ∃ (k2' : Nat → Int32) (th' tm' rf' rb' re' : Int32), u = wM Z Y k2' th' tm' rf' rb' re' ∧ gg p l e room_1 s m args below meth c Z.1 A n cells slots Q (wL Z X Y oj od k kp dr td k2' th' tm' rf' rb' re' g gd) (pc + 3) L (v.toList ++ rest)) : gg p l e room_1 s m args below meth c Z.1 A n cells slots Q (wL Z X Y oj od k kp dr td k2 th tm rf rb re g gd) pc L st := by
  refine gg_callJ (wc := wM Z Y k2 th tm rf rb re) (wr := oJ Z oj g :: oD Z od gd :: wX Z X k kp dr td) [2, 3] [0, 1, 4, 5, 6, 7] rfl rfl rfl K ok hM 0 (ci := 1) (N := 6) (T := TX1) rfl rfl hd hst hAs (rOk_law hf h1 h2) hw (fun v u h => ?_)
  obtain ⟨k2', th', tm', rf', rb', re', rfl, kk⟩ := kk v u h
  exact gg_perm (ws' := wL Z X Y oj od k kp dr td k2' th' tm' rf' rb' re' g gd) [0, 1, 6, 7, 2, 3, 4, 5] rfl rfl kk
theorem gg_lawX {f lo : Nat} {v : Value} (K : kx p s m args meth c Z.1 A (ty3 Z) cc RL n) (ok : okV RL idx RX0 y (.code y cd maxL ret) k9) (hM : mR l Z y cd maxL ret (rmk f lo 0 0) (wX Z X k kp dr td) (.ref X.1 :: As) v) (hd : decode cc pc = .ok (.invokevirtual idx, 3)) (hst : st = As.reverse ++ .ref X.1 :: rest) (hAs : As.length = k9) (hf : (Nat.ble f 11 && (Nat.ble maxL 20 && Nat.ble lo 300)) = true) (h1 : cells + 0 ≤ 601024) (h2 : slots + 0 ≤ 7293034) (hw : c8 rest = true)
    (kk : gg p l e room_1 s m args below meth c Z.1 A n cells slots Q (wL Z X Y oj od k kp dr td k2 th tm rf rb re g gd) (pc + 3) L (v :: rest)) : gg p l e room_1 s m args below meth c Z.1 A n cells slots Q (wL Z X Y oj od k kp dr td k2 th tm rf rb re g gd) pc L st := by
  refine gg_callJ (wc := wX Z X k kp dr td) (wr := oJ Z oj g :: oD Z od gd :: wM Z Y k2 th tm rf rb re) [4, 5, 6, 7] [0, 1, 2, 3] rfl rfl rfl K ok hM 0 (ci := 0) (N := 4) (T := TX0) rfl rfl hd hst hAs (rOk_law hf h1 h2) hw (fun v' u h => ?_)
  obtain ⟨rfl, rfl⟩ := h
  exact gg_perm (ws' := wL Z X Y oj od k kp dr td k2 th tm rf rb re g gd) [0, 1, 2, 3, 4, 5, 6, 7] rfl rfl kk
end
/-- what the loop keeps -/
def lInv (k kp : Nat → Int32) (T : Nat) (k2 : Nat → Int32) : Prop := okX kp T ∧ vX k kp T = vM k2 T ∧ inv (vM k2 T) T
/-- going on behind a case -/
def lCont (p : Program) (l : Launch) (e : Env) (s : State) (m : MethodId) (args : Array Value) (below : List Frame) (meth : Method) (c : Code) (Z : ZT) (A : Nat → Prop) (cells slots : Nat) (Q : State → Prop) (X : XT) (Y : MT) (oj od b i : Nat) : Prop :=
  ∀ (k kp dr : Nat → Int32) (T : Nat) (k2 : Nat → Int32) (th rf rb re : Int32) (g : Nat → Int64) (gd : Nat → UInt64), lInv k kp T k2 → gg p l e room_1 s m args below meth c Z.1 A 8 (cells + 8) (slots + 48) Q (wL Z X Y oj od k kp dr (nI T) k2 th (nI T) rf rb re g gd) 1635 (LH b X Y oj od i) []
section
variable {p : Program} {l : Launch} {e : Env} {s : State} {m : MethodId} {args : Array Value} {below : List Frame} {meth : Method} {c : Code} {Z : ZT} {A : Nat → Prop} {cells slots : Nat} {Q : State → Prop} {X : XT} {Y : MT} {oj od b i Ln : Nat} {k kp dr k2 : Nat → Int32} {T : Nat} {th rf rb re : Int32} {g : Nat → Int64} {gd : Nat → UInt64} {xs : Nat → Int32}
set_option maxRecDepth 100000 in
theorem l_put (K : kx p s m args meth c Z.1 A (ty3 Z) cL_law RL 8) (T9 : te A s s.heap) (hl0 : l.stackTraces = false) (hX : va_X b Ln xs s s.heap) (hbl : b < s.heap.size) (hbA : ¬ A b) (hi : i + 6 ≤ Ln) (hLn : Ln ≤ 3072) (h1 : cells + 8 ≤ 601024) (h2 : slots + 48 ≤ 7293034) (hI : lInv k kp T k2) (kk : lCont p l e s m args below meth c Z A cells slots Q X Y oj od b i) : gg p l e room_1 s m args below meth c Z.1 A 8 cells slots Q (wL Z X Y oj od k kp dr (nI T) k2 th (nI T) rf rb re g gd) 136 (LH b X Y oj od i) [] := by
  obtain ⟨ok, hVV, hinv⟩ := hI
  have hT := ok.1
  refine gg_aload_n K (i := 1) dL_law_136 rfl rfl ?_
  refine gg_aload_n K (i := 0) dL_law_137 rfl rfl ?_
  refine gg_iload K dL_law_138 rfl ?_
  refine gg_iconst K (v := 1) dL_law_140 (by decide) ?_
  refine gg_iadd K dL_law_141 ?_
  refine gg_sld K hX hbl hbA (i + 1) (nI_add i 1) (by omega) hLn dL_law_142 ?_
  refine gg_aload_n K (i := 0) dL_law_143 rfl rfl ?_
  refine gg_iload K dL_law_144 rfl ?_
  refine gg_iconst K (v := 2) dL_law_146 (by decide) ?_
  refine gg_iadd K dL_law_147 ?_
  refine gg_sld K hX hbl hbA (i + 2) (nI_add i 2) (by omega) hLn dL_law_148 ?_
  refine gg_aload_n K (i := 0) dL_law_149 rfl rfl ?_
  refine gg_iload K dL_law_150 rfl ?_
  refine gg_iconst K (v := 3) dL_law_152 (by decide) ?_
  refine gg_iadd K dL_law_153 ?_
  refine gg_sld K hX hbl hbA (i + 3) (nI_add i 3) (by omega) hLn dL_law_154 ?_
  refine gg_aload_n K (i := 0) dL_law_155 rfl rfl ?_
  refine gg_iload K dL_law_156 rfl ?_
  refine gg_iconst K (v := 4) dL_law_158 (by decide) ?_
  refine gg_iadd K dL_law_159 ?_
  refine gg_sld K hX hbl hbA (i + 4) (nI_add i 4) (by omega) hLn dL_law_160 ?_
  refine gg_aload_n K (i := 0) dL_law_161 rfl rfl ?_
  refine gg_iload K dL_law_162 rfl ?_
  refine gg_iconst K (v := 5) dL_law_164 (by decide) ?_
  refine gg_iadd K dL_law_165 ?_
  refine gg_sld K hX hbl hbA (i + 5) (nI_add i 5) (by omega) hLn dL_law_166 ?_
  refine gg_aload_n K (i := 3) dL_law_167 rfl rfl ?_
  refine gg_lawH K T9 k_L_L_put (h_put hl0 ok (by rw [hVV]; exact hinv.1)) dL_law_168 rfl rfl rfl h1 h2 rfl (fun c9 r k' kp' dr' T' g' ok' hS hg => ?_)
  replace hS : S_put (vM k2 T) T (xs (i + 1)) (xs (i + 2)) (xs (i + 3)) (xs (i + 4)) (xs (i + 5)) c9 r (vX k' kp' T') T' := by rw [← hVV]; exact hS
  refine gg_istore K dL_law_171 (by decide) ?_
  refine gg_aload_n K (i := 2) dL_law_173 rfl rfl ?_
  refine gg_aload_n K (i := 0) dL_law_174 rfl rfl ?_
  refine gg_iload K dL_law_175 rfl ?_
  refine gg_iconst K (v := 1) dL_law_177 (by decide) ?_
  refine gg_iadd K dL_law_178 ?_
  refine gg_sld K hX hbl hbA (i + 1) (nI_add i 1) (by omega) hLn dL_law_179 ?_
  refine gg_aload_n K (i := 0) dL_law_180 rfl rfl ?_
  refine gg_iload K dL_law_181 rfl ?_
  refine gg_iconst K (v := 2) dL_law_183 (by decide) ?_
  refine gg_iadd K dL_law_184 ?_
  refine gg_sld K hX hbl hbA (i + 2) (nI_add i 2) (by omega) hLn dL_law_185 ?_
  refine gg_aload_n K (i := 0) dL_law_186 rfl rfl ?_
  refine gg_iload K dL_law_187 rfl ?_
  refine gg_iconst K (v := 3) dL_law_189 (by decide) ?_
  refine gg_iadd K dL_law_190 ?_
  refine gg_sld K hX hbl hbA (i + 3) (nI_add i 3) (by omega) hLn dL_law_191 ?_
  refine gg_aload_n K (i := 0) dL_law_192 rfl rfl ?_
  refine gg_iload K dL_law_193 rfl ?_
  refine gg_iconst K (v := 4) dL_law_195 (by decide) ?_
  refine gg_iadd K dL_law_196 ?_
  refine gg_sld K hX hbl hbA (i + 4) (nI_add i 4) (by omega) hLn dL_law_197 ?_
  refine gg_aload_n K (i := 0) dL_law_198 rfl rfl ?_
  refine gg_iload K dL_law_199 rfl ?_
  refine gg_iconst K (v := 5) dL_law_201 (by decide) ?_
  refine gg_iadd K dL_law_202 ?_
  refine gg_sld K hX hbl hbA (i + 5) (nI_add i 5) (by omega) hLn dL_law_203 ?_
  refine gg_lawM K k_L_X1_put (m_put hT hinv.2) dL_law_204 rfl rfl rfl (by omega) (by omega) rfl (fun v u h => ?_)
  obtain ⟨c2, r2, k2', T2, rf', rb', re', rfl, rfl, hS2⟩ := h
  obtain ⟨rfl, hV', rfl, hr⟩ := uq_put hS hS2
  have hI' : lInv k' kp' T' k2' := ⟨ok', hV', inv_put hinv hS2⟩
  refine ⟨_, _, _, _, _, _, rfl, ?_⟩
  refine gg_istore K dL_law_207 (by decide) ?_
  refine gg_aload_n K (i := 2) dL_law_209 rfl rfl ?_
  refine gg_lawM K k_L_X1_thrown m_thrown dL_law_210 rfl rfl rfl (by omega) (by omega) rfl (fun v u h => ?_)
  obtain ⟨rfl, rfl⟩ := h
  refine ⟨_, _, _, _, _, _, rfl, ?_⟩
  refine gg_iload K dL_law_213 rfl ?_
  refine gg_icmp_eq K (tgt := 220) dL_law_215 (by decide) (fun h215 => ?_) (fun h215 => ?_)
  rotate_left
  · exact absurd rfl h215
  refine gg_iload K dL_law_220 rfl ?_
  refine gg_if_ne K (tgt := 237) dL_law_222 (by decide) (fun h222 => ?_) (fun h222 => ?_)
  ·
    refine gg_goto K (tgt := 1635) dL_law_237 (by decide) ?_
    refine gg_sub (L' := LH b X Y oj od i) ⟨rfl, rfl, rfl, rfl, rfl, rfl, trivial⟩ ?_
    exact kk k' kp' dr' T' k2' _ _ _ _ _ _ hI'
  refine gg_aload_n K (i := 3) dL_law_225 rfl rfl ?_
  refine gg_iconst K (v := 0) dL_law_226 (by decide) ?_
  refine gg_ldJ 0 K rfl dL_law_227 ?_
  refine gg_iload K dL_law_228 rfl ?_
  refine gg_i2l K dL_law_230 ?_
  refine gg_lcmp K dL_law_231 ?_
  refine gg_if_eq K (tgt := 237) dL_law_232 (by decide) (fun h232 => ?_) (fun h232 => ?_)
  rotate_left
  · exact absurd (by rw [hg h222, hr h222]; exact lg_cmp_self _) h232
  refine gg_goto K (tgt := 1635) dL_law_237 (by decide) ?_
  refine gg_sub (L' := LH b X Y oj od i) ⟨rfl, rfl, rfl, rfl, rfl, rfl, trivial⟩ ?_
  exact kk k' kp' dr' T' k2' _ _ _ _ _ _ hI'
set_option maxRecDepth 100000 in
theorem l_erase (K : kx p s m args meth c Z.1 A (ty3 Z) cL_law RL 8) (T9 : te A s s.heap) (hl0 : l.stackTraces = false) (hX : va_X b Ln xs s s.heap) (hbl : b < s.heap.size) (hbA : ¬ A b) (hi : i + 6 ≤ Ln) (hLn : Ln ≤ 3072) (h1 : cells + 8 ≤ 601024) (h2 : slots + 48 ≤ 7293034) (hI : lInv k kp T k2) (kk : lCont p l e s m args below meth c Z A cells slots Q X Y oj od b i) : gg p l e room_1 s m args below meth c Z.1 A 8 cells slots Q (wL Z X Y oj od k kp dr (nI T) k2 th (nI T) rf rb re g gd) 240 (LH b X Y oj od i) [] := by
  obtain ⟨ok, hVV, hinv⟩ := hI
  have hT := ok.1
  refine gg_aload_n K (i := 1) dL_law_240 rfl rfl ?_
  refine gg_aload_n K (i := 0) dL_law_241 rfl rfl ?_
  refine gg_iload K dL_law_242 rfl ?_
  refine gg_iconst K (v := 1) dL_law_244 (by decide) ?_
  refine gg_iadd K dL_law_245 ?_
  refine gg_sld K hX hbl hbA (i + 1) (nI_add i 1) (by omega) hLn dL_law_246 ?_
  refine gg_aload_n K (i := 0) dL_law_247 rfl rfl ?_
  refine gg_iload K dL_law_248 rfl ?_
  refine gg_iconst K (v := 2) dL_law_250 (by decide) ?_
  refine gg_iadd K dL_law_251 ?_
  refine gg_sld K hX hbl hbA (i + 2) (nI_add i 2) (by omega) hLn dL_law_252 ?_
  refine gg_aload_n K (i := 0) dL_law_253 rfl rfl ?_
  refine gg_iload K dL_law_254 rfl ?_
  refine gg_iconst K (v := 3) dL_law_256 (by decide) ?_
  refine gg_iadd K dL_law_257 ?_
  refine gg_sld K hX hbl hbA (i + 3) (nI_add i 3) (by omega) hLn dL_law_258 ?_
  refine gg_aload_n K (i := 0) dL_law_259 rfl rfl ?_
  refine gg_iload K dL_law_260 rfl ?_
  refine gg_iconst K (v := 4) dL_law_262 (by decide) ?_
  refine gg_iadd K dL_law_263 ?_
  refine gg_sld K hX hbl hbA (i + 4) (nI_add i 4) (by omega) hLn dL_law_264 ?_
  refine gg_aload_n K (i := 3) dL_law_265 rfl rfl ?_
  refine gg_lawH K T9 k_L_L_erase (h_erase hl0 ok (by rw [hVV]; exact hinv.1)) dL_law_266 rfl rfl rfl h1 h2 rfl (fun c9 r k' kp' dr' T' g' ok' hS hg => ?_)
  replace hS : S_erase (vM k2 T) T (xs (i + 1)) (xs (i + 2)) (xs (i + 3)) (xs (i + 4)) c9 r (vX k' kp' T') T' := by rw [← hVV]; exact hS
  refine gg_istore K dL_law_269 (by decide) ?_
  refine gg_aload_n K (i := 2) dL_law_271 rfl rfl ?_
  refine gg_aload_n K (i := 0) dL_law_272 rfl rfl ?_
  refine gg_iload K dL_law_273 rfl ?_
  refine gg_iconst K (v := 1) dL_law_275 (by decide) ?_
  refine gg_iadd K dL_law_276 ?_
  refine gg_sld K hX hbl hbA (i + 1) (nI_add i 1) (by omega) hLn dL_law_277 ?_
  refine gg_aload_n K (i := 0) dL_law_278 rfl rfl ?_
  refine gg_iload K dL_law_279 rfl ?_
  refine gg_iconst K (v := 2) dL_law_281 (by decide) ?_
  refine gg_iadd K dL_law_282 ?_
  refine gg_sld K hX hbl hbA (i + 2) (nI_add i 2) (by omega) hLn dL_law_283 ?_
  refine gg_aload_n K (i := 0) dL_law_284 rfl rfl ?_
  refine gg_iload K dL_law_285 rfl ?_
  refine gg_iconst K (v := 3) dL_law_287 (by decide) ?_
  refine gg_iadd K dL_law_288 ?_
  refine gg_sld K hX hbl hbA (i + 3) (nI_add i 3) (by omega) hLn dL_law_289 ?_
  refine gg_aload_n K (i := 0) dL_law_290 rfl rfl ?_
  refine gg_iload K dL_law_291 rfl ?_
  refine gg_iconst K (v := 4) dL_law_293 (by decide) ?_
  refine gg_iadd K dL_law_294 ?_
  refine gg_sld K hX hbl hbA (i + 4) (nI_add i 4) (by omega) hLn dL_law_295 ?_
  refine gg_lawM K k_L_X1_erase (m_erase hT hinv.2) dL_law_296 rfl rfl rfl (by omega) (by omega) rfl (fun v u h => ?_)
  obtain ⟨c2, r2, k2', T2, rf', rb', re', rfl, rfl, hS2⟩ := h
  obtain ⟨rfl, hV', rfl, hr⟩ := uq_erase hS hS2
  have hI' : lInv k' kp' T' k2' := ⟨ok', hV', inv_erase hinv hS2⟩
  refine ⟨_, _, _, _, _, _, rfl, ?_⟩
  refine gg_istore K dL_law_299 (by decide) ?_
  refine gg_aload_n K (i := 2) dL_law_301 rfl rfl ?_
  refine gg_lawM K k_L_X1_thrown m_thrown dL_law_302 rfl rfl rfl (by omega) (by omega) rfl (fun v u h => ?_)
  obtain ⟨rfl, rfl⟩ := h
  refine ⟨_, _, _, _, _, _, rfl, ?_⟩
  refine gg_iload K dL_law_305 rfl ?_
  refine gg_icmp_eq K (tgt := 312) dL_law_307 (by decide) (fun h307 => ?_) (fun h307 => ?_)
  rotate_left
  · exact absurd rfl h307
  refine gg_iload K dL_law_312 rfl ?_
  refine gg_if_ne K (tgt := 329) dL_law_314 (by decide) (fun h314 => ?_) (fun h314 => ?_)
  ·
    refine gg_goto K (tgt := 1635) dL_law_329 (by decide) ?_
    refine gg_sub (L' := LH b X Y oj od i) ⟨rfl, rfl, rfl, rfl, rfl, rfl, trivial⟩ ?_
    exact kk k' kp' dr' T' k2' _ _ _ _ _ _ hI'
  refine gg_aload_n K (i := 3) dL_law_317 rfl rfl ?_
  refine gg_iconst K (v := 0) dL_law_318 (by decide) ?_
  refine gg_ldJ 0 K rfl dL_law_319 ?_
  refine gg_iload K dL_law_320 rfl ?_
  refine gg_i2l K dL_law_322 ?_
  refine gg_lcmp K dL_law_323 ?_
  refine gg_if_eq K (tgt := 329) dL_law_324 (by decide) (fun h324 => ?_) (fun h324 => ?_)
  rotate_left
  · exact absurd (by rw [hg h314, hr h314]; exact lg_cmp_self _) h324
  refine gg_goto K (tgt := 1635) dL_law_329 (by decide) ?_
  refine gg_sub (L' := LH b X Y oj od i) ⟨rfl, rfl, rfl, rfl, rfl, rfl, trivial⟩ ?_
  exact kk k' kp' dr' T' k2' _ _ _ _ _ _ hI'
set_option maxRecDepth 100000 in
theorem l_eraseAll (K : kx p s m args meth c Z.1 A (ty3 Z) cL_law RL 8) (T9 : te A s s.heap) (hl0 : l.stackTraces = false) (hX : va_X b Ln xs s s.heap) (hbl : b < s.heap.size) (hbA : ¬ A b) (hi : i + 6 ≤ Ln) (hLn : Ln ≤ 3072) (h1 : cells + 8 ≤ 601024) (h2 : slots + 48 ≤ 7293034) (hI : lInv k kp T k2) (kk : lCont p l e s m args below meth c Z A cells slots Q X Y oj od b i) : gg p l e room_1 s m args below meth c Z.1 A 8 cells slots Q (wL Z X Y oj od k kp dr (nI T) k2 th (nI T) rf rb re g gd) 332 (LH b X Y oj od i) [] := by
  obtain ⟨ok, hVV, hinv⟩ := hI
  have hT := ok.1
  refine gg_aload_n K (i := 1) dL_law_332 rfl rfl ?_
  refine gg_aload_n K (i := 0) dL_law_333 rfl rfl ?_
  refine gg_iload K dL_law_334 rfl ?_
  refine gg_iconst K (v := 1) dL_law_336 (by decide) ?_
  refine gg_iadd K dL_law_337 ?_
  refine gg_sld K hX hbl hbA (i + 1) (nI_add i 1) (by omega) hLn dL_law_338 ?_
  refine gg_aload_n K (i := 0) dL_law_339 rfl rfl ?_
  refine gg_iload K dL_law_340 rfl ?_
  refine gg_iconst K (v := 2) dL_law_342 (by decide) ?_
  refine gg_iadd K dL_law_343 ?_
  refine gg_sld K hX hbl hbA (i + 2) (nI_add i 2) (by omega) hLn dL_law_344 ?_
  refine gg_aload_n K (i := 0) dL_law_345 rfl rfl ?_
  refine gg_iload K dL_law_346 rfl ?_
  refine gg_iconst K (v := 3) dL_law_348 (by decide) ?_
  refine gg_iadd K dL_law_349 ?_
  refine gg_sld K hX hbl hbA (i + 3) (nI_add i 3) (by omega) hLn dL_law_350 ?_
  refine gg_aload_n K (i := 3) dL_law_351 rfl rfl ?_
  refine gg_lawH K T9 k_L_L_eraseAll (h_eraseAll hl0 ok) dL_law_352 rfl rfl rfl h1 h2 rfl (fun c9 r k' kp' dr' T' g' ok' hS hg => ?_)
  replace hS : S_eraseAll (vM k2 T) T (xs (i + 1)) (xs (i + 2)) (xs (i + 3)) c9 r (vX k' kp' T') T' := by rw [← hVV]; exact hS
  refine gg_istore K dL_law_355 (by decide) ?_
  refine gg_aload_n K (i := 2) dL_law_357 rfl rfl ?_
  refine gg_aload_n K (i := 0) dL_law_358 rfl rfl ?_
  refine gg_iload K dL_law_359 rfl ?_
  refine gg_iconst K (v := 1) dL_law_361 (by decide) ?_
  refine gg_iadd K dL_law_362 ?_
  refine gg_sld K hX hbl hbA (i + 1) (nI_add i 1) (by omega) hLn dL_law_363 ?_
  refine gg_aload_n K (i := 0) dL_law_364 rfl rfl ?_
  refine gg_iload K dL_law_365 rfl ?_
  refine gg_iconst K (v := 2) dL_law_367 (by decide) ?_
  refine gg_iadd K dL_law_368 ?_
  refine gg_sld K hX hbl hbA (i + 2) (nI_add i 2) (by omega) hLn dL_law_369 ?_
  refine gg_aload_n K (i := 0) dL_law_370 rfl rfl ?_
  refine gg_iload K dL_law_371 rfl ?_
  refine gg_iconst K (v := 3) dL_law_373 (by decide) ?_
  refine gg_iadd K dL_law_374 ?_
  refine gg_sld K hX hbl hbA (i + 3) (nI_add i 3) (by omega) hLn dL_law_375 ?_
  refine gg_lawM K k_L_X1_eraseAll (m_eraseAll hT) dL_law_376 rfl rfl rfl (by omega) (by omega) rfl (fun v u h => ?_)
  obtain ⟨c2, r2, k2', T2, rf', rb', re', rfl, rfl, hS2⟩ := h
  obtain ⟨rfl, hV', rfl, hr⟩ := uq_eraseAll hS hS2
  have hI' : lInv k' kp' T' k2' := ⟨ok', hV', inv_eraseAll hinv hS2⟩
  refine ⟨_, _, _, _, _, _, rfl, ?_⟩
  refine gg_istore K dL_law_379 (by decide) ?_
  refine gg_aload_n K (i := 2) dL_law_381 rfl rfl ?_
  refine gg_lawM K k_L_X1_thrown m_thrown dL_law_382 rfl rfl rfl (by omega) (by omega) rfl (fun v u h => ?_)
  obtain ⟨rfl, rfl⟩ := h
  refine ⟨_, _, _, _, _, _, rfl, ?_⟩
  refine gg_iload K dL_law_385 rfl ?_
  refine gg_icmp_eq K (tgt := 392) dL_law_387 (by decide) (fun h387 => ?_) (fun h387 => ?_)
  rotate_left
  · exact absurd rfl h387
  refine gg_iload K dL_law_392 rfl ?_
  refine gg_if_ne K (tgt := 409) dL_law_394 (by decide) (fun h394 => ?_) (fun h394 => ?_)
  ·
    refine gg_goto K (tgt := 1635) dL_law_409 (by decide) ?_
    refine gg_sub (L' := LH b X Y oj od i) ⟨rfl, rfl, rfl, rfl, rfl, rfl, trivial⟩ ?_
    exact kk k' kp' dr' T' k2' _ _ _ _ _ _ hI'
  refine gg_aload_n K (i := 3) dL_law_397 rfl rfl ?_
  refine gg_iconst K (v := 0) dL_law_398 (by decide) ?_
  refine gg_ldJ 0 K rfl dL_law_399 ?_
  refine gg_iload K dL_law_400 rfl ?_
  refine gg_i2l K dL_law_402 ?_
  refine gg_lcmp K dL_law_403 ?_
  refine gg_if_eq K (tgt := 409) dL_law_404 (by decide) (fun h404 => ?_) (fun h404 => ?_)
  rotate_left
  · exact absurd (by rw [hg h394, hr h394]; exact lg_cmp_self _) h404
  refine gg_goto K (tgt := 1635) dL_law_409 (by decide) ?_
  refine gg_sub (L' := LH b X Y oj od i) ⟨rfl, rfl, rfl, rfl, rfl, rfl, trivial⟩ ?_
  exact kk k' kp' dr' T' k2' _ _ _ _ _ _ hI'
set_option maxRecDepth 100000 in
theorem l_restore (K : kx p s m args meth c Z.1 A (ty3 Z) cL_law RL 8) (T9 : te A s s.heap) (hl0 : l.stackTraces = false) (hX : va_X b Ln xs s s.heap) (hbl : b < s.heap.size) (hbA : ¬ A b) (hi : i + 6 ≤ Ln) (hLn : Ln ≤ 3072) (h1 : cells + 8 ≤ 601024) (h2 : slots + 48 ≤ 7293034) (hI : lInv k kp T k2) (kk : lCont p l e s m args below meth c Z A cells slots Q X Y oj od b i) : gg p l e room_1 s m args below meth c Z.1 A 8 cells slots Q (wL Z X Y oj od k kp dr (nI T) k2 th (nI T) rf rb re g gd) 412 (LH b X Y oj od i) [] := by
  obtain ⟨ok, hVV, hinv⟩ := hI
  have hT := ok.1
  refine gg_aload_n K (i := 1) dL_law_412 rfl rfl ?_
  refine gg_aload_n K (i := 0) dL_law_413 rfl rfl ?_
  refine gg_iload K dL_law_414 rfl ?_
  refine gg_iconst K (v := 1) dL_law_416 (by decide) ?_
  refine gg_iadd K dL_law_417 ?_
  refine gg_sld K hX hbl hbA (i + 1) (nI_add i 1) (by omega) hLn dL_law_418 ?_
  refine gg_aload_n K (i := 0) dL_law_419 rfl rfl ?_
  refine gg_iload K dL_law_420 rfl ?_
  refine gg_iconst K (v := 2) dL_law_422 (by decide) ?_
  refine gg_iadd K dL_law_423 ?_
  refine gg_sld K hX hbl hbA (i + 2) (nI_add i 2) (by omega) hLn dL_law_424 ?_
  refine gg_aload_n K (i := 0) dL_law_425 rfl rfl ?_
  refine gg_iload K dL_law_426 rfl ?_
  refine gg_iconst K (v := 3) dL_law_428 (by decide) ?_
  refine gg_iadd K dL_law_429 ?_
  refine gg_sld K hX hbl hbA (i + 3) (nI_add i 3) (by omega) hLn dL_law_430 ?_
  refine gg_aload_n K (i := 3) dL_law_431 rfl rfl ?_
  refine gg_lawH K T9 k_L_L_restore (h_restore hl0 ok (by rw [hVV]; exact hinv.1)) dL_law_432 rfl rfl rfl h1 h2 rfl (fun c9 r k' kp' dr' T' g' ok' hS hg => ?_)
  replace hS : S_restore (vM k2 T) T (xs (i + 1)) (xs (i + 2)) (xs (i + 3)) c9 r (vX k' kp' T') T' := by rw [← hVV]; exact hS
  refine gg_istore K dL_law_435 (by decide) ?_
  refine gg_aload_n K (i := 2) dL_law_437 rfl rfl ?_
  refine gg_aload_n K (i := 0) dL_law_438 rfl rfl ?_
  refine gg_iload K dL_law_439 rfl ?_
  refine gg_iconst K (v := 1) dL_law_441 (by decide) ?_
  refine gg_iadd K dL_law_442 ?_
  refine gg_sld K hX hbl hbA (i + 1) (nI_add i 1) (by omega) hLn dL_law_443 ?_
  refine gg_aload_n K (i := 0) dL_law_444 rfl rfl ?_
  refine gg_iload K dL_law_445 rfl ?_
  refine gg_iconst K (v := 2) dL_law_447 (by decide) ?_
  refine gg_iadd K dL_law_448 ?_
  refine gg_sld K hX hbl hbA (i + 2) (nI_add i 2) (by omega) hLn dL_law_449 ?_
  refine gg_aload_n K (i := 0) dL_law_450 rfl rfl ?_
  refine gg_iload K dL_law_451 rfl ?_
  refine gg_iconst K (v := 3) dL_law_453 (by decide) ?_
  refine gg_iadd K dL_law_454 ?_
  refine gg_sld K hX hbl hbA (i + 3) (nI_add i 3) (by omega) hLn dL_law_455 ?_
  refine gg_lawM K k_L_X1_restore (m_restore hT hinv.1) dL_law_456 rfl rfl rfl (by omega) (by omega) rfl (fun v u h => ?_)
  obtain ⟨c2, r2, k2', T2, rf', rb', re', rfl, rfl, hS2⟩ := h
  obtain ⟨rfl, hV', rfl, hr⟩ := uq_restore hS hS2
  have hI' : lInv k' kp' T' k2' := ⟨ok', hV', inv_restore hT hinv hS2⟩
  refine ⟨_, _, _, _, _, _, rfl, ?_⟩
  refine gg_istore K dL_law_459 (by decide) ?_
  refine gg_aload_n K (i := 2) dL_law_461 rfl rfl ?_
  refine gg_lawM K k_L_X1_thrown m_thrown dL_law_462 rfl rfl rfl (by omega) (by omega) rfl (fun v u h => ?_)
  obtain ⟨rfl, rfl⟩ := h
  refine ⟨_, _, _, _, _, _, rfl, ?_⟩
  refine gg_iload K dL_law_465 rfl ?_
  refine gg_icmp_eq K (tgt := 472) dL_law_467 (by decide) (fun h467 => ?_) (fun h467 => ?_)
  rotate_left
  · exact absurd rfl h467
  refine gg_iload K dL_law_472 rfl ?_
  refine gg_if_ne K (tgt := 489) dL_law_474 (by decide) (fun h474 => ?_) (fun h474 => ?_)
  ·
    refine gg_goto K (tgt := 1635) dL_law_489 (by decide) ?_
    refine gg_sub (L' := LH b X Y oj od i) ⟨rfl, rfl, rfl, rfl, rfl, rfl, trivial⟩ ?_
    exact kk k' kp' dr' T' k2' _ _ _ _ _ _ hI'
  refine gg_aload_n K (i := 3) dL_law_477 rfl rfl ?_
  refine gg_iconst K (v := 0) dL_law_478 (by decide) ?_
  refine gg_ldJ 0 K rfl dL_law_479 ?_
  refine gg_iload K dL_law_480 rfl ?_
  refine gg_i2l K dL_law_482 ?_
  refine gg_lcmp K dL_law_483 ?_
  refine gg_if_eq K (tgt := 489) dL_law_484 (by decide) (fun h484 => ?_) (fun h484 => ?_)
  rotate_left
  · exact absurd (by rw [hg h474, hr h474]; exact lg_cmp_self _) h484
  refine gg_goto K (tgt := 1635) dL_law_489 (by decide) ?_
  refine gg_sub (L' := LH b X Y oj od i) ⟨rfl, rfl, rfl, rfl, rfl, rfl, trivial⟩ ?_
  exact kk k' kp' dr' T' k2' _ _ _ _ _ _ hI'
set_option maxRecDepth 100000 in
theorem l_pass (K : kx p s m args meth c Z.1 A (ty3 Z) cL_law RL 8) (T9 : te A s s.heap) (hl0 : l.stackTraces = false) (hX : va_X b Ln xs s s.heap) (hbl : b < s.heap.size) (hbA : ¬ A b) (hi : i + 6 ≤ Ln) (hLn : Ln ≤ 3072) (h1 : cells + 8 ≤ 601024) (h2 : slots + 48 ≤ 7293034) (hI : lInv k kp T k2) (kk : lCont p l e s m args below meth c Z A cells slots Q X Y oj od b i) : gg p l e room_1 s m args below meth c Z.1 A 8 cells slots Q (wL Z X Y oj od k kp dr (nI T) k2 th (nI T) rf rb re g gd) 492 (LH b X Y oj od i) [] := by
  obtain ⟨ok, hVV, hinv⟩ := hI
  have hT := ok.1
  refine gg_aload_n K (i := 1) dL_law_492 rfl rfl ?_
  refine gg_aload_n K (i := 0) dL_law_493 rfl rfl ?_
  refine gg_iload K dL_law_494 rfl ?_
  refine gg_iconst K (v := 1) dL_law_496 (by decide) ?_
  refine gg_iadd K dL_law_497 ?_
  refine gg_sld K hX hbl hbA (i + 1) (nI_add i 1) (by omega) hLn dL_law_498 ?_
  refine gg_aload_n K (i := 3) dL_law_499 rfl rfl ?_
  refine gg_lawH K T9 k_L_L_pass (h_pass hl0 ok) dL_law_500 rfl rfl rfl h1 h2 rfl (fun c9 r k' kp' dr' T' g' ok' hS hg => ?_)
  replace hS : S_pass (vM k2 T) T (xs (i + 1)) c9 r (vX k' kp' T') T' := by rw [← hVV]; exact hS
  refine gg_istore K dL_law_503 (by decide) ?_
  refine gg_aload_n K (i := 2) dL_law_505 rfl rfl ?_
  refine gg_aload_n K (i := 0) dL_law_506 rfl rfl ?_
  refine gg_iload K dL_law_507 rfl ?_
  refine gg_iconst K (v := 1) dL_law_509 (by decide) ?_
  refine gg_iadd K dL_law_510 ?_
  refine gg_sld K hX hbl hbA (i + 1) (nI_add i 1) (by omega) hLn dL_law_511 ?_
  refine gg_lawM K k_L_X1_pass (m_pass hT) dL_law_512 rfl rfl rfl (by omega) (by omega) rfl (fun v u h => ?_)
  obtain ⟨c2, r2, k2', T2, rf', rb', re', rfl, rfl, hS2⟩ := h
  obtain ⟨rfl, hV', rfl, hr⟩ := uq_pass hS hS2
  have hI' : lInv k' kp' T' k2' := ⟨ok', hV', inv_pass hinv hS2⟩
  refine ⟨_, _, _, _, _, _, rfl, ?_⟩
  refine gg_istore K dL_law_515 (by decide) ?_
  refine gg_aload_n K (i := 2) dL_law_517 rfl rfl ?_
  refine gg_lawM K k_L_X1_thrown m_thrown dL_law_518 rfl rfl rfl (by omega) (by omega) rfl (fun v u h => ?_)
  obtain ⟨rfl, rfl⟩ := h
  refine ⟨_, _, _, _, _, _, rfl, ?_⟩
  refine gg_iload K dL_law_521 rfl ?_
  refine gg_icmp_eq K (tgt := 528) dL_law_523 (by decide) (fun h523 => ?_) (fun h523 => ?_)
  rotate_left
  · exact absurd rfl h523
  refine gg_iload K dL_law_528 rfl ?_
  refine gg_if_ne K (tgt := 545) dL_law_530 (by decide) (fun h530 => ?_) (fun h530 => ?_)
  ·
    refine gg_goto K (tgt := 1635) dL_law_545 (by decide) ?_
    refine gg_sub (L' := LH b X Y oj od i) ⟨rfl, rfl, rfl, rfl, rfl, rfl, trivial⟩ ?_
    exact kk k' kp' dr' T' k2' _ _ _ _ _ _ hI'
  refine gg_aload_n K (i := 3) dL_law_533 rfl rfl ?_
  refine gg_iconst K (v := 0) dL_law_534 (by decide) ?_
  refine gg_ldJ 0 K rfl dL_law_535 ?_
  refine gg_iload K dL_law_536 rfl ?_
  refine gg_i2l K dL_law_538 ?_
  refine gg_lcmp K dL_law_539 ?_
  refine gg_if_eq K (tgt := 545) dL_law_540 (by decide) (fun h540 => ?_) (fun h540 => ?_)
  rotate_left
  · exact absurd (by rw [hg h530, hr h530]; exact lg_cmp_self _) h540
  refine gg_goto K (tgt := 1635) dL_law_545 (by decide) ?_
  refine gg_sub (L' := LH b X Y oj od i) ⟨rfl, rfl, rfl, rfl, rfl, rfl, trivial⟩ ?_
  exact kk k' kp' dr' T' k2' _ _ _ _ _ _ hI'
set_option maxRecDepth 100000 in
theorem l_today (K : kx p s m args meth c Z.1 A (ty3 Z) cL_law RL 8) (T9 : te A s s.heap) (hl0 : l.stackTraces = false) (hX : va_X b Ln xs s s.heap) (hbl : b < s.heap.size) (hbA : ¬ A b) (hi : i + 6 ≤ Ln) (hLn : Ln ≤ 3072) (h1 : cells + 8 ≤ 601024) (h2 : slots + 48 ≤ 7293034) (hI : lInv k kp T k2) (kk : lCont p l e s m args below meth c Z A cells slots Q X Y oj od b i) : gg p l e room_1 s m args below meth c Z.1 A 8 cells slots Q (wL Z X Y oj od k kp dr (nI T) k2 th (nI T) rf rb re g gd) 548 (LH b X Y oj od i) [] := by
  obtain ⟨ok, hVV, hinv⟩ := hI
  have hT := ok.1
  refine gg_aload_n K (i := 1) dL_law_548 rfl rfl ?_
  refine gg_lawX K k_L_X0_today x_today dL_law_549 rfl rfl rfl (by omega) (by omega) rfl ?_
  refine gg_aload_n K (i := 2) dL_law_552 rfl rfl ?_
  refine gg_lawM K k_L_X1_today m_today dL_law_553 rfl rfl rfl (by omega) (by omega) rfl (fun v u h => ?_)
  obtain ⟨rfl, rfl⟩ := h
  refine ⟨_, _, _, _, _, _, rfl, ?_⟩
  refine gg_icmp_eq K (tgt := 1635) dL_law_556 (by decide) (fun h556 => ?_) (fun h556 => ?_)
  · exact gg_wid (by omega) (by omega) (kk _ _ _ T _ _ _ _ _ _ _ ⟨ok, hVV, hinv⟩)
  · exact absurd rfl h556
set_option maxRecDepth 100000 in
theorem l_value (K : kx p s m args meth c Z.1 A (ty3 Z) cL_law RL 8) (T9 : te A s s.heap) (hl0 : l.stackTraces = false) (hX : va_X b Ln xs s s.heap) (hbl : b < s.heap.size) (hbA : ¬ A b) (hi : i + 6 ≤ Ln) (hLn : Ln ≤ 3072) (h1 : cells + 8 ≤ 601024) (h2 : slots + 48 ≤ 7293034) (hI : lInv k kp T k2) (kk : lCont p l e s m args below meth c Z A cells slots Q X Y oj od b i) : gg p l e room_1 s m args below meth c Z.1 A 8 cells slots Q (wL Z X Y oj od k kp dr (nI T) k2 th (nI T) rf rb re g gd) 561 (LH b X Y oj od i) [] := by
  obtain ⟨ok, hVV, hinv⟩ := hI
  have hT := ok.1
  refine gg_aload_n K (i := 1) dL_law_561 rfl rfl ?_
  refine gg_aload_n K (i := 0) dL_law_562 rfl rfl ?_
  refine gg_iload K dL_law_563 rfl ?_
  refine gg_iconst K (v := 1) dL_law_565 (by decide) ?_
  refine gg_iadd K dL_law_566 ?_
  refine gg_sld K hX hbl hbA (i + 1) (nI_add i 1) (by omega) hLn dL_law_567 ?_
  refine gg_aload_n K (i := 0) dL_law_568 rfl rfl ?_
  refine gg_iload K dL_law_569 rfl ?_
  refine gg_iconst K (v := 2) dL_law_571 (by decide) ?_
  refine gg_iadd K dL_law_572 ?_
  refine gg_sld K hX hbl hbA (i + 2) (nI_add i 2) (by omega) hLn dL_law_573 ?_
  refine gg_aload_n K (i := 0) dL_law_574 rfl rfl ?_
  refine gg_iload K dL_law_575 rfl ?_
  refine gg_iconst K (v := 3) dL_law_577 (by decide) ?_
  refine gg_iadd K dL_law_578 ?_
  refine gg_sld K hX hbl hbA (i + 3) (nI_add i 3) (by omega) hLn dL_law_579 ?_
  refine gg_aload_n K (i := 0) dL_law_580 rfl rfl ?_
  refine gg_iload K dL_law_581 rfl ?_
  refine gg_iconst K (v := 4) dL_law_583 (by decide) ?_
  refine gg_iadd K dL_law_584 ?_
  refine gg_sld K hX hbl hbA (i + 4) (nI_add i 4) (by omega) hLn dL_law_585 ?_
  refine gg_aload_n K (i := 3) dL_law_586 rfl rfl ?_
  refine gg_lawH K T9 k_L_L_value (h_value hl0 ok) dL_law_587 rfl rfl rfl h1 h2 rfl (fun c9 r k' kp' dr' T' g' ok' hS hg => ?_)
  replace hS : S_value (vM k2 T) T (xs (i + 1)) (xs (i + 2)) (xs (i + 3)) (xs (i + 4)) c9 r (vX k' kp' T') T' := by rw [← hVV]; exact hS
  refine gg_istore K dL_law_590 (by decide) ?_
  refine gg_aload_n K (i := 2) dL_law_592 rfl rfl ?_
  refine gg_aload_n K (i := 0) dL_law_593 rfl rfl ?_
  refine gg_iload K dL_law_594 rfl ?_
  refine gg_iconst K (v := 1) dL_law_596 (by decide) ?_
  refine gg_iadd K dL_law_597 ?_
  refine gg_sld K hX hbl hbA (i + 1) (nI_add i 1) (by omega) hLn dL_law_598 ?_
  refine gg_aload_n K (i := 0) dL_law_599 rfl rfl ?_
  refine gg_iload K dL_law_600 rfl ?_
  refine gg_iconst K (v := 2) dL_law_602 (by decide) ?_
  refine gg_iadd K dL_law_603 ?_
  refine gg_sld K hX hbl hbA (i + 2) (nI_add i 2) (by omega) hLn dL_law_604 ?_
  refine gg_aload_n K (i := 0) dL_law_605 rfl rfl ?_
  refine gg_iload K dL_law_606 rfl ?_
  refine gg_iconst K (v := 3) dL_law_608 (by decide) ?_
  refine gg_iadd K dL_law_609 ?_
  refine gg_sld K hX hbl hbA (i + 3) (nI_add i 3) (by omega) hLn dL_law_610 ?_
  refine gg_aload_n K (i := 0) dL_law_611 rfl rfl ?_
  refine gg_iload K dL_law_612 rfl ?_
  refine gg_iconst K (v := 4) dL_law_614 (by decide) ?_
  refine gg_iadd K dL_law_615 ?_
  refine gg_sld K hX hbl hbA (i + 4) (nI_add i 4) (by omega) hLn dL_law_616 ?_
  refine gg_lawM K k_L_X1_value (m_value hT) dL_law_617 rfl rfl rfl (by omega) (by omega) rfl (fun v u h => ?_)
  obtain ⟨c2, r2, k2', T2, rf', rb', re', rfl, rfl, hS2⟩ := h
  obtain ⟨rfl, hV', rfl, hr⟩ := uq_value hS hS2
  have hI' : lInv k' kp' T' k2' := ⟨ok', hV', inv_value hinv hS2⟩
  refine ⟨_, _, _, _, _, _, rfl, ?_⟩
  refine gg_istore K dL_law_620 (by decide) ?_
  refine gg_aload_n K (i := 2) dL_law_622 rfl rfl ?_
  refine gg_lawM K k_L_X1_thrown m_thrown dL_law_623 rfl rfl rfl (by omega) (by omega) rfl (fun v u h => ?_)
  obtain ⟨rfl, rfl⟩ := h
  refine ⟨_, _, _, _, _, _, rfl, ?_⟩
  refine gg_iload K dL_law_626 rfl ?_
  refine gg_icmp_eq K (tgt := 633) dL_law_628 (by decide) (fun h628 => ?_) (fun h628 => ?_)
  rotate_left
  · exact absurd rfl h628
  refine gg_iload K dL_law_633 rfl ?_
  refine gg_if_ne K (tgt := 650) dL_law_635 (by decide) (fun h635 => ?_) (fun h635 => ?_)
  ·
    refine gg_goto K (tgt := 1635) dL_law_650 (by decide) ?_
    refine gg_sub (L' := LH b X Y oj od i) ⟨rfl, rfl, rfl, rfl, rfl, rfl, trivial⟩ ?_
    exact kk k' kp' dr' T' k2' _ _ _ _ _ _ hI'
  refine gg_aload_n K (i := 3) dL_law_638 rfl rfl ?_
  refine gg_iconst K (v := 0) dL_law_639 (by decide) ?_
  refine gg_ldJ 0 K rfl dL_law_640 ?_
  refine gg_iload K dL_law_641 rfl ?_
  refine gg_i2l K dL_law_643 ?_
  refine gg_lcmp K dL_law_644 ?_
  refine gg_if_eq K (tgt := 650) dL_law_645 (by decide) (fun h645 => ?_) (fun h645 => ?_)
  rotate_left
  · exact absurd (by rw [hg h635, hr h635]; exact lg_cmp_self _) h645
  refine gg_goto K (tgt := 1635) dL_law_650 (by decide) ?_
  refine gg_sub (L' := LH b X Y oj od i) ⟨rfl, rfl, rfl, rfl, rfl, rfl, trivial⟩ ?_
  exact kk k' kp' dr' T' k2' _ _ _ _ _ _ hI'
set_option maxRecDepth 100000 in
theorem l_keys (K : kx p s m args meth c Z.1 A (ty3 Z) cL_law RL 8) (T9 : te A s s.heap) (hl0 : l.stackTraces = false) (hX : va_X b Ln xs s s.heap) (hbl : b < s.heap.size) (hbA : ¬ A b) (hi : i + 6 ≤ Ln) (hLn : Ln ≤ 3072) (h1 : cells + 8 ≤ 601024) (h2 : slots + 48 ≤ 7293034) (hI : lInv k kp T k2) (kk : lCont p l e s m args below meth c Z A cells slots Q X Y oj od b i) : gg p l e room_1 s m args below meth c Z.1 A 8 cells slots Q (wL Z X Y oj od k kp dr (nI T) k2 th (nI T) rf rb re g gd) 653 (LH b X Y oj od i) [] := by
  obtain ⟨ok, hVV, hinv⟩ := hI
  have hT := ok.1
  refine gg_aload_n K (i := 1) dL_law_653 rfl rfl ?_
  refine gg_aload_n K (i := 0) dL_law_654 rfl rfl ?_
  refine gg_iload K dL_law_655 rfl ?_
  refine gg_iconst K (v := 1) dL_law_657 (by decide) ?_
  refine gg_iadd K dL_law_658 ?_
  refine gg_sld K hX hbl hbA (i + 1) (nI_add i 1) (by omega) hLn dL_law_659 ?_
  refine gg_aload_n K (i := 0) dL_law_660 rfl rfl ?_
  refine gg_iload K dL_law_661 rfl ?_
  refine gg_iconst K (v := 2) dL_law_663 (by decide) ?_
  refine gg_iadd K dL_law_664 ?_
  refine gg_sld K hX hbl hbA (i + 2) (nI_add i 2) (by omega) hLn dL_law_665 ?_
  refine gg_aload_n K (i := 0) dL_law_666 rfl rfl ?_
  refine gg_iload K dL_law_667 rfl ?_
  refine gg_iconst K (v := 3) dL_law_669 (by decide) ?_
  refine gg_iadd K dL_law_670 ?_
  refine gg_sld K hX hbl hbA (i + 3) (nI_add i 3) (by omega) hLn dL_law_671 ?_
  refine gg_aload_n K (i := 3) dL_law_672 rfl rfl ?_
  refine gg_lawH K T9 k_L_L_keys (h_keys hl0 ok) dL_law_673 rfl rfl rfl h1 h2 rfl (fun c9 r k' kp' dr' T' g' ok' hS hg => ?_)
  replace hS : S_keys (vM k2 T) T (xs (i + 1)) (xs (i + 2)) (xs (i + 3)) c9 r (vX k' kp' T') T' := by rw [← hVV]; exact hS
  refine gg_istore K dL_law_676 (by decide) ?_
  refine gg_aload_n K (i := 2) dL_law_678 rfl rfl ?_
  refine gg_aload_n K (i := 0) dL_law_679 rfl rfl ?_
  refine gg_iload K dL_law_680 rfl ?_
  refine gg_iconst K (v := 1) dL_law_682 (by decide) ?_
  refine gg_iadd K dL_law_683 ?_
  refine gg_sld K hX hbl hbA (i + 1) (nI_add i 1) (by omega) hLn dL_law_684 ?_
  refine gg_aload_n K (i := 0) dL_law_685 rfl rfl ?_
  refine gg_iload K dL_law_686 rfl ?_
  refine gg_iconst K (v := 2) dL_law_688 (by decide) ?_
  refine gg_iadd K dL_law_689 ?_
  refine gg_sld K hX hbl hbA (i + 2) (nI_add i 2) (by omega) hLn dL_law_690 ?_
  refine gg_aload_n K (i := 0) dL_law_691 rfl rfl ?_
  refine gg_iload K dL_law_692 rfl ?_
  refine gg_iconst K (v := 3) dL_law_694 (by decide) ?_
  refine gg_iadd K dL_law_695 ?_
  refine gg_sld K hX hbl hbA (i + 3) (nI_add i 3) (by omega) hLn dL_law_696 ?_
  refine gg_lawM K k_L_X1_keys (m_keys hT) dL_law_697 rfl rfl rfl (by omega) (by omega) rfl (fun v u h => ?_)
  obtain ⟨c2, r2, k2', T2, rf', rb', re', rfl, rfl, hS2⟩ := h
  obtain ⟨rfl, hV', rfl, hr⟩ := uq_keys hS hS2
  have hI' : lInv k' kp' T' k2' := ⟨ok', hV', inv_keys hinv hS2⟩
  refine ⟨_, _, _, _, _, _, rfl, ?_⟩
  refine gg_istore K dL_law_700 (by decide) ?_
  refine gg_aload_n K (i := 2) dL_law_702 rfl rfl ?_
  refine gg_lawM K k_L_X1_thrown m_thrown dL_law_703 rfl rfl rfl (by omega) (by omega) rfl (fun v u h => ?_)
  obtain ⟨rfl, rfl⟩ := h
  refine ⟨_, _, _, _, _, _, rfl, ?_⟩
  refine gg_iload K dL_law_706 rfl ?_
  refine gg_icmp_eq K (tgt := 713) dL_law_708 (by decide) (fun h708 => ?_) (fun h708 => ?_)
  rotate_left
  · exact absurd rfl h708
  refine gg_iload K dL_law_713 rfl ?_
  refine gg_if_ne K (tgt := 730) dL_law_715 (by decide) (fun h715 => ?_) (fun h715 => ?_)
  ·
    refine gg_goto K (tgt := 1635) dL_law_730 (by decide) ?_
    refine gg_sub (L' := LH b X Y oj od i) ⟨rfl, rfl, rfl, rfl, rfl, rfl, trivial⟩ ?_
    exact kk k' kp' dr' T' k2' _ _ _ _ _ _ hI'
  refine gg_aload_n K (i := 3) dL_law_718 rfl rfl ?_
  refine gg_iconst K (v := 0) dL_law_719 (by decide) ?_
  refine gg_ldJ 0 K rfl dL_law_720 ?_
  refine gg_iload K dL_law_721 rfl ?_
  refine gg_i2l K dL_law_723 ?_
  refine gg_lcmp K dL_law_724 ?_
  refine gg_if_eq K (tgt := 730) dL_law_725 (by decide) (fun h725 => ?_) (fun h725 => ?_)
  rotate_left
  · exact absurd (by rw [hg h715, hr h715]; exact lg_cmp_self _) h725
  refine gg_goto K (tgt := 1635) dL_law_730 (by decide) ?_
  refine gg_sub (L' := LH b X Y oj od i) ⟨rfl, rfl, rfl, rfl, rfl, rfl, trivial⟩ ?_
  exact kk k' kp' dr' T' k2' _ _ _ _ _ _ hI'
set_option maxRecDepth 100000 in
theorem l_joined (K : kx p s m args meth c Z.1 A (ty3 Z) cL_law RL 8) (T9 : te A s s.heap) (hl0 : l.stackTraces = false) (hX : va_X b Ln xs s s.heap) (hbl : b < s.heap.size) (hbA : ¬ A b) (hi : i + 6 ≤ Ln) (hLn : Ln ≤ 3072) (h1 : cells + 8 ≤ 601024) (h2 : slots + 48 ≤ 7293034) (hI : lInv k kp T k2) (kk : lCont p l e s m args below meth c Z A cells slots Q X Y oj od b i) : gg p l e room_1 s m args below meth c Z.1 A 8 cells slots Q (wL Z X Y oj od k kp dr (nI T) k2 th (nI T) rf rb re g gd) 733 (LH b X Y oj od i) [] := by
  obtain ⟨ok, hVV, hinv⟩ := hI
  have hT := ok.1
  refine gg_aload_n K (i := 1) dL_law_733 rfl rfl ?_
  refine gg_aload_n K (i := 0) dL_law_734 rfl rfl ?_
  refine gg_iload K dL_law_735 rfl ?_
  refine gg_iconst K (v := 1) dL_law_737 (by decide) ?_
  refine gg_iadd K dL_law_738 ?_
  refine gg_sld K hX hbl hbA (i + 1) (nI_add i 1) (by omega) hLn dL_law_739 ?_
  refine gg_aload_n K (i := 0) dL_law_740 rfl rfl ?_
  refine gg_iload K dL_law_741 rfl ?_
  refine gg_iconst K (v := 2) dL_law_743 (by decide) ?_
  refine gg_iadd K dL_law_744 ?_
  refine gg_sld K hX hbl hbA (i + 2) (nI_add i 2) (by omega) hLn dL_law_745 ?_
  refine gg_aload_n K (i := 0) dL_law_746 rfl rfl ?_
  refine gg_iload K dL_law_747 rfl ?_
  refine gg_iconst K (v := 3) dL_law_749 (by decide) ?_
  refine gg_iadd K dL_law_750 ?_
  refine gg_sld K hX hbl hbA (i + 3) (nI_add i 3) (by omega) hLn dL_law_751 ?_
  refine gg_aload_n K (i := 3) dL_law_752 rfl rfl ?_
  refine gg_lawH K T9 k_L_L_joined (h_joined hl0 ok (by rw [hVV]; exact hinv.1)) dL_law_753 rfl rfl rfl h1 h2 rfl (fun c9 r k' kp' dr' T' g' ok' hS hg => ?_)
  replace hS : S_joined (vM k2 T) T (xs (i + 1)) (xs (i + 2)) (xs (i + 3)) c9 r (vX k' kp' T') T' := by rw [← hVV]; exact hS
  refine gg_istore K dL_law_756 (by decide) ?_
  refine gg_aload_n K (i := 2) dL_law_758 rfl rfl ?_
  refine gg_aload_n K (i := 0) dL_law_759 rfl rfl ?_
  refine gg_iload K dL_law_760 rfl ?_
  refine gg_iconst K (v := 1) dL_law_762 (by decide) ?_
  refine gg_iadd K dL_law_763 ?_
  refine gg_sld K hX hbl hbA (i + 1) (nI_add i 1) (by omega) hLn dL_law_764 ?_
  refine gg_aload_n K (i := 0) dL_law_765 rfl rfl ?_
  refine gg_iload K dL_law_766 rfl ?_
  refine gg_iconst K (v := 2) dL_law_768 (by decide) ?_
  refine gg_iadd K dL_law_769 ?_
  refine gg_sld K hX hbl hbA (i + 2) (nI_add i 2) (by omega) hLn dL_law_770 ?_
  refine gg_aload_n K (i := 0) dL_law_771 rfl rfl ?_
  refine gg_iload K dL_law_772 rfl ?_
  refine gg_iconst K (v := 3) dL_law_774 (by decide) ?_
  refine gg_iadd K dL_law_775 ?_
  refine gg_sld K hX hbl hbA (i + 3) (nI_add i 3) (by omega) hLn dL_law_776 ?_
  refine gg_lawM K k_L_X1_joined (m_joined hT hinv.1) dL_law_777 rfl rfl rfl (by omega) (by omega) rfl (fun v u h => ?_)
  obtain ⟨c2, r2, k2', T2, rf', rb', re', rfl, rfl, hS2⟩ := h
  obtain ⟨rfl, hV', rfl, hr⟩ := uq_joined hS hS2
  have hI' : lInv k' kp' T' k2' := ⟨ok', hV', inv_joined hinv hS2⟩
  refine ⟨_, _, _, _, _, _, rfl, ?_⟩
  refine gg_istore K dL_law_780 (by decide) ?_
  refine gg_aload_n K (i := 2) dL_law_782 rfl rfl ?_
  refine gg_lawM K k_L_X1_thrown m_thrown dL_law_783 rfl rfl rfl (by omega) (by omega) rfl (fun v u h => ?_)
  obtain ⟨rfl, rfl⟩ := h
  refine ⟨_, _, _, _, _, _, rfl, ?_⟩
  refine gg_iload K dL_law_786 rfl ?_
  refine gg_icmp_eq K (tgt := 793) dL_law_788 (by decide) (fun h788 => ?_) (fun h788 => ?_)
  rotate_left
  · exact absurd rfl h788
  refine gg_iload K dL_law_793 rfl ?_
  refine gg_if_ne K (tgt := 810) dL_law_795 (by decide) (fun h795 => ?_) (fun h795 => ?_)
  ·
    refine gg_goto K (tgt := 1635) dL_law_810 (by decide) ?_
    refine gg_sub (L' := LH b X Y oj od i) ⟨rfl, rfl, rfl, rfl, rfl, rfl, trivial⟩ ?_
    exact kk k' kp' dr' T' k2' _ _ _ _ _ _ hI'
  refine gg_aload_n K (i := 3) dL_law_798 rfl rfl ?_
  refine gg_iconst K (v := 0) dL_law_799 (by decide) ?_
  refine gg_ldJ 0 K rfl dL_law_800 ?_
  refine gg_iload K dL_law_801 rfl ?_
  refine gg_i2l K dL_law_803 ?_
  refine gg_lcmp K dL_law_804 ?_
  refine gg_if_eq K (tgt := 810) dL_law_805 (by decide) (fun h805 => ?_) (fun h805 => ?_)
  rotate_left
  · exact absurd (by rw [hg h795, hr h795]; exact lg_cmp_self _) h805
  refine gg_goto K (tgt := 1635) dL_law_810 (by decide) ?_
  refine gg_sub (L' := LH b X Y oj od i) ⟨rfl, rfl, rfl, rfl, rfl, rfl, trivial⟩ ?_
  exact kk k' kp' dr' T' k2' _ _ _ _ _ _ hI'
set_option maxRecDepth 100000 in
theorem l_runs (K : kx p s m args meth c Z.1 A (ty3 Z) cL_law RL 8) (T9 : te A s s.heap) (hl0 : l.stackTraces = false) (hX : va_X b Ln xs s s.heap) (hbl : b < s.heap.size) (hbA : ¬ A b) (hi : i + 6 ≤ Ln) (hLn : Ln ≤ 3072) (h1 : cells + 8 ≤ 601024) (h2 : slots + 48 ≤ 7293034) (hI : lInv k kp T k2) (kk : lCont p l e s m args below meth c Z A cells slots Q X Y oj od b i) : gg p l e room_1 s m args below meth c Z.1 A 8 cells slots Q (wL Z X Y oj od k kp dr (nI T) k2 th (nI T) rf rb re g gd) 813 (LH b X Y oj od i) [] := by
  obtain ⟨ok, hVV, hinv⟩ := hI
  have hT := ok.1
  refine gg_aload_n K (i := 1) dL_law_813 rfl rfl ?_
  refine gg_aload_n K (i := 0) dL_law_814 rfl rfl ?_
  refine gg_iload K dL_law_815 rfl ?_
  refine gg_iconst K (v := 1) dL_law_817 (by decide) ?_
  refine gg_iadd K dL_law_818 ?_
  refine gg_sld K hX hbl hbA (i + 1) (nI_add i 1) (by omega) hLn dL_law_819 ?_
  refine gg_aload_n K (i := 0) dL_law_820 rfl rfl ?_
  refine gg_iload K dL_law_821 rfl ?_
  refine gg_iconst K (v := 2) dL_law_823 (by decide) ?_
  refine gg_iadd K dL_law_824 ?_
  refine gg_sld K hX hbl hbA (i + 2) (nI_add i 2) (by omega) hLn dL_law_825 ?_
  refine gg_aload_n K (i := 0) dL_law_826 rfl rfl ?_
  refine gg_iload K dL_law_827 rfl ?_
  refine gg_iconst K (v := 3) dL_law_829 (by decide) ?_
  refine gg_iadd K dL_law_830 ?_
  refine gg_sld K hX hbl hbA (i + 3) (nI_add i 3) (by omega) hLn dL_law_831 ?_
  refine gg_aload_n K (i := 3) dL_law_832 rfl rfl ?_
  refine gg_lawH K T9 k_L_L_runs (h_runs hl0 ok) dL_law_833 rfl rfl rfl h1 h2 rfl (fun c9 r k' kp' dr' T' g' ok' hS hg => ?_)
  replace hS : S_runs (vM k2 T) T (xs (i + 1)) (xs (i + 2)) (xs (i + 3)) c9 r (vX k' kp' T') T' := by rw [← hVV]; exact hS
  refine gg_istore K dL_law_836 (by decide) ?_
  refine gg_aload_n K (i := 2) dL_law_838 rfl rfl ?_
  refine gg_aload_n K (i := 0) dL_law_839 rfl rfl ?_
  refine gg_iload K dL_law_840 rfl ?_
  refine gg_iconst K (v := 1) dL_law_842 (by decide) ?_
  refine gg_iadd K dL_law_843 ?_
  refine gg_sld K hX hbl hbA (i + 1) (nI_add i 1) (by omega) hLn dL_law_844 ?_
  refine gg_aload_n K (i := 0) dL_law_845 rfl rfl ?_
  refine gg_iload K dL_law_846 rfl ?_
  refine gg_iconst K (v := 2) dL_law_848 (by decide) ?_
  refine gg_iadd K dL_law_849 ?_
  refine gg_sld K hX hbl hbA (i + 2) (nI_add i 2) (by omega) hLn dL_law_850 ?_
  refine gg_aload_n K (i := 0) dL_law_851 rfl rfl ?_
  refine gg_iload K dL_law_852 rfl ?_
  refine gg_iconst K (v := 3) dL_law_854 (by decide) ?_
  refine gg_iadd K dL_law_855 ?_
  refine gg_sld K hX hbl hbA (i + 3) (nI_add i 3) (by omega) hLn dL_law_856 ?_
  refine gg_lawM K k_L_X1_runs (m_runs hT) dL_law_857 rfl rfl rfl (by omega) (by omega) rfl (fun v u h => ?_)
  obtain ⟨c2, r2, k2', T2, rf', rb', re', rfl, rfl, hS2⟩ := h
  obtain ⟨rfl, hV', rfl, hr⟩ := uq_runs hS hS2
  have hI' : lInv k' kp' T' k2' := ⟨ok', hV', inv_runs hinv hS2⟩
  refine ⟨_, _, _, _, _, _, rfl, ?_⟩
  refine gg_istore K dL_law_860 (by decide) ?_
  refine gg_aload_n K (i := 2) dL_law_862 rfl rfl ?_
  refine gg_lawM K k_L_X1_thrown m_thrown dL_law_863 rfl rfl rfl (by omega) (by omega) rfl (fun v u h => ?_)
  obtain ⟨rfl, rfl⟩ := h
  refine ⟨_, _, _, _, _, _, rfl, ?_⟩
  refine gg_iload K dL_law_866 rfl ?_
  refine gg_icmp_eq K (tgt := 873) dL_law_868 (by decide) (fun h868 => ?_) (fun h868 => ?_)
  rotate_left
  · exact absurd rfl h868
  refine gg_iload K dL_law_873 rfl ?_
  refine gg_if_ne K (tgt := 890) dL_law_875 (by decide) (fun h875 => ?_) (fun h875 => ?_)
  ·
    refine gg_goto K (tgt := 1635) dL_law_890 (by decide) ?_
    refine gg_sub (L' := LH b X Y oj od i) ⟨rfl, rfl, rfl, rfl, rfl, rfl, trivial⟩ ?_
    exact kk k' kp' dr' T' k2' _ _ _ _ _ _ hI'
  refine gg_aload_n K (i := 3) dL_law_878 rfl rfl ?_
  refine gg_iconst K (v := 0) dL_law_879 (by decide) ?_
  refine gg_ldJ 0 K rfl dL_law_880 ?_
  refine gg_iload K dL_law_881 rfl ?_
  refine gg_i2l K dL_law_883 ?_
  refine gg_lcmp K dL_law_884 ?_
  refine gg_if_eq K (tgt := 890) dL_law_885 (by decide) (fun h885 => ?_) (fun h885 => ?_)
  rotate_left
  · exact absurd (by rw [hg h875, hr h875]; exact lg_cmp_self _) h885
  refine gg_goto K (tgt := 1635) dL_law_890 (by decide) ?_
  refine gg_sub (L' := LH b X Y oj od i) ⟨rfl, rfl, rfl, rfl, rfl, rfl, trivial⟩ ?_
  exact kk k' kp' dr' T' k2' _ _ _ _ _ _ hI'
set_option maxRecDepth 100000 in
theorem l_run (K : kx p s m args meth c Z.1 A (ty3 Z) cL_law RL 8) (T9 : te A s s.heap) (hl0 : l.stackTraces = false) (hX : va_X b Ln xs s s.heap) (hbl : b < s.heap.size) (hbA : ¬ A b) (hi : i + 6 ≤ Ln) (hLn : Ln ≤ 3072) (h1 : cells + 8 ≤ 601024) (h2 : slots + 48 ≤ 7293034) (hI : lInv k kp T k2) (kk : lCont p l e s m args below meth c Z A cells slots Q X Y oj od b i) : gg p l e room_1 s m args below meth c Z.1 A 8 cells slots Q (wL Z X Y oj od k kp dr (nI T) k2 th (nI T) rf rb re g gd) 893 (LH b X Y oj od i) [] := by
  obtain ⟨ok, hVV, hinv⟩ := hI
  have hT := ok.1
  refine gg_aload_n K (i := 1) dL_law_893 rfl rfl ?_
  refine gg_aload_n K (i := 0) dL_law_894 rfl rfl ?_
  refine gg_iload K dL_law_895 rfl ?_
  refine gg_iconst K (v := 1) dL_law_897 (by decide) ?_
  refine gg_iadd K dL_law_898 ?_
  refine gg_sld K hX hbl hbA (i + 1) (nI_add i 1) (by omega) hLn dL_law_899 ?_
  refine gg_aload_n K (i := 0) dL_law_900 rfl rfl ?_
  refine gg_iload K dL_law_901 rfl ?_
  refine gg_iconst K (v := 2) dL_law_903 (by decide) ?_
  refine gg_iadd K dL_law_904 ?_
  refine gg_sld K hX hbl hbA (i + 2) (nI_add i 2) (by omega) hLn dL_law_905 ?_
  refine gg_aload_n K (i := 0) dL_law_906 rfl rfl ?_
  refine gg_iload K dL_law_907 rfl ?_
  refine gg_iconst K (v := 3) dL_law_909 (by decide) ?_
  refine gg_iadd K dL_law_910 ?_
  refine gg_sld K hX hbl hbA (i + 3) (nI_add i 3) (by omega) hLn dL_law_911 ?_
  refine gg_aload_n K (i := 0) dL_law_912 rfl rfl ?_
  refine gg_iload K dL_law_913 rfl ?_
  refine gg_iconst K (v := 4) dL_law_915 (by decide) ?_
  refine gg_iadd K dL_law_916 ?_
  refine gg_sld K hX hbl hbA (i + 4) (nI_add i 4) (by omega) hLn dL_law_917 ?_
  refine gg_aload_n K (i := 3) dL_law_918 rfl rfl ?_
  refine gg_lawH K T9 k_L_L_run (h_run hl0 ok) dL_law_919 rfl rfl rfl h1 h2 rfl (fun c9 r k' kp' dr' T' g' ok' hS hg => ?_)
  replace hS : S_run (vM k2 T) T (xs (i + 1)) (xs (i + 2)) (xs (i + 3)) (xs (i + 4)) c9 r (vX k' kp' T') T' := by rw [← hVV]; exact hS
  refine gg_istore K dL_law_922 (by decide) ?_
  refine gg_aload_n K (i := 2) dL_law_924 rfl rfl ?_
  refine gg_aload_n K (i := 0) dL_law_925 rfl rfl ?_
  refine gg_iload K dL_law_926 rfl ?_
  refine gg_iconst K (v := 1) dL_law_928 (by decide) ?_
  refine gg_iadd K dL_law_929 ?_
  refine gg_sld K hX hbl hbA (i + 1) (nI_add i 1) (by omega) hLn dL_law_930 ?_
  refine gg_aload_n K (i := 0) dL_law_931 rfl rfl ?_
  refine gg_iload K dL_law_932 rfl ?_
  refine gg_iconst K (v := 2) dL_law_934 (by decide) ?_
  refine gg_iadd K dL_law_935 ?_
  refine gg_sld K hX hbl hbA (i + 2) (nI_add i 2) (by omega) hLn dL_law_936 ?_
  refine gg_aload_n K (i := 0) dL_law_937 rfl rfl ?_
  refine gg_iload K dL_law_938 rfl ?_
  refine gg_iconst K (v := 3) dL_law_940 (by decide) ?_
  refine gg_iadd K dL_law_941 ?_
  refine gg_sld K hX hbl hbA (i + 3) (nI_add i 3) (by omega) hLn dL_law_942 ?_
  refine gg_aload_n K (i := 0) dL_law_943 rfl rfl ?_
  refine gg_iload K dL_law_944 rfl ?_
  refine gg_iconst K (v := 4) dL_law_946 (by decide) ?_
  refine gg_iadd K dL_law_947 ?_
  refine gg_sld K hX hbl hbA (i + 4) (nI_add i 4) (by omega) hLn dL_law_948 ?_
  refine gg_lawM K k_L_X1_run (m_run hT) dL_law_949 rfl rfl rfl (by omega) (by omega) rfl (fun v u h => ?_)
  obtain ⟨c2, r2, k2', T2, rf', rb', re', rfl, rfl, hS2⟩ := h
  obtain ⟨rfl, hV', rfl, hr⟩ := uq_run hS hS2
  have hI' : lInv k' kp' T' k2' := ⟨ok', hV', inv_run hinv hS2⟩
  refine ⟨_, _, _, _, _, _, rfl, ?_⟩
  refine gg_istore K dL_law_952 (by decide) ?_
  refine gg_aload_n K (i := 2) dL_law_954 rfl rfl ?_
  refine gg_lawM K k_L_X1_thrown m_thrown dL_law_955 rfl rfl rfl (by omega) (by omega) rfl (fun v u h => ?_)
  obtain ⟨rfl, rfl⟩ := h
  refine ⟨_, _, _, _, _, _, rfl, ?_⟩
  refine gg_iload K dL_law_958 rfl ?_
  refine gg_icmp_eq K (tgt := 965) dL_law_960 (by decide) (fun h960 => ?_) (fun h960 => ?_)
  rotate_left
  · exact absurd rfl h960
  refine gg_iload K dL_law_965 rfl ?_
  refine gg_if_ne K (tgt := 982) dL_law_967 (by decide) (fun h967 => ?_) (fun h967 => ?_)
  ·
    refine gg_goto K (tgt := 1635) dL_law_982 (by decide) ?_
    refine gg_sub (L' := LH b X Y oj od i) ⟨rfl, rfl, rfl, rfl, rfl, rfl, trivial⟩ ?_
    exact kk k' kp' dr' T' k2' _ _ _ _ _ _ hI'
  refine gg_aload_n K (i := 3) dL_law_970 rfl rfl ?_
  refine gg_iconst K (v := 0) dL_law_971 (by decide) ?_
  refine gg_ldJ 0 K rfl dL_law_972 ?_
  refine gg_iload K dL_law_973 rfl ?_
  refine gg_i2l K dL_law_975 ?_
  refine gg_lcmp K dL_law_976 ?_
  refine gg_if_eq K (tgt := 982) dL_law_977 (by decide) (fun h977 => ?_) (fun h977 => ?_)
  rotate_left
  · exact absurd (by rw [hg h967, hr h967]; exact lg_cmp_self _) h977
  refine gg_goto K (tgt := 1635) dL_law_982 (by decide) ?_
  refine gg_sub (L' := LH b X Y oj od i) ⟨rfl, rfl, rfl, rfl, rfl, rfl, trivial⟩ ?_
  exact kk k' kp' dr' T' k2' _ _ _ _ _ _ hI'
set_option maxRecDepth 100000 in
theorem l_joinedRuns (K : kx p s m args meth c Z.1 A (ty3 Z) cL_law RL 8) (T9 : te A s s.heap) (hl0 : l.stackTraces = false) (hX : va_X b Ln xs s s.heap) (hbl : b < s.heap.size) (hbA : ¬ A b) (hi : i + 6 ≤ Ln) (hLn : Ln ≤ 3072) (h1 : cells + 8 ≤ 601024) (h2 : slots + 48 ≤ 7293034) (hI : lInv k kp T k2) (kk : lCont p l e s m args below meth c Z A cells slots Q X Y oj od b i) : gg p l e room_1 s m args below meth c Z.1 A 8 cells slots Q (wL Z X Y oj od k kp dr (nI T) k2 th (nI T) rf rb re g gd) 985 (LH b X Y oj od i) [] := by
  obtain ⟨ok, hVV, hinv⟩ := hI
  have hT := ok.1
  refine gg_aload_n K (i := 1) dL_law_985 rfl rfl ?_
  refine gg_aload_n K (i := 0) dL_law_986 rfl rfl ?_
  refine gg_iload K dL_law_987 rfl ?_
  refine gg_iconst K (v := 1) dL_law_989 (by decide) ?_
  refine gg_iadd K dL_law_990 ?_
  refine gg_sld K hX hbl hbA (i + 1) (nI_add i 1) (by omega) hLn dL_law_991 ?_
  refine gg_aload_n K (i := 0) dL_law_992 rfl rfl ?_
  refine gg_iload K dL_law_993 rfl ?_
  refine gg_iconst K (v := 2) dL_law_995 (by decide) ?_
  refine gg_iadd K dL_law_996 ?_
  refine gg_sld K hX hbl hbA (i + 2) (nI_add i 2) (by omega) hLn dL_law_997 ?_
  refine gg_aload_n K (i := 3) dL_law_998 rfl rfl ?_
  refine gg_lawH K T9 k_L_L_joinedRuns (h_joinedRuns hl0 ok (by rw [hVV]; exact hinv.1)) dL_law_999 rfl rfl rfl h1 h2 rfl (fun c9 r k' kp' dr' T' g' ok' hS hg => ?_)
  replace hS : S_joinedRuns (vM k2 T) T (xs (i + 1)) (xs (i + 2)) c9 r (vX k' kp' T') T' := by rw [← hVV]; exact hS
  refine gg_istore K dL_law_1002 (by decide) ?_
  refine gg_aload_n K (i := 2) dL_law_1004 rfl rfl ?_
  refine gg_aload_n K (i := 0) dL_law_1005 rfl rfl ?_
  refine gg_iload K dL_law_1006 rfl ?_
  refine gg_iconst K (v := 1) dL_law_1008 (by decide) ?_
  refine gg_iadd K dL_law_1009 ?_
  refine gg_sld K hX hbl hbA (i + 1) (nI_add i 1) (by omega) hLn dL_law_1010 ?_
  refine gg_aload_n K (i := 0) dL_law_1011 rfl rfl ?_
  refine gg_iload K dL_law_1012 rfl ?_
  refine gg_iconst K (v := 2) dL_law_1014 (by decide) ?_
  refine gg_iadd K dL_law_1015 ?_
  refine gg_sld K hX hbl hbA (i + 2) (nI_add i 2) (by omega) hLn dL_law_1016 ?_
  refine gg_lawM K k_L_X1_joinedRuns (m_joinedRuns hT hinv.1) dL_law_1017 rfl rfl rfl (by omega) (by omega) rfl (fun v u h => ?_)
  obtain ⟨c2, r2, k2', T2, rf', rb', re', rfl, rfl, hS2⟩ := h
  obtain ⟨rfl, hV', rfl, hr⟩ := uq_joinedRuns hS hS2
  have hI' : lInv k' kp' T' k2' := ⟨ok', hV', inv_joinedRuns hinv hS2⟩
  refine ⟨_, _, _, _, _, _, rfl, ?_⟩
  refine gg_istore K dL_law_1020 (by decide) ?_
  refine gg_aload_n K (i := 2) dL_law_1022 rfl rfl ?_
  refine gg_lawM K k_L_X1_thrown m_thrown dL_law_1023 rfl rfl rfl (by omega) (by omega) rfl (fun v u h => ?_)
  obtain ⟨rfl, rfl⟩ := h
  refine ⟨_, _, _, _, _, _, rfl, ?_⟩
  refine gg_iload K dL_law_1026 rfl ?_
  refine gg_icmp_eq K (tgt := 1033) dL_law_1028 (by decide) (fun h1028 => ?_) (fun h1028 => ?_)
  rotate_left
  · exact absurd rfl h1028
  refine gg_iload K dL_law_1033 rfl ?_
  refine gg_if_ne K (tgt := 1050) dL_law_1035 (by decide) (fun h1035 => ?_) (fun h1035 => ?_)
  ·
    refine gg_goto K (tgt := 1635) dL_law_1050 (by decide) ?_
    refine gg_sub (L' := LH b X Y oj od i) ⟨rfl, rfl, rfl, rfl, rfl, rfl, trivial⟩ ?_
    exact kk k' kp' dr' T' k2' _ _ _ _ _ _ hI'
  refine gg_aload_n K (i := 3) dL_law_1038 rfl rfl ?_
  refine gg_iconst K (v := 0) dL_law_1039 (by decide) ?_
  refine gg_ldJ 0 K rfl dL_law_1040 ?_
  refine gg_iload K dL_law_1041 rfl ?_
  refine gg_i2l K dL_law_1043 ?_
  refine gg_lcmp K dL_law_1044 ?_
  refine gg_if_eq K (tgt := 1050) dL_law_1045 (by decide) (fun h1045 => ?_) (fun h1045 => ?_)
  rotate_left
  · exact absurd (by rw [hg h1035, hr h1035]; exact lg_cmp_self _) h1045
  refine gg_goto K (tgt := 1635) dL_law_1050 (by decide) ?_
  refine gg_sub (L' := LH b X Y oj od i) ⟨rfl, rfl, rfl, rfl, rfl, rfl, trivial⟩ ?_
  exact kk k' kp' dr' T' k2' _ _ _ _ _ _ hI'
set_option maxRecDepth 100000 in
theorem l_rows (K : kx p s m args meth c Z.1 A (ty3 Z) cL_law RL 8) (T9 : te A s s.heap) (hl0 : l.stackTraces = false) (hX : va_X b Ln xs s s.heap) (hbl : b < s.heap.size) (hbA : ¬ A b) (hi : i + 6 ≤ Ln) (hLn : Ln ≤ 3072) (h1 : cells + 8 ≤ 601024) (h2 : slots + 48 ≤ 7293034) (hI : lInv k kp T k2) (kk : lCont p l e s m args below meth c Z A cells slots Q X Y oj od b i) : gg p l e room_1 s m args below meth c Z.1 A 8 cells slots Q (wL Z X Y oj od k kp dr (nI T) k2 th (nI T) rf rb re g gd) 1053 (LH b X Y oj od i) [] := by
  obtain ⟨ok, hVV, hinv⟩ := hI
  have hT := ok.1
  refine gg_aload_n K (i := 1) dL_law_1053 rfl rfl ?_
  refine gg_aload_n K (i := 0) dL_law_1054 rfl rfl ?_
  refine gg_iload K dL_law_1055 rfl ?_
  refine gg_iconst K (v := 1) dL_law_1057 (by decide) ?_
  refine gg_iadd K dL_law_1058 ?_
  refine gg_sld K hX hbl hbA (i + 1) (nI_add i 1) (by omega) hLn dL_law_1059 ?_
  refine gg_aload_n K (i := 0) dL_law_1060 rfl rfl ?_
  refine gg_iload K dL_law_1061 rfl ?_
  refine gg_iconst K (v := 2) dL_law_1063 (by decide) ?_
  refine gg_iadd K dL_law_1064 ?_
  refine gg_sld K hX hbl hbA (i + 2) (nI_add i 2) (by omega) hLn dL_law_1065 ?_
  refine gg_aload_n K (i := 3) dL_law_1066 rfl rfl ?_
  refine gg_lawH K T9 k_L_L_rows (h_rows hl0 ok) dL_law_1067 rfl rfl rfl h1 h2 rfl (fun c9 r k' kp' dr' T' g' ok' hS hg => ?_)
  replace hS : S_rows (vM k2 T) T (xs (i + 1)) (xs (i + 2)) c9 r (vX k' kp' T') T' := by rw [← hVV]; exact hS
  refine gg_istore K dL_law_1070 (by decide) ?_
  refine gg_aload_n K (i := 2) dL_law_1072 rfl rfl ?_
  refine gg_aload_n K (i := 0) dL_law_1073 rfl rfl ?_
  refine gg_iload K dL_law_1074 rfl ?_
  refine gg_iconst K (v := 1) dL_law_1076 (by decide) ?_
  refine gg_iadd K dL_law_1077 ?_
  refine gg_sld K hX hbl hbA (i + 1) (nI_add i 1) (by omega) hLn dL_law_1078 ?_
  refine gg_aload_n K (i := 0) dL_law_1079 rfl rfl ?_
  refine gg_iload K dL_law_1080 rfl ?_
  refine gg_iconst K (v := 2) dL_law_1082 (by decide) ?_
  refine gg_iadd K dL_law_1083 ?_
  refine gg_sld K hX hbl hbA (i + 2) (nI_add i 2) (by omega) hLn dL_law_1084 ?_
  refine gg_lawM K k_L_X1_rows (m_rows hT hinv.1) dL_law_1085 rfl rfl rfl (by omega) (by omega) rfl (fun v u h => ?_)
  obtain ⟨c2, r2, k2', T2, rf', rb', re', rfl, rfl, hS2⟩ := h
  obtain ⟨rfl, hV', rfl, hr⟩ := uq_rows hS hS2
  have hI' : lInv k' kp' T' k2' := ⟨ok', hV', inv_rows hinv hS2⟩
  refine ⟨_, _, _, _, _, _, rfl, ?_⟩
  refine gg_istore K dL_law_1088 (by decide) ?_
  refine gg_aload_n K (i := 2) dL_law_1090 rfl rfl ?_
  refine gg_lawM K k_L_X1_thrown m_thrown dL_law_1091 rfl rfl rfl (by omega) (by omega) rfl (fun v u h => ?_)
  obtain ⟨rfl, rfl⟩ := h
  refine ⟨_, _, _, _, _, _, rfl, ?_⟩
  refine gg_iload K dL_law_1094 rfl ?_
  refine gg_icmp_eq K (tgt := 1101) dL_law_1096 (by decide) (fun h1096 => ?_) (fun h1096 => ?_)
  rotate_left
  · exact absurd rfl h1096
  refine gg_iload K dL_law_1101 rfl ?_
  refine gg_if_ne K (tgt := 1118) dL_law_1103 (by decide) (fun h1103 => ?_) (fun h1103 => ?_)
  ·
    refine gg_goto K (tgt := 1635) dL_law_1118 (by decide) ?_
    refine gg_sub (L' := LH b X Y oj od i) ⟨rfl, rfl, rfl, rfl, rfl, rfl, trivial⟩ ?_
    exact kk k' kp' dr' T' k2' _ _ _ _ _ _ hI'
  refine gg_aload_n K (i := 3) dL_law_1106 rfl rfl ?_
  refine gg_iconst K (v := 0) dL_law_1107 (by decide) ?_
  refine gg_ldJ 0 K rfl dL_law_1108 ?_
  refine gg_iload K dL_law_1109 rfl ?_
  refine gg_i2l K dL_law_1111 ?_
  refine gg_lcmp K dL_law_1112 ?_
  refine gg_if_eq K (tgt := 1118) dL_law_1113 (by decide) (fun h1113 => ?_) (fun h1113 => ?_)
  rotate_left
  · exact absurd (by rw [hg h1103, hr h1103]; exact lg_cmp_self _) h1113
  refine gg_goto K (tgt := 1635) dL_law_1118 (by decide) ?_
  refine gg_sub (L' := LH b X Y oj od i) ⟨rfl, rfl, rfl, rfl, rfl, rfl, trivial⟩ ?_
  exact kk k' kp' dr' T' k2' _ _ _ _ _ _ hI'
set_option maxRecDepth 100000 in
theorem l_rowRun (K : kx p s m args meth c Z.1 A (ty3 Z) cL_law RL 8) (T9 : te A s s.heap) (hl0 : l.stackTraces = false) (hX : va_X b Ln xs s s.heap) (hbl : b < s.heap.size) (hbA : ¬ A b) (hi : i + 6 ≤ Ln) (hLn : Ln ≤ 3072) (h1 : cells + 8 ≤ 601024) (h2 : slots + 48 ≤ 7293034) (hI : lInv k kp T k2) (kk : lCont p l e s m args below meth c Z A cells slots Q X Y oj od b i) : gg p l e room_1 s m args below meth c Z.1 A 8 cells slots Q (wL Z X Y oj od k kp dr (nI T) k2 th (nI T) rf rb re g gd) 1121 (LH b X Y oj od i) [] := by
  obtain ⟨ok, hVV, hinv⟩ := hI
  have hT := ok.1
  refine gg_aload_n K (i := 1) dL_law_1121 rfl rfl ?_
  refine gg_aload_n K (i := 0) dL_law_1122 rfl rfl ?_
  refine gg_iload K dL_law_1123 rfl ?_
  refine gg_iconst K (v := 1) dL_law_1125 (by decide) ?_
  refine gg_iadd K dL_law_1126 ?_
  refine gg_sld K hX hbl hbA (i + 1) (nI_add i 1) (by omega) hLn dL_law_1127 ?_
  refine gg_aload_n K (i := 0) dL_law_1128 rfl rfl ?_
  refine gg_iload K dL_law_1129 rfl ?_
  refine gg_iconst K (v := 2) dL_law_1131 (by decide) ?_
  refine gg_iadd K dL_law_1132 ?_
  refine gg_sld K hX hbl hbA (i + 2) (nI_add i 2) (by omega) hLn dL_law_1133 ?_
  refine gg_aload_n K (i := 0) dL_law_1134 rfl rfl ?_
  refine gg_iload K dL_law_1135 rfl ?_
  refine gg_iconst K (v := 3) dL_law_1137 (by decide) ?_
  refine gg_iadd K dL_law_1138 ?_
  refine gg_sld K hX hbl hbA (i + 3) (nI_add i 3) (by omega) hLn dL_law_1139 ?_
  refine gg_aload_n K (i := 3) dL_law_1140 rfl rfl ?_
  refine gg_lawH K T9 k_L_L_rowRun (h_rowRun hl0 ok) dL_law_1141 rfl rfl rfl h1 h2 rfl (fun c9 r k' kp' dr' T' g' ok' hS hg => ?_)
  replace hS : S_rowRun (vM k2 T) T (xs (i + 1)) (xs (i + 2)) (xs (i + 3)) c9 r (vX k' kp' T') T' := by rw [← hVV]; exact hS
  refine gg_istore K dL_law_1144 (by decide) ?_
  refine gg_aload_n K (i := 2) dL_law_1146 rfl rfl ?_
  refine gg_aload_n K (i := 0) dL_law_1147 rfl rfl ?_
  refine gg_iload K dL_law_1148 rfl ?_
  refine gg_iconst K (v := 1) dL_law_1150 (by decide) ?_
  refine gg_iadd K dL_law_1151 ?_
  refine gg_sld K hX hbl hbA (i + 1) (nI_add i 1) (by omega) hLn dL_law_1152 ?_
  refine gg_aload_n K (i := 0) dL_law_1153 rfl rfl ?_
  refine gg_iload K dL_law_1154 rfl ?_
  refine gg_iconst K (v := 2) dL_law_1156 (by decide) ?_
  refine gg_iadd K dL_law_1157 ?_
  refine gg_sld K hX hbl hbA (i + 2) (nI_add i 2) (by omega) hLn dL_law_1158 ?_
  refine gg_aload_n K (i := 0) dL_law_1159 rfl rfl ?_
  refine gg_iload K dL_law_1160 rfl ?_
  refine gg_iconst K (v := 3) dL_law_1162 (by decide) ?_
  refine gg_iadd K dL_law_1163 ?_
  refine gg_sld K hX hbl hbA (i + 3) (nI_add i 3) (by omega) hLn dL_law_1164 ?_
  refine gg_lawM K k_L_X1_rowRun (m_rowRun hT hinv.1) dL_law_1165 rfl rfl rfl (by omega) (by omega) rfl (fun v u h => ?_)
  obtain ⟨c2, r2, k2', T2, rf', rb', re', rfl, rfl, hS2⟩ := h
  obtain ⟨rfl, hV', rfl, hr⟩ := uq_rowRun hS hS2
  have hI' : lInv k' kp' T' k2' := ⟨ok', hV', inv_rowRun hinv hS2⟩
  refine ⟨_, _, _, _, _, _, rfl, ?_⟩
  refine gg_istore K dL_law_1168 (by decide) ?_
  refine gg_aload_n K (i := 2) dL_law_1170 rfl rfl ?_
  refine gg_lawM K k_L_X1_thrown m_thrown dL_law_1171 rfl rfl rfl (by omega) (by omega) rfl (fun v u h => ?_)
  obtain ⟨rfl, rfl⟩ := h
  refine ⟨_, _, _, _, _, _, rfl, ?_⟩
  refine gg_iload K dL_law_1174 rfl ?_
  refine gg_icmp_eq K (tgt := 1181) dL_law_1176 (by decide) (fun h1176 => ?_) (fun h1176 => ?_)
  rotate_left
  · exact absurd rfl h1176
  refine gg_iload K dL_law_1181 rfl ?_
  refine gg_if_ne K (tgt := 1198) dL_law_1183 (by decide) (fun h1183 => ?_) (fun h1183 => ?_)
  ·
    refine gg_goto K (tgt := 1635) dL_law_1198 (by decide) ?_
    refine gg_sub (L' := LH b X Y oj od i) ⟨rfl, rfl, rfl, rfl, rfl, rfl, trivial⟩ ?_
    exact kk k' kp' dr' T' k2' _ _ _ _ _ _ hI'
  refine gg_aload_n K (i := 3) dL_law_1186 rfl rfl ?_
  refine gg_iconst K (v := 0) dL_law_1187 (by decide) ?_
  refine gg_ldJ 0 K rfl dL_law_1188 ?_
  refine gg_iload K dL_law_1189 rfl ?_
  refine gg_i2l K dL_law_1191 ?_
  refine gg_lcmp K dL_law_1192 ?_
  refine gg_if_eq K (tgt := 1198) dL_law_1193 (by decide) (fun h1193 => ?_) (fun h1193 => ?_)
  rotate_left
  · exact absurd (by rw [hg h1183, hr h1183]; exact lg_cmp_self _) h1193
  refine gg_goto K (tgt := 1635) dL_law_1198 (by decide) ?_
  refine gg_sub (L' := LH b X Y oj od i) ⟨rfl, rfl, rfl, rfl, rfl, rfl, trivial⟩ ?_
  exact kk k' kp' dr' T' k2' _ _ _ _ _ _ hI'
set_option maxRecDepth 100000 in
theorem l_rowFrom (K : kx p s m args meth c Z.1 A (ty3 Z) cL_law RL 8) (T9 : te A s s.heap) (hl0 : l.stackTraces = false) (hX : va_X b Ln xs s s.heap) (hbl : b < s.heap.size) (hbA : ¬ A b) (hi : i + 6 ≤ Ln) (hLn : Ln ≤ 3072) (h1 : cells + 8 ≤ 601024) (h2 : slots + 48 ≤ 7293034) (hI : lInv k kp T k2) (kk : lCont p l e s m args below meth c Z A cells slots Q X Y oj od b i) : gg p l e room_1 s m args below meth c Z.1 A 8 cells slots Q (wL Z X Y oj od k kp dr (nI T) k2 th (nI T) rf rb re g gd) 1201 (LH b X Y oj od i) [] := by
  obtain ⟨ok, hVV, hinv⟩ := hI
  have hT := ok.1
  refine gg_aload_n K (i := 1) dL_law_1201 rfl rfl ?_
  refine gg_aload_n K (i := 0) dL_law_1202 rfl rfl ?_
  refine gg_iload K dL_law_1203 rfl ?_
  refine gg_iconst K (v := 1) dL_law_1205 (by decide) ?_
  refine gg_iadd K dL_law_1206 ?_
  refine gg_sld K hX hbl hbA (i + 1) (nI_add i 1) (by omega) hLn dL_law_1207 ?_
  refine gg_aload_n K (i := 0) dL_law_1208 rfl rfl ?_
  refine gg_iload K dL_law_1209 rfl ?_
  refine gg_iconst K (v := 2) dL_law_1211 (by decide) ?_
  refine gg_iadd K dL_law_1212 ?_
  refine gg_sld K hX hbl hbA (i + 2) (nI_add i 2) (by omega) hLn dL_law_1213 ?_
  refine gg_aload_n K (i := 0) dL_law_1214 rfl rfl ?_
  refine gg_iload K dL_law_1215 rfl ?_
  refine gg_iconst K (v := 3) dL_law_1217 (by decide) ?_
  refine gg_iadd K dL_law_1218 ?_
  refine gg_sld K hX hbl hbA (i + 3) (nI_add i 3) (by omega) hLn dL_law_1219 ?_
  refine gg_aload_n K (i := 3) dL_law_1220 rfl rfl ?_
  refine gg_lawH K T9 k_L_L_rowFrom (h_rowFrom hl0 ok) dL_law_1221 rfl rfl rfl h1 h2 rfl (fun c9 r k' kp' dr' T' g' ok' hS hg => ?_)
  replace hS : S_rowFrom (vM k2 T) T (xs (i + 1)) (xs (i + 2)) (xs (i + 3)) c9 r (vX k' kp' T') T' := by rw [← hVV]; exact hS
  refine gg_istore K dL_law_1224 (by decide) ?_
  refine gg_aload_n K (i := 2) dL_law_1226 rfl rfl ?_
  refine gg_aload_n K (i := 0) dL_law_1227 rfl rfl ?_
  refine gg_iload K dL_law_1228 rfl ?_
  refine gg_iconst K (v := 1) dL_law_1230 (by decide) ?_
  refine gg_iadd K dL_law_1231 ?_
  refine gg_sld K hX hbl hbA (i + 1) (nI_add i 1) (by omega) hLn dL_law_1232 ?_
  refine gg_aload_n K (i := 0) dL_law_1233 rfl rfl ?_
  refine gg_iload K dL_law_1234 rfl ?_
  refine gg_iconst K (v := 2) dL_law_1236 (by decide) ?_
  refine gg_iadd K dL_law_1237 ?_
  refine gg_sld K hX hbl hbA (i + 2) (nI_add i 2) (by omega) hLn dL_law_1238 ?_
  refine gg_aload_n K (i := 0) dL_law_1239 rfl rfl ?_
  refine gg_iload K dL_law_1240 rfl ?_
  refine gg_iconst K (v := 3) dL_law_1242 (by decide) ?_
  refine gg_iadd K dL_law_1243 ?_
  refine gg_sld K hX hbl hbA (i + 3) (nI_add i 3) (by omega) hLn dL_law_1244 ?_
  refine gg_lawM K k_L_X1_rowFrom (m_rowFrom hT hinv.1) dL_law_1245 rfl rfl rfl (by omega) (by omega) rfl (fun v u h => ?_)
  obtain ⟨c2, r2, k2', T2, rf', rb', re', rfl, rfl, hS2⟩ := h
  obtain ⟨rfl, hV', rfl, hr⟩ := uq_rowFrom hS hS2
  have hI' : lInv k' kp' T' k2' := ⟨ok', hV', inv_rowFrom hinv hS2⟩
  refine ⟨_, _, _, _, _, _, rfl, ?_⟩
  refine gg_istore K dL_law_1248 (by decide) ?_
  refine gg_aload_n K (i := 2) dL_law_1250 rfl rfl ?_
  refine gg_lawM K k_L_X1_thrown m_thrown dL_law_1251 rfl rfl rfl (by omega) (by omega) rfl (fun v u h => ?_)
  obtain ⟨rfl, rfl⟩ := h
  refine ⟨_, _, _, _, _, _, rfl, ?_⟩
  refine gg_iload K dL_law_1254 rfl ?_
  refine gg_icmp_eq K (tgt := 1261) dL_law_1256 (by decide) (fun h1256 => ?_) (fun h1256 => ?_)
  rotate_left
  · exact absurd rfl h1256
  refine gg_iload K dL_law_1261 rfl ?_
  refine gg_if_ne K (tgt := 1278) dL_law_1263 (by decide) (fun h1263 => ?_) (fun h1263 => ?_)
  ·
    refine gg_goto K (tgt := 1635) dL_law_1278 (by decide) ?_
    refine gg_sub (L' := LH b X Y oj od i) ⟨rfl, rfl, rfl, rfl, rfl, rfl, trivial⟩ ?_
    exact kk k' kp' dr' T' k2' _ _ _ _ _ _ hI'
  refine gg_aload_n K (i := 3) dL_law_1266 rfl rfl ?_
  refine gg_iconst K (v := 0) dL_law_1267 (by decide) ?_
  refine gg_ldJ 0 K rfl dL_law_1268 ?_
  refine gg_iload K dL_law_1269 rfl ?_
  refine gg_i2l K dL_law_1271 ?_
  refine gg_lcmp K dL_law_1272 ?_
  refine gg_if_eq K (tgt := 1278) dL_law_1273 (by decide) (fun h1273 => ?_) (fun h1273 => ?_)
  rotate_left
  · exact absurd (by rw [hg h1263, hr h1263]; exact lg_cmp_self _) h1273
  refine gg_goto K (tgt := 1635) dL_law_1278 (by decide) ?_
  refine gg_sub (L' := LH b X Y oj od i) ⟨rfl, rfl, rfl, rfl, rfl, rfl, trivial⟩ ?_
  exact kk k' kp' dr' T' k2' _ _ _ _ _ _ hI'
set_option maxRecDepth 100000 in
theorem l_rowTo (K : kx p s m args meth c Z.1 A (ty3 Z) cL_law RL 8) (T9 : te A s s.heap) (hl0 : l.stackTraces = false) (hX : va_X b Ln xs s s.heap) (hbl : b < s.heap.size) (hbA : ¬ A b) (hi : i + 6 ≤ Ln) (hLn : Ln ≤ 3072) (h1 : cells + 8 ≤ 601024) (h2 : slots + 48 ≤ 7293034) (hI : lInv k kp T k2) (kk : lCont p l e s m args below meth c Z A cells slots Q X Y oj od b i) : gg p l e room_1 s m args below meth c Z.1 A 8 cells slots Q (wL Z X Y oj od k kp dr (nI T) k2 th (nI T) rf rb re g gd) 1281 (LH b X Y oj od i) [] := by
  obtain ⟨ok, hVV, hinv⟩ := hI
  have hT := ok.1
  refine gg_aload_n K (i := 1) dL_law_1281 rfl rfl ?_
  refine gg_aload_n K (i := 0) dL_law_1282 rfl rfl ?_
  refine gg_iload K dL_law_1283 rfl ?_
  refine gg_iconst K (v := 1) dL_law_1285 (by decide) ?_
  refine gg_iadd K dL_law_1286 ?_
  refine gg_sld K hX hbl hbA (i + 1) (nI_add i 1) (by omega) hLn dL_law_1287 ?_
  refine gg_aload_n K (i := 0) dL_law_1288 rfl rfl ?_
  refine gg_iload K dL_law_1289 rfl ?_
  refine gg_iconst K (v := 2) dL_law_1291 (by decide) ?_
  refine gg_iadd K dL_law_1292 ?_
  refine gg_sld K hX hbl hbA (i + 2) (nI_add i 2) (by omega) hLn dL_law_1293 ?_
  refine gg_aload_n K (i := 0) dL_law_1294 rfl rfl ?_
  refine gg_iload K dL_law_1295 rfl ?_
  refine gg_iconst K (v := 3) dL_law_1297 (by decide) ?_
  refine gg_iadd K dL_law_1298 ?_
  refine gg_sld K hX hbl hbA (i + 3) (nI_add i 3) (by omega) hLn dL_law_1299 ?_
  refine gg_aload_n K (i := 3) dL_law_1300 rfl rfl ?_
  refine gg_lawH K T9 k_L_L_rowTo (h_rowTo hl0 ok) dL_law_1301 rfl rfl rfl h1 h2 rfl (fun c9 r k' kp' dr' T' g' ok' hS hg => ?_)
  replace hS : S_rowTo (vM k2 T) T (xs (i + 1)) (xs (i + 2)) (xs (i + 3)) c9 r (vX k' kp' T') T' := by rw [← hVV]; exact hS
  refine gg_istore K dL_law_1304 (by decide) ?_
  refine gg_aload_n K (i := 2) dL_law_1306 rfl rfl ?_
  refine gg_aload_n K (i := 0) dL_law_1307 rfl rfl ?_
  refine gg_iload K dL_law_1308 rfl ?_
  refine gg_iconst K (v := 1) dL_law_1310 (by decide) ?_
  refine gg_iadd K dL_law_1311 ?_
  refine gg_sld K hX hbl hbA (i + 1) (nI_add i 1) (by omega) hLn dL_law_1312 ?_
  refine gg_aload_n K (i := 0) dL_law_1313 rfl rfl ?_
  refine gg_iload K dL_law_1314 rfl ?_
  refine gg_iconst K (v := 2) dL_law_1316 (by decide) ?_
  refine gg_iadd K dL_law_1317 ?_
  refine gg_sld K hX hbl hbA (i + 2) (nI_add i 2) (by omega) hLn dL_law_1318 ?_
  refine gg_aload_n K (i := 0) dL_law_1319 rfl rfl ?_
  refine gg_iload K dL_law_1320 rfl ?_
  refine gg_iconst K (v := 3) dL_law_1322 (by decide) ?_
  refine gg_iadd K dL_law_1323 ?_
  refine gg_sld K hX hbl hbA (i + 3) (nI_add i 3) (by omega) hLn dL_law_1324 ?_
  refine gg_lawM K k_L_X1_rowTo (m_rowTo hT hinv.1) dL_law_1325 rfl rfl rfl (by omega) (by omega) rfl (fun v u h => ?_)
  obtain ⟨c2, r2, k2', T2, rf', rb', re', rfl, rfl, hS2⟩ := h
  obtain ⟨rfl, hV', rfl, hr⟩ := uq_rowTo hS hS2
  have hI' : lInv k' kp' T' k2' := ⟨ok', hV', inv_rowTo hinv hS2⟩
  refine ⟨_, _, _, _, _, _, rfl, ?_⟩
  refine gg_istore K dL_law_1328 (by decide) ?_
  refine gg_aload_n K (i := 2) dL_law_1330 rfl rfl ?_
  refine gg_lawM K k_L_X1_thrown m_thrown dL_law_1331 rfl rfl rfl (by omega) (by omega) rfl (fun v u h => ?_)
  obtain ⟨rfl, rfl⟩ := h
  refine ⟨_, _, _, _, _, _, rfl, ?_⟩
  refine gg_iload K dL_law_1334 rfl ?_
  refine gg_icmp_eq K (tgt := 1341) dL_law_1336 (by decide) (fun h1336 => ?_) (fun h1336 => ?_)
  rotate_left
  · exact absurd rfl h1336
  refine gg_iload K dL_law_1341 rfl ?_
  refine gg_if_ne K (tgt := 1358) dL_law_1343 (by decide) (fun h1343 => ?_) (fun h1343 => ?_)
  ·
    refine gg_goto K (tgt := 1635) dL_law_1358 (by decide) ?_
    refine gg_sub (L' := LH b X Y oj od i) ⟨rfl, rfl, rfl, rfl, rfl, rfl, trivial⟩ ?_
    exact kk k' kp' dr' T' k2' _ _ _ _ _ _ hI'
  refine gg_aload_n K (i := 3) dL_law_1346 rfl rfl ?_
  refine gg_iconst K (v := 0) dL_law_1347 (by decide) ?_
  refine gg_ldJ 0 K rfl dL_law_1348 ?_
  refine gg_iload K dL_law_1349 rfl ?_
  refine gg_i2l K dL_law_1351 ?_
  refine gg_lcmp K dL_law_1352 ?_
  refine gg_if_eq K (tgt := 1358) dL_law_1353 (by decide) (fun h1353 => ?_) (fun h1353 => ?_)
  rotate_left
  · exact absurd (by rw [hg h1343, hr h1343]; exact lg_cmp_self _) h1353
  refine gg_goto K (tgt := 1635) dL_law_1358 (by decide) ?_
  refine gg_sub (L' := LH b X Y oj od i) ⟨rfl, rfl, rfl, rfl, rfl, rfl, trivial⟩ ?_
  exact kk k' kp' dr' T' k2' _ _ _ _ _ _ hI'
set_option maxRecDepth 100000 in
theorem l_corrections (K : kx p s m args meth c Z.1 A (ty3 Z) cL_law RL 8) (T9 : te A s s.heap) (hl0 : l.stackTraces = false) (hX : va_X b Ln xs s s.heap) (hbl : b < s.heap.size) (hbA : ¬ A b) (hi : i + 6 ≤ Ln) (hLn : Ln ≤ 3072) (h1 : cells + 8 ≤ 601024) (h2 : slots + 48 ≤ 7293034) (hI : lInv k kp T k2) (kk : lCont p l e s m args below meth c Z A cells slots Q X Y oj od b i) : gg p l e room_1 s m args below meth c Z.1 A 8 cells slots Q (wL Z X Y oj od k kp dr (nI T) k2 th (nI T) rf rb re g gd) 1361 (LH b X Y oj od i) [] := by
  obtain ⟨ok, hVV, hinv⟩ := hI
  have hT := ok.1
  refine gg_aload_n K (i := 1) dL_law_1361 rfl rfl ?_
  refine gg_aload_n K (i := 0) dL_law_1362 rfl rfl ?_
  refine gg_iload K dL_law_1363 rfl ?_
  refine gg_iconst K (v := 1) dL_law_1365 (by decide) ?_
  refine gg_iadd K dL_law_1366 ?_
  refine gg_sld K hX hbl hbA (i + 1) (nI_add i 1) (by omega) hLn dL_law_1367 ?_
  refine gg_aload_n K (i := 0) dL_law_1368 rfl rfl ?_
  refine gg_iload K dL_law_1369 rfl ?_
  refine gg_iconst K (v := 2) dL_law_1371 (by decide) ?_
  refine gg_iadd K dL_law_1372 ?_
  refine gg_sld K hX hbl hbA (i + 2) (nI_add i 2) (by omega) hLn dL_law_1373 ?_
  refine gg_aload_n K (i := 0) dL_law_1374 rfl rfl ?_
  refine gg_iload K dL_law_1375 rfl ?_
  refine gg_iconst K (v := 3) dL_law_1377 (by decide) ?_
  refine gg_iadd K dL_law_1378 ?_
  refine gg_sld K hX hbl hbA (i + 3) (nI_add i 3) (by omega) hLn dL_law_1379 ?_
  refine gg_aload_n K (i := 0) dL_law_1380 rfl rfl ?_
  refine gg_iload K dL_law_1381 rfl ?_
  refine gg_iconst K (v := 4) dL_law_1383 (by decide) ?_
  refine gg_iadd K dL_law_1384 ?_
  refine gg_sld K hX hbl hbA (i + 4) (nI_add i 4) (by omega) hLn dL_law_1385 ?_
  refine gg_aload_n K (i := 0) dL_law_1386 rfl rfl ?_
  refine gg_iload K dL_law_1387 rfl ?_
  refine gg_iconst K (v := 5) dL_law_1389 (by decide) ?_
  refine gg_iadd K dL_law_1390 ?_
  refine gg_sld K hX hbl hbA (i + 5) (nI_add i 5) (by omega) hLn dL_law_1391 ?_
  refine gg_aload_n K (i := 3) dL_law_1392 rfl rfl ?_
  refine gg_lawH K T9 k_L_L_corrections (h_corrections hl0 ok) dL_law_1393 rfl rfl rfl h1 h2 rfl (fun c9 r k' kp' dr' T' g' ok' hS hg => ?_)
  replace hS : S_corrections (vM k2 T) T (xs (i + 1)) (xs (i + 2)) (xs (i + 3)) (xs (i + 4)) (xs (i + 5)) c9 r (vX k' kp' T') T' := by rw [← hVV]; exact hS
  refine gg_istore K dL_law_1396 (by decide) ?_
  refine gg_aload_n K (i := 2) dL_law_1398 rfl rfl ?_
  refine gg_aload_n K (i := 0) dL_law_1399 rfl rfl ?_
  refine gg_iload K dL_law_1400 rfl ?_
  refine gg_iconst K (v := 1) dL_law_1402 (by decide) ?_
  refine gg_iadd K dL_law_1403 ?_
  refine gg_sld K hX hbl hbA (i + 1) (nI_add i 1) (by omega) hLn dL_law_1404 ?_
  refine gg_aload_n K (i := 0) dL_law_1405 rfl rfl ?_
  refine gg_iload K dL_law_1406 rfl ?_
  refine gg_iconst K (v := 2) dL_law_1408 (by decide) ?_
  refine gg_iadd K dL_law_1409 ?_
  refine gg_sld K hX hbl hbA (i + 2) (nI_add i 2) (by omega) hLn dL_law_1410 ?_
  refine gg_aload_n K (i := 0) dL_law_1411 rfl rfl ?_
  refine gg_iload K dL_law_1412 rfl ?_
  refine gg_iconst K (v := 3) dL_law_1414 (by decide) ?_
  refine gg_iadd K dL_law_1415 ?_
  refine gg_sld K hX hbl hbA (i + 3) (nI_add i 3) (by omega) hLn dL_law_1416 ?_
  refine gg_aload_n K (i := 0) dL_law_1417 rfl rfl ?_
  refine gg_iload K dL_law_1418 rfl ?_
  refine gg_iconst K (v := 4) dL_law_1420 (by decide) ?_
  refine gg_iadd K dL_law_1421 ?_
  refine gg_sld K hX hbl hbA (i + 4) (nI_add i 4) (by omega) hLn dL_law_1422 ?_
  refine gg_aload_n K (i := 0) dL_law_1423 rfl rfl ?_
  refine gg_iload K dL_law_1424 rfl ?_
  refine gg_iconst K (v := 5) dL_law_1426 (by decide) ?_
  refine gg_iadd K dL_law_1427 ?_
  refine gg_sld K hX hbl hbA (i + 5) (nI_add i 5) (by omega) hLn dL_law_1428 ?_
  refine gg_lawM K k_L_X1_corrections (m_corrections hT) dL_law_1429 rfl rfl rfl (by omega) (by omega) rfl (fun v u h => ?_)
  obtain ⟨c2, r2, k2', T2, rf', rb', re', rfl, rfl, hS2⟩ := h
  obtain ⟨rfl, hV', rfl, hr⟩ := uq_corrections hS hS2
  have hI' : lInv k' kp' T' k2' := ⟨ok', hV', inv_corrections hinv hS2⟩
  refine ⟨_, _, _, _, _, _, rfl, ?_⟩
  refine gg_istore K dL_law_1432 (by decide) ?_
  refine gg_aload_n K (i := 2) dL_law_1434 rfl rfl ?_
  refine gg_lawM K k_L_X1_thrown m_thrown dL_law_1435 rfl rfl rfl (by omega) (by omega) rfl (fun v u h => ?_)
  obtain ⟨rfl, rfl⟩ := h
  refine ⟨_, _, _, _, _, _, rfl, ?_⟩
  refine gg_iload K dL_law_1438 rfl ?_
  refine gg_icmp_eq K (tgt := 1445) dL_law_1440 (by decide) (fun h1440 => ?_) (fun h1440 => ?_)
  rotate_left
  · exact absurd rfl h1440
  refine gg_iload K dL_law_1445 rfl ?_
  refine gg_if_ne K (tgt := 1462) dL_law_1447 (by decide) (fun h1447 => ?_) (fun h1447 => ?_)
  ·
    refine gg_goto K (tgt := 1635) dL_law_1462 (by decide) ?_
    refine gg_sub (L' := LH b X Y oj od i) ⟨rfl, rfl, rfl, rfl, rfl, rfl, trivial⟩ ?_
    exact kk k' kp' dr' T' k2' _ _ _ _ _ _ hI'
  refine gg_aload_n K (i := 3) dL_law_1450 rfl rfl ?_
  refine gg_iconst K (v := 0) dL_law_1451 (by decide) ?_
  refine gg_ldJ 0 K rfl dL_law_1452 ?_
  refine gg_iload K dL_law_1453 rfl ?_
  refine gg_i2l K dL_law_1455 ?_
  refine gg_lcmp K dL_law_1456 ?_
  refine gg_if_eq K (tgt := 1462) dL_law_1457 (by decide) (fun h1457 => ?_) (fun h1457 => ?_)
  rotate_left
  · exact absurd (by rw [hg h1447, hr h1447]; exact lg_cmp_self _) h1457
  refine gg_goto K (tgt := 1635) dL_law_1462 (by decide) ?_
  refine gg_sub (L' := LH b X Y oj od i) ⟨rfl, rfl, rfl, rfl, rfl, rfl, trivial⟩ ?_
  exact kk k' kp' dr' T' k2' _ _ _ _ _ _ hI'
set_option maxRecDepth 100000 in
theorem l_longest (K : kx p s m args meth c Z.1 A (ty3 Z) cL_law RL 8) (T9 : te A s s.heap) (hl0 : l.stackTraces = false) (hX : va_X b Ln xs s s.heap) (hbl : b < s.heap.size) (hbA : ¬ A b) (hi : i + 6 ≤ Ln) (hLn : Ln ≤ 3072) (h1 : cells + 8 ≤ 601024) (h2 : slots + 48 ≤ 7293034) (hI : lInv k kp T k2) (kk : lCont p l e s m args below meth c Z A cells slots Q X Y oj od b i) : gg p l e room_1 s m args below meth c Z.1 A 8 cells slots Q (wL Z X Y oj od k kp dr (nI T) k2 th (nI T) rf rb re g gd) 1465 (LH b X Y oj od i) [] := by
  obtain ⟨ok, hVV, hinv⟩ := hI
  have hT := ok.1
  refine gg_aload_n K (i := 1) dL_law_1465 rfl rfl ?_
  refine gg_aload_n K (i := 0) dL_law_1466 rfl rfl ?_
  refine gg_iload K dL_law_1467 rfl ?_
  refine gg_iconst K (v := 1) dL_law_1469 (by decide) ?_
  refine gg_iadd K dL_law_1470 ?_
  refine gg_sld K hX hbl hbA (i + 1) (nI_add i 1) (by omega) hLn dL_law_1471 ?_
  refine gg_aload_n K (i := 0) dL_law_1472 rfl rfl ?_
  refine gg_iload K dL_law_1473 rfl ?_
  refine gg_iconst K (v := 2) dL_law_1475 (by decide) ?_
  refine gg_iadd K dL_law_1476 ?_
  refine gg_sld K hX hbl hbA (i + 2) (nI_add i 2) (by omega) hLn dL_law_1477 ?_
  refine gg_aload_n K (i := 0) dL_law_1478 rfl rfl ?_
  refine gg_iload K dL_law_1479 rfl ?_
  refine gg_iconst K (v := 3) dL_law_1481 (by decide) ?_
  refine gg_iadd K dL_law_1482 ?_
  refine gg_sld K hX hbl hbA (i + 3) (nI_add i 3) (by omega) hLn dL_law_1483 ?_
  refine gg_aload_n K (i := 3) dL_law_1484 rfl rfl ?_
  refine gg_lawH K T9 k_L_L_longest (h_longest hl0 ok) dL_law_1485 rfl rfl rfl h1 h2 rfl (fun c9 r k' kp' dr' T' g' ok' hS hg => ?_)
  replace hS : S_longest (vM k2 T) T (xs (i + 1)) (xs (i + 2)) (xs (i + 3)) c9 r (vX k' kp' T') T' := by rw [← hVV]; exact hS
  refine gg_istore K dL_law_1488 (by decide) ?_
  refine gg_aload_n K (i := 2) dL_law_1490 rfl rfl ?_
  refine gg_aload_n K (i := 0) dL_law_1491 rfl rfl ?_
  refine gg_iload K dL_law_1492 rfl ?_
  refine gg_iconst K (v := 1) dL_law_1494 (by decide) ?_
  refine gg_iadd K dL_law_1495 ?_
  refine gg_sld K hX hbl hbA (i + 1) (nI_add i 1) (by omega) hLn dL_law_1496 ?_
  refine gg_aload_n K (i := 0) dL_law_1497 rfl rfl ?_
  refine gg_iload K dL_law_1498 rfl ?_
  refine gg_iconst K (v := 2) dL_law_1500 (by decide) ?_
  refine gg_iadd K dL_law_1501 ?_
  refine gg_sld K hX hbl hbA (i + 2) (nI_add i 2) (by omega) hLn dL_law_1502 ?_
  refine gg_aload_n K (i := 0) dL_law_1503 rfl rfl ?_
  refine gg_iload K dL_law_1504 rfl ?_
  refine gg_iconst K (v := 3) dL_law_1506 (by decide) ?_
  refine gg_iadd K dL_law_1507 ?_
  refine gg_sld K hX hbl hbA (i + 3) (nI_add i 3) (by omega) hLn dL_law_1508 ?_
  refine gg_lawM K k_L_X1_longest (m_longest hT) dL_law_1509 rfl rfl rfl (by omega) (by omega) rfl (fun v u h => ?_)
  obtain ⟨c2, r2, k2', T2, rf', rb', re', rfl, rfl, hS2⟩ := h
  obtain ⟨rfl, hV', rfl, hr⟩ := uq_longest hS hS2
  have hI' : lInv k' kp' T' k2' := ⟨ok', hV', inv_longest hinv hS2⟩
  refine ⟨_, _, _, _, _, _, rfl, ?_⟩
  refine gg_istore K dL_law_1512 (by decide) ?_
  refine gg_aload_n K (i := 2) dL_law_1514 rfl rfl ?_
  refine gg_lawM K k_L_X1_thrown m_thrown dL_law_1515 rfl rfl rfl (by omega) (by omega) rfl (fun v u h => ?_)
  obtain ⟨rfl, rfl⟩ := h
  refine ⟨_, _, _, _, _, _, rfl, ?_⟩
  refine gg_iload K dL_law_1518 rfl ?_
  refine gg_icmp_eq K (tgt := 1525) dL_law_1520 (by decide) (fun h1520 => ?_) (fun h1520 => ?_)
  rotate_left
  · exact absurd rfl h1520
  refine gg_iload K dL_law_1525 rfl ?_
  refine gg_if_ne K (tgt := 1542) dL_law_1527 (by decide) (fun h1527 => ?_) (fun h1527 => ?_)
  ·
    refine gg_goto K (tgt := 1635) dL_law_1542 (by decide) ?_
    refine gg_sub (L' := LH b X Y oj od i) ⟨rfl, rfl, rfl, rfl, rfl, rfl, trivial⟩ ?_
    exact kk k' kp' dr' T' k2' _ _ _ _ _ _ hI'
  refine gg_aload_n K (i := 3) dL_law_1530 rfl rfl ?_
  refine gg_iconst K (v := 0) dL_law_1531 (by decide) ?_
  refine gg_ldJ 0 K rfl dL_law_1532 ?_
  refine gg_iload K dL_law_1533 rfl ?_
  refine gg_i2l K dL_law_1535 ?_
  refine gg_lcmp K dL_law_1536 ?_
  refine gg_if_eq K (tgt := 1542) dL_law_1537 (by decide) (fun h1537 => ?_) (fun h1537 => ?_)
  rotate_left
  · exact absurd (by rw [hg h1527, hr h1527]; exact lg_cmp_self _) h1537
  refine gg_goto K (tgt := 1635) dL_law_1542 (by decide) ?_
  refine gg_sub (L' := LH b X Y oj od i) ⟨rfl, rfl, rfl, rfl, rfl, rfl, trivial⟩ ?_
  exact kk k' kp' dr' T' k2' _ _ _ _ _ _ hI'
set_option maxRecDepth 100000 in
theorem l_average (K : kx p s m args meth c Z.1 A (ty3 Z) cL_law RL 8) (T9 : te A s s.heap) (hl0 : l.stackTraces = false) (hX : va_X b Ln xs s s.heap) (hbl : b < s.heap.size) (hbA : ¬ A b) (hi : i + 6 ≤ Ln) (hLn : Ln ≤ 3072) (h1 : cells + 8 ≤ 601024) (h2 : slots + 48 ≤ 7293034) (hI : lInv k kp T k2) (kk : lCont p l e s m args below meth c Z A cells slots Q X Y oj od b i) : gg p l e room_1 s m args below meth c Z.1 A 8 cells slots Q (wL Z X Y oj od k kp dr (nI T) k2 th (nI T) rf rb re g gd) 1545 (LH b X Y oj od i) [] := by
  obtain ⟨ok, hVV, hinv⟩ := hI
  have hT := ok.1
  refine gg_aload_n K (i := 1) dL_law_1545 rfl rfl ?_
  refine gg_aload_n K (i := 0) dL_law_1546 rfl rfl ?_
  refine gg_iload K dL_law_1547 rfl ?_
  refine gg_iconst K (v := 1) dL_law_1549 (by decide) ?_
  refine gg_iadd K dL_law_1550 ?_
  refine gg_sld K hX hbl hbA (i + 1) (nI_add i 1) (by omega) hLn dL_law_1551 ?_
  refine gg_aload_n K (i := 0) dL_law_1552 rfl rfl ?_
  refine gg_iload K dL_law_1553 rfl ?_
  refine gg_iconst K (v := 2) dL_law_1555 (by decide) ?_
  refine gg_iadd K dL_law_1556 ?_
  refine gg_sld K hX hbl hbA (i + 2) (nI_add i 2) (by omega) hLn dL_law_1557 ?_
  refine gg_aload K dL_law_1558 rfl ?_
  refine gg_lawHF K T9 k_L_L_average (h_average hl0 ok (by rw [hVV]; exact hinv.1)) dL_law_1560 rfl rfl rfl h1 h2 rfl (fun c9 r k' kp' dr' T' g' ok' hS hg => ?_)
  replace hS : S_average (vM k2 T) T (xs (i + 1)) (xs (i + 2)) c9 r (vX k' kp' T') T' := by rw [← hVV]; exact hS
  refine gg_istore K dL_law_1563 (by decide) ?_
  refine gg_aload_n K (i := 2) dL_law_1565 rfl rfl ?_
  refine gg_aload_n K (i := 0) dL_law_1566 rfl rfl ?_
  refine gg_iload K dL_law_1567 rfl ?_
  refine gg_iconst K (v := 1) dL_law_1569 (by decide) ?_
  refine gg_iadd K dL_law_1570 ?_
  refine gg_sld K hX hbl hbA (i + 1) (nI_add i 1) (by omega) hLn dL_law_1571 ?_
  refine gg_aload_n K (i := 0) dL_law_1572 rfl rfl ?_
  refine gg_iload K dL_law_1573 rfl ?_
  refine gg_iconst K (v := 2) dL_law_1575 (by decide) ?_
  refine gg_iadd K dL_law_1576 ?_
  refine gg_sld K hX hbl hbA (i + 2) (nI_add i 2) (by omega) hLn dL_law_1577 ?_
  refine gg_lawM K k_L_X1_average (m_average hT hinv.1) dL_law_1578 rfl rfl rfl (by omega) (by omega) rfl (fun v u h => ?_)
  obtain ⟨c2, r2, k2', T2, rf', rb', re', rfl, rfl, hS2⟩ := h
  obtain ⟨rfl, hV', rfl, hr⟩ := uq_aS hS hS2
  have hI' : lInv k' kp' T' k2' := ⟨ok', hV', inv_aS hinv hS2⟩
  refine ⟨_, _, _, _, _, _, rfl, ?_⟩
  refine gg_fstore K dL_law_1581 (by decide) ?_
  refine gg_aload_n K (i := 2) dL_law_1583 rfl rfl ?_
  refine gg_lawM K k_L_X1_thrown m_thrown dL_law_1584 rfl rfl rfl (by omega) (by omega) rfl (fun v u h => ?_)
  obtain ⟨rfl, rfl⟩ := h
  refine ⟨_, _, _, _, _, _, rfl, ?_⟩
  refine gg_iload K dL_law_1587 rfl ?_
  refine gg_icmp_eq K (tgt := 1594) dL_law_1589 (by decide) (fun h1589 => ?_) (fun h1589 => ?_)
  rotate_left
  · exact absurd rfl h1589
  refine gg_iload K dL_law_1594 rfl ?_
  refine gg_if_ne K (tgt := 1632) dL_law_1596 (by decide) (fun h1596 => ?_) (fun h1596 => ?_)
  ·
    refine gg_goto K (tgt := 1635) dL_law_1632 (by decide) ?_
    refine gg_sub (L' := LH b X Y oj od i) ⟨rfl, rfl, rfl, rfl, rfl, rfl, trivial⟩ ?_
    exact kk k' kp' dr' T' k2' _ _ _ _ _ _ hI'
  subst h1596
  have hnm := f2d_num (av_num hT hinv.1 hS2)
  refine gg_aload K dL_law_1599 rfl ?_
  refine gg_iconst K (v := 0) dL_law_1601 (by decide) ?_
  refine gg_ldD 1 K rfl dL_law_1602 ?_
  refine gg_fload K dL_law_1603 rfl ?_
  refine gg_f2d K dL_law_1605 (vf_n64_of hnm) ?_
  refine gg_dcmp K dL_law_1606 ?_
  refine gg_if_eq K (tgt := 1632) dL_law_1607 (by decide) (fun h1607 => ?_) (fun h1607 => ?_)
  rotate_left
  · exact absurd (by rw [hg rfl, hr rfl, show FP.dcmp (FP.f2d r2) (FP.f2d r2) = some .eq from FP.Core.dcmp_self hnm]; rfl) h1607
  refine gg_goto K (tgt := 1635) dL_law_1632 (by decide) ?_
  refine gg_sub (L' := LH b X Y oj od i) ⟨rfl, rfl, rfl, rfl, rfl, rfl, trivial⟩ ?_
  exact kk k' kp' dr' T' k2' _ _ _ _ _ _ hI'
end
