/-! the law: a cell of the script, the loop's pieces -/
section
variable {p : Program} {l : Launch} {e : Env} {R : Room} {s : State} {m : MethodId} {args : Array Value} {below : List Frame} {meth : Method} {c : Code} {D : va_G} {A : Nat → Prop} {tys : List (ClassId × FieldType)} {cc : ByteArray} {own : String} {n cells slots pc : Nat} {Q : State → Prop} {ws : va_W} {L : List (Nat × Value)} {st rest : List Value} {b Ln : Nat} {xs : Nat → Int32}
theorem gg_sld (K : kx p s m args meth c D A tys cc own n) (hX : va_X b Ln xs s s.heap) (hbl : b < s.heap.size) (hbA : ¬ A b) {x : Int32} (j : Nat) (hx : x = nI j) (hj : j < Ln) (hL : Ln ≤ 3072) (hd : decode cc pc = .ok (.iaload, 1)) (kk : gg p l e R s m args below meth c D A n cells slots Q ws (pc + 1) L (.int (xs j) :: st)) : gg p l e R s m args below meth c D A n cells slots Q ws pc L (.int x :: .ref b :: st) := by
  intro H locs ls hP hD hS hl
  subst hx
  refine va_sld K.1.1 K.1.2.1 hX hbl hbA hS (vp_in_nI hj (by omega)) hd ?_
  rw [nI_clamp (by omega)]
  exact kk H locs ls hP hD hS hl
theorem gg_slen (K : kx p s m args meth c D A tys cc own n) (hX : va_X b Ln xs s s.heap) (hbl : b < s.heap.size) (hbA : ¬ A b) (hd : decode cc pc = .ok (.arraylength, 1)) (kk : gg p l e R s m args below meth c D A n cells slots Q ws (pc + 1) L (.int (nI Ln) :: st)) : gg p l e R s m args below meth c D A n cells slots Q ws pc L (.ref b :: st) :=
  fun H locs ls hP hD hS hl => va_slen K.1.1 K.1.2.1 hX hbl hbA hS hd (kk H locs ls hP hD hS hl)
/-- with the script at hand -/
def inC (D : va_G) (tys : List (ClassId × FieldType)) (b Ln : Nat) (xs : Nat → Int32) (sz : Nat) (U : State) : Prop := inW D tys [] sz U ∧ b < U.heap.size ∧ va_X b Ln xs U U.heap
theorem inC_blind {As : List Value} {sz : Nat} : FrameBlind (va_Pc As (inC D tys b Ln xs sz)) := fun a U g mk q => by
  obtain ⟨q0, q1, q2, q3⟩ := q
  exact ⟨q0, (inW_blind (As := As) a U g mk ⟨q0, q1⟩).2, q2, va_X.moved (u := U) (U := U.calling g mk a) (Vm.Alike.refl U.vm) q3⟩
def mC (l : Launch) (D : va_G) (tys : List (ClassId × FieldType)) (b Ln : Nat) (xs : Nat → Int32) (As : List Value) : Prop := ∀ sz : Nat, Met l yL_cell (.code yL_cell cL_cell 2 (some .int) :: GW) (rmk 0 0 0 0) (va_Pc As (inC D tys b Ln xs sz)) (qA D tys (va_A [] sz) (fun r _ => ∃ v : Int32, r = some (.int v))) 0 0 (va_A [] sz)
set_option maxRecDepth 100000 in
theorem c_cell {j : Nat} (hj : j < 2 ^ 31) (hL : Ln ≤ 3072) : mC l D tys b Ln xs [.ref b, .int (nI j)] := by
  intro sz
  refine Met.ofW (cc := cL_cell) (maxL := 2) (ret := some .int) (by decide +kernel) rfl ?_
  intro p e s m args below meth c s₁ B hml hv
  obtain ⟨rfl, ⟨hsz, hP, hK, hD0⟩, hbl, hX⟩ := hv
  subst hsz
  have hts := atoms_spec (ws := .code yL_cell cL_cell 2 (some .int) :: GW) B.pre
  have hl := lv_entry [.ref b, .int (nI j)] (n := 2) (Nat.le_of_ble_eq_true rfl)
  rw [lg_entry_eq]
  have hbA : ¬ va_A [] s.heap.size b := fun z => z.elim (fun ⟨k, e, z⟩ => by simp at z) (fun z => absurd hbl (Nat.not_lt.mpr z))
  have hr := B.returns
  have K : kx p s m _ meth c D (va_A [] s.heap.size) tys cL_cell RL 2 := ⟨⟨B.exec, B.bytes, hml, findClass_of_methodNamed B.named, fun w hw => hts w (List.mem_cons_of_mem _ hw)⟩, hK, fun q h => Or.inr h, B.notSynchronized⟩
  suffices hg : gg p l e (rmk 0 0 0 0) s m _ below meth c D (va_A [] s.heap.size) 2 0 0 (MQ below (qA D tys (va_A [] s.heap.size) (fun r _ => ∃ v : Int32, r = some (.int v))) _ s 0 0 (va_A [] s.heap.size)) [] 0 [(0, .ref b), (1, .int (nI j))] [] from hg s.heap [] _ hP hD0.self va_S.rf (lvk_of hl rfl)
  refine gg_iload_n K (i := 1) dL_cell_0 rfl rfl ?_
  refine gg_aload_n K (i := 0) dL_cell_1 rfl rfl ?_
  refine gg_slen K hX hbl hbA dL_cell_2 ?_
  refine gg_icmp_ge K (tgt := 12) dL_cell_3 (by decide) (fun h3 => ?_) (fun h3 => ?_)
  · refine gg_sipush K (v := 7919) dL_cell_12 (by decide) ?_
    refine gg_iload_n K (i := 1) dL_cell_15 rfl rfl ?_
    refine gg_sipush K (v := 359) dL_cell_16 (by decide) ?_
    refine gg_iadd K dL_cell_19 ?_
    refine gg_imul K dL_cell_20 ?_
    refine gg_iload_n K (i := 1) dL_cell_21 rfl rfl ?_
    refine gg_sipush K (v := 2657) dL_cell_22 (by decide) ?_
    refine gg_iadd K dL_cell_25 ?_
    refine gg_imul K dL_cell_26 ?_
    exact gg_iret K hr dL_cell_27 (Nat.le_refl _) (Nat.le_refl _) ⟨_, rfl⟩
  have hj2 := i_nle h3
  refine gg_aload_n K (i := 0) dL_cell_6 rfl rfl ?_
  refine gg_iload_n K (i := 1) dL_cell_7 rfl rfl ?_
  refine gg_sld K hX hbl hbA j rfl hj2 hL dL_cell_8 ?_
  refine gg_goto K (tgt := 27) dL_cell_9 (by decide) ?_
  exact gg_iret K hr dL_cell_27 (Nat.le_refl _) (Nat.le_refl _) ⟨_, rfl⟩
theorem gg_callC {As : List Value} (K : kx p s m args meth c D A tys cc own n) (hX : va_X b Ln xs s s.heap) (hbl : b < s.heap.size) (hbA : ¬ A b) {idx : Nat} (ok : okS own idx yL_cell (.code yL_cell cL_cell 2 (some .int)) 2) (hM : mC l D tys b Ln xs As) (hd : decode cc pc = .ok (.invokestatic idx, 3)) (hst : st = As.reverse ++ rest) (hAs : As.length = 2) (hr : rOk (rmk 0 0 0 0) R 2 cells slots = true) (hw : c8 rest = true)
    (kk : ∀ v : Int32, gg p l e R s m args below meth c D A n cells slots Q ws (pc + 3) L (.int v :: rest)) : gg p l e R s m args below meth c D A n cells slots Q ws pc L st := by
  intro H locs ls hP hD hS hl
  subst hst
  have hF := nil_free hS K.2.2.1
  refine va_callo (va_runS (As := As) (rest := rest) K.1 (hM H.size) (va_cwS 2 K.1.2.2.2.2 ok.1 rfl rfl rfl ok.2 (rOk_spec hr).1) ⟨inC_blind, fun U hU hW => ⟨rfl, ⟨by rw [hU], nil_P, va_K.moved hW.alike K.2.1, nil_D⟩, by rw [hU]; exact Nat.lt_of_lt_of_le hbl hS.1, by rw [hU]; exact (hX.kept (hS.2.1 b hbl hbA)).moved hW.alike⟩⟩ rfl hAs hl.1 rfl (lv_room (Nat.le_of_ble_eq_true hw)) hd (rOk_spec hr).2) hS (fun q _ h => hF q h) hF (fun v u t H1 locs1 ht hvm hp hB hz hk hS1 => ?_)
  obtain ⟨v9, rfl⟩ := hp
  exact kk v9 H1 locs1 ls (nil_kept hP hk) hD hS1 hl
end
theorem rOk_law {f lo mc ms maxL cells slots : Nat} (hf : (Nat.ble f 12 && (Nat.ble maxL 20 && Nat.ble lo 400)) = true) (h1 : cells + mc ≤ 600086) (h2 : slots + ms ≤ 7301442) : rOk (rmk f lo mc ms) room_1 maxL cells slots = true := by
  simp only [Bool.and_eq_true] at hf
  have g1 := Nat.le_of_ble_eq_true hf.1
  have g2 := Nat.le_of_ble_eq_true hf.2.1
  have g3 := Nat.le_of_ble_eq_true hf.2.2
  unfold rOk
  simp only [Bool.and_eq_true]
  refine ⟨Nat.ble_eq_true_of_le ?_, Nat.ble_eq_true_of_le ?_, Nat.ble_eq_true_of_le h1, Nat.ble_eq_true_of_le h2⟩
  · show f + 1 ≤ 13
    omega
  · show 8 + (maxL + 11) + lo ≤ 502
    omega
/-- from a place of the law's loop on, whatever the two objects hold -/
def lSt (p : Program) (l : Launch) (e : Env) (s : State) (m : MethodId) (args : Array Value) (below : List Frame) (meth : Method) (c : Code) (Z : ZT) (A : Nat → Prop) (Q : State → Prop) (X Y : XT) (cells slots pc : Nat) (L : List (Nat × Value)) : Prop := ∀ (k kp dr k2 kp2 dr2 : Nat → Int32) (T : Nat), lInv k kp k2 kp2 T → gg p l e room_1 s m args below meth c Z.1 A 6 cells slots Q (w2 Z X Y k kp dr (nI T) k2 kp2 dr2 (nI T)) pc L []
section
variable {p : Program} {l : Launch} {e : Env} {s : State} {m : MethodId} {args : Array Value} {below : List Frame} {meth : Method} {c : Code} {Z : ZT} {A : Nat → Prop} {Q : State → Prop} {X Y : XT} {cells slots b Ln : Nat} {xs : Nat → Int32}
theorem lSt.wid {k9 n9 pc : Nat} {L : List (Nat × Value)} (h1 : cells ≤ k9) (h2 : slots ≤ n9) (h : lSt p l e s m args below meth c Z A Q X Y k9 n9 pc L) : lSt p l e s m args below meth c Z A Q X Y cells slots pc L := fun k kp dr k2 kp2 dr2 T hI => gg_wid h1 h2 (h k kp dr k2 kp2 dr2 T hI)
set_option maxRecDepth 100000 in
theorem l_147 (K : kx p s m args meth c Z.1 A (ty3 Z) cL_law RL 6) (T9 : te A s s.heap) (hl0 : l.stackTraces = false) (hc : cells + 16 ≤ 600086) (hs : slots + 96 ≤ 7301442) {j : Nat} {v r : Int32} (kk : lSt p l e s m args below meth c Z A Q X Y ((cells + 16)) ((slots + 96)) (194) (([(5, .int r), (4, .int v), (3, .int (nI j)), (0, .ref b), (1, .ref X.1), (2, .ref Y.1)]))) : lSt p l e s m args below meth c Z A Q X Y (cells) (slots) (147) (([(5, .int r), (4, .int v), (3, .int (nI j)), (0, .ref b), (1, .ref X.1), (2, .ref Y.1)])) := by
  intro k kp dr k2 kp2 dr2 T hI
  have hT9 := hI.1.1
  refine gg_iload_n K (i := 3) dL_law_147 rfl rfl ?_
  refine gg_bipush K (v := 9) dL_law_148 (by decide) ?_
  refine gg_irem K dL_law_150 (by decide) ?_
  refine gg_iconst K (v := 4) dL_law_151 (by decide) ?_
  refine gg_icmp_ne K (tgt := 194) dL_law_152 (by decide) (fun h152 => ?_) (fun h152 => ?_)
  · exact gg_wid (Nat.le_add_right _ _) (Nat.le_add_right _ _) (kk k kp dr k2 kp2 dr2 T hI)
  refine gg_aload_n K (i := 1) dL_law_155 rfl rfl ?_
  refine gg_aload_n K (i := 2) dL_law_156 rfl rfl ?_
  refine gg_iload K dL_law_157 rfl ?_
  refine gg_iconst K (v := 5) dL_law_159 (by decide) ?_
  refine gg_ishr K dL_law_160 ?_
  refine gg_iconst K (v := 1) dL_law_161 (by decide) ?_
  refine gg_iand K dL_law_162 ?_
  obtain ⟨t', ht, et⟩ := and1 (v >>> (5 &&& 31))
  refine gg_top et ?_
  refine gg_iload K dL_law_163 rfl ?_
  refine gg_bipush K (v := 8) dL_law_165 (by decide) ?_
  refine gg_ishr K dL_law_167 ?_
  refine gg_iconst K (v := 4) dL_law_168 (by decide) ?_
  refine gg_callSR K k_L_L_low (n_low (by decide)) dL_law_169 rfl rfl (rOk_law rfl (by omega) (by omega)) rfl ⟨rfl, rfl⟩ ?_
  obtain ⟨y', hy, ey⟩ := lowF_nI (v := v >>> (8 &&& 31)) (n := 4) (by omega) (by omega)
  refine gg_top ey ?_
  refine gg_iload K dL_law_172 rfl ?_
  refine gg_bipush K (v := 10) dL_law_174 (by decide) ?_
  refine gg_ishr K dL_law_176 ?_
  refine gg_aload_n K (i := 1) dL_law_177 rfl rfl ?_
  refine gg_2V1 K k_L_X0_today x_today dL_law_178 rfl rfl (rOk_law rfl (by omega) (by omega)) rfl ⟨rfl, rfl⟩ ?_
  refine gg_iconst K (v := 1) dL_law_181 (by decide) ?_
  refine gg_iadd K dL_law_182 ?_
  refine gg_top (nI_1 T) ?_
  obtain ⟨q', hq, eq⟩ := lowF_nI (v := v >>> (10 &&& 31)) (n := T + 1) (by omega) (by omega)
  refine gg_callSR K k_L_L_low (n_low (fun z => by
    have := i_eq (b := 0) z
    omega)) dL_law_183 rfl rfl (rOk_law rfl (by omega) (by omega)) rfl ⟨rfl, rfl⟩ ?_
  refine gg_top eq ?_
  refine gg_callAX (wc := w2 Z X Y k kp dr (nI T) k2 kp2 dr2 (nI T)) (wr := []) [0, 1, 2, 3, 4, 5, 6, 7] [] rfl rfl rfl K T9 k_L_L_isRestoredSo (c_restored hl0 hI t' y' q' ht (by omega) (by omega) rfl rfl rfl) dL_law_186 rfl rfl (rOk_law rfl (by omega) (by omega)) rfl (fun v0 u h => ?_)
  obtain ⟨k3, kp3, dr3, k4, kp4, dr4, rfl, rfl, hI'⟩ := h
  refine gg_if_ne K (tgt := 194) dL_law_189 (by decide) (fun h189 => ?_) (fun h189 => ?_)
  · exact kk k3 kp3 dr3 k4 kp4 dr4 T hI'
  · exact absurd h189 (by decide)
set_option maxRecDepth 100000 in
theorem l_103 (K : kx p s m args meth c Z.1 A (ty3 Z) cL_law RL 6) (T9 : te A s s.heap) (hl0 : l.stackTraces = false) (hc : cells + 8 ≤ 600086) (hs : slots + 48 ≤ 7301442) {j : Nat} {v r : Int32} (kk : lSt p l e s m args below meth c Z A Q X Y ((cells + 8)) ((slots + 48)) (147) (([(5, .int r), (4, .int v), (3, .int (nI j)), (0, .ref b), (1, .ref X.1), (2, .ref Y.1)]))) : lSt p l e s m args below meth c Z A Q X Y (cells) (slots) (103) (([(5, .int r), (4, .int v), (3, .int (nI j)), (0, .ref b), (1, .ref X.1), (2, .ref Y.1)])) := by
  intro k kp dr k2 kp2 dr2 T hI
  have hT9 := hI.1.1
  refine gg_iload_n K (i := 3) dL_law_103 rfl rfl ?_
  refine gg_iconst K (v := 3) dL_law_104 (by decide) ?_
  refine gg_irem K dL_law_105 (by decide) ?_
  refine gg_iconst K (v := 1) dL_law_106 (by decide) ?_
  refine gg_icmp_ne K (tgt := 147) dL_law_107 (by decide) (fun h107 => ?_) (fun h107 => ?_)
  · exact gg_wid (Nat.le_add_right _ _) (Nat.le_add_right _ _) (kk k kp dr k2 kp2 dr2 T hI)
  refine gg_aload_n K (i := 1) dL_law_110 rfl rfl ?_
  refine gg_iload K dL_law_111 rfl ?_
  refine gg_bipush K (v := 6) dL_law_113 (by decide) ?_
  refine gg_ishr K dL_law_115 ?_
  refine gg_iconst K (v := 1) dL_law_116 (by decide) ?_
  refine gg_iand K dL_law_117 ?_
  obtain ⟨t', ht, et⟩ := and1 (v >>> (6 &&& 31))
  refine gg_top et ?_
  refine gg_iload K dL_law_118 rfl ?_
  refine gg_bipush K (v := 9) dL_law_120 (by decide) ?_
  refine gg_ishr K dL_law_122 ?_
  refine gg_iconst K (v := 4) dL_law_123 (by decide) ?_
  refine gg_callSR K k_L_L_low (n_low (by decide)) dL_law_124 rfl rfl (rOk_law rfl (by omega) (by omega)) rfl ⟨rfl, rfl⟩ ?_
  obtain ⟨y', hy, ey⟩ := lowF_nI (v := v >>> (9 &&& 31)) (n := 4) (by omega) (by omega)
  refine gg_top ey ?_
  refine gg_iload K dL_law_127 rfl ?_
  refine gg_bipush K (v := 11) dL_law_129 (by decide) ?_
  refine gg_ishr K dL_law_131 ?_
  refine gg_aload_n K (i := 1) dL_law_132 rfl rfl ?_
  refine gg_2V1 K k_L_X0_today x_today dL_law_133 rfl rfl (rOk_law rfl (by omega) (by omega)) rfl ⟨rfl, rfl⟩ ?_
  refine gg_iconst K (v := 1) dL_law_136 (by decide) ?_
  refine gg_iadd K dL_law_137 ?_
  refine gg_top (nI_1 T) ?_
  obtain ⟨q', hq, eq⟩ := lowF_nI (v := v >>> (11 &&& 31)) (n := T + 1) (by omega) (by omega)
  refine gg_callSR K k_L_L_low (n_low (fun z => by
    have := i_eq (b := 0) z
    omega)) dL_law_138 rfl rfl (rOk_law rfl (by omega) (by omega)) rfl ⟨rfl, rfl⟩ ?_
  refine gg_top eq ?_
  obtain ⟨ok, ok2, hV, hi⟩ := hI
  refine gg_callAX (wc := wX Z X k kp dr (nI T)) (wr := wX Z Y k2 kp2 dr2 (nI T)) [0, 1, 2, 3] [4, 5, 6, 7] rfl rfl rfl K T9 k_L_L_areRunsSo (c_runs hl0 ok hi.1 t' y' q' ht (by omega) rfl rfl (by omega) rfl) dL_law_141 rfl rfl (rOk_law rfl (by omega) (by omega)) rfl (fun v0 u h => ?_)
  obtain ⟨k3, kp3, dr3, rfl, rfl, ok3, e3⟩ := h
  refine gg_perm (ws' := w2 Z X Y k3 kp3 dr3 (nI T) k2 kp2 dr2 (nI T)) [4, 5, 6, 7, 0, 1, 2, 3] rfl rfl ?_
  refine gg_if_eq K (tgt := 192) dL_law_144 (by decide) (fun h144 => ?_) (fun h144 => ?_)
  · exact absurd h144 (by decide)
  exact kk k3 kp3 dr3 k2 kp2 dr2 T ⟨ok3, ok2, hV.trans e3.symm, by rw [e3]; exact hi⟩
set_option maxRecDepth 100000 in
theorem l_57 (K : kx p s m args meth c Z.1 A (ty3 Z) cL_law RL 6) (hc : cells ≤ 600086) (hs : slots ≤ 7301442) {j : Nat} {v r : Int32} (kk : lSt p l e s m args below meth c Z A Q X Y (cells) (slots) (103) (([(5, .int r), (4, .int v), (3, .int (nI j)), (0, .ref b), (1, .ref X.1), (2, .ref Y.1)]))) : lSt p l e s m args below meth c Z A Q X Y (cells) (slots) (57) (([(5, .int r), (4, .int v), (3, .int (nI j)), (0, .ref b), (1, .ref X.1), (2, .ref Y.1)])) := by
  intro k kp dr k2 kp2 dr2 T hI
  have kk := kk k kp dr k2 kp2 dr2 T hI
  obtain ⟨ok, ok2, hV, hi⟩ := hI
  have hT9 := ok.1
  refine gg_cut 73 [(5, .int r), (4, .int v), (3, .int (nI j)), (0, .ref b), (1, .ref X.1), (2, .ref Y.1)] [] ?_ (fun k73 => ?_)
  rotate_left
  · refine gg_iload_n K (i := 3) dL_law_57 rfl rfl ?_
    refine gg_bipush K (v := 6) dL_law_58 (by decide) ?_
    refine gg_irem K dL_law_60 (by decide) ?_
    refine gg_iconst K (v := 3) dL_law_61 (by decide) ?_
    refine gg_icmp_ne K (tgt := 73) dL_law_62 (by decide) (fun h62 => ?_) (fun h62 => ?_)
    · exact k73
    refine gg_aload_n K (i := 1) dL_law_65 rfl rfl ?_
    refine gg_aload_n K (i := 2) dL_law_66 rfl rfl ?_
    refine gg_2S K k_L_L_areAlike (c_alike ok ok2 hV) dL_law_67 rfl rfl (rOk_law rfl (by omega) (by omega)) rfl ⟨rfl, rfl⟩ ?_
    refine gg_if_eq K (tgt := 101) dL_law_70 (by decide) (fun h70 => ?_) (fun h70 => ?_)
    · exact absurd h70 (by decide)
    exact k73
  refine gg_iload_n K (i := 3) dL_law_73 rfl rfl ?_
  refine gg_iconst K (v := 5) dL_law_74 (by decide) ?_
  refine gg_irem K dL_law_75 (by decide) ?_
  refine gg_iconst K (v := 2) dL_law_76 (by decide) ?_
  refine gg_icmp_ne K (tgt := 103) dL_law_77 (by decide) (fun h77 => ?_) (fun h77 => ?_)
  · exact kk
  refine gg_aload_n K (i := 1) dL_law_80 rfl rfl ?_
  refine gg_iload K dL_law_81 rfl ?_
  refine gg_bipush K (v := 7) dL_law_83 (by decide) ?_
  refine gg_ishr K dL_law_85 ?_
  refine gg_aload_n K (i := 1) dL_law_86 rfl rfl ?_
  refine gg_2V1 K k_L_X0_today x_today dL_law_87 rfl rfl (rOk_law rfl (by omega) (by omega)) rfl ⟨rfl, rfl⟩ ?_
  refine gg_iconst K (v := 1) dL_law_90 (by decide) ?_
  refine gg_iadd K dL_law_91 ?_
  refine gg_top (nI_1 T) ?_
  obtain ⟨q', hq, eq⟩ := lowF_nI (v := v >>> (7 &&& 31)) (n := T + 1) (by omega) (by omega)
  refine gg_callSR K k_L_L_low (n_low (fun z => by
    have := i_eq (b := 0) z
    omega)) dL_law_92 rfl rfl (rOk_law rfl (by omega) (by omega)) rfl ⟨rfl, rfl⟩ ?_
  refine gg_top eq ?_
  refine gg_2S1 K k_L_L_areValuesSo (c_values ok hi q' (by omega) rfl) dL_law_95 rfl rfl (rOk_law rfl (by omega) (by omega)) rfl ⟨rfl, rfl⟩ ?_
  refine gg_if_ne K (tgt := 103) dL_law_98 (by decide) (fun h98 => ?_) (fun h98 => ?_)
  · exact kk
  · exact absurd h98 (by decide)
set_option maxRecDepth 100000 in
theorem l_24 (K : kx p s m args meth c Z.1 A (ty3 Z) cL_law RL 6) (T9 : te A s s.heap) (hl0 : l.stackTraces = false) (hX : va_X b Ln xs s s.heap) (hbl : b < s.heap.size) (hbA : ¬ A b) (hLn : Ln ≤ 3072) (hc : cells + 16 ≤ 600086) (hs : slots + 96 ≤ 7301442) {j : Nat} (hj : j < 64) (kk : ∀ v r : Int32, lSt p l e s m args below meth c Z A Q X Y ((cells + 16)) ((slots + 96)) (57) (([(5, .int r), (4, .int v), (3, .int (nI j)), (0, .ref b), (1, .ref X.1), (2, .ref Y.1)]))) : lSt p l e s m args below meth c Z A Q X Y (cells) (slots) (24) (([(3, .int (nI j)), (0, .ref b), (1, .ref X.1), (2, .ref Y.1)])) := by
  intro k kp dr k2 kp2 dr2 T hI
  obtain ⟨ok, ok2, hV, hi⟩ := hI
  have hT9 := ok.1
  refine gg_aload_n K (i := 0) dL_law_24 rfl rfl ?_
  refine gg_iload_n K (i := 3) dL_law_25 rfl rfl ?_
  refine gg_callC K hX hbl hbA k_L_L_cell (c_cell (by omega) hLn) dL_law_26 rfl rfl (rOk_law rfl (by omega) (by omega)) rfl (fun v => ?_)
  refine gg_istore K dL_law_29 (by decide) ?_
  refine gg_aload_n K (i := 1) dL_law_31 rfl rfl ?_
  refine gg_iload K dL_law_32 rfl ?_
  refine gg_callAX (wc := wX Z X k kp dr (nI T)) (wr := wX Z Y k2 kp2 dr2 (nI T)) [0, 1, 2, 3] [4, 5, 6, 7] rfl rfl rfl K T9 k_L_L_act (c_act hl0 ok hi.1) dL_law_34 rfl rfl (rOk_law rfl (by omega) (by omega)) rfl (fun v0 u h => ?_)
  obtain ⟨r, k3, kp3, dr3, T3, rfl, rfl, ok3, hS⟩ := h
  refine gg_perm (ws' := w2 Z X Y k3 kp3 dr3 (nI T3) k2 kp2 dr2 (nI T)) [4, 5, 6, 7, 0, 1, 2, 3] rfl rfl ?_
  have hi3 := sAct_inv hT9 hi hS
  refine gg_istore K dL_law_37 (by decide) ?_
  refine gg_iload K dL_law_39 rfl ?_
  refine gg_ldc K wd_3 dL_law_41 ?_
  refine gg_icmp_eq K (tgt := 57) dL_law_43 (by decide) (fun h43 => ?_) (fun h43 => ?_)
  · obtain ⟨e1, e2⟩ := sAct_off hS h43
    subst e2
    refine gg_sub (L' := [(5, .int r), (4, .int v), (3, .int (nI j)), (0, .ref b), (1, .ref X.1), (2, .ref Y.1)]) ⟨rfl, rfl, rfl, rfl, rfl, rfl, trivial⟩ ?_
    exact gg_wid (k9 := cells + 16) (n9 := slots + 96) (by show cells + 8 ≤ _; omega) (by show slots + 48 ≤ _; omega) (kk v r k3 kp3 dr3 k2 kp2 dr2 T3 ⟨ok3, ok2, hV.trans e1.symm, hi3⟩)
  refine gg_aload_n K (i := 2) dL_law_46 rfl rfl ?_
  refine gg_iload K dL_law_47 rfl ?_
  refine gg_callAX (wc := wX Z Y k2 kp2 dr2 (nI T)) (wr := wX Z X k3 kp3 dr3 (nI T3)) [4, 5, 6, 7] [0, 1, 2, 3] rfl rfl rfl K T9 k_L_L_act (c_act hl0 ok2 (by rw [hV]; exact hi.1)) dL_law_49 rfl rfl (rOk_law rfl (by omega) (by omega)) rfl (fun v0 u h => ?_)
  obtain ⟨r4, k4, kp4, dr4, T4, rfl, rfl, ok4, hS4⟩ := h
  rw [hV] at hS4
  obtain ⟨e4, e5, e6⟩ := sAct_uq hS4 hS
  subst e4 e6
  refine gg_wsE (ws' := w2 Z X Y k3 kp3 dr3 (nI T4) k4 kp4 dr4 (nI T4)) rfl ?_
  refine gg_iload K dL_law_52 rfl ?_
  refine gg_icmp_ne K (tgt := 101) dL_law_54 (by decide) (fun h54 => ?_) (fun h54 => ?_)
  · exact absurd rfl h54
  refine gg_sub (L' := [(5, .int r4), (4, .int v), (3, .int (nI j)), (0, .ref b), (1, .ref X.1), (2, .ref Y.1)]) ⟨rfl, rfl, rfl, rfl, rfl, rfl, trivial⟩ ?_
  exact kk v r4 k3 kp3 dr3 k4 kp4 dr4 T4 ⟨ok3, ok4, e5, hi3⟩
set_option maxRecDepth 100000 in
theorem l_200 (K : kx p s m args meth c Z.1 A (ty3 Z) cL_law RL 6) (T9 : te A s s.heap) (hl0 : l.stackTraces = false) {j : Nat} (hc : cells + 32 ≤ 600086) (hs : slots + 192 ≤ 7301442) (hend : ∀ (cells slots : Nat) (ws : va_W) (L : List (Nat × Value)), cells ≤ 600086 → slots ≤ 7301442 → gg p l e room_1 s m args below meth c Z.1 A 6 cells slots Q ws 237 L []) : lSt p l e s m args below meth c Z A Q X Y (cells) (slots) (200) (([(3, .int (nI j)), (0, .ref b), (1, .ref X.1), (2, .ref Y.1)])) := by
  intro k kp dr k2 kp2 dr2 T hI
  obtain ⟨ok, ok2, hV, hi⟩ := hI
  have hT9 := ok.1
  refine gg_aload_n K (i := 1) dL_law_200 rfl rfl ?_
  refine gg_aload_n K (i := 2) dL_law_201 rfl rfl ?_
  refine gg_2S K k_L_L_areAlike (c_alike ok ok2 hV) dL_law_202 rfl rfl (rOk_law rfl (by omega) (by omega)) rfl ⟨rfl, rfl⟩ ?_
  refine gg_if_eq K (tgt := 241) dL_law_205 (by decide) (fun h205 => ?_) (fun h205 => ?_)
  · exact absurd h205 (by decide)
  refine gg_aload_n K (i := 1) dL_law_208 rfl rfl ?_
  refine gg_iconst K (v := 0) dL_law_209 (by decide) ?_
  refine gg_iconst K (v := 1) dL_law_210 (by decide) ?_
  refine gg_callAX (wc := wX Z X k kp dr (nI T)) (wr := wX Z Y k2 kp2 dr2 (nI T)) [0, 1, 2, 3] [4, 5, 6, 7] rfl rfl rfl K T9 k_L_L_areRowsSo (c_rows hl0 ok hi.1 0 1 (by omega) (by omega) rfl rfl) dL_law_211 rfl rfl (rOk_law rfl (by omega) (by omega)) rfl (fun v0 u h => ?_)
  obtain ⟨k3, kp3, dr3, rfl, rfl, ok3, e3⟩ := h
  refine gg_perm (ws' := w2 Z X Y k3 kp3 dr3 (nI T) k2 kp2 dr2 (nI T)) [4, 5, 6, 7, 0, 1, 2, 3] rfl rfl ?_
  refine gg_if_eq K (tgt := 241) dL_law_214 (by decide) (fun h214 => ?_) (fun h214 => ?_)
  · exact absurd h214 (by decide)
  refine gg_aload_n K (i := 1) dL_law_217 rfl rfl ?_
  refine gg_iconst K (v := 1) dL_law_218 (by decide) ?_
  refine gg_iconst K (v := 2) dL_law_219 (by decide) ?_
  refine gg_callAX (wc := wX Z X k3 kp3 dr3 (nI T)) (wr := wX Z Y k2 kp2 dr2 (nI T)) [0, 1, 2, 3] [4, 5, 6, 7] rfl rfl rfl K T9 k_L_L_areRowsSo (c_rows hl0 ok3 (by rw [e3]; exact hi.1) 1 2 (by omega) (by omega) rfl rfl) dL_law_220 rfl rfl (rOk_law rfl (by show cells + 16 + 16 ≤ _; omega) (by show slots + 96 + 96 ≤ _; omega)) rfl (fun v0 u h => ?_)
  obtain ⟨k4, kp4, dr4, rfl, rfl, ok4, e4⟩ := h
  refine gg_perm (ws' := w2 Z X Y k4 kp4 dr4 (nI T) k2 kp2 dr2 (nI T)) [4, 5, 6, 7, 0, 1, 2, 3] rfl rfl ?_
  refine gg_if_eq K (tgt := 241) dL_law_223 (by decide) (fun h223 => ?_) (fun h223 => ?_)
  · exact absurd h223 (by decide)
  refine gg_aload_n K (i := 1) dL_law_226 rfl rfl ?_
  refine gg_aload_n K (i := 1) dL_law_227 rfl rfl ?_
  refine gg_2V1 K k_L_X0_today x_today dL_law_228 rfl rfl (rOk_law rfl (by show cells + 16 + 16 + 0 ≤ _; omega) (by show slots + 96 + 96 + 0 ≤ _; omega)) rfl ⟨rfl, rfl⟩ ?_
  refine gg_2S1 K k_L_L_areValuesSo (c_values ok4 (by rw [e4, e3]; exact hi) T (Nat.le_refl T) rfl) dL_law_231 rfl rfl (rOk_law rfl (by show cells + 16 + 16 + 0 ≤ _; omega) (by show slots + 96 + 96 + 0 ≤ _; omega)) rfl ⟨rfl, rfl⟩ ?_
  refine gg_if_eq K (tgt := 241) dL_law_234 (by decide) (fun h234 => ?_) (fun h234 => ?_)
  · exact absurd h234 (by decide)
  exact hend _ _ _ _ (by show cells + 16 + 16 ≤ _; omega) (by show slots + 96 + 96 ≤ _; omega)
set_option maxRecDepth 100000 in
/-- the law's loop, from its head -/
theorem law_loop (K : kx p s m args meth c Z.1 A (ty3 Z) cL_law RL 6) (T9 : te A s s.heap) (hl0 : l.stackTraces = false) (hX : va_X b Ln xs s s.heap) (hbl : b < s.heap.size) (hbA : ¬ A b) (hLn : Ln ≤ 3072) (hend : ∀ (cells slots : Nat) (ws : va_W) (L : List (Nat × Value)), cells ≤ 600086 → slots ≤ 7301442 → gg p l e room_1 s m args below meth c Z.1 A 6 cells slots Q ws 237 L []) : ∀ (n j : Nat), j + n = 65 → j ≤ 64 → lSt p l e s m args below meth c Z A Q X Y ((8 + 40 * j)) ((115448 + 240 * j)) (18) (([(3, .int (nI j)), (0, .ref b), (1, .ref X.1), (2, .ref Y.1)]))
  | 0, j, hn, hj => by omega
  | n + 1, j, hn, hj => by
    intro k kp dr k2 kp2 dr2 T hI
    refine gg_iload_n K (i := 3) dL_law_18 rfl rfl ?_
    refine gg_bipush K (v := 64) dL_law_19 (by decide) ?_
    refine gg_icmp_ge K (tgt := 200) dL_law_21 (by decide) (fun h21 => ?_) (fun h21 => ?_)
    · exact l_200 K T9 hl0 (by omega) (by omega) hend k kp dr k2 kp2 dr2 T hI
    have hj2 := i_nle (a := 64) h21
    refine l_24 K T9 hl0 hX hbl hbA hLn (by omega) (by omega) hj2 (fun v r => ?_) k kp dr k2 kp2 dr2 T hI
    refine l_57 K (by omega) (by omega) ?_
    refine l_103 K T9 hl0 (by omega) (by omega) ?_
    refine l_147 K T9 hl0 (by omega) (by omega) ?_
    intro k kp dr k2 kp2 dr2 T hI
    refine gg_iinc K (v := nI (j + 1)) dL_law_194 rfl (nI_inc (j)) (by decide) ?_
    refine gg_goto K (tgt := 18) dL_law_197 (by decide) ?_
    refine gg_sub (L' := [(3, .int (nI (j + 1))), (0, .ref b), (1, .ref X.1), (2, .ref Y.1)]) ⟨rfl, rfl, rfl, rfl, trivial⟩ ?_
    exact gg_wid (by omega) (by omega) (law_loop K T9 hl0 hX hbl hbA hLn hend n (j + 1) (by omega) (by omega) k kp dr k2 kp2 dr2 T hI)
end
