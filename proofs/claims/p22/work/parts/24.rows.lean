/-! rows counted: each run of each day of record stands in one row -/
def reN (q : Nat → Bool) : Nat → Nat → Nat
  | 0, a => a
  | n + 1, a => if q a = true then reN q n (a + 1) else a
theorem reN_spec (q : Nat → Bool) : ∀ n a : Nat, a ≤ reN q n a ∧ reN q n a ≤ a + n ∧ (∀ x, a ≤ x → x < reN q n a → q x = true) ∧ ((reF q n a = -1 ∧ reN q n a = a + n) ∨ (reF q n a = nI (reN q n a) ∧ reN q n a < a + n ∧ q (reN q n a) = false))
  | 0, a => ⟨Nat.le_refl _, Nat.le_refl _, fun x h1 h2 => absurd h2 (by unfold reN; omega), Or.inl ⟨rfl, rfl⟩⟩
  | n + 1, a => by
    unfold reN reF
    by_cases h : q a = true
    · rw [if_pos h, if_pos h]
      obtain ⟨h1, h2, h3, h4⟩ := reN_spec q n (a + 1)
      refine ⟨by omega, by omega, fun x x1 x2 => ?_, ?_⟩
      · by_cases hx : x = a
        · rw [hx]; exact h
        · exact h3 x (by omega) x2
      · rcases h4 with ⟨z1, z2⟩ | ⟨z1, z2, z3⟩
        · exact Or.inl ⟨z1, by omega⟩
        · exact Or.inr ⟨z1, by omega, z3⟩
    · rw [if_neg h, if_neg h]
      exact ⟨Nat.le_refl _, by omega, fun x h1 h2 => absurd h2 (by omega), Or.inr ⟨rfl, by omega, by cases hq : q a with | true => exact absurd hq h | false => rfl⟩⟩
/-- the day of record behind the last one of the row that begins at r, d -/
noncomputable def rEnd (V : VT) (l T r d : Nat) : Nat := reN (fun a => smF (V r l) (V a l) d) (T - r) (r + 1)
theorem rEnd_gt (V : VT) (l T r d : Nat) : r < rEnd V l T r d := (reN_spec (fun a => smF (V r l) (V a l) d) (T - r) (r + 1)).1
theorem rEnd_le {V : VT} {l T r d : Nat} (h : r ≤ T) : rEnd V l T r d ≤ T + 1 := by
  have := (reN_spec (fun a => smF (V r l) (V a l) d) (T - r) (r + 1)).2.1
  unfold rEnd
  omega
theorem rEnd_in {V : VT} {l T r d a : Nat} (h1 : r < a) (h2 : a < rEnd V l T r d) : smF (V r l) (V a l) d = true := (reN_spec (fun a => smF (V r l) (V a l) d) (T - r) (r + 1)).2.2.1 a h1 h2
theorem rEnd_out {V : VT} {l T r d : Nat} (hr : r ≤ T) (h : rEnd V l T r d ≤ T) : smF (V r l) (V (rEnd V l T r d) l) d = false := by
  rcases (reN_spec (fun a => smF (V r l) (V a l) d) (T - r) (r + 1)).2.2.2 with ⟨-, z⟩ | ⟨-, -, z⟩
  · unfold rEnd at h
    omega
  · exact z
theorem sm_iff {f g : Nat → Int32} {d : Nat} : smF f g d = true ↔ stF g d = true ∧ g d = f d ∧ endF g d = endF f d := bP_iff
theorem rw_iff {V : VT} {l r d : Nat} : rowF V l r d = true ↔ stF (V r l) d = true ∧ (r = 0 ∨ smF (V r l) (V (r - 1) l) d = false) := bP_iff
theorem bool_f {b : Bool} (h : ¬ b = true) : b = false := by cases b with | true => exact absurd rfl h | false => rfl
/-- the row at r, d holds the day of record n -/
noncomputable def holdsR (V : VT) (l T n d r : Nat) : Bool := bP (rowF V l r d = true ∧ r ≤ n ∧ n < rEnd V l T r d)
theorem fb_ct_one {q : Nat → Bool} {N r : Nat} (hr : r < N) (hq : q r = true) (hu : ∀ x, x < N → q x = true → x = r) : fb_ct q N = 1 := by
  have h1 : fb_ct q r = 0 := fb_ct_zero.mpr (fun k hk => bool_f (fun z => absurd (hu k (by omega) z) (by omega)))
  have h2 : fb_ct q (r + 1) = 1 := by rw [fb_ct_succ, if_pos hq, h1]
  rw [ct_skip (show r + 1 ≤ N from hr) (fun x x1 x2 => bool_f (fun z => absurd (hu x x2 z) (by omega))), h2]
/-- where the row that holds a run begins -/
theorem row_begin {V : VT} {l d : Nat} : ∀ n : Nat, stF (V n l) d = true → ∃ r, r ≤ n ∧ rowF V l r d = true ∧ ∀ a, r ≤ a → a ≤ n → stF (V a l) d = true ∧ V a l d = V r l d ∧ endF (V a l) d = endF (V r l) d
  | 0, h => ⟨0, Nat.le_refl _, rw_iff.mpr ⟨h, Or.inl rfl⟩, fun a _ h2 => by
      rw [show a = 0 by omega]
      exact ⟨h, rfl, rfl⟩⟩
  | n + 1, h => by
    by_cases hs : smF (V (n + 1) l) (V n l) d = true
    · obtain ⟨h1, h2, h3⟩ := sm_iff.mp hs
      obtain ⟨r, g1, g2, g3⟩ := row_begin n h1
      refine ⟨r, by omega, g2, fun a a1 a2 => ?_⟩
      by_cases ha : a = n + 1
      · subst ha
        obtain ⟨k1, k2, k3⟩ := g3 n g1 (Nat.le_refl n)
        exact ⟨h, h2.symm.trans k2, h3.symm.trans k3⟩
      · exact g3 a a1 (by omega)
    · refine ⟨n + 1, Nat.le_refl _, rw_iff.mpr ⟨h, Or.inr (bool_f hs)⟩, fun a a1 a2 => ?_⟩
      rw [show a = n + 1 by omega]
      exact ⟨h, rfl, rfl⟩
theorem rEnd_past {V : VT} {l T r d n : Nat} (hn : n ≤ T) (hr : r ≤ n) (h : ∀ a, r < a → a ≤ n → smF (V r l) (V a l) d = true) : n < rEnd V l T r d := by
  apply Nat.not_le.mp
  intro hle
  have h1 := rEnd_gt V l T r d
  have h2 := h _ h1 hle
  rw [rEnd_out (by omega) (by omega)] at h2
  cases h2
theorem holds_one {V : VT} {l T n d : Nat} (hn : n ≤ T) : fb_ct (holdsR V l T n d) (T + 1) = if stF (V n l) d = true then 1 else 0 := by
  by_cases h : stF (V n l) d = true
  · rw [if_pos h]
    obtain ⟨r, g1, g2, g3⟩ := row_begin n h
    refine fb_ct_one (r := r) (by omega) (bP_t ⟨g2, g1, rEnd_past hn g1 (fun a a1 a2 => ?_)⟩) (fun x x1 x2 => ?_)
    · obtain ⟨k1, k2, k3⟩ := g3 a (by omega) a2
      exact sm_iff.mpr ⟨k1, k2, k3⟩
    · obtain ⟨y1, y2, y3⟩ := bP_iff.mp x2
      obtain ⟨y4, y5⟩ := rw_iff.mp y1
      obtain ⟨w4, w5⟩ := rw_iff.mp g2
      rcases Nat.lt_trichotomy x r with hlt | heq | hgt
      · -- r lies within the row of x
        exfalso
        have e1 := rEnd_in (V := V) (l := l) (T := T) (d := d) hlt (by omega)
        rcases w5 with z | z
        · omega
        have e2 : smF (V r l) (V (r - 1) l) d = true := by
          obtain ⟨k1, k2, k3⟩ := sm_iff.mp e1
          by_cases hx : x = r - 1
          · subst hx
            exact sm_iff.mpr ⟨y4, k2.symm, k3.symm⟩
          · obtain ⟨m1, m2, m3⟩ := sm_iff.mp (rEnd_in (V := V) (l := l) (T := T) (d := d) (show x < r - 1 by omega) (by omega))
            exact sm_iff.mpr ⟨m1, m2.trans k2.symm, m3.trans k3.symm⟩
        rw [e2] at z
        cases z
      · exact heq
      · exfalso
        rcases y5 with z | z
        · omega
        obtain ⟨k1, k2, k3⟩ := g3 (x - 1) (by omega) (by omega)
        obtain ⟨m1, m2, m3⟩ := g3 x (by omega) y2
        rw [sm_iff.mpr ⟨k1, k2.trans m2.symm, k3.trans m3.symm⟩] at z
        cases z
  · rw [if_neg h]
    refine fb_ct_zero.mpr (fun r hr => bP_f (fun z => h ?_))
    obtain ⟨z1, z2, z3⟩ := z
    by_cases he : r = n
    · rw [← he]
      exact (rw_iff.mp z1).1
    · exact (sm_iff.mp (rEnd_in (V := V) (l := l) (T := T) (d := d) (show r < n by omega) z3)).1
/-! sums -/
theorem fb_sm_swap (g : Nat → Nat → Nat) (B : Nat) : ∀ A : Nat, fb_sm (fun z => fb_sm (g z) B) A = fb_sm (fun n => fb_sm (fun z => g z n) A) B
  | 0 => by
    have := fb_sm_const 0 B
    rw [Nat.mul_zero] at this
    exact this.symm
  | A + 1 => by
    rw [fb_sm_succ, fb_sm_swap g B A, ← fb_sm_add]
    rfl
theorem fb_ct_sm (q : Nat → Bool) : ∀ n : Nat, fb_ct q n = fb_sm (fun k => if q k = true then 1 else 0) n
  | 0 => rfl
  | n + 1 => by rw [fb_ct_succ, fb_sm_succ, fb_ct_sm q n]
theorem fb_ct_grid (p : Nat → Bool) : ∀ M : Nat, fb_ct p (60 * M) = fb_sm (fun d => fb_ct (fun r => p (60 * r + d)) M) 60
  | 0 => by
    have := fb_sm_const 0 60
    rw [Nat.mul_zero] at this
    exact this.symm
  | M + 1 => by
    rw [show 60 * (M + 1) = 60 * M + 60 by omega, fb_ct_split, fb_ct_grid p M, fb_ct_sm (fun k => p (60 * M + k)) 60, ← fb_sm_add]
    rfl
theorem len_sum {r e : Nat} (h1 : r ≤ e) : ∀ N : Nat, e ≤ N → fb_sm (fun n => if r ≤ n ∧ n < e then 1 else 0) N = e - r
  | 0, h => by
    rw [show e - r = 0 by omega]
    rfl
  | N + 1, h => by
    rw [fb_sm_succ]
    by_cases he : e ≤ N
    · rw [len_sum h1 N he, if_neg (by omega)]
      rfl
    · have e9 : e = N + 1 := by omega
      subst e9
      by_cases hr : r ≤ N
      · rw [if_pos ⟨hr, by omega⟩]
        have h2 := len_sum hr N (Nat.le_refl N)
        rw [fb_sm_cong (f := fun n => if r ≤ n ∧ n < N + 1 then 1 else 0) (g := fun n => if r ≤ n ∧ n < N then 1 else 0) (fun k hk => by
          by_cases hc : r ≤ k
          · rw [if_pos ⟨hc, by omega⟩, if_pos ⟨hc, hk⟩]
          · rw [if_neg (fun z => hc z.1), if_neg (fun z => hc z.1)]), h2]
        omega
      · rw [if_neg (fun z => hr z.1), fb_sm_cong (g := fun _ => 0) (fun k hk => if_neg (by omega)), fb_sm_const]
        omega
/-- how many days of record a row has -/
noncomputable def rLen (V : VT) (l T z : Nat) : Nat := rEnd V l T (z / 60) (z % 60) - z / 60
theorem kth_sum {q : Nat → Bool} {N : Nat} (f : Nat → Nat) : ∀ m : Nat, m ≤ N → fb_sm (fun k => f (kthD q k N)) (fb_ct q m) = fb_sm (fun z => if q z = true then f z else 0) m
  | 0, _ => rfl
  | m + 1, h => by
    rw [fb_sm_succ (fun z => if q z = true then f z else 0), ← kth_sum (N := N) f m (by omega), fb_ct_succ]
    by_cases hq : q m = true
    · rw [if_pos hq, if_pos hq, fb_sm_succ, kthD_eq hq rfl (show m < N by omega)]
    · rw [if_neg hq, if_neg hq]
      rfl
/-- the days of all rows together are the runs of all days of record together -/
theorem rows_sum (V : VT) (l T : Nat) : fb_sm (fun k => rLen V l T (kthD (rwF V l) k (60 * (T + 1)))) (fb_ct (rwF V l) (60 * (T + 1))) = fb_sm (fun r => fb_ct (stF (V r l)) 60) (T + 1) := by
  rw [kth_sum (rLen V l T) (60 * (T + 1)) (Nat.le_refl _)]
  have h1 : fb_sm (fun z => if rwF V l z = true then rLen V l T z else 0) (60 * (T + 1)) = fb_sm (fun z => fb_sm (fun n => if bP (rwF V l z = true ∧ z / 60 ≤ n ∧ n < rEnd V l T (z / 60) (z % 60)) = true then 1 else 0) (T + 1)) (60 * (T + 1)) := by
    refine fb_sm_cong (fun z hz => ?_)
    by_cases hq : rwF V l z = true
    · unfold rLen
      rw [if_pos hq, ← len_sum (Nat.le_of_lt (rEnd_gt V l T (z / 60) (z % 60))) (T + 1) (rEnd_le (by omega))]
      refine fb_sm_cong (fun n hn => ?_)
      by_cases hc : z / 60 ≤ n ∧ n < rEnd V l T (z / 60) (z % 60)
      · rw [if_pos hc, if_pos (bP_t ⟨hq, hc⟩)]
      · rw [if_neg hc, if_neg (fun w => hc (bP_iff.mp w).2)]
    · rw [if_neg hq, fb_sm_cong (g := fun _ => 0) (fun n hn => if_neg (fun w => hq (bP_iff.mp w).1)), fb_sm_const]
      omega
  rw [h1, fb_sm_swap]
  refine fb_sm_cong (fun n hn => ?_)
  show fb_sm (fun z => if bP (rwF V l z = true ∧ z / 60 ≤ n ∧ n < rEnd V l T (z / 60) (z % 60)) = true then 1 else 0) (60 * (T + 1)) = _
  rw [← fb_ct_sm (fun z => bP (rwF V l z = true ∧ z / 60 ≤ n ∧ n < rEnd V l T (z / 60) (z % 60))), fb_ct_grid, fb_ct_sm]
  refine fb_sm_cong (fun d hd => ?_)
  rw [← holds_one (V := V) (l := l) (d := d) (show n ≤ T by omega)]
  refine fb_ct_cong (fun r hr => ?_)
  show bP (rwF V l (60 * r + d) = true ∧ (60 * r + d) / 60 ≤ n ∧ n < rEnd V l T ((60 * r + d) / 60) ((60 * r + d) % 60)) = holdsR V l T n d r
  rw [rwF_at V l r d hd, show (60 * r + d) / 60 = r by omega, show (60 * r + d) % 60 = d by omega]
  rfl
theorem rows_le (V : VT) (l T n : Nat) (hT : T < 60) : fb_sm (fun k => rLen V l T (kthD (rwF V l) k (60 * (T + 1)))) n ≤ n * 60 := fb_sm_bound (fun k _ => by
  unfold rLen
  by_cases h : kthD (rwF V l) k (60 * (T + 1)) / 60 ≤ T
  · have := rEnd_le (V := V) (l := l) (d := kthD (rwF V l) k (60 * (T + 1)) % 60) h
    omega
  · have h1 := (reN_spec (fun a => smF (V (kthD (rwF V l) k (60 * (T + 1)) / 60) l) (V a l) (kthD (rwF V l) k (60 * (T + 1)) % 60)) (T - kthD (rwF V l) k (60 * (T + 1)) / 60) (kthD (rwF V l) k (60 * (T + 1)) / 60 + 1)).2.1
    unfold rEnd
    omega)
