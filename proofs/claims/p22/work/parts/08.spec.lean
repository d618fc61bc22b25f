/-! plain facts: numbers, the two stores seen as one table of values, what the questions ask of it -/
theorem nI_mul (a b : Nat) : nI a * nI b = nI (a * b) := (Int32.ofNat_mul a b).symm
theorem nI_lit (z : Nat) : (OfNat.ofNat z : Int32) = nI z := rfl
theorem nI_sub1 {a : Nat} (h : 0 < a) : nI a - 1 = nI (a - 1) := by
  obtain ⟨b, rfl⟩ : ∃ b, a = b + 1 := ⟨a - 1, by omega⟩
  exact nI_pred b
def bI (b : Bool) : Int32 := cond b 1 0
theorem bI_01 (b : Bool) : bI b = 0 ∨ bI b = 1 := by cases b; exact Or.inl rfl; exact Or.inr rfl
theorem bI_0 {b : Bool} : bI b = 0 ↔ b = false := by cases b <;> decide
theorem bI_t {b : Bool} (h : b = true) : bI b = 1 := by rw [h]; rfl
theorem bI_f {b : Bool} (h : b = false) : bI b = 0 := by rw [h]; rfl
theorem some_int {x y : Int32} (h : x = y) : (some (Value.int x)) = some (Value.int y) := by rw [h]
section
variable {p : Program} {l : Launch} {e : Env} {R : Room} {s : State} {m : MethodId} {args : Array Value} {below : List Frame} {meth : Method} {c : Code} {D : va_G} {A : Nat → Prop} {tys : List (ClassId × FieldType)} {cc : ByteArray} {own : String} {n cells slots pc : Nat} {Q : State → Prop} {ws : va_W} {L : List (Nat × Value)} {st : List Value}
theorem gg_b_eq {b : Bool} {off : Int} (K : kx p s m args meth c D A tys cc own n) {tgt : Nat} (hd : decode cc pc = .ok (.ifCond .eq off, 3)) (ht : (pc : Int) + off = (tgt : Int)) (kt : b = false → gg p l e R s m args below meth c D A n cells slots Q ws tgt L st) (kf : b = true → gg p l e R s m args below meth c D A n cells slots Q ws (pc + 3) L st) : gg p l e R s m args below meth c D A n cells slots Q ws pc L (.int (bI b) :: st) :=
  gg_if_eq K hd ht (fun h => kt (bI_0.mp h)) (fun h => kf (by cases b; exact absurd rfl h; rfl))
theorem gg_b_ne {b : Bool} {off : Int} (K : kx p s m args meth c D A tys cc own n) {tgt : Nat} (hd : decode cc pc = .ok (.ifCond .ne off, 3)) (ht : (pc : Int) + off = (tgt : Int)) (kt : b = true → gg p l e R s m args below meth c D A n cells slots Q ws tgt L st) (kf : b = false → gg p l e R s m args below meth c D A n cells slots Q ws (pc + 3) L st) : gg p l e R s m args below meth c D A n cells slots Q ws pc L (.int (bI b) :: st) :=
  gg_if_ne K hd ht (fun h => kt (by cases b; exact absurd rfl h; rfl)) (fun h => kf (bI_0.mp h))
end
abbrev VT : Type := Nat → Nat → Nat → Int32
def ix (r l d : Nat) : Nat := (r * 16 + l) * 60 + d
theorem ix_lt {r l d : Nat} (hr : r < 60) (hl : l < 16) (hd : d < 60) : ix r l d < 57600 := by unfold ix; omega
theorem ix_inj {r l d r' l' d' : Nat} (hl : l < 16) (hd : d < 60) (hl' : l' < 16) (hd' : d' < 60) (h : ix r l d = ix r' l' d') : r = r' ∧ l = l' ∧ d = d' := by
  unfold ix at h
  omega
/-- what keptOn says for a day -/
def kq (kp : Nat → Int32) (r : Nat) : Nat := (kp r).toNatClampNeg
def vX (k kp : Nat → Int32) (T : Nat) : VT := fun r l d => if r ≤ T ∧ l < 16 ∧ d < 60 then k (ix (kq kp r) l d) else -1
def vM (k : Nat → Int32) (T : Nat) : VT := fun r l d => if r ≤ T ∧ l < 16 ∧ d < 60 then k (ix r l d) - 1 else -1
/-- the days of record: which stand for themselves -/
def okX (kp : Nat → Int32) (T : Nat) : Prop := T < 60 ∧ kp T = nI T ∧ kp 0 = nI 0 ∧ ∀ r, r ≤ T → (kp r = nI (kq kp r) ∧ kq kp r ≤ r) ∧ (kp r = nI r ∨ (0 < r ∧ kp r = kp (r - 1)))
theorem kq_nI {kp : Nat → Int32} {r q : Nat} (h : kp r = nI q) (hq : q < 60) : kq kp r = q := by
  unfold kq
  rw [h]
  exact nI_clamp (by omega)
def stF (f : Nat → Int32) (d : Nat) : Bool := decide (¬ f d = -1 ∧ (d = 0 ∨ ¬ f (d - 1) = f d))
def enF (f : Nat → Int32) (v : Int32) : Nat → Nat → Nat
  | 0, d => d
  | n + 1, d => if f d = v then enF f v n (d + 1) else d
def endF (f : Nat → Int32) (d : Nat) : Nat := enF f (f d) (59 - d) (d + 1)
def runN (f : Nat → Int32) (d : Nat) : Int32 := nI 10000 * nI d + nI 100 * nI (endF f d) + f d
def toldF (f : Nat → Int32) (d : Nat) : Int32 := if stF f d = true then runN f d else -1
theorem enF_le (f : Nat → Int32) (v : Int32) : ∀ (n d : Nat), enF f v n d ≤ d + n
  | 0, d => Nat.le_refl _
  | n + 1, d => by
    unfold enF
    split
    · have := enF_le f v n (d + 1); omega
    · omega
theorem enF_ge (f : Nat → Int32) (v : Int32) : ∀ (n d : Nat), d ≤ enF f v n d
  | 0, d => Nat.le_refl _
  | n + 1, d => by
    unfold enF
    split
    · have := enF_ge f v n (d + 1); omega
    · omega
theorem endF_le {f : Nat → Int32} {d : Nat} (h : d < 60) : endF f d ≤ 60 := by
  have := enF_le f (f d) (59 - d) (d + 1)
  unfold endF
  omega
theorem endF_gt (f : Nat → Int32) (d : Nat) : d < endF f d := enF_ge f (f d) (59 - d) (d + 1)
