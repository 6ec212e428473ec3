/-! small rows more: bits of letters, characters -/
section MORE
variable {Γ : GG} {M : MT} {pc : Nat} {lo : List (Option AV)} {st : List AV} {σ : HS} {cu su : Nat} {Q : Res → HS → Prop}
set_option maxRecDepth 100000 in
theorem zn1 : ∀ x, x < 256 → (iI (x : Nat) &&& iI 1).toInt = ((x % 2 : Nat) : Int) := by decide +kernel
set_option maxRecDepth 100000 in
theorem znm2 : ∀ x, x < 256 → (iI (x : Nat) &&& iI (-2)).toInt = ((2 * (x / 2) : Nat) : Int) := by decide +kernel
set_option maxRecDepth 100000 in
theorem zic : ∀ x, x < 256 → ((iI (x : Nat)).toUInt32 % 65536).toInt32 = iI (x : Nat) := by decide +kernel
set_option maxRecDepth 100000 in
theorem znc : ∀ x : Nat, x < 256 → narrow .char (.int (iI (x : Nat))) = .int (iI (x : Nat)) := fun x hx => congrArg Value.int (zic x hx)
set_option maxRecDepth 100000 in
theorem zW_iand1 {x : Nat} (d : decode (mB M) pc = .ok (.iand, 1)) (hx : x < 256) (k : zW Γ M (pc + 1) lo (vI ((x % 2 : Nat) : Int) :: st) σ cu su Q) : zW Γ M pc lo (vI 1 :: vI (x : Int) :: st) σ cu su Q := by
  refine zW_iand d ?_
  rw [zn1 x hx]
  exact k
set_option maxRecDepth 100000 in
theorem zW_iandm2 {x : Nat} (d : decode (mB M) pc = .ok (.iand, 1)) (hx : x < 256) (k : zW Γ M (pc + 1) lo (vI ((2 * (x / 2) : Nat) : Int) :: st) σ cu su Q) : zW Γ M pc lo (vI (-2) :: vI (x : Int) :: st) σ cu su Q := by
  refine zW_iand d ?_
  rw [znm2 x hx]
  exact k
set_option maxRecDepth 100000 in
theorem zW_i2cN {x : Nat} {z : Int} (d : decode (mB M) pc = .ok (.i2c, 1)) (hz : z = (x : Int)) (hx : x < 256) (k : zW Γ M (pc + 1) lo (vI (x : Int) :: st) σ cu su Q) : zW Γ M pc lo (vI z :: st) σ cu su Q := by
  subst hz
  exact zW_i2c d (zic x hx) k
end MORE
/-- the letter of a code -/
def lco (c : Nat) : Nat := (if c % 2 = 0 then 97 else 65) + c / 2
/-- the code of a byte, -1: none -/
def cob (y r : Nat) : Int := if 97 ≤ y ∧ y < 97 + r then 2 * ((y : Int) - 97) else if 65 ≤ y ∧ y < 65 + r then 2 * ((y : Int) - 65) + 1 else -1
set_option maxRecDepth 100000 in
theorem cob_lt {y r : Nat} : cob y r < 2 * (r : Int) ∧ -1 ≤ cob y r := by
  unfold cob
  split
  · omega
  · split <;> omega
set_option maxRecDepth 100000 in
theorem lco_lt {c : Nat} (h : c < 8) : lco c < 128 := by
  unfold lco
  split <;> omega
/-- how far two words agree -/
def cpfF (l m : List Nat) : Nat → Nat → Nat
  | 0, i => i
  | n + 1, i => if l.getD i 0 = m.getD i 0 then cpfF l m n (i + 1) else i
def cpf (l m : List Nat) : Nat := cpfF l m (min l.length m.length) 0
set_option maxRecDepth 100000 in
theorem cpfF_le (l m : List Nat) : ∀ n i, cpfF l m n i ≤ i + n := by
  intro n
  induction n with
  | zero => exact fun i => Nat.le_refl _
  | succ n ih =>
    intro i
    show (if _ then _ else _) ≤ _
    split
    · have := ih (i + 1); omega
    · omega
set_option maxRecDepth 100000 in
theorem cpf_le (l m : List Nat) : cpf l m ≤ min l.length m.length := by
  have := cpfF_le l m (min l.length m.length) 0
  unfold cpf
  omega
def ordw (l m : List Nat) : Int := if l.length ≠ m.length then (if l.length < m.length then -1 else 1) else if cpf l m = l.length then 0 else if l.getD (cpf l m) 0 < m.getD (cpf l m) 0 then -1 else 1
/-- how many pairs cancel -/
def cncF (l m : List Nat) : Nat → Nat → Nat
  | 0, i => i
  | n + 1, i => if l.getD (l.length - 1 - i) 0 = m.getD i 0 ^^^ 1 then cncF l m n (i + 1) else i
def cnc (l m : List Nat) : Nat := cncF l m (min l.length m.length) 0
/-- the core of l read from place s on is the core of m -/
abbrev rotd (l m : List Nat) (s : Nat) : Prop := ∀ i, i < crl l → crg l ((i + s) % crl l) = crg m i
def srF (l m : List Nat) : Nat → Nat → Int
  | 0, _ => -1
  | n + 1, s => if rotd l m s then (s : Int) else srF l m n (s + 1)
def srot (l m : List Nat) : Int := if crl m ≠ crl l then -1 else if crl l = 0 then 0 else srF l m (crl l) 0
/-- what is written of a number, of a run, of a word -/
def dgs (n : Nat) : List Nat := (if 10 ≤ n then [48 + n / 10] else []) ++ [48 + n % 10]
def rtx (c n : Nat) : List Nat := [97 + c / 2] ++ ((if c % 2 = 1 then [45] else []) ++ if c % 2 = 1 ∨ 1 < n then dgs n else [])
def rnF : List Nat → Nat → List Nat
  | [], _ => []
  | x :: xs, r => if xs.head? = some x then rnF xs (r + 1) else rtx x (r + 1) ++ rnF xs 0
def wtx (l : List Nat) : List Nat := if rnF l 0 = [] then [49] else rnF l 0
set_option maxRecDepth 100000 in
theorem dgs_len (n : Nat) : (dgs n).length ≤ 2 := by
  unfold dgs
  split <;> simp
set_option maxRecDepth 100000 in
theorem rtx_len (c n : Nat) : (rtx c n).length ≤ 4 ∧ 1 ≤ (rtx c n).length ∧ (n < 10 → (rtx c n).length ≤ 3) := by
  have h1 : n < 10 → (dgs n).length = 1 := by
    intro h
    unfold dgs
    rw [if_neg (by omega)]
    rfl
  have h2 := dgs_len n
  unfold rtx
  simp only [List.length_append, List.length_cons, List.length_nil]
  split <;> split <;> simp only [List.length_cons, List.length_nil] <;> omega
set_option maxRecDepth 100000 in
theorem rnF_len : ∀ (l : List Nat) (r : Nat), (rnF l r).length ≤ 3 * l.length + r := by
  intro l
  induction l with
  | nil => intro r; exact Nat.zero_le _
  | cons x xs ih =>
    intro r
    show (if _ then _ else _ : List Nat).length ≤ _
    have hr := rtx_len x (r + 1)
    split
    · have := ih (r + 1); rw [List.length_cons]; omega
    · have := ih 0; rw [List.length_cons, List.length_append]; omega
