/-! the input's text: tokens, items, statements -/
def isLt (y : Nat) : Bool := decide ((97 ≤ y ∧ y ≤ 122) ∨ (65 ≤ y ∧ y ≤ 90))
def isDg (y : Nat) : Bool := decide (48 ≤ y ∧ y ≤ 57)
def isSp (y : Nat) : Bool := decide (y = 32 ∨ y = 10)
def scF (P : Nat → Bool) (tx : Nat → Nat) : Nat → Nat → Nat
  | 0, p => p
  | f + 1, p => if P (tx p) then scF P tx f (p + 1) else p
def sc (P : Nat → Bool) (tx : Nat → Nat) (n p : Nat) : Nat := scF P tx (n - p) p
set_option maxRecDepth 100000 in
theorem scF_le (P : Nat → Bool) (tx : Nat → Nat) : ∀ f p, p ≤ scF P tx f p ∧ scF P tx f p ≤ p + f ∧ ∀ i, p ≤ i → i < scF P tx f p → P (tx i) = true := by
  intro f
  induction f with
  | zero => exact fun p => ⟨Nat.le_refl _, Nat.le_refl _, fun i h1 h2 => by change i < p at h2; omega⟩
  | succ f ih =>
    intro p
    show p ≤ (if P (tx p) then scF P tx f (p + 1) else p) ∧ (if P (tx p) then scF P tx f (p + 1) else p) ≤ _ ∧ ∀ i, p ≤ i → i < (if P (tx p) then scF P tx f (p + 1) else p) → P (tx i) = true
    split
    · rename_i h
      obtain ⟨h1, h2, h3⟩ := ih (p + 1)
      refine ⟨by omega, by omega, fun i h4 h5 => ?_⟩
      by_cases e : i = p
      · rw [e]; exact h
      · exact h3 i (by omega) h5
    · exact ⟨Nat.le_refl _, by omega, fun i h1 h2 => by omega⟩
set_option maxRecDepth 100000 in
theorem sc_le (P : Nat → Bool) (tx : Nat → Nat) {n p : Nat} (h : p ≤ n) : p ≤ sc P tx n p ∧ sc P tx n p ≤ n ∧ ∀ i, p ≤ i → i < sc P tx n p → P (tx i) = true := by
  obtain ⟨h1, h2, h3⟩ := scF_le P tx (n - p) p
  exact ⟨h1, by unfold sc; omega, h3⟩
set_option maxRecDepth 100000 in
theorem sc_step {P : Nat → Bool} {tx : Nat → Nat} {n p : Nat} (h : p < n) : sc P tx n p = if P (tx p) then sc P tx n (p + 1) else p := by
  unfold sc
  rw [show n - p = (n - (p + 1)) + 1 by omega]
  rfl
set_option maxRecDepth 100000 in
theorem sc_end {P : Nat → Bool} {tx : Nat → Nat} {n p : Nat} (h : n ≤ p) : sc P tx n p = p := by
  unfold sc
  rw [show n - p = 0 by omega]
  rfl
/-- kind, start, end of the token that begins at p or later -/
def tok (tx : Nat → Nat) (n p : Nat) : Nat × Nat × Nat :=
  if n ≤ sc isSp tx n p then (0, sc isSp tx n p, sc isSp tx n p)
  else if isLt (tx (sc isSp tx n p)) then (if 60 < sc isLt tx n (sc isSp tx n p) - sc isSp tx n p then 4 else 1, sc isSp tx n p, sc isLt tx n (sc isSp tx n p))
  else if isDg (tx (sc isSp tx n p)) then (if 2 < sc isDg tx n (sc isSp tx n p) - sc isSp tx n p then 4 else 2, sc isSp tx n p, sc isDg tx n (sc isSp tx n p))
  else (if tx (sc isSp tx n p) = 59 then 3 else 4, sc isSp tx n p, sc isSp tx n p + 1)
set_option maxRecDepth 100000 in
theorem tok_le {tx : Nat → Nat} {n p : Nat} (h : p ≤ n) : p ≤ (tok tx n p).2.1 ∧ (tok tx n p).2.1 ≤ (tok tx n p).2.2 ∧ (tok tx n p).2.2 ≤ n ∧ (tok tx n p).1 ≤ 4 ∧ ((tok tx n p).1 ≠ 0 → (tok tx n p).2.1 < (tok tx n p).2.2) ∧ ((tok tx n p).1 = 1 → (tok tx n p).2.2 - (tok tx n p).2.1 ≤ 60) ∧ ((tok tx n p).1 = 2 → (tok tx n p).2.2 - (tok tx n p).2.1 ≤ 2 ∧ ∀ i, (tok tx n p).2.1 ≤ i → i < (tok tx n p).2.2 → isDg (tx i) = true) := by
  obtain ⟨h1, h2, h3⟩ := sc_le isSp tx h
  unfold tok
  split
  · exact ⟨h1, Nat.le_refl _, h2, by omega, fun z => absurd rfl z, fun z => by omega, fun z => by omega⟩
  · rename_i hn
    split
    · rename_i hl
      obtain ⟨k1, k2, k3⟩ := sc_le isLt tx h2
      have k4 : sc isSp tx n p < sc isLt tx n (sc isSp tx n p) := by
        have := sc_step (P := isLt) (tx := tx) (show sc isSp tx n p < n by omega)
        rw [if_pos hl] at this
        have := (sc_le isLt tx (show sc isSp tx n p + 1 ≤ n by omega)).1
        omega
      refine ⟨h1, k1, k2, ?_, fun _ => k4, fun z => ?_, fun z => ?_⟩
      · show (if _ then 4 else 1) ≤ 4
        split <;> omega
      · change (if _ then 4 else 1) = 1 at z
        show sc isLt tx n (sc isSp tx n p) - sc isSp tx n p ≤ 60
        split at z <;> omega
      · change (if _ then 4 else 1) = 2 at z
        split at z <;> omega
    · split
      · rename_i hl
        obtain ⟨k1, k2, k3⟩ := sc_le isDg tx h2
        have k4 : sc isSp tx n p < sc isDg tx n (sc isSp tx n p) := by
          have := sc_step (P := isDg) (tx := tx) (show sc isSp tx n p < n by omega)
          rw [if_pos hl] at this
          have := (sc_le isDg tx (show sc isSp tx n p + 1 ≤ n by omega)).1
          omega
        refine ⟨h1, k1, k2, ?_, fun _ => k4, fun z => ?_, fun z => ?_⟩
        · show (if _ then 4 else 2) ≤ 4
          split <;> omega
        · change (if _ then 4 else 2) = 1 at z
          split at z <;> omega
        · change (if _ then 4 else 2) = 2 at z
          refine ⟨?_, k3⟩
          show sc isDg tx n (sc isSp tx n p) - sc isSp tx n p ≤ 2
          split at z <;> omega
      · refine ⟨h1, Nat.le_succ _, by show _ + 1 ≤ n; omega, ?_, fun _ => Nat.lt_succ_self _, fun z => ?_, fun z => ?_⟩
        · show (if _ then 3 else 4) ≤ 4
          split <;> omega
        · change (if _ then 3 else 4) = 1 at z
          split at z <;> omega
        · change (if _ then 3 else 4) = 2 at z
          split at z <;> omega
/-- the value of the first k digits from s on -/
def nmF (tx : Nat → Nat) (s : Nat) : Nat → Nat
  | 0 => 0
  | k + 1 => 10 * nmF tx s k + (tx (s + k) - 48)
def tnum (tx : Nat → Nat) (t : Nat × Nat × Nat) : Nat := nmF tx t.2.1 (t.2.2 - t.2.1)
def kw (l : List Nat) (tx : Nat → Nat) (t : Nat × Nat × Nat) : Bool := decide (t.1 = 1) && (decide (t.2.2 - t.2.1 = l.length) && (List.range l.length).all (fun i => decide (tx (t.2.1 + i) = l.getD i 0)))
def kwS : List Nat := [115, 101, 116]
def kwJ : List Nat := [106, 111, 105, 110]
def kwR : List Nat := [114, 97, 110, 107]
abbrev PEr : Type := Nat × Nat
def tcds (tx : Nat → Nat) (r : Nat) (t : Nat × Nat × Nat) : List Nat := (List.range (t.2.2 - t.2.1)).map (fun i => (cob (tx (t.2.1 + i)) r).toNat)
def tokl (tx : Nat → Nat) (r : Nat) (t : Nat × Nat × Nat) : Bool := (List.range (t.2.2 - t.2.1)).all (fun i => decide (cob (tx (t.2.1 + i)) r ≠ -1))
/-- one item: 1 or letters -/
def itm1 (tx : Nat → Nat) (r : Nat) (t : Nat × Nat × Nat) (w : List Nat) : PEr ⊕ List Nat :=
  if t.1 = 2 then (if t.2.2 - t.2.1 = 1 ∧ tx t.2.1 = 49 then .inr w else .inl (1, t.2.1))
  else if t.1 ≠ 1 then .inl (1, t.2.1)
  else if tokl tx r t = false then .inl (3, t.2.1)
  else if 60 < (pws w (tcds tx r t)).length then .inl (4, t.2.1)
  else .inr (pws w (tcds tx r t))
/-- items up to a semicolon; t: the token that is to be read -/
def itm (tx : Nat → Nat) (n r : Nat) : Nat → Nat × Nat × Nat → List Nat → PEr ⊕ (List Nat × (Nat × Nat × Nat))
  | 0, _, _ => .inl (1, 0)
  | f + 1, t, w => if t.1 = 3 then .inr (w, t) else match itm1 tx r t w with
    | .inl e => .inl e
    | .inr w' => itm tx n r f (tok tx n t.2.2) w'
def sReg (x : ST) (r : Nat) (w : List Nat) : ST := (sRk x, fun k => if k = r then w else sRg x k, sGw x)
/-- a statement; t: its first token; the state and the token behind it -/
def stmS (tx : Nat → Nat) (n : Nat) (x : ST) (t1 : Nat × Nat × Nat) : PEr ⊕ (ST × (Nat × Nat × Nat)) :=
  if t1.1 ≠ 2 then .inl (1, t1.2.1) else if 7 < tnum tx t1 then .inl (2, t1.2.1)
  else match itm1 tx (sRk x) (tok tx n t1.2.2) [] with
    | .inl e => .inl e
    | .inr w => match itm tx n (sRk x) 700 (tok tx n (tok tx n t1.2.2).2.2) w with
      | .inl e => .inl e
      | .inr (w', t') => .inr (sReg x (tnum tx t1) w', tok tx n t'.2.2)
def stmJ (tx : Nat → Nat) (n : Nat) (x : ST) (t1 : Nat × Nat × Nat) : PEr ⊕ (ST × (Nat × Nat × Nat)) :=
  if t1.1 ≠ 2 then .inl (1, t1.2.1) else if 1 < tnum tx t1 then .inl (2, t1.2.1)
  else if 6 ≤ (sGw x (tnum tx t1)).length then .inl (5, t1.2.1)
  else if (tok tx n t1.2.2).1 ≠ 2 then .inl (1, (tok tx n t1.2.2).2.1) else if 7 < tnum tx (tok tx n t1.2.2) then .inl (2, (tok tx n t1.2.2).2.1)
  else if (tok tx n (tok tx n t1.2.2).2.2).1 ≠ 3 then .inl (1, (tok tx n (tok tx n t1.2.2).2.2).2.1)
  else .inr (sSet x (tnum tx t1) (sGw x (tnum tx t1) ++ [sRg x (tnum tx (tok tx n t1.2.2))]), tok tx n (tok tx n (tok tx n t1.2.2).2.2).2.2)
def stm (tx : Nat → Nat) (n : Nat) (x : ST) (t : Nat × Nat × Nat) : PEr ⊕ (ST × (Nat × Nat × Nat)) :=
  if kw kwS tx t = true then stmS tx n x (tok tx n t.2.2) else if kw kwJ tx t = true then stmJ tx n x (tok tx n t.2.2) else .inl (1, t.2.1)
def prs (tx : Nat → Nat) (n : Nat) : Nat → Nat × Nat × Nat → ST → PEr ⊕ ST
  | 0, _, _ => .inl (1, 0)
  | f + 1, t, x => if t.1 = 0 then .inr x else match stm tx n x t with
    | .inl e => .inl e
    | .inr (x', t') => prs tx n f t' x'
def prRank (tx : Nat → Nat) (n : Nat) : PEr ⊕ (Nat × (Nat × Nat × Nat)) :=
  if kw kwR tx (tok tx n 0) = false then .inl (1, (tok tx n 0).2.1)
  else if (tok tx n (tok tx n 0).2.2).1 ≠ 2 then .inl (1, (tok tx n (tok tx n 0).2.2).2.1)
  else if tnum tx (tok tx n (tok tx n 0).2.2) < 1 ∨ 4 < tnum tx (tok tx n (tok tx n 0).2.2) then .inl (2, (tok tx n (tok tx n 0).2.2).2.1)
  else if (tok tx n (tok tx n (tok tx n 0).2.2).2.2).1 ≠ 3 then .inl (1, (tok tx n (tok tx n (tok tx n 0).2.2).2.2).2.1)
  else .inr (tnum tx (tok tx n (tok tx n 0).2.2), tok tx n (tok tx n (tok tx n (tok tx n 0).2.2).2.2).2.2)
def prAll (tx : Nat → Nat) (n : Nat) : PEr ⊕ ST := match prRank tx n with
  | .inl e => .inl e
  | .inr (r, t) => prs tx n 700 t (r, fun _ => [], fun _ => [])
