/-! graphs with numbered vertices: how many vertices, where a letter leads (-1: nowhere), whence a vertex was reached first and by which letter, how far it is -/
abbrev GT : Type := Nat × (Nat → Nat → Int) × (Nat → Nat) × (Nat → Nat) × (Nat → Nat)
def gV (G : GT) : Nat := G.1
def gt (G : GT) : Nat → Nat → Int := G.2.1
def gpa (G : GT) : Nat → Nat := G.2.2.1
def gpc (G : GT) : Nat → Nat := G.2.2.2.1
def gde (G : GT) : Nat → Nat := G.2.2.2.2
/-- an edge number is 4 v + c / 2 -/
def gE (G : GT) : Nat := ((List.range (4 * gV G)).filter (fun e => decide (gt G (e / 4) (2 * (e % 4)) ≠ -1))).length
def GOK (G : GT) : Prop := 1 ≤ gV G ∧ gV G ≤ 355 ∧ (∀ v c, v < gV G → c < 8 → -1 ≤ gt G v c ∧ gt G v c < gV G) ∧ (∀ v c w : Nat, v < gV G → c < 8 → gt G v c = (w : Int) → gt G w (c ^^^ 1) = (v : Int)) ∧ (∀ v, 1 ≤ v → v < gV G → gpa G v < v ∧ gpc G v < 8 ∧ gt G (gpa G v) (gpc G v) = (v : Int) ∧ gde G v = gde G (gpa G v) + 1) ∧ gde G 0 = 0
set_option maxRecDepth 100000 in
theorem gde_pos {G : GT} (h : GOK G) {v : Nat} (hv : v < gV G) (hd : 0 < gde G v) : 1 ≤ v := by
  rcases Nat.eq_zero_or_pos v with e | e
  · rw [e, h.2.2.2.2.2] at hd; exact absurd hd (by omega)
  · exact e
set_option maxRecDepth 100000 in
theorem gde_le {G : GT} (h : GOK G) : ∀ v, v < gV G → gde G v ≤ v := by
  intro v
  induction v using Nat.strongRecOn with
  | ind v ih =>
    intro hv
    rcases Nat.eq_zero_or_pos v with e | e
    · rw [e, h.2.2.2.2.2]; exact Nat.le_refl _
    · obtain ⟨h1, h2, h3, h4⟩ := h.2.2.2.2.1 v e hv
      have := ih _ h1 (by omega)
      omega
def gst (G : GT) (a : Int) (c : Nat) : Int := if a = -1 then -1 else gt G a.toNat c
def gtr (G : GT) (a : Int) (l : List Nat) : Int := l.foldl (gst G) a
set_option maxRecDepth 100000 in
theorem gtr_cons (G : GT) (a : Int) (c : Nat) (l : List Nat) : gtr G a (c :: l) = gtr G (gst G a c) l := rfl
set_option maxRecDepth 100000 in
theorem gtr_nil (G : GT) (a : Int) : gtr G a [] = a := rfl
set_option maxRecDepth 100000 in
theorem gtr_none (G : GT) : ∀ l, gtr G (-1) l = -1 := by
  intro l
  induction l with
  | nil => rfl
  | cons c l ih => exact ih
set_option maxRecDepth 100000 in
theorem gtr_app (G : GT) (a : Int) (l m : List Nat) : gtr G a (l ++ m) = gtr G (gtr G a l) m := List.foldl_append
def gin (G : GT) (a : Int) : Prop := -1 ≤ a ∧ a < gV G
set_option maxRecDepth 100000 in
theorem gst_in {G : GT} (h : GOK G) {a : Int} (ha : gin G a) {c : Nat} (hc : c < 8) : gin G (gst G a c) := by
  unfold gst
  split
  · exact ⟨by omega, by have := h.1; omega⟩
  · unfold gin at ha
    exact h.2.2.1 _ _ (by omega) hc
set_option maxRecDepth 100000 in
theorem gtr_in {G : GT} (h : GOK G) : ∀ {l : List Nat} {a : Int}, gin G a → lt8 l → gin G (gtr G a l) := by
  intro l
  induction l with
  | nil => exact fun ha _ => ha
  | cons c l ih => exact fun ha hl => ih (gst_in h ha (hl c List.mem_cons_self)) (fun y hy => hl y (List.mem_cons_of_mem _ hy))
/-- the first k such that the core read k times leads back -/
def scpF (G : GT) (core : List Nat) (st : Int) : Nat → Nat → Int → Int
  | 0, _, _ => -1
  | n + 1, k, a => if a = -1 then -1 else if gtr G a core = st then (k : Int) else scpF G core st n (k + 1) (gtr G a core)
def scp (G : GT) (l : List Nat) : Int := scpF G ((l.take (l.length - cs l)).drop (cs l)) (gtr G 0 (l.take (cs l))) (gV G) 1 (gtr G 0 (l.take (cs l)))
def gcomp (G : GT) (r : Nat) : Prop := ∀ v c, v < gV G → c < 2 * r → gt G v c ≠ -1
/-- the letters of the way back from v, n steps -/
def wayb (G : GT) : Nat → Nat → List Nat
  | 0, _ => []
  | n + 1, v => (gpc G v ^^^ 1) :: wayb G n (gpa G v)
def gtree (G : GT) (v c : Nat) : Bool := (decide (0 < gt G v c) && decide (gpa G (gt G v c).toNat = v) && decide (gpc G (gt G v c).toNat = c)) || (decide (0 < v) && decide ((gpa G v : Int) = gt G v c) && decide (gpc G v = c ^^^ 1))
set_option maxRecDepth 100000 in
theorem gtree_iff {G : GT} {v c : Nat} : gtree G v c = true ↔ (0 < gt G v c ∧ gpa G (gt G v c).toNat = v ∧ gpc G (gt G v c).toNat = c) ∨ (0 < v ∧ (gpa G v : Int) = gt G v c ∧ gpc G v = c ^^^ 1) := by
  unfold gtree
  simp only [Bool.or_eq_true, Bool.and_eq_true, decide_eq_true_eq, and_assoc]
/-- the edges left, the first n edge numbers -/
def reml (G : GT) (n : Nat) : List Nat := (List.range n).filter (fun e => decide (gt G (e / 4) (2 * (e % 4)) ≠ -1 ∧ gtree G (e / 4) (2 * (e % 4)) = false))
set_option maxRecDepth 100000 in
theorem reml_succ (G : GT) (n : Nat) : reml G (n + 1) = reml G n ++ if gt G (n / 4) (2 * (n % 4)) ≠ -1 ∧ gtree G (n / 4) (2 * (n % 4)) = false then [n] else [] := by
  unfold reml
  rw [List.range_succ, List.filter_append]
  congr 1
  simp only [List.filter_cons, List.filter_nil]
  by_cases h : gt G (n / 4) (2 * (n % 4)) ≠ -1 ∧ gtree G (n / 4) (2 * (n % 4)) = false
  · rw [if_pos h, if_pos (by rw [decide_eq_true_iff]; exact h)]
  · rw [if_neg h, if_neg (by rw [decide_eq_true_iff]; exact h)]
