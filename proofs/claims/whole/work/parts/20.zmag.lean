/-! Magnus' expansion: the coefficient of the j-th word (0: the empty word; 4 i + 1 + g: the i-th word and the letter g) -/
def mgm (g : Nat) (f : Nat → Int) (j : Nat) : Int := if 1 ≤ j ∧ (j - 1) % 4 = g then f j + f ((j - 1) / 4) else f j
def mgd (g : Nat) (f : Nat → Int) (j : Nat) : Int := if h : 1 ≤ j ∧ (j - 1) % 4 = g then f j - mgd g f ((j - 1) / 4) else f j
termination_by j
decreasing_by omega
set_option maxRecDepth 100000 in
theorem mgd_eq (g : Nat) (f : Nat → Int) (j : Nat) : mgd g f j = if 1 ≤ j ∧ (j - 1) % 4 = g then f j - mgd g f ((j - 1) / 4) else f j := by
  rw [mgd]
  split <;> rfl
def mg1 (f : Nat → Int) (c : Nat) : Nat → Int := if c % 2 = 0 then mgm (c / 2) f else mgd (c / 2) f
def mg0 : Nat → Int := fun j => if j = 0 then 1 else 0
def mgx (l : List Nat) : Nat → Int := l.foldl mg1 mg0
def mdg (j : Nat) : Nat := if h : 1 ≤ j then mdg ((j - 1) / 4) + 1 else 0
termination_by j
decreasing_by omega
set_option maxRecDepth 100000 in
theorem mdg_pos {j : Nat} (h : 1 ≤ j) : mdg j = mdg ((j - 1) / 4) + 1 := by
  rw [mdg, dif_pos h]
set_option maxRecDepth 100000 in
theorem mdg_0 : mdg 0 = 0 := by
  rw [mdg, dif_neg (by omega)]
set_option maxRecDepth 100000 in
theorem mdg_le {j : Nat} (h : j < 341) : mdg j ≤ 4 := by
  have z0 := mdg_0
  have a : ∀ i, i < 5 → mdg i ≤ 1 := fun i hi => by
    rcases Nat.eq_zero_or_pos i with e | e
    · rw [e, z0]; omega
    · rw [mdg_pos e, show (i - 1) / 4 = 0 by omega, z0]; omega
  have b : ∀ i, i < 21 → mdg i ≤ 2 := fun i hi => by
    rcases Nat.eq_zero_or_pos i with e | e
    · rw [e, z0]; omega
    · rw [mdg_pos e]; have := a ((i - 1) / 4) (by omega); omega
  have c : ∀ i, i < 85 → mdg i ≤ 3 := fun i hi => by
    rcases Nat.eq_zero_or_pos i with e | e
    · rw [e, z0]; omega
    · rw [mdg_pos e]; have := b ((i - 1) / 4) (by omega); omega
  rcases Nat.eq_zero_or_pos j with e | e
  · rw [e, z0]; omega
  · rw [mdg_pos e]; have := c ((j - 1) / 4) (by omega); omega
set_option maxRecDepth 100000 in
theorem pow_step (m d : Nat) : m ^ (d + 1) + (m + 1) ^ d ≤ (m + 1) ^ (d + 1) := by
  rw [Nat.pow_succ, Nat.pow_succ, Nat.mul_succ]
  have : m ^ d * m ≤ (m + 1) ^ d * m := Nat.mul_le_mul_right _ (Nat.pow_le_pow_left (by omega) d)
  omega
set_option maxRecDepth 100000 in
theorem mg1_bound {f : Nat → Int} {m : Nat} (h : ∀ j, (f j).natAbs ≤ m ^ mdg j) (c : Nat) : ∀ j, (mg1 f c j).natAbs ≤ (m + 1) ^ mdg j := by
  have mono : ∀ d, m ^ d ≤ (m + 1) ^ d := fun d => Nat.pow_le_pow_left (by omega) d
  have up : ∀ j, (f j).natAbs ≤ (m + 1) ^ mdg j := fun j => Nat.le_trans (h j) (mono _)
  unfold mg1
  split
  · intro j
    unfold mgm
    split
    · rename_i q
      have h1 := h j
      have h2 := up ((j - 1) / 4)
      have h3 := pow_step m (mdg ((j - 1) / 4))
      rw [mdg_pos q.1] at h1 ⊢
      have := Int.natAbs_add_le (f j) (f ((j - 1) / 4))
      omega
    · exact up j
  · intro j
    induction j using Nat.strongRecOn with
    | ind j ih =>
      rw [mgd_eq]
      split
      · rename_i q
        have h1 := h j
        have h2 := ih ((j - 1) / 4) (by omega)
        have h3 := pow_step m (mdg ((j - 1) / 4))
        rw [mdg_pos q.1] at h1 ⊢
        have := Int.natAbs_sub_le (f j) (mgd (c / 2) f ((j - 1) / 4))
        omega
      · exact up j
set_option maxRecDepth 100000 in
theorem mgx_app (l : List Nat) (c : Nat) : mgx (l ++ [c]) = mg1 (mgx l) c := by
  unfold mgx
  rw [List.foldl_append]
  rfl
set_option maxRecDepth 100000 in
theorem mgx_bound : ∀ (l : List Nat) (j : Nat), (mgx l j).natAbs ≤ (l.length + 1) ^ mdg j := by
  intro l
  have : ∀ (xs : List Nat) (f : Nat → Int) (m : Nat), (∀ j, (f j).natAbs ≤ m ^ mdg j) → ∀ j, ((xs.foldl mg1 f) j).natAbs ≤ (m + xs.length) ^ mdg j := by
    intro xs
    induction xs with
    | nil => exact fun f m h j => h j
    | cons c xs ih =>
      intro f m h j
      have := ih (mg1 f c) (m + 1) (mg1_bound h c) j
      rw [List.foldl_cons, List.length_cons, show m + (xs.length + 1) = m + 1 + xs.length by omega]
      exact this
  intro j
  have h := this l mg0 1 (fun j => by
    unfold mg0
    split
    · have := Nat.one_le_pow (mdg j) 1 (by omega); omega
    · have := Nat.one_le_pow (mdg j) 1 (by omega); omega) j
  rw [Nat.add_comm] at h
  exact h
set_option maxRecDepth 100000 in
theorem mgx_in {l : List Nat} (h : l.length ≤ 60) {j : Nat} (hj : j < 341) : (mgx l j).natAbs ≤ 13845841 := by
  refine Nat.le_trans (mgx_bound l j) (Nat.le_trans (Nat.pow_le_pow_left (show l.length + 1 ≤ 61 by omega) _) ?_)
  exact Nat.le_trans (Nat.pow_le_pow_right (by omega) (mdg_le hj)) (by decide)
/-- where the words of a degree begin, how many they are -/
def mp4 : Nat → Nat
  | 0 => 1
  | d + 1 => mp4 d * 4
def mof : Nat → Nat
  | 0 => 0
  | d + 1 => mof d + mp4 d
set_option maxRecDepth 100000 in
theorem mof_le : ∀ d, d < 5 → mof d ≤ 85 ∧ mp4 d ≤ 256 ∧ mof d + mp4 d ≤ 341 := by decide
set_option maxRecDepth 100000 in
theorem mof_s : ∀ d, d < 5 → mof (d + 1) = 4 * mof d + 1 := by decide
/-- the sum of n coefficients from a on, without signs -/
def mnr (f : Nat → Int) (a : Nat) : Nat → Nat
  | 0 => 0
  | n + 1 => mnr f a n + (f (a + n)).natAbs
def mnm (l : List Nat) (d : Nat) : Nat := mnr (mgx l) (mof d) (mp4 d)
