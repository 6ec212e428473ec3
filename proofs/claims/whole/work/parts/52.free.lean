/-! reduced words: the free group -/
set_option maxRecDepth 100000 in
theorem xx1 (x : Nat) : (x ^^^ 1) ^^^ 1 = x := by rw [Nat.xor_assoc, Nat.xor_self, Nat.xor_zero]
def red (l : List Nat) : Prop := ∀ i, i + 1 < l.length → l.getD i 0 ≠ l.getD (i + 1) 0 ^^^ 1
set_option maxRecDepth 100000 in
theorem red_nil : red [] := fun i h => absurd h (by show ¬ (i + 1 < 0); omega)
set_option maxRecDepth 100000 in
theorem gD_app1 {a b : List Nat} {i : Nat} (h : i < a.length) : (a ++ b).getD i 0 = a.getD i 0 := by
  rw [List.getD_eq_getElem?_getD, List.getD_eq_getElem?_getD, List.getElem?_append_left h]
set_option maxRecDepth 100000 in
theorem gD_app2 {a b : List Nat} {i : Nat} (h : a.length ≤ i) : (a ++ b).getD i 0 = b.getD (i - a.length) 0 := by
  rw [List.getD_eq_getElem?_getD, List.getD_eq_getElem?_getD, List.getElem?_append_right h]
set_option maxRecDepth 100000 in
theorem red_app {a b : List Nat} (ha : red a) (hb : red b) (h : 0 < a.length → 0 < b.length → a.getD (a.length - 1) 0 ≠ b.getD 0 0 ^^^ 1) : red (a ++ b) := by
  intro i hi
  rw [List.length_append] at hi
  rcases Nat.lt_trichotomy (i + 1) a.length with q | q | q
  · rw [gD_app1 (by omega), gD_app1 q]; exact ha i q
  · rw [gD_app1 (by omega), gD_app2 (by omega), show i = a.length - 1 by omega, show a.length - 1 + 1 - a.length = 0 by omega]
    exact h (by omega) (by omega)
  · rw [gD_app2 (by omega), gD_app2 (by omega), show i + 1 - a.length = i - a.length + 1 by omega]
    exact hb _ (by omega)
set_option maxRecDepth 100000 in
theorem red_l {a b : List Nat} (h : red (a ++ b)) : red a := by
  intro i hi
  have := h i (by rw [List.length_append]; omega)
  rw [gD_app1 (by omega), gD_app1 hi] at this
  exact this
set_option maxRecDepth 100000 in
theorem red_r {a b : List Nat} (h : red (a ++ b)) : red b := by
  intro i hi
  have := h (a.length + i) (by rw [List.length_append]; omega)
  rw [gD_app2 (by omega), gD_app2 (by omega), show a.length + i - a.length = i by omega, show a.length + i + 1 - a.length = i + 1 by omega] at this
  exact this
set_option maxRecDepth 100000 in
theorem red_take {l : List Nat} (h : red l) (n : Nat) : red (l.take n) := red_l (b := l.drop n) (by rw [List.take_append_drop]; exact h)
set_option maxRecDepth 100000 in
theorem red_drop {l : List Nat} (h : red l) (n : Nat) : red (l.drop n) := red_r (a := l.take n) (by rw [List.take_append_drop]; exact h)
set_option maxRecDepth 100000 in
theorem red_1 (x : Nat) : red [x] := fun i hi => absurd hi (by show ¬ (i + 1 < 1); omega)
set_option maxRecDepth 100000 in
theorem last_iff {l : List Nat} {x : Nat} : l.getLast? = some x ↔ 0 < l.length ∧ l.getD (l.length - 1) 0 = x := by
  constructor
  · intro h
    have hp : 0 < l.length := by
      rcases Nat.eq_zero_or_pos l.length with e | e
      · rw [List.eq_nil_of_length_eq_zero e] at h; cases h
      · exact e
    rw [getD_last hp] at h
    exact ⟨hp, Option.some.inj h⟩
  · rintro ⟨h1, h2⟩
    rw [getD_last h1, h2]
set_option maxRecDepth 100000 in
theorem pw_y {l : List Nat} {x : Nat} (h : l.getLast? = some (x ^^^ 1)) : pw l x = l.dropLast := if_pos h
set_option maxRecDepth 100000 in
theorem pw_n {l : List Nat} {x : Nat} (h : ¬ l.getLast? = some (x ^^^ 1)) : pw l x = l ++ [x] := if_neg h
set_option maxRecDepth 100000 in
theorem red_pw {l : List Nat} (h : red l) (x : Nat) : red (pw l x) := by
  by_cases q : l.getLast? = some (x ^^^ 1)
  · rw [pw_y q, List.dropLast_eq_take]; exact red_take h _
  · rw [pw_n q]
    refine red_app h (red_1 x) (fun h1 _ e => q (last_iff.mpr ⟨h1, e⟩))
set_option maxRecDepth 100000 in
theorem red_pws : ∀ (w : List Nat) {l : List Nat}, red l → red (pws l w) := by
  intro w
  induction w with
  | nil => exact fun h => h
  | cons x w ih => exact fun h => ih (red_pw h x)
set_option maxRecDepth 100000 in
theorem drop_last {l : List Nat} {x : Nat} (h : l.getLast? = some x) : l.dropLast ++ [x] = l := by
  obtain ⟨h1, h2⟩ := last_iff.mp h
  have e : l = l.take (l.length - 1) ++ [l.getD (l.length - 1) 0] := by
    rw [← take_s (by omega), show l.length - 1 + 1 = l.length by omega, List.take_length]
  rw [List.dropLast_eq_take, ← h2]
  exact e.symm
set_option maxRecDepth 100000 in
theorem pw_pw {l : List Nat} (h : red l) (x : Nat) : pw (pw l x) (x ^^^ 1) = l := by
  by_cases q : l.getLast? = some (x ^^^ 1)
  · rw [pw_y q]
    have key : ∀ d : List Nat, d ++ [x ^^^ 1] = l → d.getLast? = some x → False := by
      intro d e z
      obtain ⟨z1, z2⟩ := last_iff.mp z
      have := h (d.length - 1) (by rw [← e, List.length_append]; show d.length - 1 + 1 < d.length + 1; omega)
      rw [← e, gD_app1 (by omega), gD_app2 (by omega), z2, show d.length - 1 + 1 - d.length = 0 by omega] at this
      exact this (xx1 x).symm
    have e := drop_last q
    rw [pw_n]
    · exact e
    · intro z
      rw [xx1] at z
      exact key _ e z
  · rw [pw_n q, pw_y (by rw [xx1]; simp)]
    simp
set_option maxRecDepth 100000 in
theorem pw_pw' {l : List Nat} (h : red l) (x : Nat) : pw (pw l (x ^^^ 1)) x = l := by
  have := pw_pw h (x ^^^ 1)
  rw [xx1] at this
  exact this
set_option maxRecDepth 100000 in
theorem pws_red : ∀ (w l : List Nat), red (l ++ w) → pws l w = l ++ w := by
  intro w
  induction w with
  | nil => exact fun l _ => (List.append_nil l).symm
  | cons x w ih =>
    intro l h
    have q : ¬ l.getLast? = some (x ^^^ 1) := by
      intro z
      obtain ⟨z1, z2⟩ := last_iff.mp z
      have := h (l.length - 1) (by rw [List.length_append, List.length_cons]; omega)
      rw [gD_app1 (by omega), gD_app2 (by omega), z2, show l.length - 1 + 1 - l.length = 0 by omega] at this
      exact this rfl
    rw [pws_cons, pw_n q, ih _ (by rw [List.append_assoc]; exact h), List.append_assoc]
    rfl
set_option maxRecDepth 100000 in
theorem pws_r {w : List Nat} (h : red w) : pws [] w = w := pws_red w [] h
set_option maxRecDepth 100000 in
theorem pws_pw {l : List Nat} (h : red l) (m : List Nat) (x : Nat) : pws l (pw m x) = pw (pws l m) x := by
  by_cases q : m.getLast? = some (x ^^^ 1)
  · rw [pw_y q]
    have e := drop_last q
    have e2 : pws l m = pw (pws l m.dropLast) (x ^^^ 1) := by
      rw [← e, pws_app]
      simp [pws]
    rw [e2, pw_pw' (red_pws _ h)]
  · rw [pw_n q, pws_app]
    rfl
set_option maxRecDepth 100000 in
theorem pws_pws : ∀ (w : List Nat) {l : List Nat} (m : List Nat), red l → pws l (pws m w) = pws (pws l m) w := by
  intro w
  induction w with
  | nil => exact fun m _ => rfl
  | cons x w ih =>
    intro l m h
    rw [pws_cons, ih _ h, pws_pw h, pws_cons]
set_option maxRecDepth 100000 in
theorem pws_n {l : List Nat} (h : red l) (w : List Nat) : pws l (pws [] w) = pws l w := pws_pws w [] h
set_option maxRecDepth 100000 in
theorem invw_cons (x : Nat) (w : List Nat) : invw (x :: w) = invw w ++ [x ^^^ 1] := by simp [invw]
set_option maxRecDepth 100000 in
theorem invw_invw (w : List Nat) : invw (invw w) = w := by
  unfold invw
  rw [List.map_reverse, List.reverse_reverse, List.map_map]
  have : ((fun y => y ^^^ 1) ∘ fun y => y ^^^ 1) = (id : Nat → Nat) := funext fun y => xx1 y
  rw [this, List.map_id]
set_option maxRecDepth 100000 in
theorem pws_inv : ∀ (w : List Nat) {l : List Nat}, red l → pws (pws l w) (invw w) = l := by
  intro w
  induction w with
  | nil => exact fun h => rfl
  | cons x w ih =>
    intro l h
    rw [invw_cons, pws_app]
    show pw (pws (pws (pw l x) w) (invw w)) (x ^^^ 1) = l
    rw [ih (red_pw h x)]
    exact pw_pw h x
set_option maxRecDepth 100000 in
theorem pws_inv' (w : List Nat) {l : List Nat} (h : red l) : pws (pws l (invw w)) w = l := by
  have := pws_inv (invw w) h
  rw [invw_invw] at this
  exact this
set_option maxRecDepth 100000 in
/-- words commute where their commutator is empty -/
theorem comw_iff {r s : List Nat} (hr : red r) (hs : red s) : comw r s = [] ↔ pws r s = pws s r := by
  have hu : red (pws (pws [] (invw r)) (invw s)) := red_pws _ (red_pws _ red_nil)
  constructor
  · intro h
    have hA : red (pws s r) := red_pws _ hs
    have e : pws (pws s r) (comw r s) = pws r s := by
      unfold comw
      rw [pws_pws _ _ hA, pws_pws _ _ hA, pws_pws _ _ hA, pws_pws _ _ hA, pws_nil, pws_inv r hs]
      have e2 : pws s (invw s) = [] := by
        have := pws_inv s red_nil
        rw [pws_r hs] at this
        exact this
      rw [e2, pws_r hr]
    rw [h, pws_nil] at e
    exact e.symm
  · intro h
    show pws (pws (pws (pws [] (invw r)) (invw s)) r) s = []
    rw [← pws_pws s r hu, h, pws_pws r s hu, pws_inv' s (red_pws _ red_nil), pws_inv' r red_nil]
set_option maxRecDepth 100000 in
theorem cncF_sp {l m : List Nat} : ∀ n i, i ≤ cncF l m n i ∧ cncF l m n i ≤ i + n ∧ (∀ j, i ≤ j → j < cncF l m n i → l.getD (l.length - 1 - j) 0 = m.getD j 0 ^^^ 1) ∧ (cncF l m n i < i + n → l.getD (l.length - 1 - cncF l m n i) 0 ≠ m.getD (cncF l m n i) 0 ^^^ 1) := by
  intro n
  induction n with
  | zero => exact fun i => ⟨Nat.le_refl _, Nat.le_refl _, fun j h1 h2 => absurd h2 (by show ¬ (j < i); omega), fun h => absurd h (by show ¬ (i < i + 0); omega)⟩
  | succ n ih =>
    intro i
    have e : cncF l m (n + 1) i = if l.getD (l.length - 1 - i) 0 = m.getD i 0 ^^^ 1 then cncF l m n (i + 1) else i := rfl
    rw [e]
    by_cases q : l.getD (l.length - 1 - i) 0 = m.getD i 0 ^^^ 1
    · rw [if_pos q]
      obtain ⟨a1, a2, a3, a4⟩ := ih (i + 1)
      refine ⟨by omega, by omega, fun j h1 h2 => ?_, fun h => a4 (by omega)⟩
      by_cases e : j = i
      · rw [e]; exact q
      · exact a3 j (by omega) h2
    · rw [if_neg q]
      exact ⟨Nat.le_refl _, by omega, fun j h1 h2 => absurd h2 (by omega), fun _ => q⟩
set_option maxRecDepth 100000 in
/-- the product of reduced words: what cancels is left out -/
theorem pws_cnc {l m : List Nat} (hl : red l) (hm : red m) : pws l m = l.take (l.length - cnc l m) ++ m.drop (cnc l m) := by
  obtain ⟨a1, a2, a3, a4⟩ := cncF_sp (l := l) (m := m) (min l.length m.length) 0
  change _ ≤ cnc l m at a1
  change cnc l m ≤ _ at a2
  change ∀ j, 0 ≤ j → j < cnc l m → _ at a3
  change cnc l m < _ → l.getD (l.length - 1 - cnc l m) 0 ≠ m.getD (cnc l m) 0 ^^^ 1 at a4
  have key : ∀ i, i ≤ cnc l m → pws l (m.take i) = l.take (l.length - i) := by
    intro i
    induction i with
    | zero => intro _; rw [List.take_zero, pws_nil, Nat.sub_zero, List.take_length]
    | succ i ih =>
      intro hi
      rw [take_s (by omega), pws_app, ih (by omega)]
      show pw (l.take (l.length - i)) (m.getD i 0) = _
      rw [pw_y, List.dropLast_eq_take, List.length_take, List.take_take]
      · congr 1
        omega
      · rw [last_iff, List.length_take]
        refine ⟨by omega, ?_⟩
        rw [getD_take (by omega), show min (l.length - i) l.length - 1 = l.length - 1 - i by omega]
        exact a3 i (by omega) (by omega)
  have e : pws l m = pws (pws l (m.take (cnc l m))) (m.drop (cnc l m)) := by
    rw [← pws_app, List.take_append_drop]
  rw [e, key _ (Nat.le_refl _)]
  refine pws_red _ _ (red_app (red_take hl _) (red_drop hm _) (fun h1 h2 => ?_))
  rw [List.length_take] at h1
  rw [List.length_drop] at h2
  rw [List.length_take, getD_take (by omega), show min (l.length - cnc l m) l.length - 1 = l.length - 1 - cnc l m by omega]
  have : (m.drop (cnc l m)).getD 0 0 = m.getD (cnc l m) 0 := by
    rw [List.getD_eq_getElem?_getD, List.getD_eq_getElem?_getD, List.getElem?_drop, Nat.add_zero]
  rw [this]
  exact a4 (by omega)
set_option maxRecDepth 100000 in
theorem pws_cnc_len {l m : List Nat} (hl : red l) (hm : red m) : (pws l m).length + 2 * cnc l m = l.length + m.length := by
  have := cnc_le l m
  rw [pws_cnc hl hm, List.length_append, List.length_take, List.length_drop]
  omega
set_option maxRecDepth 100000 in
theorem csF_sp {l : List Nat} : ∀ f n j, n ≤ j → j < csF l f n → 2 * j + 2 ≤ l.length ∧ l.getD j 0 = l.getD (l.length - 1 - j) 0 ^^^ 1 := by
  intro f
  induction f with
  | zero => exact fun n j h1 h2 => absurd h2 (by show ¬ (j < n); omega)
  | succ f ih =>
    intro n j h1 h2
    change j < (if 2 * n + 2 ≤ l.length ∧ l.getD n 0 = l.getD (l.length - 1 - n) 0 ^^^ 1 then csF l f (n + 1) else n) at h2
    by_cases q : 2 * n + 2 ≤ l.length ∧ l.getD n 0 = l.getD (l.length - 1 - n) 0 ^^^ 1
    · rw [if_pos q] at h2
      by_cases e : j = n
      · rw [e]; exact q
      · exact ih (n + 1) j (by omega) h2
    · rw [if_neg q] at h2
      omega
set_option maxRecDepth 100000 in
theorem crl_pos {l : List Nat} (h : red l) (hl : l ≠ []) : 1 ≤ crl l := by
  have hp : 0 < l.length := by
    rcases Nat.eq_zero_or_pos l.length with e | e
    · exact absurd (List.eq_nil_of_length_eq_zero e) hl
    · exact e
  have hc := cs_le l
  have e : crl l = l.length - 2 * cs l := rfl
  apply Classical.byContradiction
  intro z
  have h2 : l.length = 2 * cs l := by omega
  obtain ⟨-, k⟩ := csF_sp (l := l) l.length 0 (cs l - 1) (by omega) (by show cs l - 1 < cs l; omega)
  have := h (cs l - 1) (by omega)
  rw [show l.length - 1 - (cs l - 1) = cs l - 1 + 1 by omega] at k
  exact this k
set_option maxRecDepth 100000 in
/-- letters of a kind -/
theorem pw_all {p : Nat → Prop} {l : List Nat} {x : Nat} (hl : ∀ c ∈ l, p c) (hx : p x) : ∀ c ∈ pw l x, p c := by
  intro c hc
  by_cases q : l.getLast? = some (x ^^^ 1)
  · rw [pw_y q] at hc
    exact hl c ((List.dropLast_sublist l).subset hc)
  · rw [pw_n q] at hc
    rcases List.mem_append.mp hc with h | h
    · exact hl c h
    · rw [List.mem_singleton.mp h]; exact hx
set_option maxRecDepth 100000 in
theorem pws_all {p : Nat → Prop} : ∀ (w : List Nat) {l : List Nat}, (∀ c ∈ l, p c) → (∀ c ∈ w, p c) → ∀ c ∈ pws l w, p c := by
  intro w
  induction w with
  | nil => exact fun h _ => h
  | cons x w ih => exact fun h hw => ih (pw_all h (hw x List.mem_cons_self)) (fun c hc => hw c (List.mem_cons_of_mem _ hc))
set_option maxRecDepth 100000 in
theorem x1k : ∀ c, c < 8 → ∀ k, k < 5 → c < 2 * k → c ^^^ 1 < 2 * k := by decide
/-- a word that a register may hold -/
def WO (k : Nat) (l : List Nat) : Prop := red l ∧ l.length ≤ 60 ∧ ∀ c ∈ l, c < 2 * k
def SO (t : ST) : Prop := (1 ≤ sRk t ∧ sRk t ≤ 4) ∧ (∀ r, r < 8 → WO (sRk t) (sRg t r)) ∧ ∀ g, g < 2 → (sGw t g).length ≤ 6 ∧ ∀ w ∈ sGw t g, WO (sRk t) w
def AO (A : AA) : Prop := SO (aSt A) ∧ (∀ t ∈ aHi A, SO t) ∧ (∀ t, aSv A = some t → SO t) ∧ ∀ b ∈ aIn A, b < 256
set_option maxRecDepth 100000 in
theorem invw_all {k : Nat} (hk : k ≤ 4) {l : List Nat} (h : ∀ c ∈ l, c < 2 * k) : ∀ c ∈ invw l, c < 2 * k := by
  intro c hc
  simp only [invw, List.mem_reverse, List.mem_map] at hc
  obtain ⟨z, hz, rfl⟩ := hc
  have := h z hz
  exact x1k z (by omega) k (by omega) this
