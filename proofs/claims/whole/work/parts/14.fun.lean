/-! letters, words, what a method leaves alone -/
/-- nothing changed but numbers at the places P -/
def Md (σ σ' : HS) (P : Nat → Prop) : Prop := zK σ' = zK σ ∧ zP σ' = zP σ ∧ zN σ' = zN σ ∧ ∀ a, ¬ P a → zO σ' a = zO σ a ∧ zI σ' a = zI σ a ∧ zJ σ' a = zJ σ a
set_option maxRecDepth 100000 in
theorem Md.K {σ σ' : HS} {P : Nat → Prop} (m : Md σ σ' P) : zK σ' = zK σ := m.1
set_option maxRecDepth 100000 in
theorem Md.P {σ σ' : HS} {P : Nat → Prop} (m : Md σ σ' P) : zP σ' = zP σ := m.2.1
set_option maxRecDepth 100000 in
theorem Md.N {σ σ' : HS} {P : Nat → Prop} (m : Md σ σ' P) : zN σ' = zN σ := m.2.2.1
set_option maxRecDepth 100000 in
theorem Md.o {σ σ' : HS} {P : Nat → Prop} (m : Md σ σ' P) {a : Nat} (h : ¬ P a) : zO σ' a = zO σ a := (m.2.2.2 a h).1
set_option maxRecDepth 100000 in
theorem Md.i {σ σ' : HS} {P : Nat → Prop} (m : Md σ σ' P) {a : Nat} (h : ¬ P a) : zI σ' a = zI σ a := (m.2.2.2 a h).2.1
set_option maxRecDepth 100000 in
theorem Md.j {σ σ' : HS} {P : Nat → Prop} (m : Md σ σ' P) {a : Nat} (h : ¬ P a) : zJ σ' a = zJ σ a := (m.2.2.2 a h).2.2
set_option maxRecDepth 100000 in
theorem Md.rf {σ : HS} {P : Nat → Prop} : Md σ σ P := ⟨rfl, rfl, rfl, fun _ _ => ⟨rfl, rfl, rfl⟩⟩
set_option maxRecDepth 100000 in
theorem Md.tr {σ σ' σ'' : HS} {P P' : Nat → Prop} (h : Md σ σ' P) (h' : Md σ' σ'' P') (hp : ∀ a, P' a → P a) : Md σ σ'' P :=
  ⟨h'.K.trans h.K, h'.P.trans h.P, h'.N.trans h.N, fun a ha => ⟨(h'.o (fun q => ha (hp a q))).trans (h.o ha), (h'.i (fun q => ha (hp a q))).trans (h.i ha), (h'.j (fun q => ha (hp a q))).trans (h.j ha)⟩⟩
set_option maxRecDepth 100000 in
theorem Md.wk {σ σ' : HS} {P P' : Nat → Prop} (h : Md σ σ' P) (hp : ∀ a, P a → P' a) : Md σ σ' P' := Md.rf.tr h hp
set_option maxRecDepth 100000 in
theorem Md.O {σ : HS} {a k : Nat} {x : Int} {P : Nat → Prop} (h : P a) : Md σ (sO σ a k x) P :=
  ⟨rfl, rfl, rfl, fun b hb => ⟨funext fun j => zO_sOa σ k j x (fun q => hb (q ▸ h)), rfl, rfl⟩⟩
set_option maxRecDepth 100000 in
theorem Md.I {σ : HS} {a k : Nat} {x : Int} {P : Nat → Prop} (h : P a) : Md σ (sI σ a k x) P :=
  ⟨rfl, rfl, rfl, fun b hb => ⟨rfl, funext fun j => zI_sIa σ k j x (fun q => hb (q ▸ h)), rfl⟩⟩
set_option maxRecDepth 100000 in
theorem Md.J {σ : HS} {a k : Nat} {x : Int} {P : Nat → Prop} (h : P a) : Md σ (sJ σ a k x) P :=
  ⟨rfl, rfl, rfl, fun b hb => ⟨rfl, rfl, funext fun j => zJ_sJa σ k j x (fun q => hb (q ▸ h))⟩⟩
set_option maxRecDepth 100000 in
theorem Md.Ir {σ : HS} {a : Nat} {f : Nat → Int} {P : Nat → Prop} (h : P a) : Md σ (sIr σ a f) P :=
  ⟨rfl, rfl, rfl, fun b hb => ⟨rfl, funext fun j => by rw [zI_sIr, if_neg (fun q : b = a => hb (q ▸ h))], rfl⟩⟩
set_option maxRecDepth 100000 in
theorem zix {f : Nat → Int} {i j : Nat} {v : Int} (e : i = j) (h : f j = v) : f i = v := by rw [e]; exact h
/-- a letter is put at a word's end -/
def pw (l : List Nat) (x : Nat) : List Nat := if l.getLast? = some (x ^^^ 1) then l.dropLast else l ++ [x]
def pws (l xs : List Nat) : List Nat := xs.foldl pw l
def invw (l : List Nat) : List Nat := (l.map (fun y => y ^^^ 1)).reverse
def lt8 (l : List Nat) : Prop := ∀ y ∈ l, y < 8
set_option maxRecDepth 100000 in
theorem x1_lt {x : Nat} (h : x < 8) : x ^^^ 1 < 8 := by
  have : ∀ x, x < 8 → x ^^^ 1 < 8 := by decide
  exact this x h
set_option maxRecDepth 100000 in
theorem pw_lt {l : List Nat} {x : Nat} (hl : lt8 l) (hx : x < 8) : lt8 (pw l x) := by
  intro y hy
  unfold pw at hy
  split at hy
  · exact hl y ((List.dropLast_sublist l).subset hy)
  · rcases List.mem_append.mp hy with h | h
    · exact hl y h
    · rw [List.mem_singleton.mp h]; exact hx
set_option maxRecDepth 100000 in
theorem pw_len (l : List Nat) (x : Nat) : (pw l x).length ≤ l.length + 1 := by
  unfold pw
  split
  · rw [List.length_dropLast]; omega
  · simp
set_option maxRecDepth 100000 in
theorem pws_cons (l xs : List Nat) (x : Nat) : pws l (x :: xs) = pws (pw l x) xs := rfl
set_option maxRecDepth 100000 in
theorem pws_nil (l : List Nat) : pws l [] = l := rfl
set_option maxRecDepth 100000 in
theorem pws_app (l xs ys : List Nat) : pws l (xs ++ ys) = pws (pws l xs) ys := List.foldl_append
set_option maxRecDepth 100000 in
theorem pws_len (xs : List Nat) : ∀ l : List Nat, (pws l xs).length ≤ l.length + xs.length := by
  induction xs with
  | nil => intro l; simp [pws]
  | cons x xs ih =>
    intro l
    rw [pws_cons]
    have := ih (pw l x)
    have := pw_len l x
    simp only [List.length_cons]
    omega
set_option maxRecDepth 100000 in
theorem pws_lt {xs : List Nat} (hx : lt8 xs) : ∀ {l : List Nat}, lt8 l → lt8 (pws l xs) := by
  induction xs with
  | nil => intro l h; exact h
  | cons x xs ih => exact fun {l} h => ih (fun y hy => hx y (List.mem_cons_of_mem _ hy)) (pw_lt h (hx x List.mem_cons_self))
set_option maxRecDepth 100000 in
theorem getD_last {l : List Nat} (h : 0 < l.length) : l.getLast? = some (l.getD (l.length - 1) 0) := by
  rw [List.getLast?_eq_getElem?, List.getD_eq_getElem?_getD, List.getElem?_eq_getElem (by omega)]
  rfl
set_option maxRecDepth 100000 in
theorem getD_lt {l : List Nat} (h : lt8 l) {i : Nat} (hi : i < l.length) : l.getD i 0 < 8 := by
  apply h
  rw [List.getD_eq_getElem?_getD, List.getElem?_eq_getElem hi]
  exact List.getElem_mem _
set_option maxRecDepth 100000 in
theorem drop_cons {l : List Nat} {i : Nat} (hi : i < l.length) : l.drop i = l.getD i 0 :: l.drop (i + 1) := by
  rw [List.drop_eq_getElem_cons hi, List.getD_eq_getElem?_getD, List.getElem?_eq_getElem hi]
  rfl
set_option maxRecDepth 100000 in
theorem getD_take {l : List Nat} {n i : Nat} (h : i < n) : (l.take n).getD i 0 = l.getD i 0 := by
  rw [List.getD_eq_getElem?_getD, List.getD_eq_getElem?_getD, List.getElem?_take_of_lt h]
set_option maxRecDepth 100000 in
theorem invw_len (l : List Nat) : (invw l).length = l.length := by simp [invw]
set_option maxRecDepth 100000 in
theorem invw_lt {l : List Nat} (h : lt8 l) : lt8 (invw l) := by
  intro y hy
  simp only [invw, List.mem_reverse, List.mem_map] at hy
  obtain ⟨z, hz, rfl⟩ := hy
  exact x1_lt (h z hz)
set_option maxRecDepth 100000 in
theorem invw_take {l : List Nat} {i : Nat} (hi : i < l.length) : invw (l.take (i + 1)) = (l.getD i 0 ^^^ 1) :: invw (l.take i) := by
  have : l.take (i + 1) = l.take i ++ [l.getD i 0] := by
    rw [List.take_add_one, List.getD_eq_getElem?_getD, List.getElem?_eq_getElem hi]
    rfl
  rw [this]
  simp [invw]
/-- how many letters are stripped at each end -/
def csF (l : List Nat) : Nat → Nat → Nat
  | 0, n => n
  | f + 1, n => if 2 * n + 2 ≤ l.length ∧ l.getD n 0 = l.getD (l.length - 1 - n) 0 ^^^ 1 then csF l f (n + 1) else n
def cs (l : List Nat) : Nat := csF l l.length 0
set_option maxRecDepth 100000 in
theorem csF_le (l : List Nat) : ∀ f n, 2 * n ≤ l.length → 2 * csF l f n ≤ l.length := by
  intro f
  induction f with
  | zero => intro n h; exact h
  | succ f ih =>
    intro n h
    show 2 * (if _ then _ else _) ≤ _
    split
    · rename_i g
      exact ih (n + 1) (by omega)
    · exact h
set_option maxRecDepth 100000 in
theorem cs_le (l : List Nat) : 2 * cs l ≤ l.length := csF_le l _ 0 (by omega)
def crl (l : List Nat) : Nat := l.length - 2 * cs l
/-- the core's letter -/
def crg (l : List Nat) (i : Nat) : Nat := l.getD (cs l + i) 0
def perd (l : List Nat) (p : Nat) : Prop := ∀ i, p ≤ i → i < crl l → crg l i = crg l (i - p)
def RootIs (l : List Nat) (r : Nat) : Prop := r ≤ crl l ∧ (0 < crl l → 1 ≤ r ∧ crl l % r = 0 ∧ perd l r ∧ ∀ p, 1 ≤ p → p < r → crl l % p = 0 → ¬ perd l p)
set_option maxRecDepth 100000 in
theorem perd_all (l : List Nat) : perd l (crl l) := fun i h1 h2 => absurd h1 (by omega)
