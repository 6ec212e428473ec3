/-! folding, the mathematics: edges, vertices made one, what follows -/
/-- u and v are one vertex, once all the pairs are made one -/
def Rl (ρ : Nat → Nat) (E : List (Nat × Nat)) (u v : Nat) : Prop := ∀ f : Nat → Nat, (∀ x, f (ρ x) = f x) → (∀ p ∈ E, f p.1 = f p.2) → f u = f v
set_option maxRecDepth 100000 in
theorem Rl.rf {ρ : Nat → Nat} {E : List (Nat × Nat)} {u : Nat} : Rl ρ E u u := fun _ _ _ => rfl
set_option maxRecDepth 100000 in
theorem Rl.sy {ρ : Nat → Nat} {E : List (Nat × Nat)} {u v : Nat} (h : Rl ρ E u v) : Rl ρ E v u := fun f h1 h2 => (h f h1 h2).symm
set_option maxRecDepth 100000 in
theorem Rl.tr {ρ : Nat → Nat} {E : List (Nat × Nat)} {u v w : Nat} (h : Rl ρ E u v) (h' : Rl ρ E v w) : Rl ρ E u w := fun f h1 h2 => (h f h1 h2).trans (h' f h1 h2)
set_option maxRecDepth 100000 in
theorem Rl.root {ρ : Nat → Nat} {E : List (Nat × Nat)} {u : Nat} : Rl ρ E (ρ u) u := fun _ h1 _ => h1 u
set_option maxRecDepth 100000 in
theorem Rl.pair {ρ : Nat → Nat} {E : List (Nat × Nat)} {u v : Nat} (h : (u, v) ∈ E) : Rl ρ E u v := fun _ _ h2 => h2 _ h
set_option maxRecDepth 100000 in
theorem Rl.mono {ρ : Nat → Nat} {E E' : List (Nat × Nat)} {u v : Nat} (h : Rl ρ E u v) (hs : ∀ p ∈ E, Rl ρ E' p.1 p.2) : Rl ρ E' u v := fun f h1 h2 => h f h1 (fun p hp => hs p hp f h1 h2)
set_option maxRecDepth 100000 in
theorem Rl.nil {ρ : Nat → Nat} {u v : Nat} (hρ : ∀ x, ρ (ρ x) = ρ x) (h : Rl ρ [] u v) : ρ u = ρ v := h ρ hρ (fun p hp => by cases hp)
/-- b is put into a, both stand for themselves -/
def rput (ρ : Nat → Nat) (a b : Nat) : Nat → Nat := fun x => if ρ x = b then a else ρ x
set_option maxRecDepth 100000 in
theorem Rl.put {ρ : Nat → Nat} {E E' : List (Nat × Nat)} {u v a b : Nat} (hρ : ∀ x, ρ (ρ x) = ρ x) (ha : ρ a = a) (hb : ρ b = b) (hab : a ≠ b) (h : Rl ρ E u v) (hs : ∀ p ∈ E, Rl (rput ρ a b) E' p.1 p.2) : Rl (rput ρ a b) E' u v := by
  intro f h1 h2
  refine h f (fun x => ?_) (fun p hp => hs p hp f h1 h2)
  have e1 := h1 x
  have e2 := h1 b
  unfold rput at e1 e2
  rw [if_pos hb] at e2
  by_cases q : ρ x = b
  · rw [if_pos q] at e1
    rw [q, ← e1, e2]
  · rw [if_neg q] at e1
    exact e1
set_option maxRecDepth 100000 in
theorem rput_idem {ρ : Nat → Nat} {a b : Nat} (hρ : ∀ x, ρ (ρ x) = ρ x) (ha : ρ a = a) (hab : a ≠ b) : ∀ x, rput ρ a b (rput ρ a b x) = rput ρ a b x := by
  intro x
  unfold rput
  by_cases q : ρ x = b
  · rw [if_pos q, ha, if_neg hab]
  · rw [if_neg q, hρ, if_neg q]
set_option maxRecDepth 100000 in
theorem Rl.ab {ρ : Nat → Nat} {E : List (Nat × Nat)} {a b : Nat} (hb : ρ b = b) : Rl (rput ρ a b) E a b := by
  have := Rl.root (ρ := rput ρ a b) (E := E) (u := b)
  unfold rput at this
  rw [if_pos hb] at this
  exact this
abbrev ED : Type := Nat → Nat → Nat → Prop
/-- a word is read from u to v, vertices made one taken for one -/
def Pth (Ed : ED) (R : Nat → Nat → Prop) : List Nat → Nat → Nat → Prop
  | [], u, v => R u v
  | c :: w, u, v => ∃ a b, R u a ∧ Ed a c b ∧ Pth Ed R w b v
def Sim (Ed : ED) (R : Nat → Nat → Prop) (Ed' : ED) (R' : Nat → Nat → Prop) : Prop := (∀ u v, R u v → R' u v) ∧ ∀ u c v, Ed u c v → ∃ u' v', Ed' u' c v' ∧ R' u u' ∧ R' v v'
set_option maxRecDepth 100000 in
theorem Pth.left {Ed : ED} {ρ : Nat → Nat} {E : List (Nat × Nat)} : ∀ {w : List Nat} {x y v : Nat}, Rl ρ E x y → Pth Ed (Rl ρ E) w y v → Pth Ed (Rl ρ E) w x v := by
  intro w
  cases w with
  | nil => exact fun h h' => h.tr h'
  | cons c w => exact fun h ⟨a, b, h1, h2, h3⟩ => ⟨a, b, h.tr h1, h2, h3⟩
set_option maxRecDepth 100000 in
theorem Pth.right {Ed : ED} {ρ : Nat → Nat} {E : List (Nat × Nat)} : ∀ {w : List Nat} {x y v : Nat}, Rl ρ E v y → Pth Ed (Rl ρ E) w x v → Pth Ed (Rl ρ E) w x y := by
  intro w
  induction w with
  | nil => exact fun h h' => Rl.tr h' h
  | cons c w ih => exact fun h ⟨a, b, h1, h2, h3⟩ => ⟨a, b, h1, h2, ih h h3⟩
set_option maxRecDepth 100000 in
theorem Pth.app {Ed : ED} {ρ : Nat → Nat} {E : List (Nat × Nat)} {w' : List Nat} : ∀ {w : List Nat} {x y v : Nat}, Pth Ed (Rl ρ E) w x y → Pth Ed (Rl ρ E) w' y v → Pth Ed (Rl ρ E) (w ++ w') x v := by
  intro w
  induction w with
  | nil => exact fun h h' => Pth.left h h'
  | cons c w ih => exact fun ⟨a, b, h1, h2, h3⟩ h' => ⟨a, b, h1, h2, ih h3 h'⟩
set_option maxRecDepth 100000 in
theorem Pth.sim {Ed Ed' : ED} {ρ ρ' : Nat → Nat} {E E' : List (Nat × Nat)} (hS : Sim Ed (Rl ρ E) Ed' (Rl ρ' E')) : ∀ {w : List Nat} {x y : Nat}, Pth Ed (Rl ρ E) w x y → Pth Ed' (Rl ρ' E') w x y := by
  intro w
  induction w with
  | nil => exact fun h => hS.1 _ _ h
  | cons c w ih =>
    intro x y ⟨a, b, h1, h2, h3⟩
    obtain ⟨a', b', h4, h5, h6⟩ := hS.2 a c b h2
    exact ⟨a', b', Rl.tr (hS.1 _ _ h1) h5, h4, Pth.left h6.sy (ih h3)⟩
set_option maxRecDepth 100000 in
theorem Sim.rf {Ed : ED} {ρ : Nat → Nat} {E : List (Nat × Nat)} : Sim Ed (Rl ρ E) Ed (Rl ρ E) := ⟨fun _ _ h => h, fun u c v h => ⟨u, v, h, Rl.rf, Rl.rf⟩⟩
set_option maxRecDepth 100000 in
theorem Sim.tr {Ed Ed' Ed'' : ED} {ρ ρ' ρ'' : Nat → Nat} {E E' E'' : List (Nat × Nat)} (h : Sim Ed (Rl ρ E) Ed' (Rl ρ' E')) (h' : Sim Ed' (Rl ρ' E') Ed'' (Rl ρ'' E'')) : Sim Ed (Rl ρ E) Ed'' (Rl ρ'' E'') := by
  refine ⟨fun u v q => h'.1 u v (h.1 u v q), fun u c v q => ?_⟩
  obtain ⟨a, b, h1, h2, h3⟩ := h.2 u c v q
  obtain ⟨a', b', k1, k2, k3⟩ := h'.2 a c b h1
  exact ⟨a', b', k1, Rl.tr (h'.1 _ _ h2) k2, Rl.tr (h'.1 _ _ h3) k3⟩
/-- another graph, that the folded one is to be led into -/
def HOK (H : Nat → Nat → Option Nat) : Prop := ∀ x c y, c < 8 → H x c = some y → H y (c ^^^ 1) = some x
def run (H : Nat → Nat → Option Nat) : Nat → List Nat → Option Nat
  | x, [] => some x
  | x, c :: w => match H x c with
    | none => none
    | some y => run H y w
set_option maxRecDepth 100000 in
theorem run_app {H : Nat → Nat → Option Nat} {w' : List Nat} : ∀ {w : List Nat} {x : Nat}, run H x (w ++ w') = match run H x w with | none => none | some y => run H y w' := by
  intro w
  induction w with
  | nil => exact fun {x} => rfl
  | cons c w ih =>
    intro x
    show (match H x c with | none => none | some y => run H y (w ++ w')) = _
    cases h : H x c with
    | none => simp [run, h]
    | some y => simp [run, h, ih]
def Resp (H : Nat → Nat → Option Nat) (φ : Nat → Nat) (Ed : ED) (ρ : Nat → Nat) (E : List (Nat × Nat)) : Prop := (∀ x, φ (ρ x) = φ x) ∧ (∀ p ∈ E, φ p.1 = φ p.2) ∧ ∀ u c v, Ed u c v → H (φ u) c = some (φ v)
set_option maxRecDepth 100000 in
theorem Resp.rl {H : Nat → Nat → Option Nat} {φ : Nat → Nat} {Ed : ED} {ρ : Nat → Nat} {E : List (Nat × Nat)} (h : Resp H φ Ed ρ E) {u v : Nat} (q : Rl ρ E u v) : φ u = φ v := q φ h.1 h.2.1
def ESym (Ed : ED) (R : Nat → Nat → Prop) : Prop := ∀ u c v, Ed u c v → c < 8 ∧ ∃ u' v', Ed v' (c ^^^ 1) u' ∧ R u u' ∧ R v v'
/-- the words are all read from 0 to 0; whatever other graph has them so is reached -/
def FInv (ws : List (List Nat)) (Ed : ED) (ρ : Nat → Nat) (E : List (Nat × Nat)) : Prop :=
  ESym Ed (Rl ρ E) ∧ (∀ w ∈ ws, Pth Ed (Rl ρ E) w 0 0) ∧ ∀ H h, HOK H → (∀ w ∈ ws, run H h w = some h) → ∃ φ : Nat → Nat, φ 0 = h ∧ Resp H φ Ed ρ E
/-- .. and of w the letters ahead of place i, up to the vertex a -/
def FPar (ws : List (List Nat)) (w : List Nat) (i a : Nat) (Ed : ED) (ρ : Nat → Nat) (E : List (Nat × Nat)) : Prop :=
  ESym Ed (Rl ρ E) ∧ (∀ w' ∈ ws, Pth Ed (Rl ρ E) w' 0 0) ∧ Pth Ed (Rl ρ E) (w.take i) 0 a ∧ ∀ H h, HOK H → (∀ w' ∈ ws ++ [w], run H h w' = some h) → ∃ φ : Nat → Nat, φ 0 = h ∧ Resp H φ Ed ρ E ∧ run H h (w.take i) = some (φ a)
set_option maxRecDepth 100000 in
theorem FInv.par {ws : List (List Nat)} {Ed : ED} {ρ : Nat → Nat} {E : List (Nat × Nat)} (h : FInv ws Ed ρ E) (w : List Nat) : FPar ws w 0 0 Ed ρ E := by
  refine ⟨h.1, h.2.1, ?_, fun H h0 hH hw => ?_⟩
  · rw [List.take_zero]; exact Rl.rf
  · obtain ⟨φ, h1, h2⟩ := h.2.2 H h0 hH (fun w' q => hw w' (List.mem_append_left _ q))
    refine ⟨φ, h1, h2, ?_⟩
    rw [List.take_zero]
    exact congrArg some h1.symm
set_option maxRecDepth 100000 in
theorem FPar.fin {ws : List (List Nat)} {w : List Nat} {i a : Nat} {Ed : ED} {ρ : Nat → Nat} {E : List (Nat × Nat)} (h : FPar ws w i a Ed ρ E) (hi : w.length ≤ i) (ha : Rl ρ E a 0) : FInv (ws ++ [w]) Ed ρ E := by
  rw [FPar, List.take_of_length_le hi] at h
  refine ⟨h.1, fun w' hw => ?_, fun H h0 hH hw => ?_⟩
  · rcases List.mem_append.mp hw with q | q
    · exact h.2.1 w' q
    · rw [List.mem_singleton.mp q]
      exact Pth.right ha h.2.2.1
  · obtain ⟨φ, h1, h2, h3⟩ := h.2.2.2 H h0 hH hw
    exact ⟨φ, h1, h2⟩
set_option maxRecDepth 100000 in
/-- a step along an edge that is there -/
theorem FPar.step {ws : List (List Nat)} {w : List Nat} {i a b : Nat} {Ed : ED} {ρ : Nat → Nat} {E : List (Nat × Nat)} (h : FPar ws w i a Ed ρ E) (hi : i < w.length) (hp : Pth Ed (Rl ρ E) [w.getD i 0] a b) : FPar ws w (i + 1) b Ed ρ E := by
  have e : w.take (i + 1) = w.take i ++ [w.getD i 0] := by
    rw [List.take_add_one, List.getD_eq_getElem?_getD, List.getElem?_eq_getElem hi]
    rfl
  refine ⟨h.1, h.2.1, ?_, fun H h0 hH hw => ?_⟩
  · rw [e]; exact Pth.app h.2.2.1 hp
  · obtain ⟨φ, h1, h2, h3⟩ := h.2.2.2 H h0 hH hw
    refine ⟨φ, h1, h2, ?_⟩
    obtain ⟨x, y, k1, k2, k3⟩ := hp
    have e1 := h2.2.2 _ _ _ k2
    rw [← h2.rl k1, h2.rl k3] at e1
    rw [e, run_app, h3]
    show (match H (φ a) (w.getD i 0) with | none => none | some y => run H y []) = _
    rw [e1]
    rfl
set_option maxRecDepth 100000 in
/-- whatever keeps the edges and leads nothing elsewhere keeps all -/
theorem FPar.sim {ws : List (List Nat)} {w : List Nat} {i a : Nat} {Ed Ed' : ED} {ρ ρ' : Nat → Nat} {E E' : List (Nat × Nat)} (h : FPar ws w i a Ed ρ E) (hS : Sim Ed (Rl ρ E) Ed' (Rl ρ' E')) (hY : ESym Ed' (Rl ρ' E')) (hR : ∀ H φ, HOK H → Resp H φ Ed ρ E → (∀ h0, φ 0 = h0 → (∀ w' ∈ ws ++ [w], run H h0 w' = some h0) → run H h0 (w.take i) = some (φ a) → Resp H φ Ed' ρ' E')) : FPar ws w i a Ed' ρ' E' := by
  refine ⟨hY, fun w' q => Pth.sim hS (h.2.1 w' q), Pth.sim hS h.2.2.1, fun H h0 hH hw => ?_⟩
  obtain ⟨φ, h1, h2, h3⟩ := h.2.2.2 H h0 hH hw
  exact ⟨φ, h1, hR H φ hH h2 h0 h1 hw h3, h3⟩
set_option maxRecDepth 100000 in
theorem FInv.sim {ws : List (List Nat)} {Ed Ed' : ED} {ρ ρ' : Nat → Nat} {E E' : List (Nat × Nat)} (h : FInv ws Ed ρ E) (hS : Sim Ed (Rl ρ E) Ed' (Rl ρ' E')) (hY : ESym Ed' (Rl ρ' E')) (hR : ∀ H φ, HOK H → Resp H φ Ed ρ E → Resp H φ Ed' ρ' E') : FInv ws Ed' ρ' E' := by
  refine ⟨hY, fun w' q => Pth.sim hS (h.2.1 w' q), fun H h0 hH hw => ?_⟩
  obtain ⟨φ, h1, h2⟩ := h.2.2 H h0 hH hw
  exact ⟨φ, h1, hR H φ hH h2⟩
set_option maxRecDepth 100000 in
/-- the next letter of a closed word leads somewhere -/
theorem run_next {H : Nat → Nat → Option Nat} {h0 x : Nat} {w : List Nat} {i : Nat} (hw : run H h0 w = some h0) (hi : i < w.length) (hx : run H h0 (w.take i) = some x) : ∃ y, H x (w.getD i 0) = some y ∧ (i + 1 = w.length → y = h0) := by
  have e : w = w.take i ++ (w.getD i 0 :: w.drop (i + 1)) := by
    rw [← drop_cons hi, List.take_append_drop]
  rw [e, run_app, hx] at hw
  have hw' : (match H x (w.getD i 0) with | none => none | some y => run H y (w.drop (i + 1))) = some h0 := hw
  cases h : H x (w.getD i 0) with
  | none => rw [h] at hw'; cases hw'
  | some y =>
    refine ⟨y, rfl, fun q => ?_⟩
    rw [h] at hw'
    have e2 : w.drop (i + 1) = [] := by rw [List.drop_eq_nil_iff]; omega
    rw [e2] at hw'
    exact Option.some.inj hw'
/-- folded: symmetric, the words closed at r, and led into every other such graph -/
def Aut (ws : List (List Nat)) (S : Nat → Nat → Option Nat) (r : Nat) : Prop := HOK S ∧ (∀ w ∈ ws, run S r w = some r) ∧ ∀ H h, HOK H → (∀ w ∈ ws, run H h w = some h) → ∃ φ : Nat → Nat, φ r = h ∧ ∀ u c v, S u c = some v → H (φ u) c = some (φ v)
set_option maxRecDepth 100000 in
/-- at the end: no pair waits, edges begin at vertices that stand for themselves -/
theorem FInv.aut {ws : List (List Nat)} {Ed : ED} {ρ : Nat → Nat} {S : Nat → Nat → Option Nat} (h : FInv ws Ed ρ []) (hρ : ∀ x, ρ (ρ x) = ρ x) (hρ0 : ρ 0 = 0) (hS : ∀ u c v, S u c = some v ↔ ∃ v', Ed u c v' ∧ ρ v' = v) (hl : ∀ u c v, Ed u c v → ρ u = u) : Aut ws S 0 := by
  have hP : ∀ {w : List Nat} {u v : Nat}, ρ u = u → Pth Ed (Rl ρ []) w u v → run S u w = some (ρ v) := by
    intro w
    induction w with
    | nil =>
      intro u v hu q
      have := Rl.nil hρ q
      rw [hu] at this
      exact congrArg some this
    | cons c w ih =>
      intro u v hu ⟨a, b, h1, h2, h3⟩
      have e1 := Rl.nil hρ h1
      rw [hu, hl _ _ _ h2] at e1
      subst e1
      have e2 : S u c = some (ρ b) := (hS u c (ρ b)).mpr ⟨b, h2, rfl⟩
      show (match S u c with | none => none | some y => run S y w) = _
      rw [e2]
      exact ih (hρ b) (Pth.left Rl.root h3)
  refine ⟨fun x c y hc hxy => ?_, fun w hw => ?_, fun H h0 hH hw => ?_⟩
  · obtain ⟨y', h1, h2⟩ := (hS x c y).mp hxy
    obtain ⟨-, u', v', k1, k2, k3⟩ := h.1 _ _ _ h1
    have e1 := Rl.nil hρ k2
    have e2 := Rl.nil hρ k3
    rw [hl _ _ _ h1] at e1
    rw [h2, hl _ _ _ k1] at e2
    rw [e2]
    exact (hS _ _ _).mpr ⟨u', k1, e1.symm⟩
  · have := hP hρ0 (h.2.1 w hw)
    rw [hρ0] at this
    exact this
  · obtain ⟨φ, h1, h2⟩ := h.2.2 H h0 hH hw
    refine ⟨φ, h1, fun u c v q => ?_⟩
    obtain ⟨v', k1, k2⟩ := (hS u c v).mp q
    rw [← k2, h2.1]
    exact h2.2.2 _ _ _ k1
