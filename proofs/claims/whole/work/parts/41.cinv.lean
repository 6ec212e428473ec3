/-! the calculator's object: what it holds -/
abbrev AA : Type := ST × List ST × Option ST × List Nat × Nat × Int × List Nat
def aSt (A : AA) : ST := A.1
def aHi (A : AA) : List ST := A.2.1
def aSv (A : AA) : Option ST := A.2.2.1
def aIn (A : AA) : List Nat := A.2.2.2.1
def aEk (A : AA) : Nat := A.2.2.2.2.1
def aEp (A : AA) : Int := A.2.2.2.2.2.1
def aFm (A : AA) : List Nat := A.2.2.2.2.2.2
def XK (σ : HS) (x : Nat) : Prop := zK σ x = (9, 0) ∧ zP σ x 0 = some (x + 1) ∧ zP σ x 2 = some (x + 2) ∧ zP σ x 3 = some (x + 46) ∧ zP σ x 5 = some (x + 90) ∧ zP σ x 6 = some (x + 444) ∧ zP σ x 7 = some (x + 492) ∧ zP σ x 8 = some (x + 493) ∧ zP σ x 9 = some (x + 500) ∧ zP σ x 10 = some (x + 503) ∧ zP σ x 11 = some (x + 505) ∧ zP σ x 12 = some (x + 507) ∧ zP σ x 13 = some (x + 509) ∧ zK σ (x + 1) = (13, 600) ∧ zK σ (x + 492) = (16, 2) ∧ zP σ (x + 492) 0 = some (x + 511) ∧ zP σ (x + 492) 1 = some (x + 516)
def C0 (σ : HS) (x : Nat) : Prop := XK σ x ∧ SK σ (x + 46) ∧ PK σ (x + 444) ∧ FOK σ (x + 493) ∧ IK σ (x + 500) ∧ MK σ (x + 503) ∧ Wk σ (x + 505) (x + 506) 3600 ∧ Wk σ (x + 507) (x + 508) 355 ∧ GK σ (x + 511) ∧ GK σ (x + 516)
def cIn (σ : HS) (x : Nat) (l : List Nat) : Prop := zO σ x 1 = (l.length : Int) ∧ l.length ≤ 600 ∧ (∀ i, i < l.length → zI σ (x + 1) i = ((l.getD i 0 : Nat) : Int)) ∧ ∀ y ∈ l, y < 256
def cSv (σ : HS) (x : Nat) (s : Option ST) : Prop := zO σ x 4 = (if s.isSome then 1 else 0) ∧ ∀ t, s = some t → SD σ (x + 46) t
def cSc (σ : HS) (x : Nat) : Prop := zO σ (x + 493) 5 = 0 ∧ ∀ p, p < 126025 → zI σ (x + 501) p = 0
def cG (σ : HS) (x g : Nat) (ws : List (List Nat)) : Prop := zI σ (x + 515 + 5 * g) 0 = 0 ∧ (zO σ (x + 511 + 5 * g) 6 = 1 ∨ (zO σ (x + 511 + 5 * g) 6 = 0 ∧ GD σ (x + 511 + 5 * g) (grf ws) ∧ IsGr ws (grf ws)))
def cX (σ : HS) (x : Nat) (s : ST) : Prop := zO σ (x + 500) 4 = 1 ∨ (zO σ (x + 500) 4 = 0 ∧ zO σ (x + 500) 2 = ((ixF (grf (sGw s 0)) (grf (sGw s 1))).length : Int) ∧ zO σ (x + 500) 3 = (ixE (grf (sGw s 0)) (grf (sGw s 1)) : Int))
def CI (σ : HS) (x : Nat) (A : AA) : Prop := C0 σ x ∧ cIn σ x (aIn A) ∧ SD σ (x + 2) (aSt A) ∧ cSv σ x (aSv A) ∧ HD σ (x + 90) (aHi A) ∧ (zO σ (x + 444) 2 = (aEk A : Int) ∧ zO σ (x + 444) 3 = aEp A) ∧ cSc σ x ∧ FD σ (x + 509) (aFm A) ∧ (∀ g, g < 2 → cG σ x g (sGw (aSt A) g)) ∧ cX σ x (aSt A)
/-- outside P nothing changes -/
def Mx (σ σ' : HS) (P : Nat → Prop) : Prop := ∀ a, ¬ P a → zK σ' a = zK σ a ∧ zO σ' a = zO σ a ∧ zI σ' a = zI σ a ∧ zJ σ' a = zJ σ a ∧ zP σ' a = zP σ a
set_option maxRecDepth 100000 in
theorem Mx.rf {σ : HS} {P : Nat → Prop} : Mx σ σ P := fun _ _ => ⟨rfl, rfl, rfl, rfl, rfl⟩
set_option maxRecDepth 100000 in
theorem Mx.sn {σ : HS} {n : Nat} {P : Nat → Prop} : Mx σ (sN σ n) P := fun _ _ => ⟨rfl, rfl, rfl, rfl, rfl⟩
set_option maxRecDepth 100000 in
theorem Mx.tr {σ σ' σ'' : HS} {P : Nat → Prop} (h : Mx σ σ' P) (h' : Mx σ' σ'' P) : Mx σ σ'' P := fun a ha => by
  obtain ⟨a1, a2, a3, a4, a5⟩ := h a ha
  obtain ⟨b1, b2, b3, b4, b5⟩ := h' a ha
  exact ⟨b1.trans a1, b2.trans a2, b3.trans a3, b4.trans a4, b5.trans a5⟩
set_option maxRecDepth 100000 in
theorem Md.mx {σ σ' : HS} {P P' : Nat → Prop} (m : Md σ σ' P) (hp : ∀ a, P a → P' a) : Mx σ σ' P' := fun a ha => by
  have hn : ¬ P a := fun z => ha (hp a z)
  exact ⟨by rw [m.K], m.o hn, m.i hn, m.j hn, by rw [m.P]⟩
def xr (x : Nat) : Nat → Prop := fun a => x ≤ a ∧ a < x + 521
def scr (x : Nat) : Nat → Prop := fun a => x + 503 ≤ a ∧ a < x + 509
section CFRAME
variable {σ σ' : HS} {x : Nat} {P : Nat → Prop}
set_option maxRecDepth 100000 in
theorem C0.md (m : Md σ σ' P) (h : C0 σ x) : C0 σ' x := by
  obtain ⟨a1, a2, a3, a4, a5, a6, a7, a8, a9, a10⟩ := h
  refine ⟨?_, a2.md m, ?_, a4.md m, a5.md m, a6.md m, a7.md m, a8.md m, a9.md m, a10.md m⟩
  · unfold XK at *
    rw [m.K, m.P]
    exact a1
  · obtain ⟨b1, b2, b3, b4, b5⟩ := a3
    exact ⟨by rw [m.K]; exact b1, by rw [m.P]; exact b2, by rw [m.P]; exact b3, b4.md m, b5.md m⟩
set_option maxRecDepth 100000 in
theorem cIn.md {l : List Nat} (m : Md σ σ' P) (h : cIn σ x l) (h1 : ¬ P x) (h2 : ¬ P (x + 1)) : cIn σ' x l := by
  unfold cIn at *
  rw [m.o h1, m.i h2]
  exact h
set_option maxRecDepth 100000 in
theorem cSv.md {s : Option ST} (m : Md σ σ' P) (h : cSv σ x s) (h1 : ¬ P x) (h2 : ∀ a, sp (x + 46) a → ¬ P a) : cSv σ' x s :=
  ⟨by rw [m.o h1]; exact h.1, fun t ht => (h.2 t ht).md m h2⟩
set_option maxRecDepth 100000 in
theorem cSc.md (m : Md σ σ' P) (h : cSc σ x) (h1 : ¬ P (x + 493)) (h2 : ¬ P (x + 501)) : cSc σ' x := by
  unfold cSc at *
  rw [m.o h1, m.i h2]
  exact h
set_option maxRecDepth 100000 in
theorem cG.md {g : Nat} {ws : List (List Nat)} (m : Md σ σ' P) (h : cG σ x g ws) (h1 : ∀ a, bp (x + 511 + 5 * g) a → ¬ P a) : cG σ' x g ws := by
  refine ⟨by rw [m.i (h1 _ (by unfold bp; omega))]; exact h.1, ?_⟩
  rw [m.o (h1 _ (by unfold bp; omega))]
  exact h.2.imp id (fun z => ⟨z.1, z.2.1.md m h1, z.2.2⟩)
set_option maxRecDepth 100000 in
theorem cX.md {s : ST} (m : Md σ σ' P) (h : cX σ x s) (h1 : ¬ P (x + 500)) : cX σ' x s := by
  unfold cX at *
  rw [m.o h1]
  exact h
set_option maxRecDepth 100000 in
theorem CI.md {A : AA} (m : Md σ σ' P) (h : CI σ x A) (hpp : ∀ a, P a → scr x a) : CI σ' x A := by
  obtain ⟨a1, a2, a3, a4, a5, a6, a7, a8, a9, a10⟩ := h
  have no : ∀ a, (a < x + 503 ∨ x + 509 ≤ a) → ¬ P a := fun a ha z => by have := hpp a z; unfold scr at this; omega
  refine ⟨a1.md m, a2.md m (no _ (by omega)) (no _ (by omega)), a3.md m (fun a z => no a (by unfold sp at z; omega)), a4.md m (no _ (by omega)) (fun a z => no a (by unfold sp at z; omega)), a5.md m (fun a z => no a (by unfold hp at z; omega)), ?_, a7.md m (no _ (by omega)) (no _ (by omega)), a8.md m (no _ (by omega)) (no _ (by omega)), fun g hg => (a9 g hg).md m (fun a z => no a (by unfold bp at z; omega)), a10.md m (no _ (by omega))⟩
  rw [m.o (no _ (by omega))]
  exact a6
set_option maxRecDepth 100000 in
theorem scr_xr {a : Nat} (h : scr x a) : xr x a := by unfold scr at h; unfold xr; omega
end CFRAME
