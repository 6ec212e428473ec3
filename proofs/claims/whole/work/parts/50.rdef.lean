/-! the reference's object: what it holds -/
def rsl : List Nat := [1, 6, 10, 12, 14, 16, 17, 18, 19, 22, 23, 24, 25, 26, 27, 28, 29]
def rkd : List (Nat × Nat) := [(13, 13453), (11, 600), (12, 1000), (13, 4000), (13, 200), (14, 341), (13, 2888), (13, 361), (13, 40000), (13, 5776), (13, 2), (13, 722), (13, 722), (13, 361), (13, 361), (13, 130321), (15, 130321)]
def RK (σ : HS) (y : Nat) : Prop := zK σ y = (10, 0) ∧ ∀ i, i < 17 → zP σ y (rsl.getD i 0) = some (y + 1 + i) ∧ zK σ (y + 1 + i) = rkd.getD i (0, 0)
set_option maxRecDepth 100000 in
theorem RK.p_states {σ : HS} {y : Nat} (h : RK σ y) : zP σ y 1 = some (y + 1) := (h.2 0 (by decide)).1
set_option maxRecDepth 100000 in
theorem RK.k_states {σ : HS} {y : Nat} (h : RK σ y) : zK σ (y + 1) = (13, 13453) := (h.2 0 (by decide)).2
set_option maxRecDepth 100000 in
theorem RK.p_buffer {σ : HS} {y : Nat} (h : RK σ y) : zP σ y 6 = some (y + 2) := (h.2 1 (by decide)).1
set_option maxRecDepth 100000 in
theorem RK.k_buffer {σ : HS} {y : Nat} (h : RK σ y) : zK σ (y + 2) = (11, 600) := (h.2 1 (by decide)).2
set_option maxRecDepth 100000 in
theorem RK.p_formatted {σ : HS} {y : Nat} (h : RK σ y) : zP σ y 10 = some (y + 3) := (h.2 2 (by decide)).1
set_option maxRecDepth 100000 in
theorem RK.k_formatted {σ : HS} {y : Nat} (h : RK σ y) : zK σ (y + 3) = (12, 1000) := (h.2 2 (by decide)).2
set_option maxRecDepth 100000 in
theorem RK.p_work {σ : HS} {y : Nat} (h : RK σ y) : zP σ y 12 = some (y + 4) := (h.2 3 (by decide)).1
set_option maxRecDepth 100000 in
theorem RK.k_work {σ : HS} {y : Nat} (h : RK σ y) : zK σ (y + 4) = (13, 4000) := (h.2 3 (by decide)).2
set_option maxRecDepth 100000 in
theorem RK.p_other {σ : HS} {y : Nat} (h : RK σ y) : zP σ y 14 = some (y + 5) := (h.2 4 (by decide)).1
set_option maxRecDepth 100000 in
theorem RK.k_other {σ : HS} {y : Nat} (h : RK σ y) : zK σ (y + 5) = (13, 200) := (h.2 4 (by decide)).2
set_option maxRecDepth 100000 in
theorem RK.p_magnus {σ : HS} {y : Nat} (h : RK σ y) : zP σ y 16 = some (y + 6) := (h.2 5 (by decide)).1
set_option maxRecDepth 100000 in
theorem RK.k_magnus {σ : HS} {y : Nat} (h : RK σ y) : zK σ (y + 6) = (14, 341) := (h.2 5 (by decide)).2
set_option maxRecDepth 100000 in
theorem RK.p_edges {σ : HS} {y : Nat} (h : RK σ y) : zP σ y 17 = some (y + 7) := (h.2 6 (by decide)).1
set_option maxRecDepth 100000 in
theorem RK.k_edges {σ : HS} {y : Nat} (h : RK σ y) : zK σ (y + 7) = (13, 2888) := (h.2 6 (by decide)).2
set_option maxRecDepth 100000 in
theorem RK.p_merged {σ : HS} {y : Nat} (h : RK σ y) : zP σ y 18 = some (y + 8) := (h.2 7 (by decide)).1
set_option maxRecDepth 100000 in
theorem RK.k_merged {σ : HS} {y : Nat} (h : RK σ y) : zK σ (y + 8) = (13, 361) := (h.2 7 (by decide)).2
set_option maxRecDepth 100000 in
theorem RK.p_waiting {σ : HS} {y : Nat} (h : RK σ y) : zP σ y 19 = some (y + 9) := (h.2 8 (by decide)).1
set_option maxRecDepth 100000 in
theorem RK.k_waiting {σ : HS} {y : Nat} (h : RK σ y) : zK σ (y + 9) = (13, 40000) := (h.2 8 (by decide)).2
set_option maxRecDepth 100000 in
theorem RK.p_graphs {σ : HS} {y : Nat} (h : RK σ y) : zP σ y 22 = some (y + 10) := (h.2 9 (by decide)).1
set_option maxRecDepth 100000 in
theorem RK.k_graphs {σ : HS} {y : Nat} (h : RK σ y) : zK σ (y + 10) = (13, 5776) := (h.2 9 (by decide)).2
set_option maxRecDepth 100000 in
theorem RK.p_sizes {σ : HS} {y : Nat} (h : RK σ y) : zP σ y 23 = some (y + 11) := (h.2 10 (by decide)).1
set_option maxRecDepth 100000 in
theorem RK.k_sizes {σ : HS} {y : Nat} (h : RK σ y) : zK σ (y + 11) = (13, 2) := (h.2 10 (by decide)).2
set_option maxRecDepth 100000 in
theorem RK.p_cameFrom {σ : HS} {y : Nat} (h : RK σ y) : zP σ y 24 = some (y + 12) := (h.2 11 (by decide)).1
set_option maxRecDepth 100000 in
theorem RK.k_cameFrom {σ : HS} {y : Nat} (h : RK σ y) : zK σ (y + 12) = (13, 722) := (h.2 11 (by decide)).2
set_option maxRecDepth 100000 in
theorem RK.p_cameBy {σ : HS} {y : Nat} (h : RK σ y) : zP σ y 25 = some (y + 13) := (h.2 12 (by decide)).1
set_option maxRecDepth 100000 in
theorem RK.k_cameBy {σ : HS} {y : Nat} (h : RK σ y) : zK σ (y + 13) = (13, 722) := (h.2 12 (by decide)).2
set_option maxRecDepth 100000 in
theorem RK.p_numbers {σ : HS} {y : Nat} (h : RK σ y) : zP σ y 26 = some (y + 14) := (h.2 13 (by decide)).1
set_option maxRecDepth 100000 in
theorem RK.k_numbers {σ : HS} {y : Nat} (h : RK σ y) : zK σ (y + 14) = (13, 361) := (h.2 13 (by decide)).2
set_option maxRecDepth 100000 in
theorem RK.p_reached {σ : HS} {y : Nat} (h : RK σ y) : zP σ y 27 = some (y + 15) := (h.2 14 (by decide)).1
set_option maxRecDepth 100000 in
theorem RK.k_reached {σ : HS} {y : Nat} (h : RK σ y) : zK σ (y + 15) = (13, 361) := (h.2 14 (by decide)).2
set_option maxRecDepth 100000 in
theorem RK.p_pairs {σ : HS} {y : Nat} (h : RK σ y) : zP σ y 28 = some (y + 16) := (h.2 15 (by decide)).1
set_option maxRecDepth 100000 in
theorem RK.k_pairs {σ : HS} {y : Nat} (h : RK σ y) : zK σ (y + 16) = (13, 130321) := (h.2 15 (by decide)).2
set_option maxRecDepth 100000 in
theorem RK.p_isPair {σ : HS} {y : Nat} (h : RK σ y) : zP σ y 29 = some (y + 17) := (h.2 16 (by decide)).1
set_option maxRecDepth 100000 in
theorem RK.k_isPair {σ : HS} {y : Nat} (h : RK σ y) : zK σ (y + 17) = (15, 130321) := (h.2 16 (by decide)).2
/-- of the object the slots K alone, of its rows those of R alone have changed -/
def Mr (σ σ' : HS) (y : Nat) (K R : List Nat) : Prop := zK σ' = zK σ ∧ zP σ' = zP σ ∧ zN σ' = zN σ ∧ (∀ a, a ≠ y → zO σ' a = zO σ a) ∧ (∀ k, k ∉ K → zO σ' y k = zO σ y k) ∧ ∀ a, (∀ i ∈ R, a ≠ y + i) → zI σ' a = zI σ a ∧ zJ σ' a = zJ σ a
section MR
variable {σ σ' σ'' : HS} {y : Nat} {Ks Ks' Rs Rs' : List Nat}
set_option maxRecDepth 100000 in
theorem Mr.K (m : Mr σ σ' y Ks Rs) : zK σ' = zK σ := m.1
set_option maxRecDepth 100000 in
theorem Mr.P (m : Mr σ σ' y Ks Rs) : zP σ' = zP σ := m.2.1
set_option maxRecDepth 100000 in
theorem Mr.o (m : Mr σ σ' y Ks Rs) {k : Nat} (h : k ∉ Ks) : zO σ' y k = zO σ y k := m.2.2.2.2.1 k h
set_option maxRecDepth 100000 in
theorem Mr.i (m : Mr σ σ' y Ks Rs) {i : Nat} (h : i ∉ Rs) : zI σ' (y + i) = zI σ (y + i) := (m.2.2.2.2.2 (y + i) (fun j hj e => h ((by omega : i = j) ▸ hj))).1
set_option maxRecDepth 100000 in
theorem Mr.j (m : Mr σ σ' y Ks Rs) {i : Nat} (h : i ∉ Rs) : zJ σ' (y + i) = zJ σ (y + i) := (m.2.2.2.2.2 (y + i) (fun j hj e => h ((by omega : i = j) ▸ hj))).2
set_option maxRecDepth 100000 in
theorem Mr.rf : Mr σ σ y Ks Rs := ⟨rfl, rfl, rfl, fun _ _ => rfl, fun _ _ => rfl, fun _ _ => ⟨rfl, rfl⟩⟩
set_option maxRecDepth 100000 in
theorem Mr.wk (m : Mr σ σ' y Ks Rs) (hK : ∀ k ∈ Ks, k ∈ Ks') (hR : ∀ i ∈ Rs, i ∈ Rs') : Mr σ σ' y Ks' Rs' :=
  ⟨m.1, m.2.1, m.2.2.1, m.2.2.2.1, fun k hk => m.2.2.2.2.1 k (fun z => hk (hK k z)), fun a ha => m.2.2.2.2.2 a (fun i hi => ha i (hR i hi))⟩
set_option maxRecDepth 100000 in
theorem Mr.tr (m : Mr σ σ' y Ks Rs) (m' : Mr σ' σ'' y Ks Rs) : Mr σ σ'' y Ks Rs :=
  ⟨m'.1.trans m.1, m'.2.1.trans m.2.1, m'.2.2.1.trans m.2.2.1, fun a ha => (m'.2.2.2.1 a ha).trans (m.2.2.2.1 a ha), fun k hk => (m'.2.2.2.2.1 k hk).trans (m.2.2.2.2.1 k hk), fun a ha => ⟨(m'.2.2.2.2.2 a ha).1.trans (m.2.2.2.2.2 a ha).1, (m'.2.2.2.2.2 a ha).2.trans (m.2.2.2.2.2 a ha).2⟩⟩
set_option maxRecDepth 100000 in
/-- what came first, then what came next, into a greater lot -/
theorem Mr.th (m : Mr σ σ' y Ks Rs) (m' : Mr σ' σ'' y Ks' Rs') (hK : ∀ k ∈ Ks', k ∈ Ks) (hR : ∀ i ∈ Rs', i ∈ Rs) : Mr σ σ'' y Ks Rs := m.tr (m'.wk hK hR)
set_option maxRecDepth 100000 in
theorem Mr.O {k : Nat} {x : Int} (h : k ∈ Ks) : Mr σ (sO σ y k x) y Ks Rs :=
  ⟨rfl, rfl, rfl, fun a ha => funext fun j => zO_sOa σ k j x ha, fun j hj => zO_sOk _ _ _ _ (fun e => hj (e ▸ h)), fun _ _ => ⟨rfl, rfl⟩⟩
set_option maxRecDepth 100000 in
theorem Mr.I {i j : Nat} {x : Int} (h : i ∈ Rs) : Mr σ (sI σ (y + i) j x) y Ks Rs :=
  ⟨rfl, rfl, rfl, fun _ _ => rfl, fun _ _ => rfl, fun a ha => ⟨funext fun k => zI_sIa σ j k x (ha i h), rfl⟩⟩
set_option maxRecDepth 100000 in
theorem Mr.J {i j : Nat} {x : Int} (h : i ∈ Rs) : Mr σ (sJ σ (y + i) j x) y Ks Rs :=
  ⟨rfl, rfl, rfl, fun _ _ => rfl, fun _ _ => rfl, fun a ha => ⟨rfl, funext fun k => zJ_sJa σ j k x (ha i h)⟩⟩
def yr (y : Nat) : Nat → Prop := fun a => y ≤ a ∧ a < y + 18
set_option maxRecDepth 100000 in
theorem Mr.md (m : Mr σ σ' y Ks Rs) (hR : ∀ i ∈ Rs, i < 18) : Md σ σ' (yr y) :=
  ⟨m.1, m.2.1, m.2.2.1, fun a ha => ⟨m.2.2.2.1 a (fun e => ha (by rw [e]; unfold yr; omega)), (m.2.2.2.2.2 a (fun i hi e => ha (by have := hR i hi; rw [e]; unfold yr; omega))).1, (m.2.2.2.2.2 a (fun i hi e => ha (by have := hR i hi; rw [e]; unfold yr; omega))).2⟩⟩
set_option maxRecDepth 100000 in
theorem RK.mr (h : RK σ y) (m : Mr σ σ' y Ks Rs) : RK σ' y := by
  unfold RK
  rw [m.K, m.P]
  exact h
end MR
/-- the word at the place b of the row of states -/
def Rw (σ : HS) (y b : Nat) (l : List Nat) : Prop := zI σ (y + 1) b = (l.length : Int) ∧ l.length ≤ 60 ∧ (∀ j, j < l.length → zI σ (y + 1) (b + 1 + j) = ((l.getD j 0 : Nat) : Int)) ∧ lt8 l
/-- the state at the place B -/
def SR (σ : HS) (y B : Nat) (t : ST) : Prop := zI σ (y + 1) B = (sRk t : Int) ∧ (∀ r, r < 8 → Rw σ y (B + 1 + 61 * r) (sRg t r)) ∧ ∀ g, g < 2 → zI σ (y + 1) (B + 489 + 367 * g) = ((sGw t g).length : Int) ∧ (sGw t g).length ≤ 6 ∧ ∀ k, k < (sGw t g).length → Rw σ y (B + 490 + 367 * g + 61 * k) ((sGw t g).getD k [])
set_option maxRecDepth 100000 in
theorem Rw.same {σ σ' : HS} {y b : Nat} {l : List Nat} (h : Rw σ y b l) (e : ∀ k, b ≤ k → k < b + 61 → zI σ' (y + 1) k = zI σ (y + 1) k) : Rw σ' y b l :=
  ⟨by rw [e b (by omega) (by omega)]; exact h.1, h.2.1, fun j hj => by rw [e _ (by omega) (by have := h.2.1; omega)]; exact h.2.2.1 j hj, h.2.2.2⟩
set_option maxRecDepth 100000 in
theorem SR.same {σ σ' : HS} {y B : Nat} {t : ST} (h : SR σ y B t) (e : ∀ k, B ≤ k → k < B + 1223 → zI σ' (y + 1) k = zI σ (y + 1) k) : SR σ' y B t := by
  refine ⟨by rw [e B (by omega) (by omega)]; exact h.1, fun r hr => (h.2.1 r hr).same (fun k k1 k2 => e k (by omega) (by omega)), fun g hg => ?_⟩
  obtain ⟨a1, a2, a3⟩ := h.2.2 g hg
  refine ⟨by rw [e _ (by omega) (by omega)]; exact a1, a2, fun k hk => (a3 k hk).same (fun j j1 j2 => e j (by omega) (by omega))⟩
set_option maxRecDepth 100000 in
/-- moved to another place -/
theorem Rw.move {σ σ' : HS} {y b b' : Nat} {l : List Nat} (h : Rw σ y b l) (e : ∀ k, k < 61 → zI σ' (y + 1) (b' + k) = zI σ (y + 1) (b + k)) : Rw σ' y b' l :=
  ⟨(e 0 (by omega)).trans h.1, h.2.1, fun j hj => by have := e (1 + j) (by have := h.2.1; omega); rw [← Nat.add_assoc, ← Nat.add_assoc] at this; rw [this]; exact h.2.2.1 j hj, h.2.2.2⟩
set_option maxRecDepth 100000 in
theorem SR.move {σ σ' : HS} {y B B' : Nat} {t : ST} (h : SR σ y B t) (e : ∀ k, k < 1223 → zI σ' (y + 1) (B' + k) = zI σ (y + 1) (B + k)) : SR σ' y B' t := by
  refine ⟨(e 0 (by omega)).trans h.1, fun r hr => (h.2.1 r hr).move (fun k hk => ?_), fun g hg => ?_⟩
  · have := e (1 + 61 * r + k) (by omega)
    rw [show B' + 1 + 61 * r + k = B' + (1 + 61 * r + k) by omega, show B + 1 + 61 * r + k = B + (1 + 61 * r + k) by omega]
    exact this
  · obtain ⟨a1, a2, a3⟩ := h.2.2 g hg
    refine ⟨?_, a2, fun k hk => (a3 k hk).move (fun j hj => ?_)⟩
    · have := e (489 + 367 * g) (by omega)
      rw [← Nat.add_assoc, ← Nat.add_assoc] at this
      rw [this]; exact a1
    · have := e (490 + 367 * g + 61 * k + j) (by omega)
      rw [show B' + 490 + 367 * g + 61 * k + j = B' + (490 + 367 * g + 61 * k + j) by omega, show B + 490 + 367 * g + 61 * k + j = B + (490 + 367 * g + 61 * k + j) by omega]
      exact this
/-- a byte with its sign -/
def sgn (y : Nat) : Int := if y < 128 then (y : Int) else (y : Int) - 256
def rHi (σ : HS) (y : Nat) (hi : List ST) : Prop := hi.length ≤ 8 ∧ zO σ y 3 = (hi.length : Int) ∧ ∃ f : Nat, f < 8 ∧ zO σ y 4 = (f : Int) ∧ ∀ (i : Nat) (t : ST), hi[i]? = some t → SR σ y (1223 * (1 + (f + hi.length - 1 - i) % 8)) t
def rSv (σ : HS) (y : Nat) (s : Option ST) : Prop := zO σ y 5 = (if s.isSome then 1 else 0) ∧ ∀ t, s = some t → SR σ y 11007 t
def rIn (σ : HS) (y : Nat) (l : List Nat) : Prop := zO σ y 7 = (l.length : Int) ∧ l.length ≤ 600 ∧ (∀ i, i < l.length → zI σ (y + 2) i = sgn (l.getD i 0)) ∧ ∀ b ∈ l, b < 256
def rFm (σ : HS) (y : Nat) (l : List Nat) : Prop := zO σ y 11 = (l.length : Int) ∧ l.length ≤ 1000 ∧ (∀ i, i < l.length → zI σ (y + 3) i = ((l.getD i 0 : Nat) : Int)) ∧ ∀ b ∈ l, b < 256
def RI (σ : HS) (y : Nat) (A : AA) : Prop := RK σ y ∧ zO σ y 2 = 0 ∧ SR σ y 0 (aSt A) ∧ rHi σ y (aHi A) ∧ rSv σ y (aSv A) ∧ rIn σ y (aIn A) ∧ (zO σ y 8 = (aEk A : Int) ∧ zO σ y 9 = aEp A) ∧ rFm σ y (aFm A)
/-- what a question may change -/
def KS : List Nat := [0, 13, 15, 20, 21, 30, 31, 32, 33, 34, 35, 36]
def RS : List Nat := [4, 5, 6, 7, 8, 9, 10, 11, 12, 13, 14, 15, 16, 17]
set_option maxRecDepth 100000 in
theorem RI.mr {σ σ' : HS} {y : Nat} {A : AA} {K R : List Nat} (h : RI σ y A) (m : Mr σ σ' y K R) (hK : ∀ k ∈ K, k ∈ KS := by decide) (hR : ∀ i ∈ R, i ∈ RS := by decide) : RI σ' y A := by
  have m := m.wk hK hR
  obtain ⟨a1, a2, a3, a4, a5, a6, a7, a8⟩ := h
  have e1 := m.i (i := 1) (by decide)
  have es : ∀ {B t}, SR σ y B t → SR σ' y B t := fun h => h.same (fun k _ _ => by rw [e1])
  refine ⟨a1.mr m, by rw [m.o (by decide)]; exact a2, es a3, ⟨a4.1, by rw [m.o (by decide)]; exact a4.2.1, ?_⟩, ⟨by rw [m.o (by decide)]; exact a5.1, fun t ht => es (a5.2 t ht)⟩, ⟨by rw [m.o (by decide)]; exact a6.1, a6.2.1, fun i hi => by rw [m.i (by decide)]; exact a6.2.2.1 i hi, a6.2.2.2⟩, ⟨by rw [m.o (by decide)]; exact a7.1, by rw [m.o (by decide)]; exact a7.2⟩, ⟨by rw [m.o (by decide)]; exact a8.1, a8.2.1, fun i hi => by rw [m.i (by decide)]; exact a8.2.2.1 i hi, a8.2.2.2⟩⟩
  obtain ⟨f, f1, f2, f3⟩ := a4.2.2
  exact ⟨f, f1, by rw [m.o (by decide)]; exact f2, fun i t ht => es (f3 i t ht)⟩
/-- what a call leaves: the exception, the answer, the state -/
def RQ (σ : HS) (y : Nat) (o : Out) (Q : Res → HS → Prop) : Prop := ∀ σ' v, RI σ' y o.2.2 → zO σ' y 0 = (o.1 : Int) → Md σ σ' (yr y) → (o.1 = 0 → v = o.2.1) → Q (.inl (some (vI v))) σ'
set_option maxRecDepth 100000 in
theorem RQ.ask {σ σ' : HS} {y : Nat} {A : AA} {v : Int} {Q : Res → HS → Prop} {o : Out} (hQ : RQ σ y o Q) (ho : o = (0, v, A)) (h : RI σ y A) (m : Mr σ σ' y KS RS) (ht : zO σ' y 0 = 0) : Q (.inl (some (vI v))) σ' := by
  subst ho
  exact hQ σ' v (h.mr m) ht (m.md (by decide)) (fun _ => rfl)
set_option maxRecDepth 100000 in
theorem RQ.bad {σ σ' : HS} {y : Nat} {A : AA} {k : Nat} {v w : Int} {Q : Res → HS → Prop} {o : Out} (hQ : RQ σ y o Q) (ho : o = (k + 1, v, A)) (h : RI σ y A) (m : Mr σ σ' y KS RS) (ht : zO σ' y 0 = ((k + 1 : Nat) : Int)) : Q (.inl (some (vI w))) σ' := by
  subst ho
  exact hQ σ' w (h.mr m) ht (m.md (by decide)) (fun z => absurd z (Nat.succ_ne_zero k))
