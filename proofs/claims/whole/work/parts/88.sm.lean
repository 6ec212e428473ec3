/-! what was laid down stays as it is while others are laid behind it -/
section SMS
variable {σ σ' : HS} {b : Nat} {hi : List ST} {l : List Nat}
set_option maxRecDepth 100000 in
theorem HK.sm (h : HK σ b) (e : ∀ a, b ≤ a → a < b + 354 → S5 σ σ' a) : HK σ' b := by
  obtain ⟨a0, a1, a2, a3, a4⟩ := h
  have e0 := e b (by omega) (by omega)
  have e1 := e (b + 1) (by omega) (by omega)
  exact ⟨by rw [e0.1]; exact a0, by rw [e0.2.2.2.2]; exact a1, by rw [e1.1]; exact a2, fun i hi => by rw [e1.2.2.2.2]; exact a3 i hi, fun i hi => (a4 i hi).sm (fun a z1 z2 => e a (by omega) (by omega))⟩
set_option maxRecDepth 100000 in
theorem HD.sm (h : HD σ b hi) (e : ∀ a, b ≤ a → a < b + 354 → S5 σ σ' a) : HD σ' b hi := by
  obtain ⟨h0, h1, h2, nx, h3, h4, h5⟩ := h
  have e0 := e b (by omega) (by omega)
  refine ⟨h0.sm e, h1, by rw [e0.2.1]; exact h2, nx, h3, by rw [e0.2.1]; exact h4, fun i t ht => SD.sm (h5 i t ht) (fun a z1 z2 => e a (by omega) ?_)⟩
  have : (nx + 7 - i) % 8 < 8 := Nat.mod_lt _ (by decide)
  omega
set_option maxRecDepth 100000 in
theorem PK.sm (h : PK σ b) (e : ∀ a, b ≤ a → a < b + 47 → S5 σ σ' a) : PK σ' b := by
  obtain ⟨a0, a1, a2, a3, a4⟩ := h
  have e0 := e b (by omega) (by omega)
  exact ⟨by rw [e0.1]; exact a0, by rw [e0.2.2.2.2]; exact a1, by rw [e0.2.2.2.2]; exact a2, a3.sm (fun a z1 z2 => e a (by omega) (by omega)), a4.sm (e _ (by omega) (by omega)) (e _ (by omega) (by omega))⟩
set_option maxRecDepth 100000 in
theorem FOK.sm (h : FOK σ b) (e : ∀ a, b ≤ a → a < b + 7 → S5 σ σ' a) : FOK σ' b := by
  obtain ⟨a0, a1, a2, a3, a4, a5, a6, a7, a8, a9, a10, a11, a12⟩ := h
  have e0 := e b (by omega) (by omega)
  exact ⟨by rw [e0.1]; exact a0, by rw [e0.2.2.2.2]; exact a1, by rw [e0.2.2.2.2]; exact a2, by rw [e0.2.2.2.2]; exact a3, by rw [e0.2.2.2.2]; exact a4, by rw [e0.2.2.2.2]; exact a5, by rw [e0.2.2.2.2]; exact a6, by rw [(e (b + 1) (by omega) (by omega)).1]; exact a7, by rw [(e (b + 2) (by omega) (by omega)).1]; exact a8, by rw [(e (b + 3) (by omega) (by omega)).1]; exact a9, by rw [(e (b + 4) (by omega) (by omega)).1]; exact a10, by rw [(e (b + 5) (by omega) (by omega)).1]; exact a11, by rw [(e (b + 6) (by omega) (by omega)).1]; exact a12⟩
set_option maxRecDepth 100000 in
theorem IK.sm (h : IK σ b) (e : ∀ a, b ≤ a → a < b + 3 → S5 σ σ' a) : IK σ' b := by
  obtain ⟨a0, a1, a2, a3, a4⟩ := h
  have e0 := e b (by omega) (by omega)
  exact ⟨by rw [e0.1]; exact a0, by rw [e0.2.2.2.2]; exact a1, by rw [e0.2.2.2.2]; exact a2, by rw [(e (b + 1) (by omega) (by omega)).1]; exact a3, by rw [(e (b + 2) (by omega) (by omega)).1]; exact a4⟩
set_option maxRecDepth 100000 in
theorem MK.sm (h : MK σ b) (e : ∀ a, b ≤ a → a < b + 2 → S5 σ σ' a) : MK σ' b := by
  obtain ⟨a0, a1, a2⟩ := h
  have e0 := e b (by omega) (by omega)
  exact ⟨by rw [e0.1]; exact a0, by rw [e0.2.2.2.2]; exact a1, by rw [(e (b + 1) (by omega) (by omega)).1]; exact a2⟩
set_option maxRecDepth 100000 in
theorem FD.sm (h : FD σ b l) (e : ∀ a, b ≤ a → a < b + 2 → S5 σ σ' a) : FD σ' b l := by
  obtain ⟨⟨a0, a1, a2⟩, a3, a4, a5, a6⟩ := h
  have e0 := e b (by omega) (by omega)
  have e1 := e (b + 1) (by omega) (by omega)
  exact ⟨⟨by rw [e0.1]; exact a0, by rw [e0.2.2.2.2]; exact a1, by rw [e1.1]; exact a2⟩, by rw [e0.2.1]; exact a3, a4, fun j hj => by rw [e1.2.2.1]; exact a5 j hj, a6⟩
set_option maxRecDepth 100000 in
theorem GK.sm (h : GK σ b) (e : ∀ a, b ≤ a → a < b + 5 → S5 σ σ' a) : GK σ' b := by
  obtain ⟨a0, a1, a2, a3, a4, a5, a6, a7, a8⟩ := h
  have e0 := e b (by omega) (by omega)
  exact ⟨by rw [e0.1]; exact a0, by rw [e0.2.2.2.2]; exact a1, by rw [e0.2.2.2.2]; exact a2, by rw [e0.2.2.2.2]; exact a3, by rw [e0.2.2.2.2]; exact a4, by rw [(e (b + 1) (by omega) (by omega)).1]; exact a5, by rw [(e (b + 2) (by omega) (by omega)).1]; exact a6, by rw [(e (b + 3) (by omega) (by omega)).1]; exact a7, by rw [(e (b + 4) (by omega) (by omega)).1]; exact a8⟩
set_option maxRecDepth 100000 in
theorem FG.fok {σ0 : HS} (h : FG 0 [0, 1, 3, 4, 6, 7] [(13, 2840), (13, 355), (13, 2841), (13, 2841), (13, 355), (13, 355)] σ0 σ b 6) : FOK σ b := by
  obtain ⟨h1, h2, h3, h4, h5⟩ := h
  exact ⟨h1, (h3 0 (by decide)).1, (h3 1 (by decide)).1, (h3 2 (by decide)).1, (h3 3 (by decide)).1, (h3 4 (by decide)).1, (h3 5 (by decide)).1, (h3 0 (by decide)).2.1, (h3 1 (by decide)).2.1, (h3 2 (by decide)).2.1, (h3 3 (by decide)).2.1, (h3 4 (by decide)).2.1, (h3 5 (by decide)).2.1⟩
set_option maxRecDepth 100000 in
theorem FG.ik {σ0 : HS} (h : FG 4 [0, 1] [(15, 126025), (13, 126025)] σ0 σ b 2) : IK σ b := by
  obtain ⟨h1, h2, h3, h4, h5⟩ := h
  exact ⟨h1, (h3 0 (by decide)).1, (h3 1 (by decide)).1, (h3 0 (by decide)).2.1, (h3 1 (by decide)).2.1⟩
set_option maxRecDepth 100000 in
theorem FG.mk {σ0 : HS} (h : FG 5 [0] [(14, 341)] σ0 σ b 1) : MK σ b := by
  obtain ⟨h1, h2, h3, h4, h5⟩ := h
  exact ⟨h1, (h3 0 (by decide)).1, (h3 0 (by decide)).2.1⟩
set_option maxRecDepth 100000 in
theorem FG.fd {σ0 : HS} (h : FG 1 [0] [(12, 180)] σ0 σ b 1) : FD σ b [] := by
  obtain ⟨h1, h2, h3, h4, h5⟩ := h
  exact ⟨⟨h1, (h3 0 (by decide)).1, (h3 0 (by decide)).2.1⟩, h4 1, Nat.zero_le _, fun j hj => absurd hj (Nat.not_lt_zero j), fun y hy => by cases hy⟩
set_option maxRecDepth 100000 in
theorem FG.gk {σ0 : HS} (h : FG 2 [0, 1, 2, 3] [(13, 2840), (13, 355), (13, 355), (13, 355)] σ0 σ b 4) : GK σ b := by
  obtain ⟨h1, h2, h3, h4, h5⟩ := h
  exact ⟨h1, (h3 0 (by decide)).1, (h3 1 (by decide)).1, (h3 2 (by decide)).1, (h3 3 (by decide)).1, (h3 0 (by decide)).2.1, (h3 1 (by decide)).2.1, (h3 2 (by decide)).2.1, (h3 3 (by decide)).2.1⟩
end SMS
