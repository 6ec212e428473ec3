/-! the calculator's constructor -/
section CINITX
variable {Γ : GG} {σ σ' σ0 σ2 : HS} {Q : Res → HS → Prop} {x s : Nat} {v : Option Nat}
set_option maxRecDepth 100000 in
theorem XS (hx : x < zN σ) (m : Same σ σ2 (zN σ)) : (∀ a, a ≠ x → a < zN σ → S5 σ (sP σ2 x s v) a) ∧ zK (sP σ2 x s v) x = zK σ x ∧ zO (sP σ2 x s v) x = zO σ x ∧ (∀ k, k ≠ s → zP (sP σ2 x s v) x k = zP σ x k) ∧ zP (sP σ2 x s v) x s = v := by
  refine ⟨fun a ha h => ?_, ?_, ?_, fun k hk => ?_, zP_sPs _ _ _ _⟩
  · obtain ⟨b1, b2, b3, b4, b5⟩ := m a h
    exact ⟨b1, b2, b3, b4, (funext fun k => zP_sPa _ _ _ _ ha).trans b5⟩
  · exact (m x hx).1
  · exact (m x hx).2.1
  · exact (zP_sPk _ _ _ _ hk).trans (congrFun (m x hx).2.2.2.2 k)
end CINITX
