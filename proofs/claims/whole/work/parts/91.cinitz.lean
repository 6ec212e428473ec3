/-! the calculator's constructor: the two graphs, and all of it -/
section CINITZ
variable {Γ : GG} {σ σ' σ0 σ2 : HS} {Q : Res → HS → Prop} {x i : Nat}
set_option maxRecDepth 100000 in
theorem i_G {R : Res → HS → Prop} {σ1 : HS} (kk : ∀ σ2, GK σ2 (zN σ1) → zO σ2 (zN σ1) 6 = 1 → zI σ2 (zN σ1 + 4) 0 = 0 → zN σ2 = zN σ1 + 5 → Same (sNew σ1 (2, 0)) σ2 (zN σ1) → R (.inl none) σ2) : zM Γ mX2_init [vR (some (zN σ1))] (sNew σ1 (2, 0)) R :=
  i_X2 (by rw [zK_sNew, if_pos rfl]) rfl (fun k => by rw [zO_sNew, if_pos rfl]) (fun σ2 f => kk _ f.gk (zO_sOs _ _ _ _) ((f.2.2.1 3 (by decide)).2.2 0) (by have := f.2.1; show zN σ2 = _; omega) (f.2.2.2.2.tr ((Same.O (Nat.le_refl _)).tr (Same.O (Nat.le_refl _)))))
/-- the first i graphs lie behind what lay there at σ0 -/
def BI (σ0 σ : HS) (x i : Nat) : Prop := (∀ a, a < x + 511 → a ≠ x + 492 → S5 σ0 σ a) ∧ zK σ (x + 492) = (16, 2) ∧ zN σ = x + 511 + 5 * i ∧ ∀ j, j < i → zP σ (x + 492) j = some (x + 511 + 5 * j) ∧ GK σ (x + 511 + 5 * j) ∧ zO σ (x + 511 + 5 * j) 6 = 1 ∧ zI σ (x + 515 + 5 * j) 0 = 0
set_option maxRecDepth 100000 in
theorem S5tr {σ3 : HS} {a : Nat} (h : S5 σ σ2 a) (h' : S5 σ2 σ3 a) : S5 σ σ3 a := ⟨h'.1.trans h.1, h'.2.1.trans h.2.1, h'.2.2.1.trans h.2.2.1, h'.2.2.2.1.trans h.2.2.2.1, h'.2.2.2.2.trans h.2.2.2.2⟩
set_option maxRecDepth 100000 in
theorem GK.sP9 {r k b : Nat} {v : Option Nat} (h : GK σ b) (hr : r ≠ b) : GK (sP σ r k v) b := by
  obtain ⟨a0, a1, a2, a3, a4, a5, a6, a7, a8⟩ := h
  exact ⟨a0, by rw [zP_sPa _ _ _ _ (by omega)]; exact a1, by rw [zP_sPa _ _ _ _ (by omega)]; exact a2, by rw [zP_sPa _ _ _ _ (by omega)]; exact a3, by rw [zP_sPa _ _ _ _ (by omega)]; exact a4, a5, a6, a7, a8⟩
set_option maxRecDepth 100000 in
theorem BI.step (H : BI σ0 σ x i) (h1 : GK σ2 (zN σ)) (h2 : zO σ2 (zN σ) 6 = 1) (h3 : zI σ2 (zN σ + 4) 0 = 0) (hn : zN σ2 = zN σ + 5) (hs : Same (sNew σ (2, 0)) σ2 (zN σ)) : BI σ0 (sP σ2 (x + 492) i (some (zN σ))) x (i + 1) := by
  obtain ⟨a1, a2, n1, p1⟩ := H
  have e : ∀ a, a < zN σ → S5 σ σ2 a := fun a ha => ((Same.nw (c := (2, 0)) (Nat.le_refl _)).tr hs) a ha
  have e0 := e (x + 492) (by omega)
  refine ⟨fun a ha hb => ?_, by rw [zK_sP, e0.1]; exact a2, by show zN σ2 = _; omega, fun j hj => ?_⟩
  · obtain ⟨b1, b2, b3, b4, b5⟩ := a1 a ha hb
    obtain ⟨c1, c2, c3, c4, c5⟩ := e a (by omega)
    exact ⟨c1.trans b1, c2.trans b2, c3.trans b3, c4.trans b4, (funext fun k => zP_sPa _ _ _ _ hb).trans (c5.trans b5)⟩
  · by_cases q : j = i
    · subst q
      rw [n1] at h1 h2 h3
      have e4 : x + 511 + 5 * j + 4 = x + 515 + 5 * j := by omega
      rw [e4] at h3
      exact ⟨by rw [zP_sPs, n1], h1.sP9 (by omega), h2, h3⟩
    · obtain ⟨q1, q2, q3, q4⟩ := p1 j (by omega)
      refine ⟨?_, GK.sP9 (q2.sm (fun a _ z2 => e a (by omega))) (by omega), ?_, ?_⟩
      · rw [zP_sPk _ _ _ _ q, e0.2.2.2.2]; exact q1
      · rw [zO_sP, (e (x + 511 + 5 * j) (by omega)).2.1]; exact q3
      · rw [zI_sP, (e (x + 515 + 5 * j) (by omega)).2.2.1]; exact q4
set_option maxRecDepth 100000 in
theorem i_X9 (hk : zK σ x = (9, 0)) (hn : zN σ = x + 1) (ho : ∀ k, zO σ x k = 0) (hQ : ∀ σ', (∀ σ3, (∀ a, x ≤ a → a < x + 521 → S5 σ' σ3 a) → CI σ3 x A0) → zN σ' = x + 521 → Same σ σ' x → Q (.inl none) σ') : zM Γ mX9_init [vR (some x)] σ Q := by
  refine i_X9a hk hn ho (fun σ1 cu su hcu hsu k1 o1 ps ci n1 m1 => ?_)
  obtain ⟨p0, p2, p3, p5, p6, p7, p8, p9, p10, p11, p12, p13⟩ := ps
  obtain ⟨c1, c2, c3, c4, c5, c6, c7, c8, c9, ca, cb, cc, cd, ce, cf, cg, ch⟩ := ci
  have w0 : BI σ1 σ1 x 0 := ⟨fun a _ _ => ⟨rfl, rfl, rfl, rfl, rfl⟩, c8, n1, fun j hj => absurd hj (Nat.not_lt_zero j)⟩
  have loop : ∀ m i cu su σ2, i + m = 2 → BI σ1 σ2 x i → cu ≤ 510 + 5 * i → su ≤ 1066328 + 3912 * i → zW Γ mX9_init 139 [some (vR (some x)), some (vI i)] [] σ2 cu su Q := by
    intro m
    induction m with
    | zero =>
      intro i cu su σ2 hi H hc hs
      have e : i = 2 := by omega
      subst e
      obtain ⟨a1, a2, n2, q1⟩ := H
      refine zW_iload_n dX9_init_139 rfl ?_
      refine zW_iconst dX9_init_140 ?_
      refine zW_icmp_ge (tgt := 163) dX9_init_141 (by decide) (by first | assumption | omega | (unfold InR; omega) | (unfold InL; omega) | (simp only [InR] at *; omega)) (by first | assumption | omega | (unfold InR; omega) | (unfold InL; omega) | (simp only [InR] at *; omega)) (fun b => ?_) (fun b => ?_)
      · refine zW_return dX9_init_163 rfl (by first | decide | (show _ ≤ (520 : Nat); omega)) (by first | decide | (show _ ≤ (1074152 : Nat); omega)) ?_
        refine hQ σ2 (fun σ3 e3 => ?_) n2 (m1.tr (fun a ha => a1 a (by omega) (by omega)))
        have b1 : ∀ a, x ≤ a → a < x + 511 → a ≠ x + 492 → S5 σ1 σ3 a := fun a z0 z1 z2 => S5tr (a1 a z1 z2) (e3 a z0 (by omega))
        have e9 := e3 (x + 492) (by omega) (by omega)
        have r1 : ∀ j, j < 2 → zP σ3 (x + 492) j = some (x + 511 + 5 * j) ∧ GK σ3 (x + 511 + 5 * j) ∧ zO σ3 (x + 511 + 5 * j) 6 = 1 ∧ zI σ3 (x + 515 + 5 * j) 0 = 0 := fun j hj => by
          obtain ⟨g1, g2, g3, g4⟩ := q1 j hj
          exact ⟨by rw [e9.2.2.2.2]; exact g1, g2.sm (fun a z1 z2 => e3 a (by omega) (by omega)), by rw [(e3 (x + 511 + 5 * j) (by omega) (by omega)).2.1]; exact g3, by rw [(e3 (x + 515 + 5 * j) (by omega) (by omega)).2.2.1]; exact g4⟩
        have ex := b1 x (by omega) (by omega) (by omega)
        refine ⟨⟨⟨?_, ?_, ?_, ?_, ?_, ?_, ?_, ?_, ?_, ?_, ?_, ?_, ?_, ?_, by rw [e9.1]; exact a2, (r1 0 (by decide)).1, (r1 1 (by decide)).1⟩, c3.sm (fun a z1 z2 => b1 a (by omega) (by omega) (by omega)), c5.sm (fun a z1 z2 => b1 a (by omega) (by omega) (by omega)), c9.sm (fun a z1 z2 => b1 a (by omega) (by omega) (by omega)), cb.sm (fun a z1 z2 => b1 a (by omega) (by omega) (by omega)), ce.sm (fun a z1 z2 => b1 a (by omega) (by omega) (by omega)), cf.sm (b1 _ (by omega) (by omega) (by omega)) (b1 _ (by omega) (by omega) (by omega)), cg.sm (b1 _ (by omega) (by omega) (by omega)) (b1 _ (by omega) (by omega) (by omega)), (r1 0 (by decide)).2.1, (r1 1 (by decide)).2.1⟩, ⟨?_, Nat.zero_le _, fun j hj => absurd hj (Nat.not_lt_zero j), fun y hy => by cases hy⟩, c2.sm (fun a z1 z2 => b1 a (by omega) (by omega) (by omega)), ⟨?_, fun t ht => by cases ht⟩, c4.sm (fun a z1 z2 => b1 a (by omega) (by omega) (by omega)), ⟨?_, ?_⟩, ⟨?_, fun p _ => ?_⟩, ch.sm (fun a z1 z2 => b1 a (by omega) (by omega) (by omega)), fun g hg => ⟨(r1 g hg).2.2.2, Or.inl (r1 g hg).2.2.1⟩, Or.inl ?_⟩
        · rw [ex.1]; exact k1
        · rw [ex.2.2.2.2]; exact p0
        · rw [ex.2.2.2.2]; exact p2
        · rw [ex.2.2.2.2]; exact p3
        · rw [ex.2.2.2.2]; exact p5
        · rw [ex.2.2.2.2]; exact p6
        · rw [ex.2.2.2.2]; exact p7
        · rw [ex.2.2.2.2]; exact p8
        · rw [ex.2.2.2.2]; exact p9
        · rw [ex.2.2.2.2]; exact p10
        · rw [ex.2.2.2.2]; exact p11
        · rw [ex.2.2.2.2]; exact p12
        · rw [ex.2.2.2.2]; exact p13
        · rw [(b1 (x + 1) (by omega) (by omega) (by omega)).1]; exact c1
        · rw [ex.2.1]; exact o1 1
        · rw [ex.2.1]; exact o1 4
        · rw [(b1 (x + 444) (by omega) (by omega) (by omega)).2.1]; exact c6
        · rw [(b1 (x + 444) (by omega) (by omega) (by omega)).2.1]; exact c7
        · rw [(b1 (x + 493) (by omega) (by omega) (by omega)).2.1]; exact ca
        · rw [(b1 (x + 501) (by omega) (by omega) (by omega)).2.2.1]; exact cd p
        · rw [(b1 (x + 500) (by omega) (by omega) (by omega)).2.1]; exact cc
      · exact absurd b (by decide)
    | succ m ih =>
      intro i cu su σ2 hi H hc hs
      have hN := H.2.2.1
      have kx : zK σ2 x = (9, 0) := by rw [(H.1 x (by omega) (by omega)).1]; exact k1
      have px : zP σ2 x 7 = some (x + 492) := by rw [(H.1 x (by omega) (by omega)).2.2.2.2]; exact p7
      refine zW_iload_n dX9_init_139 rfl ?_
      refine zW_iconst dX9_init_140 ?_
      refine zW_icmp_ge (tgt := 163) dX9_init_141 (by decide) (by first | assumption | omega | (unfold InR; omega) | (unfold InL; omega) | (simp only [InR] at *; omega)) (by first | assumption | omega | (unfold InR; omega) | (unfold InL; omega) | (simp only [InR] at *; omega)) (fun b => ?_) (fun b => ?_)
      · exact absurd b (by omega)
      · refine zW_aload_n dX9_init_144 rfl ?_
        refine zgP dX9_init_145 fX9_39 kx rfl px ?_
        refine zW_iload_n dX9_init_148 rfl ?_
        refine zW_new (ci := 2) dX9_init_149 (by decide) b151 b240 b11 (by show _ ≤ (520 : Nat); first | omega | exact Nat.le_of_ble_eq_true rfl | (simp only [zcn, zcl]; omega)) (by show _ ≤ (1074152 : Nat); first | omega | exact Nat.le_of_ble_eq_true rfl | (simp only [zcn, zcl]; omega)) ?_
        refine zW_dup dX9_init_152 rfl ?_
        refine zcIN0 dX9_init_153 rfl eX2_init (host := RX9) (by decide +kernel) ⟨by decide, by decide, (by show cu + 1 + 4 ≤ 520; omega), (by show su + 7 + 3905 ≤ 1074152; omega)⟩ rfl rfl rfl (Nat.le_of_ble_eq_true rfl) (i_G (fun σ3 g1 g2 g3 hn3 hs3 => ?_))
        have h2 := H.step g1 g2 g3 hn3 hs3
        have k3 : zK σ3 (x + 492) = (16, 2) := h2.2.1
        have k2 : zK σ3 (zN σ2) = (2, 0) := g1.1
        refine zW_aast dX9_init_156 k3 (by decide) (by decide) (by first | assumption | omega | (unfold InR; omega) | (unfold InL; omega) | (simp only [InR] at *; omega)) (by first | assumption | omega | (unfold InR; omega) | (unfold InL; omega) | (simp only [InR] at *; omega)) (by first | assumption | omega | (unfold InR; omega) | (unfold InL; omega) | (simp only [InR] at *; omega)) (congrArg Prod.fst k2) (by decide) rfl ?_
        refine zW_iinc dX9_init_157 rfl (by decide) rfl rfl ?_
        refine zW_goto (tgt := 139) dX9_init_160 (by decide) ?_
        exact ih (i + 1) _ _ _ (by omega) h2 (by show cu + 1 + 4 ≤ _; omega) (by show su + 7 + 3905 ≤ _; omega)
  refine zW_iconst dX9_init_137 ?_
  refine zW_istore_n dX9_init_138 (by decide) rfl rfl ?_
  exact loop 2 0 _ _ σ1 (by omega) w0 hcu hsu
end CINITZ
