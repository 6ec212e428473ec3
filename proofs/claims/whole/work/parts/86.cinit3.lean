/-! the constructors of the history and of the parser -/
section CINITH
variable {Γ : GG} {σ σ' σ0 σ2 : HS} {Q : Res → HS → Prop} {s h i r k w b cap : Nat} {l : List Nat} {t : ST}
set_option maxRecDepth 100000 in
theorem Wk.sm (h : Wk σ w b cap) (e1 : S5 σ σ' w) (e2 : S5 σ σ' b) : Wk σ' w b cap := ⟨by rw [e1.1]; exact h.1, by rw [e1.2.2.2.2]; exact h.2.1, by rw [e2.1]; exact h.2.2.1, h.2.2.2⟩
set_option maxRecDepth 100000 in
theorem SK.sm (h : SK σ s) (e : ∀ a, s ≤ a → a < s + 44 → S5 σ σ' a) : SK σ' s := by
  obtain ⟨a0, a1, a2, a3, a4, a5, a6, a7, a8, a9⟩ := h
  have e0 := e s (by omega) (by omega)
  have e1 := e (s + 1) (by omega) (by omega)
  have e2 := e (s + 2) (by omega) (by omega)
  have e3 := e (s + 3) (by omega) (by omega)
  exact ⟨by rw [e0.1]; exact a0, by rw [e0.2.2.2.2]; exact a1, by rw [e0.2.2.2.2]; exact a2, by rw [e0.2.2.2.2]; exact a3, by rw [e1.1]; exact a4, by rw [e2.1]; exact a5, by rw [e3.1]; exact a6, fun j hj => by rw [e1.2.2.2.2]; exact a7 j hj, fun j hj => by rw [e2.2.2.2.2]; exact a8 j hj, fun j hj => (a9 j hj).sm (e _ (by omega) (by omega)) (e _ (by omega) (by omega))⟩
set_option maxRecDepth 100000 in
theorem SD.sm (h : SD σ s t) (e : ∀ a, s ≤ a → a < s + 44 → S5 σ σ' a) : SD σ' s t := by
  have e0 := e s (by omega) (by omega)
  have e3 := e (s + 3) (by omega) (by omega)
  refine ⟨h.1.sm e, by rw [e0.2.1]; exact h.2.1, fun r hr => Wd.sm (h.2.2.1 r hr) (e _ (by omega) (by omega)) (e _ (by omega) (by omega)), fun g hg => ?_⟩
  obtain ⟨b1, b2, b3⟩ := h.2.2.2 g hg
  exact ⟨by rw [e3.2.2.1]; exact b1, b2, fun k hk => Wd.sm (b3 k hk) (e _ (by omega) (by omega)) (e _ (by omega) (by omega))⟩
set_option maxRecDepth 100000 in
theorem Same.nx (h : Same σ (sNew σ (r, k)) w) (h2 : Same (sNew σ (r, k)) σ2 w) : Same σ σ2 w := h.tr h2
def HI (σ0 σ : HS) (h i : Nat) : Prop := zK σ h = (3, 0) ∧ zP σ h 0 = some (h + 1) ∧ zK σ (h + 1) = (17, 8) ∧ zN σ = h + 2 + 44 * i ∧ (∀ k, zO σ h k = 0) ∧ (∀ j, j < i → zP σ (h + 1) j = some (h + 2 + 44 * j)) ∧ (∀ j, j < i → SK σ (h + 2 + 44 * j)) ∧ Same σ0 σ h
set_option maxRecDepth 100000 in
theorem HI.step (H : HI σ0 σ h i) (hw : SK σ2 (zN σ)) (hn : zN σ2 = zN σ + 44) (hs : Same (sNew σ (7, 0)) σ2 (zN σ)) : HI σ0 (sP σ2 (h + 1) i (some (zN σ))) h (i + 1) := by
  obtain ⟨a1, a2, a3, n1, o1, p1, k1, m1⟩ := H
  have e : ∀ a, a < zN σ → S5 σ σ2 a := fun a ha => ((Same.nw (c := (7, 0)) (Nat.le_refl _)).tr hs) a ha
  have e0 := e h (by omega)
  have e1 := e (h + 1) (by omega)
  refine ⟨by rw [zK_sP, e0.1]; exact a1, by rw [zP_sPa _ _ _ _ (by omega), e0.2.2.2.2]; exact a2, by rw [zK_sP, e1.1]; exact a3, by show zN σ2 = _; omega, fun k => by rw [zO_sP, e0.2.1]; exact o1 k, fun j hj => ?_, fun j hj => ?_, fun a ha => ?_⟩
  · by_cases q : j = i
    · subst q
      rw [zP_sPs, n1]
    · rw [zP_sPk _ _ _ _ q, e1.2.2.2.2]; exact p1 j (by omega)
  · by_cases q : j = i
    · subst q
      rw [n1] at hw
      exact hw.sp (by omega)
    · exact SK.sp ((k1 j (by omega)).sm (fun a _ z2 => e a (by omega))) (by omega)
  · obtain ⟨b1, b2, b3, b4, b5⟩ := m1 a ha
    obtain ⟨c1, c2, c3, c4, c5⟩ := e a (by omega)
    exact ⟨c1.trans b1, c2.trans b2, c3.trans b3, c4.trans b4, (funext fun k => zP_sPa _ _ _ _ (by omega)).trans (c5.trans b5)⟩
set_option maxRecDepth 100000 in
theorem i_S {R : Res → HS → Prop} {σ1 : HS} (kk : ∀ σ2, SD σ2 (zN σ1) S0 → zN σ2 = zN σ1 + 44 → Same (sNew σ1 (7, 0)) σ2 (zN σ1) → R (.inl none) σ2) : zM Γ mX7_init [vR (some (zN σ1))] (sNew σ1 (7, 0)) R :=
  i_X7 (by rw [zK_sNew, if_pos rfl]) rfl (fun k => by rw [zO_sNew, if_pos rfl]) kk
set_option maxRecDepth 100000 in
theorem i_X3 (hk : zK σ h = (3, 0)) (hn : zN σ = h + 1) (ho : ∀ k, zO σ h k = 0) (hQ : ∀ σ', HD σ' h [] → zN σ' = h + 354 → Same σ σ' h → Q (.inl none) σ') : zM Γ mX3_init [vR (some h)] σ Q := by
  refine zM_of (n := 1) (by decide +kernel) rfl rfl rfl ?_
  have f0 : FG 3 [0] [(17, 8)] σ σ h 0 := ⟨hk, by omega, fun i hi => absurd hi (Nat.not_lt_zero i), ho, Same.rf⟩
  refine zW_aload_n dX3_init_0 rfl ?_
  refine zW_objInit dX3_init_1 b95 b32 b33 (by decide) (by decide) ?_
  refine zW_aload_n dX3_init_4 rfl ?_
  refine zW_bipush dX3_init_5 (by decide) ?_
  refine zW_newq (ci := 7) (K := 17) dX3_init_7 (by decide) (by decide) (by decide) rfl b96 (by decide) (by first | assumption | omega | (unfold InR; omega) | (unfold InL; omega) | (simp only [InR] at *; omega)) (by first | assumption | omega | (unfold InR; omega) | (unfold InL; omega) | (simp only [InR] at *; omega)) (by show _ ≤ (353 : Nat); omega) (by show _ ≤ (576536 : Nat); omega) ?_
  refine zpP dX3_init_10 fX3_11 f0.new rfl (Or.inr ⟨rfl, rfl⟩) (Or.inl rfl) ?_
  refine zW_iconst dX3_init_13 ?_
  refine zW_istore_n dX3_init_14 (by decide) rfl rfl ?_
  have f1 := f0.step (s := 0) (c := (17, 8)) (by decide) rfl rfl
  change zW _ _ _ _ _ (sP (sNew σ (17, 8)) h 0 (some (zN σ))) _ _ _
  generalize sP (sNew σ (17, 8)) h 0 (some (zN σ)) = s1 at f1 ⊢
  obtain ⟨g1, g2, g3, g4, g5⟩ := f1
  have w0 : HI σ s1 h 0 := ⟨g1, (g3 0 (by decide)).1, (g3 0 (by decide)).2.1, g2, g4, fun j hj => absurd hj (Nat.not_lt_zero j), fun j hj => absurd hj (Nat.not_lt_zero j), g5⟩
  have loop : ∀ m i cu su σ1, i + m = 8 → HI σ σ1 h i → cu ≤ 1 + 44 * i → su ≤ 8 + 72066 * i → zW Γ mX3_init 15 [some (vR (some h)), some (vI i)] [] σ1 cu su Q := by
    intro m
    induction m with
    | zero =>
      intro i cu su σ1 hi H hc hs
      have e : i = 8 := by omega
      subst e
      obtain ⟨a1, a2, a3, n1, o1, p1, k1, m1⟩ := H
      refine zW_iload_n dX3_init_15 rfl ?_
      refine zW_bipush dX3_init_16 (by decide) ?_
      refine zW_icmp_ge (tgt := 40) dX3_init_18 (by decide) (by first | assumption | omega | (unfold InR; omega) | (unfold InL; omega) | (simp only [InR] at *; omega)) (by first | assumption | omega | (unfold InR; omega) | (unfold InL; omega) | (simp only [InR] at *; omega)) (fun b => ?_) (fun b => ?_)
      · refine zW_return dX3_init_40 rfl (by first | decide | (show _ ≤ (353 : Nat); omega)) (by first | decide | (show _ ≤ (576536 : Nat); omega)) ?_
        exact hQ σ1 ⟨⟨a1, a2, a3, p1, k1⟩, Nat.zero_le _, o1 2, 0, by decide, o1 1, fun i t ht => absurd (show ([] : List ST)[i]? = some t from ht) (by simp)⟩ n1 m1
      · exact absurd b (by decide)
    | succ m ih =>
      intro i cu su σ1 hi H hc hs
      have hN := H.2.2.2.1
      refine zW_iload_n dX3_init_15 rfl ?_
      refine zW_bipush dX3_init_16 (by decide) ?_
      refine zW_icmp_ge (tgt := 40) dX3_init_18 (by decide) (by first | assumption | omega | (unfold InR; omega) | (unfold InL; omega) | (simp only [InR] at *; omega)) (by first | assumption | omega | (unfold InR; omega) | (unfold InL; omega) | (simp only [InR] at *; omega)) (fun b => ?_) (fun b => ?_)
      · exact absurd b (by omega)
      · refine zW_aload_n dX3_init_21 rfl ?_
        refine zgP dX3_init_22 fX3_11 H.1 rfl H.2.1 ?_
        refine zW_iload_n dX3_init_25 rfl ?_
        refine zW_new (ci := 7) dX3_init_26 (by decide) b96 b35 b2 (by show _ ≤ (353 : Nat); first | omega | (simp only [zcn, zcl]; omega)) (by show _ ≤ (576536 : Nat); first | omega | (simp only [zcn, zcl]; omega)) ?_
        refine zW_dup dX3_init_29 rfl ?_
        refine zcI0 dX3_init_30 rfl eX7_init b98 ⟨by decide, by decide, (by show cu + 1 + 43 ≤ 353; omega), (by show su + 4 + 72062 ≤ 576536; omega)⟩ rfl rfl rfl (Nat.le_of_ble_eq_true rfl) (i_S (fun σ2 hw hn2 hs2 => ?_))
        have h2 := H.step hw.1 hn2 hs2
        have k1 : zK σ2 (h + 1) = (17, 8) := h2.2.2.1
        have k2 : zK σ2 (zN σ1) = (7, 0) := hw.1.1
        refine zW_aast dX3_init_33 k1 (by decide) (by decide) (by first | assumption | omega | (unfold InR; omega) | (unfold InL; omega) | (simp only [InR] at *; omega)) (by first | assumption | omega | (unfold InR; omega) | (unfold InL; omega) | (simp only [InR] at *; omega)) (by first | assumption | omega | (unfold InR; omega) | (unfold InL; omega) | (simp only [InR] at *; omega)) (congrArg Prod.fst k2) (by decide) rfl ?_
        refine zW_iinc dX3_init_34 rfl (by decide) rfl rfl ?_
        refine zW_goto (tgt := 15) dX3_init_37 (by decide) ?_
        exact ih (i + 1) _ _ _ (by omega) h2 (by show cu + 1 + 43 ≤ _; omega) (by show su + 4 + 72062 ≤ _; omega)
  exact loop 8 0 _ _ s1 (by omega) w0 (by decide) (by decide)
end CINITH
