/-! the constructor of a state -/
section CINITS
variable {Γ : GG} {σ σ' σ0 σ2 : HS} {Q : Res → HS → Prop} {s i r k w b cap : Nat} {l : List Nat}
def S0 : ST := (2, fun _ => [], fun _ => [])
abbrev S5 (σ σ' : HS) (a : Nat) : Prop := zK σ' a = zK σ a ∧ zO σ' a = zO σ a ∧ zI σ' a = zI σ a ∧ zJ σ' a = zJ σ a ∧ zP σ' a = zP σ a
set_option maxRecDepth 100000 in
theorem Wd.sm (h : Wd σ w b cap l) (e1 : S5 σ σ' w) (e2 : S5 σ σ' b) : Wd σ' w b cap l := by
  obtain ⟨⟨h1, h2, h3, h4⟩, h5, h6, h7, h8⟩ := h
  exact ⟨⟨by rw [e1.1]; exact h1, by rw [e1.2.2.2.2]; exact h2, by rw [e2.1]; exact h3, h4⟩, by rw [e1.2.1]; exact h5, h6, fun j hj => by rw [e2.2.2.1]; exact h7 j hj, h8⟩
def WI (σ0 σ : HS) (s i : Nat) : Prop := (zK σ s = (7, 0) ∧ zP σ s 0 = some (s + 1) ∧ zP σ s 1 = some (s + 2) ∧ zP σ s 2 = some (s + 3) ∧ zK σ (s + 1) = (18, 8) ∧ zK σ (s + 2) = (18, 12) ∧ zK σ (s + 3) = (13, 2)) ∧ zN σ = s + 4 + 2 * i ∧ zO σ s 3 = 2 ∧ (∀ k, zI σ (s + 3) k = 0) ∧ (∀ j, j < i → Wd σ (s + 4 + 2 * j) (s + 5 + 2 * j) 60 []) ∧ (∀ j, j < i → j < 8 → zP σ (s + 1) j = some (s + 4 + 2 * j)) ∧ (∀ j, j + 8 < i → zP σ (s + 2) j = some (s + 4 + 2 * (j + 8))) ∧ Same σ0 σ s
set_option maxRecDepth 100000 in
theorem WI.step (h : WI σ0 σ s i) (hw : Wd σ2 (zN σ) (zN (sNew σ (8, 0))) 60 []) (hn : zN σ2 = zN (sNew σ (8, 0)) + 1) (hs : ∀ a, a ≠ zN σ → a < zN (sNew σ (8, 0)) → S5 (sNew σ (8, 0)) σ2 a) (hr : (r = s + 1 ∧ k = i ∧ i < 8) ∨ (r = s + 2 ∧ k + 8 = i)) : WI σ0 (sP σ2 r k (some (zN σ))) s (i + 1) := by
  obtain ⟨⟨a1, a2, a3, a4, a5, a6, a7⟩, n1, o1, i1, w1, p1, p2, m1⟩ := h
  have nn : zN (sNew σ (8, 0)) = zN σ + 1 := rfl
  have e : ∀ a, a < zN σ → S5 σ σ2 a := fun a ha => by
    obtain ⟨b1, b2, b3, b4, b5⟩ := hs a (by omega) (by omega)
    obtain ⟨c1, c2, c3, c4, c5⟩ := (Same.nw (σ := σ) (c := (8, 0)) (y := zN σ) (Nat.le_refl _)) a ha
    exact ⟨b1.trans c1, b2.trans c2, b3.trans c3, b4.trans c4, b5.trans c5⟩
  have e0 := e s (by omega)
  have e1 := e (s + 1) (by omega)
  have e2 := e (s + 2) (by omega)
  have e3 := e (s + 3) (by omega)
  refine ⟨⟨by rw [zK_sP, e0.1]; exact a1, ?_, ?_, ?_, by rw [zK_sP, e1.1]; exact a5, by rw [zK_sP, e2.1]; exact a6, by rw [zK_sP, e3.1]; exact a7⟩, by show zN σ2 = _; omega, by rw [zO_sP, e0.2.1]; exact o1, fun k => by rw [zI_sP, e3.2.2.1]; exact i1 k, fun j hj => ?_, fun j hj hj8 => ?_, fun j hj => ?_, fun a ha => ?_⟩
  · rw [zP_sPa _ _ _ _ (by omega), e0.2.2.2.2]; exact a2
  · rw [zP_sPa _ _ _ _ (by omega), e0.2.2.2.2]; exact a3
  · rw [zP_sPa _ _ _ _ (by omega), e0.2.2.2.2]; exact a4
  · by_cases q : j = i
    · subst q
      have : Wd σ2 (s + 4 + 2 * j) (s + 5 + 2 * j) 60 [] := by
        rw [show s + 4 + 2 * j = zN σ by omega, show s + 5 + 2 * j = zN (sNew σ (8, 0)) by omega]
        exact hw
      exact this.sp (by omega)
    · exact ((w1 j (by omega)).sm (e _ (by omega)) (e _ (by omega))).sp (by omega)
  · rcases hr with ⟨r1, r2, r3⟩ | ⟨r1, r2⟩
    · subst r1
      subst r2
      by_cases q : j = k
      · subst q
        rw [zP_sPs, n1]
      · rw [zP_sPk _ _ _ _ q, e1.2.2.2.2]; exact p1 j (by omega) hj8
    · rw [zP_sPa _ _ _ _ (by omega), e1.2.2.2.2]; exact p1 j (by omega) hj8
  · rcases hr with ⟨r1, r2, r3⟩ | ⟨r1, r2⟩
    · exact absurd hj (by omega)
    · subst r1
      by_cases q : j = k
      · subst q
        rw [zP_sPs, n1, ← r2]
      · rw [zP_sPk _ _ _ _ q, e2.2.2.2.2]; exact p2 j (by omega)
  · obtain ⟨b1, b2, b3, b4, b5⟩ := m1 a ha
    obtain ⟨c1, c2, c3, c4, c5⟩ := e a (by omega)
    exact ⟨c1.trans b1, c2.trans b2, c3.trans b3, c4.trans b4, (funext fun k => zP_sPa _ _ _ _ (by omega)).trans (c5.trans b5)⟩
set_option maxRecDepth 100000 in
theorem WI.sd (h : WI σ0 σ s 20) : SD σ s S0 := by
  obtain ⟨⟨a1, a2, a3, a4, a5, a6, a7⟩, n1, o1, i1, w1, p1, p2, m1⟩ := h
  refine ⟨⟨a1, a2, a3, a4, a5, a6, a7, fun j hj => p1 j (by omega) hj, fun j hj => ?_, fun j hj => (w1 j hj).1⟩, o1, fun r hr => w1 r (by omega), fun g hg => ⟨i1 g, Nat.zero_le _, fun k hk => absurd hk (Nat.not_lt_zero k)⟩⟩
  rw [p2 j (by omega)]
  congr 1
  omega
set_option maxRecDepth 100000 in
theorem i_X7 (hk : zK σ s = (7, 0)) (hn : zN σ = s + 1) (ho : ∀ k, zO σ s k = 0) (hQ : ∀ σ', SD σ' s S0 → zN σ' = s + 44 → Same σ σ' s → Q (.inl none) σ') : zM Γ mX7_init [vR (some s)] σ Q := by
  refine zM_of (n := 1) (by decide +kernel) rfl rfl rfl ?_
  have f0 : FG 7 [0, 1, 2] [(18, 8), (18, 12), (13, 2)] σ σ s 0 := ⟨hk, by omega, fun i hi => absurd hi (Nat.not_lt_zero i), ho, Same.rf⟩
  refine zW_aload_n dX7_init_0 rfl ?_
  refine zW_objInit dX7_init_1 b39 b32 b33 (by decide) (by decide) ?_
  refine zW_aload_n dX7_init_4 rfl ?_
  refine zW_bipush dX7_init_5 (by decide) ?_
  refine zW_newq (ci := 8) (K := 18) dX7_init_7 (by decide) (by decide) (by decide) rfl b40 (by decide) (by first | assumption | omega | (unfold InR; omega) | (unfold InL; omega) | (simp only [InR] at *; omega)) (by first | assumption | omega | (unfold InR; omega) | (unfold InL; omega) | (simp only [InR] at *; omega)) (by show _ ≤ (43 : Nat); omega) (by show _ ≤ (72062 : Nat); omega) ?_
  refine zpP dX7_init_10 fX7_11 f0.new rfl (Or.inr ⟨rfl, rfl⟩) (Or.inl rfl) ?_
  have f1 := f0.step (s := 0) (c := (18, 8)) (by decide) rfl rfl
  change zW _ _ _ _ _ (sP (sNew σ (18, 8)) s 0 (some (zN σ))) _ _ _
  generalize sP (sNew σ (18, 8)) s 0 (some (zN σ)) = s1 at f1 ⊢
  refine zW_aload_n dX7_init_13 rfl ?_
  refine zW_bipush dX7_init_14 (by decide) ?_
  refine zW_newq (ci := 8) (K := 18) dX7_init_16 (by decide) (by decide) (by decide) rfl b40 (by decide) (by first | assumption | omega | (unfold InR; omega) | (unfold InL; omega) | (simp only [InR] at *; omega)) (by first | assumption | omega | (unfold InR; omega) | (unfold InL; omega) | (simp only [InR] at *; omega)) (by show _ ≤ (43 : Nat); omega) (by show _ ≤ (72062 : Nat); omega) ?_
  refine zpP dX7_init_19 fX7_17 f1.new rfl (Or.inr ⟨rfl, rfl⟩) (Or.inl rfl) ?_
  have f2 := f1.step (s := 1) (c := (18, 12)) (by decide) rfl rfl
  change zW _ _ _ _ _ (sP (sNew s1 (18, 12)) s 1 (some (zN s1))) _ _ _
  generalize sP (sNew s1 (18, 12)) s 1 (some (zN s1)) = s2 at f2 ⊢
  refine zW_aload_n dX7_init_22 rfl ?_
  refine zW_iconst dX7_init_23 ?_
  refine zW_newa (K := 13) dX7_init_24 (by simp) b69 (by first | assumption | omega | (unfold InR; omega) | (unfold InL; omega) | (simp only [InR] at *; omega)) (by first | assumption | omega | (unfold InR; omega) | (unfold InL; omega) | (simp only [InR] at *; omega)) (by show _ ≤ (43 : Nat); omega) (by show _ ≤ (72062 : Nat); omega) ?_
  refine zpP dX7_init_26 fX7_20 f2.new rfl (Or.inr ⟨rfl, rfl⟩) (Or.inl rfl) ?_
  have f3 := f2.step (s := 2) (c := (13, 2)) (by decide) rfl rfl
  change zW _ _ _ _ _ (sP (sNew s2 (13, 2)) s 2 (some (zN s2))) _ _ _
  generalize sP (sNew s2 (13, 2)) s 2 (some (zN s2)) = s3 at f3 ⊢
  obtain ⟨g1, g2, g3, g4, g5⟩ := f3
  refine zW_aload_n dX7_init_29 rfl ?_
  refine zW_iconst dX7_init_30 ?_
  refine zpI dX7_init_31 fX7_24 g1 rfl (Or.inr ⟨rfl, rfl⟩) (zst_int _) ?_
  refine zW_iconst dX7_init_34 ?_
  refine zW_istore_n dX7_init_35 (by decide) rfl rfl ?_
  have w0 : WI σ (sO s3 s 3 2) s 0 := ⟨⟨g1, (g3 0 (by decide)).1, (g3 1 (by decide)).1, (g3 2 (by decide)).1, (g3 0 (by decide)).2.1, (g3 1 (by decide)).2.1, (g3 2 (by decide)).2.1⟩, g2, zO_sOs _ _ _ _, (g3 2 (by decide)).2.2, fun j hj => absurd hj (Nat.not_lt_zero j), fun j hj => absurd hj (Nat.not_lt_zero j), fun j hj => absurd hj (Nat.not_lt_zero _), g5.tr (Same.O (Nat.le_refl _))⟩
  generalize sO s3 s 3 2 = s4 at w0 ⊢
  have init : ∀ (M : MT) (R : Res → HS → Prop) σ1, zN σ1 = zN σ1 → (∀ σ2, Wd σ2 (zN σ1) (zN (sNew σ1 (8, 0))) 60 [] → zN σ2 = zN (sNew σ1 (8, 0)) + 1 → (∀ a, a ≠ zN σ1 → a < zN (sNew σ1 (8, 0)) → S5 (sNew σ1 (8, 0)) σ2 a) → R (.inl none) σ2) → zM Γ mX8_init [vR (some (zN σ1)), vI 60] (sNew σ1 (8, 0)) R := by
    intro M R σ1 _ kk
    exact w_init (w := zN σ1) (cap := 60) (σ := sNew σ1 (8, 0)) (by rw [zK_sNew, if_pos rfl]) (Nat.lt_succ_self _) (by decide) (by rw [zO_sNew, if_pos rfl]) kk
  have loopB : ∀ m i cu su σ1, i + m = 12 → WI σ σ1 s (8 + i) → cu ≤ 19 + 2 * i → su ≤ 28838 + 3602 * i → zW Γ mX7_init 65 [some (vR (some s)), some (vI i)] [] σ1 cu su Q := by
    intro m
    induction m with
    | zero =>
      intro i cu su σ1 hi h hc hs
      have e : i = 12 := by omega
      subst e
      refine zW_iload_n dX7_init_65 rfl ?_
      refine zW_bipush dX7_init_66 (by decide) ?_
      refine zW_icmp_ge (tgt := 92) dX7_init_68 (by decide) (by first | assumption | omega | (unfold InR; omega) | (unfold InL; omega) | (simp only [InR] at *; omega)) (by first | assumption | omega | (unfold InR; omega) | (unfold InL; omega) | (simp only [InR] at *; omega)) (fun b => ?_) (fun b => ?_)
      · refine zW_return dX7_init_92 rfl (by first | decide | (show _ ≤ (43 : Nat); omega)) (by first | decide | (show _ ≤ (72062 : Nat); omega)) ?_
        exact hQ σ1 h.sd h.2.1 h.2.2.2.2.2.2.2
      · exact absurd b (by decide)
    | succ m ih =>
      intro i cu su σ1 hi h hc hs
      have hN := h.2.1
      refine zW_iload_n dX7_init_65 rfl ?_
      refine zW_bipush dX7_init_66 (by decide) ?_
      refine zW_icmp_ge (tgt := 92) dX7_init_68 (by decide) (by first | assumption | omega | (unfold InR; omega) | (unfold InL; omega) | (simp only [InR] at *; omega)) (by first | assumption | omega | (unfold InR; omega) | (unfold InL; omega) | (simp only [InR] at *; omega)) (fun b => ?_) (fun b => ?_)
      · exact absurd b (by omega)
      · refine zW_aload_n dX7_init_71 rfl ?_
        refine zgP dX7_init_72 fX7_17 h.1.1 rfl h.1.2.2.1 ?_
        refine zW_iload_n dX7_init_75 rfl ?_
        refine zW_new (ci := 8) dX7_init_76 (by decide) b40 b42 b3 (by show _ ≤ (43 : Nat); first | omega | (simp only [zcn, zcl]; omega)) (by show _ ≤ (72062 : Nat); first | omega | (simp only [zcn, zcl]; omega)) ?_
        refine zW_dup dX7_init_79 rfl ?_
        refine zW_bipush dX7_init_80 (by decide) ?_
        refine zcI1 dX7_init_82 rfl eX8_init b43 ⟨by decide, by decide, (by show cu + 1 + 1 ≤ 43; omega), (by show su + 2 + 3600 ≤ 72062; omega)⟩ rfl rfl rfl (Nat.le_of_ble_eq_true rfl) (init mX7_init _ σ1 rfl (fun σ2 hw hn2 hs2 => ?_))
        have h2 := h.step (r := s + 2) (k := i) hw hn2 hs2 (Or.inr ⟨rfl, by omega⟩)
        have k1 : zK σ2 (s + 2) = (18, 12) := h2.1.2.2.2.2.2.1
        have k2 : zK σ2 (zN σ1) = (8, 0) := hw.1.1
        refine zW_aast dX7_init_85 k1 (by decide) (by decide) (by first | assumption | omega | (unfold InR; omega) | (unfold InL; omega) | (simp only [InR] at *; omega)) (by first | assumption | omega | (unfold InR; omega) | (unfold InL; omega) | (simp only [InR] at *; omega)) (by first | assumption | omega | (unfold InR; omega) | (unfold InL; omega) | (simp only [InR] at *; omega)) (congrArg Prod.fst k2) (by decide) rfl ?_
        refine zW_iinc dX7_init_86 rfl (by decide) rfl rfl ?_
        refine zW_goto (tgt := 65) dX7_init_89 (by decide) ?_
        exact ih (i + 1) _ _ _ (by omega) h2 (by show cu + 1 + 1 ≤ _; omega) (by show su + 2 + 3600 ≤ _; omega)
  have loopA : ∀ m i cu su σ1, i + m = 8 → WI σ σ1 s i → cu ≤ 3 + 2 * i → su ≤ 22 + 3602 * i → zW Γ mX7_init 36 [some (vR (some s)), some (vI i)] [] σ1 cu su Q := by
    intro m
    induction m with
    | zero =>
      intro i cu su σ1 hi h hc hs
      have e : i = 8 := by omega
      subst e
      refine zW_iload_n dX7_init_36 rfl ?_
      refine zW_bipush dX7_init_37 (by decide) ?_
      refine zW_icmp_ge (tgt := 63) dX7_init_39 (by decide) (by first | assumption | omega | (unfold InR; omega) | (unfold InL; omega) | (simp only [InR] at *; omega)) (by first | assumption | omega | (unfold InR; omega) | (unfold InL; omega) | (simp only [InR] at *; omega)) (fun b => ?_) (fun b => ?_)
      · refine zW_iconst dX7_init_63 ?_
        refine zW_istore_n dX7_init_64 (by decide) rfl rfl ?_
        exact loopB 12 0 _ _ σ1 (by omega) h (by omega) (by omega)
      · exact absurd b (by decide)
    | succ m ih =>
      intro i cu su σ1 hi h hc hs
      have hN := h.2.1
      refine zW_iload_n dX7_init_36 rfl ?_
      refine zW_bipush dX7_init_37 (by decide) ?_
      refine zW_icmp_ge (tgt := 63) dX7_init_39 (by decide) (by first | assumption | omega | (unfold InR; omega) | (unfold InL; omega) | (simp only [InR] at *; omega)) (by first | assumption | omega | (unfold InR; omega) | (unfold InL; omega) | (simp only [InR] at *; omega)) (fun b => ?_) (fun b => ?_)
      · exact absurd b (by omega)
      · refine zW_aload_n dX7_init_42 rfl ?_
        refine zgP dX7_init_43 fX7_11 h.1.1 rfl h.1.2.1 ?_
        refine zW_iload_n dX7_init_46 rfl ?_
        refine zW_new (ci := 8) dX7_init_47 (by decide) b40 b42 b3 (by show _ ≤ (43 : Nat); first | omega | (simp only [zcn, zcl]; omega)) (by show _ ≤ (72062 : Nat); first | omega | (simp only [zcn, zcl]; omega)) ?_
        refine zW_dup dX7_init_50 rfl ?_
        refine zW_bipush dX7_init_51 (by decide) ?_
        refine zcI1 dX7_init_53 rfl eX8_init b43 ⟨by decide, by decide, (by show cu + 1 + 1 ≤ 43; omega), (by show su + 2 + 3600 ≤ 72062; omega)⟩ rfl rfl rfl (Nat.le_of_ble_eq_true rfl) (init mX7_init _ σ1 rfl (fun σ2 hw hn2 hs2 => ?_))
        have h2 := h.step (r := s + 1) (k := i) hw hn2 hs2 (Or.inl ⟨rfl, rfl, by omega⟩)
        have k1 : zK σ2 (s + 1) = (18, 8) := h2.1.2.2.2.2.1
        have k2 : zK σ2 (zN σ1) = (8, 0) := hw.1.1
        refine zW_aast dX7_init_56 k1 (by decide) (by decide) (by first | assumption | omega | (unfold InR; omega) | (unfold InL; omega) | (simp only [InR] at *; omega)) (by first | assumption | omega | (unfold InR; omega) | (unfold InL; omega) | (simp only [InR] at *; omega)) (by first | assumption | omega | (unfold InR; omega) | (unfold InL; omega) | (simp only [InR] at *; omega)) (congrArg Prod.fst k2) (by decide) rfl ?_
        refine zW_iinc dX7_init_57 rfl (by decide) rfl rfl ?_
        refine zW_goto (tgt := 36) dX7_init_60 (by decide) ?_
        exact ih (i + 1) _ _ _ (by omega) h2 (by show cu + 1 + 1 ≤ _; omega) (by show su + 2 + 3600 ≤ _; omega)
  exact loopA 8 0 _ _ s4 (by omega) w0 (by decide) (by decide)
end CINITS
