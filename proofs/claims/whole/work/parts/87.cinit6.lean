/-! the parser's constructor -/
section CINITP
variable {Γ : GG} {σ σ' σ0 σ2 : HS} {Q : Res → HS → Prop} {q cap : Nat}
set_option maxRecDepth 100000 in
theorem Same.at (h : Same σ σ' q) {a : Nat} (ha : a < q) : S5 σ σ' a := h a ha
set_option maxRecDepth 100000 in
theorem i_W {R : Res → HS → Prop} {σ1 : HS} (hc : cap ≤ 3600) (kk : ∀ σ2, Wd σ2 (zN σ1) (zN σ1 + 1) cap [] → zN σ2 = zN σ1 + 2 → Same σ1 σ2 (zN σ1) → R (.inl none) σ2) : zM Γ mX8_init [vR (some (zN σ1)), vI cap] (sNew σ1 (8, 0)) R :=
  w_init (w := zN σ1) (cap := cap) (σ := sNew σ1 (8, 0)) (by rw [zK_sNew, if_pos rfl]) (Nat.lt_succ_self _) hc (by rw [zO_sNew, if_pos rfl]) (fun σ2 h1 h2 h3 => kk σ2 h1 h2 ((Same.nw (c := (8, 0)) (Nat.le_refl _)).tr (fun a ha => h3 a (by omega) (Nat.lt_succ_of_lt ha))))
set_option maxRecDepth 100000 in
theorem i_X6 (hk : zK σ q = (6, 0)) (hn : zN σ = q + 1) (ho : ∀ k, zO σ q k = 0) (hQ : ∀ σ', PK σ' q → zO σ' q 2 = 0 → zO σ' q 3 = -1 → zN σ' = q + 48 → Same σ σ' q → Q (.inl none) σ') : zM Γ mX6_init [vR (some q)] σ Q := by
  refine zM_of (n := 0) (by decide +kernel) rfl rfl rfl ?_
  refine zW_aload_n dX6_init_0 rfl ?_
  refine zW_objInit dX6_init_1 b115 b32 b33 (by decide) (by decide) ?_
  refine zW_aload_n dX6_init_4 rfl ?_
  refine zW_new (ci := 7) dX6_init_5 (by decide) b116 b35 b2 (by show _ ≤ (47 : Nat); first | omega | exact Nat.le_of_ble_eq_true rfl | (simp only [zcn, zcl]; omega)) (by show _ ≤ (75668 : Nat); first | omega | exact Nat.le_of_ble_eq_true rfl | (simp only [zcn, zcl]; omega)) ?_
  refine zW_dup dX6_init_8 rfl ?_
  refine zcI0 dX6_init_9 rfl eX7_init b117 ⟨by decide, by decide, by decide, by decide⟩ rfl rfl rfl (Nat.le_of_ble_eq_true rfl) (i_S (fun σ1 hw1 n1 m1 => ?_))
  have m1 : Same σ σ1 (zN σ) := (Same.nw (Nat.le_refl _)).tr m1
  have e1 := m1.at (show q < zN σ by omega)
  have k1 : zK σ1 q = (6, 0) := by rw [e1.1]; exact hk
  refine zpP (t := .int) dX6_init_12 fX6_12 k1 rfl (Or.inr ⟨rfl, rfl⟩) (Or.inr ⟨_, rfl⟩) ?_
  have p2 : zP (sP σ1 q 0 (some (zN σ))) q 0 = some (q + 1) := by rw [zP_sPs, hn]
  have s2 : SK (sP σ1 q 0 (some (zN σ))) (q + 1) := by
    have := hw1.1
    rw [hn] at this
    exact this.sp (by omega)
  have o2 : ∀ k, zO (sP σ1 q 0 (some (zN σ))) q k = 0 := fun k => by rw [zO_sP, e1.2.1]; exact ho k
  have k2 : zK (sP σ1 q 0 (some (zN σ))) q = (6, 0) := k1
  have n2 : zN (sP σ1 q 0 (some (zN σ))) = q + 45 := by show zN σ1 = _; omega
  have m2 : Same σ (sP σ1 q 0 (some (zN σ))) q := (m1.wk (by omega)).tr (Same.P (Nat.le_refl _))
  generalize sP σ1 q 0 (some (zN σ)) = σ2 at p2 s2 o2 k2 n2 m2 ⊢
  refine zW_aload_n dX6_init_15 rfl ?_
  refine zW_new (ci := 8) dX6_init_16 (by decide) b118 b42 b3 (by show _ ≤ (47 : Nat); first | omega | exact Nat.le_of_ble_eq_true rfl | (simp only [zcn, zcl]; omega)) (by show _ ≤ (75668 : Nat); first | omega | exact Nat.le_of_ble_eq_true rfl | (simp only [zcn, zcl]; omega)) ?_
  refine zW_dup dX6_init_19 rfl ?_
  refine zW_bipush dX6_init_20 (by decide) ?_
  refine zcI1 dX6_init_22 rfl eX8_init b119 ⟨by decide, by decide, by decide, by decide⟩ rfl rfl rfl (Nat.le_of_ble_eq_true rfl) (i_W (cap := 120) (by decide) (fun σ3 hw3 n3 m3 => ?_))
  have e3 := m3.at (show q < zN σ2 by omega)
  have k3 : zK σ3 q = (6, 0) := by rw [e3.1]; exact k2
  have p3 : zP σ3 q 0 = some (q + 1) := by rw [e3.2.2.2.2]; exact p2
  have s3 : SK σ3 (q + 1) := s2.sm (fun a a1 a2 => m3.at (by omega))
  have o3 : ∀ k, zO σ3 q k = 0 := fun k => by rw [e3.2.1]; exact o2 k
  rw [n2] at hw3
  refine zpP (t := .int) dX6_init_25 fX6_23 k3 rfl (Or.inr ⟨rfl, rfl⟩) (Or.inr ⟨_, rfl⟩) ?_
  rw [n2]
  have w4 : Wk (sP σ3 q 1 (some (q + 45))) (q + 45) (q + 46) 120 := (Wd.sp hw3 (by omega)).1
  have p4 : zP (sP σ3 q 1 (some (q + 45))) q 0 = some (q + 1) ∧ zP (sP σ3 q 1 (some (q + 45))) q 1 = some (q + 45) := ⟨by rw [zP_sPk _ _ _ _ (by decide)]; exact p3, zP_sPs _ _ _ _⟩
  have s4 : SK (sP σ3 q 1 (some (q + 45))) (q + 1) := s3.sp (by omega)
  have o4 : ∀ k, zO (sP σ3 q 1 (some (q + 45))) q k = 0 := o3
  have k4 : zK (sP σ3 q 1 (some (q + 45))) q = (6, 0) := k3
  have n4 : zN (sP σ3 q 1 (some (q + 45))) = q + 47 := by show zN σ3 = _; omega
  have m4 : Same σ (sP σ3 q 1 (some (q + 45))) q := m2.tr ((m3.wk (by omega)).tr (Same.P (Nat.le_refl _)))
  generalize sP σ3 q 1 (some (q + 45)) = σ4 at w4 p4 s4 o4 k4 n4 m4 ⊢
  refine zW_aload_n dX6_init_28 rfl ?_
  refine zW_iconst dX6_init_29 ?_
  refine zpI dX6_init_30 fX6_27 k4 rfl (Or.inr ⟨rfl, rfl⟩) (zst_int _) ?_
  refine zW_aload_n dX6_init_33 rfl ?_
  refine zW_iconst dX6_init_34 ?_
  refine zpI dX6_init_35 fX6_31 k4 rfl (Or.inr ⟨rfl, rfl⟩) (zst_int _) ?_
  have o5 : zO (sO (sO σ4 q 2 0) q 3 (-1)) q 2 = 0 ∧ zO (sO (sO σ4 q 2 0) q 3 (-1)) q 3 = -1 := ⟨by rw [zO_sOk _ _ _ _ (by decide)]; exact zO_sOs _ _ _ _, zO_sOs _ _ _ _⟩
  have m5 : Same σ (sO (sO σ4 q 2 0) q 3 (-1)) q := m4.tr ((Same.O (Nat.le_refl _)).tr (Same.O (Nat.le_refl _)))
  have w5 : Wk (sO (sO σ4 q 2 0) q 3 (-1)) (q + 45) (q + 46) 120 := w4
  have p5 : zP (sO (sO σ4 q 2 0) q 3 (-1)) q 0 = some (q + 1) ∧ zP (sO (sO σ4 q 2 0) q 3 (-1)) q 1 = some (q + 45) := p4
  have s5 : SK (sO (sO σ4 q 2 0) q 3 (-1)) (q + 1) := s4
  have k5 : zK (sO (sO σ4 q 2 0) q 3 (-1)) q = (6, 0) := k4
  have n5 : zN (sO (sO σ4 q 2 0) q 3 (-1)) = q + 47 := n4
  generalize sO (sO σ4 q 2 0) q 3 (-1) = σ5 at o5 m5 w5 p5 s5 k5 n5 ⊢
  have e6 : ∀ a, a < q + 47 → S5 σ5 (sNew σ5 (13, 0)) a := fun a ha => Same.nw (σ := σ5) (c := (13, 0)) (y := zN σ5) (Nat.le_refl _) a (by omega)
  have k6 : zK (sNew σ5 (13, 0)) q = (6, 0) := by rw [(e6 q (by omega)).1]; exact k5
  refine zW_aload_n dX6_init_38 rfl ?_
  refine zW_iconst dX6_init_39 ?_
  refine zW_newa (K := 13) dX6_init_40 (by simp) b69 (by first | assumption | omega | (unfold InR; omega) | (unfold InL; omega) | (simp only [InR] at *; omega)) (by first | assumption | omega | (unfold InR; omega) | (unfold InL; omega) | (simp only [InR] at *; omega)) (by show _ ≤ (47 : Nat); first | omega | exact Nat.le_of_ble_eq_true rfl) (by show _ ≤ (75668 : Nat); first | omega | exact Nat.le_of_ble_eq_true rfl) ?_
  refine zpP dX6_init_42 fX6_34 k6 rfl (Or.inr ⟨rfl, rfl⟩) (Or.inl rfl) ?_
  refine zW_return dX6_init_45 rfl (by first | decide | (show _ ≤ (47 : Nat); omega)) (by first | decide | (show _ ≤ (75668 : Nat); omega)) ?_
  refine hQ _ ⟨?_, ?_, ?_, SK.sp (s5.sm (fun a a1 a2 => e6 a (by omega))) (by omega), Wk.sp (w5.sm (e6 _ (by omega)) (e6 _ (by omega))) (by omega)⟩ ?_ ?_ ?_ (m5.tr ((Same.nw (by omega)).tr (Same.P (Nat.le_refl _))))
  · exact k6
  · exact (zP_sPk _ _ _ _ (by decide)).trans ((congrFun (e6 q (by omega)).2.2.2.2 0).trans p5.1)
  · exact (zP_sPk _ _ _ _ (by decide)).trans ((congrFun (e6 q (by omega)).2.2.2.2 1).trans p5.2)
  · exact (congrFun (e6 q (by omega)).2.1 2).trans o5.1
  · exact (congrFun (e6 q (by omega)).2.1 3).trans o5.2
  · show zN σ5 + 1 = _
    omega
end CINITP
