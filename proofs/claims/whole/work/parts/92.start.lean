/-! the law's start -/
section START
variable {Γ : GG} {σ σ' : HS} {Q : Res → HS → Prop} {x y : Nat} {A : AA}
set_option maxRecDepth 100000 in
theorem WO_nil {k : Nat} : WO k [] := ⟨red_nil, Nat.zero_le _, fun c hc => by cases hc⟩
set_option maxRecDepth 100000 in
theorem AO0 : AO A0 := ⟨⟨⟨by decide, by decide⟩, fun r hr => WO_nil, fun g hg => ⟨Nat.zero_le _, fun w hw => by cases hw⟩⟩, (fun t ht => by cases ht), (fun t ht => by cases ht), (fun b hb => by cases hb)⟩
set_option maxRecDepth 100000 in
theorem law_start (hL : gL Γ ≤ 3072) (hQ : ∀ σ', Q (.inl (some (vI 1))) σ') : zW Γ mLaw 0 [some (vR (some (gb Γ))), none, none, none, none, none, none, none] [] σ 0 0 Q := by
  refine zW_new (ci := 9) dL_law_0 (by decide) b26 b27 b1 (by show _ ≤ (601024 : Nat); first | omega | exact Nat.le_of_ble_eq_true rfl | (simp only [zcn, zcl]; omega)) (by show _ ≤ (7293034 : Nat); first | omega | exact Nat.le_of_ble_eq_true rfl | (simp only [zcn, zcl]; omega)) ?_
  refine zW_dup dL_law_3 rfl ?_
  refine zcI0 dL_law_4 rfl eX9_init b28 ⟨by decide, by decide, Nat.le_of_ble_eq_true rfl, Nat.le_of_ble_eq_true rfl⟩ rfl rfl rfl (Nat.le_of_ble_eq_true rfl) (i_X9 (by rw [zK_sNew, if_pos rfl]) rfl (fun k => by rw [zO_sNew, if_pos rfl]) (fun σ1 h1 n1 m1 => ?_))
  generalize zN σ = x at h1 n1 ⊢
  refine zW_astore_n dL_law_7 (by decide) rfl rfl ?_
  refine zW_new (ci := 10) dL_law_8 (by decide) b1239 b1240 b12 (by show _ ≤ (601024 : Nat); first | omega | exact Nat.le_of_ble_eq_true rfl | (simp only [zcn, zcl]; omega)) (by show _ ≤ (7293034 : Nat); first | omega | exact Nat.le_of_ble_eq_true rfl | (simp only [zcn, zcl]; omega)) ?_
  refine zW_dup dL_law_11 rfl ?_
  refine zcI0 dL_law_12 rfl eX10_init b1241 ⟨by decide, by decide, Nat.le_of_ble_eq_true rfl, Nat.le_of_ble_eq_true rfl⟩ rfl rfl rfl (Nat.le_of_ble_eq_true rfl) (q_init (by rw [zK_sNew, if_pos rfl]) rfl (fun k => by rw [zO_sNew, if_pos rfl]) (fun σ2 hR n2 m2 => ?_))
  refine zW_astore_n dL_law_15 (by decide) rfl rfl ?_
  refine zW_iconst dL_law_16 ?_
  refine zW_newa (K := 14) dL_law_17 (by simp) b221 (by first | assumption | omega | (unfold InR; omega) | (unfold InL; omega) | (simp only [InR] at *; omega)) (by first | assumption | omega | (unfold InR; omega) | (unfold InL; omega) | (simp only [InR] at *; omega)) (by show _ ≤ (601024 : Nat); first | omega | exact Nat.le_of_ble_eq_true rfl) (by show _ ≤ (7293034 : Nat); first | omega | exact Nat.le_of_ble_eq_true rfl) ?_
  refine zW_astore_n dL_law_19 (by decide) rfl rfl ?_
  refine zW_iconst dL_law_20 ?_
  refine zW_istore dL_law_21 (by decide) rfl rfl ?_
  have e2 : Same σ1 σ2 (zN σ1) := (Same.nw (Nat.le_refl _)).tr m2
  have e3 : Same σ1 (sNew σ2 (14, 1)) (zN σ1) := e2.tr (Same.nw (by omega))
  refine law_loop hQ 512 0 A0 _ _ _ none none none ⟨h1 _ (fun a z1 z2 => e3 a (by omega)), RI.out (P := fun a => zN σ1 + 18 ≤ a) (fun a ha => Same.nw (y := zN σ1 + 18) (by omega) a (by omega)) hR (fun a z1 z2 q => by omega), AO0, by rw [zK_sNew, if_pos rfl]; rfl, hL, ⟨by omega, by omega⟩, by omega⟩ (by omega) (Nat.zero_le _) (Nat.le_of_ble_eq_true rfl) (Nat.le_of_ble_eq_true rfl)
end START
