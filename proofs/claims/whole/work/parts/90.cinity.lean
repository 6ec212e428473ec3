/-! the calculator's constructor, its first rows -/
section CINITY
variable {Γ : GG} {σ σ' σ0 σ2 : HS} {Q : Res → HS → Prop} {x s : Nat} {v : Option Nat}
set_option maxRecDepth 100000 in
theorem i_H {R : Res → HS → Prop} {σ1 : HS} (kk : ∀ σ2, HD σ2 (zN σ1) [] → zN σ2 = zN σ1 + 354 → Same (sNew σ1 (3, 0)) σ2 (zN σ1) → R (.inl none) σ2) : zM Γ mX3_init [vR (some (zN σ1))] (sNew σ1 (3, 0)) R :=
  i_X3 (by rw [zK_sNew, if_pos rfl]) rfl (fun k => by rw [zO_sNew, if_pos rfl]) kk
set_option maxRecDepth 100000 in
theorem S5p {a : Nat} (h : a ≠ x) : S5 σ (sP σ x s v) a := ⟨rfl, rfl, rfl, rfl, funext fun k => zP_sPa _ _ _ _ h⟩
set_option maxRecDepth 100000 in
theorem i_P {R : Res → HS → Prop} {σ1 : HS} (kk : ∀ σ2, PK σ2 (zN σ1) → zO σ2 (zN σ1) 2 = 0 → zO σ2 (zN σ1) 3 = -1 → zN σ2 = zN σ1 + 48 → Same (sNew σ1 (6, 0)) σ2 (zN σ1) → R (.inl none) σ2) : zM Γ mX6_init [vR (some (zN σ1))] (sNew σ1 (6, 0)) R :=
  i_X6 (by rw [zK_sNew, if_pos rfl]) rfl (fun k => by rw [zO_sNew, if_pos rfl]) kk
set_option maxRecDepth 100000 in
theorem i_F {R : Res → HS → Prop} {σ1 : HS} (kk : ∀ σ2, FOK σ2 (zN σ1) → zO σ2 (zN σ1) 5 = 0 → zN σ2 = zN σ1 + 7 → Same (sNew σ1 (0, 0)) σ2 (zN σ1) → R (.inl none) σ2) : zM Γ mX0_init [vR (some (zN σ1))] (sNew σ1 (0, 0)) R :=
  i_X0 (by rw [zK_sNew, if_pos rfl]) rfl (fun k => by rw [zO_sNew, if_pos rfl]) (fun σ2 f => kk σ2 f.fok (f.2.2.2.1 5) (by have := f.2.1; omega) f.2.2.2.2)
set_option maxRecDepth 100000 in
theorem i_I {R : Res → HS → Prop} {σ1 : HS} (kk : ∀ σ2, IK σ2 (zN σ1) → zO σ2 (zN σ1) 4 = 1 → (∀ k, zI σ2 (zN σ1 + 1) k = 0) → zN σ2 = zN σ1 + 3 → Same (sNew σ1 (4, 0)) σ2 (zN σ1) → R (.inl none) σ2) : zM Γ mX4_init [vR (some (zN σ1))] (sNew σ1 (4, 0)) R :=
  i_X4 (by rw [zK_sNew, if_pos rfl]) rfl (fun k => by rw [zO_sNew, if_pos rfl]) (fun σ2 f => kk _ f.ik (zO_sOs _ _ _ _) (f.2.2.1 0 (by decide)).2.2 (by have := f.2.1; show zN σ2 = _; omega) (f.2.2.2.2.tr (Same.O (Nat.le_refl _))))
set_option maxRecDepth 100000 in
theorem i_M {R : Res → HS → Prop} {σ1 : HS} (kk : ∀ σ2, MK σ2 (zN σ1) → zN σ2 = zN σ1 + 2 → Same (sNew σ1 (5, 0)) σ2 (zN σ1) → R (.inl none) σ2) : zM Γ mX5_init [vR (some (zN σ1))] (sNew σ1 (5, 0)) R :=
  i_X5 (by rw [zK_sNew, if_pos rfl]) rfl (fun k => by rw [zO_sNew, if_pos rfl]) (fun σ2 f => kk σ2 f.mk (by have := f.2.1; omega) f.2.2.2.2)
set_option maxRecDepth 100000 in
theorem i_T {R : Res → HS → Prop} {σ1 : HS} (kk : ∀ σ2, FD σ2 (zN σ1) [] → zN σ2 = zN σ1 + 2 → Same (sNew σ1 (1, 0)) σ2 (zN σ1) → R (.inl none) σ2) : zM Γ mX1_init [vR (some (zN σ1))] (sNew σ1 (1, 0)) R :=
  i_X1 (by rw [zK_sNew, if_pos rfl]) rfl (fun k => by rw [zO_sNew, if_pos rfl]) (fun σ2 f => kk σ2 f.fd (by have := f.2.1; omega) f.2.2.2.2)
set_option maxRecDepth 100000 in
theorem i_X9a (hk : zK σ x = (9, 0)) (hn : zN σ = x + 1) (ho : ∀ k, zO σ x k = 0) (hQ : ∀ σ' cu su, cu ≤ 510 → su ≤ 1066328 → zK σ' x = (9, 0) → (∀ k, zO σ' x k = 0) → (zP σ' x 0 = some (x + 1) ∧ zP σ' x 2 = some (x + 2) ∧ zP σ' x 3 = some (x + 46) ∧ zP σ' x 5 = some (x + 90) ∧ zP σ' x 6 = some (x + 444) ∧ zP σ' x 7 = some (x + 492) ∧ zP σ' x 8 = some (x + 493) ∧ zP σ' x 9 = some (x + 500) ∧ zP σ' x 10 = some (x + 503) ∧ zP σ' x 11 = some (x + 505) ∧ zP σ' x 12 = some (x + 507) ∧ zP σ' x 13 = some (x + 509)) → (zK σ' (x + 1) = (13, 600) ∧ SD σ' (x + 2) S0 ∧ SK σ' (x + 46) ∧ HD σ' (x + 90) [] ∧ PK σ' (x + 444) ∧ zO σ' (x + 444) 2 = 0 ∧ zO σ' (x + 444) 3 = -1 ∧ zK σ' (x + 492) = (16, 2) ∧ FOK σ' (x + 493) ∧ zO σ' (x + 493) 5 = 0 ∧ IK σ' (x + 500) ∧ zO σ' (x + 500) 4 = 1 ∧ (∀ k, zI σ' (x + 501) k = 0) ∧ MK σ' (x + 503) ∧ Wk σ' (x + 505) (x + 506) 3600 ∧ Wk σ' (x + 507) (x + 508) 355 ∧ FD σ' (x + 509) []) → zN σ' = x + 511 → Same σ σ' x → zW Γ mX9_init 137 [some (vR (some x)), none] [] σ' cu su Q) : zM Γ mX9_init [vR (some x)] σ Q := by
  refine zM_of (n := 1) (by decide +kernel) rfl rfl rfl ?_
  refine zW_aload_n dX9_init_0 rfl ?_
  refine zW_objInit dX9_init_1 b31 b32 b33 (by decide) (by decide) ?_
  have m0 : Same σ σ x := Same.rf
  have k9 : zK (sNew σ (13, 600)) x = (9, 0) := by rw [zK_sNew, if_neg (by omega)]; exact hk
  refine zW_aload_n dX9_init_4 rfl ?_
  refine zW_sipush dX9_init_5 (by decide) ?_
  refine zW_newa (K := 13) dX9_init_8 (by simp) b69 (by first | assumption | omega | (unfold InR; omega) | (unfold InL; omega) | (simp only [InR] at *; omega)) (by first | assumption | omega | (unfold InR; omega) | (unfold InL; omega) | (simp only [InR] at *; omega)) (by show _ ≤ (520 : Nat); first | omega | exact Nat.le_of_ble_eq_true rfl) (by show _ ≤ (1074152 : Nat); first | omega | exact Nat.le_of_ble_eq_true rfl) ?_
  refine zpP dX9_init_10 fX9_9 k9 rfl (Or.inr ⟨rfl, rfl⟩) (Or.inl rfl) ?_
  have mm : Same σ (sNew σ (13, 600)) (zN σ) := Same.nw (Nat.le_refl _)
  have nn : zN (sNew σ (13, 600)) = zN σ + 1 := rfl
  obtain ⟨e', ek, eo, ep, es⟩ := XS (s := 0) (v := some (zN σ)) (show x < zN σ by omega) mm
  have e : ∀ a, x < a → a < zN σ → S5 σ (sP (sNew σ (13, 600)) x 0 (some (zN σ))) a := fun a z1 z2 => e' a (by omega) z2
  have hk1 : zK (sP (sNew σ (13, 600)) x 0 (some (zN σ))) x = (9, 0) := ek.trans hk
  have ho1 : ∀ k, zO (sP (sNew σ (13, 600)) x 0 (some (zN σ))) x k = 0 := fun k => (congrFun eo k).trans (ho k)
  have hn1 : zN (sP (sNew σ (13, 600)) x 0 (some (zN σ))) = x + 2 := by show zN (sNew σ (13, 600)) = _; omega
  have m1 : Same σ (sP (sNew σ (13, 600)) x 0 (some (zN σ))) x := m0.tr ((mm.wk (by omega)).tr (Same.P (Nat.le_refl _)))
  have ps0' : zP (sP (sNew σ (13, 600)) x 0 (some (zN σ))) x 0 = some (x + 1) := by rw [es, hn]
  have ci1' : zK (sP (sNew σ (13, 600)) x 0 (some (zN σ))) (x + 1) = (13, 600) := by rw [zK_sP, zK_sNew, if_pos (by omega)]
  clear e e' ek eo ep es k9 mm nn  hk ho hn m0
  change zW _ _ _ _ _ (sP (sNew σ (13, 600)) x 0 (some (zN σ))) _ _ _
  generalize (sP (sNew σ (13, 600)) x 0 (some (zN σ))) = t1 at hk1 ho1 hn1 m1 ps0' ci1' ⊢
  have hk := hk1
  have ho := ho1
  have hn := hn1
  have m0 := m1
  have ps0 := ps0'
  have ci1 := ci1'
  clear hk1 ho1 hn1 m1 ps0' ci1'
  refine zW_aload_n dX9_init_13 rfl ?_
  refine zW_new (ci := 7) dX9_init_14 (by decide) b34 b35 b2 (by show _ ≤ (520 : Nat); first | omega | exact Nat.le_of_ble_eq_true rfl | (simp only [zcn, zcl]; omega)) (by show _ ≤ (1074152 : Nat); first | omega | exact Nat.le_of_ble_eq_true rfl | (simp only [zcn, zcl]; omega)) ?_
  refine zW_dup dX9_init_17 rfl ?_
  refine zcI0 dX9_init_18 rfl eX7_init b36 ⟨by decide, by decide, by decide, by decide⟩ rfl rfl rfl (Nat.le_of_ble_eq_true rfl) (i_S (fun u2 hw nn mm => ?_))
  have mm : Same t1 u2 (zN t1) := (Same.nw (Nat.le_refl _)).tr mm
  have k9 : zK u2 x = (9, 0) := by rw [(mm x (by omega)).1]; exact hk
  refine zpP (t := .int) dX9_init_21 fX9_16 k9 rfl (Or.inr ⟨rfl, rfl⟩) (Or.inr ⟨_, rfl⟩) ?_
  obtain ⟨e', ek, eo, ep, es⟩ := XS (s := 2) (v := some (zN t1)) (show x < zN t1 by omega) mm
  have e : ∀ a, x < a → a < zN t1 → S5 t1 (sP u2 x 2 (some (zN t1))) a := fun a z1 z2 => e' a (by omega) z2
  have hk1 : zK (sP u2 x 2 (some (zN t1))) x = (9, 0) := ek.trans hk
  have ho1 : ∀ k, zO (sP u2 x 2 (some (zN t1))) x k = 0 := fun k => (congrFun eo k).trans (ho k)
  have hn1 : zN (sP u2 x 2 (some (zN t1))) = x + 46 := by show zN u2 = _; omega
  have m1 : Same σ (sP u2 x 2 (some (zN t1))) x := m0.tr ((mm.wk (by omega)).tr (Same.P (Nat.le_refl _)))
  have ps0' : zP (sP u2 x 2 (some (zN t1))) x 0 = some (x + 1) := (ep 0 (by decide)).trans ps0
  have ps2' : zP (sP u2 x 2 (some (zN t1))) x 2 = some (x + 2) := by rw [es, hn]
  have ci1' : zK (sP u2 x 2 (some (zN t1))) (x + 1) = (13, 600) := by rw [(e (x + 1) (by omega) (by omega)).1]; exact ci1
  have ci2' : SD (sP u2 x 2 (some (zN t1))) (x + 2) S0 := SD.sp (by rw [hn] at hw; exact hw) (by omega)
  clear e e' ek eo ep es k9 mm hw nn ps0 ci1 hk ho hn m0
  generalize (sP u2 x 2 (some (zN t1))) = t2 at hk1 ho1 hn1 m1 ps0' ps2' ci1' ci2' ⊢
  have hk := hk1
  have ho := ho1
  have hn := hn1
  have m0 := m1
  have ps0 := ps0'
  have ps2 := ps2'
  have ci1 := ci1'
  have ci2 := ci2'
  clear hk1 ho1 hn1 m1 ps0' ps2' ci1' ci2'
  refine zW_aload_n dX9_init_24 rfl ?_
  refine zW_new (ci := 7) dX9_init_25 (by decide) b34 b35 b2 (by show _ ≤ (520 : Nat); first | omega | exact Nat.le_of_ble_eq_true rfl | (simp only [zcn, zcl]; omega)) (by show _ ≤ (1074152 : Nat); first | omega | exact Nat.le_of_ble_eq_true rfl | (simp only [zcn, zcl]; omega)) ?_
  refine zW_dup dX9_init_28 rfl ?_
  refine zcI0 dX9_init_29 rfl eX7_init b36 ⟨by decide, by decide, by decide, by decide⟩ rfl rfl rfl (Nat.le_of_ble_eq_true rfl) (i_S (fun u3 hw nn mm => ?_))
  have mm : Same t2 u3 (zN t2) := (Same.nw (Nat.le_refl _)).tr mm
  have k9 : zK u3 x = (9, 0) := by rw [(mm x (by omega)).1]; exact hk
  refine zpP (t := .int) dX9_init_32 fX9_20 k9 rfl (Or.inr ⟨rfl, rfl⟩) (Or.inr ⟨_, rfl⟩) ?_
  obtain ⟨e', ek, eo, ep, es⟩ := XS (s := 3) (v := some (zN t2)) (show x < zN t2 by omega) mm
  have e : ∀ a, x < a → a < zN t2 → S5 t2 (sP u3 x 3 (some (zN t2))) a := fun a z1 z2 => e' a (by omega) z2
  have hk1 : zK (sP u3 x 3 (some (zN t2))) x = (9, 0) := ek.trans hk
  have ho1 : ∀ k, zO (sP u3 x 3 (some (zN t2))) x k = 0 := fun k => (congrFun eo k).trans (ho k)
  have hn1 : zN (sP u3 x 3 (some (zN t2))) = x + 90 := by show zN u3 = _; omega
  have m1 : Same σ (sP u3 x 3 (some (zN t2))) x := m0.tr ((mm.wk (by omega)).tr (Same.P (Nat.le_refl _)))
  have ps0' : zP (sP u3 x 3 (some (zN t2))) x 0 = some (x + 1) := (ep 0 (by decide)).trans ps0
  have ps2' : zP (sP u3 x 3 (some (zN t2))) x 2 = some (x + 2) := (ep 2 (by decide)).trans ps2
  have ps3' : zP (sP u3 x 3 (some (zN t2))) x 3 = some (x + 46) := by rw [es, hn]
  have ci1' : zK (sP u3 x 3 (some (zN t2))) (x + 1) = (13, 600) := by rw [(e (x + 1) (by omega) (by omega)).1]; exact ci1
  have ci2' : SD (sP u3 x 3 (some (zN t2))) (x + 2) S0 := SD.sm ci2 (fun a z1 z2 => e a (by omega) (by omega))
  have ci3' : SK (sP u3 x 3 (some (zN t2))) (x + 46) := SK.sp (by rw [hn] at hw; exact hw.1) (by omega)
  clear e e' ek eo ep es k9 mm hw nn ps0 ps2 ci1 ci2 hk ho hn m0
  generalize (sP u3 x 3 (some (zN t2))) = t3 at hk1 ho1 hn1 m1 ps0' ps2' ps3' ci1' ci2' ci3' ⊢
  have hk := hk1
  have ho := ho1
  have hn := hn1
  have m0 := m1
  have ps0 := ps0'
  have ps2 := ps2'
  have ps3 := ps3'
  have ci1 := ci1'
  have ci2 := ci2'
  have ci3 := ci3'
  clear hk1 ho1 hn1 m1 ps0' ps2' ps3' ci1' ci2' ci3'
  refine zW_aload_n dX9_init_35 rfl ?_
  refine zW_new (ci := 3) dX9_init_36 (by decide) b90 b91 b5 (by show _ ≤ (520 : Nat); first | omega | exact Nat.le_of_ble_eq_true rfl | (simp only [zcn, zcl]; omega)) (by show _ ≤ (1074152 : Nat); first | omega | exact Nat.le_of_ble_eq_true rfl | (simp only [zcn, zcl]; omega)) ?_
  refine zW_dup dX9_init_39 rfl ?_
  refine zcI0 dX9_init_40 rfl eX3_init b92 ⟨by decide, by decide, by decide, by decide⟩ rfl rfl rfl (Nat.le_of_ble_eq_true rfl) (i_H (fun u4 hw nn mm => ?_))
  have mm : Same t3 u4 (zN t3) := (Same.nw (Nat.le_refl _)).tr mm
  have k9 : zK u4 x = (9, 0) := by rw [(mm x (by omega)).1]; exact hk
  refine zpP (t := .int) dX9_init_43 fX9_26 k9 rfl (Or.inr ⟨rfl, rfl⟩) (Or.inr ⟨_, rfl⟩) ?_
  obtain ⟨e', ek, eo, ep, es⟩ := XS (s := 5) (v := some (zN t3)) (show x < zN t3 by omega) mm
  have e : ∀ a, x < a → a < zN t3 → S5 t3 (sP u4 x 5 (some (zN t3))) a := fun a z1 z2 => e' a (by omega) z2
  have hk1 : zK (sP u4 x 5 (some (zN t3))) x = (9, 0) := ek.trans hk
  have ho1 : ∀ k, zO (sP u4 x 5 (some (zN t3))) x k = 0 := fun k => (congrFun eo k).trans (ho k)
  have hn1 : zN (sP u4 x 5 (some (zN t3))) = x + 444 := by show zN u4 = _; omega
  have m1 : Same σ (sP u4 x 5 (some (zN t3))) x := m0.tr ((mm.wk (by omega)).tr (Same.P (Nat.le_refl _)))
  have ps0' : zP (sP u4 x 5 (some (zN t3))) x 0 = some (x + 1) := (ep 0 (by decide)).trans ps0
  have ps2' : zP (sP u4 x 5 (some (zN t3))) x 2 = some (x + 2) := (ep 2 (by decide)).trans ps2
  have ps3' : zP (sP u4 x 5 (some (zN t3))) x 3 = some (x + 46) := (ep 3 (by decide)).trans ps3
  have ps5' : zP (sP u4 x 5 (some (zN t3))) x 5 = some (x + 90) := by rw [es, hn]
  have ci1' : zK (sP u4 x 5 (some (zN t3))) (x + 1) = (13, 600) := by rw [(e (x + 1) (by omega) (by omega)).1]; exact ci1
  have ci2' : SD (sP u4 x 5 (some (zN t3))) (x + 2) S0 := SD.sm ci2 (fun a z1 z2 => e a (by omega) (by omega))
  have ci3' : SK (sP u4 x 5 (some (zN t3))) (x + 46) := SK.sm ci3 (fun a z1 z2 => e a (by omega) (by omega))
  have ci4' : HD (sP u4 x 5 (some (zN t3))) (x + 90) [] := HD.sp (by rw [hn] at hw; exact hw) (by omega)
  clear e e' ek eo ep es k9 mm hw nn ps0 ps2 ps3 ci1 ci2 ci3 hk ho hn m0
  generalize (sP u4 x 5 (some (zN t3))) = t4 at hk1 ho1 hn1 m1 ps0' ps2' ps3' ps5' ci1' ci2' ci3' ci4' ⊢
  have hk := hk1
  have ho := ho1
  have hn := hn1
  have m0 := m1
  have ps0 := ps0'
  have ps2 := ps2'
  have ps3 := ps3'
  have ps5 := ps5'
  have ci1 := ci1'
  have ci2 := ci2'
  have ci3 := ci3'
  have ci4 := ci4'
  clear hk1 ho1 hn1 m1 ps0' ps2' ps3' ps5' ci1' ci2' ci3' ci4'
  refine zW_aload_n dX9_init_46 rfl ?_
  refine zW_new (ci := 6) dX9_init_47 (by decide) b110 b111 b6 (by show _ ≤ (520 : Nat); first | omega | exact Nat.le_of_ble_eq_true rfl | (simp only [zcn, zcl]; omega)) (by show _ ≤ (1074152 : Nat); first | omega | exact Nat.le_of_ble_eq_true rfl | (simp only [zcn, zcl]; omega)) ?_
  refine zW_dup dX9_init_50 rfl ?_
  refine zcIN0 dX9_init_51 rfl eX6_init (host := RX9) (by decide +kernel) ⟨by decide, by decide, by decide, by decide⟩ rfl rfl rfl (Nat.le_of_ble_eq_true rfl) (i_P (fun u5 hw h2 h3 nn mm => ?_))
  have mm : Same t4 u5 (zN t4) := (Same.nw (Nat.le_refl _)).tr mm
  have k9 : zK u5 x = (9, 0) := by rw [(mm x (by omega)).1]; exact hk
  refine zpP (t := .int) dX9_init_54 fX9_33 k9 rfl (Or.inr ⟨rfl, rfl⟩) (Or.inr ⟨_, rfl⟩) ?_
  obtain ⟨e', ek, eo, ep, es⟩ := XS (s := 6) (v := some (zN t4)) (show x < zN t4 by omega) mm
  have e : ∀ a, x < a → a < zN t4 → S5 t4 (sP u5 x 6 (some (zN t4))) a := fun a z1 z2 => e' a (by omega) z2
  have hk1 : zK (sP u5 x 6 (some (zN t4))) x = (9, 0) := ek.trans hk
  have ho1 : ∀ k, zO (sP u5 x 6 (some (zN t4))) x k = 0 := fun k => (congrFun eo k).trans (ho k)
  have hn1 : zN (sP u5 x 6 (some (zN t4))) = x + 492 := by show zN u5 = _; omega
  have m1 : Same σ (sP u5 x 6 (some (zN t4))) x := m0.tr ((mm.wk (by omega)).tr (Same.P (Nat.le_refl _)))
  have ps0' : zP (sP u5 x 6 (some (zN t4))) x 0 = some (x + 1) := (ep 0 (by decide)).trans ps0
  have ps2' : zP (sP u5 x 6 (some (zN t4))) x 2 = some (x + 2) := (ep 2 (by decide)).trans ps2
  have ps3' : zP (sP u5 x 6 (some (zN t4))) x 3 = some (x + 46) := (ep 3 (by decide)).trans ps3
  have ps5' : zP (sP u5 x 6 (some (zN t4))) x 5 = some (x + 90) := (ep 5 (by decide)).trans ps5
  have ps6' : zP (sP u5 x 6 (some (zN t4))) x 6 = some (x + 444) := by rw [es, hn]
  have ci1' : zK (sP u5 x 6 (some (zN t4))) (x + 1) = (13, 600) := by rw [(e (x + 1) (by omega) (by omega)).1]; exact ci1
  have ci2' : SD (sP u5 x 6 (some (zN t4))) (x + 2) S0 := SD.sm ci2 (fun a z1 z2 => e a (by omega) (by omega))
  have ci3' : SK (sP u5 x 6 (some (zN t4))) (x + 46) := SK.sm ci3 (fun a z1 z2 => e a (by omega) (by omega))
  have ci4' : HD (sP u5 x 6 (some (zN t4))) (x + 90) [] := HD.sm ci4 (fun a z1 z2 => e a (by omega) (by omega))
  have ci5' : PK (sP u5 x 6 (some (zN t4))) (x + 444) := PK.sm (by rw [hn] at hw; exact hw) (fun a z1 z2 => S5p (by omega))
  have ci6' : (zO (sP u5 x 6 (some (zN t4))) (x + 444) 2 = 0 ∧ zO (sP u5 x 6 (some (zN t4))) (x + 444) 3 = -1) := ⟨by rw [hn] at h2; exact h2, by rw [hn] at h3; exact h3⟩
  clear e e' ek eo ep es k9 mm hw h2 h3 nn ps0 ps2 ps3 ps5 ci1 ci2 ci3 ci4 hk ho hn m0
  generalize (sP u5 x 6 (some (zN t4))) = t5 at hk1 ho1 hn1 m1 ps0' ps2' ps3' ps5' ps6' ci1' ci2' ci3' ci4' ci5' ci6' ⊢
  have hk := hk1
  have ho := ho1
  have hn := hn1
  have m0 := m1
  have ps0 := ps0'
  have ps2 := ps2'
  have ps3 := ps3'
  have ps5 := ps5'
  have ps6 := ps6'
  have ci1 := ci1'
  have ci2 := ci2'
  have ci3 := ci3'
  have ci4 := ci4'
  have ci5 := ci5'
  have ci6 := ci6'
  clear hk1 ho1 hn1 m1 ps0' ps2' ps3' ps5' ps6' ci1' ci2' ci3' ci4' ci5' ci6'
  have k9 : zK (sNew t5 (16, 2)) x = (9, 0) := by rw [zK_sNew, if_neg (by omega)]; exact hk
  refine zW_aload_n dX9_init_57 rfl ?_
  refine zW_iconst dX9_init_58 ?_
  refine zW_newq (ci := 2) (K := 16) dX9_init_59 (by decide) (by decide) (by decide) rfl b151 (by decide) (by first | assumption | omega | (unfold InR; omega) | (unfold InL; omega) | (simp only [InR] at *; omega)) (by first | assumption | omega | (unfold InR; omega) | (unfold InL; omega) | (simp only [InR] at *; omega)) (by show _ ≤ (520 : Nat); first | omega | exact Nat.le_of_ble_eq_true rfl) (by show _ ≤ (1074152 : Nat); first | omega | exact Nat.le_of_ble_eq_true rfl) ?_
  refine zpP dX9_init_62 fX9_39 k9 rfl (Or.inr ⟨rfl, rfl⟩) (Or.inl rfl) ?_
  have mm : Same t5 (sNew t5 (16, 2)) (zN t5) := Same.nw (Nat.le_refl _)
  have nn : zN (sNew t5 (16, 2)) = zN t5 + 1 := rfl
  obtain ⟨e', ek, eo, ep, es⟩ := XS (s := 7) (v := some (zN t5)) (show x < zN t5 by omega) mm
  have e : ∀ a, x < a → a < zN t5 → S5 t5 (sP (sNew t5 (16, 2)) x 7 (some (zN t5))) a := fun a z1 z2 => e' a (by omega) z2
  have hk1 : zK (sP (sNew t5 (16, 2)) x 7 (some (zN t5))) x = (9, 0) := ek.trans hk
  have ho1 : ∀ k, zO (sP (sNew t5 (16, 2)) x 7 (some (zN t5))) x k = 0 := fun k => (congrFun eo k).trans (ho k)
  have hn1 : zN (sP (sNew t5 (16, 2)) x 7 (some (zN t5))) = x + 493 := by show zN (sNew t5 (16, 2)) = _; omega
  have m1 : Same σ (sP (sNew t5 (16, 2)) x 7 (some (zN t5))) x := m0.tr ((mm.wk (by omega)).tr (Same.P (Nat.le_refl _)))
  have ps0' : zP (sP (sNew t5 (16, 2)) x 7 (some (zN t5))) x 0 = some (x + 1) := (ep 0 (by decide)).trans ps0
  have ps2' : zP (sP (sNew t5 (16, 2)) x 7 (some (zN t5))) x 2 = some (x + 2) := (ep 2 (by decide)).trans ps2
  have ps3' : zP (sP (sNew t5 (16, 2)) x 7 (some (zN t5))) x 3 = some (x + 46) := (ep 3 (by decide)).trans ps3
  have ps5' : zP (sP (sNew t5 (16, 2)) x 7 (some (zN t5))) x 5 = some (x + 90) := (ep 5 (by decide)).trans ps5
  have ps6' : zP (sP (sNew t5 (16, 2)) x 7 (some (zN t5))) x 6 = some (x + 444) := (ep 6 (by decide)).trans ps6
  have ps7' : zP (sP (sNew t5 (16, 2)) x 7 (some (zN t5))) x 7 = some (x + 492) := by rw [es, hn]
  have ci1' : zK (sP (sNew t5 (16, 2)) x 7 (some (zN t5))) (x + 1) = (13, 600) := by rw [(e (x + 1) (by omega) (by omega)).1]; exact ci1
  have ci2' : SD (sP (sNew t5 (16, 2)) x 7 (some (zN t5))) (x + 2) S0 := SD.sm ci2 (fun a z1 z2 => e a (by omega) (by omega))
  have ci3' : SK (sP (sNew t5 (16, 2)) x 7 (some (zN t5))) (x + 46) := SK.sm ci3 (fun a z1 z2 => e a (by omega) (by omega))
  have ci4' : HD (sP (sNew t5 (16, 2)) x 7 (some (zN t5))) (x + 90) [] := HD.sm ci4 (fun a z1 z2 => e a (by omega) (by omega))
  have ci5' : PK (sP (sNew t5 (16, 2)) x 7 (some (zN t5))) (x + 444) := PK.sm ci5 (fun a z1 z2 => e a (by omega) (by omega))
  have ci6' : (zO (sP (sNew t5 (16, 2)) x 7 (some (zN t5))) (x + 444) 2 = 0 ∧ zO (sP (sNew t5 (16, 2)) x 7 (some (zN t5))) (x + 444) 3 = -1) := by rw [(e (x + 444) (by omega) (by omega)).2.1]; exact ci6
  have ci7' : zK (sP (sNew t5 (16, 2)) x 7 (some (zN t5))) (x + 492) = (16, 2) := by rw [zK_sP, zK_sNew, if_pos (by omega)]
  clear e e' ek eo ep es k9 mm nn ps0 ps2 ps3 ps5 ps6 ci1 ci2 ci3 ci4 ci5 ci6 hk ho hn m0
  change zW _ _ _ _ _ (sP (sNew t5 (16, 2)) x 7 (some (zN t5))) _ _ _
  generalize (sP (sNew t5 (16, 2)) x 7 (some (zN t5))) = t6 at hk1 ho1 hn1 m1 ps0' ps2' ps3' ps5' ps6' ps7' ci1' ci2' ci3' ci4' ci5' ci6' ci7' ⊢
  have hk := hk1
  have ho := ho1
  have hn := hn1
  have m0 := m1
  have ps0 := ps0'
  have ps2 := ps2'
  have ps3 := ps3'
  have ps5 := ps5'
  have ps6 := ps6'
  have ps7 := ps7'
  have ci1 := ci1'
  have ci2 := ci2'
  have ci3 := ci3'
  have ci4 := ci4'
  have ci5 := ci5'
  have ci6 := ci6'
  have ci7 := ci7'
  clear hk1 ho1 hn1 m1 ps0' ps2' ps3' ps5' ps6' ps7' ci1' ci2' ci3' ci4' ci5' ci6' ci7'
  refine zW_aload_n dX9_init_65 rfl ?_
  refine zW_new (ci := 0) dX9_init_66 (by decide) b153 b154 b7 (by show _ ≤ (520 : Nat); first | omega | exact Nat.le_of_ble_eq_true rfl | (simp only [zcn, zcl]; omega)) (by show _ ≤ (1074152 : Nat); first | omega | exact Nat.le_of_ble_eq_true rfl | (simp only [zcn, zcl]; omega)) ?_
  refine zW_dup dX9_init_69 rfl ?_
  refine zcIN0 dX9_init_70 rfl eX0_init (host := RX9) (by decide +kernel) ⟨by decide, by decide, by decide, by decide⟩ rfl rfl rfl (Nat.le_of_ble_eq_true rfl) (i_F (fun u7 hw h2 nn mm => ?_))
  have mm : Same t6 u7 (zN t6) := (Same.nw (Nat.le_refl _)).tr mm
  have k9 : zK u7 x = (9, 0) := by rw [(mm x (by omega)).1]; exact hk
  refine zpP (t := .int) dX9_init_73 fX9_46 k9 rfl (Or.inr ⟨rfl, rfl⟩) (Or.inr ⟨_, rfl⟩) ?_
  obtain ⟨e', ek, eo, ep, es⟩ := XS (s := 8) (v := some (zN t6)) (show x < zN t6 by omega) mm
  have e : ∀ a, x < a → a < zN t6 → S5 t6 (sP u7 x 8 (some (zN t6))) a := fun a z1 z2 => e' a (by omega) z2
  have hk1 : zK (sP u7 x 8 (some (zN t6))) x = (9, 0) := ek.trans hk
  have ho1 : ∀ k, zO (sP u7 x 8 (some (zN t6))) x k = 0 := fun k => (congrFun eo k).trans (ho k)
  have hn1 : zN (sP u7 x 8 (some (zN t6))) = x + 500 := by show zN u7 = _; omega
  have m1 : Same σ (sP u7 x 8 (some (zN t6))) x := m0.tr ((mm.wk (by omega)).tr (Same.P (Nat.le_refl _)))
  have ps0' : zP (sP u7 x 8 (some (zN t6))) x 0 = some (x + 1) := (ep 0 (by decide)).trans ps0
  have ps2' : zP (sP u7 x 8 (some (zN t6))) x 2 = some (x + 2) := (ep 2 (by decide)).trans ps2
  have ps3' : zP (sP u7 x 8 (some (zN t6))) x 3 = some (x + 46) := (ep 3 (by decide)).trans ps3
  have ps5' : zP (sP u7 x 8 (some (zN t6))) x 5 = some (x + 90) := (ep 5 (by decide)).trans ps5
  have ps6' : zP (sP u7 x 8 (some (zN t6))) x 6 = some (x + 444) := (ep 6 (by decide)).trans ps6
  have ps7' : zP (sP u7 x 8 (some (zN t6))) x 7 = some (x + 492) := (ep 7 (by decide)).trans ps7
  have ps8' : zP (sP u7 x 8 (some (zN t6))) x 8 = some (x + 493) := by rw [es, hn]
  have ci1' : zK (sP u7 x 8 (some (zN t6))) (x + 1) = (13, 600) := by rw [(e (x + 1) (by omega) (by omega)).1]; exact ci1
  have ci2' : SD (sP u7 x 8 (some (zN t6))) (x + 2) S0 := SD.sm ci2 (fun a z1 z2 => e a (by omega) (by omega))
  have ci3' : SK (sP u7 x 8 (some (zN t6))) (x + 46) := SK.sm ci3 (fun a z1 z2 => e a (by omega) (by omega))
  have ci4' : HD (sP u7 x 8 (some (zN t6))) (x + 90) [] := HD.sm ci4 (fun a z1 z2 => e a (by omega) (by omega))
  have ci5' : PK (sP u7 x 8 (some (zN t6))) (x + 444) := PK.sm ci5 (fun a z1 z2 => e a (by omega) (by omega))
  have ci6' : (zO (sP u7 x 8 (some (zN t6))) (x + 444) 2 = 0 ∧ zO (sP u7 x 8 (some (zN t6))) (x + 444) 3 = -1) := by rw [(e (x + 444) (by omega) (by omega)).2.1]; exact ci6
  have ci7' : zK (sP u7 x 8 (some (zN t6))) (x + 492) = (16, 2) := by rw [(e (x + 492) (by omega) (by omega)).1]; exact ci7
  have ci8' : FOK (sP u7 x 8 (some (zN t6))) (x + 493) := FOK.sm (by rw [hn] at hw; exact hw) (fun a z1 z2 => S5p (by omega))
  have ci9' : zO (sP u7 x 8 (some (zN t6))) (x + 493) 5 = 0 := by rw [hn] at h2; exact h2
  clear e e' ek eo ep es k9 mm hw h2 nn ps0 ps2 ps3 ps5 ps6 ps7 ci1 ci2 ci3 ci4 ci5 ci6 ci7 hk ho hn m0
  generalize (sP u7 x 8 (some (zN t6))) = t7 at hk1 ho1 hn1 m1 ps0' ps2' ps3' ps5' ps6' ps7' ps8' ci1' ci2' ci3' ci4' ci5' ci6' ci7' ci8' ci9' ⊢
  have hk := hk1
  have ho := ho1
  have hn := hn1
  have m0 := m1
  have ps0 := ps0'
  have ps2 := ps2'
  have ps3 := ps3'
  have ps5 := ps5'
  have ps6 := ps6'
  have ps7 := ps7'
  have ps8 := ps8'
  have ci1 := ci1'
  have ci2 := ci2'
  have ci3 := ci3'
  have ci4 := ci4'
  have ci5 := ci5'
  have ci6 := ci6'
  have ci7 := ci7'
  have ci8 := ci8'
  have ci9 := ci9'
  clear hk1 ho1 hn1 m1 ps0' ps2' ps3' ps5' ps6' ps7' ps8' ci1' ci2' ci3' ci4' ci5' ci6' ci7' ci8' ci9'
  refine zW_aload_n dX9_init_76 rfl ?_
  refine zW_new (ci := 4) dX9_init_77 (by decide) b184 b185 b8 (by show _ ≤ (520 : Nat); first | omega | exact Nat.le_of_ble_eq_true rfl | (simp only [zcn, zcl]; omega)) (by show _ ≤ (1074152 : Nat); first | omega | exact Nat.le_of_ble_eq_true rfl | (simp only [zcn, zcl]; omega)) ?_
  refine zW_dup dX9_init_80 rfl ?_
  refine zcIN0 dX9_init_81 rfl eX4_init (host := RX9) (by decide +kernel) ⟨by decide, by decide, by decide, by decide⟩ rfl rfl rfl (Nat.le_of_ble_eq_true rfl) (i_I (fun u8 hw h2 h3 nn mm => ?_))
  have mm : Same t7 u8 (zN t7) := (Same.nw (Nat.le_refl _)).tr mm
  have k9 : zK u8 x = (9, 0) := by rw [(mm x (by omega)).1]; exact hk
  refine zpP (t := .int) dX9_init_84 fX9_53 k9 rfl (Or.inr ⟨rfl, rfl⟩) (Or.inr ⟨_, rfl⟩) ?_
  obtain ⟨e', ek, eo, ep, es⟩ := XS (s := 9) (v := some (zN t7)) (show x < zN t7 by omega) mm
  have e : ∀ a, x < a → a < zN t7 → S5 t7 (sP u8 x 9 (some (zN t7))) a := fun a z1 z2 => e' a (by omega) z2
  have hk1 : zK (sP u8 x 9 (some (zN t7))) x = (9, 0) := ek.trans hk
  have ho1 : ∀ k, zO (sP u8 x 9 (some (zN t7))) x k = 0 := fun k => (congrFun eo k).trans (ho k)
  have hn1 : zN (sP u8 x 9 (some (zN t7))) = x + 503 := by show zN u8 = _; omega
  have m1 : Same σ (sP u8 x 9 (some (zN t7))) x := m0.tr ((mm.wk (by omega)).tr (Same.P (Nat.le_refl _)))
  have ps0' : zP (sP u8 x 9 (some (zN t7))) x 0 = some (x + 1) := (ep 0 (by decide)).trans ps0
  have ps2' : zP (sP u8 x 9 (some (zN t7))) x 2 = some (x + 2) := (ep 2 (by decide)).trans ps2
  have ps3' : zP (sP u8 x 9 (some (zN t7))) x 3 = some (x + 46) := (ep 3 (by decide)).trans ps3
  have ps5' : zP (sP u8 x 9 (some (zN t7))) x 5 = some (x + 90) := (ep 5 (by decide)).trans ps5
  have ps6' : zP (sP u8 x 9 (some (zN t7))) x 6 = some (x + 444) := (ep 6 (by decide)).trans ps6
  have ps7' : zP (sP u8 x 9 (some (zN t7))) x 7 = some (x + 492) := (ep 7 (by decide)).trans ps7
  have ps8' : zP (sP u8 x 9 (some (zN t7))) x 8 = some (x + 493) := (ep 8 (by decide)).trans ps8
  have ps9' : zP (sP u8 x 9 (some (zN t7))) x 9 = some (x + 500) := by rw [es, hn]
  have ci1' : zK (sP u8 x 9 (some (zN t7))) (x + 1) = (13, 600) := by rw [(e (x + 1) (by omega) (by omega)).1]; exact ci1
  have ci2' : SD (sP u8 x 9 (some (zN t7))) (x + 2) S0 := SD.sm ci2 (fun a z1 z2 => e a (by omega) (by omega))
  have ci3' : SK (sP u8 x 9 (some (zN t7))) (x + 46) := SK.sm ci3 (fun a z1 z2 => e a (by omega) (by omega))
  have ci4' : HD (sP u8 x 9 (some (zN t7))) (x + 90) [] := HD.sm ci4 (fun a z1 z2 => e a (by omega) (by omega))
  have ci5' : PK (sP u8 x 9 (some (zN t7))) (x + 444) := PK.sm ci5 (fun a z1 z2 => e a (by omega) (by omega))
  have ci6' : (zO (sP u8 x 9 (some (zN t7))) (x + 444) 2 = 0 ∧ zO (sP u8 x 9 (some (zN t7))) (x + 444) 3 = -1) := by rw [(e (x + 444) (by omega) (by omega)).2.1]; exact ci6
  have ci7' : zK (sP u8 x 9 (some (zN t7))) (x + 492) = (16, 2) := by rw [(e (x + 492) (by omega) (by omega)).1]; exact ci7
  have ci8' : FOK (sP u8 x 9 (some (zN t7))) (x + 493) := FOK.sm ci8 (fun a z1 z2 => e a (by omega) (by omega))
  have ci9' : zO (sP u8 x 9 (some (zN t7))) (x + 493) 5 = 0 := by rw [(e (x + 493) (by omega) (by omega)).2.1]; exact ci9
  have cia' : IK (sP u8 x 9 (some (zN t7))) (x + 500) := IK.sm (by rw [hn] at hw; exact hw) (fun a z1 z2 => S5p (by omega))
  have cib' : zO (sP u8 x 9 (some (zN t7))) (x + 500) 4 = 1 := by rw [hn] at h2; exact h2
  have cic' : (∀ k, zI (sP u8 x 9 (some (zN t7))) (x + 501) k = 0) := fun k => by have := h3 k; rw [hn] at this; exact this
  clear e e' ek eo ep es k9 mm hw h2 h3 nn ps0 ps2 ps3 ps5 ps6 ps7 ps8 ci1 ci2 ci3 ci4 ci5 ci6 ci7 ci8 ci9 hk ho hn m0
  generalize (sP u8 x 9 (some (zN t7))) = t8 at hk1 ho1 hn1 m1 ps0' ps2' ps3' ps5' ps6' ps7' ps8' ps9' ci1' ci2' ci3' ci4' ci5' ci6' ci7' ci8' ci9' cia' cib' cic' ⊢
  have hk := hk1
  have ho := ho1
  have hn := hn1
  have m0 := m1
  have ps0 := ps0'
  have ps2 := ps2'
  have ps3 := ps3'
  have ps5 := ps5'
  have ps6 := ps6'
  have ps7 := ps7'
  have ps8 := ps8'
  have ps9 := ps9'
  have ci1 := ci1'
  have ci2 := ci2'
  have ci3 := ci3'
  have ci4 := ci4'
  have ci5 := ci5'
  have ci6 := ci6'
  have ci7 := ci7'
  have ci8 := ci8'
  have ci9 := ci9'
  have cia := cia'
  have cib := cib'
  have cic := cic'
  clear hk1 ho1 hn1 m1 ps0' ps2' ps3' ps5' ps6' ps7' ps8' ps9' ci1' ci2' ci3' ci4' ci5' ci6' ci7' ci8' ci9' cia' cib' cic'
  refine zW_aload_n dX9_init_87 rfl ?_
  refine zW_new (ci := 5) dX9_init_88 (by decide) b211 b212 b9 (by show _ ≤ (520 : Nat); first | omega | exact Nat.le_of_ble_eq_true rfl | (simp only [zcn, zcl]; omega)) (by show _ ≤ (1074152 : Nat); first | omega | exact Nat.le_of_ble_eq_true rfl | (simp only [zcn, zcl]; omega)) ?_
  refine zW_dup dX9_init_91 rfl ?_
  refine zcIN0 dX9_init_92 rfl eX5_init (host := RX9) (by decide +kernel) ⟨by decide, by decide, by decide, by decide⟩ rfl rfl rfl (Nat.le_of_ble_eq_true rfl) (i_M (fun u9 hw nn mm => ?_))
  have mm : Same t8 u9 (zN t8) := (Same.nw (Nat.le_refl _)).tr mm
  have k9 : zK u9 x = (9, 0) := by rw [(mm x (by omega)).1]; exact hk
  refine zpP (t := .int) dX9_init_95 fX9_60 k9 rfl (Or.inr ⟨rfl, rfl⟩) (Or.inr ⟨_, rfl⟩) ?_
  obtain ⟨e', ek, eo, ep, es⟩ := XS (s := 10) (v := some (zN t8)) (show x < zN t8 by omega) mm
  have e : ∀ a, x < a → a < zN t8 → S5 t8 (sP u9 x 10 (some (zN t8))) a := fun a z1 z2 => e' a (by omega) z2
  have hk1 : zK (sP u9 x 10 (some (zN t8))) x = (9, 0) := ek.trans hk
  have ho1 : ∀ k, zO (sP u9 x 10 (some (zN t8))) x k = 0 := fun k => (congrFun eo k).trans (ho k)
  have hn1 : zN (sP u9 x 10 (some (zN t8))) = x + 505 := by show zN u9 = _; omega
  have m1 : Same σ (sP u9 x 10 (some (zN t8))) x := m0.tr ((mm.wk (by omega)).tr (Same.P (Nat.le_refl _)))
  have ps0' : zP (sP u9 x 10 (some (zN t8))) x 0 = some (x + 1) := (ep 0 (by decide)).trans ps0
  have ps2' : zP (sP u9 x 10 (some (zN t8))) x 2 = some (x + 2) := (ep 2 (by decide)).trans ps2
  have ps3' : zP (sP u9 x 10 (some (zN t8))) x 3 = some (x + 46) := (ep 3 (by decide)).trans ps3
  have ps5' : zP (sP u9 x 10 (some (zN t8))) x 5 = some (x + 90) := (ep 5 (by decide)).trans ps5
  have ps6' : zP (sP u9 x 10 (some (zN t8))) x 6 = some (x + 444) := (ep 6 (by decide)).trans ps6
  have ps7' : zP (sP u9 x 10 (some (zN t8))) x 7 = some (x + 492) := (ep 7 (by decide)).trans ps7
  have ps8' : zP (sP u9 x 10 (some (zN t8))) x 8 = some (x + 493) := (ep 8 (by decide)).trans ps8
  have ps9' : zP (sP u9 x 10 (some (zN t8))) x 9 = some (x + 500) := (ep 9 (by decide)).trans ps9
  have ps10' : zP (sP u9 x 10 (some (zN t8))) x 10 = some (x + 503) := by rw [es, hn]
  have ci1' : zK (sP u9 x 10 (some (zN t8))) (x + 1) = (13, 600) := by rw [(e (x + 1) (by omega) (by omega)).1]; exact ci1
  have ci2' : SD (sP u9 x 10 (some (zN t8))) (x + 2) S0 := SD.sm ci2 (fun a z1 z2 => e a (by omega) (by omega))
  have ci3' : SK (sP u9 x 10 (some (zN t8))) (x + 46) := SK.sm ci3 (fun a z1 z2 => e a (by omega) (by omega))
  have ci4' : HD (sP u9 x 10 (some (zN t8))) (x + 90) [] := HD.sm ci4 (fun a z1 z2 => e a (by omega) (by omega))
  have ci5' : PK (sP u9 x 10 (some (zN t8))) (x + 444) := PK.sm ci5 (fun a z1 z2 => e a (by omega) (by omega))
  have ci6' : (zO (sP u9 x 10 (some (zN t8))) (x + 444) 2 = 0 ∧ zO (sP u9 x 10 (some (zN t8))) (x + 444) 3 = -1) := by rw [(e (x + 444) (by omega) (by omega)).2.1]; exact ci6
  have ci7' : zK (sP u9 x 10 (some (zN t8))) (x + 492) = (16, 2) := by rw [(e (x + 492) (by omega) (by omega)).1]; exact ci7
  have ci8' : FOK (sP u9 x 10 (some (zN t8))) (x + 493) := FOK.sm ci8 (fun a z1 z2 => e a (by omega) (by omega))
  have ci9' : zO (sP u9 x 10 (some (zN t8))) (x + 493) 5 = 0 := by rw [(e (x + 493) (by omega) (by omega)).2.1]; exact ci9
  have cia' : IK (sP u9 x 10 (some (zN t8))) (x + 500) := IK.sm cia (fun a z1 z2 => e a (by omega) (by omega))
  have cib' : zO (sP u9 x 10 (some (zN t8))) (x + 500) 4 = 1 := by rw [(e (x + 500) (by omega) (by omega)).2.1]; exact cib
  have cic' : (∀ k, zI (sP u9 x 10 (some (zN t8))) (x + 501) k = 0) := fun k => by rw [(e (x + 501) (by omega) (by omega)).2.2.1]; exact cic k
  have cid' : MK (sP u9 x 10 (some (zN t8))) (x + 503) := MK.sm (by rw [hn] at hw; exact hw) (fun a z1 z2 => S5p (by omega))
  clear e e' ek eo ep es k9 mm hw nn ps0 ps2 ps3 ps5 ps6 ps7 ps8 ps9 ci1 ci2 ci3 ci4 ci5 ci6 ci7 ci8 ci9 cia cib cic hk ho hn m0
  generalize (sP u9 x 10 (some (zN t8))) = t9 at hk1 ho1 hn1 m1 ps0' ps2' ps3' ps5' ps6' ps7' ps8' ps9' ps10' ci1' ci2' ci3' ci4' ci5' ci6' ci7' ci8' ci9' cia' cib' cic' cid' ⊢
  have hk := hk1
  have ho := ho1
  have hn := hn1
  have m0 := m1
  have ps0 := ps0'
  have ps2 := ps2'
  have ps3 := ps3'
  have ps5 := ps5'
  have ps6 := ps6'
  have ps7 := ps7'
  have ps8 := ps8'
  have ps9 := ps9'
  have ps10 := ps10'
  have ci1 := ci1'
  have ci2 := ci2'
  have ci3 := ci3'
  have ci4 := ci4'
  have ci5 := ci5'
  have ci6 := ci6'
  have ci7 := ci7'
  have ci8 := ci8'
  have ci9 := ci9'
  have cia := cia'
  have cib := cib'
  have cic := cic'
  have cid := cid'
  clear hk1 ho1 hn1 m1 ps0' ps2' ps3' ps5' ps6' ps7' ps8' ps9' ps10' ci1' ci2' ci3' ci4' ci5' ci6' ci7' ci8' ci9' cia' cib' cic' cid'
  refine zW_aload_n dX9_init_98 rfl ?_
  refine zW_new (ci := 8) dX9_init_99 (by decide) b222 b42 b3 (by show _ ≤ (520 : Nat); first | omega | exact Nat.le_of_ble_eq_true rfl | (simp only [zcn, zcl]; omega)) (by show _ ≤ (1074152 : Nat); first | omega | exact Nat.le_of_ble_eq_true rfl | (simp only [zcn, zcl]; omega)) ?_
  refine zW_dup dX9_init_102 rfl ?_
  refine zW_sipush dX9_init_103 (by decide) ?_
  refine zcI1 dX9_init_106 rfl eX8_init b223 ⟨by decide, by decide, by decide, by decide⟩ rfl rfl rfl (Nat.le_of_ble_eq_true rfl) (i_W (cap := 3600) (by decide) (fun u10 hw nn mm => ?_))
  have k9 : zK u10 x = (9, 0) := by rw [(mm x (by omega)).1]; exact hk
  refine zpP (t := .int) dX9_init_109 fX9_69 k9 rfl (Or.inr ⟨rfl, rfl⟩) (Or.inr ⟨_, rfl⟩) ?_
  obtain ⟨e', ek, eo, ep, es⟩ := XS (s := 11) (v := some (zN t9)) (show x < zN t9 by omega) mm
  have e : ∀ a, x < a → a < zN t9 → S5 t9 (sP u10 x 11 (some (zN t9))) a := fun a z1 z2 => e' a (by omega) z2
  have hk1 : zK (sP u10 x 11 (some (zN t9))) x = (9, 0) := ek.trans hk
  have ho1 : ∀ k, zO (sP u10 x 11 (some (zN t9))) x k = 0 := fun k => (congrFun eo k).trans (ho k)
  have hn1 : zN (sP u10 x 11 (some (zN t9))) = x + 507 := by show zN u10 = _; omega
  have m1 : Same σ (sP u10 x 11 (some (zN t9))) x := m0.tr ((mm.wk (by omega)).tr (Same.P (Nat.le_refl _)))
  have ps0' : zP (sP u10 x 11 (some (zN t9))) x 0 = some (x + 1) := (ep 0 (by decide)).trans ps0
  have ps2' : zP (sP u10 x 11 (some (zN t9))) x 2 = some (x + 2) := (ep 2 (by decide)).trans ps2
  have ps3' : zP (sP u10 x 11 (some (zN t9))) x 3 = some (x + 46) := (ep 3 (by decide)).trans ps3
  have ps5' : zP (sP u10 x 11 (some (zN t9))) x 5 = some (x + 90) := (ep 5 (by decide)).trans ps5
  have ps6' : zP (sP u10 x 11 (some (zN t9))) x 6 = some (x + 444) := (ep 6 (by decide)).trans ps6
  have ps7' : zP (sP u10 x 11 (some (zN t9))) x 7 = some (x + 492) := (ep 7 (by decide)).trans ps7
  have ps8' : zP (sP u10 x 11 (some (zN t9))) x 8 = some (x + 493) := (ep 8 (by decide)).trans ps8
  have ps9' : zP (sP u10 x 11 (some (zN t9))) x 9 = some (x + 500) := (ep 9 (by decide)).trans ps9
  have ps10' : zP (sP u10 x 11 (some (zN t9))) x 10 = some (x + 503) := (ep 10 (by decide)).trans ps10
  have ps11' : zP (sP u10 x 11 (some (zN t9))) x 11 = some (x + 505) := by rw [es, hn]
  have ci1' : zK (sP u10 x 11 (some (zN t9))) (x + 1) = (13, 600) := by rw [(e (x + 1) (by omega) (by omega)).1]; exact ci1
  have ci2' : SD (sP u10 x 11 (some (zN t9))) (x + 2) S0 := SD.sm ci2 (fun a z1 z2 => e a (by omega) (by omega))
  have ci3' : SK (sP u10 x 11 (some (zN t9))) (x + 46) := SK.sm ci3 (fun a z1 z2 => e a (by omega) (by omega))
  have ci4' : HD (sP u10 x 11 (some (zN t9))) (x + 90) [] := HD.sm ci4 (fun a z1 z2 => e a (by omega) (by omega))
  have ci5' : PK (sP u10 x 11 (some (zN t9))) (x + 444) := PK.sm ci5 (fun a z1 z2 => e a (by omega) (by omega))
  have ci6' : (zO (sP u10 x 11 (some (zN t9))) (x + 444) 2 = 0 ∧ zO (sP u10 x 11 (some (zN t9))) (x + 444) 3 = -1) := by rw [(e (x + 444) (by omega) (by omega)).2.1]; exact ci6
  have ci7' : zK (sP u10 x 11 (some (zN t9))) (x + 492) = (16, 2) := by rw [(e (x + 492) (by omega) (by omega)).1]; exact ci7
  have ci8' : FOK (sP u10 x 11 (some (zN t9))) (x + 493) := FOK.sm ci8 (fun a z1 z2 => e a (by omega) (by omega))
  have ci9' : zO (sP u10 x 11 (some (zN t9))) (x + 493) 5 = 0 := by rw [(e (x + 493) (by omega) (by omega)).2.1]; exact ci9
  have cia' : IK (sP u10 x 11 (some (zN t9))) (x + 500) := IK.sm cia (fun a z1 z2 => e a (by omega) (by omega))
  have cib' : zO (sP u10 x 11 (some (zN t9))) (x + 500) 4 = 1 := by rw [(e (x + 500) (by omega) (by omega)).2.1]; exact cib
  have cic' : (∀ k, zI (sP u10 x 11 (some (zN t9))) (x + 501) k = 0) := fun k => by rw [(e (x + 501) (by omega) (by omega)).2.2.1]; exact cic k
  have cid' : MK (sP u10 x 11 (some (zN t9))) (x + 503) := MK.sm cid (fun a z1 z2 => e a (by omega) (by omega))
  have cie' : Wk (sP u10 x 11 (some (zN t9))) (x + 505) (x + 506) 3600 := (Wd.sp (by rw [hn] at hw; exact hw) (by omega)).1
  clear e e' ek eo ep es k9 mm hw nn ps0 ps2 ps3 ps5 ps6 ps7 ps8 ps9 ps10 ci1 ci2 ci3 ci4 ci5 ci6 ci7 ci8 ci9 cia cib cic cid hk ho hn m0
  generalize (sP u10 x 11 (some (zN t9))) = t10 at hk1 ho1 hn1 m1 ps0' ps2' ps3' ps5' ps6' ps7' ps8' ps9' ps10' ps11' ci1' ci2' ci3' ci4' ci5' ci6' ci7' ci8' ci9' cia' cib' cic' cid' cie' ⊢
  have hk := hk1
  have ho := ho1
  have hn := hn1
  have m0 := m1
  have ps0 := ps0'
  have ps2 := ps2'
  have ps3 := ps3'
  have ps5 := ps5'
  have ps6 := ps6'
  have ps7 := ps7'
  have ps8 := ps8'
  have ps9 := ps9'
  have ps10 := ps10'
  have ps11 := ps11'
  have ci1 := ci1'
  have ci2 := ci2'
  have ci3 := ci3'
  have ci4 := ci4'
  have ci5 := ci5'
  have ci6 := ci6'
  have ci7 := ci7'
  have ci8 := ci8'
  have ci9 := ci9'
  have cia := cia'
  have cib := cib'
  have cic := cic'
  have cid := cid'
  have cie := cie'
  clear hk1 ho1 hn1 m1 ps0' ps2' ps3' ps5' ps6' ps7' ps8' ps9' ps10' ps11' ci1' ci2' ci3' ci4' ci5' ci6' ci7' ci8' ci9' cia' cib' cic' cid' cie'
  refine zW_aload_n dX9_init_112 rfl ?_
  refine zW_new (ci := 8) dX9_init_113 (by decide) b222 b42 b3 (by show _ ≤ (520 : Nat); first | omega | exact Nat.le_of_ble_eq_true rfl | (simp only [zcn, zcl]; omega)) (by show _ ≤ (1074152 : Nat); first | omega | exact Nat.le_of_ble_eq_true rfl | (simp only [zcn, zcl]; omega)) ?_
  refine zW_dup dX9_init_116 rfl ?_
  refine zW_sipush dX9_init_117 (by decide) ?_
  refine zcI1 dX9_init_120 rfl eX8_init b223 ⟨by decide, by decide, by decide, by decide⟩ rfl rfl rfl (Nat.le_of_ble_eq_true rfl) (i_W (cap := 355) (by decide) (fun u11 hw nn mm => ?_))
  have k9 : zK u11 x = (9, 0) := by rw [(mm x (by omega)).1]; exact hk
  refine zpP (t := .int) dX9_init_123 fX9_73 k9 rfl (Or.inr ⟨rfl, rfl⟩) (Or.inr ⟨_, rfl⟩) ?_
  obtain ⟨e', ek, eo, ep, es⟩ := XS (s := 12) (v := some (zN t10)) (show x < zN t10 by omega) mm
  have e : ∀ a, x < a → a < zN t10 → S5 t10 (sP u11 x 12 (some (zN t10))) a := fun a z1 z2 => e' a (by omega) z2
  have hk1 : zK (sP u11 x 12 (some (zN t10))) x = (9, 0) := ek.trans hk
  have ho1 : ∀ k, zO (sP u11 x 12 (some (zN t10))) x k = 0 := fun k => (congrFun eo k).trans (ho k)
  have hn1 : zN (sP u11 x 12 (some (zN t10))) = x + 509 := by show zN u11 = _; omega
  have m1 : Same σ (sP u11 x 12 (some (zN t10))) x := m0.tr ((mm.wk (by omega)).tr (Same.P (Nat.le_refl _)))
  have ps0' : zP (sP u11 x 12 (some (zN t10))) x 0 = some (x + 1) := (ep 0 (by decide)).trans ps0
  have ps2' : zP (sP u11 x 12 (some (zN t10))) x 2 = some (x + 2) := (ep 2 (by decide)).trans ps2
  have ps3' : zP (sP u11 x 12 (some (zN t10))) x 3 = some (x + 46) := (ep 3 (by decide)).trans ps3
  have ps5' : zP (sP u11 x 12 (some (zN t10))) x 5 = some (x + 90) := (ep 5 (by decide)).trans ps5
  have ps6' : zP (sP u11 x 12 (some (zN t10))) x 6 = some (x + 444) := (ep 6 (by decide)).trans ps6
  have ps7' : zP (sP u11 x 12 (some (zN t10))) x 7 = some (x + 492) := (ep 7 (by decide)).trans ps7
  have ps8' : zP (sP u11 x 12 (some (zN t10))) x 8 = some (x + 493) := (ep 8 (by decide)).trans ps8
  have ps9' : zP (sP u11 x 12 (some (zN t10))) x 9 = some (x + 500) := (ep 9 (by decide)).trans ps9
  have ps10' : zP (sP u11 x 12 (some (zN t10))) x 10 = some (x + 503) := (ep 10 (by decide)).trans ps10
  have ps11' : zP (sP u11 x 12 (some (zN t10))) x 11 = some (x + 505) := (ep 11 (by decide)).trans ps11
  have ps12' : zP (sP u11 x 12 (some (zN t10))) x 12 = some (x + 507) := by rw [es, hn]
  have ci1' : zK (sP u11 x 12 (some (zN t10))) (x + 1) = (13, 600) := by rw [(e (x + 1) (by omega) (by omega)).1]; exact ci1
  have ci2' : SD (sP u11 x 12 (some (zN t10))) (x + 2) S0 := SD.sm ci2 (fun a z1 z2 => e a (by omega) (by omega))
  have ci3' : SK (sP u11 x 12 (some (zN t10))) (x + 46) := SK.sm ci3 (fun a z1 z2 => e a (by omega) (by omega))
  have ci4' : HD (sP u11 x 12 (some (zN t10))) (x + 90) [] := HD.sm ci4 (fun a z1 z2 => e a (by omega) (by omega))
  have ci5' : PK (sP u11 x 12 (some (zN t10))) (x + 444) := PK.sm ci5 (fun a z1 z2 => e a (by omega) (by omega))
  have ci6' : (zO (sP u11 x 12 (some (zN t10))) (x + 444) 2 = 0 ∧ zO (sP u11 x 12 (some (zN t10))) (x + 444) 3 = -1) := by rw [(e (x + 444) (by omega) (by omega)).2.1]; exact ci6
  have ci7' : zK (sP u11 x 12 (some (zN t10))) (x + 492) = (16, 2) := by rw [(e (x + 492) (by omega) (by omega)).1]; exact ci7
  have ci8' : FOK (sP u11 x 12 (some (zN t10))) (x + 493) := FOK.sm ci8 (fun a z1 z2 => e a (by omega) (by omega))
  have ci9' : zO (sP u11 x 12 (some (zN t10))) (x + 493) 5 = 0 := by rw [(e (x + 493) (by omega) (by omega)).2.1]; exact ci9
  have cia' : IK (sP u11 x 12 (some (zN t10))) (x + 500) := IK.sm cia (fun a z1 z2 => e a (by omega) (by omega))
  have cib' : zO (sP u11 x 12 (some (zN t10))) (x + 500) 4 = 1 := by rw [(e (x + 500) (by omega) (by omega)).2.1]; exact cib
  have cic' : (∀ k, zI (sP u11 x 12 (some (zN t10))) (x + 501) k = 0) := fun k => by rw [(e (x + 501) (by omega) (by omega)).2.2.1]; exact cic k
  have cid' : MK (sP u11 x 12 (some (zN t10))) (x + 503) := MK.sm cid (fun a z1 z2 => e a (by omega) (by omega))
  have cie' : Wk (sP u11 x 12 (some (zN t10))) (x + 505) (x + 506) 3600 := Wk.sm cie (e (x + 505) (by omega) (by omega)) (e (x + 506) (by omega) (by omega))
  have cif' : Wk (sP u11 x 12 (some (zN t10))) (x + 507) (x + 508) 355 := (Wd.sp (by rw [hn] at hw; exact hw) (by omega)).1
  clear e e' ek eo ep es k9 mm hw nn ps0 ps2 ps3 ps5 ps6 ps7 ps8 ps9 ps10 ps11 ci1 ci2 ci3 ci4 ci5 ci6 ci7 ci8 ci9 cia cib cic cid cie hk ho hn m0
  generalize (sP u11 x 12 (some (zN t10))) = t11 at hk1 ho1 hn1 m1 ps0' ps2' ps3' ps5' ps6' ps7' ps8' ps9' ps10' ps11' ps12' ci1' ci2' ci3' ci4' ci5' ci6' ci7' ci8' ci9' cia' cib' cic' cid' cie' cif' ⊢
  have hk := hk1
  have ho := ho1
  have hn := hn1
  have m0 := m1
  have ps0 := ps0'
  have ps2 := ps2'
  have ps3 := ps3'
  have ps5 := ps5'
  have ps6 := ps6'
  have ps7 := ps7'
  have ps8 := ps8'
  have ps9 := ps9'
  have ps10 := ps10'
  have ps11 := ps11'
  have ps12 := ps12'
  have ci1 := ci1'
  have ci2 := ci2'
  have ci3 := ci3'
  have ci4 := ci4'
  have ci5 := ci5'
  have ci6 := ci6'
  have ci7 := ci7'
  have ci8 := ci8'
  have ci9 := ci9'
  have cia := cia'
  have cib := cib'
  have cic := cic'
  have cid := cid'
  have cie := cie'
  have cif := cif'
  clear hk1 ho1 hn1 m1 ps0' ps2' ps3' ps5' ps6' ps7' ps8' ps9' ps10' ps11' ps12' ci1' ci2' ci3' ci4' ci5' ci6' ci7' ci8' ci9' cia' cib' cic' cid' cie' cif'
  refine zW_aload_n dX9_init_126 rfl ?_
  refine zW_new (ci := 1) dX9_init_127 (by decide) b224 b225 b10 (by show _ ≤ (520 : Nat); first | omega | exact Nat.le_of_ble_eq_true rfl | (simp only [zcn, zcl]; omega)) (by show _ ≤ (1074152 : Nat); first | omega | exact Nat.le_of_ble_eq_true rfl | (simp only [zcn, zcl]; omega)) ?_
  refine zW_dup dX9_init_130 rfl ?_
  refine zcIN0 dX9_init_131 rfl eX1_init (host := RX9) (by decide +kernel) ⟨by decide, by decide, by decide, by decide⟩ rfl rfl rfl (Nat.le_of_ble_eq_true rfl) (i_T (fun u12 hw nn mm => ?_))
  have mm : Same t11 u12 (zN t11) := (Same.nw (Nat.le_refl _)).tr mm
  have k9 : zK u12 x = (9, 0) := by rw [(mm x (by omega)).1]; exact hk
  refine zpP (t := .int) dX9_init_134 fX9_79 k9 rfl (Or.inr ⟨rfl, rfl⟩) (Or.inr ⟨_, rfl⟩) ?_
  obtain ⟨e', ek, eo, ep, es⟩ := XS (s := 13) (v := some (zN t11)) (show x < zN t11 by omega) mm
  have e : ∀ a, x < a → a < zN t11 → S5 t11 (sP u12 x 13 (some (zN t11))) a := fun a z1 z2 => e' a (by omega) z2
  have hk1 : zK (sP u12 x 13 (some (zN t11))) x = (9, 0) := ek.trans hk
  have ho1 : ∀ k, zO (sP u12 x 13 (some (zN t11))) x k = 0 := fun k => (congrFun eo k).trans (ho k)
  have hn1 : zN (sP u12 x 13 (some (zN t11))) = x + 511 := by show zN u12 = _; omega
  have m1 : Same σ (sP u12 x 13 (some (zN t11))) x := m0.tr ((mm.wk (by omega)).tr (Same.P (Nat.le_refl _)))
  have ps0' : zP (sP u12 x 13 (some (zN t11))) x 0 = some (x + 1) := (ep 0 (by decide)).trans ps0
  have ps2' : zP (sP u12 x 13 (some (zN t11))) x 2 = some (x + 2) := (ep 2 (by decide)).trans ps2
  have ps3' : zP (sP u12 x 13 (some (zN t11))) x 3 = some (x + 46) := (ep 3 (by decide)).trans ps3
  have ps5' : zP (sP u12 x 13 (some (zN t11))) x 5 = some (x + 90) := (ep 5 (by decide)).trans ps5
  have ps6' : zP (sP u12 x 13 (some (zN t11))) x 6 = some (x + 444) := (ep 6 (by decide)).trans ps6
  have ps7' : zP (sP u12 x 13 (some (zN t11))) x 7 = some (x + 492) := (ep 7 (by decide)).trans ps7
  have ps8' : zP (sP u12 x 13 (some (zN t11))) x 8 = some (x + 493) := (ep 8 (by decide)).trans ps8
  have ps9' : zP (sP u12 x 13 (some (zN t11))) x 9 = some (x + 500) := (ep 9 (by decide)).trans ps9
  have ps10' : zP (sP u12 x 13 (some (zN t11))) x 10 = some (x + 503) := (ep 10 (by decide)).trans ps10
  have ps11' : zP (sP u12 x 13 (some (zN t11))) x 11 = some (x + 505) := (ep 11 (by decide)).trans ps11
  have ps12' : zP (sP u12 x 13 (some (zN t11))) x 12 = some (x + 507) := (ep 12 (by decide)).trans ps12
  have ps13' : zP (sP u12 x 13 (some (zN t11))) x 13 = some (x + 509) := by rw [es, hn]
  have ci1' : zK (sP u12 x 13 (some (zN t11))) (x + 1) = (13, 600) := by rw [(e (x + 1) (by omega) (by omega)).1]; exact ci1
  have ci2' : SD (sP u12 x 13 (some (zN t11))) (x + 2) S0 := SD.sm ci2 (fun a z1 z2 => e a (by omega) (by omega))
  have ci3' : SK (sP u12 x 13 (some (zN t11))) (x + 46) := SK.sm ci3 (fun a z1 z2 => e a (by omega) (by omega))
  have ci4' : HD (sP u12 x 13 (some (zN t11))) (x + 90) [] := HD.sm ci4 (fun a z1 z2 => e a (by omega) (by omega))
  have ci5' : PK (sP u12 x 13 (some (zN t11))) (x + 444) := PK.sm ci5 (fun a z1 z2 => e a (by omega) (by omega))
  have ci6' : (zO (sP u12 x 13 (some (zN t11))) (x + 444) 2 = 0 ∧ zO (sP u12 x 13 (some (zN t11))) (x + 444) 3 = -1) := by rw [(e (x + 444) (by omega) (by omega)).2.1]; exact ci6
  have ci7' : zK (sP u12 x 13 (some (zN t11))) (x + 492) = (16, 2) := by rw [(e (x + 492) (by omega) (by omega)).1]; exact ci7
  have ci8' : FOK (sP u12 x 13 (some (zN t11))) (x + 493) := FOK.sm ci8 (fun a z1 z2 => e a (by omega) (by omega))
  have ci9' : zO (sP u12 x 13 (some (zN t11))) (x + 493) 5 = 0 := by rw [(e (x + 493) (by omega) (by omega)).2.1]; exact ci9
  have cia' : IK (sP u12 x 13 (some (zN t11))) (x + 500) := IK.sm cia (fun a z1 z2 => e a (by omega) (by omega))
  have cib' : zO (sP u12 x 13 (some (zN t11))) (x + 500) 4 = 1 := by rw [(e (x + 500) (by omega) (by omega)).2.1]; exact cib
  have cic' : (∀ k, zI (sP u12 x 13 (some (zN t11))) (x + 501) k = 0) := fun k => by rw [(e (x + 501) (by omega) (by omega)).2.2.1]; exact cic k
  have cid' : MK (sP u12 x 13 (some (zN t11))) (x + 503) := MK.sm cid (fun a z1 z2 => e a (by omega) (by omega))
  have cie' : Wk (sP u12 x 13 (some (zN t11))) (x + 505) (x + 506) 3600 := Wk.sm cie (e (x + 505) (by omega) (by omega)) (e (x + 506) (by omega) (by omega))
  have cif' : Wk (sP u12 x 13 (some (zN t11))) (x + 507) (x + 508) 355 := Wk.sm cif (e (x + 507) (by omega) (by omega)) (e (x + 508) (by omega) (by omega))
  have cig' : FD (sP u12 x 13 (some (zN t11))) (x + 509) [] := FD.sm (by rw [hn] at hw; exact hw) (fun a z1 z2 => S5p (by omega))
  clear e e' ek eo ep es k9 mm hw nn ps0 ps2 ps3 ps5 ps6 ps7 ps8 ps9 ps10 ps11 ps12 ci1 ci2 ci3 ci4 ci5 ci6 ci7 ci8 ci9 cia cib cic cid cie cif hk ho hn m0
  generalize (sP u12 x 13 (some (zN t11))) = t12 at hk1 ho1 hn1 m1 ps0' ps2' ps3' ps5' ps6' ps7' ps8' ps9' ps10' ps11' ps12' ps13' ci1' ci2' ci3' ci4' ci5' ci6' ci7' ci8' ci9' cia' cib' cic' cid' cie' cif' cig' ⊢
  have hk := hk1
  have ho := ho1
  have hn := hn1
  have m0 := m1
  have ps0 := ps0'
  have ps2 := ps2'
  have ps3 := ps3'
  have ps5 := ps5'
  have ps6 := ps6'
  have ps7 := ps7'
  have ps8 := ps8'
  have ps9 := ps9'
  have ps10 := ps10'
  have ps11 := ps11'
  have ps12 := ps12'
  have ps13 := ps13'
  have ci1 := ci1'
  have ci2 := ci2'
  have ci3 := ci3'
  have ci4 := ci4'
  have ci5 := ci5'
  have ci6 := ci6'
  have ci7 := ci7'
  have ci8 := ci8'
  have ci9 := ci9'
  have cia := cia'
  have cib := cib'
  have cic := cic'
  have cid := cid'
  have cie := cie'
  have cif := cif'
  have cig := cig'
  clear hk1 ho1 hn1 m1 ps0' ps2' ps3' ps5' ps6' ps7' ps8' ps9' ps10' ps11' ps12' ps13' ci1' ci2' ci3' ci4' ci5' ci6' ci7' ci8' ci9' cia' cib' cic' cid' cie' cif' cig'
  exact hQ t12 _ _ (Nat.le_of_ble_eq_true rfl) (Nat.le_of_ble_eq_true rfl) hk ho ⟨ps0, ps2, ps3, ps5, ps6, ps7, ps8, ps9, ps10, ps11, ps12, ps13⟩ ⟨ci1, ci2, ci3, ci4, ci5, ci6.1, ci6.2, ci7, ci8, ci9, cia, cib, cic, cid, cie, cif, cig⟩ hn m0
end CINITY
