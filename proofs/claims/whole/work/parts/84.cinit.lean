/-! the class's constructors: straight ones -/
section CINIT
variable {Γ : GG} {σ σ' σ0 : HS} {Q : Res → HS → Prop} {y j s ci : Nat} {c : Nat × Nat} {sl : List Nat} {kd : List (Nat × Nat)}
def Same (σ0 σ : HS) (y : Nat) : Prop := ∀ a, a < y → zK σ a = zK σ0 a ∧ zO σ a = zO σ0 a ∧ zI σ a = zI σ0 a ∧ zJ σ a = zJ σ0 a ∧ zP σ a = zP σ0 a
set_option maxRecDepth 100000 in
theorem Same.rf : Same σ σ y := fun _ _ => ⟨rfl, rfl, rfl, rfl, rfl⟩
set_option maxRecDepth 100000 in
theorem Same.tr (h : Same σ0 σ y) (h' : Same σ σ' y) : Same σ0 σ' y := fun a ha => by
  obtain ⟨a1, a2, a3, a4, a5⟩ := h a ha
  obtain ⟨b1, b2, b3, b4, b5⟩ := h' a ha
  exact ⟨b1.trans a1, b2.trans a2, b3.trans a3, b4.trans a4, b5.trans a5⟩
set_option maxRecDepth 100000 in
theorem Same.wk {y' : Nat} (h : Same σ0 σ y) (hy : y' ≤ y) : Same σ0 σ y' := fun a ha => h a (by omega)
set_option maxRecDepth 100000 in
theorem Same.nw (h : y ≤ zN σ) : Same σ (sNew σ c) y := fun a ha => ⟨by rw [zK_sNew, if_neg (by omega)], funext fun k => by rw [zO_sNew, if_neg (by omega)], funext fun k => by rw [zI_sNew, if_neg (by omega)], funext fun k => by rw [zJ_sNew, if_neg (by omega)], funext fun k => by rw [zP_sNew, if_neg (by omega)]⟩
set_option maxRecDepth 100000 in
theorem Same.O {a k : Nat} {v : Int} (h : y ≤ a) : Same σ (sO σ a k v) y := fun b hb => ⟨rfl, funext fun i => zO_sOa σ k i v (by omega), rfl, rfl, rfl⟩
set_option maxRecDepth 100000 in
theorem Same.P {a k : Nat} {v : Option Nat} (h : y ≤ a) : Same σ (sP σ a k v) y := fun b hb => ⟨rfl, rfl, rfl, rfl, funext fun i => zP_sPa _ _ _ _ (by omega)⟩
/-- an object at y, its first rows behind it -/
def FG (ci : Nat) (sl : List Nat) (kd : List (Nat × Nat)) (σ0 σ : HS) (y j : Nat) : Prop := zK σ y = (ci, 0) ∧ zN σ = y + 1 + j ∧ (∀ i, i < j → zP σ y (sl.getD i 0) = some (y + 1 + i) ∧ zK σ (y + 1 + i) = kd.getD i (0, 0) ∧ ∀ k, zI σ (y + 1 + i) k = 0) ∧ (∀ k, zO σ y k = 0) ∧ Same σ0 σ y
set_option maxRecDepth 100000 in
theorem FG.new (h : FG ci sl kd σ0 σ y j) : zK (sNew σ c) y = (ci, 0) := by
  rw [zK_sNew, if_neg (by have := h.2.1; omega)]
  exact h.1
set_option maxRecDepth 100000 in
theorem FG.step (h : FG ci sl kd σ0 σ y j) (hi : ∀ i, i < j → sl.getD i 0 ≠ sl.getD j 0) (hs : s = sl.getD j 0) (hc : c = kd.getD j (0, 0)) : FG ci sl kd σ0 (sP (sNew σ c) y s (some (zN σ))) y (j + 1) := by
  obtain ⟨h1, h2, h3, h4, h5⟩ := id h
  subst hs
  subst hc
  refine ⟨?_, ?_, fun i hi9 => ?_, fun k => ?_, h5.tr ((Same.nw (by omega)).tr (Same.P (Nat.le_refl _)))⟩
  · rw [zK_sP]; exact h.new
  · show zN σ + 1 = _
    omega
  · by_cases e : i = j
    · subst e
      refine ⟨by rw [zP_sPs, h2], by rw [zK_sP, zK_sNew, if_pos (by omega)], fun k => by rw [zI_sP, zI_sNew, if_pos (by omega)]⟩
    · obtain ⟨a1, a2, a3⟩ := h3 i (by omega)
      refine ⟨?_, ?_, fun k => ?_⟩
      · rw [zP_sPk _ _ _ _ (hi i (by omega)), zP_sNew, if_neg (by omega)]; exact a1
      · rw [zK_sP, zK_sNew, if_neg (by omega)]; exact a2
      · rw [zI_sP, zI_sNew, if_neg (by omega)]; exact a3 k
  · rw [zO_sP, zO_sNew, if_neg (by omega)]; exact h4 k
set_option maxRecDepth 100000 in
theorem i_X2 (hk : zK σ y = (2, 0)) (hn : zN σ = y + 1) (ho : ∀ k, zO σ y k = 0) (hQ : ∀ σ1, FG 2 [0, 1, 2, 3] [(13, 2840), (13, 355), (13, 355), (13, 355)] σ σ1 y 4 → Q (.inl none) (sO (sO σ1 y 4 1) y 6 1)) : zM Γ mX2_init [vR (some y)] σ Q := by
  refine zM_of (n := 0) (by decide +kernel) rfl rfl rfl ?_
  have f0 : FG 2 [0, 1, 2, 3] [(13, 2840), (13, 355), (13, 355), (13, 355)] σ σ y 0 := ⟨hk, by omega, fun i hi => absurd hi (Nat.not_lt_zero i), ho, Same.rf⟩
  refine zW_aload_n dX2_init_0 rfl ?_
  refine zW_objInit dX2_init_1 b244 b32 b33 (by decide) (by decide) ?_
  refine zW_aload_n dX2_init_4 rfl ?_
  refine zW_sipush dX2_init_5 (by decide) ?_
  refine zW_newa (K := 13) dX2_init_8 (by simp) b69 (by first | assumption | omega | (unfold InR; omega) | (unfold InL; omega) | (simp only [InR] at *; omega)) (by first | assumption | omega | (unfold InR; omega) | (unfold InL; omega) | (simp only [InR] at *; omega)) (by show _ ≤ (4 : Nat); omega) (by show _ ≤ (3905 : Nat); omega) ?_
  refine zpP dX2_init_10 fX2_9 f0.new rfl (Or.inr ⟨rfl, rfl⟩) (Or.inl rfl) ?_
  have f1 := f0.step (s := 0) (c := (13, 2840)) (by decide) rfl rfl
  change zW _ _ _ _ _ (sP (sNew σ (13, 2840)) y 0 (some (zN σ))) _ _ _
  generalize sP (sNew σ (13, 2840)) y 0 (some (zN σ)) = s1 at f1 ⊢
  refine zW_aload_n dX2_init_13 rfl ?_
  refine zW_sipush dX2_init_14 (by decide) ?_
  refine zW_newa (K := 13) dX2_init_17 (by simp) b69 (by first | assumption | omega | (unfold InR; omega) | (unfold InL; omega) | (simp only [InR] at *; omega)) (by first | assumption | omega | (unfold InR; omega) | (unfold InL; omega) | (simp only [InR] at *; omega)) (by show _ ≤ (4 : Nat); omega) (by show _ ≤ (3905 : Nat); omega) ?_
  refine zpP dX2_init_19 fX2_15 f1.new rfl (Or.inr ⟨rfl, rfl⟩) (Or.inl rfl) ?_
  have f2 := f1.step (s := 1) (c := (13, 355)) (by decide) rfl rfl
  change zW _ _ _ _ _ (sP (sNew s1 (13, 355)) y 1 (some (zN s1))) _ _ _
  generalize sP (sNew s1 (13, 355)) y 1 (some (zN s1)) = s2 at f2 ⊢
  refine zW_aload_n dX2_init_22 rfl ?_
  refine zW_sipush dX2_init_23 (by decide) ?_
  refine zW_newa (K := 13) dX2_init_26 (by simp) b69 (by first | assumption | omega | (unfold InR; omega) | (unfold InL; omega) | (simp only [InR] at *; omega)) (by first | assumption | omega | (unfold InR; omega) | (unfold InL; omega) | (simp only [InR] at *; omega)) (by show _ ≤ (4 : Nat); omega) (by show _ ≤ (3905 : Nat); omega) ?_
  refine zpP dX2_init_28 fX2_18 f2.new rfl (Or.inr ⟨rfl, rfl⟩) (Or.inl rfl) ?_
  have f3 := f2.step (s := 2) (c := (13, 355)) (by decide) rfl rfl
  change zW _ _ _ _ _ (sP (sNew s2 (13, 355)) y 2 (some (zN s2))) _ _ _
  generalize sP (sNew s2 (13, 355)) y 2 (some (zN s2)) = s3 at f3 ⊢
  refine zW_aload_n dX2_init_31 rfl ?_
  refine zW_sipush dX2_init_32 (by decide) ?_
  refine zW_newa (K := 13) dX2_init_35 (by simp) b69 (by first | assumption | omega | (unfold InR; omega) | (unfold InL; omega) | (simp only [InR] at *; omega)) (by first | assumption | omega | (unfold InR; omega) | (unfold InL; omega) | (simp only [InR] at *; omega)) (by show _ ≤ (4 : Nat); omega) (by show _ ≤ (3905 : Nat); omega) ?_
  refine zpP dX2_init_37 fX2_21 f3.new rfl (Or.inr ⟨rfl, rfl⟩) (Or.inl rfl) ?_
  have f4 := f3.step (s := 3) (c := (13, 355)) (by decide) rfl rfl
  change zW _ _ _ _ _ (sP (sNew s3 (13, 355)) y 3 (some (zN s3))) _ _ _
  generalize sP (sNew s3 (13, 355)) y 3 (some (zN s3)) = s4 at f4 ⊢
  refine zW_aload_n dX2_init_40 rfl ?_
  refine zW_iconst dX2_init_41 ?_
  refine zpI dX2_init_42 fX2_24 f4.1 rfl (Or.inr ⟨rfl, rfl⟩) (zst_int _) ?_
  refine zW_aload_n dX2_init_45 rfl ?_
  refine zW_iconst dX2_init_46 ?_
  refine zpI dX2_init_47 fX2_28 f4.1 rfl (Or.inr ⟨rfl, rfl⟩) zst_1 ?_
  refine zW_return dX2_init_50 rfl (by first | decide | (show _ ≤ (4 : Nat); omega)) (by first | decide | (show _ ≤ (3905 : Nat); omega)) ?_
  exact hQ _ f4
set_option maxRecDepth 100000 in
theorem i_X0 (hk : zK σ y = (0, 0)) (hn : zN σ = y + 1) (ho : ∀ k, zO σ y k = 0) (hQ : ∀ σ1, FG 0 [0, 1, 3, 4, 6, 7] [(13, 2840), (13, 355), (13, 2841), (13, 2841), (13, 355), (13, 355)] σ σ1 y 6 → Q (.inl none) σ1) : zM Γ mX0_init [vR (some y)] σ Q := by
  refine zM_of (n := 0) (by decide +kernel) rfl rfl rfl ?_
  have f0 : FG 0 [0, 1, 3, 4, 6, 7] [(13, 2840), (13, 355), (13, 2841), (13, 2841), (13, 355), (13, 355)] σ σ y 0 := ⟨hk, by omega, fun i hi => absurd hi (Nat.not_lt_zero i), ho, Same.rf⟩
  refine zW_aload_n dX0_init_0 rfl ?_
  refine zW_objInit dX0_init_1 b158 b32 b33 (by decide) (by decide) ?_
  refine zW_aload_n dX0_init_4 rfl ?_
  refine zW_sipush dX0_init_5 (by decide) ?_
  refine zW_newa (K := 13) dX0_init_8 (by simp) b69 (by first | assumption | omega | (unfold InR; omega) | (unfold InL; omega) | (simp only [InR] at *; omega)) (by first | assumption | omega | (unfold InR; omega) | (unfold InL; omega) | (simp only [InR] at *; omega)) (by show _ ≤ (6 : Nat); omega) (by show _ ≤ (9587 : Nat); omega) ?_
  refine zpP dX0_init_10 fX0_9 f0.new rfl (Or.inr ⟨rfl, rfl⟩) (Or.inl rfl) ?_
  have f1 := f0.step (s := 0) (c := (13, 2840)) (by decide) rfl rfl
  change zW _ _ _ _ _ (sP (sNew σ (13, 2840)) y 0 (some (zN σ))) _ _ _
  generalize sP (sNew σ (13, 2840)) y 0 (some (zN σ)) = s1 at f1 ⊢
  refine zW_aload_n dX0_init_13 rfl ?_
  refine zW_sipush dX0_init_14 (by decide) ?_
  refine zW_newa (K := 13) dX0_init_17 (by simp) b69 (by first | assumption | omega | (unfold InR; omega) | (unfold InL; omega) | (simp only [InR] at *; omega)) (by first | assumption | omega | (unfold InR; omega) | (unfold InL; omega) | (simp only [InR] at *; omega)) (by show _ ≤ (6 : Nat); omega) (by show _ ≤ (9587 : Nat); omega) ?_
  refine zpP dX0_init_19 fX0_15 f1.new rfl (Or.inr ⟨rfl, rfl⟩) (Or.inl rfl) ?_
  have f2 := f1.step (s := 1) (c := (13, 355)) (by decide) rfl rfl
  change zW _ _ _ _ _ (sP (sNew s1 (13, 355)) y 1 (some (zN s1))) _ _ _
  generalize sP (sNew s1 (13, 355)) y 1 (some (zN s1)) = s2 at f2 ⊢
  refine zW_aload_n dX0_init_22 rfl ?_
  refine zW_sipush dX0_init_23 (by decide) ?_
  refine zW_newa (K := 13) dX0_init_26 (by simp) b69 (by first | assumption | omega | (unfold InR; omega) | (unfold InL; omega) | (simp only [InR] at *; omega)) (by first | assumption | omega | (unfold InR; omega) | (unfold InL; omega) | (simp only [InR] at *; omega)) (by show _ ≤ (6 : Nat); omega) (by show _ ≤ (9587 : Nat); omega) ?_
  refine zpP dX0_init_28 fX0_18 f2.new rfl (Or.inr ⟨rfl, rfl⟩) (Or.inl rfl) ?_
  have f3 := f2.step (s := 3) (c := (13, 2841)) (by decide) rfl rfl
  change zW _ _ _ _ _ (sP (sNew s2 (13, 2841)) y 3 (some (zN s2))) _ _ _
  generalize sP (sNew s2 (13, 2841)) y 3 (some (zN s2)) = s3 at f3 ⊢
  refine zW_aload_n dX0_init_31 rfl ?_
  refine zW_sipush dX0_init_32 (by decide) ?_
  refine zW_newa (K := 13) dX0_init_35 (by simp) b69 (by first | assumption | omega | (unfold InR; omega) | (unfold InL; omega) | (simp only [InR] at *; omega)) (by first | assumption | omega | (unfold InR; omega) | (unfold InL; omega) | (simp only [InR] at *; omega)) (by show _ ≤ (6 : Nat); omega) (by show _ ≤ (9587 : Nat); omega) ?_
  refine zpP dX0_init_37 fX0_21 f3.new rfl (Or.inr ⟨rfl, rfl⟩) (Or.inl rfl) ?_
  have f4 := f3.step (s := 4) (c := (13, 2841)) (by decide) rfl rfl
  change zW _ _ _ _ _ (sP (sNew s3 (13, 2841)) y 4 (some (zN s3))) _ _ _
  generalize sP (sNew s3 (13, 2841)) y 4 (some (zN s3)) = s4 at f4 ⊢
  refine zW_aload_n dX0_init_40 rfl ?_
  refine zW_sipush dX0_init_41 (by decide) ?_
  refine zW_newa (K := 13) dX0_init_44 (by simp) b69 (by first | assumption | omega | (unfold InR; omega) | (unfold InL; omega) | (simp only [InR] at *; omega)) (by first | assumption | omega | (unfold InR; omega) | (unfold InL; omega) | (simp only [InR] at *; omega)) (by show _ ≤ (6 : Nat); omega) (by show _ ≤ (9587 : Nat); omega) ?_
  refine zpP dX0_init_46 fX0_24 f4.new rfl (Or.inr ⟨rfl, rfl⟩) (Or.inl rfl) ?_
  have f5 := f4.step (s := 6) (c := (13, 355)) (by decide) rfl rfl
  change zW _ _ _ _ _ (sP (sNew s4 (13, 355)) y 6 (some (zN s4))) _ _ _
  generalize sP (sNew s4 (13, 355)) y 6 (some (zN s4)) = s5 at f5 ⊢
  refine zW_aload_n dX0_init_49 rfl ?_
  refine zW_sipush dX0_init_50 (by decide) ?_
  refine zW_newa (K := 13) dX0_init_53 (by simp) b69 (by first | assumption | omega | (unfold InR; omega) | (unfold InL; omega) | (simp only [InR] at *; omega)) (by first | assumption | omega | (unfold InR; omega) | (unfold InL; omega) | (simp only [InR] at *; omega)) (by show _ ≤ (6 : Nat); omega) (by show _ ≤ (9587 : Nat); omega) ?_
  refine zpP dX0_init_55 fX0_27 f5.new rfl (Or.inr ⟨rfl, rfl⟩) (Or.inl rfl) ?_
  have f6 := f5.step (s := 7) (c := (13, 355)) (by decide) rfl rfl
  change zW _ _ _ _ _ (sP (sNew s5 (13, 355)) y 7 (some (zN s5))) _ _ _
  generalize sP (sNew s5 (13, 355)) y 7 (some (zN s5)) = s6 at f6 ⊢
  refine zW_return dX0_init_58 rfl (by first | decide | (show _ ≤ (6 : Nat); omega)) (by first | decide | (show _ ≤ (9587 : Nat); omega)) ?_
  exact hQ _ f6
set_option maxRecDepth 100000 in
theorem i_X4 (hk : zK σ y = (4, 0)) (hn : zN σ = y + 1) (ho : ∀ k, zO σ y k = 0) (hQ : ∀ σ1, FG 4 [0, 1] [(15, 126025), (13, 126025)] σ σ1 y 2 → Q (.inl none) (sO σ1 y 4 1)) : zM Γ mX4_init [vR (some y)] σ Q := by
  refine zM_of (n := 0) (by decide +kernel) rfl rfl rfl ?_
  have f0 : FG 4 [0, 1] [(15, 126025), (13, 126025)] σ σ y 0 := ⟨hk, by omega, fun i hi => absurd hi (Nat.not_lt_zero i), ho, Same.rf⟩
  refine zW_aload_n dX4_init_0 rfl ?_
  refine zW_objInit dX4_init_1 b189 b32 b33 (by decide) (by decide) ?_
  refine zW_aload_n dX4_init_4 rfl ?_
  refine zW_ldc (z := 126025) dX4_init_5 b190 ?_
  refine zW_newa (K := 15) dX4_init_7 (by simp) b210 (by first | assumption | omega | (unfold InR; omega) | (unfold InL; omega) | (simp only [InR] at *; omega)) (by first | assumption | omega | (unfold InR; omega) | (unfold InL; omega) | (simp only [InR] at *; omega)) (by show _ ≤ (2 : Nat); omega) (by show _ ≤ (252050 : Nat); omega) ?_
  refine zpP dX4_init_9 fX4_10 f0.new rfl (Or.inr ⟨rfl, rfl⟩) (Or.inl rfl) ?_
  have f1 := f0.step (s := 0) (c := (15, 126025)) (by decide) rfl rfl
  change zW _ _ _ _ _ (sP (sNew σ (15, 126025)) y 0 (some (zN σ))) _ _ _
  generalize sP (sNew σ (15, 126025)) y 0 (some (zN σ)) = s1 at f1 ⊢
  refine zW_aload_n dX4_init_12 rfl ?_
  refine zW_ldc (z := 126025) dX4_init_13 b190 ?_
  refine zW_newa (K := 13) dX4_init_15 (by simp) b69 (by first | assumption | omega | (unfold InR; omega) | (unfold InL; omega) | (simp only [InR] at *; omega)) (by first | assumption | omega | (unfold InR; omega) | (unfold InL; omega) | (simp only [InR] at *; omega)) (by show _ ≤ (2 : Nat); omega) (by show _ ≤ (252050 : Nat); omega) ?_
  refine zpP dX4_init_17 fX4_16 f1.new rfl (Or.inr ⟨rfl, rfl⟩) (Or.inl rfl) ?_
  have f2 := f1.step (s := 1) (c := (13, 126025)) (by decide) rfl rfl
  change zW _ _ _ _ _ (sP (sNew s1 (13, 126025)) y 1 (some (zN s1))) _ _ _
  generalize sP (sNew s1 (13, 126025)) y 1 (some (zN s1)) = s2 at f2 ⊢
  refine zW_aload_n dX4_init_20 rfl ?_
  refine zW_iconst dX4_init_21 ?_
  refine zpI dX4_init_22 fX4_20 f2.1 rfl (Or.inr ⟨rfl, rfl⟩) zst_1 ?_
  refine zW_return dX4_init_25 rfl (by first | decide | (show _ ≤ (2 : Nat); omega)) (by first | decide | (show _ ≤ (252050 : Nat); omega)) ?_
  exact hQ _ f2
set_option maxRecDepth 100000 in
theorem i_X5 (hk : zK σ y = (5, 0)) (hn : zN σ = y + 1) (ho : ∀ k, zO σ y k = 0) (hQ : ∀ σ1, FG 5 [0] [(14, 341)] σ σ1 y 1 → Q (.inl none) σ1) : zM Γ mX5_init [vR (some y)] σ Q := by
  refine zM_of (n := 0) (by decide +kernel) rfl rfl rfl ?_
  have f0 : FG 5 [0] [(14, 341)] σ σ y 0 := ⟨hk, by omega, fun i hi => absurd hi (Nat.not_lt_zero i), ho, Same.rf⟩
  refine zW_aload_n dX5_init_0 rfl ?_
  refine zW_objInit dX5_init_1 b216 b32 b33 (by decide) (by decide) ?_
  refine zW_aload_n dX5_init_4 rfl ?_
  refine zW_sipush dX5_init_5 (by decide) ?_
  refine zW_newa (K := 14) dX5_init_8 (by simp) b221 (by first | assumption | omega | (unfold InR; omega) | (unfold InL; omega) | (simp only [InR] at *; omega)) (by first | assumption | omega | (unfold InR; omega) | (unfold InL; omega) | (simp only [InR] at *; omega)) (by show _ ≤ (1 : Nat); omega) (by show _ ≤ (341 : Nat); omega) ?_
  refine zpP dX5_init_10 fX5_11 f0.new rfl (Or.inr ⟨rfl, rfl⟩) (Or.inl rfl) ?_
  have f1 := f0.step (s := 0) (c := (14, 341)) (by decide) rfl rfl
  change zW _ _ _ _ _ (sP (sNew σ (14, 341)) y 0 (some (zN σ))) _ _ _
  generalize sP (sNew σ (14, 341)) y 0 (some (zN σ)) = s1 at f1 ⊢
  refine zW_return dX5_init_13 rfl (by first | decide | (show _ ≤ (1 : Nat); omega)) (by first | decide | (show _ ≤ (341 : Nat); omega)) ?_
  exact hQ _ f1
set_option maxRecDepth 100000 in
theorem i_X1 (hk : zK σ y = (1, 0)) (hn : zN σ = y + 1) (ho : ∀ k, zO σ y k = 0) (hQ : ∀ σ1, FG 1 [0] [(12, 180)] σ σ1 y 1 → Q (.inl none) σ1) : zM Γ mX1_init [vR (some y)] σ Q := by
  refine zM_of (n := 0) (by decide +kernel) rfl rfl rfl ?_
  have f0 : FG 1 [0] [(12, 180)] σ σ y 0 := ⟨hk, by omega, fun i hi => absurd hi (Nat.not_lt_zero i), ho, Same.rf⟩
  refine zW_aload_n dX1_init_0 rfl ?_
  refine zW_objInit dX1_init_1 b229 b32 b33 (by decide) (by decide) ?_
  refine zW_aload_n dX1_init_4 rfl ?_
  refine zW_sipush dX1_init_5 (by decide) ?_
  refine zW_newa (K := 12) dX1_init_8 (by simp) b239 (by first | assumption | omega | (unfold InR; omega) | (unfold InL; omega) | (simp only [InR] at *; omega)) (by first | assumption | omega | (unfold InR; omega) | (unfold InL; omega) | (simp only [InR] at *; omega)) (by show _ ≤ (1 : Nat); omega) (by show _ ≤ (180 : Nat); omega) ?_
  refine zpP dX1_init_10 fX1_9 f0.new rfl (Or.inr ⟨rfl, rfl⟩) (Or.inl rfl) ?_
  have f1 := f0.step (s := 0) (c := (12, 180)) (by decide) rfl rfl
  change zW _ _ _ _ _ (sP (sNew σ (12, 180)) y 0 (some (zN σ))) _ _ _
  generalize sP (sNew σ (12, 180)) y 0 (some (zN σ)) = s1 at f1 ⊢
  refine zW_return dX1_init_13 rfl (by first | decide | (show _ ≤ (1 : Nat); omega)) (by first | decide | (show _ ≤ (180 : Nat); omega)) ?_
  exact hQ _ f1
end CINIT
