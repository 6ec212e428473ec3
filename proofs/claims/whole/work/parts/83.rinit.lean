/-! the reference's constructor -/
section RINIT
variable {Γ : GG} {σ σ' σ0 : HS} {Q : Res → HS → Prop} {y j s : Nat} {c : Nat × Nat}
def A0 : AA := ((2, fun _ => [], fun _ => []), [], none, [], 0, -1, [])
def FR (σ0 σ : HS) (y j : Nat) : Prop := zK σ y = (10, 0) ∧ zN σ = y + 1 + j ∧ (∀ i, i < j → zP σ y (rsl.getD i 0) = some (y + 1 + i) ∧ zK σ (y + 1 + i) = rkd.getD i (0, 0) ∧ ∀ k, zI σ (y + 1 + i) k = 0) ∧ (∀ k, zO σ y k = 0) ∧ ∀ a, a < y → zK σ a = zK σ0 a ∧ zO σ a = zO σ0 a ∧ zI σ a = zI σ0 a ∧ zJ σ a = zJ σ0 a ∧ zP σ a = zP σ0 a
set_option maxRecDepth 100000 in
theorem rsl_inj : ∀ j, j < 17 → ∀ i, i < j → rsl.getD i 0 ≠ rsl.getD j 0 := by decide
set_option maxRecDepth 100000 in
theorem FR.new (h : FR σ0 σ y j) : zK (sNew σ c) y = (10, 0) := by
  rw [zK_sNew, if_neg (by have := h.2.1; omega)]
  exact h.1
set_option maxRecDepth 100000 in
theorem FR.step (h : FR σ0 σ y j) (hj : j < 17) (hs : s = rsl.getD j 0) (hc : c = rkd.getD j (0, 0)) : FR σ0 (sP (sNew σ c) y s (some (zN σ))) y (j + 1) := by
  obtain ⟨h1, h2, h3, h4, h5⟩ := id h
  subst hs
  subst hc
  refine ⟨?_, ?_, fun i hi => ?_, fun k => ?_, fun a ha => ⟨?_, ?_, ?_, ?_, ?_⟩⟩
  · rw [zK_sP]; exact h.new
  · show zN σ + 1 = _
    omega
  · by_cases e : i = j
    · subst e
      refine ⟨by rw [zP_sPs, h2], by rw [zK_sP, zK_sNew, if_pos (by omega)], fun k => by rw [zI_sP, zI_sNew, if_pos (by omega)]⟩
    · obtain ⟨a1, a2, a3⟩ := h3 i (by omega)
      refine ⟨?_, ?_, fun k => ?_⟩
      · rw [zP_sPk _ _ _ _ (rsl_inj j hj i (by omega)), zP_sNew, if_neg (by omega)]; exact a1
      · rw [zK_sP, zK_sNew, if_neg (by omega)]; exact a2
      · rw [zI_sP, zI_sNew, if_neg (by omega)]; exact a3 k
  · rw [zO_sP, zO_sNew, if_neg (by omega)]; exact h4 k
  · rw [zK_sP, zK_sNew, if_neg (by omega)]; exact (h5 a ha).1
  · rw [zO_sP]; funext k; rw [zO_sNew, if_neg (by omega)]; exact congrFun (h5 a ha).2.1 k
  · rw [zI_sP]; funext k; rw [zI_sNew, if_neg (by omega)]; exact congrFun (h5 a ha).2.2.1 k
  · rw [zJ_sP]; funext k; rw [zJ_sNew, if_neg (by omega)]; exact congrFun (h5 a ha).2.2.2.1 k
  · funext k; rw [zP_sPa _ _ _ _ (by omega), zP_sNew, if_neg (by omega)]; exact congrFun (h5 a ha).2.2.2.2 k
set_option maxRecDepth 100000 in
theorem q_init (hk : zK σ y = (10, 0)) (hn : zN σ = y + 1) (ho : ∀ k, zO σ y k = 0) (hQ : ∀ σ', RI σ' y A0 → zN σ' = y + 18 → (∀ a, a < y → zK σ' a = zK σ a ∧ zO σ' a = zO σ a ∧ zI σ' a = zI σ a ∧ zJ σ' a = zJ σ a ∧ zP σ' a = zP σ a) → Q (.inl none) σ') : zM Γ mX10_init [vR (some y)] σ Q := by
  refine zM_of (n := 0) (by decide +kernel) rfl rfl rfl ?_
  have f0 : FR σ σ y 0 := ⟨hk, by omega, fun i hi => absurd hi (Nat.not_lt_zero i), ho, fun a _ => ⟨rfl, rfl, rfl, rfl, rfl⟩⟩
  refine zW_aload_n dX10_init_0 rfl ?_
  refine zW_objInit dX10_init_1 b1244 b32 b33 (by decide) (by decide) ?_
  refine zW_aload_n dX10_init_4 rfl ?_
  refine zW_sipush dX10_init_5 (by decide) ?_
  refine zW_newa (K := 13) dX10_init_8 (by simp) b69 (by first | assumption | omega | (unfold InR; omega) | (unfold InL; omega) | (simp only [InR] at *; omega)) (by first | assumption | omega | (unfold InR; omega) | (unfold InL; omega) | (simp only [InR] at *; omega)) (by show _ ≤ (20 : Nat); omega) (by show _ ≤ (331429 : Nat); omega) ?_
  refine zpP dX10_init_10 fX10_7 f0.new rfl (Or.inr ⟨rfl, rfl⟩) (Or.inl rfl) ?_
  have f1 := f0.step (s := rsl.getD 0 0) (c := rkd.getD 0 (0, 0)) (by decide) rfl rfl
  change zW _ _ _ _ _ (sP (sNew σ (rkd.getD 0 (0, 0))) y (rsl.getD 0 0) (some (zN σ))) _ _ _
  generalize sP (sNew σ (rkd.getD 0 (0, 0))) y (rsl.getD 0 0) (some (zN σ)) = s1 at f1 ⊢
  refine zW_aload_n dX10_init_13 rfl ?_
  refine zW_sipush dX10_init_14 (by decide) ?_
  refine zW_newa (K := 11) dX10_init_17 (by simp) b415 (by first | assumption | omega | (unfold InR; omega) | (unfold InL; omega) | (simp only [InR] at *; omega)) (by first | assumption | omega | (unfold InR; omega) | (unfold InL; omega) | (simp only [InR] at *; omega)) (by show _ ≤ (20 : Nat); omega) (by show _ ≤ (331429 : Nat); omega) ?_
  refine zpP dX10_init_19 fX10_13 f1.new rfl (Or.inr ⟨rfl, rfl⟩) (Or.inl rfl) ?_
  have f2 := f1.step (s := rsl.getD 1 0) (c := rkd.getD 1 (0, 0)) (by decide) rfl rfl
  change zW _ _ _ _ _ (sP (sNew s1 (rkd.getD 1 (0, 0))) y (rsl.getD 1 0) (some (zN s1))) _ _ _
  generalize sP (sNew s1 (rkd.getD 1 (0, 0))) y (rsl.getD 1 0) (some (zN s1)) = s2 at f2 ⊢
  refine zW_aload_n dX10_init_22 rfl ?_
  refine zW_sipush dX10_init_23 (by decide) ?_
  refine zW_newa (K := 12) dX10_init_26 (by simp) b239 (by first | assumption | omega | (unfold InR; omega) | (unfold InL; omega) | (simp only [InR] at *; omega)) (by first | assumption | omega | (unfold InR; omega) | (unfold InL; omega) | (simp only [InR] at *; omega)) (by show _ ≤ (20 : Nat); omega) (by show _ ≤ (331429 : Nat); omega) ?_
  refine zpP dX10_init_28 fX10_17 f2.new rfl (Or.inr ⟨rfl, rfl⟩) (Or.inl rfl) ?_
  have f3 := f2.step (s := rsl.getD 2 0) (c := rkd.getD 2 (0, 0)) (by decide) rfl rfl
  change zW _ _ _ _ _ (sP (sNew s2 (rkd.getD 2 (0, 0))) y (rsl.getD 2 0) (some (zN s2))) _ _ _
  generalize sP (sNew s2 (rkd.getD 2 (0, 0))) y (rsl.getD 2 0) (some (zN s2)) = s3 at f3 ⊢
  refine zW_aload_n dX10_init_31 rfl ?_
  refine zW_sipush dX10_init_32 (by decide) ?_
  refine zW_newa (K := 13) dX10_init_35 (by simp) b69 (by first | assumption | omega | (unfold InR; omega) | (unfold InL; omega) | (simp only [InR] at *; omega)) (by first | assumption | omega | (unfold InR; omega) | (unfold InL; omega) | (simp only [InR] at *; omega)) (by show _ ≤ (20 : Nat); omega) (by show _ ≤ (331429 : Nat); omega) ?_
  refine zpP dX10_init_37 fX10_21 f3.new rfl (Or.inr ⟨rfl, rfl⟩) (Or.inl rfl) ?_
  have f4 := f3.step (s := rsl.getD 3 0) (c := rkd.getD 3 (0, 0)) (by decide) rfl rfl
  change zW _ _ _ _ _ (sP (sNew s3 (rkd.getD 3 (0, 0))) y (rsl.getD 3 0) (some (zN s3))) _ _ _
  generalize sP (sNew s3 (rkd.getD 3 (0, 0))) y (rsl.getD 3 0) (some (zN s3)) = s4 at f4 ⊢
  refine zW_aload_n dX10_init_40 rfl ?_
  refine zW_sipush dX10_init_41 (by decide) ?_
  refine zW_newa (K := 13) dX10_init_44 (by simp) b69 (by first | assumption | omega | (unfold InR; omega) | (unfold InL; omega) | (simp only [InR] at *; omega)) (by first | assumption | omega | (unfold InR; omega) | (unfold InL; omega) | (simp only [InR] at *; omega)) (by show _ ≤ (20 : Nat); omega) (by show _ ≤ (331429 : Nat); omega) ?_
  refine zpP dX10_init_46 fX10_24 f4.new rfl (Or.inr ⟨rfl, rfl⟩) (Or.inl rfl) ?_
  have f5 := f4.step (s := rsl.getD 4 0) (c := rkd.getD 4 (0, 0)) (by decide) rfl rfl
  change zW _ _ _ _ _ (sP (sNew s4 (rkd.getD 4 (0, 0))) y (rsl.getD 4 0) (some (zN s4))) _ _ _
  generalize sP (sNew s4 (rkd.getD 4 (0, 0))) y (rsl.getD 4 0) (some (zN s4)) = s5 at f5 ⊢
  refine zW_aload_n dX10_init_49 rfl ?_
  refine zW_sipush dX10_init_50 (by decide) ?_
  refine zW_newa (K := 14) dX10_init_53 (by simp) b221 (by first | assumption | omega | (unfold InR; omega) | (unfold InL; omega) | (simp only [InR] at *; omega)) (by first | assumption | omega | (unfold InR; omega) | (unfold InL; omega) | (simp only [InR] at *; omega)) (by show _ ≤ (20 : Nat); omega) (by show _ ≤ (331429 : Nat); omega) ?_
  refine zpP dX10_init_55 fX10_27 f5.new rfl (Or.inr ⟨rfl, rfl⟩) (Or.inl rfl) ?_
  have f6 := f5.step (s := rsl.getD 5 0) (c := rkd.getD 5 (0, 0)) (by decide) rfl rfl
  change zW _ _ _ _ _ (sP (sNew s5 (rkd.getD 5 (0, 0))) y (rsl.getD 5 0) (some (zN s5))) _ _ _
  generalize sP (sNew s5 (rkd.getD 5 (0, 0))) y (rsl.getD 5 0) (some (zN s5)) = s6 at f6 ⊢
  refine zW_aload_n dX10_init_58 rfl ?_
  refine zW_sipush dX10_init_59 (by decide) ?_
  refine zW_newa (K := 13) dX10_init_62 (by simp) b69 (by first | assumption | omega | (unfold InR; omega) | (unfold InL; omega) | (simp only [InR] at *; omega)) (by first | assumption | omega | (unfold InR; omega) | (unfold InL; omega) | (simp only [InR] at *; omega)) (by show _ ≤ (20 : Nat); omega) (by show _ ≤ (331429 : Nat); omega) ?_
  refine zpP dX10_init_64 fX10_31 f6.new rfl (Or.inr ⟨rfl, rfl⟩) (Or.inl rfl) ?_
  have f7 := f6.step (s := rsl.getD 6 0) (c := rkd.getD 6 (0, 0)) (by decide) rfl rfl
  change zW _ _ _ _ _ (sP (sNew s6 (rkd.getD 6 (0, 0))) y (rsl.getD 6 0) (some (zN s6))) _ _ _
  generalize sP (sNew s6 (rkd.getD 6 (0, 0))) y (rsl.getD 6 0) (some (zN s6)) = s7 at f7 ⊢
  refine zW_aload_n dX10_init_67 rfl ?_
  refine zW_sipush dX10_init_68 (by decide) ?_
  refine zW_newa (K := 13) dX10_init_71 (by simp) b69 (by first | assumption | omega | (unfold InR; omega) | (unfold InL; omega) | (simp only [InR] at *; omega)) (by first | assumption | omega | (unfold InR; omega) | (unfold InL; omega) | (simp only [InR] at *; omega)) (by show _ ≤ (20 : Nat); omega) (by show _ ≤ (331429 : Nat); omega) ?_
  refine zpP dX10_init_73 fX10_34 f7.new rfl (Or.inr ⟨rfl, rfl⟩) (Or.inl rfl) ?_
  have f8 := f7.step (s := rsl.getD 7 0) (c := rkd.getD 7 (0, 0)) (by decide) rfl rfl
  change zW _ _ _ _ _ (sP (sNew s7 (rkd.getD 7 (0, 0))) y (rsl.getD 7 0) (some (zN s7))) _ _ _
  generalize sP (sNew s7 (rkd.getD 7 (0, 0))) y (rsl.getD 7 0) (some (zN s7)) = s8 at f8 ⊢
  refine zW_aload_n dX10_init_76 rfl ?_
  refine zW_ldc (z := 40000) dX10_init_77 b1245 ?_
  refine zW_newa (K := 13) dX10_init_79 (by simp) b69 (by first | assumption | omega | (unfold InR; omega) | (unfold InL; omega) | (simp only [InR] at *; omega)) (by first | assumption | omega | (unfold InR; omega) | (unfold InL; omega) | (simp only [InR] at *; omega)) (by show _ ≤ (20 : Nat); omega) (by show _ ≤ (331429 : Nat); omega) ?_
  refine zpP dX10_init_81 fX10_38 f8.new rfl (Or.inr ⟨rfl, rfl⟩) (Or.inl rfl) ?_
  have f9 := f8.step (s := rsl.getD 8 0) (c := rkd.getD 8 (0, 0)) (by decide) rfl rfl
  change zW _ _ _ _ _ (sP (sNew s8 (rkd.getD 8 (0, 0))) y (rsl.getD 8 0) (some (zN s8))) _ _ _
  generalize sP (sNew s8 (rkd.getD 8 (0, 0))) y (rsl.getD 8 0) (some (zN s8)) = s9 at f9 ⊢
  refine zW_aload_n dX10_init_84 rfl ?_
  refine zW_sipush dX10_init_85 (by decide) ?_
  refine zW_newa (K := 13) dX10_init_88 (by simp) b69 (by first | assumption | omega | (unfold InR; omega) | (unfold InL; omega) | (simp only [InR] at *; omega)) (by first | assumption | omega | (unfold InR; omega) | (unfold InL; omega) | (simp only [InR] at *; omega)) (by show _ ≤ (20 : Nat); omega) (by show _ ≤ (331429 : Nat); omega) ?_
  refine zpP dX10_init_90 fX10_41 f9.new rfl (Or.inr ⟨rfl, rfl⟩) (Or.inl rfl) ?_
  have f10 := f9.step (s := rsl.getD 9 0) (c := rkd.getD 9 (0, 0)) (by decide) rfl rfl
  change zW _ _ _ _ _ (sP (sNew s9 (rkd.getD 9 (0, 0))) y (rsl.getD 9 0) (some (zN s9))) _ _ _
  generalize sP (sNew s9 (rkd.getD 9 (0, 0))) y (rsl.getD 9 0) (some (zN s9)) = s10 at f10 ⊢
  refine zW_aload_n dX10_init_93 rfl ?_
  refine zW_iconst dX10_init_94 ?_
  refine zW_newa (K := 13) dX10_init_95 (by simp) b69 (by first | assumption | omega | (unfold InR; omega) | (unfold InL; omega) | (simp only [InR] at *; omega)) (by first | assumption | omega | (unfold InR; omega) | (unfold InL; omega) | (simp only [InR] at *; omega)) (by show _ ≤ (20 : Nat); omega) (by show _ ≤ (331429 : Nat); omega) ?_
  refine zpP dX10_init_97 fX10_44 f10.new rfl (Or.inr ⟨rfl, rfl⟩) (Or.inl rfl) ?_
  have f11 := f10.step (s := rsl.getD 10 0) (c := rkd.getD 10 (0, 0)) (by decide) rfl rfl
  change zW _ _ _ _ _ (sP (sNew s10 (rkd.getD 10 (0, 0))) y (rsl.getD 10 0) (some (zN s10))) _ _ _
  generalize sP (sNew s10 (rkd.getD 10 (0, 0))) y (rsl.getD 10 0) (some (zN s10)) = s11 at f11 ⊢
  refine zW_aload_n dX10_init_100 rfl ?_
  refine zW_sipush dX10_init_101 (by decide) ?_
  refine zW_newa (K := 13) dX10_init_104 (by simp) b69 (by first | assumption | omega | (unfold InR; omega) | (unfold InL; omega) | (simp only [InR] at *; omega)) (by first | assumption | omega | (unfold InR; omega) | (unfold InL; omega) | (simp only [InR] at *; omega)) (by show _ ≤ (20 : Nat); omega) (by show _ ≤ (331429 : Nat); omega) ?_
  refine zpP dX10_init_106 fX10_47 f11.new rfl (Or.inr ⟨rfl, rfl⟩) (Or.inl rfl) ?_
  have f12 := f11.step (s := rsl.getD 11 0) (c := rkd.getD 11 (0, 0)) (by decide) rfl rfl
  change zW _ _ _ _ _ (sP (sNew s11 (rkd.getD 11 (0, 0))) y (rsl.getD 11 0) (some (zN s11))) _ _ _
  generalize sP (sNew s11 (rkd.getD 11 (0, 0))) y (rsl.getD 11 0) (some (zN s11)) = s12 at f12 ⊢
  refine zW_aload_n dX10_init_109 rfl ?_
  refine zW_sipush dX10_init_110 (by decide) ?_
  refine zW_newa (K := 13) dX10_init_113 (by simp) b69 (by first | assumption | omega | (unfold InR; omega) | (unfold InL; omega) | (simp only [InR] at *; omega)) (by first | assumption | omega | (unfold InR; omega) | (unfold InL; omega) | (simp only [InR] at *; omega)) (by show _ ≤ (20 : Nat); omega) (by show _ ≤ (331429 : Nat); omega) ?_
  refine zpP dX10_init_115 fX10_50 f12.new rfl (Or.inr ⟨rfl, rfl⟩) (Or.inl rfl) ?_
  have f13 := f12.step (s := rsl.getD 12 0) (c := rkd.getD 12 (0, 0)) (by decide) rfl rfl
  change zW _ _ _ _ _ (sP (sNew s12 (rkd.getD 12 (0, 0))) y (rsl.getD 12 0) (some (zN s12))) _ _ _
  generalize sP (sNew s12 (rkd.getD 12 (0, 0))) y (rsl.getD 12 0) (some (zN s12)) = s13 at f13 ⊢
  refine zW_aload_n dX10_init_118 rfl ?_
  refine zW_sipush dX10_init_119 (by decide) ?_
  refine zW_newa (K := 13) dX10_init_122 (by simp) b69 (by first | assumption | omega | (unfold InR; omega) | (unfold InL; omega) | (simp only [InR] at *; omega)) (by first | assumption | omega | (unfold InR; omega) | (unfold InL; omega) | (simp only [InR] at *; omega)) (by show _ ≤ (20 : Nat); omega) (by show _ ≤ (331429 : Nat); omega) ?_
  refine zpP dX10_init_124 fX10_53 f13.new rfl (Or.inr ⟨rfl, rfl⟩) (Or.inl rfl) ?_
  have f14 := f13.step (s := rsl.getD 13 0) (c := rkd.getD 13 (0, 0)) (by decide) rfl rfl
  change zW _ _ _ _ _ (sP (sNew s13 (rkd.getD 13 (0, 0))) y (rsl.getD 13 0) (some (zN s13))) _ _ _
  generalize sP (sNew s13 (rkd.getD 13 (0, 0))) y (rsl.getD 13 0) (some (zN s13)) = s14 at f14 ⊢
  refine zW_aload_n dX10_init_127 rfl ?_
  refine zW_sipush dX10_init_128 (by decide) ?_
  refine zW_newa (K := 13) dX10_init_131 (by simp) b69 (by first | assumption | omega | (unfold InR; omega) | (unfold InL; omega) | (simp only [InR] at *; omega)) (by first | assumption | omega | (unfold InR; omega) | (unfold InL; omega) | (simp only [InR] at *; omega)) (by show _ ≤ (20 : Nat); omega) (by show _ ≤ (331429 : Nat); omega) ?_
  refine zpP dX10_init_133 fX10_56 f14.new rfl (Or.inr ⟨rfl, rfl⟩) (Or.inl rfl) ?_
  have f15 := f14.step (s := rsl.getD 14 0) (c := rkd.getD 14 (0, 0)) (by decide) rfl rfl
  change zW _ _ _ _ _ (sP (sNew s14 (rkd.getD 14 (0, 0))) y (rsl.getD 14 0) (some (zN s14))) _ _ _
  generalize sP (sNew s14 (rkd.getD 14 (0, 0))) y (rsl.getD 14 0) (some (zN s14)) = s15 at f15 ⊢
  refine zW_aload_n dX10_init_136 rfl ?_
  refine zW_ldc (z := 130321) dX10_init_137 b1246 ?_
  refine zW_newa (K := 13) dX10_init_139 (by simp) b69 (by first | assumption | omega | (unfold InR; omega) | (unfold InL; omega) | (simp only [InR] at *; omega)) (by first | assumption | omega | (unfold InR; omega) | (unfold InL; omega) | (simp only [InR] at *; omega)) (by show _ ≤ (20 : Nat); omega) (by show _ ≤ (331429 : Nat); omega) ?_
  refine zpP dX10_init_141 fX10_60 f15.new rfl (Or.inr ⟨rfl, rfl⟩) (Or.inl rfl) ?_
  have f16 := f15.step (s := rsl.getD 15 0) (c := rkd.getD 15 (0, 0)) (by decide) rfl rfl
  change zW _ _ _ _ _ (sP (sNew s15 (rkd.getD 15 (0, 0))) y (rsl.getD 15 0) (some (zN s15))) _ _ _
  generalize sP (sNew s15 (rkd.getD 15 (0, 0))) y (rsl.getD 15 0) (some (zN s15)) = s16 at f16 ⊢
  refine zW_aload_n dX10_init_144 rfl ?_
  refine zW_ldc (z := 130321) dX10_init_145 b1246 ?_
  refine zW_newa (K := 15) dX10_init_147 (by simp) b210 (by first | assumption | omega | (unfold InR; omega) | (unfold InL; omega) | (simp only [InR] at *; omega)) (by first | assumption | omega | (unfold InR; omega) | (unfold InL; omega) | (simp only [InR] at *; omega)) (by show _ ≤ (20 : Nat); omega) (by show _ ≤ (331429 : Nat); omega) ?_
  refine zpP dX10_init_149 fX10_63 f16.new rfl (Or.inr ⟨rfl, rfl⟩) (Or.inl rfl) ?_
  have f17 := f16.step (s := rsl.getD 16 0) (c := rkd.getD 16 (0, 0)) (by decide) rfl rfl
  change zW _ _ _ _ _ (sP (sNew s16 (rkd.getD 16 (0, 0))) y (rsl.getD 16 0) (some (zN s16))) _ _ _
  generalize sP (sNew s16 (rkd.getD 16 (0, 0))) y (rsl.getD 16 0) (some (zN s16)) = s17 at f17 ⊢
  obtain ⟨g1, g2, g3, g4, g5⟩ := f17
  refine zW_aload_n dX10_init_152 rfl ?_
  refine zW_iconst dX10_init_153 ?_
  refine zpI dX10_init_154 fX10_67 g1 rfl (Or.inr ⟨rfl, rfl⟩) (zst_int _) ?_
  have hRK : RK (sO s17 y 9 (-1)) y := ⟨g1, fun i hi => ⟨(g3 i hi).1, (g3 i hi).2.1⟩⟩
  have e9 : zO (sO s17 y 9 (-1)) y 9 = -1 := zO_sOs _ _ _ _
  have e0 : ∀ k, k ≠ 9 → zO (sO s17 y 9 (-1)) y k = 0 := fun k hk => by rw [zO_sOk _ _ _ _ hk]; exact g4 k
  have i0 : ∀ k, zI (sO s17 y 9 (-1)) (y + 1) k = 0 := fun k => (g3 0 (by decide)).2.2 k
  have n0 : zN (sO s17 y 9 (-1)) = y + 18 := g2
  have m0 : ∀ a, a < y → zK (sO s17 y 9 (-1)) a = zK σ a ∧ zO (sO s17 y 9 (-1)) a = zO σ a ∧ zI (sO s17 y 9 (-1)) a = zI σ a ∧ zJ (sO s17 y 9 (-1)) a = zJ σ a ∧ zP (sO s17 y 9 (-1)) a = zP σ a := fun a ha => ⟨(g5 a ha).1, (funext fun k => zO_sOa s17 9 k (-1) (by omega)).trans (g5 a ha).2.1, (g5 a ha).2.2.1, (g5 a ha).2.2.2.1, (g5 a ha).2.2.2.2⟩
  generalize sO s17 y 9 (-1) = s18 at hRK e9 e0 i0 n0 m0 ⊢
  refine zW_aload_n dX10_init_157 rfl ?_
  refine zW_iconst dX10_init_158 ?_
  refine zW_iconst dX10_init_159 ?_
  refine zcV2 dX10_init_160 rfl eX10_set b1247 ⟨by decide, by decide, by decide, by decide⟩ rfl hRK.1 rfl (by decide) (Nat.le_of_ble_eq_true rfl) (r_set (k := 0) ⟨hRK, e0 2 (by decide), Or.inl rfl⟩ (by decide) ?_)
  refine zW_return dX10_init_163 rfl (by first | decide | (show _ ≤ (20 : Nat); omega)) (by first | decide | (show _ ≤ (331429 : Nat); omega)) ?_
  have m1 : Mr s18 (sI s18 (y + 1) (0 + 0) 2) y [] [1] := Mr.I (by decide)
  refine hQ _ ⟨hRK.mr m1, e0 2 (by decide), SR.new (B := 0) (r := 2) (zI_sIs _ _ _ _) (fun j j1 j2 => (zI_sIk s18 (y + 1) (y + 1) 2 (show j ≠ 0 + 0 by omega)).trans (i0 j)), ⟨Nat.zero_le _, e0 3 (by decide), 0, by decide, e0 4 (by decide), fun i t ht => absurd (show ([] : List ST)[i]? = some t from ht) (by simp)⟩, ⟨e0 5 (by decide), fun t ht => absurd (show (none : Option ST) = some t from ht) (by simp)⟩, rIn.nil (e0 7 (by decide)), ⟨e0 8 (by decide), e9⟩, rFm.nil (e0 11 (by decide))⟩ n0 (fun a ha => ?_)
  obtain ⟨q1, q2, q3, q4, q5⟩ := m0 a ha
  exact ⟨q1, q2, (funext fun k => zI_sIa s18 (0 + 0) k 2 (by omega)).trans q3, q4, q5⟩
end RINIT
