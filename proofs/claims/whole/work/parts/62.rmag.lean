/-! the reference: the Magnus expansion -/
section RMAG
variable {Γ : GG} {σ : HS} {Q : Res → HS → Prop} {y : Nat} {A : AA}
def MR6 (σ : HS) (y : Nat) (f : Nat → Int) : Prop := ∀ j, j < 341 → zJ σ (y + 6) j = f j
set_option maxRecDepth 100000 in
theorem mof_u : ∀ d, d < 6 → mof d ≤ 341 ∧ mp4 d ≤ 1024 := by decide
set_option maxRecDepth 100000 in
theorem mof_l : ∀ d, d < 4 → mof d + mp4 d ≤ 85 := by decide
set_option maxRecDepth 100000 in
theorem mof_d : ∀ d, d < 5 → mof (d + 1) = mof d + mp4 d := fun _ _ => rfl
set_option maxRecDepth 100000 in
theorem r_offset {d : Nat} (hd : d < 6) (hQ : Q (.inl (some (vI (mof d : Nat)))) σ) : zM Γ mX10_offset [vI d] σ Q := by
  refine zM_of (n := 3) (by decide +kernel) rfl rfl rfl ?_
  have loop : ∀ n i, i + n = d → zW Γ mX10_offset 6 [some (vI d), some (vI (mof i : Nat)), some (vI (mp4 i : Nat)), some (vI i)] [] σ 0 0 Q := by
    intro n
    induction n with
    | zero =>
      intro i hi
      refine zW_iload_n dX10_offset_6 rfl ?_
      refine zW_iload_n dX10_offset_7 rfl ?_
      refine zW_icmp_ge (tgt := 25) dX10_offset_8 (by decide) (by first | assumption | omega | (unfold InR; omega) | (unfold InL; omega) | (simp only [InR] at *; omega)) (by first | assumption | omega | (unfold InR; omega) | (unfold InL; omega) | (simp only [InR] at *; omega)) (fun q => ?_) (fun q => ?_)
      · refine zW_iload_n dX10_offset_25 rfl ?_
        refine zW_ireturn dX10_offset_26 rfl rfl (by first | decide | (show _ ≤ (0 : Nat); omega)) (by first | decide | (show _ ≤ (0 : Nat); omega)) ?_
        have e : i = d := by omega
        rw [e]
        exact hQ
      · exact absurd q (by omega)
    | succ n ih =>
      intro i hi
      have e1 : (mof i : Int) + (mp4 i : Nat) = (mof (i + 1) : Nat) := by rw [mof_d i (by omega)]; omega
      have e2 : (mp4 i : Int) * 4 = (mp4 (i + 1) : Nat) := rfl
      refine zW_iload_n dX10_offset_6 rfl ?_
      refine zW_iload_n dX10_offset_7 rfl ?_
      refine zW_icmp_ge (tgt := 25) dX10_offset_8 (by decide) (by first | assumption | omega | (unfold InR; omega) | (unfold InL; omega) | (simp only [InR] at *; omega)) (by first | assumption | omega | (unfold InR; omega) | (unfold InL; omega) | (simp only [InR] at *; omega)) (fun q => ?_) (fun q => ?_)
      · exact absurd q (by omega)
      · refine zW_iload_n dX10_offset_11 rfl ?_
        refine zW_iload_n dX10_offset_12 rfl ?_
        refine zW_iadd dX10_offset_13 ?_
        refine zW_istore_n dX10_offset_14 (by decide) rfl rfl ?_
        refine zW_iload_n dX10_offset_15 rfl ?_
        refine zW_iconst dX10_offset_16 ?_
        refine zW_imul dX10_offset_17 ?_
        refine zW_istore_n dX10_offset_18 (by decide) rfl rfl ?_
        refine zW_iinc dX10_offset_19 rfl (by decide) rfl rfl ?_
        refine zW_goto (tgt := 6) dX10_offset_22 (by decide) ?_
        rw [e1, e2]
        exact ih (i + 1) (by omega)
  refine zW_iconst dX10_offset_0 ?_
  refine zW_istore_n dX10_offset_1 (by decide) rfl rfl ?_
  refine zW_iconst dX10_offset_2 ?_
  refine zW_istore_n dX10_offset_3 (by decide) rfl rfl ?_
  refine zW_iconst dX10_offset_4 ?_
  refine zW_istore_n dX10_offset_5 (by decide) rfl rfl ?_
  exact loop d 0 (by omega)
set_option maxRecDepth 100000 in
theorem r_many {d : Nat} (hd : d < 5) (hQ : Q (.inl (some (vI (mp4 d : Nat)))) σ) : zM Γ mX10_many [vI d] σ Q := by
  have e := mof_d d hd
  have e1 : (mof (d + 1) : Int) - (mof d : Nat) = (mp4 d : Nat) := by omega
  refine zM_of (n := 0) (by decide +kernel) rfl rfl rfl ?_
  refine zW_iload_n dX10_many_0 rfl ?_
  refine zW_iconst dX10_many_1 ?_
  refine zW_iadd dX10_many_2 ?_
  refine zcS1 dX10_many_3 rfl eX10_offset b1613 ⟨by decide, by decide, by decide, by decide⟩ rfl (Nat.le_of_ble_eq_true rfl) (r_offset (d := d + 1) (by omega) ?_)
  refine zW_iload_n dX10_many_6 rfl ?_
  refine zcS1 dX10_many_7 rfl eX10_offset b1613 ⟨by decide, by decide, by decide, by decide⟩ rfl (Nat.le_of_ble_eq_true rfl) (r_offset (d := d) (by omega) ?_)
  refine zW_isub dX10_many_10 ?_
  refine zW_ireturn dX10_many_11 rfl rfl (by first | decide | (show _ ≤ (0 : Nat); omega)) (by first | decide | (show _ ≤ (0 : Nat); omega)) ?_
  rw [e1]
  exact hQ
set_option maxRecDepth 100000 in
theorem r_timesGenerator {g : Nat} {f : Nat → Int} (h : RK σ y) (hf : MR6 σ y f) (hg : g < 4) (hQ : ∀ σ', MR6 σ' y (mgm g f) → Mr σ σ' y [] [6] → Q (.inl none) σ') : zM Γ mX10_timesGenerator [vR (some y), vI g] σ Q := by
  refine zM_of (n := 2) (by decide +kernel) rfl rfl rfl ?_
  have loop : ∀ D, D ≤ 4 → ∀ σ1 z, Mr σ σ1 y [] [6] → (∀ j, j < 341 → zJ σ1 (y + 6) j = if (1 ≤ j ∧ (j - 1) % 4 = g) ∧ mof D ≤ (j - 1) / 4 then f j + f ((j - 1) / 4) else f j) → zW Γ mX10_timesGenerator 2 [some (vR (some y)), some (vI g), some (vI ((D : Int) - 1)), z] [] σ1 0 0 Q := by
    intro D
    induction D with
    | zero =>
      intro hD σ1 z m1 hv
      refine zW_iload_n dX10_timesGenerator_2 rfl ?_
      refine zW_if_lt (tgt := 59) dX10_timesGenerator_3 (by decide) (by first | assumption | omega | (unfold InR; omega) | (unfold InL; omega) | (simp only [InR] at *; omega)) (fun q => ?_) (fun q => ?_)
      · refine zW_return dX10_timesGenerator_59 rfl (by first | decide | (show _ ≤ (0 : Nat); omega)) (by first | decide | (show _ ≤ (0 : Nat); omega)) ?_
        refine hQ _ (fun j hj => ?_) m1
        rw [hv j hj]
        unfold mgm
        by_cases e : 1 ≤ j ∧ (j - 1) % 4 = g
        · rw [if_pos ⟨e, Nat.zero_le _⟩, if_pos e]
        · rw [if_neg (fun z => e z.1), if_neg e]
      · exact absurd q (by omega)
    | succ d ih =>
      intro hD σ1 z m1 hv
      have e9 : ((d + 1 : Nat) : Int) - 1 = (d : Int) := by omega
      have ms := mof_s d (by omega)
      have md := mof_d d (by omega)
      have mb := mof_l d (by omega)
      rw [e9]
      have inner : ∀ n k, k + n = mp4 d → ∀ σ2, Mr σ σ2 y [] [6] → (∀ j, j < 341 → zJ σ2 (y + 6) j = if (1 ≤ j ∧ (j - 1) % 4 = g) ∧ (mof (d + 1) ≤ (j - 1) / 4 ∨ (mof d ≤ (j - 1) / 4 ∧ (j - 1) / 4 < mof d + k)) then f j + f ((j - 1) / 4) else f j) → zW Γ mX10_timesGenerator 8 [some (vR (some y)), some (vI g), some (vI d), some (vI k)] [] σ2 0 0 Q := by
        intro n
        induction n with
        | zero =>
          intro k hk σ2 m2 hv2
          refine zW_iload_n dX10_timesGenerator_8 rfl ?_
          refine zW_iload_n dX10_timesGenerator_9 rfl ?_
          refine zcS1 dX10_timesGenerator_10 rfl eX10_many b1610 ⟨by decide, by decide, by decide, by decide⟩ rfl (Nat.le_of_ble_eq_true rfl) (r_many (d := d) (by omega) ?_)
          refine zW_icmp_ge (tgt := 53) dX10_timesGenerator_13 (by decide) (by first | assumption | omega | (unfold InR; omega) | (unfold InL; omega) | (simp only [InR] at *; omega)) (by first | assumption | omega | (unfold InR; omega) | (unfold InL; omega) | (simp only [InR] at *; omega)) (fun q => ?_) (fun q => ?_)
          · refine zW_iinc dX10_timesGenerator_53 rfl (by decide) rfl rfl ?_
            refine zW_goto (tgt := 2) dX10_timesGenerator_56 (by decide) ?_
            refine ih (by omega) σ2 _ m2 (fun j hj => ?_)
            rw [hv2 j hj]
            by_cases e : (1 ≤ j ∧ (j - 1) % 4 = g) ∧ mof d ≤ (j - 1) / 4
            · rw [if_pos e, if_pos (by omega)]
            · rw [if_neg e, if_neg (by omega)]
          · exact absurd q (by omega)
        | succ n ih2 =>
          intro k hk σ2 m2 hv2
          have k2 := h.mr m2
          have v1 := hv2 (4 * (mof d + k) + 1 + g) (by omega)
          have v2 := hv2 (mof d + k) (by omega)
          rw [if_neg (by omega)] at v1 v2
          refine zW_iload_n dX10_timesGenerator_8 rfl ?_
          refine zW_iload_n dX10_timesGenerator_9 rfl ?_
          refine zcS1 dX10_timesGenerator_10 rfl eX10_many b1610 ⟨by decide, by decide, by decide, by decide⟩ rfl (Nat.le_of_ble_eq_true rfl) (r_many (d := d) (by omega) ?_)
          refine zW_icmp_ge (tgt := 53) dX10_timesGenerator_13 (by decide) (by first | assumption | omega | (unfold InR; omega) | (unfold InL; omega) | (simp only [InR] at *; omega)) (by first | assumption | omega | (unfold InR; omega) | (unfold InL; omega) | (simp only [InR] at *; omega)) (fun q => ?_) (fun q => ?_)
          · exact absurd q (by omega)
          · refine zW_aload_n dX10_timesGenerator_16 rfl ?_
            refine zgP dX10_timesGenerator_17 fX10_27 k2.1 rfl k2.p_magnus ?_
            refine zW_iload_n dX10_timesGenerator_20 rfl ?_
            refine zW_iconst dX10_timesGenerator_21 ?_
            refine zW_iadd dX10_timesGenerator_22 ?_
            refine zcS1 dX10_timesGenerator_23 rfl eX10_offset b1613 ⟨by decide, by decide, by decide, by decide⟩ rfl (Nat.le_of_ble_eq_true rfl) (r_offset (d := d + 1) (by omega) ?_)
            refine zW_iconst dX10_timesGenerator_26 ?_
            refine zW_iload_n dX10_timesGenerator_27 rfl ?_
            refine zW_imul dX10_timesGenerator_28 ?_
            refine zW_iadd dX10_timesGenerator_29 ?_
            refine zW_iload_n dX10_timesGenerator_30 rfl ?_
            refine zW_iadd dX10_timesGenerator_31 ?_
            refine zW_dup2 dX10_timesGenerator_32 rfl rfl ?_
            refine zrJ dX10_timesGenerator_33 k2.k_magnus (by first | assumption | omega | (unfold InR; omega) | (unfold InL; omega) | (simp only [InR] at *; omega)) (by first | assumption | omega | (unfold InR; omega) | (unfold InL; omega) | (simp only [InR] at *; omega)) (by first | assumption | omega | (unfold InR; omega) | (unfold InL; omega) | (simp only [InR] at *; omega)) (zix (f := zJ σ2 (y + 6)) (j := 4 * (mof d + k) + 1 + g) (by omega) v1) ?_
            refine zW_aload_n dX10_timesGenerator_34 rfl ?_
            refine zgP dX10_timesGenerator_35 fX10_27 k2.1 rfl k2.p_magnus ?_
            refine zW_iload_n dX10_timesGenerator_38 rfl ?_
            refine zcS1 dX10_timesGenerator_39 rfl eX10_offset b1613 ⟨by decide, by decide, by decide, by decide⟩ rfl (Nat.le_of_ble_eq_true rfl) (r_offset (d := d) (by omega) ?_)
            refine zW_iload_n dX10_timesGenerator_42 rfl ?_
            refine zW_iadd dX10_timesGenerator_43 ?_
            refine zrJ dX10_timesGenerator_44 k2.k_magnus (by first | assumption | omega | (unfold InR; omega) | (unfold InL; omega) | (simp only [InR] at *; omega)) (by first | assumption | omega | (unfold InR; omega) | (unfold InL; omega) | (simp only [InR] at *; omega)) (by first | assumption | omega | (unfold InR; omega) | (unfold InL; omega) | (simp only [InR] at *; omega)) (zix (f := zJ σ2 (y + 6)) (j := mof d + k) (by omega) v2) ?_
            refine zW_ladd dX10_timesGenerator_45 ?_
            refine zW_last dX10_timesGenerator_46 k2.k_magnus (by first | assumption | omega | (unfold InR; omega) | (unfold InL; omega) | (simp only [InR] at *; omega)) (by first | assumption | omega | (unfold InR; omega) | (unfold InL; omega) | (simp only [InR] at *; omega)) (by first | assumption | omega | (unfold InR; omega) | (unfold InL; omega) | (simp only [InR] at *; omega)) ?_
            refine zW_iinc dX10_timesGenerator_47 rfl (by decide) rfl rfl ?_
            refine zW_goto (tgt := 8) dX10_timesGenerator_50 (by decide) ?_
            refine ih2 (k + 1) (by omega) _ (m2.tr (Mr.J (by decide))) (fun j hj => ?_)
            rw [zJ_sJ]
            by_cases e : j = 4 * (mof d + k) + 1 + g
            · rw [if_pos ⟨rfl, by omega⟩, if_pos (by omega), e, show (4 * (mof d + k) + 1 + g - 1) / 4 = mof d + k by omega]
            · rw [if_neg (fun z => e (by omega)), hv2 j hj]
              by_cases e2 : (1 ≤ j ∧ (j - 1) % 4 = g) ∧ (mof (d + 1) ≤ (j - 1) / 4 ∨ (mof d ≤ (j - 1) / 4 ∧ (j - 1) / 4 < mof d + k))
              · rw [if_pos e2, if_pos (by omega)]
              · rw [if_neg e2, if_neg (by omega)]
      refine zW_iload_n dX10_timesGenerator_2 rfl ?_
      refine zW_if_lt (tgt := 59) dX10_timesGenerator_3 (by decide) (by first | assumption | omega | (unfold InR; omega) | (unfold InL; omega) | (simp only [InR] at *; omega)) (fun q => ?_) (fun q => ?_)
      · exact absurd q (by omega)
      · refine zW_iconst dX10_timesGenerator_6 ?_
        refine zW_istore_n dX10_timesGenerator_7 (by decide) rfl rfl ?_
        refine inner (mp4 d) 0 (by omega) σ1 m1 (fun j hj => ?_)
        rw [hv j hj]
        by_cases e : (1 ≤ j ∧ (j - 1) % 4 = g) ∧ mof (d + 1) ≤ (j - 1) / 4
        · rw [if_pos e, if_pos (by omega)]
        · rw [if_neg e, if_neg (by omega)]
  refine zW_iconst dX10_timesGenerator_0 ?_
  refine zW_istore_n dX10_timesGenerator_1 (by decide) rfl rfl ?_
  refine loop 4 (Nat.le_refl _) σ _ Mr.rf (fun j hj => ?_)
  have : mof 4 = 85 := by decide
  rw [if_neg (by omega)]
  exact hf j hj
set_option maxRecDepth 100000 in
theorem r_timesInverse {g : Nat} {f : Nat → Int} (h : RK σ y) (hf : MR6 σ y f) (hg : g < 4) (hQ : ∀ σ', MR6 σ' y (mgd g f) → Mr σ σ' y [] [6] → Q (.inl none) σ') : zM Γ mX10_timesInverse [vR (some y), vI g] σ Q := by
  refine zM_of (n := 2) (by decide +kernel) rfl rfl rfl ?_
  have loop : ∀ n d, d + n = 4 → ∀ σ1 z, Mr σ σ1 y [] [6] → (∀ j, j < 341 → zJ σ1 (y + 6) j = if 1 ≤ j ∧ mof d ≤ (j - 1) / 4 then f j else mgd g f j) → zW Γ mX10_timesInverse 2 [some (vR (some y)), some (vI g), some (vI d), z] [] σ1 0 0 Q := by
    intro n
    induction n with
    | zero =>
      intro d hd σ1 z m1 hv
      refine zW_iload_n dX10_timesInverse_2 rfl ?_
      refine zW_iconst dX10_timesInverse_3 ?_
      refine zW_icmp_ge (tgt := 60) dX10_timesInverse_4 (by decide) (by first | assumption | omega | (unfold InR; omega) | (unfold InL; omega) | (simp only [InR] at *; omega)) (by first | assumption | omega | (unfold InR; omega) | (unfold InL; omega) | (simp only [InR] at *; omega)) (fun q => ?_) (fun q => ?_)
      · refine zW_return dX10_timesInverse_60 rfl (by first | decide | (show _ ≤ (0 : Nat); omega)) (by first | decide | (show _ ≤ (0 : Nat); omega)) ?_
        refine hQ _ (fun j hj => ?_) m1
        have e : d = 4 := by omega
        have : mof 4 = 85 := by decide
        rw [hv j hj, e, if_neg (by omega)]
      · exact absurd q (by omega)
    | succ n ih =>
      intro d hd σ1 z m1 hv
      have ms := mof_s d (by omega)
      have md := mof_d d (by omega)
      have mb := mof_l d (by omega)
      have inner : ∀ n k, k + n = mp4 d → ∀ σ2, Mr σ σ2 y [] [6] → (∀ j, j < 341 → zJ σ2 (y + 6) j = if 1 ≤ j ∧ mof d + k ≤ (j - 1) / 4 then f j else mgd g f j) → zW Γ mX10_timesInverse 9 [some (vR (some y)), some (vI g), some (vI d), some (vI k)] [] σ2 0 0 Q := by
        intro n
        induction n with
        | zero =>
          intro k hk σ2 m2 hv2
          refine zW_iload_n dX10_timesInverse_9 rfl ?_
          refine zW_iload_n dX10_timesInverse_10 rfl ?_
          refine zcS1 dX10_timesInverse_11 rfl eX10_many b1610 ⟨by decide, by decide, by decide, by decide⟩ rfl (Nat.le_of_ble_eq_true rfl) (r_many (d := d) (by omega) ?_)
          refine zW_icmp_ge (tgt := 54) dX10_timesInverse_14 (by decide) (by first | assumption | omega | (unfold InR; omega) | (unfold InL; omega) | (simp only [InR] at *; omega)) (by first | assumption | omega | (unfold InR; omega) | (unfold InL; omega) | (simp only [InR] at *; omega)) (fun q => ?_) (fun q => ?_)
          · refine zW_iinc dX10_timesInverse_54 rfl (by decide) rfl rfl ?_
            refine zW_goto (tgt := 2) dX10_timesInverse_57 (by decide) ?_
            refine ih (d + 1) (by omega) σ2 _ m2 (fun j hj => ?_)
            rw [hv2 j hj]
            by_cases e : 1 ≤ j ∧ mof (d + 1) ≤ (j - 1) / 4
            · rw [if_pos e, if_pos (by omega)]
            · rw [if_neg e, if_neg (by omega)]
          · exact absurd q (by omega)
        | succ n ih2 =>
          intro k hk σ2 m2 hv2
          have k2 := h.mr m2
          have v1 := hv2 (4 * (mof d + k) + 1 + g) (by omega)
          have v2 := hv2 (mof d + k) (by omega)
          rw [if_pos (by omega)] at v1
          rw [if_neg (by omega)] at v2
          refine zW_iload_n dX10_timesInverse_9 rfl ?_
          refine zW_iload_n dX10_timesInverse_10 rfl ?_
          refine zcS1 dX10_timesInverse_11 rfl eX10_many b1610 ⟨by decide, by decide, by decide, by decide⟩ rfl (Nat.le_of_ble_eq_true rfl) (r_many (d := d) (by omega) ?_)
          refine zW_icmp_ge (tgt := 54) dX10_timesInverse_14 (by decide) (by first | assumption | omega | (unfold InR; omega) | (unfold InL; omega) | (simp only [InR] at *; omega)) (by first | assumption | omega | (unfold InR; omega) | (unfold InL; omega) | (simp only [InR] at *; omega)) (fun q => ?_) (fun q => ?_)
          · exact absurd q (by omega)
          · refine zW_aload_n dX10_timesInverse_17 rfl ?_
            refine zgP dX10_timesInverse_18 fX10_27 k2.1 rfl k2.p_magnus ?_
            refine zW_iload_n dX10_timesInverse_21 rfl ?_
            refine zW_iconst dX10_timesInverse_22 ?_
            refine zW_iadd dX10_timesInverse_23 ?_
            refine zcS1 dX10_timesInverse_24 rfl eX10_offset b1613 ⟨by decide, by decide, by decide, by decide⟩ rfl (Nat.le_of_ble_eq_true rfl) (r_offset (d := d + 1) (by omega) ?_)
            refine zW_iconst dX10_timesInverse_27 ?_
            refine zW_iload_n dX10_timesInverse_28 rfl ?_
            refine zW_imul dX10_timesInverse_29 ?_
            refine zW_iadd dX10_timesInverse_30 ?_
            refine zW_iload_n dX10_timesInverse_31 rfl ?_
            refine zW_iadd dX10_timesInverse_32 ?_
            refine zW_dup2 dX10_timesInverse_33 rfl rfl ?_
            refine zrJ dX10_timesInverse_34 k2.k_magnus (by first | assumption | omega | (unfold InR; omega) | (unfold InL; omega) | (simp only [InR] at *; omega)) (by first | assumption | omega | (unfold InR; omega) | (unfold InL; omega) | (simp only [InR] at *; omega)) (by first | assumption | omega | (unfold InR; omega) | (unfold InL; omega) | (simp only [InR] at *; omega)) (zix (f := zJ σ2 (y + 6)) (j := 4 * (mof d + k) + 1 + g) (by omega) v1) ?_
            refine zW_aload_n dX10_timesInverse_35 rfl ?_
            refine zgP dX10_timesInverse_36 fX10_27 k2.1 rfl k2.p_magnus ?_
            refine zW_iload_n dX10_timesInverse_39 rfl ?_
            refine zcS1 dX10_timesInverse_40 rfl eX10_offset b1613 ⟨by decide, by decide, by decide, by decide⟩ rfl (Nat.le_of_ble_eq_true rfl) (r_offset (d := d) (by omega) ?_)
            refine zW_iload_n dX10_timesInverse_43 rfl ?_
            refine zW_iadd dX10_timesInverse_44 ?_
            refine zrJ dX10_timesInverse_45 k2.k_magnus (by first | assumption | omega | (unfold InR; omega) | (unfold InL; omega) | (simp only [InR] at *; omega)) (by first | assumption | omega | (unfold InR; omega) | (unfold InL; omega) | (simp only [InR] at *; omega)) (by first | assumption | omega | (unfold InR; omega) | (unfold InL; omega) | (simp only [InR] at *; omega)) (zix (f := zJ σ2 (y + 6)) (j := mof d + k) (by omega) v2) ?_
            refine zW_lsub dX10_timesInverse_46 ?_
            refine zW_last dX10_timesInverse_47 k2.k_magnus (by first | assumption | omega | (unfold InR; omega) | (unfold InL; omega) | (simp only [InR] at *; omega)) (by first | assumption | omega | (unfold InR; omega) | (unfold InL; omega) | (simp only [InR] at *; omega)) (by first | assumption | omega | (unfold InR; omega) | (unfold InL; omega) | (simp only [InR] at *; omega)) ?_
            refine zW_iinc dX10_timesInverse_48 rfl (by decide) rfl rfl ?_
            refine zW_goto (tgt := 9) dX10_timesInverse_51 (by decide) ?_
            refine ih2 (k + 1) (by omega) _ (m2.tr (Mr.J (by decide))) (fun j hj => ?_)
            rw [zJ_sJ]
            by_cases e : j = 4 * (mof d + k) + 1 + g
            · rw [if_pos ⟨rfl, by omega⟩, if_neg (by omega), mgd_eq g f j, if_pos (by omega), e, show (4 * (mof d + k) + 1 + g - 1) / 4 = mof d + k by omega]
            · rw [if_neg (fun z => e (by omega)), hv2 j hj]
              by_cases e2 : 1 ≤ j ∧ mof d + k ≤ (j - 1) / 4
              · rw [if_pos e2]
                by_cases e3 : 1 ≤ j ∧ mof d + (k + 1) ≤ (j - 1) / 4
                · rw [if_pos e3]
                · rw [if_neg e3, mgd_eq g f j, if_neg (by omega)]
              · rw [if_neg e2, if_neg (by omega)]
      refine zW_iload_n dX10_timesInverse_2 rfl ?_
      refine zW_iconst dX10_timesInverse_3 ?_
      refine zW_icmp_ge (tgt := 60) dX10_timesInverse_4 (by decide) (by first | assumption | omega | (unfold InR; omega) | (unfold InL; omega) | (simp only [InR] at *; omega)) (by first | assumption | omega | (unfold InR; omega) | (unfold InL; omega) | (simp only [InR] at *; omega)) (fun q => ?_) (fun q => ?_)
      · exact absurd q (by omega)
      · refine zW_iconst dX10_timesInverse_7 ?_
        refine zW_istore_n dX10_timesInverse_8 (by decide) rfl rfl ?_
        exact inner (mp4 d) 0 (by omega) σ1 m1 (fun j hj => hv j hj)
  refine zW_iconst dX10_timesInverse_0 ?_
  refine zW_istore_n dX10_timesInverse_1 (by decide) rfl rfl ?_
  refine loop 4 0 (by omega) σ _ Mr.rf (fun j hj => ?_)
  by_cases e : 1 ≤ j
  · rw [if_pos ⟨e, Nat.zero_le _⟩]
    exact hf j hj
  · rw [if_neg (fun z => e z.1), mgd_eq g f j, if_neg (fun z => e z.1)]
    exact hf j hj
set_option maxRecDepth 100000 in
theorem r_expands {w : Nat} {l : List Nat} (h : RA σ y 0) (hw : Rw σ y (0 + w) l) (hb : 0 + w + 61 ≤ 13453) (hQ : ∀ σ', MR6 σ' y (mgx l) → Mr σ σ' y [] [6] → Q (.inl none) σ') : zM Γ mX10_expands [vR (some y), vI w] σ Q := by
  have hl := hw.2.1
  refine zM_of (n := 2) (by decide +kernel) rfl rfl rfl ?_
  have loop2 : ∀ n i σ1 z, i + n = l.length → MR6 σ1 y (mgx (l.take i)) → Mr σ σ1 y [] [6] → zW Γ mX10_expands 34 [some (vR (some y)), some (vI w), some (vI i), z] [] σ1 0 0 Q := by
    intro n
    induction n with
    | zero =>
      intro i σ1 z hi hf m1
      have a1 := h.mr m1
      have hw1 := hw.mr m1
      refine zW_iload_n dX10_expands_34 rfl ?_
      refine zW_aload_n dX10_expands_35 rfl ?_
      refine zW_iload_n dX10_expands_36 rfl ?_
      refine zcV1 dX10_expands_37 rfl eX10_get b1443 ⟨by decide, by decide, by decide, by decide⟩ rfl a1.1.1 rfl (by decide) (Nat.le_of_ble_eq_true rfl) (r_get a1 (by omega) hw1.1 ?_)
      refine zW_icmp_ge (tgt := 79) dX10_expands_40 (by decide) (by first | assumption | omega | (unfold InR; omega) | (unfold InL; omega) | (simp only [InR] at *; omega)) (by first | assumption | omega | (unfold InR; omega) | (unfold InL; omega) | (simp only [InR] at *; omega)) (fun q => ?_) (fun q => ?_)
      · refine zW_return dX10_expands_79 rfl (by first | decide | (show _ ≤ (0 : Nat); omega)) (by first | decide | (show _ ≤ (0 : Nat); omega)) ?_
        rw [List.take_of_length_le (by omega)] at hf
        exact hQ σ1 hf m1
      · exact absurd q (by omega)
    | succ n ih =>
      intro i σ1 z hi hf m1
      have a1 := h.mr m1
      have hw1 := hw.mr m1
      have hx := getD_lt hw.2.2.2 (i := i) (by omega)
      have et : mgx (l.take (i + 1)) = mg1 (mgx (l.take i)) (l.getD i 0) := by rw [take_s (by omega), mgx_app]
      have e2 : ((l.getD i 0 : Nat) : Int) / 2 = ((l.getD i 0 / 2 : Nat) : Int) := by omega
      refine zW_iload_n dX10_expands_34 rfl ?_
      refine zW_aload_n dX10_expands_35 rfl ?_
      refine zW_iload_n dX10_expands_36 rfl ?_
      refine zcV1 dX10_expands_37 rfl eX10_get b1443 ⟨by decide, by decide, by decide, by decide⟩ rfl a1.1.1 rfl (by decide) (Nat.le_of_ble_eq_true rfl) (r_get a1 (by omega) hw1.1 ?_)
      refine zW_icmp_ge (tgt := 79) dX10_expands_40 (by decide) (by first | assumption | omega | (unfold InR; omega) | (unfold InL; omega) | (simp only [InR] at *; omega)) (by first | assumption | omega | (unfold InR; omega) | (unfold InL; omega) | (simp only [InR] at *; omega)) (fun q => ?_) (fun q => ?_)
      · exact absurd q (by omega)
      · refine zW_aload_n dX10_expands_43 rfl ?_
        refine zW_iload_n dX10_expands_44 rfl ?_
        refine zW_iload_n dX10_expands_45 rfl ?_
        refine zcV2 dX10_expands_46 rfl eX10_codeAt b1499 ⟨by decide, by decide, by decide, by decide⟩ rfl a1.1.1 rfl (by decide) (Nat.le_of_ble_eq_true rfl) (r_codeAt a1 hw1 (by omega) hb ?_)
        refine zW_istore_n dX10_expands_49 (by decide) rfl rfl ?_
        refine zW_iload_n dX10_expands_50 rfl ?_
        refine zW_iconst dX10_expands_51 ?_
        refine zW_irem dX10_expands_52 (by first | assumption | omega | (unfold InR; omega) | (unfold InL; omega) | (simp only [InR] at *; omega)) (by first | assumption | omega | (unfold InR; omega) | (unfold InL; omega) | (simp only [InR] at *; omega)) (by first | assumption | omega | (unfold InR; omega) | (unfold InL; omega) | (simp only [InR] at *; omega)) (by first | assumption | omega | (unfold InR; omega) | (unfold InL; omega) | (simp only [InR] at *; omega)) ?_
        refine zW_if_ne (tgt := 66) dX10_expands_53 (by decide) (by first | assumption | omega | (unfold InR; omega) | (unfold InL; omega) | (simp only [InR] at *; omega)) (fun q2 => ?_) (fun q2 => ?_)
        · refine zW_aload_n dX10_expands_66 rfl ?_
          refine zW_iload_n dX10_expands_67 rfl ?_
          refine zW_iconst dX10_expands_68 ?_
          refine zW_idiv dX10_expands_69 (by first | assumption | omega | (unfold InR; omega) | (unfold InL; omega) | (simp only [InR] at *; omega)) (by first | assumption | omega | (unfold InR; omega) | (unfold InL; omega) | (simp only [InR] at *; omega)) (by first | assumption | omega | (unfold InR; omega) | (unfold InL; omega) | (simp only [InR] at *; omega)) (by first | assumption | omega | (unfold InR; omega) | (unfold InL; omega) | (simp only [InR] at *; omega)) ?_
          rw [e2]
          refine zcV1 dX10_expands_70 rfl eX10_timesInverse b1616 ⟨by decide, by decide, by decide, by decide⟩ rfl a1.1.1 rfl (by decide) (Nat.le_of_ble_eq_true rfl) (r_timesInverse a1.1 hf (by omega) (fun σ2 hf2 m2 => ?_))
          refine zW_iinc dX10_expands_73 rfl (by decide) rfl rfl ?_
          refine zW_goto (tgt := 34) dX10_expands_76 (by decide) ?_
          refine ih (i + 1) σ2 _ (by omega) ?_ (m1.tr m2)
          rw [et]
          unfold mg1
          rw [if_neg (by omega)]
          exact hf2
        · refine zW_aload_n dX10_expands_56 rfl ?_
          refine zW_iload_n dX10_expands_57 rfl ?_
          refine zW_iconst dX10_expands_58 ?_
          refine zW_idiv dX10_expands_59 (by first | assumption | omega | (unfold InR; omega) | (unfold InL; omega) | (simp only [InR] at *; omega)) (by first | assumption | omega | (unfold InR; omega) | (unfold InL; omega) | (simp only [InR] at *; omega)) (by first | assumption | omega | (unfold InR; omega) | (unfold InL; omega) | (simp only [InR] at *; omega)) (by first | assumption | omega | (unfold InR; omega) | (unfold InL; omega) | (simp only [InR] at *; omega)) ?_
          rw [e2]
          refine zcV1 dX10_expands_60 rfl eX10_timesGenerator b1606 ⟨by decide, by decide, by decide, by decide⟩ rfl a1.1.1 rfl (by decide) (Nat.le_of_ble_eq_true rfl) (r_timesGenerator a1.1 hf (by omega) (fun σ2 hf2 m2 => ?_))
          refine zW_goto (tgt := 73) dX10_expands_63 (by decide) ?_
          refine zW_iinc dX10_expands_73 rfl (by decide) rfl rfl ?_
          refine zW_goto (tgt := 34) dX10_expands_76 (by decide) ?_
          refine ih (i + 1) σ2 _ (by omega) ?_ (m1.tr m2)
          rw [et]
          unfold mg1
          rw [if_pos (by omega)]
          exact hf2
  have loop1 : ∀ n i σ1, i + n = 341 → (∀ j, j < i → zJ σ1 (y + 6) j = mg0 j) → Mr σ σ1 y [] [6] → zW Γ mX10_expands 2 [some (vR (some y)), some (vI w), some (vI i), none] [] σ1 0 0 Q := by
    intro n
    induction n with
    | zero =>
      intro i σ1 hi hall m1
      have k1 := h.1.mr m1
      refine zW_iload_n dX10_expands_2 rfl ?_
      refine zW_aload_n dX10_expands_3 rfl ?_
      refine zgP dX10_expands_4 fX10_27 k1.1 rfl k1.p_magnus ?_
      refine zW_alen dX10_expands_7 k1.k_magnus (by decide) (by decide) ?_
      refine zW_icmp_ge (tgt := 32) dX10_expands_8 (by decide) (by first | assumption | omega | (unfold InR; omega) | (unfold InL; omega) | (simp only [InR] at *; omega)) (by first | assumption | omega | (unfold InR; omega) | (unfold InL; omega) | (simp only [InR] at *; omega)) (fun q => ?_) (fun q => ?_)
      · refine zW_iconst dX10_expands_32 ?_
        refine zW_istore_n dX10_expands_33 (by decide) rfl rfl ?_
        exact loop2 l.length 0 σ1 none (by omega) (fun j hj => by rw [List.take_zero]; exact hall j (by omega)) m1
      · exact absurd q (by omega)
    | succ n ih =>
      intro i σ1 hi hall m1
      have k1 := h.1.mr m1
      have nxt : zW Γ mX10_expands 25 [some (vR (some y)), some (vI w), some (vI i), none] [vJ (mg0 i), vI i, vR (some (y + 6))] σ1 0 0 Q := by
        refine zW_last dX10_expands_25 k1.k_magnus (by first | assumption | omega | (unfold InR; omega) | (unfold InL; omega) | (simp only [InR] at *; omega)) (by first | assumption | omega | (unfold InR; omega) | (unfold InL; omega) | (simp only [InR] at *; omega)) (by first | assumption | omega | (unfold InR; omega) | (unfold InL; omega) | (simp only [InR] at *; omega)) ?_
        refine zW_iinc dX10_expands_26 rfl (by decide) rfl rfl ?_
        refine zW_goto (tgt := 2) dX10_expands_29 (by decide) ?_
        refine ih (i + 1) _ (by omega) (fun j hj => ?_) (m1.tr (Mr.J (by decide)))
        rw [zJ_sJ]
        by_cases e : j = i
        · rw [if_pos ⟨rfl, by omega⟩, e]
        · rw [if_neg (fun z => e (by omega))]
          exact hall j (by omega)
      refine zW_iload_n dX10_expands_2 rfl ?_
      refine zW_aload_n dX10_expands_3 rfl ?_
      refine zgP dX10_expands_4 fX10_27 k1.1 rfl k1.p_magnus ?_
      refine zW_alen dX10_expands_7 k1.k_magnus (by decide) (by decide) ?_
      refine zW_icmp_ge (tgt := 32) dX10_expands_8 (by decide) (by first | assumption | omega | (unfold InR; omega) | (unfold InL; omega) | (simp only [InR] at *; omega)) (by first | assumption | omega | (unfold InR; omega) | (unfold InL; omega) | (simp only [InR] at *; omega)) (fun q => ?_) (fun q => ?_)
      · exact absurd q (by omega)
      · refine zW_aload_n dX10_expands_11 rfl ?_
        refine zgP dX10_expands_12 fX10_27 k1.1 rfl k1.p_magnus ?_
        refine zW_iload_n dX10_expands_15 rfl ?_
        refine zW_iload_n dX10_expands_16 rfl ?_
        refine zW_if_ne (tgt := 24) dX10_expands_17 (by decide) (by first | assumption | omega | (unfold InR; omega) | (unfold InL; omega) | (simp only [InR] at *; omega)) (fun q2 => ?_) (fun q2 => ?_)
        · refine zW_lconst dX10_expands_24 (z := 0) (by decide) ?_
          have e : mg0 i = 0 := if_neg (by omega)
          rw [e] at nxt
          exact nxt
        · refine zW_lconst dX10_expands_20 (z := 1) (by decide) ?_
          refine zW_goto (tgt := 25) dX10_expands_21 (by decide) ?_
          have e : mg0 i = 1 := if_pos (by omega)
          rw [e] at nxt
          exact nxt
  refine zW_iconst dX10_expands_0 ?_
  refine zW_istore_n dX10_expands_1 (by decide) rfl rfl ?_
  exact loop1 341 0 σ (by omega) (fun j hj => absurd hj (Nat.not_lt_zero j)) Mr.rf
set_option maxRecDepth 100000 in
theorem mnr_in {f : Nat → Int} {a : Nat} : ∀ n, (∀ j, a ≤ j → j < a + n → (f j).natAbs ≤ 13845841) → mnr f a n ≤ 13845841 * n := by
  intro n
  induction n with
  | zero => intro _; exact Nat.zero_le _
  | succ n ih =>
    intro h
    have h1 := ih (fun j j1 j2 => h j j1 (by omega))
    have h2 := h (a + n) (by omega) (by omega)
    show mnr f a n + (f (a + n)).natAbs ≤ _
    omega
set_option maxRecDepth 100000 in
theorem r_normOf {d : Nat} {f : Nat → Int} (h : RK σ y) (hf : MR6 σ y f) (hd : d < 5) (hb : ∀ j, j < 341 → (f j).natAbs ≤ 13845841) (hQ : Q (.inl (some (vJ (mnr f (mof d) (mp4 d) : Nat)))) σ) : zM Γ mX10_normOf [vR (some y), vI d] σ Q := by
  have mb := mof_le d hd
  refine zM_of (n := 3) (by decide +kernel) rfl rfl rfl ?_
  have loop : ∀ n k, k + n = mp4 d → zW Γ mX10_normOf 5 [some (vR (some y)), some (vI d), some (vJ (mnr f (mof d) k : Nat)), none, some (vI k)] [] σ 0 0 Q := by
    intro n
    induction n with
    | zero =>
      intro k hk
      refine zW_iload dX10_normOf_5 rfl ?_
      refine zW_iload_n dX10_normOf_7 rfl ?_
      refine zcS1 dX10_normOf_8 rfl eX10_many b1610 ⟨by decide, by decide, by decide, by decide⟩ rfl (Nat.le_of_ble_eq_true rfl) (r_many (d := d) (by omega) ?_)
      refine zW_icmp_ge (tgt := 38) dX10_normOf_11 (by decide) (by first | assumption | omega | (unfold InR; omega) | (unfold InL; omega) | (simp only [InR] at *; omega)) (by first | assumption | omega | (unfold InR; omega) | (unfold InL; omega) | (simp only [InR] at *; omega)) (fun q => ?_) (fun q => ?_)
      · refine zW_lload_n dX10_normOf_38 rfl ?_
        refine zW_lreturn dX10_normOf_39 rfl (by first | decide | (show _ ≤ (0 : Nat); omega)) (by first | decide | (show _ ≤ (0 : Nat); omega)) ?_
        have e : k = mp4 d := by omega
        rw [e]
        exact hQ
      · exact absurd q (by omega)
    | succ n ih =>
      intro k hk
      have hbk := hb (mof d + k) (by omega)
      have e0 : mnr f (mof d) (k + 1) = mnr f (mof d) k + (f (mof d + k)).natAbs := rfl
      have e1 : (mnr f (mof d) k : Int) + (if 0 < f (mof d + k) then f (mof d + k) else -f (mof d + k)) = (mnr f (mof d) (k + 1) : Nat) := by split <;> omega
      refine zW_iload dX10_normOf_5 rfl ?_
      refine zW_iload_n dX10_normOf_7 rfl ?_
      refine zcS1 dX10_normOf_8 rfl eX10_many b1610 ⟨by decide, by decide, by decide, by decide⟩ rfl (Nat.le_of_ble_eq_true rfl) (r_many (d := d) (by omega) ?_)
      refine zW_icmp_ge (tgt := 38) dX10_normOf_11 (by decide) (by first | assumption | omega | (unfold InR; omega) | (unfold InL; omega) | (simp only [InR] at *; omega)) (by first | assumption | omega | (unfold InR; omega) | (unfold InL; omega) | (simp only [InR] at *; omega)) (fun q => ?_) (fun q => ?_)
      · exact absurd q (by omega)
      · refine zW_lload_n dX10_normOf_14 rfl ?_
        refine zW_aload_n dX10_normOf_15 rfl ?_
        refine zgP dX10_normOf_16 fX10_27 h.1 rfl h.p_magnus ?_
        refine zW_iload_n dX10_normOf_19 rfl ?_
        refine zcS1 dX10_normOf_20 rfl eX10_offset b1613 ⟨by decide, by decide, by decide, by decide⟩ rfl (Nat.le_of_ble_eq_true rfl) (r_offset (d := d) (by omega) ?_)
        refine zW_iload dX10_normOf_23 rfl ?_
        refine zW_iadd dX10_normOf_25 ?_
        refine zrJ dX10_normOf_26 h.k_magnus (by first | assumption | omega | (unfold InR; omega) | (unfold InL; omega) | (simp only [InR] at *; omega)) (by first | assumption | omega | (unfold InR; omega) | (unfold InL; omega) | (simp only [InR] at *; omega)) (by first | assumption | omega | (unfold InR; omega) | (unfold InL; omega) | (simp only [InR] at *; omega)) (zix (f := zJ σ (y + 6)) (j := mof d + k) (by omega) (hf _ (by omega))) ?_
        refine zW_mabsL dX10_normOf_27 (by unfold InL; omega) b1624 b928 b4 b929 (Nat.le_of_ble_eq_true rfl) (Nat.le_of_ble_eq_true rfl) (Nat.le_of_ble_eq_true rfl) (Nat.le_of_ble_eq_true rfl) ?_
        refine zW_ladd dX10_normOf_30 ?_
        refine zW_lstore_n dX10_normOf_31 (by decide) rfl rfl ?_
        refine zW_iinc dX10_normOf_32 rfl (by decide) rfl rfl ?_
        refine zW_goto (tgt := 5) dX10_normOf_35 (by decide) ?_
        rw [e1]
        exact ih (k + 1) (by omega)
  refine zW_lconst dX10_normOf_0 (z := 0) (by decide) ?_
  refine zW_lstore_n dX10_normOf_1 (by decide) rfl rfl ?_
  refine zW_iconst dX10_normOf_2 ?_
  refine zW_istore dX10_normOf_3 (by decide) rfl rfl ?_
  exact loop (mp4 d) 0 (by omega)
/-- as RQ, for a long -/
def RQJ (σ : HS) (y : Nat) (o : Out) (Q : Res → HS → Prop) : Prop := ∀ σ' v, RI σ' y o.2.2 → zO σ' y 0 = (o.1 : Int) → Md σ σ' (yr y) → (o.1 = 0 → v = o.2.1) → Q (.inl (some (vJ v))) σ'
set_option maxRecDepth 100000 in
theorem RQJ.ask {σ' : HS} {v : Int} {o : Out} (hQ : RQJ σ y o Q) (ho : o = (0, v, A)) (h : RI σ y A) (m : Mr σ σ' y KS RS) (ht : zO σ' y 0 = 0) : Q (.inl (some (vJ v))) σ' := by
  subst ho
  exact hQ σ' v (h.mr m) ht (m.md (by decide)) (fun _ => rfl)
set_option maxRecDepth 100000 in
theorem RQJ.bad {σ' : HS} {k : Nat} {v w : Int} {o : Out} (hQ : RQJ σ y o Q) (ho : o = (k + 1, v, A)) (h : RI σ y A) (m : Mr σ σ' y KS RS) (ht : zO σ' y 0 = ((k + 1 : Nat) : Int)) : Q (.inl (some (vJ w))) σ' := by
  subst ho
  exact hQ σ' w (h.mr m) ht (m.md (by decide)) (fun z => absurd z (Nat.succ_ne_zero k))
set_option maxRecDepth 100000 in
theorem q_magnusDegree {r : Int} (h : RI σ y A) (ir : InR r) (hQ : RQ σ y (o_magnusDegree A r) Q) : zM Γ mX10_magnusDegree [vR (some y), vI r] σ Q := by
  refine zM_of (n := 1) (by decide +kernel) rfl rfl rfl ?_
  refine zW_aload_n dX10_magnusDegree_0 rfl ?_
  refine zW_iconst dX10_magnusDegree_1 ?_
  refine zpI dX10_magnusDegree_2 fX10_75 h.1.1 rfl (Or.inl rfl) (zst_int _) ?_
  have m0 : Mr σ (sO σ y 0 0) y KS RS := Mr.O (by decide)
  have h0 := h.mr m0
  have t0 : zO (sO σ y 0 0) y 0 = 0 := zO_sOs _ _ _ _
  generalize sO σ y 0 0 = σ0 at m0 h0 t0 ⊢
  have a0 : RA σ0 y 0 := h0.ra
  refine zW_iload_n dX10_magnusDegree_5 rfl ?_
  refine zcS1 dX10_magnusDegree_6 rfl eX10_isRegister b1492 ⟨by decide, by decide, by decide, by decide⟩ rfl (Nat.le_of_ble_eq_true rfl) (r_isRegister ir (fun g => ?_) (fun g => ?_))
  · have hw := h0.rw g
    have hb := r8b g
    have hl := hw.2.1
    refine zW_if_ne (tgt := 18) dX10_magnusDegree_9 (by decide) (by first | assumption | omega | (unfold InR; omega) | (unfold InL; omega) | (simp only [InR] at *; omega)) (fun q => ?_) (fun q => ?_)
    · refine zW_aload_n dX10_magnusDegree_18 rfl ?_
      refine zW_iload_n dX10_magnusDegree_19 rfl ?_
      refine zcS1 dX10_magnusDegree_20 rfl eX10_register b1455 ⟨by decide, by decide, by decide, by decide⟩ rfl (Nat.le_of_ble_eq_true rfl) (r_register g ?_)
      refine zcV1 dX10_magnusDegree_23 rfl eX10_expands b1602 ⟨by decide, by decide, by decide, by decide⟩ rfl a0.1.1 rfl (by decide) (Nat.le_of_ble_eq_true rfl) (r_expands a0 hw hb (fun σ1 hf m1 => ?_))
      have k1 := a0.1.mr m1
      have m01 : Mr σ σ1 y KS RS := m0.th m1 (by decide) (by decide)
      have t1 : zO σ1 y 0 = 0 := by rw [m1.o (by decide)]; exact t0
      have loop : ∀ n d, d + n = 5 → 1 ≤ d → (mdeg (reg A r) = if d ≤ 4 ∧ mnm (reg A r) d ≠ 0 then (d : Int) else if d + 1 ≤ 4 ∧ mnm (reg A r) (d + 1) ≠ 0 then ((d + 1 : Nat) : Int) else if d + 2 ≤ 4 ∧ mnm (reg A r) (d + 2) ≠ 0 then ((d + 2 : Nat) : Int) else if d + 3 ≤ 4 ∧ mnm (reg A r) (d + 3) ≠ 0 then ((d + 3 : Nat) : Int) else -1) → zW Γ mX10_magnusDegree 28 [some (vR (some y)), some (vI r), some (vI d)] [] σ1 0 0 Q := by
        intro n
        induction n with
        | zero =>
          intro d hd hd1 he
          rw [if_neg (by omega), if_neg (by omega), if_neg (by omega), if_neg (by omega)] at he
          refine zW_iload_n dX10_magnusDegree_28 rfl ?_
          refine zW_iconst dX10_magnusDegree_29 ?_
          refine zW_icmp_gt (tgt := 51) dX10_magnusDegree_30 (by decide) (by first | assumption | omega | (unfold InR; omega) | (unfold InL; omega) | (simp only [InR] at *; omega)) (by first | assumption | omega | (unfold InR; omega) | (unfold InL; omega) | (simp only [InR] at *; omega)) (fun q => ?_) (fun q => ?_)
          · refine zW_iconst dX10_magnusDegree_51 ?_
            refine zW_ireturn dX10_magnusDegree_52 rfl rfl (by first | decide | (show _ ≤ (0 : Nat); omega)) (by first | decide | (show _ ≤ (0 : Nat); omega)) ?_
            exact hQ.ask (by unfold o_magnusDegree g1; rw [if_pos g, he]) h m01 t1
          · exact absurd q (by omega)
        | succ n ih =>
          intro d hd hd1 he
          have hmn := mnm_in hl (d := d) (by omega)
          have hlc : zcmp ((mnm (reg A r) d : Nat) : Int) 0 = if mnm (reg A r) d = 0 then 0 else 1 := by
            unfold zcmp
            rw [if_neg (by omega)]
            by_cases z : mnm (reg A r) d = 0
            · rw [if_pos (by omega), if_pos z]
            · rw [if_neg (by omega), if_neg z]
          refine zW_iload_n dX10_magnusDegree_28 rfl ?_
          refine zW_iconst dX10_magnusDegree_29 ?_
          refine zW_icmp_gt (tgt := 51) dX10_magnusDegree_30 (by decide) (by first | assumption | omega | (unfold InR; omega) | (unfold InL; omega) | (simp only [InR] at *; omega)) (by first | assumption | omega | (unfold InR; omega) | (unfold InL; omega) | (simp only [InR] at *; omega)) (fun q => ?_) (fun q => ?_)
          · exact absurd q (by omega)
          · refine zW_aload_n dX10_magnusDegree_33 rfl ?_
            refine zW_iload_n dX10_magnusDegree_34 rfl ?_
            refine zcV1 dX10_magnusDegree_35 rfl eX10_normOf b1620 ⟨by decide, by decide, by decide, by decide⟩ rfl k1.1 rfl (by decide) (Nat.le_of_ble_eq_true rfl) (r_normOf k1 hf (d := d) (by omega) (fun j hj => mgx_in hl hj) ?_)
            have em : mnr (mgx (reg A r)) (mof d) (mp4 d) = mnm (reg A r) d := rfl
            rw [em]
            refine zW_lconst dX10_magnusDegree_38 (z := 0) (by decide) ?_
            refine zW_lcmp dX10_magnusDegree_39 (by unfold InL; omega) (by unfold InL; omega) ?_
            rw [hlc]
            by_cases z : mnm (reg A r) d = 0
            · rw [if_pos z]
              refine zW_if_le (tgt := 45) dX10_magnusDegree_40 (by decide) (by first | assumption | omega | (unfold InR; omega) | (unfold InL; omega) | (simp only [InR] at *; omega)) (fun q2 => ?_) (fun q2 => ?_)
              · refine zW_iinc dX10_magnusDegree_45 rfl (by decide) rfl rfl ?_
                refine zW_goto (tgt := 28) dX10_magnusDegree_48 (by decide) ?_
                rw [if_neg (fun z2 => z2.2 z)] at he
                refine ih (d + 1) (by omega) (by omega) ?_
                rw [he]
                by_cases w1 : d + 1 ≤ 4 ∧ mnm (reg A r) (d + 1) ≠ 0
                · rw [if_pos w1, if_pos w1]
                · rw [if_neg w1, if_neg w1, show d + 1 + 1 = d + 2 by omega, show d + 1 + 2 = d + 3 by omega]
                  by_cases w2 : d + 2 ≤ 4 ∧ mnm (reg A r) (d + 2) ≠ 0
                  · rw [if_pos w2, if_pos w2]
                  · rw [if_neg w2, if_neg w2]
                    by_cases w3 : d + 3 ≤ 4 ∧ mnm (reg A r) (d + 3) ≠ 0
                    · rw [if_pos w3, if_pos w3]
                    · rw [if_neg w3, if_neg w3, if_neg (by omega)]
              · exact absurd q2 (by decide)
            · rw [if_neg z]
              refine zW_if_le (tgt := 45) dX10_magnusDegree_40 (by decide) (by first | assumption | omega | (unfold InR; omega) | (unfold InL; omega) | (simp only [InR] at *; omega)) (fun q2 => ?_) (fun q2 => ?_)
              · exact absurd q2 (by decide)
              · refine zW_iload_n dX10_magnusDegree_43 rfl ?_
                refine zW_ireturn dX10_magnusDegree_44 rfl rfl (by first | decide | (show _ ≤ (0 : Nat); omega)) (by first | decide | (show _ ≤ (0 : Nat); omega)) ?_
                rw [if_pos ⟨by omega, z⟩] at he
                exact hQ.ask (by unfold o_magnusDegree g1; rw [if_pos g, he]) h m01 t1
      refine zW_iconst dX10_magnusDegree_26 ?_
      refine zW_istore_n dX10_magnusDegree_27 (by decide) rfl rfl ?_
      refine loop 4 1 (by omega) (by omega) ?_
      unfold mdeg
      simp
    · exact absurd q (by decide)
  · refine zW_if_ne (tgt := 18) dX10_magnusDegree_9 (by decide) (by first | assumption | omega | (unfold InR; omega) | (unfold InL; omega) | (simp only [InR] at *; omega)) (fun q => ?_) (fun q => ?_)
    · exact absurd rfl q
    · refine zW_aload_n dX10_magnusDegree_12 rfl ?_
      refine zW_iconst dX10_magnusDegree_13 ?_
      refine zcV1 dX10_magnusDegree_14 rfl eX10_fails b1371 ⟨by decide, by decide, by decide, by decide⟩ rfl a0.1.1 rfl (by decide) (Nat.le_of_ble_eq_true rfl) (r_fails a0.1 ?_)
      refine zW_ireturn dX10_magnusDegree_17 rfl rfl (by first | decide | (show _ ≤ (0 : Nat); omega)) (by first | decide | (show _ ≤ (0 : Nat); omega)) ?_
      exact hQ.bad (k := 0) (if_neg g) h (m0.th (Mr.O (Ks := KS) (Rs := RS) (by decide)) (fun _ z => z) (fun _ z => z)) (zO_sOs _ _ _ _)
set_option maxRecDepth 100000 in
theorem q_magnusCoefficient {r a b : Int} (h : RI σ y A) (ir : InR r) (ia : InR a) (ib : InR b) (ao : AO A) (hQ : RQ σ y (o_magnusCoefficient A r a b) Q) : zM Γ mX10_magnusCoefficient [vR (some y), vI r, vI a, vI b] σ Q := by
  refine zM_of (n := 0) (by decide +kernel) rfl rfl rfl ?_
  refine zW_aload_n dX10_magnusCoefficient_0 rfl ?_
  refine zW_iconst dX10_magnusCoefficient_1 ?_
  refine zpI dX10_magnusCoefficient_2 fX10_75 h.1.1 rfl (Or.inl rfl) (zst_int _) ?_
  have m0 : Mr σ (sO σ y 0 0) y KS RS := Mr.O (by decide)
  have h0 := h.mr m0
  have t0 : zO (sO σ y 0 0) y 0 = 0 := zO_sOs _ _ _ _
  generalize sO σ y 0 0 = σ0 at m0 h0 t0 ⊢
  have a0 : RA σ0 y 0 := h0.ra
  have bd : o_magnusCoefficient A r a b = (1, 0, A) → zW Γ mX10_magnusCoefficient 28 [some (vR (some y)), some (vI r), some (vI a), some (vI b)] [] σ0 0 0 Q := by
    intro ho
    refine zW_aload_n dX10_magnusCoefficient_28 rfl ?_
    refine zW_iconst dX10_magnusCoefficient_29 ?_
    refine zcV1 dX10_magnusCoefficient_30 rfl eX10_fails b1371 ⟨by decide, by decide, by decide, by decide⟩ rfl a0.1.1 rfl (by decide) (Nat.le_of_ble_eq_true rfl) (r_fails a0.1 ?_)
    refine zW_ireturn dX10_magnusCoefficient_33 rfl rfl (by first | decide | (show _ ≤ (0 : Nat); omega)) (by first | decide | (show _ ≤ (0 : Nat); omega)) ?_
    exact hQ.bad (k := 0) ho h (m0.th (Mr.O (Ks := KS) (Rs := RS) (by decide)) (fun _ z => z) (fun _ z => z)) (zO_sOs _ _ _ _)
  refine zW_iload_n dX10_magnusCoefficient_5 rfl ?_
  refine zcS1 dX10_magnusCoefficient_6 rfl eX10_isRegister b1492 ⟨by decide, by decide, by decide, by decide⟩ rfl (Nat.le_of_ble_eq_true rfl) (r_isRegister ir (fun g => ?_) (fun g => ?_))
  · have hw := h0.rw g
    have hb := r8b g
    have hl := hw.2.1
    have rk4 := ao.1.1.2
    refine zW_if_eq (tgt := 28) dX10_magnusCoefficient_9 (by decide) (by first | assumption | omega | (unfold InR; omega) | (unfold InL; omega) | (simp only [InR] at *; omega)) (fun q => ?_) (fun q => ?_)
    · exact absurd q (by decide)
    · refine zW_aload_n dX10_magnusCoefficient_12 rfl ?_
      refine zW_iload_n dX10_magnusCoefficient_13 rfl ?_
      refine zcV1 dX10_magnusCoefficient_14 rfl eX10_isGenerator b1537 ⟨by decide, by decide, by decide, by decide⟩ rfl a0.1.1 rfl (by decide) (Nat.le_of_ble_eq_true rfl) (r_isGenerator a0 ia h0.rk ao.1.1.2 (fun k => ?_) (fun k => ?_))
      · refine zW_if_eq (tgt := 28) dX10_magnusCoefficient_17 (by decide) (by first | assumption | omega | (unfold InR; omega) | (unfold InL; omega) | (simp only [InR] at *; omega)) (fun q2 => ?_) (fun q2 => ?_)
        · exact absurd q2 (by decide)
        · refine zW_aload_n dX10_magnusCoefficient_20 rfl ?_
          refine zW_iload_n dX10_magnusCoefficient_21 rfl ?_
          refine zcV1 dX10_magnusCoefficient_22 rfl eX10_isGenerator b1537 ⟨by decide, by decide, by decide, by decide⟩ rfl a0.1.1 rfl (by decide) (Nat.le_of_ble_eq_true rfl) (r_isGenerator a0 ib h0.rk ao.1.1.2 (fun k2 => ?_) (fun k2 => ?_))
          · refine zW_if_ne (tgt := 34) dX10_magnusCoefficient_25 (by decide) (by first | assumption | omega | (unfold InR; omega) | (unfold InL; omega) | (simp only [InR] at *; omega)) (fun q3 => ?_) (fun q3 => ?_)
            · refine zW_aload_n dX10_magnusCoefficient_34 rfl ?_
              refine zW_iload_n dX10_magnusCoefficient_35 rfl ?_
              refine zcS1 dX10_magnusCoefficient_36 rfl eX10_register b1455 ⟨by decide, by decide, by decide, by decide⟩ rfl (Nat.le_of_ble_eq_true rfl) (r_register g ?_)
              refine zcV1 dX10_magnusCoefficient_39 rfl eX10_expands b1602 ⟨by decide, by decide, by decide, by decide⟩ rfl a0.1.1 rfl (by decide) (Nat.le_of_ble_eq_true rfl) (r_expands a0 hw hb (fun σ1 hf m1 => ?_))
              have k1 := a0.1.mr m1
              have m01 : Mr σ σ1 y KS RS := m0.th m1 (by decide) (by decide)
              have t1 : zO σ1 y 0 = 0 := by rw [m1.o (by decide)]; exact t0
              have m2 : mof 2 = 5 := by decide
              refine zW_aload_n dX10_magnusCoefficient_42 rfl ?_
              refine zgP dX10_magnusCoefficient_43 fX10_27 k1.1 rfl k1.p_magnus ?_
              refine zW_iconst dX10_magnusCoefficient_46 ?_
              refine zcS1 dX10_magnusCoefficient_47 rfl eX10_offset b1613 ⟨by decide, by decide, by decide, by decide⟩ rfl (Nat.le_of_ble_eq_true rfl) (r_offset (d := 2) (by omega) ?_)
              refine zW_iconst dX10_magnusCoefficient_50 ?_
              refine zW_iload_n dX10_magnusCoefficient_51 rfl ?_
              refine zW_imul dX10_magnusCoefficient_52 ?_
              refine zW_iadd dX10_magnusCoefficient_53 ?_
              refine zW_iload_n dX10_magnusCoefficient_54 rfl ?_
              refine zW_iadd dX10_magnusCoefficient_55 ?_
              refine zrJ dX10_magnusCoefficient_56 k1.k_magnus (by first | assumption | omega | (unfold InR; omega) | (unfold InL; omega) | (simp only [InR] at *; omega)) (by first | assumption | omega | (unfold InR; omega) | (unfold InL; omega) | (simp only [InR] at *; omega)) (by first | assumption | omega | (unfold InR; omega) | (unfold InL; omega) | (simp only [InR] at *; omega)) (zix (f := zJ σ1 (y + 6)) (j := 4 * (1 + a.toNat) + 1 + b.toNat) (by omega) (hf _ (by omega))) ?_
              refine zW_l2i dX10_magnusCoefficient_57 ?_
              refine zW_ireturn dX10_magnusCoefficient_58 rfl rfl (by first | decide | (show _ ≤ (0 : Nat); omega)) (by first | decide | (show _ ≤ (0 : Nat); omega)) ?_
              exact hQ.ask (by unfold o_magnusCoefficient; rw [if_pos g, if_pos k, if_pos k2]) h m01 t1
            · exact absurd q3 (by decide)
          · refine zW_if_ne (tgt := 34) dX10_magnusCoefficient_25 (by decide) (by first | assumption | omega | (unfold InR; omega) | (unfold InL; omega) | (simp only [InR] at *; omega)) (fun q3 => ?_) (fun q3 => ?_)
            · exact absurd rfl q3
            · exact bd (by unfold o_magnusCoefficient; rw [if_pos g, if_pos k, if_neg k2])
      · refine zW_if_eq (tgt := 28) dX10_magnusCoefficient_17 (by decide) (by first | assumption | omega | (unfold InR; omega) | (unfold InL; omega) | (simp only [InR] at *; omega)) (fun q2 => ?_) (fun q2 => ?_)
        · exact bd (by unfold o_magnusCoefficient; rw [if_pos g, if_neg k])
        · exact absurd rfl q2
  · refine zW_if_eq (tgt := 28) dX10_magnusCoefficient_9 (by decide) (by first | assumption | omega | (unfold InR; omega) | (unfold InL; omega) | (simp only [InR] at *; omega)) (fun q => ?_) (fun q => ?_)
    · exact bd (by unfold o_magnusCoefficient; rw [if_neg g])
    · exact absurd rfl q
set_option maxRecDepth 100000 in
theorem q_magnusNorm {r d : Int} (h : RI σ y A) (ir : InR r) (id : InR d) (hQ : RQJ σ y (o_magnusNorm A r d) Q) : zM Γ mX10_magnusNorm [vR (some y), vI r, vI d] σ Q := by
  refine zM_of (n := 0) (by decide +kernel) rfl rfl rfl ?_
  refine zW_aload_n dX10_magnusNorm_0 rfl ?_
  refine zW_iconst dX10_magnusNorm_1 ?_
  refine zpI dX10_magnusNorm_2 fX10_75 h.1.1 rfl (Or.inl rfl) (zst_int _) ?_
  have m0 : Mr σ (sO σ y 0 0) y KS RS := Mr.O (by decide)
  have h0 := h.mr m0
  have t0 : zO (sO σ y 0 0) y 0 = 0 := zO_sOs _ _ _ _
  generalize sO σ y 0 0 = σ0 at m0 h0 t0 ⊢
  have a0 : RA σ0 y 0 := h0.ra
  refine zW_iload_n dX10_magnusNorm_5 rfl ?_
  refine zcS1 dX10_magnusNorm_6 rfl eX10_isRegister b1492 ⟨by decide, by decide, by decide, by decide⟩ rfl (Nat.le_of_ble_eq_true rfl) (r_isRegister ir (fun g => ?_) (fun g => ?_))
  · have hw := h0.rw g
    have hb := r8b g
    have hl := hw.2.1
    have bd : ¬ (0 ≤ d ∧ d ≤ 4) → zW Γ mX10_magnusNorm 28 [some (vR (some y)), some (vI r), some (vI d)] [] σ0 0 0 Q := by
      intro hd
      refine zW_aload_n dX10_magnusNorm_28 rfl ?_
      refine zW_iconst dX10_magnusNorm_29 ?_
      refine zcV1 dX10_magnusNorm_30 rfl eX10_fails b1371 ⟨by decide, by decide, by decide, by decide⟩ rfl a0.1.1 rfl (by decide) (Nat.le_of_ble_eq_true rfl) (r_fails a0.1 ?_)
      refine zW_i2l dX10_magnusNorm_33 (by first | assumption | omega | (unfold InR; omega) | (unfold InL; omega) | (simp only [InR] at *; omega)) ?_
      refine zW_lreturn dX10_magnusNorm_34 rfl (by first | decide | (show _ ≤ (0 : Nat); omega)) (by first | decide | (show _ ≤ (0 : Nat); omega)) ?_
      exact hQ.bad (k := 1) (by unfold o_magnusNorm; rw [if_pos g, if_neg hd]) h (m0.th (Mr.O (Ks := KS) (Rs := RS) (by decide)) (fun _ z => z) (fun _ z => z)) (zO_sOs _ _ _ _)
    refine zW_if_ne (tgt := 19) dX10_magnusNorm_9 (by decide) (by first | assumption | omega | (unfold InR; omega) | (unfold InL; omega) | (simp only [InR] at *; omega)) (fun q => ?_) (fun q => ?_)
    · refine zW_iload_n dX10_magnusNorm_19 rfl ?_
      refine zW_if_lt (tgt := 28) dX10_magnusNorm_20 (by decide) (by first | assumption | omega | (unfold InR; omega) | (unfold InL; omega) | (simp only [InR] at *; omega)) (fun q2 => ?_) (fun q2 => ?_)
      · exact bd (by omega)
      · refine zW_iload_n dX10_magnusNorm_23 rfl ?_
        refine zW_iconst dX10_magnusNorm_24 ?_
        refine zW_icmp_le (tgt := 35) dX10_magnusNorm_25 (by decide) (by first | assumption | omega | (unfold InR; omega) | (unfold InL; omega) | (simp only [InR] at *; omega)) (by first | assumption | omega | (unfold InR; omega) | (unfold InL; omega) | (simp only [InR] at *; omega)) (fun q3 => ?_) (fun q3 => ?_)
        · refine zW_aload_n dX10_magnusNorm_35 rfl ?_
          refine zW_iload_n dX10_magnusNorm_36 rfl ?_
          refine zcS1 dX10_magnusNorm_37 rfl eX10_register b1455 ⟨by decide, by decide, by decide, by decide⟩ rfl (Nat.le_of_ble_eq_true rfl) (r_register g ?_)
          refine zcV1 dX10_magnusNorm_40 rfl eX10_expands b1602 ⟨by decide, by decide, by decide, by decide⟩ rfl a0.1.1 rfl (by decide) (Nat.le_of_ble_eq_true rfl) (r_expands a0 hw hb (fun σ1 hf m1 => ?_))
          have k1 := a0.1.mr m1
          have m01 : Mr σ σ1 y KS RS := m0.th m1 (by decide) (by decide)
          have t1 : zO σ1 y 0 = 0 := by rw [m1.o (by decide)]; exact t0
          have ed : d = ((d.toNat : Nat) : Int) := by omega
          have hn : ∀ R, R (.inl (some (vJ (mnm (reg A r) d.toNat : Nat)))) σ1 → zM Γ mX10_normOf [vR (some y), vI d] σ1 R := fun R hR => by
            have := r_normOf (Γ := Γ) (Q := R) k1 hf (d := d.toNat) (by omega) (fun j hj => mgx_in hl hj) hR
            rw [← ed] at this
            exact this
          refine zW_aload_n dX10_magnusNorm_43 rfl ?_
          refine zW_iload_n dX10_magnusNorm_44 rfl ?_
          refine zcV1 dX10_magnusNorm_45 rfl eX10_normOf b1620 ⟨by decide, by decide, by decide, by decide⟩ rfl k1.1 rfl (by decide) (Nat.le_of_ble_eq_true rfl) (hn _ ?_)
          refine zW_lreturn dX10_magnusNorm_48 rfl (by first | decide | (show _ ≤ (0 : Nat); omega)) (by first | decide | (show _ ≤ (0 : Nat); omega)) ?_
          exact hQ.ask (by unfold o_magnusNorm; rw [if_pos g, if_pos (by omega)]) h m01 t1
        · exact bd (by omega)
    · exact absurd q (by decide)
  · refine zW_if_ne (tgt := 19) dX10_magnusNorm_9 (by decide) (by first | assumption | omega | (unfold InR; omega) | (unfold InL; omega) | (simp only [InR] at *; omega)) (fun q => ?_) (fun q => ?_)
    · exact absurd rfl q
    · refine zW_aload_n dX10_magnusNorm_12 rfl ?_
      refine zW_iconst dX10_magnusNorm_13 ?_
      refine zcV1 dX10_magnusNorm_14 rfl eX10_fails b1371 ⟨by decide, by decide, by decide, by decide⟩ rfl a0.1.1 rfl (by decide) (Nat.le_of_ble_eq_true rfl) (r_fails a0.1 ?_)
      refine zW_i2l dX10_magnusNorm_17 (by first | assumption | omega | (unfold InR; omega) | (unfold InL; omega) | (simp only [InR] at *; omega)) ?_
      refine zW_lreturn dX10_magnusNorm_18 rfl (by first | decide | (show _ ≤ (0 : Nat); omega)) (by first | decide | (show _ ≤ (0 : Nat); omega)) ?_
      exact hQ.bad (k := 0) (by unfold o_magnusNorm; rw [if_neg g]) h (m0.th (Mr.O (Ks := KS) (Rs := RS) (by decide)) (fun _ z => z) (fun _ z => z)) (zO_sOs _ _ _ _)
end RMAG
