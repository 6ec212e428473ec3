/-! Magnus -/
def MK (σ : HS) (p : Nat) : Prop := zK σ p = (5, 0) ∧ zP σ p 0 = some (p + 1) ∧ zK σ (p + 1) = (14, 341)
def MD (σ : HS) (p : Nat) (f : Nat → Int) : Prop := MK σ p ∧ ∀ j, j < 341 → zJ σ (p + 1) j = f j
set_option maxRecDepth 100000 in
theorem MK.md {σ σ' : HS} {p : Nat} {P : Nat → Prop} (m : Md σ σ' P) (h : MK σ p) : MK σ' p := by
  unfold MK at *
  rw [m.K, m.P]
  exact h
section MAGNUS
variable {Γ : GG} {σ : HS} {Q : Res → HS → Prop} {p : Nat} {f : Nat → Int}
set_option maxRecDepth 100000 in
theorem m_multiplyBy {g : Nat} (h : MD σ p f) (hg : g < 4) (hQ : ∀ σ', MD σ' p (mgm g f) → Md σ σ' (fun a => a = p + 1) → Q (.inl none) σ') : zM Γ mX5_multiplyBy [vR (some p), vI g] σ Q := by
  obtain ⟨⟨h0, h1, h2⟩, hf⟩ := id h
  refine zM_of (n := 1) (by decide +kernel) rfl rfl rfl ?_
  have loop : ∀ n σ1, n ≤ 85 → Md σ σ1 (fun a => a = p + 1) → (∀ j, j < 341 → zJ σ1 (p + 1) j = if (1 ≤ j ∧ (j - 1) % 4 = g) ∧ n ≤ (j - 1) / 4 then f j + f ((j - 1) / 4) else f j) → zW Γ mX5_multiplyBy 3 [some (vR (some p)), some (vI g), some (vI ((n : Int) - 1))] [] σ1 0 0 Q := by
    intro n
    induction n with
    | zero =>
      intro σ1 hn m1 hv
      refine zW_iload_n dX5_multiplyBy_3 rfl ?_
      refine zW_if_lt (tgt := 34) dX5_multiplyBy_4 (by decide) (by first | assumption | omega | (unfold InR; omega) | (unfold InL; omega) | (simp only [InR] at *; omega)) (fun q => ?_) (fun q => ?_)
      · refine zW_return dX5_multiplyBy_34 rfl (by first | decide | (show _ ≤ (0 : Nat); omega)) (by first | decide | (show _ ≤ (0 : Nat); omega)) ?_
        refine hQ _ ⟨h.1.md m1, fun j hj => ?_⟩ m1
        rw [hv j hj]
        unfold mgm
        by_cases e : 1 ≤ j ∧ (j - 1) % 4 = g
        · rw [if_pos ⟨e, Nat.zero_le _⟩, if_pos e]
        · rw [if_neg (fun z => e z.1), if_neg e]
      · exact absurd q (by omega)
    | succ n ih =>
      intro σ1 hn m1 hv
      obtain ⟨k0, k1, k2⟩ := h.1.md m1
      have v1 := hv (4 * n + 1 + g) (by omega)
      have v2 := hv n (by omega)
      rw [if_neg (by omega)] at v1 v2
      have e9 : ((n + 1 : Nat) : Int) - 1 = (n : Int) := by omega
      rw [e9]
      refine zW_iload_n dX5_multiplyBy_3 rfl ?_
      refine zW_if_lt (tgt := 34) dX5_multiplyBy_4 (by decide) (by first | assumption | omega | (unfold InR; omega) | (unfold InL; omega) | (simp only [InR] at *; omega)) (fun q => ?_) (fun q => ?_)
      · exact absurd q (by omega)
      · refine zW_aload_n dX5_multiplyBy_7 rfl ?_
        refine zgP dX5_multiplyBy_8 fX5_11 k0 rfl k1 ?_
        refine zW_iconst dX5_multiplyBy_11 ?_
        refine zW_iload_n dX5_multiplyBy_12 rfl ?_
        refine zW_imul dX5_multiplyBy_13 ?_
        refine zW_iconst dX5_multiplyBy_14 ?_
        refine zW_iadd dX5_multiplyBy_15 ?_
        refine zW_iload_n dX5_multiplyBy_16 rfl ?_
        refine zW_iadd dX5_multiplyBy_17 ?_
        refine zW_dup2 dX5_multiplyBy_18 rfl rfl ?_
        refine zrJ dX5_multiplyBy_19 k2 (by first | assumption | omega | (unfold InR; omega) | (unfold InL; omega) | (simp only [InR] at *; omega)) (by first | assumption | omega | (unfold InR; omega) | (unfold InL; omega) | (simp only [InR] at *; omega)) (by first | assumption | omega | (unfold InR; omega) | (unfold InL; omega) | (simp only [InR] at *; omega)) (zix (f := zJ σ1 (p + 1)) (j := 4 * n + 1 + g) (by omega) v1) ?_
        refine zW_aload_n dX5_multiplyBy_20 rfl ?_
        refine zgP dX5_multiplyBy_21 fX5_11 k0 rfl k1 ?_
        refine zW_iload_n dX5_multiplyBy_24 rfl ?_
        refine zrJ dX5_multiplyBy_25 k2 (by first | assumption | omega | (unfold InR; omega) | (unfold InL; omega) | (simp only [InR] at *; omega)) (by first | assumption | omega | (unfold InR; omega) | (unfold InL; omega) | (simp only [InR] at *; omega)) (by first | assumption | omega | (unfold InR; omega) | (unfold InL; omega) | (simp only [InR] at *; omega)) v2 ?_
        refine zW_ladd dX5_multiplyBy_26 ?_
        refine zW_last dX5_multiplyBy_27 k2 (by first | assumption | omega | (unfold InR; omega) | (unfold InL; omega) | (simp only [InR] at *; omega)) (by first | assumption | omega | (unfold InR; omega) | (unfold InL; omega) | (simp only [InR] at *; omega)) (by first | assumption | omega | (unfold InR; omega) | (unfold InL; omega) | (simp only [InR] at *; omega)) ?_
        refine zW_iinc dX5_multiplyBy_28 rfl (by decide) rfl rfl ?_
        refine zW_goto (tgt := 3) dX5_multiplyBy_31 (by decide) ?_
        refine ih _ (by omega) (m1.tr (Md.J (P := fun z => z = p + 1) rfl) (fun _ z => z)) (fun j hj => ?_)
        rw [zJ_sJ]
        by_cases e : j = 4 * n + 1 + g
        · rw [if_pos ⟨rfl, by omega⟩, if_pos (by omega), e, show (4 * n + 1 + g - 1) / 4 = n by omega]
        · rw [if_neg (fun z => e (by omega)), hv j hj]
          by_cases e2 : (1 ≤ j ∧ (j - 1) % 4 = g) ∧ n + 1 ≤ (j - 1) / 4
          · rw [if_pos e2, if_pos (by omega)]
          · rw [if_neg e2, if_neg (by omega)]
  refine zW_bipush dX5_multiplyBy_0 (by decide) ?_
  refine zW_istore_n dX5_multiplyBy_2 (by decide) rfl rfl ?_
  exact loop 85 σ (Nat.le_refl _) Md.rf (fun j hj => by rw [if_neg (by omega)]; exact hf j hj)
set_option maxRecDepth 100000 in
theorem m_divideBy {g : Nat} (h : MD σ p f) (hg : g < 4) (hQ : ∀ σ', MD σ' p (mgd g f) → Md σ σ' (fun a => a = p + 1) → Q (.inl none) σ') : zM Γ mX5_divideBy [vR (some p), vI g] σ Q := by
  obtain ⟨⟨h0, h1, h2⟩, hf⟩ := id h
  refine zM_of (n := 1) (by decide +kernel) rfl rfl rfl ?_
  have loop : ∀ n i σ1, i + n = 85 → Md σ σ1 (fun a => a = p + 1) → (∀ j, j < 341 → zJ σ1 (p + 1) j = if (1 ≤ j ∧ (j - 1) % 4 = g) ∧ (j - 1) / 4 < i then mgd g f j else f j) → zW Γ mX5_divideBy 2 [some (vR (some p)), some (vI g), some (vI i)] [] σ1 0 0 Q := by
    intro n
    induction n with
    | zero =>
      intro i σ1 hi m1 hv
      refine zW_iload_n dX5_divideBy_2 rfl ?_
      refine zW_bipush dX5_divideBy_3 (by decide) ?_
      refine zW_icmp_ge (tgt := 35) dX5_divideBy_5 (by decide) (by first | assumption | omega | (unfold InR; omega) | (unfold InL; omega) | (simp only [InR] at *; omega)) (by first | assumption | omega | (unfold InR; omega) | (unfold InL; omega) | (simp only [InR] at *; omega)) (fun q => ?_) (fun q => ?_)
      · refine zW_return dX5_divideBy_35 rfl (by first | decide | (show _ ≤ (0 : Nat); omega)) (by first | decide | (show _ ≤ (0 : Nat); omega)) ?_
        refine hQ _ ⟨h.1.md m1, fun j hj => ?_⟩ m1
        rw [hv j hj]
        by_cases e : 1 ≤ j ∧ (j - 1) % 4 = g
        · rw [if_pos ⟨e, by omega⟩]
        · rw [if_neg (fun z => e z.1), mgd_eq, if_neg e]
      · exact absurd q (by omega)
    | succ n ih =>
      intro i σ1 hi m1 hv
      obtain ⟨k0, k1, k2⟩ := h.1.md m1
      have v1 := hv (4 * i + 1 + g) (by omega)
      have v2 := hv i (by omega)
      rw [if_neg (by omega)] at v1
      have v3 : zJ σ1 (p + 1) i = mgd g f i := by
        rw [v2]
        by_cases e : 1 ≤ i ∧ (i - 1) % 4 = g
        · rw [if_pos ⟨e, by omega⟩]
        · rw [if_neg (fun z => e z.1), mgd_eq, if_neg e]
      refine zW_iload_n dX5_divideBy_2 rfl ?_
      refine zW_bipush dX5_divideBy_3 (by decide) ?_
      refine zW_icmp_ge (tgt := 35) dX5_divideBy_5 (by decide) (by first | assumption | omega | (unfold InR; omega) | (unfold InL; omega) | (simp only [InR] at *; omega)) (by first | assumption | omega | (unfold InR; omega) | (unfold InL; omega) | (simp only [InR] at *; omega)) (fun q => ?_) (fun q => ?_)
      · exact absurd q (by omega)
      · refine zW_aload_n dX5_divideBy_8 rfl ?_
        refine zgP dX5_divideBy_9 fX5_11 k0 rfl k1 ?_
        refine zW_iconst dX5_divideBy_12 ?_
        refine zW_iload_n dX5_divideBy_13 rfl ?_
        refine zW_imul dX5_divideBy_14 ?_
        refine zW_iconst dX5_divideBy_15 ?_
        refine zW_iadd dX5_divideBy_16 ?_
        refine zW_iload_n dX5_divideBy_17 rfl ?_
        refine zW_iadd dX5_divideBy_18 ?_
        refine zW_dup2 dX5_divideBy_19 rfl rfl ?_
        refine zrJ dX5_divideBy_20 k2 (by first | assumption | omega | (unfold InR; omega) | (unfold InL; omega) | (simp only [InR] at *; omega)) (by first | assumption | omega | (unfold InR; omega) | (unfold InL; omega) | (simp only [InR] at *; omega)) (by first | assumption | omega | (unfold InR; omega) | (unfold InL; omega) | (simp only [InR] at *; omega)) (zix (f := zJ σ1 (p + 1)) (j := 4 * i + 1 + g) (by omega) v1) ?_
        refine zW_aload_n dX5_divideBy_21 rfl ?_
        refine zgP dX5_divideBy_22 fX5_11 k0 rfl k1 ?_
        refine zW_iload_n dX5_divideBy_25 rfl ?_
        refine zrJ dX5_divideBy_26 k2 (by first | assumption | omega | (unfold InR; omega) | (unfold InL; omega) | (simp only [InR] at *; omega)) (by first | assumption | omega | (unfold InR; omega) | (unfold InL; omega) | (simp only [InR] at *; omega)) (by first | assumption | omega | (unfold InR; omega) | (unfold InL; omega) | (simp only [InR] at *; omega)) v3 ?_
        refine zW_lsub dX5_divideBy_27 ?_
        refine zW_last dX5_divideBy_28 k2 (by first | assumption | omega | (unfold InR; omega) | (unfold InL; omega) | (simp only [InR] at *; omega)) (by first | assumption | omega | (unfold InR; omega) | (unfold InL; omega) | (simp only [InR] at *; omega)) (by first | assumption | omega | (unfold InR; omega) | (unfold InL; omega) | (simp only [InR] at *; omega)) ?_
        refine zW_iinc dX5_divideBy_29 rfl (by decide) rfl rfl ?_
        refine zW_goto (tgt := 2) dX5_divideBy_32 (by decide) ?_
        refine ih (i + 1) _ (by omega) (m1.tr (Md.J (P := fun z => z = p + 1) rfl) (fun _ z => z)) (fun j hj => ?_)
        rw [zJ_sJ]
        by_cases e : j = 4 * i + 1 + g
        · rw [if_pos ⟨rfl, by omega⟩, if_pos (by omega), mgd_eq g f j, if_pos (by omega), e, show (4 * i + 1 + g - 1) / 4 = i by omega]
        · rw [if_neg (fun z => e (by omega)), hv j hj]
          by_cases e2 : (1 ≤ j ∧ (j - 1) % 4 = g) ∧ (j - 1) / 4 < i
          · rw [if_pos e2, if_pos (by omega)]
          · rw [if_neg e2, if_neg (by omega)]
  refine zW_iconst dX5_divideBy_0 ?_
  refine zW_istore_n dX5_divideBy_1 (by decide) rfl rfl ?_
  exact loop 85 0 σ rfl Md.rf (fun j hj => by rw [if_neg (by omega)]; exact hf j hj)
set_option maxRecDepth 100000 in
theorem m_expand {w c cap : Nat} {l : List Nat} (h : MK σ p) (hw : Wd σ w c cap l) (hd : w ≠ p + 1 ∧ c ≠ p + 1) (hQ : ∀ σ', MD σ' p (mgx l) → Md σ σ' (fun a => a = p + 1) → Q (.inl none) σ') : zM Γ mX5_expand [vR (some p), vR (some w)] σ Q := by
  obtain ⟨h0, h1, h2⟩ := id h
  have hc9 := hw.1.2.2.2
  have hc8 := hw.cap
  refine zM_of (n := 2) (by decide +kernel) rfl rfl rfl ?_
  have loop : ∀ n i σ1, i + n = l.length → Md σ σ1 (fun a => a = p + 1) → MD σ1 p (mgx (l.take i)) → ∀ z, zW Γ mX5_expand 17 [some (vR (some p)), some (vR (some w)), some (vI i), z] [] σ1 0 0 Q := by
    intro n
    induction n with
    | zero =>
      intro i σ1 hi m1 hv z
      have hw1 := hw.md m1 hd.1 hd.2
      refine zW_iload_n dX5_expand_17 rfl ?_
      refine zW_aload_n dX5_expand_18 rfl ?_
      refine zgI dX5_expand_19 fX5_21 hw1.1.1 rfl hw1.2.1 ?_
      refine zW_icmp_ge (tgt := 65) dX5_expand_22 (by decide) (by first | assumption | omega | (unfold InR; omega) | (unfold InL; omega) | (simp only [InR] at *; omega)) (by first | assumption | omega | (unfold InR; omega) | (unfold InL; omega) | (simp only [InR] at *; omega)) (fun q => ?_) (fun q => ?_)
      · refine zW_return dX5_expand_65 rfl (by first | decide | (show _ ≤ (0 : Nat); omega)) (by first | decide | (show _ ≤ (0 : Nat); omega)) ?_
        rw [List.take_of_length_le (by omega)] at hv
        exact hQ _ hv m1
      · exact absurd q (by omega)
    | succ n ih =>
      intro i σ1 hi m1 hv z
      have hw1 := hw.md m1 hd.1 hd.2
      have hx := getD_lt hw.lt (i := i) (by omega)
      have e : l.take (i + 1) = l.take i ++ [l.getD i 0] := by
        rw [List.take_add_one, List.getD_eq_getElem?_getD, List.getElem?_eq_getElem (by omega)]
        rfl
      have e7 := mgx_app (l.take i) (l.getD i 0)
      rw [← e] at e7
      refine zW_iload_n dX5_expand_17 rfl ?_
      refine zW_aload_n dX5_expand_18 rfl ?_
      refine zgI dX5_expand_19 fX5_21 hw1.1.1 rfl hw1.2.1 ?_
      refine zW_icmp_ge (tgt := 65) dX5_expand_22 (by decide) (by first | assumption | omega | (unfold InR; omega) | (unfold InL; omega) | (simp only [InR] at *; omega)) (by first | assumption | omega | (unfold InR; omega) | (unfold InL; omega) | (simp only [InR] at *; omega)) (fun q => ?_) (fun q => ?_)
      · exact absurd q (by omega)
      · refine zW_aload_n dX5_expand_25 rfl ?_
        refine zgP dX5_expand_26 fX5_27 hw1.1.1 rfl hw1.1.2.1 ?_
        refine zW_iload_n dX5_expand_29 rfl ?_
        refine zrI dX5_expand_30 hw1.1.2.2.1 (by first | assumption | omega | (unfold InR; omega) | (unfold InL; omega) | (simp only [InR] at *; omega)) (by first | assumption | omega | (unfold InR; omega) | (unfold InL; omega) | (simp only [InR] at *; omega)) (by first | assumption | omega | (unfold InR; omega) | (unfold InL; omega) | (simp only [InR] at *; omega)) (hw1.2.2.2.1 i (by omega)) ?_
        refine zW_iconst dX5_expand_31 ?_
        refine zW_idiv dX5_expand_32 (by first | assumption | omega | (unfold InR; omega) | (unfold InL; omega) | (simp only [InR] at *; omega)) (by first | assumption | omega | (unfold InR; omega) | (unfold InL; omega) | (simp only [InR] at *; omega)) (by first | assumption | omega | (unfold InR; omega) | (unfold InL; omega) | (simp only [InR] at *; omega)) (by first | assumption | omega | (unfold InR; omega) | (unfold InL; omega) | (simp only [InR] at *; omega)) ?_
        refine zW_istore_n dX5_expand_33 (by decide) rfl rfl ?_
        refine zW_aload_n dX5_expand_34 rfl ?_
        refine zgP dX5_expand_35 fX5_27 hw1.1.1 rfl hw1.1.2.1 ?_
        refine zW_iload_n dX5_expand_38 rfl ?_
        refine zrI dX5_expand_39 hw1.1.2.2.1 (by first | assumption | omega | (unfold InR; omega) | (unfold InL; omega) | (simp only [InR] at *; omega)) (by first | assumption | omega | (unfold InR; omega) | (unfold InL; omega) | (simp only [InR] at *; omega)) (by first | assumption | omega | (unfold InR; omega) | (unfold InL; omega) | (simp only [InR] at *; omega)) (hw1.2.2.2.1 i (by omega)) ?_
        refine zcSN1 dX5_expand_40 rfl eX9_isInverse (host := RX9) (by decide +kernel) ⟨by decide, by decide, by decide, by decide⟩ rfl (Nat.le_of_ble_eq_true rfl) (x_isInverse (by omega) ?_)
        have e5 : ((l.getD i 0 : Nat) : Int) / 2 = ((l.getD i 0 / 2 : Nat) : Int) := rfl
        rw [e5]
        refine zW_if_eq (tgt := 54) dX5_expand_43 (by decide) (by first | assumption | omega | (unfold InR; omega) | (unfold InL; omega) | (simp only [InR] at *; omega)) (fun q2 => ?_) (fun q2 => ?_)
        · unfold mg1 at e7
          rw [if_pos (by omega)] at e7
          refine zW_aload_n dX5_expand_54 rfl ?_
          refine zW_iload_n dX5_expand_55 rfl ?_
          refine zcV1 dX5_expand_56 rfl eX5_multiplyBy b919 ⟨by decide, by decide, by decide, by decide⟩ rfl hv.1.1 rfl (by decide) (Nat.le_of_ble_eq_true rfl) (m_multiplyBy hv (by omega) (fun σ2 hv2 m2 => ?_))
          refine zW_iinc dX5_expand_59 rfl (by decide) rfl rfl ?_
          refine zW_goto (tgt := 17) dX5_expand_62 (by decide) ?_
          rw [← e7] at hv2
          exact ih (i + 1) σ2 (by omega) (m1.tr m2 (fun _ q => q)) hv2 _
        · unfold mg1 at e7
          rw [if_neg (by omega)] at e7
          refine zW_aload_n dX5_expand_46 rfl ?_
          refine zW_iload_n dX5_expand_47 rfl ?_
          refine zcV1 dX5_expand_48 rfl eX5_divideBy b915 ⟨by decide, by decide, by decide, by decide⟩ rfl hv.1.1 rfl (by decide) (Nat.le_of_ble_eq_true rfl) (m_divideBy hv (by omega) (fun σ2 hv2 m2 => ?_))
          refine zW_goto (tgt := 59) dX5_expand_51 (by decide) ?_
          refine zW_iinc dX5_expand_59 rfl (by decide) rfl rfl ?_
          refine zW_goto (tgt := 17) dX5_expand_62 (by decide) ?_
          rw [← e7] at hv2
          exact ih (i + 1) σ2 (by omega) (m1.tr m2 (fun _ q => q)) hv2 _
  refine zW_aload_n dX5_expand_0 rfl ?_
  refine zgP dX5_expand_1 fX5_11 (by assumption) rfl (by assumption) ?_
  refine zW_lconst dX5_expand_4 (z := 0) (by decide) ?_
  refine zcS2 dX5_expand_5 rfl eJ7_fill_d0a16 b911 ⟨by decide, by decide, by decide, by decide⟩ rfl (Nat.le_of_ble_eq_true rfl) (j_fillJ h2 (by omega) (fun σ2 hv2 m2 => ?_))
  obtain ⟨k0, k1, k2⟩ := h.md m2
  refine zW_aload_n dX5_expand_8 rfl ?_
  refine zgP dX5_expand_9 fX5_11 (by assumption) rfl (by assumption) ?_
  refine zW_iconst dX5_expand_12 ?_
  refine zW_lconst dX5_expand_13 (z := 1) (by decide) ?_
  refine zW_last dX5_expand_14 k2 (by first | assumption | omega | (unfold InR; omega) | (unfold InL; omega) | (simp only [InR] at *; omega)) (by first | assumption | omega | (unfold InR; omega) | (unfold InL; omega) | (simp only [InR] at *; omega)) (by first | assumption | omega | (unfold InR; omega) | (unfold InL; omega) | (simp only [InR] at *; omega)) ?_
  refine zW_iconst dX5_expand_15 ?_
  refine zW_istore_n dX5_expand_16 (by decide) rfl rfl ?_
  refine loop l.length 0 _ (by omega) (m2.tr (Md.J (P := fun z => z = p + 1) rfl) (fun _ q => q)) ⟨⟨k0, k1, k2⟩, fun j hj => ?_⟩ _
  show zJ (sJ σ2 (p + 1) 0 1) (p + 1) j = mg0 j
  unfold mg0
  rw [zJ_sJ]
  by_cases e : j = 0
  · rw [if_pos ⟨rfl, e⟩, if_pos e]
  · rw [if_neg (fun z => e z.2), if_neg e]
    exact hv2 j hj
set_option maxRecDepth 100000 in
theorem m_norm {d : Nat} (h : MD σ p f) (hd : d < 5) (hb : ∀ j, j < 341 → (f j).natAbs ≤ 13845841) (hQ : Q (.inl (some (vJ (mnr f (mof d) (mp4 d) : Nat)))) σ) : zM Γ mX5_norm [vR (some p), vI d] σ Q := by
  obtain ⟨⟨h0, h1, h2⟩, hf⟩ := id h
  have hd9 := mof_le d hd
  refine zM_of (n := 5) (by decide +kernel) rfl rfl rfl ?_
  have loop2 : ∀ n i, i + n = mp4 d → zW Γ mX5_norm 33 [some (vR (some p)), some (vI d), some (vI (mof d)), some (vI (mp4 d)), some (vJ (mnr f (mof d) i : Nat)), none, some (vI (mof d + i : Nat))] [] σ 0 0 Q := by
    intro n
    induction n with
    | zero =>
      intro i hi
      refine zW_iload dX5_norm_33 rfl ?_
      refine zW_iload_n dX5_norm_35 rfl ?_
      refine zW_iload_n dX5_norm_36 rfl ?_
      refine zW_iadd dX5_norm_37 ?_
      refine zW_icmp_ge (tgt := 70) dX5_norm_38 (by decide) (by first | assumption | omega | (unfold InR; omega) | (unfold InL; omega) | (simp only [InR] at *; omega)) (by first | assumption | omega | (unfold InR; omega) | (unfold InL; omega) | (simp only [InR] at *; omega)) (fun q => ?_) (fun q => ?_)
      · refine zW_lload dX5_norm_70 rfl ?_
        refine zW_lreturn dX5_norm_72 rfl (by first | decide | (show _ ≤ (0 : Nat); omega)) (by first | decide | (show _ ≤ (0 : Nat); omega)) ?_
        rw [show mp4 d = i by omega] at hQ
        exact hQ
      · exact absurd q (by omega)
    | succ n ih =>
      intro i hi
      have hbi := hb (mof d + i) (by omega)
      refine zW_iload dX5_norm_33 rfl ?_
      refine zW_iload_n dX5_norm_35 rfl ?_
      refine zW_iload_n dX5_norm_36 rfl ?_
      refine zW_iadd dX5_norm_37 ?_
      refine zW_icmp_ge (tgt := 70) dX5_norm_38 (by decide) (by first | assumption | omega | (unfold InR; omega) | (unfold InL; omega) | (simp only [InR] at *; omega)) (by first | assumption | omega | (unfold InR; omega) | (unfold InL; omega) | (simp only [InR] at *; omega)) (fun q => ?_) (fun q => ?_)
      · exact absurd q (by omega)
      · refine zW_iload dX5_norm_41 rfl ?_
        refine zW_sipush dX5_norm_43 (by decide) ?_
        refine zW_icmp_ge (tgt := 70) dX5_norm_46 (by decide) (by first | assumption | omega | (unfold InR; omega) | (unfold InL; omega) | (simp only [InR] at *; omega)) (by first | assumption | omega | (unfold InR; omega) | (unfold InL; omega) | (simp only [InR] at *; omega)) (fun q2 => ?_) (fun q2 => ?_)
        · exact absurd q2 (by omega)
        · have e1 : ((mnr f (mof d) i : Nat) : Int) + (if 0 < f (mof d + i) then f (mof d + i) else -f (mof d + i)) = ((mnr f (mof d) (i + 1) : Nat) : Int) := by
            show _ = (((mnr f (mof d) i + (f (mof d + i)).natAbs : Nat)) : Int)
            split <;> omega
          refine zW_lload dX5_norm_49 rfl ?_
          refine zW_aload_n dX5_norm_51 rfl ?_
          refine zgP dX5_norm_52 fX5_11 (by assumption) rfl (by assumption) ?_
          refine zW_iload dX5_norm_55 rfl ?_
          refine zrJ dX5_norm_57 h2 (by first | assumption | omega | (unfold InR; omega) | (unfold InL; omega) | (simp only [InR] at *; omega)) (by first | assumption | omega | (unfold InR; omega) | (unfold InL; omega) | (simp only [InR] at *; omega)) (by first | assumption | omega | (unfold InR; omega) | (unfold InL; omega) | (simp only [InR] at *; omega)) (hf (mof d + i) (by omega)) ?_
          refine zW_mabsL dX5_norm_58 (by first | assumption | omega | (unfold InR; omega) | (unfold InL; omega) | (simp only [InR] at *; omega)) b927 b928 b4 b929 (Nat.le_of_ble_eq_true rfl) (Nat.le_of_ble_eq_true rfl) (Nat.le_of_ble_eq_true rfl) (Nat.le_of_ble_eq_true rfl) ?_
          refine zW_ladd dX5_norm_61 ?_
          rw [e1]
          refine zW_lstore dX5_norm_62 (by decide) rfl rfl ?_
          refine zW_iinc dX5_norm_64 rfl (by decide) rfl rfl ?_
          refine zW_goto (tgt := 33) dX5_norm_67 (by decide) ?_
          exact ih (i + 1) (by omega)
  have loop : ∀ n i, i + n = d → zW Γ mX5_norm 7 [some (vR (some p)), some (vI d), some (vI (mof i)), some (vI (mp4 i)), some (vI i), none, none] [] σ 0 0 Q := by
    intro n
    induction n with
    | zero =>
      intro i hi
      refine zW_iload dX5_norm_7 rfl ?_
      refine zW_iload_n dX5_norm_9 rfl ?_
      refine zW_icmp_ge (tgt := 27) dX5_norm_10 (by decide) (by first | assumption | omega | (unfold InR; omega) | (unfold InL; omega) | (simp only [InR] at *; omega)) (by first | assumption | omega | (unfold InR; omega) | (unfold InL; omega) | (simp only [InR] at *; omega)) (fun q => ?_) (fun q => ?_)
      · refine zW_lconst dX5_norm_27 (z := 0) (by decide) ?_
        refine zW_lstore dX5_norm_28 (by decide) rfl rfl ?_
        refine zW_iload_n dX5_norm_30 rfl ?_
        refine zW_istore dX5_norm_31 (by decide) rfl rfl ?_
        rw [show i = d by omega]
        exact loop2 (mp4 d) 0 (by omega)
      · exact absurd q (by omega)
    | succ n ih =>
      intro i hi
      refine zW_iload dX5_norm_7 rfl ?_
      refine zW_iload_n dX5_norm_9 rfl ?_
      refine zW_icmp_ge (tgt := 27) dX5_norm_10 (by decide) (by first | assumption | omega | (unfold InR; omega) | (unfold InL; omega) | (simp only [InR] at *; omega)) (by first | assumption | omega | (unfold InR; omega) | (unfold InL; omega) | (simp only [InR] at *; omega)) (fun q => ?_) (fun q => ?_)
      · exact absurd q (by omega)
      · refine zW_iload_n dX5_norm_13 rfl ?_
        refine zW_iload_n dX5_norm_14 rfl ?_
        refine zW_iadd dX5_norm_15 ?_
        refine zW_istore_n dX5_norm_16 (by decide) rfl rfl ?_
        refine zW_iload_n dX5_norm_17 rfl ?_
        refine zW_iconst dX5_norm_18 ?_
        refine zW_imul dX5_norm_19 ?_
        refine zW_istore_n dX5_norm_20 (by decide) rfl rfl ?_
        refine zW_iinc dX5_norm_21 rfl (by decide) rfl rfl ?_
        refine zW_goto (tgt := 7) dX5_norm_24 (by decide) ?_
        exact ih (i + 1) (by omega)
  refine zW_iconst dX5_norm_0 ?_
  refine zW_istore_n dX5_norm_1 (by decide) rfl rfl ?_
  refine zW_iconst dX5_norm_2 ?_
  refine zW_istore_n dX5_norm_3 (by decide) rfl rfl ?_
  refine zW_iconst dX5_norm_4 ?_
  refine zW_istore dX5_norm_5 (by decide) rfl rfl ?_
  exact loop d 0 (by omega)
set_option maxRecDepth 100000 in
theorem m_quadratic {a b : Nat} (h : MD σ p f) (ha : a < 4) (hb : b < 4) (hQ : Q (.inl (some (vI (f (4 * (1 + a) + 1 + b))))) σ) : zM Γ mX5_quadraticCoefficient [vR (some p), vI a, vI b] σ Q := by
  obtain ⟨⟨h0, h1, h2⟩, hf⟩ := id h
  refine zM_of (n := 0) (by decide +kernel) rfl rfl rfl ?_
  refine zW_aload_n dX5_quadraticCoefficient_0 rfl ?_
  refine zgP dX5_quadraticCoefficient_1 fX5_11 (by assumption) rfl (by assumption) ?_
  refine zW_iconst dX5_quadraticCoefficient_4 ?_
  refine zW_iconst dX5_quadraticCoefficient_5 ?_
  refine zW_iload_n dX5_quadraticCoefficient_6 rfl ?_
  refine zW_iadd dX5_quadraticCoefficient_7 ?_
  refine zW_imul dX5_quadraticCoefficient_8 ?_
  refine zW_iconst dX5_quadraticCoefficient_9 ?_
  refine zW_iadd dX5_quadraticCoefficient_10 ?_
  refine zW_iload_n dX5_quadraticCoefficient_11 rfl ?_
  refine zW_iadd dX5_quadraticCoefficient_12 ?_
  refine zrJ dX5_quadraticCoefficient_13 (by assumption) (by first | assumption | omega | (unfold InR; omega) | (unfold InL; omega) | (simp only [InR] at *; omega)) (by first | assumption | omega | (unfold InR; omega) | (unfold InL; omega) | (simp only [InR] at *; omega)) (by first | assumption | omega | (unfold InR; omega) | (unfold InL; omega) | (simp only [InR] at *; omega)) (zix (f := zJ σ (p + 1)) (j := 4 * (1 + a) + 1 + b) (by omega) (hf _ (by omega))) ?_
  refine zW_l2i dX5_quadraticCoefficient_14 ?_
  refine zW_ireturn dX5_quadraticCoefficient_15 rfl rfl (by first | decide | (show _ ≤ (0 : Nat); omega)) (by first | decide | (show _ ≤ (0 : Nat); omega)) ?_
  exact hQ
end MAGNUS
