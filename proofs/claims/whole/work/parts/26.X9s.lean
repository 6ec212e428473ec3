/-! the statics of the calculator, the library's fill -/
section STATICS
variable {Γ : GG} {σ : HS} {Q : Res → HS → Prop}
set_option maxRecDepth 100000 in
theorem x_isInverse {x : Nat} (hx : x < 256) (hQ : Q (.inl (some (vI (x % 2 : Nat)))) σ) : zM Γ mX9_isInverse [vI x] σ Q := by
  refine zM_of (n := 0) (by decide +kernel) rfl rfl rfl ?_
  refine zW_iload_n dX9_isInverse_0 rfl ?_
  refine zW_iconst dX9_isInverse_1 ?_
  refine zW_iand1 dX9_isInverse_2 hx ?_
  refine zW_if_eq (tgt := 10) dX9_isInverse_3 (by decide) (by first | assumption | omega | (unfold InR; omega) | (unfold InL; omega) | (simp only [InR] at *; omega)) (fun q => ?_) (fun q => ?_)
  · refine zW_iconst dX9_isInverse_10 ?_
    refine zW_ireturn dX9_isInverse_11 rfl rfl (by first | decide | (show _ ≤ (0 : Nat); omega)) (by first | decide | (show _ ≤ (0 : Nat); omega)) ?_
    have e : x % 2 = 0 := by omega
    rw [e] at hQ
    exact hQ
  · refine zW_iconst dX9_isInverse_6 ?_
    refine zW_goto (tgt := 11) dX9_isInverse_7 (by decide) ?_
    refine zW_ireturn dX9_isInverse_11 rfl rfl (by first | decide | (show _ ≤ (0 : Nat); omega)) (by first | decide | (show _ ≤ (0 : Nat); omega)) ?_
    have e : x % 2 = 1 := by omega
    rw [e] at hQ
    exact hQ
set_option maxRecDepth 100000 in
theorem x_letterOfCode {x : Nat} (hx : x < 8) (hQ : Q (.inl (some (vI (lco x : Nat)))) σ) : zM Γ mX9_letterOfCode [vI x] σ Q := by
  refine zM_of (n := 0) (by decide +kernel) rfl rfl rfl ?_
  have hl := lco_lt hx
  refine zW_iload_n dX9_letterOfCode_0 rfl ?_
  refine zcS1 dX9_letterOfCode_1 rfl eX9_isInverse b738 ⟨by decide, by decide, by decide, by decide⟩ rfl (Nat.le_of_ble_eq_true rfl) (x_isInverse (by omega) ?_)
  refine zW_if_eq (tgt := 12) dX9_letterOfCode_4 (by decide) (by first | assumption | omega | (unfold InR; omega) | (unfold InL; omega) | (simp only [InR] at *; omega)) (fun q => ?_) (fun q => ?_)
  · have e : ((97 : Int) + ((x : Int) / 2)) = ((lco x : Nat) : Int) := by unfold lco; rw [if_pos (by omega)]; omega
    refine zW_bipush dX9_letterOfCode_12 (by decide) ?_
    refine zW_iload_n dX9_letterOfCode_14 rfl ?_
    refine zW_iconst dX9_letterOfCode_15 ?_
    refine zW_idiv dX9_letterOfCode_16 (by first | assumption | omega | (unfold InR; omega) | (unfold InL; omega) | (simp only [InR] at *; omega)) (by first | assumption | omega | (unfold InR; omega) | (unfold InL; omega) | (simp only [InR] at *; omega)) (by first | assumption | omega | (unfold InR; omega) | (unfold InL; omega) | (simp only [InR] at *; omega)) (by first | assumption | omega | (unfold InR; omega) | (unfold InL; omega) | (simp only [InR] at *; omega)) ?_
    refine zW_iadd dX9_letterOfCode_17 ?_
    refine zW_i2cN dX9_letterOfCode_18 e (by omega) ?_
    refine zW_ireturn dX9_letterOfCode_19 rfl (znc _ (by omega)) (by first | decide | (show _ ≤ (0 : Nat); omega)) (by first | decide | (show _ ≤ (0 : Nat); omega)) ?_
    exact hQ
  · have e : ((65 : Int) + ((x : Int) / 2)) = ((lco x : Nat) : Int) := by unfold lco; rw [if_neg (by omega)]; omega
    refine zW_bipush dX9_letterOfCode_7 (by decide) ?_
    refine zW_goto (tgt := 14) dX9_letterOfCode_9 (by decide) ?_
    refine zW_iload_n dX9_letterOfCode_14 rfl ?_
    refine zW_iconst dX9_letterOfCode_15 ?_
    refine zW_idiv dX9_letterOfCode_16 (by first | assumption | omega | (unfold InR; omega) | (unfold InL; omega) | (simp only [InR] at *; omega)) (by first | assumption | omega | (unfold InR; omega) | (unfold InL; omega) | (simp only [InR] at *; omega)) (by first | assumption | omega | (unfold InR; omega) | (unfold InL; omega) | (simp only [InR] at *; omega)) (by first | assumption | omega | (unfold InR; omega) | (unfold InL; omega) | (simp only [InR] at *; omega)) ?_
    refine zW_iadd dX9_letterOfCode_17 ?_
    refine zW_i2cN dX9_letterOfCode_18 e (by omega) ?_
    refine zW_ireturn dX9_letterOfCode_19 rfl (znc _ (by omega)) (by first | decide | (show _ ≤ (0 : Nat); omega)) (by first | decide | (show _ ≤ (0 : Nat); omega)) ?_
    exact hQ
set_option maxRecDepth 100000 in
theorem x_codeOfByte {y r : Nat} (hy : y < 256) (hr : r ≤ 4) (hQ : Q (.inl (some (vI (cob y r)))) σ) : zM Γ mX9_codeOfByte [vI y, vI r] σ Q := by
  refine zM_of (n := 0) (by decide +kernel) rfl rfl rfl ?_
  have snd : ¬ (97 ≤ y ∧ y < 97 + r) → zW Γ mX9_codeOfByte 21 [some (vI y), some (vI r)] [] σ 0 0 Q := by
    intro h1
    unfold cob at hQ
    rw [if_neg h1] at hQ
    refine zW_iload_n dX9_codeOfByte_21 rfl ?_
    refine zW_bipush dX9_codeOfByte_22 (by decide) ?_
    refine zW_icmp_lt (tgt := 44) dX9_codeOfByte_24 (by decide) (by first | assumption | omega | (unfold InR; omega) | (unfold InL; omega) | (simp only [InR] at *; omega)) (by first | assumption | omega | (unfold InR; omega) | (unfold InL; omega) | (simp only [InR] at *; omega)) (fun q => ?_) (fun q => ?_)
    · rw [if_neg (by omega)] at hQ
      refine zW_iconst dX9_codeOfByte_44 ?_
      refine zW_ireturn dX9_codeOfByte_45 rfl rfl (by first | decide | (show _ ≤ (0 : Nat); omega)) (by first | decide | (show _ ≤ (0 : Nat); omega)) ?_
      exact hQ
    · refine zW_iload_n dX9_codeOfByte_27 rfl ?_
      refine zW_bipush dX9_codeOfByte_28 (by decide) ?_
      refine zW_iload_n dX9_codeOfByte_30 rfl ?_
      refine zW_iadd dX9_codeOfByte_31 ?_
      refine zW_icmp_ge (tgt := 44) dX9_codeOfByte_32 (by decide) (by first | assumption | omega | (unfold InR; omega) | (unfold InL; omega) | (simp only [InR] at *; omega)) (by first | assumption | omega | (unfold InR; omega) | (unfold InL; omega) | (simp only [InR] at *; omega)) (fun q2 => ?_) (fun q2 => ?_)
      · rw [if_neg (by omega)] at hQ
        refine zW_iconst dX9_codeOfByte_44 ?_
        refine zW_ireturn dX9_codeOfByte_45 rfl rfl (by first | decide | (show _ ≤ (0 : Nat); omega)) (by first | decide | (show _ ≤ (0 : Nat); omega)) ?_
        exact hQ
      · rw [if_pos (by omega)] at hQ
        refine zW_iconst dX9_codeOfByte_35 ?_
        refine zW_iload_n dX9_codeOfByte_36 rfl ?_
        refine zW_bipush dX9_codeOfByte_37 (by decide) ?_
        refine zW_isub dX9_codeOfByte_39 ?_
        refine zW_imul dX9_codeOfByte_40 ?_
        refine zW_iconst dX9_codeOfByte_41 ?_
        refine zW_iadd dX9_codeOfByte_42 ?_
        refine zW_ireturn dX9_codeOfByte_43 rfl rfl (by first | decide | (show _ ≤ (0 : Nat); omega)) (by first | decide | (show _ ≤ (0 : Nat); omega)) ?_
        exact hQ
  refine zW_iload_n dX9_codeOfByte_0 rfl ?_
  refine zW_bipush dX9_codeOfByte_1 (by decide) ?_
  refine zW_icmp_lt (tgt := 21) dX9_codeOfByte_3 (by decide) (by first | assumption | omega | (unfold InR; omega) | (unfold InL; omega) | (simp only [InR] at *; omega)) (by first | assumption | omega | (unfold InR; omega) | (unfold InL; omega) | (simp only [InR] at *; omega)) (fun q => ?_) (fun q => ?_)
  · exact snd (by omega)
  · refine zW_iload_n dX9_codeOfByte_6 rfl ?_
    refine zW_bipush dX9_codeOfByte_7 (by decide) ?_
    refine zW_iload_n dX9_codeOfByte_9 rfl ?_
    refine zW_iadd dX9_codeOfByte_10 ?_
    refine zW_icmp_ge (tgt := 21) dX9_codeOfByte_11 (by decide) (by first | assumption | omega | (unfold InR; omega) | (unfold InL; omega) | (simp only [InR] at *; omega)) (by first | assumption | omega | (unfold InR; omega) | (unfold InL; omega) | (simp only [InR] at *; omega)) (fun q2 => ?_) (fun q2 => ?_)
    · exact snd (by omega)
    · unfold cob at hQ
      rw [if_pos (by omega)] at hQ
      refine zW_iconst dX9_codeOfByte_14 ?_
      refine zW_iload_n dX9_codeOfByte_15 rfl ?_
      refine zW_bipush dX9_codeOfByte_16 (by decide) ?_
      refine zW_isub dX9_codeOfByte_18 ?_
      refine zW_imul dX9_codeOfByte_19 ?_
      refine zW_ireturn dX9_codeOfByte_20 rfl rfl (by first | decide | (show _ ≤ (0 : Nat); omega)) (by first | decide | (show _ ≤ (0 : Nat); omega)) ?_
      exact hQ
set_option maxRecDepth 100000 in
theorem x_prefixLength {w c cap v b cap' : Nat} {l m : List Nat} (h : Wd σ w c cap l) (h' : Wd σ v b cap' m) (hQ : Q (.inl (some (vI (cpf l m : Nat)))) σ) : zM Γ mX9_prefixLength [vR (some w), vR (some v)] σ Q := by
  obtain ⟨⟨hw, hc, hcc, hcap⟩, hlen, hle, hget, hlt⟩ := id h
  obtain ⟨⟨kw, kc, kcc, kcap⟩, klen, kle, kget, klt⟩ := id h'
  refine zM_of (n := 2) (by decide +kernel) rfl rfl rfl ?_
  have e9 : min (l.length : Int) (m.length : Int) = ((min l.length m.length : Nat) : Int) := by omega
  have loop : ∀ n i, i + n = min l.length m.length → cpfF l m n i = cpf l m → zW Γ mX9_prefixLength 14 [some (vR (some w)), some (vR (some v)), some (vI (min l.length m.length : Nat)), some (vI i)] [] σ 0 0 Q := by
    intro n
    induction n with
    | zero =>
      intro i hi he
      refine zW_iload_n dX9_prefixLength_14 rfl ?_
      refine zW_iload_n dX9_prefixLength_15 rfl ?_
      refine zW_icmp_ge (tgt := 42) dX9_prefixLength_16 (by decide) (by first | assumption | omega | (unfold InR; omega) | (unfold InL; omega) | (simp only [InR] at *; omega)) (by first | assumption | omega | (unfold InR; omega) | (unfold InL; omega) | (simp only [InR] at *; omega)) (fun q => ?_) (fun q => ?_)
      · refine zW_iload_n dX9_prefixLength_42 rfl ?_
        refine zW_ireturn dX9_prefixLength_43 rfl rfl (by first | decide | (show _ ≤ (0 : Nat); omega)) (by first | decide | (show _ ≤ (0 : Nat); omega)) ?_
        rw [← he] at hQ
        have e : min l.length m.length = i := by omega
        rw [e]
        exact hQ
      · exact absurd q (by omega)
    | succ n ih =>
      intro i hi he
      have he' : (if l.getD i 0 = m.getD i 0 then cpfF l m n (i + 1) else i) = cpf l m := he
      have b1 := getD_lt hlt (i := i) (by omega)
      have b2 := getD_lt klt (i := i) (by omega)
      refine zW_iload_n dX9_prefixLength_14 rfl ?_
      refine zW_iload_n dX9_prefixLength_15 rfl ?_
      refine zW_icmp_ge (tgt := 42) dX9_prefixLength_16 (by decide) (by first | assumption | omega | (unfold InR; omega) | (unfold InL; omega) | (simp only [InR] at *; omega)) (by first | assumption | omega | (unfold InR; omega) | (unfold InL; omega) | (simp only [InR] at *; omega)) (fun q => ?_) (fun q => ?_)
      · exact absurd q (by omega)
      · refine zW_aload_n dX9_prefixLength_19 rfl ?_
        refine zgP dX9_prefixLength_20 fX9_146 hw rfl hc ?_
        refine zW_iload_n dX9_prefixLength_23 rfl ?_
        refine zrI dX9_prefixLength_24 hcc (by first | assumption | omega | (unfold InR; omega) | (unfold InL; omega) | (simp only [InR] at *; omega)) (by first | assumption | omega | (unfold InR; omega) | (unfold InL; omega) | (simp only [InR] at *; omega)) (by first | assumption | omega | (unfold InR; omega) | (unfold InL; omega) | (simp only [InR] at *; omega)) (hget i (by omega)) ?_
        refine zW_aload_n dX9_prefixLength_25 rfl ?_
        refine zgP dX9_prefixLength_26 fX9_146 kw rfl kc ?_
        refine zW_iload_n dX9_prefixLength_29 rfl ?_
        refine zrI dX9_prefixLength_30 kcc (by first | assumption | omega | (unfold InR; omega) | (unfold InL; omega) | (simp only [InR] at *; omega)) (by first | assumption | omega | (unfold InR; omega) | (unfold InL; omega) | (simp only [InR] at *; omega)) (by first | assumption | omega | (unfold InR; omega) | (unfold InL; omega) | (simp only [InR] at *; omega)) (kget i (by omega)) ?_
        refine zW_icmp_eq (tgt := 36) dX9_prefixLength_31 (by decide) (by first | assumption | omega | (unfold InR; omega) | (unfold InL; omega) | (simp only [InR] at *; omega)) (by first | assumption | omega | (unfold InR; omega) | (unfold InL; omega) | (simp only [InR] at *; omega)) (fun q2 => ?_) (fun q2 => ?_)
        · refine zW_iinc dX9_prefixLength_36 rfl (by decide) rfl rfl ?_
          refine zW_goto (tgt := 14) dX9_prefixLength_39 (by decide) ?_
          rw [if_pos (by omega)] at he'
          exact ih (i + 1) (by omega) he'
        · refine zW_iload_n dX9_prefixLength_34 rfl ?_
          refine zW_ireturn dX9_prefixLength_35 rfl rfl (by first | decide | (show _ ≤ (0 : Nat); omega)) (by first | decide | (show _ ≤ (0 : Nat); omega)) ?_
          rw [if_neg (by omega)] at he'
          rw [← he'] at hQ
          exact hQ
  refine zW_aload_n dX9_prefixLength_0 rfl ?_
  refine zgI dX9_prefixLength_1 fX9_139 hw rfl hlen ?_
  refine zW_aload_n dX9_prefixLength_4 rfl ?_
  refine zgI dX9_prefixLength_5 fX9_139 kw rfl klen ?_
  refine zW_mmin dX9_prefixLength_8 (by first | assumption | omega | (unfold InR; omega) | (unfold InL; omega) | (simp only [InR] at *; omega)) (by first | assumption | omega | (unfold InR; omega) | (unfold InL; omega) | (simp only [InR] at *; omega)) b752 b452 b4 b453 (Nat.le_of_ble_eq_true rfl) (Nat.le_of_ble_eq_true rfl) (Nat.le_of_ble_eq_true rfl) (Nat.le_of_ble_eq_true rfl) ?_
  rw [e9]
  refine zW_istore_n dX9_prefixLength_11 (by decide) rfl rfl ?_
  refine zW_iconst dX9_prefixLength_12 ?_
  refine zW_istore_n dX9_prefixLength_13 (by decide) rfl rfl ?_
  exact loop _ 0 (by omega) rfl
set_option maxRecDepth 100000 in
theorem x_order {w c cap v b cap' : Nat} {l m : List Nat} (h : Wd σ w c cap l) (h' : Wd σ v b cap' m) (hQ : Q (.inl (some (vI (ordw l m)))) σ) : zM Γ mX9_order [vR (some w), vR (some v)] σ Q := by
  obtain ⟨⟨hw, hc, hcc, hcap⟩, hlen, hle, hget, hlt⟩ := id h
  obtain ⟨⟨kw, kc, kcc, kcap⟩, klen, kle, kget, klt⟩ := id h'
  refine zM_of (n := 1) (by decide +kernel) rfl rfl rfl ?_
  unfold ordw at hQ
  refine zW_aload_n dX9_order_0 rfl ?_
  refine zgI dX9_order_1 fX9_139 hw rfl hlen ?_
  refine zW_aload_n dX9_order_4 rfl ?_
  refine zgI dX9_order_5 fX9_139 kw rfl klen ?_
  refine zW_icmp_eq (tgt := 28) dX9_order_8 (by decide) (by first | assumption | omega | (unfold InR; omega) | (unfold InL; omega) | (simp only [InR] at *; omega)) (by first | assumption | omega | (unfold InR; omega) | (unfold InL; omega) | (simp only [InR] at *; omega)) (fun q => ?_) (fun q => ?_)
  · rw [if_neg (by omega)] at hQ
    have hcp := cpf_le l m
    refine zW_aload_n dX9_order_28 rfl ?_
    refine zW_aload_n dX9_order_29 rfl ?_
    refine zcS2 dX9_order_30 rfl eX9_prefixLength b749 ⟨by decide, by decide, by decide, by decide⟩ rfl (Nat.le_of_ble_eq_true rfl) (x_prefixLength h h' ?_)
    refine zW_istore_n dX9_order_33 (by decide) rfl rfl ?_
    refine zW_iload_n dX9_order_34 rfl ?_
    refine zW_aload_n dX9_order_35 rfl ?_
    refine zgI dX9_order_36 fX9_139 hw rfl hlen ?_
    refine zW_icmp_ne (tgt := 44) dX9_order_39 (by decide) (by first | assumption | omega | (unfold InR; omega) | (unfold InL; omega) | (simp only [InR] at *; omega)) (by first | assumption | omega | (unfold InR; omega) | (unfold InL; omega) | (simp only [InR] at *; omega)) (fun q2 => ?_) (fun q2 => ?_)
    · rw [if_neg (by omega)] at hQ
      have b1 := getD_lt hlt (i := cpf l m) (by omega)
      have b2 := getD_lt klt (i := cpf l m) (by omega)
      refine zW_aload_n dX9_order_44 rfl ?_
      refine zgP dX9_order_45 fX9_146 hw rfl hc ?_
      refine zW_iload_n dX9_order_48 rfl ?_
      refine zrI dX9_order_49 hcc (by first | assumption | omega | (unfold InR; omega) | (unfold InL; omega) | (simp only [InR] at *; omega)) (by first | assumption | omega | (unfold InR; omega) | (unfold InL; omega) | (simp only [InR] at *; omega)) (by first | assumption | omega | (unfold InR; omega) | (unfold InL; omega) | (simp only [InR] at *; omega)) (hget (cpf l m) (by omega)) ?_
      refine zW_aload_n dX9_order_50 rfl ?_
      refine zgP dX9_order_51 fX9_146 kw rfl kc ?_
      refine zW_iload_n dX9_order_54 rfl ?_
      refine zrI dX9_order_55 kcc (by first | assumption | omega | (unfold InR; omega) | (unfold InL; omega) | (simp only [InR] at *; omega)) (by first | assumption | omega | (unfold InR; omega) | (unfold InL; omega) | (simp only [InR] at *; omega)) (by first | assumption | omega | (unfold InR; omega) | (unfold InL; omega) | (simp only [InR] at *; omega)) (kget (cpf l m) (by omega)) ?_
      refine zW_icmp_ge (tgt := 63) dX9_order_56 (by decide) (by first | assumption | omega | (unfold InR; omega) | (unfold InL; omega) | (simp only [InR] at *; omega)) (by first | assumption | omega | (unfold InR; omega) | (unfold InL; omega) | (simp only [InR] at *; omega)) (fun q3 => ?_) (fun q3 => ?_)
      · rw [if_neg (by omega)] at hQ
        refine zW_iconst dX9_order_63 ?_
        refine zW_ireturn dX9_order_64 rfl rfl (by first | decide | (show _ ≤ (0 : Nat); omega)) (by first | decide | (show _ ≤ (0 : Nat); omega)) ?_
        exact hQ
      · rw [if_pos (by omega)] at hQ
        refine zW_iconst dX9_order_59 ?_
        refine zW_goto (tgt := 64) dX9_order_60 (by decide) ?_
        refine zW_ireturn dX9_order_64 rfl rfl (by first | decide | (show _ ≤ (0 : Nat); omega)) (by first | decide | (show _ ≤ (0 : Nat); omega)) ?_
        exact hQ
    · rw [if_pos (by omega)] at hQ
      refine zW_iconst dX9_order_42 ?_
      refine zW_ireturn dX9_order_43 rfl rfl (by first | decide | (show _ ≤ (0 : Nat); omega)) (by first | decide | (show _ ≤ (0 : Nat); omega)) ?_
      exact hQ
  · rw [if_pos (by omega)] at hQ
    refine zW_aload_n dX9_order_11 rfl ?_
    refine zgI dX9_order_12 fX9_139 hw rfl hlen ?_
    refine zW_aload_n dX9_order_15 rfl ?_
    refine zgI dX9_order_16 fX9_139 kw rfl klen ?_
    refine zW_icmp_ge (tgt := 26) dX9_order_19 (by decide) (by first | assumption | omega | (unfold InR; omega) | (unfold InL; omega) | (simp only [InR] at *; omega)) (by first | assumption | omega | (unfold InR; omega) | (unfold InL; omega) | (simp only [InR] at *; omega)) (fun q2 => ?_) (fun q2 => ?_)
    · rw [if_neg (by omega)] at hQ
      refine zW_iconst dX9_order_26 ?_
      refine zW_ireturn dX9_order_27 rfl rfl (by first | decide | (show _ ≤ (0 : Nat); omega)) (by first | decide | (show _ ≤ (0 : Nat); omega)) ?_
      exact hQ
    · rw [if_pos (by omega)] at hQ
      refine zW_iconst dX9_order_22 ?_
      refine zW_goto (tgt := 27) dX9_order_23 (by decide) ?_
      refine zW_ireturn dX9_order_27 rfl rfl (by first | decide | (show _ ≤ (0 : Nat); omega)) (by first | decide | (show _ ≤ (0 : Nat); omega)) ?_
      exact hQ
set_option maxRecDepth 100000 in
theorem x_cancelledPairs {w c cap v b cap' : Nat} {l m : List Nat} (h : Wd σ w c cap l) (h' : Wd σ v b cap' m) (hQ : Q (.inl (some (vI (cnc l m : Nat)))) σ) : zM Γ mX9_cancelledPairs [vR (some w), vR (some v)] σ Q := by
  obtain ⟨⟨hw, hc, hcc, hcap⟩, hlen, hle, hget, hlt⟩ := id h
  obtain ⟨⟨kw, kc, kcc, kcap⟩, klen, kle, kget, klt⟩ := id h'
  refine zM_of (n := 2) (by decide +kernel) rfl rfl rfl ?_
  have e9 : min (l.length : Int) (m.length : Int) = ((min l.length m.length : Nat) : Int) := by omega
  have loop : ∀ n i, i + n = min l.length m.length → cncF l m n i = cnc l m → zW Γ mX9_cancelledPairs 14 [some (vR (some w)), some (vR (some v)), some (vI (min l.length m.length : Nat)), some (vI i)] [] σ 0 0 Q := by
    intro n
    induction n with
    | zero =>
      intro i hi he
      refine zW_iload_n dX9_cancelledPairs_14 rfl ?_
      refine zW_iload_n dX9_cancelledPairs_15 rfl ?_
      refine zW_icmp_ge (tgt := 51) dX9_cancelledPairs_16 (by decide) (by first | assumption | omega | (unfold InR; omega) | (unfold InL; omega) | (simp only [InR] at *; omega)) (by first | assumption | omega | (unfold InR; omega) | (unfold InL; omega) | (simp only [InR] at *; omega)) (fun q => ?_) (fun q => ?_)
      · refine zW_iload_n dX9_cancelledPairs_51 rfl ?_
        refine zW_ireturn dX9_cancelledPairs_52 rfl rfl (by first | decide | (show _ ≤ (0 : Nat); omega)) (by first | decide | (show _ ≤ (0 : Nat); omega)) ?_
        rw [← he] at hQ
        have e : min l.length m.length = i := by omega
        rw [e]
        exact hQ
      · exact absurd q (by omega)
    | succ n ih =>
      intro i hi he
      have he' : (if l.getD (l.length - 1 - i) 0 = m.getD i 0 ^^^ 1 then cncF l m n (i + 1) else i) = cnc l m := he
      have b1 := getD_lt hlt (i := l.length - 1 - i) (by omega)
      have b2 := getD_lt klt (i := i) (by omega)
      have b3 := x1_lt b2
      refine zW_iload_n dX9_cancelledPairs_14 rfl ?_
      refine zW_iload_n dX9_cancelledPairs_15 rfl ?_
      refine zW_icmp_ge (tgt := 51) dX9_cancelledPairs_16 (by decide) (by first | assumption | omega | (unfold InR; omega) | (unfold InL; omega) | (simp only [InR] at *; omega)) (by first | assumption | omega | (unfold InR; omega) | (unfold InL; omega) | (simp only [InR] at *; omega)) (fun q => ?_) (fun q => ?_)
      · exact absurd q (by omega)
      · refine zW_aload_n dX9_cancelledPairs_19 rfl ?_
        refine zgP dX9_cancelledPairs_20 fX9_146 hw rfl hc ?_
        refine zW_aload_n dX9_cancelledPairs_23 rfl ?_
        refine zgI dX9_cancelledPairs_24 fX9_139 hw rfl hlen ?_
        refine zW_iconst dX9_cancelledPairs_27 ?_
        refine zW_isub dX9_cancelledPairs_28 ?_
        refine zW_iload_n dX9_cancelledPairs_29 rfl ?_
        refine zW_isub dX9_cancelledPairs_30 ?_
        refine zrI dX9_cancelledPairs_31 hcc (by first | assumption | omega | (unfold InR; omega) | (unfold InL; omega) | (simp only [InR] at *; omega)) (by first | assumption | omega | (unfold InR; omega) | (unfold InL; omega) | (simp only [InR] at *; omega)) (by first | assumption | omega | (unfold InR; omega) | (unfold InL; omega) | (simp only [InR] at *; omega)) (zix (f := zI σ c) (j := l.length - 1 - i) (by omega) (hget _ (by omega))) ?_
        refine zW_aload_n dX9_cancelledPairs_32 rfl ?_
        refine zgP dX9_cancelledPairs_33 fX9_146 kw rfl kc ?_
        refine zW_iload_n dX9_cancelledPairs_36 rfl ?_
        refine zrI dX9_cancelledPairs_37 kcc (by first | assumption | omega | (unfold InR; omega) | (unfold InL; omega) | (simp only [InR] at *; omega)) (by first | assumption | omega | (unfold InR; omega) | (unfold InL; omega) | (simp only [InR] at *; omega)) (by first | assumption | omega | (unfold InR; omega) | (unfold InL; omega) | (simp only [InR] at *; omega)) (kget i (by omega)) ?_
        refine zW_iconst dX9_cancelledPairs_38 ?_
        refine zW_ixor1 dX9_cancelledPairs_39 b2 ?_
        refine zW_icmp_eq (tgt := 45) dX9_cancelledPairs_40 (by decide) (by first | assumption | omega | (unfold InR; omega) | (unfold InL; omega) | (simp only [InR] at *; omega)) (by first | assumption | omega | (unfold InR; omega) | (unfold InL; omega) | (simp only [InR] at *; omega)) (fun q2 => ?_) (fun q2 => ?_)
        · refine zW_iinc dX9_cancelledPairs_45 rfl (by decide) rfl rfl ?_
          refine zW_goto (tgt := 14) dX9_cancelledPairs_48 (by decide) ?_
          rw [if_pos (by omega)] at he'
          exact ih (i + 1) (by omega) he'
        · refine zW_iload_n dX9_cancelledPairs_43 rfl ?_
          refine zW_ireturn dX9_cancelledPairs_44 rfl rfl (by first | decide | (show _ ≤ (0 : Nat); omega)) (by first | decide | (show _ ≤ (0 : Nat); omega)) ?_
          rw [if_neg (by omega)] at he'
          rw [← he'] at hQ
          exact hQ
  refine zW_aload_n dX9_cancelledPairs_0 rfl ?_
  refine zgI dX9_cancelledPairs_1 fX9_139 hw rfl hlen ?_
  refine zW_aload_n dX9_cancelledPairs_4 rfl ?_
  refine zgI dX9_cancelledPairs_5 fX9_139 kw rfl klen ?_
  refine zW_mmin dX9_cancelledPairs_8 (by first | assumption | omega | (unfold InR; omega) | (unfold InL; omega) | (simp only [InR] at *; omega)) (by first | assumption | omega | (unfold InR; omega) | (unfold InL; omega) | (simp only [InR] at *; omega)) b752 b452 b4 b453 (Nat.le_of_ble_eq_true rfl) (Nat.le_of_ble_eq_true rfl) (Nat.le_of_ble_eq_true rfl) (Nat.le_of_ble_eq_true rfl) ?_
  rw [e9]
  refine zW_istore_n dX9_cancelledPairs_11 (by decide) rfl rfl ?_
  refine zW_iconst dX9_cancelledPairs_12 ?_
  refine zW_istore_n dX9_cancelledPairs_13 (by decide) rfl rfl ?_
  exact loop _ 0 (by omega) rfl
set_option maxRecDepth 100000 in
theorem x_isCoreRotated {w c cap v b cap' s : Nat} {l m : List Nat} (h : Wd σ w c cap l) (h' : Wd σ v b cap' m) (hc9 : crl m = crl l) (hs : s < crl l) (h1 : rotd l m s → Q (.inl (some (vI 1))) σ) (h0 : ¬ rotd l m s → Q (.inl (some (vI 0))) σ) : zM Γ mX9_isCoreRotated [vR (some w), vR (some v), vI s] σ Q := by
  obtain ⟨⟨hw, hc, hcc, hcap⟩, hlen, hle, hget, hlt⟩ := id h
  obtain ⟨⟨kw, kc, kcc, kcap⟩, klen, kle, kget, klt⟩ := id h'
  have hcs := cs_le l
  have hcr : crl l = l.length - 2 * cs l := rfl
  have kcs := cs_le m
  have kcr : crl m = m.length - 2 * cs m := rfl
  refine zM_of (n := 5) (by decide +kernel) rfl rfl rfl ?_
  have loop : ∀ n i, i + n = crl l → (∀ j, j < i → crg l ((j + s) % crl l) = crg m j) → ∀ z, zW Γ mX9_isCoreRotated 20 [some (vR (some w)), some (vR (some v)), some (vI s), some (vI (crl l)), some (vI (cs l)), some (vI (cs m)), some (vI i), z] [] σ 0 0 Q := by
    intro n
    induction n with
    | zero =>
      intro i hi hall z
      refine zW_iload dX9_isCoreRotated_20 rfl ?_
      refine zW_iload_n dX9_isCoreRotated_22 rfl ?_
      refine zW_icmp_ge (tgt := 80) dX9_isCoreRotated_23 (by decide) (by first | assumption | omega | (unfold InR; omega) | (unfold InL; omega) | (simp only [InR] at *; omega)) (by first | assumption | omega | (unfold InR; omega) | (unfold InL; omega) | (simp only [InR] at *; omega)) (fun q => ?_) (fun q => ?_)
      · refine zW_iconst dX9_isCoreRotated_80 ?_
        refine zW_ireturn dX9_isCoreRotated_81 rfl rfl (by first | decide | (show _ ≤ (0 : Nat); omega)) (by first | decide | (show _ ≤ (0 : Nat); omega)) ?_
        exact h1 (fun j hj => hall j (by omega))
      · exact absurd q (by omega)
    | succ n ih =>
      intro i hi hall z
      have key : ∀ f : Int, f = (((i + s) % crl l : Nat) : Int) → zW Γ mX9_isCoreRotated 47 [some (vR (some w)), some (vR (some v)), some (vI s), some (vI (crl l)), some (vI (cs l)), some (vI (cs m)), some (vI i), z] [vI f] σ 0 0 Q := by
        intro f hf
        have hm := Nat.mod_lt (i + s) (show 0 < crl l by omega)
        generalize hj : (i + s) % crl l = j at *
        have e1 := hget (cs l + j) (by omega)
        have e2 := kget (cs m + i) (by omega)
        have b1 := getD_lt hlt (i := cs l + j) (by omega)
        have b2 := getD_lt klt (i := cs m + i) (by omega)
        refine zW_istore dX9_isCoreRotated_47 (by decide) rfl rfl ?_
        refine zW_aload_n dX9_isCoreRotated_49 rfl ?_
        refine zgP dX9_isCoreRotated_50 fX9_146 hw rfl hc ?_
        refine zW_iload dX9_isCoreRotated_53 rfl ?_
        refine zW_iload dX9_isCoreRotated_55 rfl ?_
        refine zW_iadd dX9_isCoreRotated_57 ?_
        refine zrI dX9_isCoreRotated_58 hcc (by first | assumption | omega | (unfold InR; omega) | (unfold InL; omega) | (simp only [InR] at *; omega)) (by first | assumption | omega | (unfold InR; omega) | (unfold InL; omega) | (simp only [InR] at *; omega)) (by first | assumption | omega | (unfold InR; omega) | (unfold InL; omega) | (simp only [InR] at *; omega)) (zix (f := zI σ c) (j := cs l + j) (by omega) e1) ?_
        refine zW_aload_n dX9_isCoreRotated_59 rfl ?_
        refine zgP dX9_isCoreRotated_60 fX9_146 kw rfl kc ?_
        refine zW_iload dX9_isCoreRotated_63 rfl ?_
        refine zW_iload dX9_isCoreRotated_65 rfl ?_
        refine zW_iadd dX9_isCoreRotated_67 ?_
        refine zrI dX9_isCoreRotated_68 kcc (by first | assumption | omega | (unfold InR; omega) | (unfold InL; omega) | (simp only [InR] at *; omega)) (by first | assumption | omega | (unfold InR; omega) | (unfold InL; omega) | (simp only [InR] at *; omega)) (by first | assumption | omega | (unfold InR; omega) | (unfold InL; omega) | (simp only [InR] at *; omega)) (zix (f := zI σ b) (j := cs m + i) (by omega) e2) ?_
        refine zW_icmp_eq (tgt := 74) dX9_isCoreRotated_69 (by decide) (by first | assumption | omega | (unfold InR; omega) | (unfold InL; omega) | (simp only [InR] at *; omega)) (by first | assumption | omega | (unfold InR; omega) | (unfold InL; omega) | (simp only [InR] at *; omega)) (fun q => ?_) (fun q => ?_)
        · refine zW_iinc dX9_isCoreRotated_74 rfl (by decide) rfl rfl ?_
          refine zW_goto (tgt := 20) dX9_isCoreRotated_77 (by decide) ?_
          refine ih (i + 1) (by omega) (fun j' hj' => ?_) _
          by_cases e : j' = i
          · subst e
            rw [hj]
            show l.getD (cs l + j) 0 = m.getD (cs m + j') 0
            omega
          · exact hall j' (by omega)
        · refine zW_iconst dX9_isCoreRotated_72 ?_
          refine zW_ireturn dX9_isCoreRotated_73 rfl rfl (by first | decide | (show _ ≤ (0 : Nat); omega)) (by first | decide | (show _ ≤ (0 : Nat); omega)) ?_
          refine h0 (fun z => q ?_)
          have := z i (by omega)
          rw [hj] at this
          have e : l.getD (cs l + j) 0 = m.getD (cs m + i) 0 := this
          omega
      refine zW_iload dX9_isCoreRotated_20 rfl ?_
      refine zW_iload_n dX9_isCoreRotated_22 rfl ?_
      refine zW_icmp_ge (tgt := 80) dX9_isCoreRotated_23 (by decide) (by first | assumption | omega | (unfold InR; omega) | (unfold InL; omega) | (simp only [InR] at *; omega)) (by first | assumption | omega | (unfold InR; omega) | (unfold InL; omega) | (simp only [InR] at *; omega)) (fun q => ?_) (fun q => ?_)
      · exact absurd q (by omega)
      · refine zW_iload dX9_isCoreRotated_26 rfl ?_
        refine zW_iload_n dX9_isCoreRotated_28 rfl ?_
        refine zW_iadd dX9_isCoreRotated_29 ?_
        refine zW_iload_n dX9_isCoreRotated_30 rfl ?_
        refine zW_icmp_ge (tgt := 41) dX9_isCoreRotated_31 (by decide) (by first | assumption | omega | (unfold InR; omega) | (unfold InL; omega) | (simp only [InR] at *; omega)) (by first | assumption | omega | (unfold InR; omega) | (unfold InL; omega) | (simp only [InR] at *; omega)) (fun q2 => ?_) (fun q2 => ?_)
        · refine zW_iload dX9_isCoreRotated_41 rfl ?_
          refine zW_iload_n dX9_isCoreRotated_43 rfl ?_
          refine zW_iadd dX9_isCoreRotated_44 ?_
          refine zW_iload_n dX9_isCoreRotated_45 rfl ?_
          refine zW_isub dX9_isCoreRotated_46 ?_
          refine key _ ?_
          have : i + s = (i + s - crl l) + crl l := by omega
          rw [this, Nat.add_mod_right, Nat.mod_eq_of_lt (by omega)]
          omega
        · refine zW_iload dX9_isCoreRotated_34 rfl ?_
          refine zW_iload_n dX9_isCoreRotated_36 rfl ?_
          refine zW_iadd dX9_isCoreRotated_37 ?_
          refine zW_goto (tgt := 47) dX9_isCoreRotated_38 (by decide) ?_
          refine key _ ?_
          rw [Nat.mod_eq_of_lt (by omega)]
          omega
  refine zW_aload_n dX9_isCoreRotated_0 rfl ?_
  refine zcV0 dX9_isCoreRotated_1 rfl eX8_lengthOfCore b823 ⟨by decide, by decide, by decide, by decide⟩ rfl hw rfl (by decide) (Nat.le_of_ble_eq_true rfl) (w_lengthOfCore h ?_)
  refine zW_istore_n dX9_isCoreRotated_4 (by decide) rfl rfl ?_
  refine zW_aload_n dX9_isCoreRotated_5 rfl ?_
  refine zcV0 dX9_isCoreRotated_6 rfl eX8_coreStart b838 ⟨by decide, by decide, by decide, by decide⟩ rfl hw rfl (by decide) (Nat.le_of_ble_eq_true rfl) (w_coreStart h ?_)
  refine zW_istore dX9_isCoreRotated_9 (by decide) rfl rfl ?_
  refine zW_aload_n dX9_isCoreRotated_11 rfl ?_
  refine zcV0 dX9_isCoreRotated_12 rfl eX8_coreStart b838 ⟨by decide, by decide, by decide, by decide⟩ rfl kw rfl (by decide) (Nat.le_of_ble_eq_true rfl) (w_coreStart h' ?_)
  refine zW_istore dX9_isCoreRotated_15 (by decide) rfl rfl ?_
  refine zW_iconst dX9_isCoreRotated_17 ?_
  refine zW_istore dX9_isCoreRotated_18 (by decide) rfl rfl ?_
  exact loop (crl l) 0 (by omega) (fun j hj => absurd hj (by omega)) _
set_option maxRecDepth 100000 in
theorem x_smallestRotation {w c cap v b cap' : Nat} {l m : List Nat} (h : Wd σ w c cap l) (h' : Wd σ v b cap' m) (hQ : Q (.inl (some (vI (srot l m)))) σ) : zM Γ mX9_smallestRotation [vR (some w), vR (some v)] σ Q := by
  obtain ⟨⟨hw, hc, hcc, hcap⟩, hlen, hle, hget, hlt⟩ := id h
  obtain ⟨⟨kw, kc, kcc, kcap⟩, klen, kle, kget, klt⟩ := id h'
  have hcr : crl l = l.length - 2 * cs l := rfl
  have kcr : crl m = m.length - 2 * cs m := rfl
  refine zM_of (n := 2) (by decide +kernel) rfl rfl rfl ?_
  unfold srot at hQ
  refine zW_aload_n dX9_smallestRotation_0 rfl ?_
  refine zcV0 dX9_smallestRotation_1 rfl eX8_lengthOfCore b823 ⟨by decide, by decide, by decide, by decide⟩ rfl hw rfl (by decide) (Nat.le_of_ble_eq_true rfl) (w_lengthOfCore h ?_)
  refine zW_istore_n dX9_smallestRotation_4 (by decide) rfl rfl ?_
  refine zW_aload_n dX9_smallestRotation_5 rfl ?_
  refine zcV0 dX9_smallestRotation_6 rfl eX8_lengthOfCore b823 ⟨by decide, by decide, by decide, by decide⟩ rfl kw rfl (by decide) (Nat.le_of_ble_eq_true rfl) (w_lengthOfCore h' ?_)
  refine zW_iload_n dX9_smallestRotation_9 rfl ?_
  refine zW_icmp_eq (tgt := 15) dX9_smallestRotation_10 (by decide) (by first | assumption | omega | (unfold InR; omega) | (unfold InL; omega) | (simp only [InR] at *; omega)) (by first | assumption | omega | (unfold InR; omega) | (unfold InL; omega) | (simp only [InR] at *; omega)) (fun q => ?_) (fun q => ?_)
  · rw [if_neg (by omega)] at hQ
    refine zW_iload_n dX9_smallestRotation_15 rfl ?_
    refine zW_if_ne (tgt := 21) dX9_smallestRotation_16 (by decide) (by first | assumption | omega | (unfold InR; omega) | (unfold InL; omega) | (simp only [InR] at *; omega)) (fun q2 => ?_) (fun q2 => ?_)
    · rw [if_neg (by omega)] at hQ
      have loop : ∀ n s, s + n = crl l → srF l m n s = srF l m (crl l) 0 → zW Γ mX9_smallestRotation 23 [some (vR (some w)), some (vR (some v)), some (vI (crl l)), some (vI s)] [] σ 0 0 Q := by
        intro n
        induction n with
        | zero =>
          intro s hs he
          refine zW_iload_n dX9_smallestRotation_23 rfl ?_
          refine zW_iload_n dX9_smallestRotation_24 rfl ?_
          refine zW_icmp_ge (tgt := 45) dX9_smallestRotation_25 (by decide) (by first | assumption | omega | (unfold InR; omega) | (unfold InL; omega) | (simp only [InR] at *; omega)) (by first | assumption | omega | (unfold InR; omega) | (unfold InL; omega) | (simp only [InR] at *; omega)) (fun q3 => ?_) (fun q3 => ?_)
          · refine zW_iconst dX9_smallestRotation_45 ?_
            refine zW_ireturn dX9_smallestRotation_46 rfl rfl (by first | decide | (show _ ≤ (0 : Nat); omega)) (by first | decide | (show _ ≤ (0 : Nat); omega)) ?_
            rw [← he] at hQ
            exact hQ
          · exact absurd q3 (by omega)
        | succ n ih =>
          intro s hs he
          have he' : (if rotd l m s then (s : Int) else srF l m n (s + 1)) = srF l m (crl l) 0 := he
          refine zW_iload_n dX9_smallestRotation_23 rfl ?_
          refine zW_iload_n dX9_smallestRotation_24 rfl ?_
          refine zW_icmp_ge (tgt := 45) dX9_smallestRotation_25 (by decide) (by first | assumption | omega | (unfold InR; omega) | (unfold InL; omega) | (simp only [InR] at *; omega)) (by first | assumption | omega | (unfold InR; omega) | (unfold InL; omega) | (simp only [InR] at *; omega)) (fun q3 => ?_) (fun q3 => ?_)
          · exact absurd q3 (by omega)
          · refine zW_aload_n dX9_smallestRotation_28 rfl ?_
            refine zW_aload_n dX9_smallestRotation_29 rfl ?_
            refine zW_iload_n dX9_smallestRotation_30 rfl ?_
            refine zcS3 dX9_smallestRotation_31 rfl eX9_isCoreRotated b849 ⟨by decide, by decide, by decide, by decide⟩ rfl (Nat.le_of_ble_eq_true rfl) (x_isCoreRotated h h' (by omega) (by omega) (fun k => ?_) (fun k => ?_))
            · refine zW_if_eq (tgt := 39) dX9_smallestRotation_34 (by decide) (by first | assumption | omega | (unfold InR; omega) | (unfold InL; omega) | (simp only [InR] at *; omega)) (fun q4 => ?_) (fun q4 => ?_)
              · exact absurd q4 (by decide)
              · refine zW_iload_n dX9_smallestRotation_37 rfl ?_
                refine zW_ireturn dX9_smallestRotation_38 rfl rfl (by first | decide | (show _ ≤ (0 : Nat); omega)) (by first | decide | (show _ ≤ (0 : Nat); omega)) ?_
                rw [if_pos k] at he'
                rw [← he'] at hQ
                exact hQ
            · refine zW_if_eq (tgt := 39) dX9_smallestRotation_34 (by decide) (by first | assumption | omega | (unfold InR; omega) | (unfold InL; omega) | (simp only [InR] at *; omega)) (fun q4 => ?_) (fun q4 => ?_)
              · refine zW_iinc dX9_smallestRotation_39 rfl (by decide) rfl rfl ?_
                refine zW_goto (tgt := 23) dX9_smallestRotation_42 (by decide) ?_
                rw [if_neg k] at he'
                exact ih (s + 1) (by omega) he'
              · exact absurd rfl q4
      refine zW_iconst dX9_smallestRotation_21 ?_
      refine zW_istore_n dX9_smallestRotation_22 (by decide) rfl rfl ?_
      exact loop (crl l) 0 (by omega) rfl
    · rw [if_pos (by omega)] at hQ
      refine zW_iconst dX9_smallestRotation_19 ?_
      refine zW_ireturn dX9_smallestRotation_20 rfl rfl (by first | decide | (show _ ≤ (0 : Nat); omega)) (by first | decide | (show _ ≤ (0 : Nat); omega)) ?_
      exact hQ
  · rw [if_pos (by omega)] at hQ
    refine zW_iconst dX9_smallestRotation_13 ?_
    refine zW_ireturn dX9_smallestRotation_14 rfl rfl (by first | decide | (show _ ≤ (0 : Nat); omega)) (by first | decide | (show _ ≤ (0 : Nat); omega)) ?_
    exact hQ
set_option maxRecDepth 100000 in
theorem j_fillI {a n : Nat} {x : Int} (h : zK σ a = (13, n)) (hn : n ≤ 1000000) (hx : InR x) (hQ : ∀ σ', (∀ j, j < n → zI σ' a j = x) → Md σ σ' (fun q => q = a) → Q (.inl none) σ') : zM Γ mJ7_fill_53178 [vR (some a), vI x] σ Q := by
  refine zM_of (n := 2) (by decide +kernel) rfl rfl rfl ?_
  have loop : ∀ m i σ1, i + m = n → Md σ σ1 (fun q => q = a) → (∀ j, j < i → zI σ1 a j = x) → zW Γ mJ7_fill_53178 5 [some (vR (some a)), some (vI x), some (vI i), some (vI n)] [] σ1 0 0 Q := by
    intro m
    induction m with
    | zero =>
      intro i σ1 hi m1 hall
      refine zW_iload_n dJ7_fill_53178_5 rfl ?_
      refine zW_iload_n dJ7_fill_53178_6 rfl ?_
      refine zW_icmp_ge (tgt := 20) dJ7_fill_53178_7 (by decide) (by first | assumption | omega | (unfold InR; omega) | (unfold InL; omega) | (simp only [InR] at *; omega)) (by first | assumption | omega | (unfold InR; omega) | (unfold InL; omega) | (simp only [InR] at *; omega)) (fun q => ?_) (fun q => ?_)
      · refine zW_return dJ7_fill_53178_20 rfl (by first | decide | (show _ ≤ (0 : Nat); omega)) (by first | decide | (show _ ≤ (0 : Nat); omega)) ?_
        exact hQ _ (fun j hj => hall j (by omega)) m1
      · exact absurd q (by omega)
    | succ m ih =>
      intro i σ1 hi m1 hall
      have k1 : zK σ1 a = (13, n) := by rw [m1.K]; exact h
      refine zW_iload_n dJ7_fill_53178_5 rfl ?_
      refine zW_iload_n dJ7_fill_53178_6 rfl ?_
      refine zW_icmp_ge (tgt := 20) dJ7_fill_53178_7 (by decide) (by first | assumption | omega | (unfold InR; omega) | (unfold InL; omega) | (simp only [InR] at *; omega)) (by first | assumption | omega | (unfold InR; omega) | (unfold InL; omega) | (simp only [InR] at *; omega)) (fun q => ?_) (fun q => ?_)
      · exact absurd q (by omega)
      · refine zW_aload_n dJ7_fill_53178_10 rfl ?_
        refine zW_iload_n dJ7_fill_53178_11 rfl ?_
        refine zW_iload_n dJ7_fill_53178_12 rfl ?_
        refine zW_iast dJ7_fill_53178_13 k1 (by first | assumption | omega | (unfold InR; omega) | (unfold InL; omega) | (simp only [InR] at *; omega)) (by first | assumption | omega | (unfold InR; omega) | (unfold InL; omega) | (simp only [InR] at *; omega)) (by first | assumption | omega | (unfold InR; omega) | (unfold InL; omega) | (simp only [InR] at *; omega)) ?_
        refine zW_iinc dJ7_fill_53178_14 rfl (by decide) rfl rfl ?_
        refine zW_goto (tgt := 5) dJ7_fill_53178_17 (by decide) ?_
        refine ih (i + 1) _ (by omega) (m1.tr (Md.I (P := fun q => q = a) rfl) (fun _ q => q)) (fun j hj => ?_)
        by_cases e : j = i
        · subst e; exact zI_sIs _ _ _ _
        · rw [zI_sIk _ _ _ _ (show j ≠ ((i : Int)).toNat by omega)]; exact hall j (by omega)
  refine zW_iconst dJ7_fill_53178_0 ?_
  refine zW_istore_n dJ7_fill_53178_1 (by decide) rfl rfl ?_
  refine zW_aload_n dJ7_fill_53178_2 rfl ?_
  refine zW_alen dJ7_fill_53178_3 h (by decide) (by decide) ?_
  refine zW_istore_n dJ7_fill_53178_4 (by decide) rfl rfl ?_
  exact loop n 0 σ (by omega) Md.rf (fun j hj => absurd hj (by omega))
set_option maxRecDepth 100000 in
theorem j_fillJ {a n : Nat} {x : Int} (h : zK σ a = (14, n)) (hn : n ≤ 1000000) (hQ : ∀ σ', (∀ j, j < n → zJ σ' a j = x) → Md σ σ' (fun q => q = a) → Q (.inl none) σ') : zM Γ mJ7_fill_d0a16 [vR (some a), vJ x] σ Q := by
  refine zM_of (n := 2) (by decide +kernel) rfl rfl rfl ?_
  have loop : ∀ m i σ1, i + m = n → Md σ σ1 (fun q => q = a) → (∀ j, j < i → zJ σ1 a j = x) → zW Γ mJ7_fill_d0a16 6 [some (vR (some a)), some (vJ x), none, some (vI i), some (vI n)] [] σ1 0 0 Q := by
    intro m
    induction m with
    | zero =>
      intro i σ1 hi m1 hall
      refine zW_iload_n dJ7_fill_d0a16_6 rfl ?_
      refine zW_iload dJ7_fill_d0a16_7 rfl ?_
      refine zW_icmp_ge (tgt := 22) dJ7_fill_d0a16_9 (by decide) (by first | assumption | omega | (unfold InR; omega) | (unfold InL; omega) | (simp only [InR] at *; omega)) (by first | assumption | omega | (unfold InR; omega) | (unfold InL; omega) | (simp only [InR] at *; omega)) (fun q => ?_) (fun q => ?_)
      · refine zW_return dJ7_fill_d0a16_22 rfl (by first | decide | (show _ ≤ (0 : Nat); omega)) (by first | decide | (show _ ≤ (0 : Nat); omega)) ?_
        exact hQ _ (fun j hj => hall j (by omega)) m1
      · exact absurd q (by omega)
    | succ m ih =>
      intro i σ1 hi m1 hall
      have k1 : zK σ1 a = (14, n) := by rw [m1.K]; exact h
      refine zW_iload_n dJ7_fill_d0a16_6 rfl ?_
      refine zW_iload dJ7_fill_d0a16_7 rfl ?_
      refine zW_icmp_ge (tgt := 22) dJ7_fill_d0a16_9 (by decide) (by first | assumption | omega | (unfold InR; omega) | (unfold InL; omega) | (simp only [InR] at *; omega)) (by first | assumption | omega | (unfold InR; omega) | (unfold InL; omega) | (simp only [InR] at *; omega)) (fun q => ?_) (fun q => ?_)
      · exact absurd q (by omega)
      · refine zW_aload_n dJ7_fill_d0a16_12 rfl ?_
        refine zW_iload_n dJ7_fill_d0a16_13 rfl ?_
        refine zW_lload_n dJ7_fill_d0a16_14 rfl ?_
        refine zW_last dJ7_fill_d0a16_15 k1 (by first | assumption | omega | (unfold InR; omega) | (unfold InL; omega) | (simp only [InR] at *; omega)) (by first | assumption | omega | (unfold InR; omega) | (unfold InL; omega) | (simp only [InR] at *; omega)) (by first | assumption | omega | (unfold InR; omega) | (unfold InL; omega) | (simp only [InR] at *; omega)) ?_
        refine zW_iinc dJ7_fill_d0a16_16 rfl (by decide) rfl rfl ?_
        refine zW_goto (tgt := 6) dJ7_fill_d0a16_19 (by decide) ?_
        refine ih (i + 1) _ (by omega) (m1.tr (Md.J (P := fun q => q = a) rfl) (fun _ q => q)) (fun j hj => ?_)
        by_cases e : j = i
        · subst e; exact zJ_sJs _ _ _ _
        · rw [zJ_sJk _ _ _ _ (show j ≠ ((i : Int)).toNat by omega)]; exact hall j (by omega)
  refine zW_iconst dJ7_fill_d0a16_0 ?_
  refine zW_istore_n dJ7_fill_d0a16_1 (by decide) rfl rfl ?_
  refine zW_aload_n dJ7_fill_d0a16_2 rfl ?_
  refine zW_alen dJ7_fill_d0a16_3 h (by decide) (by decide) ?_
  refine zW_istore dJ7_fill_d0a16_4 (by decide) rfl rfl ?_
  exact loop n 0 σ (by omega) Md.rf (fun j hj => absurd hj (by omega))
end STATICS
