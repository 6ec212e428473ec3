/-! the reference: questions about words -/
section RQUEST
variable {Γ : GG} {σ : HS} {Q : Res → HS → Prop} {y : Nat} {A : AA}
set_option maxRecDepth 100000 in
theorem RI.ra (h : RI σ y A) : RA σ y 0 := ⟨h.1, h.2.1, Or.inl rfl⟩
set_option maxRecDepth 100000 in
theorem RI.rw (h : RI σ y A) {r : Int} (hr : inR8 r) : Rw σ y (0 + (1 + 61 * r.toNat)) (reg A r) := by
  have := h.2.2.1.2.1 r.toNat (by unfold inR8 at hr; omega)
  rw [← Nat.add_assoc]
  exact this
set_option maxRecDepth 100000 in
theorem r8b {r : Int} (hr : inR8 r) : 0 + (1 + 61 * r.toNat) + 61 ≤ 13453 := by unfold inR8 at hr; omega
set_option maxRecDepth 100000 in
theorem RI.rk (h : RI σ y A) : zI σ (y + 1) (0 + 0) = (sRk (aSt A) : Int) := h.2.2.1.1
set_option maxRecDepth 100000 in
theorem r_fails {k : Int} (h : RK σ y) (hQ : Q (.inl (some (vI 0))) (sO σ y 0 k)) : zM Γ mX10_fails [vR (some y), vI k] σ Q := by
  refine zM_of (n := 0) (by decide +kernel) rfl rfl rfl ?_
  refine zW_aload_n dX10_fails_0 rfl ?_
  refine zW_iload_n dX10_fails_1 rfl ?_
  refine zpI dX10_fails_2 fX10_75 h.1 rfl (Or.inl rfl) (zst_int _) ?_
  refine zW_iconst dX10_fails_5 ?_
  refine zW_ireturn dX10_fails_6 rfl rfl (by first | decide | (show _ ≤ (0 : Nat); omega)) (by first | decide | (show _ ≤ (0 : Nat); omega)) ?_
  exact hQ
set_option maxRecDepth 100000 in
theorem q_thrown {k : Int} (hk : zK σ y = (10, 0)) (ht : zO σ y 0 = k) (hQ : Q (.inl (some (vI k))) σ) : zM Γ mX10_thrown [vR (some y)] σ Q := by
  refine zM_of (n := 0) (by decide +kernel) rfl rfl rfl ?_
  refine zW_aload_n dX10_thrown_0 rfl ?_
  refine zgI dX10_thrown_1 fX10_75 hk rfl ht ?_
  refine zW_ireturn dX10_thrown_4 rfl rfl (by first | decide | (show _ ≤ (0 : Nat); omega)) (by first | decide | (show _ ≤ (0 : Nat); omega)) ?_
  exact hQ
set_option maxRecDepth 100000 in
theorem q_errorKind (h : RI σ y A) (hQ : RQ σ y (o_errorKind A) Q) : zM Γ mX10_errorKind [vR (some y)] σ Q := by
  refine zM_of (n := 0) (by decide +kernel) rfl rfl rfl ?_
  refine zW_aload_n dX10_errorKind_0 rfl ?_
  refine zW_iconst dX10_errorKind_1 ?_
  refine zpI dX10_errorKind_2 fX10_75 h.1.1 rfl (Or.inl rfl) (zst_int _) ?_
  have m0 : Mr σ (sO σ y 0 0) y KS RS := Mr.O (by decide)
  have h0 := h.mr m0
  have t0 : zO (sO σ y 0 0) y 0 = 0 := zO_sOs _ _ _ _
  generalize sO σ y 0 0 = σ0 at m0 h0 t0 ⊢
  have a0 : RA σ0 y 0 := h0.ra
  refine zW_aload_n dX10_errorKind_5 rfl ?_
  refine zgI dX10_errorKind_6 fX10_284 a0.1.1 rfl h0.2.2.2.2.2.2.1.1 ?_
  refine zW_ireturn dX10_errorKind_9 rfl rfl (by first | decide | (show _ ≤ (0 : Nat); omega)) (by first | decide | (show _ ≤ (0 : Nat); omega)) ?_
  exact hQ.ask rfl h m0 t0
set_option maxRecDepth 100000 in
theorem q_errorPosition (h : RI σ y A) (hQ : RQ σ y (o_errorPosition A) Q) : zM Γ mX10_errorPosition [vR (some y)] σ Q := by
  refine zM_of (n := 0) (by decide +kernel) rfl rfl rfl ?_
  refine zW_aload_n dX10_errorPosition_0 rfl ?_
  refine zW_iconst dX10_errorPosition_1 ?_
  refine zpI dX10_errorPosition_2 fX10_75 h.1.1 rfl (Or.inl rfl) (zst_int _) ?_
  have m0 : Mr σ (sO σ y 0 0) y KS RS := Mr.O (by decide)
  have h0 := h.mr m0
  have t0 : zO (sO σ y 0 0) y 0 = 0 := zO_sOs _ _ _ _
  generalize sO σ y 0 0 = σ0 at m0 h0 t0 ⊢
  have a0 : RA σ0 y 0 := h0.ra
  refine zW_aload_n dX10_errorPosition_5 rfl ?_
  refine zgI dX10_errorPosition_6 fX10_67 a0.1.1 rfl h0.2.2.2.2.2.2.1.2 ?_
  refine zW_ireturn dX10_errorPosition_9 rfl rfl (by first | decide | (show _ ≤ (0 : Nat); omega)) (by first | decide | (show _ ≤ (0 : Nat); omega)) ?_
  exact hQ.ask rfl h m0 t0
set_option maxRecDepth 100000 in
theorem q_groupRank (h : RI σ y A) (hQ : RQ σ y (o_groupRank A) Q) : zM Γ mX10_groupRank [vR (some y)] σ Q := by
  refine zM_of (n := 0) (by decide +kernel) rfl rfl rfl ?_
  refine zW_aload_n dX10_groupRank_0 rfl ?_
  refine zW_iconst dX10_groupRank_1 ?_
  refine zpI dX10_groupRank_2 fX10_75 h.1.1 rfl (Or.inl rfl) (zst_int _) ?_
  have m0 : Mr σ (sO σ y 0 0) y KS RS := Mr.O (by decide)
  have h0 := h.mr m0
  have t0 : zO (sO σ y 0 0) y 0 = 0 := zO_sOs _ _ _ _
  generalize sO σ y 0 0 = σ0 at m0 h0 t0 ⊢
  have a0 : RA σ0 y 0 := h0.ra
  refine zW_aload_n dX10_groupRank_5 rfl ?_
  refine zW_iconst dX10_groupRank_6 ?_
  refine zcV1 dX10_groupRank_7 rfl eX10_get b1443 ⟨by decide, by decide, by decide, by decide⟩ rfl a0.1.1 rfl (by decide) (Nat.le_of_ble_eq_true rfl) (r_get (k := 0) a0 (by omega) h0.rk ?_)
  refine zW_ireturn dX10_groupRank_10 rfl rfl (by first | decide | (show _ ≤ (0 : Nat); omega)) (by first | decide | (show _ ≤ (0 : Nat); omega)) ?_
  exact hQ.ask rfl h m0 t0
set_option maxRecDepth 100000 in
theorem q_wordLength {r : Int} (h : RI σ y A) (ir : InR r) (hQ : RQ σ y (o_wordLength A r) Q) : zM Γ mX10_wordLength [vR (some y), vI r] σ Q := by
  refine zM_of (n := 0) (by decide +kernel) rfl rfl rfl ?_
  refine zW_aload_n dX10_wordLength_0 rfl ?_
  refine zW_iconst dX10_wordLength_1 ?_
  refine zpI dX10_wordLength_2 fX10_75 h.1.1 rfl (Or.inl rfl) (zst_int _) ?_
  have m0 : Mr σ (sO σ y 0 0) y KS RS := Mr.O (by decide)
  have h0 := h.mr m0
  have t0 : zO (sO σ y 0 0) y 0 = 0 := zO_sOs _ _ _ _
  generalize sO σ y 0 0 = σ0 at m0 h0 t0 ⊢
  have a0 : RA σ0 y 0 := h0.ra
  refine zW_iload_n dX10_wordLength_5 rfl ?_
  refine zcS1 dX10_wordLength_6 rfl eX10_isRegister b1492 ⟨by decide, by decide, by decide, by decide⟩ rfl (Nat.le_of_ble_eq_true rfl) (r_isRegister ir (fun g => ?_) (fun g => ?_))
  · have hw := h0.rw g
    have hb := r8b g
    have hl := hw.2.1
    refine zW_if_eq (tgt := 23) dX10_wordLength_9 (by decide) (by first | assumption | omega | (unfold InR; omega) | (unfold InL; omega) | (simp only [InR] at *; omega)) (fun q => ?_) (fun q => ?_)
    · exact absurd q (by decide)
    · refine zW_aload_n dX10_wordLength_12 rfl ?_
      refine zW_iload_n dX10_wordLength_13 rfl ?_
      refine zcS1 dX10_wordLength_14 rfl eX10_register b1455 ⟨by decide, by decide, by decide, by decide⟩ rfl (Nat.le_of_ble_eq_true rfl) (r_register g ?_)
      refine zcV1 dX10_wordLength_17 rfl eX10_get b1443 ⟨by decide, by decide, by decide, by decide⟩ rfl a0.1.1 rfl (by decide) (Nat.le_of_ble_eq_true rfl) (r_get a0 (by omega) hw.1 ?_)
      refine zW_goto (tgt := 28) dX10_wordLength_20 (by decide) ?_
      refine zW_ireturn dX10_wordLength_28 rfl rfl (by first | decide | (show _ ≤ (0 : Nat); omega)) (by first | decide | (show _ ≤ (0 : Nat); omega)) ?_
      exact hQ.ask (if_pos g) h m0 t0
  · refine zW_if_eq (tgt := 23) dX10_wordLength_9 (by decide) (by first | assumption | omega | (unfold InR; omega) | (unfold InL; omega) | (simp only [InR] at *; omega)) (fun q => ?_) (fun q => ?_)
    · refine zW_aload_n dX10_wordLength_23 rfl ?_
      refine zW_iconst dX10_wordLength_24 ?_
      refine zcV1 dX10_wordLength_25 rfl eX10_fails b1371 ⟨by decide, by decide, by decide, by decide⟩ rfl a0.1.1 rfl (by decide) (Nat.le_of_ble_eq_true rfl) (r_fails a0.1 ?_)
      refine zW_ireturn dX10_wordLength_28 rfl rfl (by first | decide | (show _ ≤ (0 : Nat); omega)) (by first | decide | (show _ ≤ (0 : Nat); omega)) ?_
      exact hQ.bad (k := 0) (if_neg g) h (m0.th (Mr.O (Ks := KS) (Rs := RS) (by decide)) (fun _ z => z) (fun _ z => z)) (zO_sOs _ _ _ _)
    · exact absurd rfl q
set_option maxRecDepth 100000 in
theorem q_coreLength {r : Int} (h : RI σ y A) (ir : InR r) (hQ : RQ σ y (o_coreLength A r) Q) : zM Γ mX10_coreLength [vR (some y), vI r] σ Q := by
  refine zM_of (n := 0) (by decide +kernel) rfl rfl rfl ?_
  refine zW_aload_n dX10_coreLength_0 rfl ?_
  refine zW_iconst dX10_coreLength_1 ?_
  refine zpI dX10_coreLength_2 fX10_75 h.1.1 rfl (Or.inl rfl) (zst_int _) ?_
  have m0 : Mr σ (sO σ y 0 0) y KS RS := Mr.O (by decide)
  have h0 := h.mr m0
  have t0 : zO (sO σ y 0 0) y 0 = 0 := zO_sOs _ _ _ _
  generalize sO σ y 0 0 = σ0 at m0 h0 t0 ⊢
  have a0 : RA σ0 y 0 := h0.ra
  refine zW_iload_n dX10_coreLength_5 rfl ?_
  refine zcS1 dX10_coreLength_6 rfl eX10_isRegister b1492 ⟨by decide, by decide, by decide, by decide⟩ rfl (Nat.le_of_ble_eq_true rfl) (r_isRegister ir (fun g => ?_) (fun g => ?_))
  · have hw := h0.rw g
    have hb := r8b g
    have hl := hw.2.1
    refine zW_if_eq (tgt := 23) dX10_coreLength_9 (by decide) (by first | assumption | omega | (unfold InR; omega) | (unfold InL; omega) | (simp only [InR] at *; omega)) (fun q => ?_) (fun q => ?_)
    · exact absurd q (by decide)
    · refine zW_aload_n dX10_coreLength_12 rfl ?_
      refine zW_iload_n dX10_coreLength_13 rfl ?_
      refine zcS1 dX10_coreLength_14 rfl eX10_register b1455 ⟨by decide, by decide, by decide, by decide⟩ rfl (Nat.le_of_ble_eq_true rfl) (r_register g ?_)
      refine zcV1 dX10_coreLength_17 rfl eX10_coreOf b1558 ⟨by decide, by decide, by decide, by decide⟩ rfl a0.1.1 rfl (by decide) (Nat.le_of_ble_eq_true rfl) (r_coreOf a0 hw hb ?_)
      refine zW_goto (tgt := 28) dX10_coreLength_20 (by decide) ?_
      refine zW_ireturn dX10_coreLength_28 rfl rfl (by first | decide | (show _ ≤ (0 : Nat); omega)) (by first | decide | (show _ ≤ (0 : Nat); omega)) ?_
      exact hQ.ask (if_pos g) h m0 t0
  · refine zW_if_eq (tgt := 23) dX10_coreLength_9 (by decide) (by first | assumption | omega | (unfold InR; omega) | (unfold InL; omega) | (simp only [InR] at *; omega)) (fun q => ?_) (fun q => ?_)
    · refine zW_aload_n dX10_coreLength_23 rfl ?_
      refine zW_iconst dX10_coreLength_24 ?_
      refine zcV1 dX10_coreLength_25 rfl eX10_fails b1371 ⟨by decide, by decide, by decide, by decide⟩ rfl a0.1.1 rfl (by decide) (Nat.le_of_ble_eq_true rfl) (r_fails a0.1 ?_)
      refine zW_ireturn dX10_coreLength_28 rfl rfl (by first | decide | (show _ ≤ (0 : Nat); omega)) (by first | decide | (show _ ≤ (0 : Nat); omega)) ?_
      exact hQ.bad (k := 0) (if_neg g) h (m0.th (Mr.O (Ks := KS) (Rs := RS) (by decide)) (fun _ z => z) (fun _ z => z)) (zO_sOs _ _ _ _)
    · exact absurd rfl q
set_option maxRecDepth 100000 in
theorem q_letter {r i : Int} (h : RI σ y A) (ir : InR r) (ii : InR i) (hQ : RQ σ y (o_letter A r i) Q) : zM Γ mX10_letter [vR (some y), vI r, vI i] σ Q := by
  refine zM_of (n := 0) (by decide +kernel) rfl rfl rfl ?_
  refine zW_aload_n dX10_letter_0 rfl ?_
  refine zW_iconst dX10_letter_1 ?_
  refine zpI dX10_letter_2 fX10_75 h.1.1 rfl (Or.inl rfl) (zst_int _) ?_
  have m0 : Mr σ (sO σ y 0 0) y KS RS := Mr.O (by decide)
  have h0 := h.mr m0
  have t0 : zO (sO σ y 0 0) y 0 = 0 := zO_sOs _ _ _ _
  generalize sO σ y 0 0 = σ0 at m0 h0 t0 ⊢
  have a0 : RA σ0 y 0 := h0.ra
  have bd : o_letter A r i = (1, 0, A) → zW Γ mX10_letter 28 [some (vR (some y)), some (vI r), some (vI i)] [] σ0 0 0 Q := by
    intro ho
    refine zW_aload_n dX10_letter_28 rfl ?_
    refine zW_iconst dX10_letter_29 ?_
    refine zcV1 dX10_letter_30 rfl eX10_fails b1371 ⟨by decide, by decide, by decide, by decide⟩ rfl a0.1.1 rfl (by decide) (Nat.le_of_ble_eq_true rfl) (r_fails a0.1 ?_)
    refine zW_i2cN dX10_letter_33 (show (0 : Int) = ((0 : Nat) : Int) from rfl) (by decide) ?_
    refine zW_ireturn dX10_letter_34 rfl (znc 0 (by decide)) (by first | decide | (show _ ≤ (0 : Nat); omega)) (by first | decide | (show _ ≤ (0 : Nat); omega)) ?_
    exact hQ.bad (k := 0) ho h (m0.th (Mr.O (Ks := KS) (Rs := RS) (by decide)) (fun _ z => z) (fun _ z => z)) (zO_sOs _ _ _ _)
  refine zW_iload_n dX10_letter_5 rfl ?_
  refine zcS1 dX10_letter_6 rfl eX10_isRegister b1492 ⟨by decide, by decide, by decide, by decide⟩ rfl (Nat.le_of_ble_eq_true rfl) (r_isRegister ir (fun g => ?_) (fun g => ?_))
  · have hw := h0.rw g
    have hb := r8b g
    have hl := hw.2.1
    have b1 := cs_le (reg A r)
    have c1 : crl (reg A r) = (reg A r).length - 2 * cs (reg A r) := rfl
    refine zW_if_eq (tgt := 28) dX10_letter_9 (by decide) (by first | assumption | omega | (unfold InR; omega) | (unfold InL; omega) | (simp only [InR] at *; omega)) (fun q => ?_) (fun q => ?_)
    · exact absurd q (by decide)
    · refine zW_iload_n dX10_letter_12 rfl ?_
      refine zW_if_lt (tgt := 28) dX10_letter_13 (by decide) (by first | assumption | omega | (unfold InR; omega) | (unfold InL; omega) | (simp only [InR] at *; omega)) (fun q2 => ?_) (fun q2 => ?_)
      · exact bd (by unfold o_letter; rw [if_pos g, if_neg (by omega)])
      · refine zW_iload_n dX10_letter_16 rfl ?_
        refine zW_aload_n dX10_letter_17 rfl ?_
        refine zW_iload_n dX10_letter_18 rfl ?_
        refine zcS1 dX10_letter_19 rfl eX10_register b1455 ⟨by decide, by decide, by decide, by decide⟩ rfl (Nat.le_of_ble_eq_true rfl) (r_register g ?_)
        refine zcV1 dX10_letter_22 rfl eX10_get b1443 ⟨by decide, by decide, by decide, by decide⟩ rfl a0.1.1 rfl (by decide) (Nat.le_of_ble_eq_true rfl) (r_get a0 (by omega) hw.1 ?_)
        refine zW_icmp_lt (tgt := 35) dX10_letter_25 (by decide) (by first | assumption | omega | (unfold InR; omega) | (unfold InL; omega) | (simp only [InR] at *; omega)) (by first | assumption | omega | (unfold InR; omega) | (unfold InL; omega) | (simp only [InR] at *; omega)) (fun q3 => ?_) (fun q3 => ?_)
        · have ei : i = ((i.toNat : Nat) : Int) := by omega
          have hx := getD_lt hw.2.2.2 (i := i.toNat) (by omega)
          have hlc := lco_lt hx
          have ho : o_letter A r i = (0, ((lco ((reg A r).getD (i.toNat) 0) : Nat) : Int), A) := by unfold o_letter; rw [if_pos g, if_pos (by omega)]
          have hc : ∀ R, R (.inl (some (vI (((reg A r).getD (i.toNat) 0 : Nat) : Int)))) σ0 → zM Γ mX10_codeAt [vR (some y), vI ((1 + 61 * r.toNat : Nat) : Int), vI i] σ0 R := fun R hR => by
            rw [ei]
            exact r_codeAt a0 hw (by omega) hb hR
          refine zW_aload_n dX10_letter_35 rfl ?_
          refine zW_iload_n dX10_letter_36 rfl ?_
          refine zcS1 dX10_letter_37 rfl eX10_register b1455 ⟨by decide, by decide, by decide, by decide⟩ rfl (Nat.le_of_ble_eq_true rfl) (r_register g ?_)
          refine zW_iload_n dX10_letter_40 rfl ?_
          refine zcV2 dX10_letter_41 rfl eX10_codeAt b1499 ⟨by decide, by decide, by decide, by decide⟩ rfl a0.1.1 rfl (by decide) (Nat.le_of_ble_eq_true rfl) (hc _ ?_)
          refine zcS1 dX10_letter_44 rfl eX10_letterOf b1503 ⟨by decide, by decide, by decide, by decide⟩ rfl (Nat.le_of_ble_eq_true rfl) (r_letterOf hx ?_)
          refine zW_ireturn dX10_letter_47 rfl (znc _ (by omega)) (by first | decide | (show _ ≤ (0 : Nat); omega)) (by first | decide | (show _ ≤ (0 : Nat); omega)) ?_
          exact hQ.ask ho h m0 t0
        · exact bd (by unfold o_letter; rw [if_pos g, if_neg (by omega)])
  · refine zW_if_eq (tgt := 28) dX10_letter_9 (by decide) (by first | assumption | omega | (unfold InR; omega) | (unfold InL; omega) | (simp only [InR] at *; omega)) (fun q => ?_) (fun q => ?_)
    · exact bd (by unfold o_letter; rw [if_neg g])
    · exact absurd rfl q
set_option maxRecDepth 100000 in
theorem q_coreLetter {r i : Int} (h : RI σ y A) (ir : InR r) (ii : InR i) (hQ : RQ σ y (o_coreLetter A r i) Q) : zM Γ mX10_coreLetter [vR (some y), vI r, vI i] σ Q := by
  refine zM_of (n := 0) (by decide +kernel) rfl rfl rfl ?_
  refine zW_aload_n dX10_coreLetter_0 rfl ?_
  refine zW_iconst dX10_coreLetter_1 ?_
  refine zpI dX10_coreLetter_2 fX10_75 h.1.1 rfl (Or.inl rfl) (zst_int _) ?_
  have m0 : Mr σ (sO σ y 0 0) y KS RS := Mr.O (by decide)
  have h0 := h.mr m0
  have t0 : zO (sO σ y 0 0) y 0 = 0 := zO_sOs _ _ _ _
  generalize sO σ y 0 0 = σ0 at m0 h0 t0 ⊢
  have a0 : RA σ0 y 0 := h0.ra
  have bd : o_coreLetter A r i = (1, 0, A) → zW Γ mX10_coreLetter 28 [some (vR (some y)), some (vI r), some (vI i)] [] σ0 0 0 Q := by
    intro ho
    refine zW_aload_n dX10_coreLetter_28 rfl ?_
    refine zW_iconst dX10_coreLetter_29 ?_
    refine zcV1 dX10_coreLetter_30 rfl eX10_fails b1371 ⟨by decide, by decide, by decide, by decide⟩ rfl a0.1.1 rfl (by decide) (Nat.le_of_ble_eq_true rfl) (r_fails a0.1 ?_)
    refine zW_i2cN dX10_coreLetter_33 (show (0 : Int) = ((0 : Nat) : Int) from rfl) (by decide) ?_
    refine zW_ireturn dX10_coreLetter_34 rfl (znc 0 (by decide)) (by first | decide | (show _ ≤ (0 : Nat); omega)) (by first | decide | (show _ ≤ (0 : Nat); omega)) ?_
    exact hQ.bad (k := 0) ho h (m0.th (Mr.O (Ks := KS) (Rs := RS) (by decide)) (fun _ z => z) (fun _ z => z)) (zO_sOs _ _ _ _)
  refine zW_iload_n dX10_coreLetter_5 rfl ?_
  refine zcS1 dX10_coreLetter_6 rfl eX10_isRegister b1492 ⟨by decide, by decide, by decide, by decide⟩ rfl (Nat.le_of_ble_eq_true rfl) (r_isRegister ir (fun g => ?_) (fun g => ?_))
  · have hw := h0.rw g
    have hb := r8b g
    have hl := hw.2.1
    have b1 := cs_le (reg A r)
    have c1 : crl (reg A r) = (reg A r).length - 2 * cs (reg A r) := rfl
    refine zW_if_eq (tgt := 28) dX10_coreLetter_9 (by decide) (by first | assumption | omega | (unfold InR; omega) | (unfold InL; omega) | (simp only [InR] at *; omega)) (fun q => ?_) (fun q => ?_)
    · exact absurd q (by decide)
    · refine zW_iload_n dX10_coreLetter_12 rfl ?_
      refine zW_if_lt (tgt := 28) dX10_coreLetter_13 (by decide) (by first | assumption | omega | (unfold InR; omega) | (unfold InL; omega) | (simp only [InR] at *; omega)) (fun q2 => ?_) (fun q2 => ?_)
      · exact bd (by unfold o_coreLetter; rw [if_pos g, if_neg (by omega)])
      · refine zW_iload_n dX10_coreLetter_16 rfl ?_
        refine zW_aload_n dX10_coreLetter_17 rfl ?_
        refine zW_iload_n dX10_coreLetter_18 rfl ?_
        refine zcS1 dX10_coreLetter_19 rfl eX10_register b1455 ⟨by decide, by decide, by decide, by decide⟩ rfl (Nat.le_of_ble_eq_true rfl) (r_register g ?_)
        refine zcV1 dX10_coreLetter_22 rfl eX10_coreOf b1558 ⟨by decide, by decide, by decide, by decide⟩ rfl a0.1.1 rfl (by decide) (Nat.le_of_ble_eq_true rfl) (r_coreOf a0 hw hb ?_)
        refine zW_icmp_lt (tgt := 35) dX10_coreLetter_25 (by decide) (by first | assumption | omega | (unfold InR; omega) | (unfold InL; omega) | (simp only [InR] at *; omega)) (by first | assumption | omega | (unfold InR; omega) | (unfold InL; omega) | (simp only [InR] at *; omega)) (fun q3 => ?_) (fun q3 => ?_)
        · have ei : i = ((i.toNat : Nat) : Int) := by omega
          have hx := getD_lt hw.2.2.2 (i := cs (reg A r) + i.toNat) (by omega)
          have hlc := lco_lt hx
          have ho : o_coreLetter A r i = (0, ((lco ((reg A r).getD (cs (reg A r) + i.toNat) 0) : Nat) : Int), A) := by unfold o_coreLetter; rw [if_pos g, if_pos (by omega)]
          have hc : ∀ R, R (.inl (some (vI (((reg A r).getD (cs (reg A r) + i.toNat) 0 : Nat) : Int)))) σ0 → zM Γ mX10_coreCode [vR (some y), vI ((1 + 61 * r.toNat : Nat) : Int), vI i] σ0 R := fun R hR => by
            rw [ei]
            exact r_coreCode a0 hw hb (by omega) hR
          refine zW_aload_n dX10_coreLetter_35 rfl ?_
          refine zW_iload_n dX10_coreLetter_36 rfl ?_
          refine zcS1 dX10_coreLetter_37 rfl eX10_register b1455 ⟨by decide, by decide, by decide, by decide⟩ rfl (Nat.le_of_ble_eq_true rfl) (r_register g ?_)
          refine zW_iload_n dX10_coreLetter_40 rfl ?_
          refine zcV2 dX10_coreLetter_41 rfl eX10_coreCode b1570 ⟨by decide, by decide, by decide, by decide⟩ rfl a0.1.1 rfl (by decide) (Nat.le_of_ble_eq_true rfl) (hc _ ?_)
          refine zcS1 dX10_coreLetter_44 rfl eX10_letterOf b1503 ⟨by decide, by decide, by decide, by decide⟩ rfl (Nat.le_of_ble_eq_true rfl) (r_letterOf hx ?_)
          refine zW_ireturn dX10_coreLetter_47 rfl (znc _ (by omega)) (by first | decide | (show _ ≤ (0 : Nat); omega)) (by first | decide | (show _ ≤ (0 : Nat); omega)) ?_
          exact hQ.ask ho h m0 t0
        · exact bd (by unfold o_coreLetter; rw [if_pos g, if_neg (by omega)])
  · refine zW_if_eq (tgt := 28) dX10_coreLetter_9 (by decide) (by first | assumption | omega | (unfold InR; omega) | (unfold InL; omega) | (simp only [InR] at *; omega)) (fun q => ?_) (fun q => ?_)
    · exact bd (by unfold o_coreLetter; rw [if_neg g])
    · exact absurd rfl q
set_option maxRecDepth 100000 in
theorem r_compared {w v : Nat} {l m : List Nat} (h : RA σ y 0) (hw : Rw σ y (0 + w) l) (hv : Rw σ y (0 + v) m) (hb : 0 + w + 61 ≤ 13453) (hb2 : 0 + v + 61 ≤ 13453) (hQ : Q (.inl (some (vI (ordw l m)))) σ) : zM Γ mX10_compared [vR (some y), vI w, vI v] σ Q := by
  have a1 := hw.2.1
  have a2 := hv.2.1
  refine zM_of (n := 1) (by decide +kernel) rfl rfl rfl ?_
  unfold ordw at hQ
  refine zW_aload_n dX10_compared_0 rfl ?_
  refine zW_iload_n dX10_compared_1 rfl ?_
  refine zcV1 dX10_compared_2 rfl eX10_get b1443 ⟨by decide, by decide, by decide, by decide⟩ rfl h.1.1 rfl (by decide) (Nat.le_of_ble_eq_true rfl) (r_get h (by omega) hw.1 ?_)
  refine zW_aload_n dX10_compared_5 rfl ?_
  refine zW_iload_n dX10_compared_6 rfl ?_
  refine zcV1 dX10_compared_7 rfl eX10_get b1443 ⟨by decide, by decide, by decide, by decide⟩ rfl h.1.1 rfl (by decide) (Nat.le_of_ble_eq_true rfl) (r_get h (by omega) hv.1 ?_)
  refine zW_icmp_eq (tgt := 32) dX10_compared_10 (by decide) (by first | assumption | omega | (unfold InR; omega) | (unfold InL; omega) | (simp only [InR] at *; omega)) (by first | assumption | omega | (unfold InR; omega) | (unfold InL; omega) | (simp only [InR] at *; omega)) (fun q => ?_) (fun q => ?_)
  · have he : l.length = m.length := by omega
    rw [if_neg (fun z => z he)] at hQ
    have fin : ∀ k, k = cpf l m → k ≤ l.length → zW Γ mX10_compared 64 [some (vR (some y)), some (vI w), some (vI v), some (vI k)] [] σ 0 0 Q := by
      intro k hk hkl
      rw [← hk] at hQ
      refine zW_iload_n dX10_compared_64 rfl ?_
      refine zW_aload_n dX10_compared_65 rfl ?_
      refine zW_iload_n dX10_compared_66 rfl ?_
      refine zcV1 dX10_compared_67 rfl eX10_get b1443 ⟨by decide, by decide, by decide, by decide⟩ rfl h.1.1 rfl (by decide) (Nat.le_of_ble_eq_true rfl) (r_get h (by omega) hw.1 ?_)
      refine zW_icmp_ne (tgt := 75) dX10_compared_70 (by decide) (by first | assumption | omega | (unfold InR; omega) | (unfold InL; omega) | (simp only [InR] at *; omega)) (by first | assumption | omega | (unfold InR; omega) | (unfold InL; omega) | (simp only [InR] at *; omega)) (fun g => ?_) (fun g => ?_)
      · rw [if_neg (by omega)] at hQ
        have g1 := getD_lt hw.2.2.2 (i := k) (by omega)
        have g2 := getD_lt hv.2.2.2 (i := k) (by omega)
        refine zW_aload_n dX10_compared_75 rfl ?_
        refine zW_iload_n dX10_compared_76 rfl ?_
        refine zW_iload_n dX10_compared_77 rfl ?_
        refine zcV2 dX10_compared_78 rfl eX10_codeAt b1499 ⟨by decide, by decide, by decide, by decide⟩ rfl h.1.1 rfl (by decide) (Nat.le_of_ble_eq_true rfl) (r_codeAt h hw (by omega) hb ?_)
        refine zW_aload_n dX10_compared_81 rfl ?_
        refine zW_iload_n dX10_compared_82 rfl ?_
        refine zW_iload_n dX10_compared_83 rfl ?_
        refine zcV2 dX10_compared_84 rfl eX10_codeAt b1499 ⟨by decide, by decide, by decide, by decide⟩ rfl h.1.1 rfl (by decide) (Nat.le_of_ble_eq_true rfl) (r_codeAt h hv (by omega) hb2 ?_)
        refine zW_icmp_ge (tgt := 94) dX10_compared_87 (by decide) (by first | assumption | omega | (unfold InR; omega) | (unfold InL; omega) | (simp only [InR] at *; omega)) (by first | assumption | omega | (unfold InR; omega) | (unfold InL; omega) | (simp only [InR] at *; omega)) (fun g3 => ?_) (fun g3 => ?_)
        · rw [if_neg (by omega)] at hQ
          refine zW_iconst dX10_compared_94 ?_
          refine zW_ireturn dX10_compared_95 rfl rfl (by first | decide | (show _ ≤ (0 : Nat); omega)) (by first | decide | (show _ ≤ (0 : Nat); omega)) ?_
          exact hQ
        · rw [if_pos (by omega)] at hQ
          refine zW_iconst dX10_compared_90 ?_
          refine zW_goto (tgt := 95) dX10_compared_91 (by decide) ?_
          refine zW_ireturn dX10_compared_95 rfl rfl (by first | decide | (show _ ≤ (0 : Nat); omega)) (by first | decide | (show _ ≤ (0 : Nat); omega)) ?_
          exact hQ
      · rw [if_pos (by omega)] at hQ
        refine zW_iconst dX10_compared_73 ?_
        refine zW_ireturn dX10_compared_74 rfl rfl (by first | decide | (show _ ≤ (0 : Nat); omega)) (by first | decide | (show _ ≤ (0 : Nat); omega)) ?_
        exact hQ
    have loop : ∀ n k, k + n = l.length → cpfF l m n k = cpf l m → zW Γ mX10_compared 34 [some (vR (some y)), some (vI w), some (vI v), some (vI k)] [] σ 0 0 Q := by
      intro n
      induction n with
      | zero =>
        intro k hk e
        refine zW_iload_n dX10_compared_34 rfl ?_
        refine zW_aload_n dX10_compared_35 rfl ?_
        refine zW_iload_n dX10_compared_36 rfl ?_
        refine zcV1 dX10_compared_37 rfl eX10_get b1443 ⟨by decide, by decide, by decide, by decide⟩ rfl h.1.1 rfl (by decide) (Nat.le_of_ble_eq_true rfl) (r_get h (by omega) hw.1 ?_)
        refine zW_icmp_ge (tgt := 64) dX10_compared_40 (by decide) (by first | assumption | omega | (unfold InR; omega) | (unfold InL; omega) | (simp only [InR] at *; omega)) (by first | assumption | omega | (unfold InR; omega) | (unfold InL; omega) | (simp only [InR] at *; omega)) (fun g => ?_) (fun g => ?_)
        · exact fin k e (by omega)
        · exact absurd g (by omega)
      | succ n ih =>
        intro k hk e
        have e' : (if l.getD k 0 = m.getD k 0 then cpfF l m n (k + 1) else k) = cpf l m := e
        have g1 := getD_lt hw.2.2.2 (i := k) (by omega)
        have g2 := getD_lt hv.2.2.2 (i := k) (by omega)
        refine zW_iload_n dX10_compared_34 rfl ?_
        refine zW_aload_n dX10_compared_35 rfl ?_
        refine zW_iload_n dX10_compared_36 rfl ?_
        refine zcV1 dX10_compared_37 rfl eX10_get b1443 ⟨by decide, by decide, by decide, by decide⟩ rfl h.1.1 rfl (by decide) (Nat.le_of_ble_eq_true rfl) (r_get h (by omega) hw.1 ?_)
        refine zW_icmp_ge (tgt := 64) dX10_compared_40 (by decide) (by first | assumption | omega | (unfold InR; omega) | (unfold InL; omega) | (simp only [InR] at *; omega)) (by first | assumption | omega | (unfold InR; omega) | (unfold InL; omega) | (simp only [InR] at *; omega)) (fun g => ?_) (fun g => ?_)
        · exact absurd g (by omega)
        · refine zW_aload_n dX10_compared_43 rfl ?_
          refine zW_iload_n dX10_compared_44 rfl ?_
          refine zW_iload_n dX10_compared_45 rfl ?_
          refine zcV2 dX10_compared_46 rfl eX10_codeAt b1499 ⟨by decide, by decide, by decide, by decide⟩ rfl h.1.1 rfl (by decide) (Nat.le_of_ble_eq_true rfl) (r_codeAt h hw (by omega) hb ?_)
          refine zW_aload_n dX10_compared_49 rfl ?_
          refine zW_iload_n dX10_compared_50 rfl ?_
          refine zW_iload_n dX10_compared_51 rfl ?_
          refine zcV2 dX10_compared_52 rfl eX10_codeAt b1499 ⟨by decide, by decide, by decide, by decide⟩ rfl h.1.1 rfl (by decide) (Nat.le_of_ble_eq_true rfl) (r_codeAt h hv (by omega) hb2 ?_)
          refine zW_icmp_ne (tgt := 64) dX10_compared_55 (by decide) (by first | assumption | omega | (unfold InR; omega) | (unfold InL; omega) | (simp only [InR] at *; omega)) (by first | assumption | omega | (unfold InR; omega) | (unfold InL; omega) | (simp only [InR] at *; omega)) (fun g3 => ?_) (fun g3 => ?_)
          · rw [if_neg (by omega)] at e'
            exact fin k e' (by omega)
          · rw [if_pos (by omega)] at e'
            refine zW_iinc dX10_compared_58 rfl (by decide) rfl rfl ?_
            refine zW_goto (tgt := 34) dX10_compared_61 (by decide) ?_
            exact ih (k + 1) (by omega) e'
    refine zW_iconst dX10_compared_32 ?_
    refine zW_istore_n dX10_compared_33 (by decide) rfl rfl ?_
    exact loop l.length 0 (by omega) (by unfold cpf; rw [he, Nat.min_self])
  · rw [if_pos (fun z => q (by omega))] at hQ
    refine zW_aload_n dX10_compared_13 rfl ?_
    refine zW_iload_n dX10_compared_14 rfl ?_
    refine zcV1 dX10_compared_15 rfl eX10_get b1443 ⟨by decide, by decide, by decide, by decide⟩ rfl h.1.1 rfl (by decide) (Nat.le_of_ble_eq_true rfl) (r_get h (by omega) hw.1 ?_)
    refine zW_aload_n dX10_compared_18 rfl ?_
    refine zW_iload_n dX10_compared_19 rfl ?_
    refine zcV1 dX10_compared_20 rfl eX10_get b1443 ⟨by decide, by decide, by decide, by decide⟩ rfl h.1.1 rfl (by decide) (Nat.le_of_ble_eq_true rfl) (r_get h (by omega) hv.1 ?_)
    refine zW_icmp_ge (tgt := 30) dX10_compared_23 (by decide) (by first | assumption | omega | (unfold InR; omega) | (unfold InL; omega) | (simp only [InR] at *; omega)) (by first | assumption | omega | (unfold InR; omega) | (unfold InL; omega) | (simp only [InR] at *; omega)) (fun g => ?_) (fun g => ?_)
    · rw [if_neg (by omega)] at hQ
      refine zW_iconst dX10_compared_30 ?_
      refine zW_ireturn dX10_compared_31 rfl rfl (by first | decide | (show _ ≤ (0 : Nat); omega)) (by first | decide | (show _ ≤ (0 : Nat); omega)) ?_
      exact hQ
    · rw [if_pos (by omega)] at hQ
      refine zW_iconst dX10_compared_26 ?_
      refine zW_goto (tgt := 31) dX10_compared_27 (by decide) ?_
      refine zW_ireturn dX10_compared_31 rfl rfl (by first | decide | (show _ ≤ (0 : Nat); omega)) (by first | decide | (show _ ≤ (0 : Nat); omega)) ?_
      exact hQ
set_option maxRecDepth 100000 in
theorem g2_no {r s v : Int} (h : ¬ (inR8 r ∧ inR8 s)) : g2 A r s v = (1, 0, A) := by
  unfold g2
  by_cases g : inR8 r
  · rw [if_pos g, if_neg (fun z => h ⟨g, z⟩)]
  · rw [if_neg g]
set_option maxRecDepth 100000 in
theorem g2_yes {r s v : Int} (h : inR8 r) (h' : inR8 s) : g2 A r s v = (0, v, A) := by
  unfold g2
  rw [if_pos h, if_pos h']
set_option maxRecDepth 100000 in
theorem q_areEqual {r s : Int} (h : RI σ y A) (ir : InR r) (is : InR s) (hQ : RQ σ y (o_areEqual A r s) Q) : zM Γ mX10_areEqual [vR (some y), vI r, vI s] σ Q := by
  refine zM_of (n := 0) (by decide +kernel) rfl rfl rfl ?_
  refine zW_aload_n dX10_areEqual_0 rfl ?_
  refine zW_iconst dX10_areEqual_1 ?_
  refine zpI dX10_areEqual_2 fX10_75 h.1.1 rfl (Or.inl rfl) (zst_int _) ?_
  have m0 : Mr σ (sO σ y 0 0) y KS RS := Mr.O (by decide)
  have h0 := h.mr m0
  have t0 : zO (sO σ y 0 0) y 0 = 0 := zO_sOs _ _ _ _
  generalize sO σ y 0 0 = σ0 at m0 h0 t0 ⊢
  have a0 : RA σ0 y 0 := h0.ra
  refine zW_iload_n dX10_areEqual_5 rfl ?_
  refine zW_iload_n dX10_areEqual_6 rfl ?_
  refine zcS2 dX10_areEqual_7 rfl eX10_areRegisters b1510 ⟨by decide, by decide, by decide, by decide⟩ rfl (Nat.le_of_ble_eq_true rfl) (r_areRegisters ir is (fun g g' => ?_) (fun g => ?_))
  · have hw := h0.rw g
    have hv := h0.rw g'
    have hb := r8b g
    have hb2 := r8b g'
    have hl := hw.2.1
    have hl2 := hv.2.1
    refine zW_if_eq (tgt := 36) dX10_areEqual_10 (by decide) (by first | assumption | omega | (unfold InR; omega) | (unfold InL; omega) | (simp only [InR] at *; omega)) (fun q => ?_) (fun q => ?_)
    · exact absurd q (by decide)
    · refine zW_aload_n dX10_areEqual_13 rfl ?_
      refine zW_iload_n dX10_areEqual_14 rfl ?_
      refine zcS1 dX10_areEqual_15 rfl eX10_register b1455 ⟨by decide, by decide, by decide, by decide⟩ rfl (Nat.le_of_ble_eq_true rfl) (r_register g ?_)
      refine zW_iload_n dX10_areEqual_18 rfl ?_
      refine zcS1 dX10_areEqual_19 rfl eX10_register b1455 ⟨by decide, by decide, by decide, by decide⟩ rfl (Nat.le_of_ble_eq_true rfl) (r_register g' ?_)
      refine zcV2 dX10_areEqual_22 rfl eX10_compared b1513 ⟨by decide, by decide, by decide, by decide⟩ rfl a0.1.1 rfl (by decide) (Nat.le_of_ble_eq_true rfl) (r_compared a0 hw hv hb hb2 ?_)
      have hord := ordw_in (reg A r) (reg A s)
      refine zW_if_ne (tgt := 32) dX10_areEqual_25 (by decide) (by first | assumption | omega | (unfold InR; omega) | (unfold InL; omega) | (simp only [InR] at *; omega)) (fun q2 => ?_) (fun q2 => ?_)
      · refine zW_iconst dX10_areEqual_32 ?_
        refine zW_goto (tgt := 50) dX10_areEqual_33 (by decide) ?_
        refine zW_ireturn dX10_areEqual_50 rfl rfl (by first | decide | (show _ ≤ (0 : Nat); omega)) (by first | decide | (show _ ≤ (0 : Nat); omega)) ?_
        exact hQ.ask ((g2_yes g g').trans (by rw [if_neg q2])) h m0 t0
      · refine zW_iconst dX10_areEqual_28 ?_
        refine zW_goto (tgt := 50) dX10_areEqual_29 (by decide) ?_
        refine zW_ireturn dX10_areEqual_50 rfl rfl (by first | decide | (show _ ≤ (0 : Nat); omega)) (by first | decide | (show _ ≤ (0 : Nat); omega)) ?_
        exact hQ.ask ((g2_yes g g').trans (by rw [if_pos q2])) h m0 t0
  · refine zW_if_eq (tgt := 36) dX10_areEqual_10 (by decide) (by first | assumption | omega | (unfold InR; omega) | (unfold InL; omega) | (simp only [InR] at *; omega)) (fun q => ?_) (fun q => ?_)
    · refine zW_aload_n dX10_areEqual_36 rfl ?_
      refine zW_iconst dX10_areEqual_37 ?_
      refine zcV1 dX10_areEqual_38 rfl eX10_fails b1371 ⟨by decide, by decide, by decide, by decide⟩ rfl a0.1.1 rfl (by decide) (Nat.le_of_ble_eq_true rfl) (r_fails a0.1 ?_)
      refine zW_iconst dX10_areEqual_41 ?_
      refine zW_icmp_ne (tgt := 49) dX10_areEqual_42 (by decide) (by first | assumption | omega | (unfold InR; omega) | (unfold InL; omega) | (simp only [InR] at *; omega)) (by first | assumption | omega | (unfold InR; omega) | (unfold InL; omega) | (simp only [InR] at *; omega)) (fun b1 => ?_) (fun b1 => ?_)
      · refine zW_iconst dX10_areEqual_49 ?_
        refine zW_ireturn dX10_areEqual_50 rfl rfl (by first | decide | (show _ ≤ (0 : Nat); omega)) (by first | decide | (show _ ≤ (0 : Nat); omega)) ?_
        exact hQ.bad (k := 0) (g2_no g) h (m0.th (Mr.O (Ks := KS) (Rs := RS) (by decide)) (fun _ z => z) (fun _ z => z)) (zO_sOs _ _ _ _)
      · exact absurd b1 (by decide)
    · exact absurd rfl q
set_option maxRecDepth 100000 in
theorem q_compare {r s : Int} (h : RI σ y A) (ir : InR r) (is : InR s) (hQ : RQ σ y (o_compare A r s) Q) : zM Γ mX10_compare [vR (some y), vI r, vI s] σ Q := by
  refine zM_of (n := 0) (by decide +kernel) rfl rfl rfl ?_
  refine zW_aload_n dX10_compare_0 rfl ?_
  refine zW_iconst dX10_compare_1 ?_
  refine zpI dX10_compare_2 fX10_75 h.1.1 rfl (Or.inl rfl) (zst_int _) ?_
  have m0 : Mr σ (sO σ y 0 0) y KS RS := Mr.O (by decide)
  have h0 := h.mr m0
  have t0 : zO (sO σ y 0 0) y 0 = 0 := zO_sOs _ _ _ _
  generalize sO σ y 0 0 = σ0 at m0 h0 t0 ⊢
  have a0 : RA σ0 y 0 := h0.ra
  refine zW_iload_n dX10_compare_5 rfl ?_
  refine zW_iload_n dX10_compare_6 rfl ?_
  refine zcS2 dX10_compare_7 rfl eX10_areRegisters b1510 ⟨by decide, by decide, by decide, by decide⟩ rfl (Nat.le_of_ble_eq_true rfl) (r_areRegisters ir is (fun g g' => ?_) (fun g => ?_))
  · have hw := h0.rw g
    have hv := h0.rw g'
    have hb := r8b g
    have hb2 := r8b g'
    have hl := hw.2.1
    have hl2 := hv.2.1
    refine zW_if_eq (tgt := 28) dX10_compare_10 (by decide) (by first | assumption | omega | (unfold InR; omega) | (unfold InL; omega) | (simp only [InR] at *; omega)) (fun q => ?_) (fun q => ?_)
    · exact absurd q (by decide)
    · refine zW_aload_n dX10_compare_13 rfl ?_
      refine zW_iload_n dX10_compare_14 rfl ?_
      refine zcS1 dX10_compare_15 rfl eX10_register b1455 ⟨by decide, by decide, by decide, by decide⟩ rfl (Nat.le_of_ble_eq_true rfl) (r_register g ?_)
      refine zW_iload_n dX10_compare_18 rfl ?_
      refine zcS1 dX10_compare_19 rfl eX10_register b1455 ⟨by decide, by decide, by decide, by decide⟩ rfl (Nat.le_of_ble_eq_true rfl) (r_register g' ?_)
      refine zcV2 dX10_compare_22 rfl eX10_compared b1513 ⟨by decide, by decide, by decide, by decide⟩ rfl a0.1.1 rfl (by decide) (Nat.le_of_ble_eq_true rfl) (r_compared a0 hw hv hb hb2 ?_)
      refine zW_goto (tgt := 33) dX10_compare_25 (by decide) ?_
      refine zW_ireturn dX10_compare_33 rfl rfl (by first | decide | (show _ ≤ (0 : Nat); omega)) (by first | decide | (show _ ≤ (0 : Nat); omega)) ?_
      exact hQ.ask (g2_yes g g') h m0 t0
  · refine zW_if_eq (tgt := 28) dX10_compare_10 (by decide) (by first | assumption | omega | (unfold InR; omega) | (unfold InL; omega) | (simp only [InR] at *; omega)) (fun q => ?_) (fun q => ?_)
    · refine zW_aload_n dX10_compare_28 rfl ?_
      refine zW_iconst dX10_compare_29 ?_
      refine zcV1 dX10_compare_30 rfl eX10_fails b1371 ⟨by decide, by decide, by decide, by decide⟩ rfl a0.1.1 rfl (by decide) (Nat.le_of_ble_eq_true rfl) (r_fails a0.1 ?_)
      refine zW_ireturn dX10_compare_33 rfl rfl (by first | decide | (show _ ≤ (0 : Nat); omega)) (by first | decide | (show _ ≤ (0 : Nat); omega)) ?_
      exact hQ.bad (k := 0) (g2_no g) h (m0.th (Mr.O (Ks := KS) (Rs := RS) (by decide)) (fun _ z => z) (fun _ z => z)) (zO_sOs _ _ _ _)
    · exact absurd rfl q
set_option maxRecDepth 100000 in
theorem AO.rr (ao : AO A) {r : Int} (hr : inR8 r) : WO (sRk (aSt A)) (reg A r) := ao.1.2.1 r.toNat (by unfold inR8 at hr; omega)
set_option maxRecDepth 100000 in
theorem q_areInverse {r s : Int} (h : RI σ y A) (ir : InR r) (is : InR s) (ao : AO A) (hQ : RQ σ y (o_areInverse A r s) Q) : zM Γ mX10_areInverse [vR (some y), vI r, vI s] σ Q := by
  refine zM_of (n := 0) (by decide +kernel) rfl rfl rfl ?_
  refine zW_aload_n dX10_areInverse_0 rfl ?_
  refine zW_iconst dX10_areInverse_1 ?_
  refine zpI dX10_areInverse_2 fX10_75 h.1.1 rfl (Or.inl rfl) (zst_int _) ?_
  have m0 : Mr σ (sO σ y 0 0) y KS RS := Mr.O (by decide)
  have h0 := h.mr m0
  have t0 : zO (sO σ y 0 0) y 0 = 0 := zO_sOs _ _ _ _
  generalize sO σ y 0 0 = σ0 at m0 h0 t0 ⊢
  have a0 : RA σ0 y 0 := h0.ra
  refine zW_iload_n dX10_areInverse_5 rfl ?_
  refine zW_iload_n dX10_areInverse_6 rfl ?_
  refine zcS2 dX10_areInverse_7 rfl eX10_areRegisters b1510 ⟨by decide, by decide, by decide, by decide⟩ rfl (Nat.le_of_ble_eq_true rfl) (r_areRegisters ir is (fun g g' => ?_) (fun g => ?_))
  · have hw := h0.rw g
    have hv := h0.rw g'
    have hb := r8b g
    have hb2 := r8b g'
    have hl := hw.2.1
    have hl2 := hv.2.1
    refine zW_if_ne (tgt := 28) dX10_areInverse_10 (by decide) (by first | assumption | omega | (unfold InR; omega) | (unfold InL; omega) | (simp only [InR] at *; omega)) (fun q => ?_) (fun q => ?_)
    · refine zW_aload_n dX10_areInverse_28 rfl ?_
      refine zW_iload_n dX10_areInverse_29 rfl ?_
      refine zcS1 dX10_areInverse_30 rfl eX10_register b1455 ⟨by decide, by decide, by decide, by decide⟩ rfl (Nat.le_of_ble_eq_true rfl) (r_register g ?_)
      refine zW_iload_n dX10_areInverse_33 rfl ?_
      refine zcS1 dX10_areInverse_34 rfl eX10_register b1455 ⟨by decide, by decide, by decide, by decide⟩ rfl (Nat.le_of_ble_eq_true rfl) (r_register g' ?_)
      have R1 := (ao.rr g).1
      have R2 := (ao.rr g').1
      have hc := pws_cnc_len R1 R2
      have hcl := cnc_le (reg A r) (reg A s)
      refine zcV2 dX10_areInverse_37 rfl eX10_products b1521 ⟨by decide, by decide, by decide, by decide⟩ rfl a0.1.1 rfl (by decide) (Nat.le_of_ble_eq_true rfl) (r_products a0 hw hv hb hb2 (fun σ1 hp m1 => ?_))
      rw [pws_r R1] at hp
      have hpl := hp.2.1
      have k1 := a0.1.mr m1
      refine zW_aload_n dX10_areInverse_40 rfl ?_
      refine zgI dX10_areInverse_41 fX10_101 k1.1 rfl hp.1 ?_
      have m01 : Mr σ σ1 y KS RS := m0.th m1 (by decide) (by decide)
      have t1 : zO σ1 y 0 = 0 := by rw [m1.o (by decide)]; exact t0
      refine zW_if_ne (tgt := 51) dX10_areInverse_44 (by decide) (by first | assumption | omega | (unfold InR; omega) | (unfold InL; omega) | (simp only [InR] at *; omega)) (fun q2 => ?_) (fun q2 => ?_)
      · refine zW_iconst dX10_areInverse_51 ?_
        refine zW_ireturn dX10_areInverse_52 rfl rfl (by first | decide | (show _ ≤ (0 : Nat); omega)) (by first | decide | (show _ ≤ (0 : Nat); omega)) ?_
        exact hQ.ask ((g2_yes g g').trans (by rw [if_neg (by omega)])) h m01 t1
      · refine zW_iconst dX10_areInverse_47 ?_
        refine zW_goto (tgt := 52) dX10_areInverse_48 (by decide) ?_
        refine zW_ireturn dX10_areInverse_52 rfl rfl (by first | decide | (show _ ≤ (0 : Nat); omega)) (by first | decide | (show _ ≤ (0 : Nat); omega)) ?_
        exact hQ.ask ((g2_yes g g').trans (by rw [if_pos (by omega)])) h m01 t1
    · exact absurd q (by decide)
  · refine zW_if_ne (tgt := 28) dX10_areInverse_10 (by decide) (by first | assumption | omega | (unfold InR; omega) | (unfold InL; omega) | (simp only [InR] at *; omega)) (fun q => ?_) (fun q => ?_)
    · exact absurd rfl q
    · refine zW_aload_n dX10_areInverse_13 rfl ?_
      refine zW_iconst dX10_areInverse_14 ?_
      refine zcV1 dX10_areInverse_15 rfl eX10_fails b1371 ⟨by decide, by decide, by decide, by decide⟩ rfl a0.1.1 rfl (by decide) (Nat.le_of_ble_eq_true rfl) (r_fails a0.1 ?_)
      refine zW_iconst dX10_areInverse_18 ?_
      refine zW_icmp_ne (tgt := 26) dX10_areInverse_19 (by decide) (by first | assumption | omega | (unfold InR; omega) | (unfold InL; omega) | (simp only [InR] at *; omega)) (by first | assumption | omega | (unfold InR; omega) | (unfold InL; omega) | (simp only [InR] at *; omega)) (fun b1 => ?_) (fun b1 => ?_)
      · refine zW_iconst dX10_areInverse_26 ?_
        refine zW_ireturn dX10_areInverse_27 rfl rfl (by first | decide | (show _ ≤ (0 : Nat); omega)) (by first | decide | (show _ ≤ (0 : Nat); omega)) ?_
        exact hQ.bad (k := 0) (g2_no g) h (m0.th (Mr.O (Ks := KS) (Rs := RS) (by decide)) (fun _ z => z) (fun _ z => z)) (zO_sOs _ _ _ _)
      · exact absurd b1 (by decide)
set_option maxRecDepth 100000 in
theorem q_cancellation {r s : Int} (h : RI σ y A) (ir : InR r) (is : InR s) (ao : AO A) (hQ : RQ σ y (o_cancellation A r s) Q) : zM Γ mX10_cancellation [vR (some y), vI r, vI s] σ Q := by
  refine zM_of (n := 0) (by decide +kernel) rfl rfl rfl ?_
  refine zW_aload_n dX10_cancellation_0 rfl ?_
  refine zW_iconst dX10_cancellation_1 ?_
  refine zpI dX10_cancellation_2 fX10_75 h.1.1 rfl (Or.inl rfl) (zst_int _) ?_
  have m0 : Mr σ (sO σ y 0 0) y KS RS := Mr.O (by decide)
  have h0 := h.mr m0
  have t0 : zO (sO σ y 0 0) y 0 = 0 := zO_sOs _ _ _ _
  generalize sO σ y 0 0 = σ0 at m0 h0 t0 ⊢
  have a0 : RA σ0 y 0 := h0.ra
  refine zW_iload_n dX10_cancellation_5 rfl ?_
  refine zW_iload_n dX10_cancellation_6 rfl ?_
  refine zcS2 dX10_cancellation_7 rfl eX10_areRegisters b1510 ⟨by decide, by decide, by decide, by decide⟩ rfl (Nat.le_of_ble_eq_true rfl) (r_areRegisters ir is (fun g g' => ?_) (fun g => ?_))
  · have hw := h0.rw g
    have hv := h0.rw g'
    have hb := r8b g
    have hb2 := r8b g'
    have hl := hw.2.1
    have hl2 := hv.2.1
    refine zW_if_ne (tgt := 19) dX10_cancellation_10 (by decide) (by first | assumption | omega | (unfold InR; omega) | (unfold InL; omega) | (simp only [InR] at *; omega)) (fun q => ?_) (fun q => ?_)
    · refine zW_aload_n dX10_cancellation_19 rfl ?_
      refine zW_iload_n dX10_cancellation_20 rfl ?_
      refine zcS1 dX10_cancellation_21 rfl eX10_register b1455 ⟨by decide, by decide, by decide, by decide⟩ rfl (Nat.le_of_ble_eq_true rfl) (r_register g ?_)
      refine zW_iload_n dX10_cancellation_24 rfl ?_
      refine zcS1 dX10_cancellation_25 rfl eX10_register b1455 ⟨by decide, by decide, by decide, by decide⟩ rfl (Nat.le_of_ble_eq_true rfl) (r_register g' ?_)
      have R1 := (ao.rr g).1
      have R2 := (ao.rr g').1
      have hc := pws_cnc_len R1 R2
      have hcl := cnc_le (reg A r) (reg A s)
      refine zcV2 dX10_cancellation_28 rfl eX10_products b1521 ⟨by decide, by decide, by decide, by decide⟩ rfl a0.1.1 rfl (by decide) (Nat.le_of_ble_eq_true rfl) (r_products a0 hw hv hb hb2 (fun σ1 hp m1 => ?_))
      rw [pws_r R1] at hp
      have hpl := hp.2.1
      have a1 := a0.mr m1
      have hw1 := hw.mr m1
      have hv1 := hv.mr m1
      have m01 : Mr σ σ1 y KS RS := m0.th m1 (by decide) (by decide)
      have t1 : zO σ1 y 0 = 0 := by rw [m1.o (by decide)]; exact t0
      refine zW_aload_n dX10_cancellation_31 rfl ?_
      refine zW_iload_n dX10_cancellation_32 rfl ?_
      refine zcS1 dX10_cancellation_33 rfl eX10_register b1455 ⟨by decide, by decide, by decide, by decide⟩ rfl (Nat.le_of_ble_eq_true rfl) (r_register g ?_)
      refine zcV1 dX10_cancellation_36 rfl eX10_get b1443 ⟨by decide, by decide, by decide, by decide⟩ rfl a1.1.1 rfl (by decide) (Nat.le_of_ble_eq_true rfl) (r_get a1 (by omega) hw1.1 ?_)
      refine zW_aload_n dX10_cancellation_39 rfl ?_
      refine zW_iload_n dX10_cancellation_40 rfl ?_
      refine zcS1 dX10_cancellation_41 rfl eX10_register b1455 ⟨by decide, by decide, by decide, by decide⟩ rfl (Nat.le_of_ble_eq_true rfl) (r_register g' ?_)
      refine zcV1 dX10_cancellation_44 rfl eX10_get b1443 ⟨by decide, by decide, by decide, by decide⟩ rfl a1.1.1 rfl (by decide) (Nat.le_of_ble_eq_true rfl) (r_get a1 (by omega) hv1.1 ?_)
      refine zW_iadd dX10_cancellation_47 ?_
      refine zW_aload_n dX10_cancellation_48 rfl ?_
      refine zgI dX10_cancellation_49 fX10_101 a1.1.1 rfl hp.1 ?_
      refine zW_isub dX10_cancellation_52 ?_
      refine zW_iconst dX10_cancellation_53 ?_
      refine zW_idiv dX10_cancellation_54 (by first | assumption | omega | (unfold InR; omega) | (unfold InL; omega) | (simp only [InR] at *; omega)) (by first | assumption | omega | (unfold InR; omega) | (unfold InL; omega) | (simp only [InR] at *; omega)) (by first | assumption | omega | (unfold InR; omega) | (unfold InL; omega) | (simp only [InR] at *; omega)) (by first | assumption | omega | (unfold InR; omega) | (unfold InL; omega) | (simp only [InR] at *; omega)) ?_
      refine zW_ireturn dX10_cancellation_55 rfl rfl (by first | decide | (show _ ≤ (0 : Nat); omega)) (by first | decide | (show _ ≤ (0 : Nat); omega)) ?_
      have e9 : (((reg A r).length : Int) + (reg A s).length - (pws (reg A r) (reg A s)).length) / 2 = (cnc (reg A r) (reg A s) : Nat) := by omega
      rw [e9]
      exact hQ.ask (g2_yes g g') h m01 t1
    · exact absurd q (by decide)
  · refine zW_if_ne (tgt := 19) dX10_cancellation_10 (by decide) (by first | assumption | omega | (unfold InR; omega) | (unfold InL; omega) | (simp only [InR] at *; omega)) (fun q => ?_) (fun q => ?_)
    · exact absurd rfl q
    · refine zW_aload_n dX10_cancellation_13 rfl ?_
      refine zW_iconst dX10_cancellation_14 ?_
      refine zcV1 dX10_cancellation_15 rfl eX10_fails b1371 ⟨by decide, by decide, by decide, by decide⟩ rfl a0.1.1 rfl (by decide) (Nat.le_of_ble_eq_true rfl) (r_fails a0.1 ?_)
      refine zW_ireturn dX10_cancellation_18 rfl rfl (by first | decide | (show _ ≤ (0 : Nat); omega)) (by first | decide | (show _ ≤ (0 : Nat); omega)) ?_
      exact hQ.bad (k := 0) (g2_no g) h (m0.th (Mr.O (Ks := KS) (Rs := RS) (by decide)) (fun _ z => z) (fun _ z => z)) (zO_sOs _ _ _ _)
set_option maxRecDepth 100000 in
theorem q_areConjugate {r s : Int} (h : RI σ y A) (ir : InR r) (is : InR s) (hQ : RQ σ y (o_areConjugate A r s) Q) : zM Γ mX10_areConjugate [vR (some y), vI r, vI s] σ Q := by
  refine zM_of (n := 0) (by decide +kernel) rfl rfl rfl ?_
  refine zW_aload_n dX10_areConjugate_0 rfl ?_
  refine zW_iconst dX10_areConjugate_1 ?_
  refine zpI dX10_areConjugate_2 fX10_75 h.1.1 rfl (Or.inl rfl) (zst_int _) ?_
  have m0 : Mr σ (sO σ y 0 0) y KS RS := Mr.O (by decide)
  have h0 := h.mr m0
  have t0 : zO (sO σ y 0 0) y 0 = 0 := zO_sOs _ _ _ _
  generalize sO σ y 0 0 = σ0 at m0 h0 t0 ⊢
  have a0 : RA σ0 y 0 := h0.ra
  refine zW_iload_n dX10_areConjugate_5 rfl ?_
  refine zW_iload_n dX10_areConjugate_6 rfl ?_
  refine zcS2 dX10_areConjugate_7 rfl eX10_areRegisters b1510 ⟨by decide, by decide, by decide, by decide⟩ rfl (Nat.le_of_ble_eq_true rfl) (r_areRegisters ir is (fun g g' => ?_) (fun g => ?_))
  · have hw := h0.rw g
    have hv := h0.rw g'
    have hb := r8b g
    have hb2 := r8b g'
    have hl := hw.2.1
    have hl2 := hv.2.1
    refine zW_if_eq (tgt := 37) dX10_areConjugate_10 (by decide) (by first | assumption | omega | (unfold InR; omega) | (unfold InL; omega) | (simp only [InR] at *; omega)) (fun q => ?_) (fun q => ?_)
    · exact absurd q (by decide)
    · refine zW_aload_n dX10_areConjugate_13 rfl ?_
      refine zW_iload_n dX10_areConjugate_14 rfl ?_
      refine zcS1 dX10_areConjugate_15 rfl eX10_register b1455 ⟨by decide, by decide, by decide, by decide⟩ rfl (Nat.le_of_ble_eq_true rfl) (r_register g ?_)
      refine zW_iload_n dX10_areConjugate_18 rfl ?_
      refine zcS1 dX10_areConjugate_19 rfl eX10_register b1455 ⟨by decide, by decide, by decide, by decide⟩ rfl (Nat.le_of_ble_eq_true rfl) (r_register g' ?_)
      refine zcV2 dX10_areConjugate_22 rfl eX10_rotationOf b1578 ⟨by decide, by decide, by decide, by decide⟩ rfl a0.1.1 rfl (by decide) (Nat.le_of_ble_eq_true rfl) (r_rotationOf a0 hw hv hb hb2 ?_)
      have hsr := srot_in (reg A r) (reg A s)
      have c1 : crl (reg A r) ≤ (reg A r).length := Nat.sub_le _ _
      refine zW_iconst dX10_areConjugate_25 ?_
      refine zW_icmp_eq (tgt := 33) dX10_areConjugate_26 (by decide) (by first | assumption | omega | (unfold InR; omega) | (unfold InL; omega) | (simp only [InR] at *; omega)) (by first | assumption | omega | (unfold InR; omega) | (unfold InL; omega) | (simp only [InR] at *; omega)) (fun q2 => ?_) (fun q2 => ?_)
      · refine zW_iconst dX10_areConjugate_33 ?_
        refine zW_goto (tgt := 51) dX10_areConjugate_34 (by decide) ?_
        refine zW_ireturn dX10_areConjugate_51 rfl rfl (by first | decide | (show _ ≤ (0 : Nat); omega)) (by first | decide | (show _ ≤ (0 : Nat); omega)) ?_
        exact hQ.ask ((g2_yes g g').trans (by rw [if_pos q2])) h m0 t0
      · refine zW_iconst dX10_areConjugate_29 ?_
        refine zW_goto (tgt := 51) dX10_areConjugate_30 (by decide) ?_
        refine zW_ireturn dX10_areConjugate_51 rfl rfl (by first | decide | (show _ ≤ (0 : Nat); omega)) (by first | decide | (show _ ≤ (0 : Nat); omega)) ?_
        exact hQ.ask ((g2_yes g g').trans (by rw [if_neg q2])) h m0 t0
  · refine zW_if_eq (tgt := 37) dX10_areConjugate_10 (by decide) (by first | assumption | omega | (unfold InR; omega) | (unfold InL; omega) | (simp only [InR] at *; omega)) (fun q => ?_) (fun q => ?_)
    · refine zW_aload_n dX10_areConjugate_37 rfl ?_
      refine zW_iconst dX10_areConjugate_38 ?_
      refine zcV1 dX10_areConjugate_39 rfl eX10_fails b1371 ⟨by decide, by decide, by decide, by decide⟩ rfl a0.1.1 rfl (by decide) (Nat.le_of_ble_eq_true rfl) (r_fails a0.1 ?_)
      refine zW_iconst dX10_areConjugate_42 ?_
      refine zW_icmp_ne (tgt := 50) dX10_areConjugate_43 (by decide) (by first | assumption | omega | (unfold InR; omega) | (unfold InL; omega) | (simp only [InR] at *; omega)) (by first | assumption | omega | (unfold InR; omega) | (unfold InL; omega) | (simp only [InR] at *; omega)) (fun b1 => ?_) (fun b1 => ?_)
      · refine zW_iconst dX10_areConjugate_50 ?_
        refine zW_ireturn dX10_areConjugate_51 rfl rfl (by first | decide | (show _ ≤ (0 : Nat); omega)) (by first | decide | (show _ ≤ (0 : Nat); omega)) ?_
        exact hQ.bad (k := 0) (g2_no g) h (m0.th (Mr.O (Ks := KS) (Rs := RS) (by decide)) (fun _ z => z) (fun _ z => z)) (zO_sOs _ _ _ _)
      · exact absurd b1 (by decide)
    · exact absurd rfl q
set_option maxRecDepth 100000 in
theorem o_rotation_no {r s : Int} (h : ¬ (inR8 r ∧ inR8 s)) : o_rotation A r s = (1, 0, A) := by
  unfold o_rotation
  by_cases g : inR8 r
  · rw [if_pos g, if_neg (fun z => h ⟨g, z⟩)]
  · rw [if_neg g]
set_option maxRecDepth 100000 in
theorem q_rotation {r s : Int} (h : RI σ y A) (ir : InR r) (is : InR s) (hQ : RQ σ y (o_rotation A r s) Q) : zM Γ mX10_rotation [vR (some y), vI r, vI s] σ Q := by
  refine zM_of (n := 1) (by decide +kernel) rfl rfl rfl ?_
  refine zW_aload_n dX10_rotation_0 rfl ?_
  refine zW_iconst dX10_rotation_1 ?_
  refine zpI dX10_rotation_2 fX10_75 h.1.1 rfl (Or.inl rfl) (zst_int _) ?_
  have m0 : Mr σ (sO σ y 0 0) y KS RS := Mr.O (by decide)
  have h0 := h.mr m0
  have t0 : zO (sO σ y 0 0) y 0 = 0 := zO_sOs _ _ _ _
  generalize sO σ y 0 0 = σ0 at m0 h0 t0 ⊢
  have a0 : RA σ0 y 0 := h0.ra
  refine zW_iload_n dX10_rotation_5 rfl ?_
  refine zW_iload_n dX10_rotation_6 rfl ?_
  refine zcS2 dX10_rotation_7 rfl eX10_areRegisters b1510 ⟨by decide, by decide, by decide, by decide⟩ rfl (Nat.le_of_ble_eq_true rfl) (r_areRegisters ir is (fun g g' => ?_) (fun g => ?_))
  · have hw := h0.rw g
    have hv := h0.rw g'
    have hb := r8b g
    have hb2 := r8b g'
    have hl := hw.2.1
    have hl2 := hv.2.1
    refine zW_if_ne (tgt := 19) dX10_rotation_10 (by decide) (by first | assumption | omega | (unfold InR; omega) | (unfold InL; omega) | (simp only [InR] at *; omega)) (fun q => ?_) (fun q => ?_)
    · refine zW_aload_n dX10_rotation_19 rfl ?_
      refine zW_iload_n dX10_rotation_20 rfl ?_
      refine zcS1 dX10_rotation_21 rfl eX10_register b1455 ⟨by decide, by decide, by decide, by decide⟩ rfl (Nat.le_of_ble_eq_true rfl) (r_register g ?_)
      refine zW_iload_n dX10_rotation_24 rfl ?_
      refine zcS1 dX10_rotation_25 rfl eX10_register b1455 ⟨by decide, by decide, by decide, by decide⟩ rfl (Nat.le_of_ble_eq_true rfl) (r_register g' ?_)
      refine zcV2 dX10_rotation_28 rfl eX10_rotationOf b1578 ⟨by decide, by decide, by decide, by decide⟩ rfl a0.1.1 rfl (by decide) (Nat.le_of_ble_eq_true rfl) (r_rotationOf a0 hw hv hb hb2 ?_)
      have hsr := srot_in (reg A r) (reg A s)
      have c1 : crl (reg A r) ≤ (reg A r).length := Nat.sub_le _ _
      refine zW_istore_n dX10_rotation_31 (by decide) rfl rfl ?_
      refine zW_iload_n dX10_rotation_32 rfl ?_
      refine zW_iconst dX10_rotation_33 ?_
      refine zW_icmp_ne (tgt := 45) dX10_rotation_34 (by decide) (by first | assumption | omega | (unfold InR; omega) | (unfold InL; omega) | (simp only [InR] at *; omega)) (by first | assumption | omega | (unfold InR; omega) | (unfold InL; omega) | (simp only [InR] at *; omega)) (fun q2 => ?_) (fun q2 => ?_)
      · refine zW_iload_n dX10_rotation_45 rfl ?_
        refine zW_ireturn dX10_rotation_46 rfl rfl (by first | decide | (show _ ≤ (0 : Nat); omega)) (by first | decide | (show _ ≤ (0 : Nat); omega)) ?_
        exact hQ.ask (by unfold o_rotation; rw [if_pos g, if_pos g', if_neg q2]) h m0 t0
      · refine zW_aload_n dX10_rotation_37 rfl ?_
        refine zW_iconst dX10_rotation_38 ?_
        refine zcV1 dX10_rotation_39 rfl eX10_fails b1371 ⟨by decide, by decide, by decide, by decide⟩ rfl a0.1.1 rfl (by decide) (Nat.le_of_ble_eq_true rfl) (r_fails a0.1 ?_)
        refine zW_goto (tgt := 46) dX10_rotation_42 (by decide) ?_
        refine zW_ireturn dX10_rotation_46 rfl rfl (by first | decide | (show _ ≤ (0 : Nat); omega)) (by first | decide | (show _ ≤ (0 : Nat); omega)) ?_
        exact hQ.bad (k := 1) (by unfold o_rotation; rw [if_pos g, if_pos g', if_pos q2]) h (m0.th (Mr.O (Ks := KS) (Rs := RS) (by decide)) (fun _ z => z) (fun _ z => z)) (zO_sOs _ _ _ _)
    · exact absurd q (by decide)
  · refine zW_if_ne (tgt := 19) dX10_rotation_10 (by decide) (by first | assumption | omega | (unfold InR; omega) | (unfold InL; omega) | (simp only [InR] at *; omega)) (fun q => ?_) (fun q => ?_)
    · exact absurd rfl q
    · refine zW_aload_n dX10_rotation_13 rfl ?_
      refine zW_iconst dX10_rotation_14 ?_
      refine zcV1 dX10_rotation_15 rfl eX10_fails b1371 ⟨by decide, by decide, by decide, by decide⟩ rfl a0.1.1 rfl (by decide) (Nat.le_of_ble_eq_true rfl) (r_fails a0.1 ?_)
      refine zW_ireturn dX10_rotation_18 rfl rfl (by first | decide | (show _ ≤ (0 : Nat); omega)) (by first | decide | (show _ ≤ (0 : Nat); omega)) ?_
      exact hQ.bad (k := 0) (o_rotation_no g) h (m0.th (Mr.O (Ks := KS) (Rs := RS) (by decide)) (fun _ z => z) (fun _ z => z)) (zO_sOs _ _ _ _)
set_option maxRecDepth 100000 in
theorem q_commonPrefix {r s : Int} (h : RI σ y A) (ir : InR r) (is : InR s) (hQ : RQ σ y (o_commonPrefix A r s) Q) : zM Γ mX10_commonPrefix [vR (some y), vI r, vI s] σ Q := by
  refine zM_of (n := 2) (by decide +kernel) rfl rfl rfl ?_
  refine zW_aload_n dX10_commonPrefix_0 rfl ?_
  refine zW_iconst dX10_commonPrefix_1 ?_
  refine zpI dX10_commonPrefix_2 fX10_75 h.1.1 rfl (Or.inl rfl) (zst_int _) ?_
  have m0 : Mr σ (sO σ y 0 0) y KS RS := Mr.O (by decide)
  have h0 := h.mr m0
  have t0 : zO (sO σ y 0 0) y 0 = 0 := zO_sOs _ _ _ _
  generalize sO σ y 0 0 = σ0 at m0 h0 t0 ⊢
  have a0 : RA σ0 y 0 := h0.ra
  refine zW_iload_n dX10_commonPrefix_5 rfl ?_
  refine zW_iload_n dX10_commonPrefix_6 rfl ?_
  refine zcS2 dX10_commonPrefix_7 rfl eX10_areRegisters b1510 ⟨by decide, by decide, by decide, by decide⟩ rfl (Nat.le_of_ble_eq_true rfl) (r_areRegisters ir is (fun g g' => ?_) (fun g => ?_))
  · have hw := h0.rw g
    have hv := h0.rw g'
    have hb := r8b g
    have hb2 := r8b g'
    have hl := hw.2.1
    have hl2 := hv.2.1
    refine zW_if_ne (tgt := 19) dX10_commonPrefix_10 (by decide) (by first | assumption | omega | (unfold InR; omega) | (unfold InL; omega) | (simp only [InR] at *; omega)) (fun q => ?_) (fun q => ?_)
    · refine zW_aload_n dX10_commonPrefix_19 rfl ?_
      refine zW_iload_n dX10_commonPrefix_20 rfl ?_
      refine zcS1 dX10_commonPrefix_21 rfl eX10_register b1455 ⟨by decide, by decide, by decide, by decide⟩ rfl (Nat.le_of_ble_eq_true rfl) (r_register g ?_)
      refine zcV1 dX10_commonPrefix_24 rfl eX10_get b1443 ⟨by decide, by decide, by decide, by decide⟩ rfl a0.1.1 rfl (by decide) (Nat.le_of_ble_eq_true rfl) (r_get a0 (by omega) hw.1 ?_)
      refine zW_aload_n dX10_commonPrefix_27 rfl ?_
      refine zW_iload_n dX10_commonPrefix_28 rfl ?_
      refine zcS1 dX10_commonPrefix_29 rfl eX10_register b1455 ⟨by decide, by decide, by decide, by decide⟩ rfl (Nat.le_of_ble_eq_true rfl) (r_register g' ?_)
      refine zcV1 dX10_commonPrefix_32 rfl eX10_get b1443 ⟨by decide, by decide, by decide, by decide⟩ rfl a0.1.1 rfl (by decide) (Nat.le_of_ble_eq_true rfl) (r_get a0 (by omega) hv.1 ?_)
      have emn : min ((reg A r).length : Int) ((reg A s).length : Int) = (min (reg A r).length (reg A s).length : Nat) := by omega
      refine zW_mmin dX10_commonPrefix_35 (by first | assumption | omega | (unfold InR; omega) | (unfold InL; omega) | (simp only [InR] at *; omega)) (by first | assumption | omega | (unfold InR; omega) | (unfold InL; omega) | (simp only [InR] at *; omega)) b1545 b452 b4 b453 (Nat.le_of_ble_eq_true rfl) (Nat.le_of_ble_eq_true rfl) (Nat.le_of_ble_eq_true rfl) (Nat.le_of_ble_eq_true rfl) ?_
      rw [emn]
      have loop : ∀ n k, k + n = min (reg A r).length (reg A s).length → cpfF (reg A r) (reg A s) n k = cpf (reg A r) (reg A s) → zW Γ mX10_commonPrefix 42 [some (vR (some y)), some (vI r), some (vI s), some (vI (min (reg A r).length (reg A s).length : Nat)), some (vI k)] [] σ0 0 0 Q := by
        intro n
        induction n with
        | zero =>
          intro k hk e
          have e' : k = cpf (reg A r) (reg A s) := e
          refine zW_iload dX10_commonPrefix_42 rfl ?_
          refine zW_iload_n dX10_commonPrefix_44 rfl ?_
          refine zW_icmp_ge (tgt := 77) dX10_commonPrefix_45 (by decide) (by first | assumption | omega | (unfold InR; omega) | (unfold InL; omega) | (simp only [InR] at *; omega)) (by first | assumption | omega | (unfold InR; omega) | (unfold InL; omega) | (simp only [InR] at *; omega)) (fun z => ?_) (fun z => ?_)
          · refine zW_iload dX10_commonPrefix_77 rfl ?_
            refine zW_ireturn dX10_commonPrefix_79 rfl rfl (by first | decide | (show _ ≤ (0 : Nat); omega)) (by first | decide | (show _ ≤ (0 : Nat); omega)) ?_
            rw [e']
            exact hQ.ask (g2_yes g g') h m0 t0
          · exact absurd z (by omega)
        | succ n ih =>
          intro k hk e
          have e' : (if (reg A r).getD k 0 = (reg A s).getD k 0 then cpfF (reg A r) (reg A s) n (k + 1) else k) = cpf (reg A r) (reg A s) := e
          have x1 := getD_lt hw.2.2.2 (i := k) (by omega)
          have x2 := getD_lt hv.2.2.2 (i := k) (by omega)
          refine zW_iload dX10_commonPrefix_42 rfl ?_
          refine zW_iload_n dX10_commonPrefix_44 rfl ?_
          refine zW_icmp_ge (tgt := 77) dX10_commonPrefix_45 (by decide) (by first | assumption | omega | (unfold InR; omega) | (unfold InL; omega) | (simp only [InR] at *; omega)) (by first | assumption | omega | (unfold InR; omega) | (unfold InL; omega) | (simp only [InR] at *; omega)) (fun z => ?_) (fun z => ?_)
          · exact absurd z (by omega)
          · refine zW_aload_n dX10_commonPrefix_48 rfl ?_
            refine zW_iload_n dX10_commonPrefix_49 rfl ?_
            refine zcS1 dX10_commonPrefix_50 rfl eX10_register b1455 ⟨by decide, by decide, by decide, by decide⟩ rfl (Nat.le_of_ble_eq_true rfl) (r_register g ?_)
            refine zW_iload dX10_commonPrefix_53 rfl ?_
            refine zcV2 dX10_commonPrefix_55 rfl eX10_codeAt b1499 ⟨by decide, by decide, by decide, by decide⟩ rfl a0.1.1 rfl (by decide) (Nat.le_of_ble_eq_true rfl) (r_codeAt a0 hw (by omega) hb ?_)
            refine zW_aload_n dX10_commonPrefix_58 rfl ?_
            refine zW_iload_n dX10_commonPrefix_59 rfl ?_
            refine zcS1 dX10_commonPrefix_60 rfl eX10_register b1455 ⟨by decide, by decide, by decide, by decide⟩ rfl (Nat.le_of_ble_eq_true rfl) (r_register g' ?_)
            refine zW_iload dX10_commonPrefix_63 rfl ?_
            refine zcV2 dX10_commonPrefix_65 rfl eX10_codeAt b1499 ⟨by decide, by decide, by decide, by decide⟩ rfl a0.1.1 rfl (by decide) (Nat.le_of_ble_eq_true rfl) (r_codeAt a0 hv (by omega) hb2 ?_)
            refine zW_icmp_ne (tgt := 77) dX10_commonPrefix_68 (by decide) (by first | assumption | omega | (unfold InR; omega) | (unfold InL; omega) | (simp only [InR] at *; omega)) (by first | assumption | omega | (unfold InR; omega) | (unfold InL; omega) | (simp only [InR] at *; omega)) (fun z2 => ?_) (fun z2 => ?_)
            · rw [if_neg (by omega)] at e'
              refine zW_iload dX10_commonPrefix_77 rfl ?_
              refine zW_ireturn dX10_commonPrefix_79 rfl rfl (by first | decide | (show _ ≤ (0 : Nat); omega)) (by first | decide | (show _ ≤ (0 : Nat); omega)) ?_
              rw [e']
              exact hQ.ask (g2_yes g g') h m0 t0
            · rw [if_pos (by omega)] at e'
              refine zW_iinc dX10_commonPrefix_71 rfl (by decide) rfl rfl ?_
              refine zW_goto (tgt := 42) dX10_commonPrefix_74 (by decide) ?_
              exact ih (k + 1) (by omega) e'
      refine zW_istore_n dX10_commonPrefix_38 (by decide) rfl rfl ?_
      refine zW_iconst dX10_commonPrefix_39 ?_
      refine zW_istore dX10_commonPrefix_40 (by decide) rfl rfl ?_
      exact loop _ 0 (by omega) rfl
    · exact absurd q (by decide)
  · refine zW_if_ne (tgt := 19) dX10_commonPrefix_10 (by decide) (by first | assumption | omega | (unfold InR; omega) | (unfold InL; omega) | (simp only [InR] at *; omega)) (fun q => ?_) (fun q => ?_)
    · exact absurd rfl q
    · refine zW_aload_n dX10_commonPrefix_13 rfl ?_
      refine zW_iconst dX10_commonPrefix_14 ?_
      refine zcV1 dX10_commonPrefix_15 rfl eX10_fails b1371 ⟨by decide, by decide, by decide, by decide⟩ rfl a0.1.1 rfl (by decide) (Nat.le_of_ble_eq_true rfl) (r_fails a0.1 ?_)
      refine zW_ireturn dX10_commonPrefix_18 rfl rfl (by first | decide | (show _ ≤ (0 : Nat); omega)) (by first | decide | (show _ ≤ (0 : Nat); omega)) ?_
      exact hQ.bad (k := 0) (g2_no g) h (m0.th (Mr.O (Ks := KS) (Rs := RS) (by decide)) (fun _ z => z) (fun _ z => z)) (zO_sOs _ _ _ _)
/-- the other word that was worked out -/
def RO (σ : HS) (y : Nat) (l : List Nat) : Prop := zO σ y 15 = (l.length : Int) ∧ l.length ≤ 120 ∧ ∀ j, j < l.length → zI σ (y + 5) j = ((l.getD j 0 : Nat) : Int)
set_option maxRecDepth 100000 in
theorem list_ext {l m : List Nat} (h : l.length = m.length) (hg : ∀ j, j < l.length → l.getD j 0 = m.getD j 0) : l = m := by
  refine List.ext_getElem h (fun j h1 h2 => ?_)
  have := hg j h1
  rw [List.getD_eq_getElem?_getD, List.getD_eq_getElem?_getD, List.getElem?_eq_getElem h1, List.getElem?_eq_getElem h2] at this
  exact this
set_option maxRecDepth 100000 in
theorem q_doCommute {r s : Int} (h : RI σ y A) (ir : InR r) (is : InR s) (ao : AO A) (hQ : RQ σ y (o_doCommute A r s) Q) : zM Γ mX10_doCommute [vR (some y), vI r, vI s] σ Q := by
  refine zM_of (n := 2) (by decide +kernel) rfl rfl rfl ?_
  refine zW_aload_n dX10_doCommute_0 rfl ?_
  refine zW_iconst dX10_doCommute_1 ?_
  refine zpI dX10_doCommute_2 fX10_75 h.1.1 rfl (Or.inl rfl) (zst_int _) ?_
  have m0 : Mr σ (sO σ y 0 0) y KS RS := Mr.O (by decide)
  have h0 := h.mr m0
  have t0 : zO (sO σ y 0 0) y 0 = 0 := zO_sOs _ _ _ _
  generalize sO σ y 0 0 = σ0 at m0 h0 t0 ⊢
  have a0 : RA σ0 y 0 := h0.ra
  refine zW_iload_n dX10_doCommute_5 rfl ?_
  refine zW_iload_n dX10_doCommute_6 rfl ?_
  refine zcS2 dX10_doCommute_7 rfl eX10_areRegisters b1510 ⟨by decide, by decide, by decide, by decide⟩ rfl (Nat.le_of_ble_eq_true rfl) (r_areRegisters ir is (fun g g' => ?_) (fun g => ?_))
  · have hw := h0.rw g
    have hv := h0.rw g'
    have hb := r8b g
    have hb2 := r8b g'
    have hl := hw.2.1
    have hl2 := hv.2.1
    refine zW_if_ne (tgt := 28) dX10_doCommute_10 (by decide) (by first | assumption | omega | (unfold InR; omega) | (unfold InL; omega) | (simp only [InR] at *; omega)) (fun q => ?_) (fun q => ?_)
    · refine zW_aload_n dX10_doCommute_28 rfl ?_
      refine zW_iload_n dX10_doCommute_29 rfl ?_
      refine zcS1 dX10_doCommute_30 rfl eX10_register b1455 ⟨by decide, by decide, by decide, by decide⟩ rfl (Nat.le_of_ble_eq_true rfl) (r_register g ?_)
      refine zW_iload_n dX10_doCommute_33 rfl ?_
      refine zcS1 dX10_doCommute_34 rfl eX10_register b1455 ⟨by decide, by decide, by decide, by decide⟩ rfl (Nat.le_of_ble_eq_true rfl) (r_register g' ?_)
      have R1 := (ao.rr g).1
      have R2 := (ao.rr g').1
      refine zcV2 dX10_doCommute_37 rfl eX10_products b1521 ⟨by decide, by decide, by decide, by decide⟩ rfl a0.1.1 rfl (by decide) (Nat.le_of_ble_eq_true rfl) (r_products a0 hw hv hb hb2 (fun σ1 hp m1 => ?_))
      rw [pws_r R1] at hp
      have hpl := hp.2.1
      have L1 := pws_len (reg A s) (reg A r)
      have k1 := a0.1.mr m1
      refine zW_aload_n dX10_doCommute_40 rfl ?_
      refine zW_aload_n dX10_doCommute_41 rfl ?_
      refine zgI dX10_doCommute_42 fX10_101 k1.1 rfl hp.1 ?_
      refine zpI dX10_doCommute_45 fX10_307 k1.1 rfl (Or.inl rfl) (zst_int _) ?_
      have m2 : Mr σ1 (sO σ1 y 15 (pws (reg A r) (reg A s)).length) y [15] [5] := Mr.O (by decide)
      have hp2 : RP (sO σ1 y 15 (pws (reg A r) (reg A s)).length) y (pws (reg A r) (reg A s)) := hp.mr m2
      have hO : zO (sO σ1 y 15 (pws (reg A r) (reg A s)).length) y 15 = ((pws (reg A r) (reg A s)).length : Int) := zO_sOs _ _ _ _
      generalize sO σ1 y 15 (pws (reg A r) (reg A s)).length = σ2 at m2 hp2 hO ⊢
      have m12 : Mr σ0 σ2 y [13, 15] [4, 5] := (m1.wk (by decide) (by decide)).th m2 (by decide) (by decide)
      have loop1 : ∀ n k σ3, k + n = (pws (reg A r) (reg A s)).length → Mr σ2 σ3 y [] [5] → (∀ j, j < k → zI σ3 (y + 5) j = (((pws (reg A r) (reg A s)).getD j 0 : Nat) : Int)) → zW Γ mX10_doCommute 50 [some (vR (some y)), some (vI r), some (vI s), some (vI k), none] [] σ3 0 0 Q := by
        intro n
        induction n with
        | zero =>
          intro k σ3 hk m3 hall
          have m03 : Mr σ0 σ3 y [13, 15] [4, 5] := m12.th m3 (by decide) (by decide)
          have a3 := a0.mr m03
          have hp3 := hp2.mr m3
          have hw3 := hw.mr m03
          have hv3 := hv.mr m03
          have hO3 : RO σ3 y (pws (reg A r) (reg A s)) := ⟨by rw [m3.o (by decide)]; exact hO, by omega, fun j hj => hall j (by omega)⟩
          refine zW_iload_n dX10_doCommute_50 rfl ?_
          refine zW_aload_n dX10_doCommute_51 rfl ?_
          refine zgI dX10_doCommute_52 fX10_101 a3.1.1 rfl hp3.1 ?_
          refine zW_icmp_ge (tgt := 76) dX10_doCommute_55 (by decide) (by first | assumption | omega | (unfold InR; omega) | (unfold InL; omega) | (simp only [InR] at *; omega)) (by first | assumption | omega | (unfold InR; omega) | (unfold InL; omega) | (simp only [InR] at *; omega)) (fun z => ?_) (fun z => ?_)
          · refine zW_aload_n dX10_doCommute_76 rfl ?_
            refine zW_iload_n dX10_doCommute_77 rfl ?_
            refine zcS1 dX10_doCommute_78 rfl eX10_register b1455 ⟨by decide, by decide, by decide, by decide⟩ rfl (Nat.le_of_ble_eq_true rfl) (r_register g' ?_)
            refine zW_iload_n dX10_doCommute_81 rfl ?_
            refine zcS1 dX10_doCommute_82 rfl eX10_register b1455 ⟨by decide, by decide, by decide, by decide⟩ rfl (Nat.le_of_ble_eq_true rfl) (r_register g ?_)
            refine zcV2 dX10_doCommute_85 rfl eX10_products b1521 ⟨by decide, by decide, by decide, by decide⟩ rfl a3.1.1 rfl (by decide) (Nat.le_of_ble_eq_true rfl) (r_products a3 hv3 hw3 hb2 hb (fun σ4 hp4 m4 => ?_))
            rw [pws_r R2] at hp4
            have hpl4 := hp4.2.1
            have L4 := pws_len (reg A r) (reg A s)
            have k4 := a3.1.mr m4
            have hO4 : RO σ4 y (pws (reg A r) (reg A s)) := ⟨by rw [m4.o (by decide)]; exact hO3.1, hO3.2.1, fun j hj => by rw [m4.i (by decide)]; exact hO3.2.2 j hj⟩
            have m04 : Mr σ σ4 y KS RS := m0.th (m03.th m4 (by decide) (by decide)) (by decide) (by decide)
            have t4 : zO σ4 y 0 = 0 := by rw [m4.o (by decide), m03.o (by decide)]; exact t0
            have yes : pws (reg A s) (reg A r) = pws (reg A r) (reg A s) → Q (.inl (some (vI 1))) σ4 := fun e => hQ.ask ((g2_yes g g').trans (by rw [if_pos ((comw_iff R1 R2).mpr e.symm)])) h m04 t4
            have no : pws (reg A s) (reg A r) ≠ pws (reg A r) (reg A s) → Q (.inl (some (vI 0))) σ4 := fun e => hQ.ask ((g2_yes g g').trans (by rw [if_neg (fun z => e ((comw_iff R1 R2).mp z).symm)])) h m04 t4
            have out0 : ∀ k : Int, InR k → pws (reg A s) (reg A r) ≠ pws (reg A r) (reg A s) → zW Γ mX10_doCommute 108 [some (vR (some y)), some (vI r), some (vI s), some (vI 0), some (vI k)] [] σ4 0 0 Q := by
              intro k hk e
              refine zW_iload dX10_doCommute_108 rfl ?_
              refine zW_aload_n dX10_doCommute_110 rfl ?_
              refine zgI dX10_doCommute_111 fX10_101 k4.1 rfl hp4.1 ?_
              refine zW_icmp_ge (tgt := 150) dX10_doCommute_114 (by decide) (by first | assumption | omega | (unfold InR; omega) | (unfold InL; omega) | (simp only [InR] at *; omega)) (by first | assumption | omega | (unfold InR; omega) | (unfold InL; omega) | (simp only [InR] at *; omega)) (fun z => ?_) (fun z => ?_)
              · refine zW_iload_n dX10_doCommute_150 rfl ?_
                refine zW_ireturn dX10_doCommute_151 rfl rfl (by first | decide | (show _ ≤ (0 : Nat); omega)) (by first | decide | (show _ ≤ (0 : Nat); omega)) ?_
                exact no e
              · refine zW_iload_n dX10_doCommute_117 rfl ?_
                refine zW_if_eq (tgt := 150) dX10_doCommute_118 (by decide) (by first | assumption | omega | (unfold InR; omega) | (unfold InL; omega) | (simp only [InR] at *; omega)) (fun z2 => ?_) (fun z2 => ?_)
                · refine zW_iload_n dX10_doCommute_150 rfl ?_
                  refine zW_ireturn dX10_doCommute_151 rfl rfl (by first | decide | (show _ ≤ (0 : Nat); omega)) (by first | decide | (show _ ≤ (0 : Nat); omega)) ?_
                  exact no e
                · exact absurd rfl z2
            have loop2 : (pws (reg A s) (reg A r)).length = (pws (reg A r) (reg A s)).length → ∀ n k, k + n = (pws (reg A s) (reg A r)).length → (∀ j, j < k → (pws (reg A s) (reg A r)).getD j 0 = (pws (reg A r) (reg A s)).getD j 0) → zW Γ mX10_doCommute 108 [some (vR (some y)), some (vI r), some (vI s), some (vI 1), some (vI k)] [] σ4 0 0 Q := by
              intro he n
              induction n with
              | zero =>
                intro k hk hall
                refine zW_iload dX10_doCommute_108 rfl ?_
                refine zW_aload_n dX10_doCommute_110 rfl ?_
                refine zgI dX10_doCommute_111 fX10_101 k4.1 rfl hp4.1 ?_
                refine zW_icmp_ge (tgt := 150) dX10_doCommute_114 (by decide) (by first | assumption | omega | (unfold InR; omega) | (unfold InL; omega) | (simp only [InR] at *; omega)) (by first | assumption | omega | (unfold InR; omega) | (unfold InL; omega) | (simp only [InR] at *; omega)) (fun z => ?_) (fun z => ?_)
                · refine zW_iload_n dX10_doCommute_150 rfl ?_
                  refine zW_ireturn dX10_doCommute_151 rfl rfl (by first | decide | (show _ ≤ (0 : Nat); omega)) (by first | decide | (show _ ≤ (0 : Nat); omega)) ?_
                  exact yes (list_ext he (fun j hj => hall j (by omega)))
                · exact absurd z (by omega)
              | succ n ih =>
                intro k hk hall
                have x1 := getD_lt hp4.2.2.2 (i := k) (by omega)
                have x2 := getD_lt hp.2.2.2 (i := k) (by omega)
                refine zW_iload dX10_doCommute_108 rfl ?_
                refine zW_aload_n dX10_doCommute_110 rfl ?_
                refine zgI dX10_doCommute_111 fX10_101 k4.1 rfl hp4.1 ?_
                refine zW_icmp_ge (tgt := 150) dX10_doCommute_114 (by decide) (by first | assumption | omega | (unfold InR; omega) | (unfold InL; omega) | (simp only [InR] at *; omega)) (by first | assumption | omega | (unfold InR; omega) | (unfold InL; omega) | (simp only [InR] at *; omega)) (fun z => ?_) (fun z => ?_)
                · exact absurd z (by omega)
                · refine zW_iload_n dX10_doCommute_117 rfl ?_
                  refine zW_if_eq (tgt := 150) dX10_doCommute_118 (by decide) (by first | assumption | omega | (unfold InR; omega) | (unfold InL; omega) | (simp only [InR] at *; omega)) (fun z2 => ?_) (fun z2 => ?_)
                  · exact absurd z2 (by decide)
                  · refine zW_aload_n dX10_doCommute_121 rfl ?_
                    refine zgP dX10_doCommute_122 fX10_24 k4.1 rfl k4.p_other ?_
                    refine zW_iload dX10_doCommute_125 rfl ?_
                    refine zrI dX10_doCommute_127 k4.k_other (by first | assumption | omega | (unfold InR; omega) | (unfold InL; omega) | (simp only [InR] at *; omega)) (by first | assumption | omega | (unfold InR; omega) | (unfold InL; omega) | (simp only [InR] at *; omega)) (by first | assumption | omega | (unfold InR; omega) | (unfold InL; omega) | (simp only [InR] at *; omega)) (hO4.2.2 k (by omega)) ?_
                    refine zW_aload_n dX10_doCommute_128 rfl ?_
                    refine zgP dX10_doCommute_129 fX10_21 k4.1 rfl k4.p_work ?_
                    refine zW_iload dX10_doCommute_132 rfl ?_
                    refine zrI dX10_doCommute_134 k4.k_work (by first | assumption | omega | (unfold InR; omega) | (unfold InL; omega) | (simp only [InR] at *; omega)) (by first | assumption | omega | (unfold InR; omega) | (unfold InL; omega) | (simp only [InR] at *; omega)) (by first | assumption | omega | (unfold InR; omega) | (unfold InL; omega) | (simp only [InR] at *; omega)) (hp4.2.2.1 k (by omega)) ?_
                    refine zW_icmp_ne (tgt := 142) dX10_doCommute_135 (by decide) (by first | assumption | omega | (unfold InR; omega) | (unfold InL; omega) | (simp only [InR] at *; omega)) (by first | assumption | omega | (unfold InR; omega) | (unfold InL; omega) | (simp only [InR] at *; omega)) (fun z3 => ?_) (fun z3 => ?_)
                    · refine zW_iconst dX10_doCommute_142 ?_
                      refine zW_istore_n dX10_doCommute_143 (by decide) rfl rfl ?_
                      refine zW_iinc dX10_doCommute_144 rfl (by decide) rfl rfl ?_
                      refine zW_goto (tgt := 108) dX10_doCommute_147 (by decide) ?_
                      refine out0 _ (by unfold InR; omega) (fun e => z3 ?_)
                      rw [e]
                    · refine zW_iconst dX10_doCommute_138 ?_
                      refine zW_goto (tgt := 143) dX10_doCommute_139 (by decide) ?_
                      refine zW_istore_n dX10_doCommute_143 (by decide) rfl rfl ?_
                      refine zW_iinc dX10_doCommute_144 rfl (by decide) rfl rfl ?_
                      refine zW_goto (tgt := 108) dX10_doCommute_147 (by decide) ?_
                      refine ih (k + 1) (by omega) (fun j hj => ?_)
                      by_cases e : j = k
                      · rw [e]; omega
                      · exact hall j (by omega)
            refine zW_aload_n dX10_doCommute_88 rfl ?_
            refine zgI dX10_doCommute_89 fX10_101 k4.1 rfl hp4.1 ?_
            refine zW_aload_n dX10_doCommute_92 rfl ?_
            refine zgI dX10_doCommute_93 fX10_307 k4.1 rfl hO4.1 ?_
            refine zW_icmp_ne (tgt := 103) dX10_doCommute_96 (by decide) (by first | assumption | omega | (unfold InR; omega) | (unfold InL; omega) | (simp only [InR] at *; omega)) (by first | assumption | omega | (unfold InR; omega) | (unfold InL; omega) | (simp only [InR] at *; omega)) (fun z2 => ?_) (fun z2 => ?_)
            · refine zW_iconst dX10_doCommute_103 ?_
              refine zW_istore_n dX10_doCommute_104 (by decide) rfl rfl ?_
              refine zW_iconst dX10_doCommute_105 ?_
              refine zW_istore dX10_doCommute_106 (by decide) rfl rfl ?_
              exact out0 0 (by unfold InR; omega) (fun e => z2 (by rw [e]))
            · refine zW_iconst dX10_doCommute_99 ?_
              refine zW_goto (tgt := 104) dX10_doCommute_100 (by decide) ?_
              refine zW_istore_n dX10_doCommute_104 (by decide) rfl rfl ?_
              refine zW_iconst dX10_doCommute_105 ?_
              refine zW_istore dX10_doCommute_106 (by decide) rfl rfl ?_
              exact loop2 (by omega) _ 0 (by rw [Nat.zero_add]) (fun j hj => absurd hj (Nat.not_lt_zero j))
          · exact absurd z (by omega)
        | succ n ih =>
          intro k σ3 hk m3 hall
          have m03 : Mr σ0 σ3 y [13, 15] [4, 5] := m12.th m3 (by decide) (by decide)
          have a3 := a0.mr m03
          have hp3 := hp2.mr m3
          refine zW_iload_n dX10_doCommute_50 rfl ?_
          refine zW_aload_n dX10_doCommute_51 rfl ?_
          refine zgI dX10_doCommute_52 fX10_101 a3.1.1 rfl hp3.1 ?_
          refine zW_icmp_ge (tgt := 76) dX10_doCommute_55 (by decide) (by first | assumption | omega | (unfold InR; omega) | (unfold InL; omega) | (simp only [InR] at *; omega)) (by first | assumption | omega | (unfold InR; omega) | (unfold InL; omega) | (simp only [InR] at *; omega)) (fun z => ?_) (fun z => ?_)
          · exact absurd z (by omega)
          · refine zW_aload_n dX10_doCommute_58 rfl ?_
            refine zgP dX10_doCommute_59 fX10_24 a3.1.1 rfl a3.1.p_other ?_
            refine zW_iload_n dX10_doCommute_62 rfl ?_
            refine zW_aload_n dX10_doCommute_63 rfl ?_
            refine zgP dX10_doCommute_64 fX10_21 a3.1.1 rfl a3.1.p_work ?_
            refine zW_iload_n dX10_doCommute_67 rfl ?_
            refine zrI dX10_doCommute_68 a3.1.k_work (by first | assumption | omega | (unfold InR; omega) | (unfold InL; omega) | (simp only [InR] at *; omega)) (by first | assumption | omega | (unfold InR; omega) | (unfold InL; omega) | (simp only [InR] at *; omega)) (by first | assumption | omega | (unfold InR; omega) | (unfold InL; omega) | (simp only [InR] at *; omega)) (hp3.2.2.1 k (by omega)) ?_
            refine zW_iast dX10_doCommute_69 a3.1.k_other (by first | assumption | omega | (unfold InR; omega) | (unfold InL; omega) | (simp only [InR] at *; omega)) (by first | assumption | omega | (unfold InR; omega) | (unfold InL; omega) | (simp only [InR] at *; omega)) (by first | assumption | omega | (unfold InR; omega) | (unfold InL; omega) | (simp only [InR] at *; omega)) ?_
            refine zW_iinc dX10_doCommute_70 rfl (by decide) rfl rfl ?_
            refine zW_goto (tgt := 50) dX10_doCommute_73 (by decide) ?_
            refine ih (k + 1) _ (by omega) (m3.th (Mr.I (Ks := []) (Rs := [5]) (by decide)) (fun _ z => z) (fun _ z => z)) (fun j hj => ?_)
            by_cases e : j = k
            · rw [e, show ((k : Int)).toNat = k by omega, zI_sIs]
            · rw [zI_sIk _ _ _ _ (by omega)]; exact hall j (by omega)
      refine zW_iconst dX10_doCommute_48 ?_
      refine zW_istore_n dX10_doCommute_49 (by decide) rfl rfl ?_
      exact loop1 _ 0 σ2 (by rw [Nat.zero_add]) Mr.rf (fun j hj => absurd hj (Nat.not_lt_zero j))
    · exact absurd q (by decide)
  · refine zW_if_ne (tgt := 28) dX10_doCommute_10 (by decide) (by first | assumption | omega | (unfold InR; omega) | (unfold InL; omega) | (simp only [InR] at *; omega)) (fun q => ?_) (fun q => ?_)
    · exact absurd rfl q
    · refine zW_aload_n dX10_doCommute_13 rfl ?_
      refine zW_iconst dX10_doCommute_14 ?_
      refine zcV1 dX10_doCommute_15 rfl eX10_fails b1371 ⟨by decide, by decide, by decide, by decide⟩ rfl a0.1.1 rfl (by decide) (Nat.le_of_ble_eq_true rfl) (r_fails a0.1 ?_)
      refine zW_iconst dX10_doCommute_18 ?_
      refine zW_icmp_ne (tgt := 26) dX10_doCommute_19 (by decide) (by first | assumption | omega | (unfold InR; omega) | (unfold InL; omega) | (simp only [InR] at *; omega)) (by first | assumption | omega | (unfold InR; omega) | (unfold InL; omega) | (simp only [InR] at *; omega)) (fun b1 => ?_) (fun b1 => ?_)
      · refine zW_iconst dX10_doCommute_26 ?_
        refine zW_ireturn dX10_doCommute_27 rfl rfl (by first | decide | (show _ ≤ (0 : Nat); omega)) (by first | decide | (show _ ≤ (0 : Nat); omega)) ?_
        exact hQ.bad (k := 0) (g2_no g) h (m0.th (Mr.O (Ks := KS) (Rs := RS) (by decide)) (fun _ z => z) (fun _ z => z)) (zO_sOs _ _ _ _)
      · exact absurd b1 (by decide)
set_option maxRecDepth 100000 in
theorem RI.rk4 (ao : AO A) : sRk (aSt A) ≤ 4 := ao.1.1.2
set_option maxRecDepth 100000 in
theorem q_exponentSum {r i : Int} (h : RI σ y A) (ir : InR r) (ii : InR i) (ao : AO A) (hQ : RQ σ y (o_exponentSum A r i) Q) : zM Γ mX10_exponentSum [vR (some y), vI r, vI i] σ Q := by
  refine zM_of (n := 3) (by decide +kernel) rfl rfl rfl ?_
  refine zW_aload_n dX10_exponentSum_0 rfl ?_
  refine zW_iconst dX10_exponentSum_1 ?_
  refine zpI dX10_exponentSum_2 fX10_75 h.1.1 rfl (Or.inl rfl) (zst_int _) ?_
  have m0 : Mr σ (sO σ y 0 0) y KS RS := Mr.O (by decide)
  have h0 := h.mr m0
  have t0 : zO (sO σ y 0 0) y 0 = 0 := zO_sOs _ _ _ _
  generalize sO σ y 0 0 = σ0 at m0 h0 t0 ⊢
  have a0 : RA σ0 y 0 := h0.ra
  have bd : o_exponentSum A r i = (1, 0, A) → zW Γ mX10_exponentSum 20 [some (vR (some y)), some (vI r), some (vI i), none, none, none] [] σ0 0 0 Q := by
    intro ho
    refine zW_aload_n dX10_exponentSum_20 rfl ?_
    refine zW_iconst dX10_exponentSum_21 ?_
    refine zcV1 dX10_exponentSum_22 rfl eX10_fails b1371 ⟨by decide, by decide, by decide, by decide⟩ rfl a0.1.1 rfl (by decide) (Nat.le_of_ble_eq_true rfl) (r_fails a0.1 ?_)
    refine zW_ireturn dX10_exponentSum_25 rfl rfl (by first | decide | (show _ ≤ (0 : Nat); omega)) (by first | decide | (show _ ≤ (0 : Nat); omega)) ?_
    exact hQ.bad (k := 0) ho h (m0.th (Mr.O (Ks := KS) (Rs := RS) (by decide)) (fun _ z => z) (fun _ z => z)) (zO_sOs _ _ _ _)
  refine zW_iload_n dX10_exponentSum_5 rfl ?_
  refine zcS1 dX10_exponentSum_6 rfl eX10_isRegister b1492 ⟨by decide, by decide, by decide, by decide⟩ rfl (Nat.le_of_ble_eq_true rfl) (r_isRegister ir (fun g => ?_) (fun g => ?_))
  · have hw := h0.rw g
    have hb := r8b g
    have hl := hw.2.1
    refine zW_if_eq (tgt := 20) dX10_exponentSum_9 (by decide) (by first | assumption | omega | (unfold InR; omega) | (unfold InL; omega) | (simp only [InR] at *; omega)) (fun q => ?_) (fun q => ?_)
    · exact absurd q (by decide)
    · refine zW_aload_n dX10_exponentSum_12 rfl ?_
      refine zW_iload_n dX10_exponentSum_13 rfl ?_
      refine zcV1 dX10_exponentSum_14 rfl eX10_isGenerator b1537 ⟨by decide, by decide, by decide, by decide⟩ rfl a0.1.1 rfl (by decide) (Nat.le_of_ble_eq_true rfl) (r_isGenerator a0 ii h0.rk ao.1.1.2 (fun k => ?_) (fun k => ?_))
      · refine zW_if_ne (tgt := 26) dX10_exponentSum_17 (by decide) (by first | assumption | omega | (unfold InR; omega) | (unfold InL; omega) | (simp only [InR] at *; omega)) (fun q2 => ?_) (fun q2 => ?_)
        · have ho : o_exponentSum A r i = (0, exs i.toNat (reg A r), A) := by unfold o_exponentSum; rw [if_pos g, if_pos k]
          have loop : ∀ n k (a : Int) z, k + n = (reg A r).length → -(k : Int) ≤ a ∧ a ≤ k → (reg A r).foldl (ex1 i.toNat) 0 = ((reg A r).drop k).foldl (ex1 i.toNat) a → zW Γ mX10_exponentSum 31 [some (vR (some y)), some (vI r), some (vI i), some (vI a), some (vI k), z] [] σ0 0 0 Q := by
            intro n
            induction n with
            | zero =>
              intro k a z hk ha he
              rw [List.drop_eq_nil_of_le (by omega)] at he
              refine zW_iload dX10_exponentSum_31 rfl ?_
              refine zW_aload_n dX10_exponentSum_33 rfl ?_
              refine zW_iload_n dX10_exponentSum_34 rfl ?_
              refine zcS1 dX10_exponentSum_35 rfl eX10_register b1455 ⟨by decide, by decide, by decide, by decide⟩ rfl (Nat.le_of_ble_eq_true rfl) (r_register g ?_)
              refine zcV1 dX10_exponentSum_38 rfl eX10_get b1443 ⟨by decide, by decide, by decide, by decide⟩ rfl a0.1.1 rfl (by decide) (Nat.le_of_ble_eq_true rfl) (r_get a0 (by omega) hw.1 ?_)
              refine zW_icmp_ge (tgt := 85) dX10_exponentSum_41 (by decide) (by first | assumption | omega | (unfold InR; omega) | (unfold InL; omega) | (simp only [InR] at *; omega)) (by first | assumption | omega | (unfold InR; omega) | (unfold InL; omega) | (simp only [InR] at *; omega)) (fun q => ?_) (fun q => ?_)
              · refine zW_iload_n dX10_exponentSum_85 rfl ?_
                refine zW_ireturn dX10_exponentSum_86 rfl rfl (by first | decide | (show _ ≤ (0 : Nat); omega)) (by first | decide | (show _ ≤ (0 : Nat); omega)) ?_
                have e : exs i.toNat (reg A r) = a := he
                rw [e] at ho
                exact hQ.ask ho h m0 t0
              · exact absurd q (by omega)
            | succ n ih =>
              intro k a z hk ha he
              have hx := getD_lt hw.2.2.2 (i := k) (by omega)
              rw [drop_cons (i := k) (by omega)] at he
              have he' : (reg A r).foldl (ex1 i.toNat) 0 = ((reg A r).drop (k + 1)).foldl (ex1 i.toNat) (if (reg A r).getD k 0 / 2 = i.toNat then a + (if (reg A r).getD k 0 % 2 = 1 then -1 else 1) else a) := he
              refine zW_iload dX10_exponentSum_31 rfl ?_
              refine zW_aload_n dX10_exponentSum_33 rfl ?_
              refine zW_iload_n dX10_exponentSum_34 rfl ?_
              refine zcS1 dX10_exponentSum_35 rfl eX10_register b1455 ⟨by decide, by decide, by decide, by decide⟩ rfl (Nat.le_of_ble_eq_true rfl) (r_register g ?_)
              refine zcV1 dX10_exponentSum_38 rfl eX10_get b1443 ⟨by decide, by decide, by decide, by decide⟩ rfl a0.1.1 rfl (by decide) (Nat.le_of_ble_eq_true rfl) (r_get a0 (by omega) hw.1 ?_)
              refine zW_icmp_ge (tgt := 85) dX10_exponentSum_41 (by decide) (by first | assumption | omega | (unfold InR; omega) | (unfold InL; omega) | (simp only [InR] at *; omega)) (by first | assumption | omega | (unfold InR; omega) | (unfold InL; omega) | (simp only [InR] at *; omega)) (fun q => ?_) (fun q => ?_)
              · exact absurd q (by omega)
              · refine zW_aload_n dX10_exponentSum_44 rfl ?_
                refine zW_iload_n dX10_exponentSum_45 rfl ?_
                refine zcS1 dX10_exponentSum_46 rfl eX10_register b1455 ⟨by decide, by decide, by decide, by decide⟩ rfl (Nat.le_of_ble_eq_true rfl) (r_register g ?_)
                refine zW_iload dX10_exponentSum_49 rfl ?_
                refine zcV2 dX10_exponentSum_51 rfl eX10_codeAt b1499 ⟨by decide, by decide, by decide, by decide⟩ rfl a0.1.1 rfl (by decide) (Nat.le_of_ble_eq_true rfl) (r_codeAt a0 hw (by omega) hb ?_)
                refine zW_istore dX10_exponentSum_54 (by decide) rfl rfl ?_
                refine zW_iload dX10_exponentSum_56 rfl ?_
                refine zW_iconst dX10_exponentSum_58 ?_
                refine zW_idiv dX10_exponentSum_59 (by first | assumption | omega | (unfold InR; omega) | (unfold InL; omega) | (simp only [InR] at *; omega)) (by first | assumption | omega | (unfold InR; omega) | (unfold InL; omega) | (simp only [InR] at *; omega)) (by first | assumption | omega | (unfold InR; omega) | (unfold InL; omega) | (simp only [InR] at *; omega)) (by first | assumption | omega | (unfold InR; omega) | (unfold InL; omega) | (simp only [InR] at *; omega)) ?_
                refine zW_iload_n dX10_exponentSum_60 rfl ?_
                refine zW_icmp_ne (tgt := 79) dX10_exponentSum_61 (by decide) (by first | assumption | omega | (unfold InR; omega) | (unfold InL; omega) | (simp only [InR] at *; omega)) (by first | assumption | omega | (unfold InR; omega) | (unfold InL; omega) | (simp only [InR] at *; omega)) (fun q2 => ?_) (fun q2 => ?_)
                · rw [if_neg (by omega)] at he'
                  refine zW_iinc dX10_exponentSum_79 rfl (by decide) rfl rfl ?_
                  refine zW_goto (tgt := 31) dX10_exponentSum_82 (by decide) ?_
                  exact ih (k + 1) a _ (by omega) (by omega) he'
                · rw [if_pos (by omega)] at he'
                  refine zW_iload_n dX10_exponentSum_64 rfl ?_
                  refine zW_iload dX10_exponentSum_65 rfl ?_
                  refine zW_iconst dX10_exponentSum_67 ?_
                  refine zW_irem dX10_exponentSum_68 (by first | assumption | omega | (unfold InR; omega) | (unfold InL; omega) | (simp only [InR] at *; omega)) (by first | assumption | omega | (unfold InR; omega) | (unfold InL; omega) | (simp only [InR] at *; omega)) (by first | assumption | omega | (unfold InR; omega) | (unfold InL; omega) | (simp only [InR] at *; omega)) (by first | assumption | omega | (unfold InR; omega) | (unfold InL; omega) | (simp only [InR] at *; omega)) ?_
                  refine zW_if_ne (tgt := 76) dX10_exponentSum_69 (by decide) (by first | assumption | omega | (unfold InR; omega) | (unfold InL; omega) | (simp only [InR] at *; omega)) (fun q3 => ?_) (fun q3 => ?_)
                  · rw [if_pos (by omega)] at he'
                    refine zW_iconst dX10_exponentSum_76 ?_
                    refine zW_iadd dX10_exponentSum_77 ?_
                    refine zW_istore_n dX10_exponentSum_78 (by decide) rfl rfl ?_
                    refine zW_iinc dX10_exponentSum_79 rfl (by decide) rfl rfl ?_
                    refine zW_goto (tgt := 31) dX10_exponentSum_82 (by decide) ?_
                    exact ih (k + 1) (a + -1) _ (by omega) (by omega) he'
                  · rw [if_neg (by omega)] at he'
                    refine zW_iconst dX10_exponentSum_72 ?_
                    refine zW_goto (tgt := 77) dX10_exponentSum_73 (by decide) ?_
                    refine zW_iadd dX10_exponentSum_77 ?_
                    refine zW_istore_n dX10_exponentSum_78 (by decide) rfl rfl ?_
                    refine zW_iinc dX10_exponentSum_79 rfl (by decide) rfl rfl ?_
                    refine zW_goto (tgt := 31) dX10_exponentSum_82 (by decide) ?_
                    exact ih (k + 1) (a + 1) _ (by omega) (by omega) he'
          refine zW_iconst dX10_exponentSum_26 ?_
          refine zW_istore_n dX10_exponentSum_27 (by decide) rfl rfl ?_
          refine zW_iconst dX10_exponentSum_28 ?_
          refine zW_istore dX10_exponentSum_29 (by decide) rfl rfl ?_
          exact loop (reg A r).length 0 0 none (by omega) (by omega) (by rw [List.drop_zero])
        · exact absurd q2 (by decide)
      · refine zW_if_ne (tgt := 26) dX10_exponentSum_17 (by decide) (by first | assumption | omega | (unfold InR; omega) | (unfold InL; omega) | (simp only [InR] at *; omega)) (fun q2 => ?_) (fun q2 => ?_)
        · exact absurd rfl q2
        · exact bd (by unfold o_exponentSum; rw [if_pos g, if_neg k])
  · refine zW_if_eq (tgt := 20) dX10_exponentSum_9 (by decide) (by first | assumption | omega | (unfold InR; omega) | (unfold InL; omega) | (simp only [InR] at *; omega)) (fun q => ?_) (fun q => ?_)
    · exact bd (by unfold o_exponentSum; rw [if_neg g])
    · exact absurd rfl q
set_option maxRecDepth 100000 in
theorem q_rootExponent {r : Int} (h : RI σ y A) (ir : InR r) (ao : AO A) (hQ : RQ σ y (o_rootExponent A r) Q) : zM Γ mX10_rootExponent [vR (some y), vI r] σ Q := by
  refine zM_of (n := 0) (by decide +kernel) rfl rfl rfl ?_
  refine zW_aload_n dX10_rootExponent_0 rfl ?_
  refine zW_iconst dX10_rootExponent_1 ?_
  refine zpI dX10_rootExponent_2 fX10_75 h.1.1 rfl (Or.inl rfl) (zst_int _) ?_
  have m0 : Mr σ (sO σ y 0 0) y KS RS := Mr.O (by decide)
  have h0 := h.mr m0
  have t0 : zO (sO σ y 0 0) y 0 = 0 := zO_sOs _ _ _ _
  generalize sO σ y 0 0 = σ0 at m0 h0 t0 ⊢
  have a0 : RA σ0 y 0 := h0.ra
  refine zW_iload_n dX10_rootExponent_5 rfl ?_
  refine zcS1 dX10_rootExponent_6 rfl eX10_isRegister b1492 ⟨by decide, by decide, by decide, by decide⟩ rfl (Nat.le_of_ble_eq_true rfl) (r_isRegister ir (fun g => ?_) (fun g => ?_))
  · have hw := h0.rw g
    have hb := r8b g
    have hl := hw.2.1
    refine zW_if_ne (tgt := 18) dX10_rootExponent_9 (by decide) (by first | assumption | omega | (unfold InR; omega) | (unfold InL; omega) | (simp only [InR] at *; omega)) (fun q => ?_) (fun q => ?_)
    · refine zW_aload_n dX10_rootExponent_18 rfl ?_
      refine zW_iload_n dX10_rootExponent_19 rfl ?_
      refine zcS1 dX10_rootExponent_20 rfl eX10_register b1455 ⟨by decide, by decide, by decide, by decide⟩ rfl (Nat.le_of_ble_eq_true rfl) (r_register g ?_)
      refine zcV1 dX10_rootExponent_23 rfl eX10_get b1443 ⟨by decide, by decide, by decide, by decide⟩ rfl a0.1.1 rfl (by decide) (Nat.le_of_ble_eq_true rfl) (r_get a0 (by omega) hw.1 ?_)
      refine zW_if_ne (tgt := 35) dX10_rootExponent_26 (by decide) (by first | assumption | omega | (unfold InR; omega) | (unfold InL; omega) | (simp only [InR] at *; omega)) (fun q2 => ?_) (fun q2 => ?_)
      · have hne : reg A r ≠ [] := fun e => q2 (by rw [e]; rfl)
        have hcp := crl_pos (ao.rr g).1 hne
        have c1 : crl (reg A r) ≤ (reg A r).length := Nat.sub_le _ _
        refine zW_aload_n dX10_rootExponent_35 rfl ?_
        refine zW_iload_n dX10_rootExponent_36 rfl ?_
        refine zcS1 dX10_rootExponent_37 rfl eX10_register b1455 ⟨by decide, by decide, by decide, by decide⟩ rfl (Nat.le_of_ble_eq_true rfl) (r_register g ?_)
        refine zcV1 dX10_rootExponent_40 rfl eX10_coreOf b1558 ⟨by decide, by decide, by decide, by decide⟩ rfl a0.1.1 rfl (by decide) (Nat.le_of_ble_eq_true rfl) (r_coreOf a0 hw hb ?_)
        refine zW_aload_n dX10_rootExponent_43 rfl ?_
        refine zW_iload_n dX10_rootExponent_44 rfl ?_
        refine zcS1 dX10_rootExponent_45 rfl eX10_register b1455 ⟨by decide, by decide, by decide, by decide⟩ rfl (Nat.le_of_ble_eq_true rfl) (r_register g ?_)
        refine zcV1 dX10_rootExponent_48 rfl eX10_period b1594 ⟨by decide, by decide, by decide, by decide⟩ rfl a0.1.1 rfl (by decide) (Nat.le_of_ble_eq_true rfl) (r_period a0 hw hb hcp (fun p hp => ?_))
        have hp1 := (hp.2 hcp).1
        have hp2 := hp.1
        refine zW_idiv dX10_rootExponent_51 (by first | assumption | omega | (unfold InR; omega) | (unfold InL; omega) | (simp only [InR] at *; omega)) (by first | assumption | omega | (unfold InR; omega) | (unfold InL; omega) | (simp only [InR] at *; omega)) (by first | assumption | omega | (unfold InR; omega) | (unfold InL; omega) | (simp only [InR] at *; omega)) (by first | assumption | omega | (unfold InR; omega) | (unfold InL; omega) | (simp only [InR] at *; omega)) ?_
        refine zW_ireturn dX10_rootExponent_52 rfl rfl (by first | decide | (show _ ≤ (0 : Nat); omega)) (by first | decide | (show _ ≤ (0 : Nat); omega)) ?_
        have ho : o_rootExponent A r = (0, ((crl (reg A r) / p : Nat) : Int), A) := by unfold o_rootExponent; rw [if_pos g, if_neg hne, hp.eq]
        exact hQ.ask ho h m0 t0
      · have he : reg A r = [] := List.eq_nil_of_length_eq_zero (by omega)
        refine zW_aload_n dX10_rootExponent_29 rfl ?_
        refine zW_iconst dX10_rootExponent_30 ?_
        refine zcV1 dX10_rootExponent_31 rfl eX10_fails b1371 ⟨by decide, by decide, by decide, by decide⟩ rfl a0.1.1 rfl (by decide) (Nat.le_of_ble_eq_true rfl) (r_fails a0.1 ?_)
        refine zW_ireturn dX10_rootExponent_34 rfl rfl (by first | decide | (show _ ≤ (0 : Nat); omega)) (by first | decide | (show _ ≤ (0 : Nat); omega)) ?_
        exact hQ.bad (k := 1) (by unfold o_rootExponent; rw [if_pos g, if_pos he]) h (m0.th (Mr.O (Ks := KS) (Rs := RS) (by decide)) (fun _ z => z) (fun _ z => z)) (zO_sOs _ _ _ _)
    · exact absurd q (by decide)
  · refine zW_if_ne (tgt := 18) dX10_rootExponent_9 (by decide) (by first | assumption | omega | (unfold InR; omega) | (unfold InL; omega) | (simp only [InR] at *; omega)) (fun q => ?_) (fun q => ?_)
    · exact absurd rfl q
    · refine zW_aload_n dX10_rootExponent_12 rfl ?_
      refine zW_iconst dX10_rootExponent_13 ?_
      refine zcV1 dX10_rootExponent_14 rfl eX10_fails b1371 ⟨by decide, by decide, by decide, by decide⟩ rfl a0.1.1 rfl (by decide) (Nat.le_of_ble_eq_true rfl) (r_fails a0.1 ?_)
      refine zW_ireturn dX10_rootExponent_17 rfl rfl (by first | decide | (show _ ≤ (0 : Nat); omega)) (by first | decide | (show _ ≤ (0 : Nat); omega)) ?_
      exact hQ.bad (k := 0) (if_neg g) h (m0.th (Mr.O (Ks := KS) (Rs := RS) (by decide)) (fun _ z => z) (fun _ z => z)) (zO_sOs _ _ _ _)
set_option maxRecDepth 100000 in
theorem q_generatingWordCount {g : Int} (h : RI σ y A) (ig : InR g) (hQ : RQ σ y (o_generatingWordCount A g) Q) : zM Γ mX10_generatingWordCount [vR (some y), vI g] σ Q := by
  refine zM_of (n := 0) (by decide +kernel) rfl rfl rfl ?_
  refine zW_aload_n dX10_generatingWordCount_0 rfl ?_
  refine zW_iconst dX10_generatingWordCount_1 ?_
  refine zpI dX10_generatingWordCount_2 fX10_75 h.1.1 rfl (Or.inl rfl) (zst_int _) ?_
  have m0 : Mr σ (sO σ y 0 0) y KS RS := Mr.O (by decide)
  have h0 := h.mr m0
  have t0 : zO (sO σ y 0 0) y 0 = 0 := zO_sOs _ _ _ _
  generalize sO σ y 0 0 = σ0 at m0 h0 t0 ⊢
  have a0 : RA σ0 y 0 := h0.ra
  refine zW_iload_n dX10_generatingWordCount_5 rfl ?_
  refine zcS1 dX10_generatingWordCount_6 rfl eX10_isSubgroup b1637 ⟨by decide, by decide, by decide, by decide⟩ rfl (Nat.le_of_ble_eq_true rfl) (r_isSubgroup ig (fun k => ?_) (fun k => ?_))
  · refine zW_if_eq (tgt := 23) dX10_generatingWordCount_9 (by decide) (by first | assumption | omega | (unfold InR; omega) | (unfold InL; omega) | (simp only [InR] at *; omega)) (fun q => ?_) (fun q => ?_)
    · exact absurd q (by decide)
    · have hg2 : g.toNat < 2 := by unfold inR2 at k; omega
      have hc := (h0.2.2.1.2.2 g.toNat hg2).1
      rw [show 0 + 489 + 367 * g.toNat = 0 + (489 + 367 * g.toNat) by omega] at hc
      refine zW_aload_n dX10_generatingWordCount_12 rfl ?_
      refine zW_iload_n dX10_generatingWordCount_13 rfl ?_
      refine zcS1 dX10_generatingWordCount_14 rfl eX10_wordsOf b1462 ⟨by decide, by decide, by decide, by decide⟩ rfl (Nat.le_of_ble_eq_true rfl) (r_wordsOf k ?_)
      refine zcV1 dX10_generatingWordCount_17 rfl eX10_get b1443 ⟨by decide, by decide, by decide, by decide⟩ rfl a0.1.1 rfl (by decide) (Nat.le_of_ble_eq_true rfl) (r_get a0 (by omega) hc ?_)
      refine zW_goto (tgt := 28) dX10_generatingWordCount_20 (by decide) ?_
      refine zW_ireturn dX10_generatingWordCount_28 rfl rfl (by first | decide | (show _ ≤ (0 : Nat); omega)) (by first | decide | (show _ ≤ (0 : Nat); omega)) ?_
      exact hQ.ask (if_pos k) h m0 t0
  · refine zW_if_eq (tgt := 23) dX10_generatingWordCount_9 (by decide) (by first | assumption | omega | (unfold InR; omega) | (unfold InL; omega) | (simp only [InR] at *; omega)) (fun q => ?_) (fun q => ?_)
    · refine zW_aload_n dX10_generatingWordCount_23 rfl ?_
      refine zW_iconst dX10_generatingWordCount_24 ?_
      refine zcV1 dX10_generatingWordCount_25 rfl eX10_fails b1371 ⟨by decide, by decide, by decide, by decide⟩ rfl a0.1.1 rfl (by decide) (Nat.le_of_ble_eq_true rfl) (r_fails a0.1 ?_)
      refine zW_ireturn dX10_generatingWordCount_28 rfl rfl (by first | decide | (show _ ≤ (0 : Nat); omega)) (by first | decide | (show _ ≤ (0 : Nat); omega)) ?_
      exact hQ.bad (k := 0) (if_neg k) h (m0.th (Mr.O (Ks := KS) (Rs := RS) (by decide)) (fun _ z => z) (fun _ z => z)) (zO_sOs _ _ _ _)
    · exact absurd rfl q
end RQUEST
