/-! Parser: the whole text -/
section PARSER3
variable {Γ : GG} {σ : HS} {Q : Res → HS → Prop} {q inp n : Nat} {tx : Nat → Nat}
set_option maxRecDepth 100000 in
theorem p_readJoin {t : Nat × Nat × Nat} {x : ST} {m0 : Nat} (h : PT σ q inp n tx t) (ht : isTok tx n m0 t) (hx : SD σ (q + 1) x) (hl : ∀ r, r < 8 → (sRg x r).length ≤ 60)
    (h0 : ∀ e σ', stmJ tx n x t = .inl e → PE σ' q inp n tx e → Md σ σ' (pp q) → Q (.inl (some (vI 0))) σ') (h1 : ∀ x' t' σ', stmJ tx n x t = .inr (x', t') → sRk x' = sRk x → isTok tx n (m0 + 1) t' → PT σ' q inp n tx t' → SD σ' (q + 1) x' → Md σ σ' (pp q) → Q (.inl (some (vI 1))) σ') : zM Γ mX6_readJoin [vR (some q)] σ Q := by
  obtain ⟨l1, l2, l3, l4, l5, l6, l7⟩ := ht.le
  obtain ⟨hS, k6, k7, k8, k2, k3⟩ := id h
  obtain ⟨a1, a2, a3, a4, a5, a6, a7, a8, a9, a10, a11⟩ := id hS
  have hn6 : n ≤ 600 := a8
  refine zM_of (n := 2) (by decide +kernel) rfl rfl rfl ?_
  unfold stmJ at h0 h1
  refine zW_aload_n dX6_readJoin_0 rfl ?_
  refine zW_iconst dX6_readJoin_1 ?_
  refine zW_iconst dX6_readJoin_2 ?_
  refine zcV2 dX6_readJoin_3 rfl eX6_isNumberIn b652 ⟨by decide, by decide, by decide, by decide⟩ rfl a1 rfl (by decide) (Nat.le_of_ble_eq_true rfl) (p_isNumberIn (lo := 0) (hi := 1) h ht.ex (by omega) (by omega) (fun e σ1 he hE m1 => ?_) (fun g1 g2 g3 => ?_))
  · refine zW_if_ne (tgt := 11) dX6_readJoin_6 (by decide) (by first | assumption | omega | (unfold InR; omega) | (unfold InL; omega) | (simp only [InR] at *; omega)) (fun g => ?_) (fun g => ?_)
    · exact absurd rfl g
    · refine zW_iconst dX6_readJoin_9 ?_
      refine zW_ireturn dX6_readJoin_10 rfl rfl (by first | decide | (show _ ≤ (0 : Nat); omega)) (by first | decide | (show _ ≤ (0 : Nat); omega)) ?_
      refine h0 e σ1 ?_ hE (m1.wk (fun _ z => qq_pp z))
      split at he
      · rename_i z
        rw [if_pos z]
        exact congrArg Sum.inl (Option.some.inj he)
      · rename_i z
        rw [if_neg z]
        split at he
        · rename_i z2
          rw [if_pos (by omega)]
          exact congrArg Sum.inl (Option.some.inj he)
        · cases he
  · rw [if_neg (fun z => z g1), if_neg (by omega)] at h0 h1
    obtain ⟨l8, l9⟩ := l7 g1
    have hT1 := ht.nx (show t.1 ≠ 0 by omega)
    obtain ⟨s0, s1, s2, s3, s4, s5, s6, s7, s8, s9⟩ := id hx.1
    have hcn := (hx.2.2.2 (tnum tx t) (by omega)).1
    refine zW_if_ne (tgt := 11) dX6_readJoin_6 (by decide) (by first | assumption | omega | (unfold InR; omega) | (unfold InL; omega) | (simp only [InR] at *; omega)) (fun g => ?_) (fun g => ?_)
    · refine zW_aload_n dX6_readJoin_11 rfl ?_
      refine zcV0 dX6_readJoin_12 rfl eX6_numberValue b656 ⟨by decide, by decide, by decide, by decide⟩ rfl a1 rfl (by decide) (Nat.le_of_ble_eq_true rfl) (p_numberValue h g1 l3 l2 l8 l9 (fun hb => ?_))
      refine zW_istore_n dX6_readJoin_15 (by decide) rfl rfl ?_
      refine zW_aload_n dX6_readJoin_16 rfl ?_
      refine zgP dX6_readJoin_17 fX6_12 a1 rfl a2 ?_
      refine zgP dX6_readJoin_20 fX6_111 s0 rfl s3 ?_
      refine zW_iload_n dX6_readJoin_23 rfl ?_
      refine zrI dX6_readJoin_24 s6 (by first | assumption | omega | (unfold InR; omega) | (unfold InL; omega) | (simp only [InR] at *; omega)) (by first | assumption | omega | (unfold InR; omega) | (unfold InL; omega) | (simp only [InR] at *; omega)) (by first | assumption | omega | (unfold InR; omega) | (unfold InL; omega) | (simp only [InR] at *; omega)) hcn ?_
      refine zW_bipush dX6_readJoin_25 (by decide) ?_
      have hgn := hx.gn (g := tnum tx t) (by omega)
      refine zW_icmp_lt (tgt := 36) dX6_readJoin_27 (by decide) (by first | assumption | omega | (unfold InR; omega) | (unfold InL; omega) | (simp only [InR] at *; omega)) (by first | assumption | omega | (unfold InR; omega) | (unfold InL; omega) | (simp only [InR] at *; omega)) (fun g4 => ?_) (fun g4 => ?_)
      · rw [if_neg (by omega)] at h0 h1
        refine zW_aload_n dX6_readJoin_36 rfl ?_
        refine zcV0 dX6_readJoin_37 rfl eX6_advance b581 ⟨by decide, by decide, by decide, by decide⟩ rfl a1 rfl (by decide) (Nat.le_of_ble_eq_true rfl) (p_advance h l3 (fun σ1 hP1 m1 => ?_))
        have hx1 : SD σ1 (q + 1) x := hx.md m1 (fun a z z' => by unfold sp at z; unfold qq at z'; omega)
        obtain ⟨r1, r2, r3, r4, r5, r6, r7⟩ := hT1.le
        obtain ⟨b1, b2, b3, b4, b5, -⟩ := id hP1.1
        refine zW_aload_n dX6_readJoin_40 rfl ?_
        refine zW_iconst dX6_readJoin_41 ?_
        refine zW_bipush dX6_readJoin_42 (by decide) ?_
        refine zcV2 dX6_readJoin_44 rfl eX6_isNumberIn b652 ⟨by decide, by decide, by decide, by decide⟩ rfl b1 rfl (by decide) (Nat.le_of_ble_eq_true rfl) (p_isNumberIn (lo := 0) (hi := 7) hP1 hT1.ex (by omega) (by omega) (fun e σ2 he hE m2 => ?_) (fun f1 f2 f3 => ?_))
        · refine zW_if_ne (tgt := 52) dX6_readJoin_47 (by decide) (by first | assumption | omega | (unfold InR; omega) | (unfold InL; omega) | (simp only [InR] at *; omega)) (fun g5 => ?_) (fun g5 => ?_)
          · exact absurd rfl g5
          · refine zW_iconst dX6_readJoin_50 ?_
            refine zW_ireturn dX6_readJoin_51 rfl rfl (by first | decide | (show _ ≤ (0 : Nat); omega)) (by first | decide | (show _ ≤ (0 : Nat); omega)) ?_
            refine h0 e σ2 ?_ hE ((m1.tr m2 (fun _ z => z)).wk (fun _ z => qq_pp z))
            split at he
            · rename_i z
              rw [if_pos z]
              exact congrArg Sum.inl (Option.some.inj he)
            · rename_i z
              rw [if_neg z]
              split at he
              · rename_i z2
                rw [if_pos (by omega)]
                exact congrArg Sum.inl (Option.some.inj he)
              · cases he
        · rw [if_neg (fun z => z f1), if_neg (by omega)] at h0 h1
          obtain ⟨r8, r9⟩ := r7 f1
          have hT2 := hT1.nx (show (tok tx n t.2.2).1 ≠ 0 by omega)
          refine zW_if_ne (tgt := 52) dX6_readJoin_47 (by decide) (by first | assumption | omega | (unfold InR; omega) | (unfold InL; omega) | (simp only [InR] at *; omega)) (fun g5 => ?_) (fun g5 => ?_)
          · refine zW_aload_n dX6_readJoin_52 rfl ?_
            refine zcV0 dX6_readJoin_53 rfl eX6_numberValue b656 ⟨by decide, by decide, by decide, by decide⟩ rfl b1 rfl (by decide) (Nat.le_of_ble_eq_true rfl) (p_numberValue hP1 f1 r3 r2 r8 r9 (fun hb2 => ?_))
            refine zW_istore_n dX6_readJoin_56 (by decide) rfl rfl ?_
            refine zW_aload_n dX6_readJoin_57 rfl ?_
            refine zcV0 dX6_readJoin_58 rfl eX6_advance b581 ⟨by decide, by decide, by decide, by decide⟩ rfl b1 rfl (by decide) (Nat.le_of_ble_eq_true rfl) (p_advance hP1 r3 (fun σ2 hP2 m2 => ?_))
            have hx2 : SD σ2 (q + 1) x := hx1.md m2 (fun a z z' => by unfold sp at z; unfold qq at z'; omega)
            obtain ⟨c1, c2, c3, c4, c5, -⟩ := id hP2.1
            obtain ⟨s0, s1, s2, s3, s4, s5, s6, s7, s8, s9⟩ := id hx2.1
            have hv := hx2.rg (r := tnum tx (tok tx n t.2.2)) (by omega)
            refine zW_aload_n dX6_readJoin_61 rfl ?_
            refine zgP dX6_readJoin_62 fX6_12 c1 rfl c2 ?_
            refine zW_iload_n dX6_readJoin_65 rfl ?_
            refine zW_aload_n dX6_readJoin_66 rfl ?_
            refine zgP dX6_readJoin_67 fX6_12 c1 rfl c2 ?_
            refine zgP dX6_readJoin_70 fX6_103 s0 rfl s1 ?_
            refine zW_iload_n dX6_readJoin_73 rfl ?_
            refine zrP dX6_readJoin_74 s4 (by decide) (by decide) (by first | assumption | omega | (unfold InR; omega) | (unfold InL; omega) | (simp only [InR] at *; omega)) (by first | assumption | omega | (unfold InR; omega) | (unfold InL; omega) | (simp only [InR] at *; omega)) (by first | assumption | omega | (unfold InR; omega) | (unfold InL; omega) | (simp only [InR] at *; omega)) (s7 (tnum tx (tok tx n t.2.2)) (by omega)) ?_
            refine zcV2 dX6_readJoin_75 rfl eX7_addWord b703 ⟨by decide, by decide, by decide, by decide⟩ rfl s0 rfl (by decide) (Nat.le_of_ble_eq_true rfl) (st_addWord hx2 (by omega) hv (hl _ (by omega)) (by omega) (fun k z1 z2 => by omega) (fun σ3 hx3 m3 => ?_))
            have hP3 : PT σ3 q inp n tx (tok tx n (tok tx n t.2.2).2.2) := hP2.md m3 (by unfold sp; omega) (by unfold sp; omega)
            have m13 : Md σ σ3 (pp q) := ((m1.tr m2 (fun _ z => z)).wk (P' := pp q) (fun _ z => qq_pp z)).tr m3 (fun _ z => sp_pp z)
            refine zW_aload_n dX6_readJoin_78 rfl ?_
            refine zcV0 dX6_readJoin_79 rfl eX6_readSemicolon b660 ⟨by decide, by decide, by decide, by decide⟩ rfl hP3.1.1 rfl (by decide) (Nat.le_of_ble_eq_true rfl) (p_readSemicolon hP3 hT2 (fun σ4 z hE m4 => ?_) (fun σ4 z hP4 m4 => ?_))
            · refine zW_ireturn dX6_readJoin_82 rfl rfl (by first | decide | (show _ ≤ (0 : Nat); omega)) (by first | decide | (show _ ≤ (0 : Nat); omega)) ?_
              rw [if_pos z] at h0
              exact h0 _ σ4 rfl hE (m13.tr m4 (fun _ z => qq_pp z))
            · refine zW_ireturn dX6_readJoin_82 rfl rfl (by first | decide | (show _ ≤ (0 : Nat); omega)) (by first | decide | (show _ ≤ (0 : Nat); omega)) ?_
              rw [if_neg (fun y => y z)] at h1
              refine h1 _ _ σ4 rfl rfl ?_ hP4 (hx3.md m4 (fun a z z' => by unfold sp at z; unfold qq at z'; omega)) (m13.tr m4 (fun _ z => qq_pp z))
              obtain ⟨p6, z1, z2, z3⟩ := hT2.nx (show (tok tx n (tok tx n t.2.2).2.2).1 ≠ 0 by omega)
              exact ⟨p6, by omega, z2, z3⟩
          · exact absurd g5 (by decide)
      · rw [if_pos (by omega)] at h0
        refine zW_aload_n dX6_readJoin_30 rfl ?_
        refine zW_iconst dX6_readJoin_31 ?_
        refine zcV1 dX6_readJoin_32 rfl eX6_fail b648 ⟨by decide, by decide, by decide, by decide⟩ rfl a1 rfl (by decide) (Nat.le_of_ble_eq_true rfl) (p_fail (k := 5) h (fun σ2 hE m2 => ?_))
        refine zW_ireturn dX6_readJoin_35 rfl rfl (by first | decide | (show _ ≤ (0 : Nat); omega)) (by first | decide | (show _ ≤ (0 : Nat); omega)) ?_
        exact h0 _ σ2 rfl hE (m2.wk (fun _ z => qq_pp z))
    · exact absurd g (by decide)
set_option maxRecDepth 100000 in
theorem stmS_len {x x' : ST} {t t' : Nat × Nat × Nat} (h : stmS tx n x t = .inr (x', t')) (hl : ∀ r, r < 8 → (sRg x r).length ≤ 60) : ∀ r, r < 8 → (sRg x' r).length ≤ 60 := by
  have i1 : ∀ t w w', itm1 tx (sRk x) t w = .inr w' → w.length ≤ 60 → w'.length ≤ 60 := by
    intro t w w' h hw
    unfold itm1 at h
    split at h
    · split at h
      · rw [← Sum.inr.inj h]; exact hw
      · cases h
    · split at h
      · cases h
      · split at h
        · cases h
        · split at h
          · cases h
          · rw [← Sum.inr.inj h]; omega
  have i2 : ∀ f t w w' t', itm tx n (sRk x) f t w = .inr (w', t') → w.length ≤ 60 → w'.length ≤ 60 := by
    intro f
    induction f with
    | zero => intro t w w' t' h; cases h
    | succ f ih =>
      intro t w w' t' h hw
      unfold itm at h
      split at h
      · have := Sum.inr.inj h
        rw [← (Prod.mk.inj this).1]; exact hw
      · split at h
        · cases h
        · rename_i w2 h2
          exact ih _ _ _ _ h (i1 _ _ _ h2 hw)
  unfold stmS at h
  split at h
  · cases h
  · split at h
    · cases h
    · split at h
      · cases h
      · rename_i w h2
        split at h
        · cases h
        · rename_i w2 t2 h3
          have := (Prod.mk.inj (Sum.inr.inj h)).1
          rw [← this]
          intro r hr
          show (if r = tnum tx t then w2 else sRg x r).length ≤ 60
          split
          · exact i2 _ _ _ _ _ h3 (i1 _ _ _ h2 (Nat.zero_le _))
          · exact hl r hr
set_option maxRecDepth 100000 in
theorem stmJ_len {x x' : ST} {t t' : Nat × Nat × Nat} (h : stmJ tx n x t = .inr (x', t')) : sRg x' = sRg x := by
  unfold stmJ at h
  repeat (split at h; · cases h)
  have := (Prod.mk.inj (Sum.inr.inj h)).1
  rw [← this]
  rfl
set_option maxRecDepth 100000 in
theorem stm_len {x x' : ST} {t t' : Nat × Nat × Nat} (h : stm tx n x t = .inr (x', t')) (hl : ∀ r, r < 8 → (sRg x r).length ≤ 60) : ∀ r, r < 8 → (sRg x' r).length ≤ 60 := by
  unfold stm at h
  split at h
  · exact stmS_len h hl
  · split at h
    · rw [stmJ_len h]; exact hl
    · cases h
set_option maxRecDepth 100000 in
theorem p_readStatement {t : Nat × Nat × Nat} {x : ST} {m0 : Nat} (h : PT σ q inp n tx t) (ht : isTok tx n m0 t) (hk0 : t.1 ≠ 0) (hx : SD σ (q + 1) x) (hr4 : sRk x ≤ 4) (hl : ∀ r, r < 8 → (sRg x r).length ≤ 60)
    (h0 : ∀ e σ', stm tx n x t = .inl e → PE σ' q inp n tx e → Md σ σ' (pp q) → Q (.inl (some (vI 0))) σ') (h1 : ∀ x' t' σ', stm tx n x t = .inr (x', t') → sRk x' = sRk x → isTok tx n (m0 + 1) t' → PT σ' q inp n tx t' → SD σ' (q + 1) x' → Md σ σ' (pp q) → Q (.inl (some (vI 1))) σ') : zM Γ mX6_readStatement [vR (some q)] σ Q := by
  obtain ⟨l1, l2, l3, l4, l5, l6, l7⟩ := ht.le
  obtain ⟨hS, k6, k7, k8, k2, k3⟩ := id h
  obtain ⟨a1, a2, a3, a4, a5, a6, a7, a8, a9, a10, a11⟩ := id hS
  have hT1 := ht.nx hk0
  refine zM_of (n := 0) (by decide +kernel) rfl rfl rfl ?_
  unfold stm at h0 h1
  refine zW_aload_n dX6_readStatement_0 rfl ?_
  refine zW_ldcS (k9 := 1) dX6_readStatement_1 rfl ?_
  refine zcV1 dX6_readStatement_3 rfl eX6_isKeyword b596 ⟨by decide, by decide, by decide, by decide⟩ rfl a1 rfl (by decide) (Nat.le_of_ble_eq_true rfl) (p_isKeyword (j := 1) h ht (by omega) ?_)
  change zW Γ mX6_readStatement _ _ [vI (if kw kwS tx t then 1 else 0)] σ _ _ Q
  cases hS9 : kw kwS tx t
  · rw [if_neg (by rw [hS9]; decide)] at h0 h1
    refine zW_if_eq (tgt := 18) dX6_readStatement_6 (by decide) (by first | assumption | omega | (unfold InR; omega) | (unfold InL; omega) | (simp only [InR] at *; omega)) (fun g => ?_) (fun g => ?_)
    · refine zW_aload_n dX6_readStatement_18 rfl ?_
      refine zW_ldcS (k9 := 2) dX6_readStatement_19 rfl ?_
      refine zcV1 dX6_readStatement_21 rfl eX6_isKeyword b596 ⟨by decide, by decide, by decide, by decide⟩ rfl a1 rfl (by decide) (Nat.le_of_ble_eq_true rfl) (p_isKeyword (j := 2) h ht (by omega) ?_)
      change zW Γ mX6_readStatement _ _ [vI (if kw kwJ tx t then 1 else 0)] σ _ _ Q
      cases hJ9 : kw kwJ tx t
      · rw [if_neg (by rw [hJ9]; decide)] at h0 h1
        refine zW_if_eq (tgt := 36) dX6_readStatement_24 (by decide) (by first | assumption | omega | (unfold InR; omega) | (unfold InL; omega) | (simp only [InR] at *; omega)) (fun g2 => ?_) (fun g2 => ?_)
        · refine zW_aload_n dX6_readStatement_36 rfl ?_
          refine zW_iconst dX6_readStatement_37 ?_
          refine zcV1 dX6_readStatement_38 rfl eX6_fail b648 ⟨by decide, by decide, by decide, by decide⟩ rfl a1 rfl (by decide) (Nat.le_of_ble_eq_true rfl) (p_fail (k := 1) h (fun σ2 hE m2 => ?_))
          refine zW_ireturn dX6_readStatement_41 rfl rfl (by first | decide | (show _ ≤ (0 : Nat); omega)) (by first | decide | (show _ ≤ (0 : Nat); omega)) ?_
          exact h0 _ σ2 rfl hE (m2.wk (fun _ z => qq_pp z))
        · exact absurd rfl g2
      · rw [if_pos hJ9] at h0 h1
        refine zW_if_eq (tgt := 36) dX6_readStatement_24 (by decide) (by first | assumption | omega | (unfold InR; omega) | (unfold InL; omega) | (simp only [InR] at *; omega)) (fun g2 => ?_) (fun g2 => ?_)
        · exact absurd g2 (by decide)
        · refine zW_aload_n dX6_readStatement_27 rfl ?_
          refine zcV0 dX6_readStatement_28 rfl eX6_advance b581 ⟨by decide, by decide, by decide, by decide⟩ rfl a1 rfl (by decide) (Nat.le_of_ble_eq_true rfl) (p_advance h l3 (fun σ1 hP1 m1 => ?_))
          have hx1 : SD σ1 (q + 1) x := hx.md m1 (fun a z z' => by unfold sp at z; unfold qq at z'; omega)
          have m1' : Md σ σ1 (pp q) := m1.wk (fun _ z => qq_pp z)
          refine zW_aload_n dX6_readStatement_31 rfl ?_
          refine zcV0 dX6_readStatement_32 rfl eX6_readJoin b699 ⟨by decide, by decide, by decide, by decide⟩ rfl hP1.1.1 rfl (by decide) (Nat.le_of_ble_eq_true rfl) (p_readJoin hP1 hT1 hx1 hl (fun e σ2 he hE m2 => ?_) (fun x' t' σ2 he hr9 hT9 hP9 hx9 m2 => ?_))
          · refine zW_ireturn dX6_readStatement_35 rfl rfl (by first | decide | (show _ ≤ (0 : Nat); omega)) (by first | decide | (show _ ≤ (0 : Nat); omega)) ?_
            exact h0 e σ2 he hE (m1'.tr m2 (fun _ z => z))
          · refine zW_ireturn dX6_readStatement_35 rfl rfl (by first | decide | (show _ ≤ (0 : Nat); omega)) (by first | decide | (show _ ≤ (0 : Nat); omega)) ?_
            exact h1 x' t' σ2 he hr9 (by obtain ⟨p, z1, z2, z3⟩ := hT9; exact ⟨p, by omega, z2, z3⟩) hP9 hx9 (m1'.tr m2 (fun _ z => z))
    · exact absurd rfl g
  · rw [if_pos hS9] at h0 h1
    refine zW_if_eq (tgt := 18) dX6_readStatement_6 (by decide) (by first | assumption | omega | (unfold InR; omega) | (unfold InL; omega) | (simp only [InR] at *; omega)) (fun g => ?_) (fun g => ?_)
    · exact absurd g (by decide)
    · refine zW_aload_n dX6_readStatement_9 rfl ?_
      refine zcV0 dX6_readStatement_10 rfl eX6_advance b581 ⟨by decide, by decide, by decide, by decide⟩ rfl a1 rfl (by decide) (Nat.le_of_ble_eq_true rfl) (p_advance h l3 (fun σ1 hP1 m1 => ?_))
      have hx1 : SD σ1 (q + 1) x := hx.md m1 (fun a z z' => by unfold sp at z; unfold qq at z'; omega)
      have m1' : Md σ σ1 (pp q) := m1.wk (fun _ z => qq_pp z)
      refine zW_aload_n dX6_readStatement_13 rfl ?_
      refine zcV0 dX6_readStatement_14 rfl eX6_readSet b677 ⟨by decide, by decide, by decide, by decide⟩ rfl hP1.1.1 rfl (by decide) (Nat.le_of_ble_eq_true rfl) (p_readSet hP1 hT1 hx1 hr4 (fun e σ2 he hE m2 => ?_) (fun x' t' σ2 he hr9 hT9 hP9 hx9 m2 => ?_))
      · refine zW_ireturn dX6_readStatement_17 rfl rfl (by first | decide | (show _ ≤ (0 : Nat); omega)) (by first | decide | (show _ ≤ (0 : Nat); omega)) ?_
        exact h0 e σ2 he hE (m1'.tr m2 (fun _ z => z))
      · refine zW_ireturn dX6_readStatement_17 rfl rfl (by first | decide | (show _ ≤ (0 : Nat); omega)) (by first | decide | (show _ ≤ (0 : Nat); omega)) ?_
        exact h1 x' t' σ2 he hr9 (by obtain ⟨p, z1, z2, z3⟩ := hT9; exact ⟨p, by omega, z2, z3⟩) hP9 hx9 (m1'.tr m2 (fun _ z => z))
set_option maxRecDepth 100000 in
theorem p_readRank (h : PT σ q inp n tx (tok tx n 0))
    (h0 : ∀ e σ', prRank tx n = .inl e → PE σ' q inp n tx e → Md σ σ' (pp q) → Q (.inl (some (vI 0))) σ') (h1 : ∀ r t' σ', prRank tx n = .inr (r, t') → 1 ≤ r → r ≤ 4 → isTok tx n 1 t' → PT σ' q inp n tx t' → SD σ' (q + 1) (r, fun _ => [], fun _ => []) → Md σ σ' (pp q) → Q (.inl (some (vI 1))) σ') : zM Γ mX6_readRank [vR (some q)] σ Q := by
  have ht : isTok tx n 0 (tok tx n 0) := ⟨0, Nat.le_refl _, Nat.zero_le _, rfl⟩
  obtain ⟨l1, l2, l3, l4, l5, l6, l7⟩ := ht.le
  obtain ⟨hS, k6, k7, k8, k2, k3⟩ := id h
  obtain ⟨a1, a2, a3, a4, a5, a6, a7, a8, a9, a10, a11⟩ := id hS
  refine zM_of (n := 1) (by decide +kernel) rfl rfl rfl ?_
  unfold prRank at h0 h1
  refine zW_aload_n dX6_readRank_0 rfl ?_
  refine zW_ldcS (k9 := 0) dX6_readRank_1 rfl ?_
  refine zcV1 dX6_readRank_3 rfl eX6_isKeyword b596 ⟨by decide, by decide, by decide, by decide⟩ rfl a1 rfl (by decide) (Nat.le_of_ble_eq_true rfl) (p_isKeyword (j := 0) h ht (by omega) ?_)
  change zW Γ mX6_readRank _ _ [vI (if kw kwR tx (tok tx n 0) then 1 else 0)] σ _ _ Q
  cases hR9 : kw kwR tx (tok tx n 0)
  · rw [if_pos hR9] at h0
    refine zW_if_ne (tgt := 15) dX6_readRank_6 (by decide) (by first | assumption | omega | (unfold InR; omega) | (unfold InL; omega) | (simp only [InR] at *; omega)) (fun g => ?_) (fun g => ?_)
    · exact absurd rfl g
    · refine zW_aload_n dX6_readRank_9 rfl ?_
      refine zW_iconst dX6_readRank_10 ?_
      refine zcV1 dX6_readRank_11 rfl eX6_fail b648 ⟨by decide, by decide, by decide, by decide⟩ rfl a1 rfl (by decide) (Nat.le_of_ble_eq_true rfl) (p_fail (k := 1) h (fun σ2 hE m2 => ?_))
      refine zW_ireturn dX6_readRank_14 rfl rfl (by first | decide | (show _ ≤ (0 : Nat); omega)) (by first | decide | (show _ ≤ (0 : Nat); omega)) ?_
      exact h0 _ σ2 rfl hE (m2.wk (fun _ z => qq_pp z))
  · rw [if_neg (by rw [hR9]; decide)] at h0 h1
    have hk1 : (tok tx n 0).1 = 1 := by
      unfold kw at hR9
      rw [Bool.and_eq_true] at hR9
      exact of_decide_eq_true hR9.1
    have hT1 := ht.nx (by omega)
    obtain ⟨r1, r2, r3, r4, r5, r6, r7⟩ := hT1.le
    refine zW_if_ne (tgt := 15) dX6_readRank_6 (by decide) (by first | assumption | omega | (unfold InR; omega) | (unfold InL; omega) | (simp only [InR] at *; omega)) (fun g => ?_) (fun g => ?_)
    · refine zW_aload_n dX6_readRank_15 rfl ?_
      refine zcV0 dX6_readRank_16 rfl eX6_advance b581 ⟨by decide, by decide, by decide, by decide⟩ rfl a1 rfl (by decide) (Nat.le_of_ble_eq_true rfl) (p_advance h l3 (fun σ1 hP1 m1 => ?_))
      obtain ⟨b1, b2, b3, b4, b5, -⟩ := id hP1.1
      refine zW_aload_n dX6_readRank_19 rfl ?_
      refine zW_iconst dX6_readRank_20 ?_
      refine zW_iconst dX6_readRank_21 ?_
      refine zcV2 dX6_readRank_22 rfl eX6_isNumberIn b652 ⟨by decide, by decide, by decide, by decide⟩ rfl b1 rfl (by decide) (Nat.le_of_ble_eq_true rfl) (p_isNumberIn (lo := 1) (hi := 4) hP1 hT1.ex (by omega) (by omega) (fun e σ2 he hE m2 => ?_) (fun f1 f2 f3 => ?_))
      · refine zW_if_ne (tgt := 30) dX6_readRank_25 (by decide) (by first | assumption | omega | (unfold InR; omega) | (unfold InL; omega) | (simp only [InR] at *; omega)) (fun g5 => ?_) (fun g5 => ?_)
        · exact absurd rfl g5
        · refine zW_iconst dX6_readRank_28 ?_
          refine zW_ireturn dX6_readRank_29 rfl rfl (by first | decide | (show _ ≤ (0 : Nat); omega)) (by first | decide | (show _ ≤ (0 : Nat); omega)) ?_
          refine h0 e σ2 ?_ hE ((m1.tr m2 (fun _ z => z)).wk (fun _ z => qq_pp z))
          split at he
          · rename_i z
            rw [if_pos z]
            exact congrArg Sum.inl (Option.some.inj he)
          · rename_i z
            rw [if_neg z]
            split at he
            · rename_i z2
              rw [if_pos z2]
              exact congrArg Sum.inl (Option.some.inj he)
            · cases he
      · rw [if_neg (fun z => z f1), if_neg (by omega)] at h0 h1
        obtain ⟨r8, r9⟩ := r7 f1
        have hT2 := hT1.nx (by omega)
        refine zW_if_ne (tgt := 30) dX6_readRank_25 (by decide) (by first | assumption | omega | (unfold InR; omega) | (unfold InL; omega) | (simp only [InR] at *; omega)) (fun g5 => ?_) (fun g5 => ?_)
        · refine zW_aload_n dX6_readRank_30 rfl ?_
          refine zcV0 dX6_readRank_31 rfl eX6_numberValue b656 ⟨by decide, by decide, by decide, by decide⟩ rfl b1 rfl (by decide) (Nat.le_of_ble_eq_true rfl) (p_numberValue hP1 f1 r3 r2 r8 r9 (fun hb2 => ?_))
          refine zW_istore_n dX6_readRank_34 (by decide) rfl rfl ?_
          refine zW_aload_n dX6_readRank_35 rfl ?_
          refine zcV0 dX6_readRank_36 rfl eX6_advance b581 ⟨by decide, by decide, by decide, by decide⟩ rfl b1 rfl (by decide) (Nat.le_of_ble_eq_true rfl) (p_advance hP1 r3 (fun σ2 hP2 m2 => ?_))
          have m12 : Md σ σ2 (pp q) := (m1.tr m2 (fun _ z => z)).wk (fun _ z => qq_pp z)
          refine zW_aload_n dX6_readRank_39 rfl ?_
          refine zcV0 dX6_readRank_40 rfl eX6_readSemicolon b660 ⟨by decide, by decide, by decide, by decide⟩ rfl hP2.1.1 rfl (by decide) (Nat.le_of_ble_eq_true rfl) (p_readSemicolon hP2 hT2 (fun σ4 z hE m4 => ?_) (fun σ4 z hP4 m4 => ?_))
          · rw [if_pos z] at h0
            refine zW_if_ne (tgt := 48) dX6_readRank_43 (by decide) (by first | assumption | omega | (unfold InR; omega) | (unfold InL; omega) | (simp only [InR] at *; omega)) (fun g6 => ?_) (fun g6 => ?_)
            · exact absurd rfl g6
            · refine zW_iconst dX6_readRank_46 ?_
              refine zW_ireturn dX6_readRank_47 rfl rfl (by first | decide | (show _ ≤ (0 : Nat); omega)) (by first | decide | (show _ ≤ (0 : Nat); omega)) ?_
              exact h0 _ σ4 rfl hE (m12.tr m4 (fun _ z => qq_pp z))
          · rw [if_neg (fun y => y z)] at h1
            obtain ⟨c1, c2, c3, c4, c5, -⟩ := id hP4.1
            refine zW_if_ne (tgt := 48) dX6_readRank_43 (by decide) (by first | assumption | omega | (unfold InR; omega) | (unfold InL; omega) | (simp only [InR] at *; omega)) (fun g6 => ?_) (fun g6 => ?_)
            · refine zW_aload_n dX6_readRank_48 rfl ?_
              refine zgP dX6_readRank_49 fX6_12 c1 rfl c2 ?_
              refine zW_iload_n dX6_readRank_52 rfl ?_
              refine zcV1 dX6_readRank_53 rfl eX7_reset b664 ⟨by decide, by decide, by decide, by decide⟩ rfl c4.1 rfl (by decide) (Nat.le_of_ble_eq_true rfl) (st_reset c4 (fun σ5 hx5 m5 => ?_))
              refine zW_iconst dX6_readRank_56 ?_
              refine zW_ireturn dX6_readRank_57 rfl rfl (by first | decide | (show _ ≤ (0 : Nat); omega)) (by first | decide | (show _ ≤ (0 : Nat); omega)) ?_
              refine h1 _ _ σ5 rfl f2 f3 ?_ (hP4.md m5 (by unfold sp; omega) (by unfold sp; omega)) hx5 ((m12.tr m4 (fun _ z => qq_pp z)).tr m5 (fun _ z => sp_pp z))
              obtain ⟨p6, z1, z2, z3⟩ := hT2.nx (show (tok tx n (tok tx n (tok tx n 0).2.2).2.2).1 ≠ 0 by omega)
              exact ⟨p6, by omega, z2, z3⟩
            · exact absurd g6 (by decide)
        · exact absurd g5 (by decide)
    · exact absurd hR9 (by rw [if_pos rfl] at g; exact absurd g (by decide))
/-- the parser ahead of a parse -/
def PK (σ : HS) (q : Nat) : Prop := zK σ q = (6, 0) ∧ zP σ q 0 = some (q + 1) ∧ zP σ q 1 = some (q + 45) ∧ SK σ (q + 1) ∧ Wk σ (q + 45) (q + 46) 120
set_option maxRecDepth 100000 in
theorem p_parse (h : PK σ q) (hi : zK σ inp = (13, 600)) (hn : n ≤ 600) (hd : inp < q ∨ q + 47 ≤ inp) (htx : ∀ i, i < n → zI σ inp i = (tx i : Int) ∧ tx i < 256)
    (h0 : ∀ e σ', prAll tx n = .inl e → PE σ' q inp n tx e → Md (sP σ q 4 (some inp)) σ' (pp q) → Q (.inl (some (vI 0))) σ') (h1 : ∀ x σ', prAll tx n = .inr x → zO σ' q 2 = 0 ∧ zO σ' q 3 = -1 → PS σ' q inp n tx → SD σ' (q + 1) x → Md (sP σ q 4 (some inp)) σ' (pp q) → Q (.inl (some (vI 1))) σ') : zM Γ mX6_parse [vR (some q), vR (some inp), vI n] σ Q := by
  obtain ⟨a1, a2, a3, a4, a5⟩ := id h
  refine zM_of (n := 1) (by decide +kernel) rfl rfl rfl ?_
  have e9 : min (n : Int) (600 : Nat) = (n : Int) := by omega
  have z1 : zK (sP σ q 4 (some inp)) q = (6, 0) := a1
  refine zW_aload_n dX6_parse_0 rfl ?_
  refine zW_aload_n dX6_parse_1 rfl ?_
  refine zpP dX6_parse_2 fX6_34 a1 rfl (Or.inl rfl) (Or.inl rfl) ?_
  refine zW_aload_n dX6_parse_5 rfl ?_
  refine zW_iload_n dX6_parse_6 rfl ?_
  refine zW_aload_n dX6_parse_7 rfl ?_
  refine zW_alen dX6_parse_8 hi (by decide) (by decide) ?_
  refine zW_mmin dX6_parse_9 (by first | assumption | omega | (unfold InR; omega) | (unfold InL; omega) | (simp only [InR] at *; omega)) (by first | assumption | omega | (unfold InR; omega) | (unfold InL; omega) | (simp only [InR] at *; omega)) b580 b452 b4 b453 (Nat.le_of_ble_eq_true rfl) (Nat.le_of_ble_eq_true rfl) (Nat.le_of_ble_eq_true rfl) (Nat.le_of_ble_eq_true rfl) ?_
  refine zpI dX6_parse_12 fX6_44 a1 rfl (Or.inl rfl) (zst_int _) ?_
  refine zW_aload_n dX6_parse_15 rfl ?_
  refine zW_iconst dX6_parse_16 ?_
  refine zpI dX6_parse_17 fX6_47 a1 rfl (Or.inl rfl) (zst_int _) ?_
  refine zW_aload_n dX6_parse_20 rfl ?_
  refine zW_iconst dX6_parse_21 ?_
  refine zpI dX6_parse_22 fX6_27 a1 rfl (Or.inl rfl) (zst_int _) ?_
  refine zW_aload_n dX6_parse_25 rfl ?_
  refine zW_iconst dX6_parse_26 ?_
  refine zpI dX6_parse_27 fX6_31 a1 rfl (Or.inl rfl) (zst_int _) ?_
  rw [e9]
  have m0 : Md (sP σ q 4 (some inp)) (sO (sO (sO (sO (sP σ q 4 (some inp)) q 5 n) q 8 0) q 2 0) q 3 (-1)) (pp q) := by
    have hq : pp q q := by unfold pp; omega
    exact (((Md.O (P := pp q) hq).tr (Md.O (P := pp q) hq) (fun _ z => z)).tr (Md.O (P := pp q) hq) (fun _ z => z)).tr (Md.O (P := pp q) hq) (fun _ z => z)
  have hP0 : PS (sO (sO (sO (sO (sP σ q 4 (some inp)) q 5 n) q 8 0) q 2 0) q 3 (-1)) q inp n tx := by
    refine ⟨a1, ?_, ?_, ?_, ?_, zP_sPs _ _ _ _, hi, hn, ?_, hd, htx⟩
    · exact (zP_sPk _ _ _ _ (by omega)).trans a2
    · exact (zP_sPk _ _ _ _ (by omega)).trans a3
    · obtain ⟨s0, s1, s2, s3, s4, s5, s6, s7, s8, s9⟩ := id a4
      refine ⟨s0, ?_, ?_, ?_, s4, s5, s6, fun i hi => ?_, fun i hi => ?_, fun i hi => ⟨(s9 i hi).1, ?_, (s9 i hi).2.2⟩⟩
      · exact (zP_sPa _ _ _ _ (by omega)).trans s1
      · exact (zP_sPa _ _ _ _ (by omega)).trans s2
      · exact (zP_sPa _ _ _ _ (by omega)).trans s3
      · exact (zP_sPa _ _ _ _ (by omega)).trans (s7 i hi)
      · exact (zP_sPa _ _ _ _ (by omega)).trans (s8 i hi)
      · exact (zP_sPa _ _ _ _ (by omega)).trans (s9 i hi).2.1
    · exact ⟨a5.1, (zP_sPa _ _ _ _ (by omega)).trans a5.2.1, a5.2.2⟩
    · rw [zO_sOk _ _ _ _ (by omega), zO_sOk _ _ _ _ (by omega), zO_sOk _ _ _ _ (by omega), zO_sOs]
  have k8 : zO (sO (sO (sO (sO (sP σ q 4 (some inp)) q 5 n) q 8 0) q 2 0) q 3 (-1)) q 8 = ((0 : Nat) : Int) := by
    rw [zO_sOk _ _ _ _ (by omega), zO_sOk _ _ _ _ (by omega), zO_sOs]; rfl
  have k2 : zO (sO (sO (sO (sO (sP σ q 4 (some inp)) q 5 n) q 8 0) q 2 0) q 3 (-1)) q 2 = 0 := by
    rw [zO_sOk _ _ _ _ (by omega), zO_sOs]
  generalize hσ : sO (sO (sO (sO (sP σ q 4 (some inp)) q 5 n) q 8 0) q 2 0) q 3 (-1) = σ0 at *
  have k3 : zO σ0 q 3 = -1 := by rw [← hσ]; exact zO_sOs _ _ _ _
  unfold prAll at h0 h1
  refine zW_aload_n dX6_parse_30 rfl ?_
  refine zcV0 dX6_parse_31 rfl eX6_advance b581 ⟨by decide, by decide, by decide, by decide⟩ rfl hP0.1 rfl (by decide) (Nat.le_of_ble_eq_true rfl) (p_advanceE hP0 k8 k2 k3 (Nat.zero_le _) (fun σ1 hP1 m1 => ?_))
  have m01 : Md (sP σ q 4 (some inp)) σ1 (pp q) := m0.tr m1 (fun _ z => qq_pp z)
  refine zW_aload_n dX6_parse_34 rfl ?_
  refine zcV0 dX6_parse_35 rfl eX6_readRank b591 ⟨by decide, by decide, by decide, by decide⟩ rfl hP1.1.1 rfl (by decide) (Nat.le_of_ble_eq_true rfl) (p_readRank hP1 (fun e σ2 he hE m2 => ?_) (fun r t2 σ2 he r1 r2 hT2 hP2 hx2 m2 => ?_))
  · rw [he] at h0
    refine zW_if_ne (tgt := 43) dX6_parse_38 (by decide) (by first | assumption | omega | (unfold InR; omega) | (unfold InL; omega) | (simp only [InR] at *; omega)) (fun g => ?_) (fun g => ?_)
    · exact absurd rfl g
    · refine zW_iconst dX6_parse_41 ?_
      refine zW_ireturn dX6_parse_42 rfl rfl (by first | decide | (show _ ≤ (0 : Nat); omega)) (by first | decide | (show _ ≤ (0 : Nat); omega)) ?_
      exact h0 e σ2 rfl hE (m01.tr m2 (fun _ z => z))
  · rw [he] at h0 h1
    change ∀ e σ', prs tx n 700 t2 (r, fun _ => [], fun _ => []) = .inl e → _ at h0
    change ∀ x σ', prs tx n 700 t2 (r, fun _ => [], fun _ => []) = .inr x → _ at h1
    generalize hR : prs tx n 700 t2 (r, fun _ => [], fun _ => []) = R at h0 h1
    have loop : ∀ m i σ4 t4 x4, m + i = 601 → isTok tx n (1 + i) t4 → PT σ4 q inp n tx t4 → SD σ4 (q + 1) x4 → sRk x4 ≤ 4 → (∀ r, r < 8 → (sRg x4 r).length ≤ 60) → Md (sP σ q 4 (some inp)) σ4 (pp q) → prs tx n (700 - i) t4 x4 = R → zW Γ mX6_parse 45 [some (vR (some q)), some (vR (some inp)), some (vI n), some (vI i)] [] σ4 0 0 Q := by
      intro m
      induction m with
      | zero =>
        intro i σ4 t4 x4 hm hT4 hP4 hx4 hr4 hl4 m4 hR4
        have := hT4.le
        omega
      | succ m ih =>
        intro i σ4 t4 x4 hm hT4 hP4 hx4 hr4 hl4 m4 hR4
        have hle4 := hT4.le
        obtain ⟨c1, c2, c3, c4, c5, -⟩ := id hP4.1
        rw [show 700 - i = (700 - i - 1) + 1 by omega] at hR4
        have hR5 : (if t4.1 = 0 then .inr x4 else match stm tx n x4 t4 with | .inl e => .inl e | .inr (x', t') => prs tx n (700 - i - 1) t' x') = R := hR4
        have done : t4.1 = 0 → zW Γ mX6_parse 74 [some (vR (some q)), some (vR (some inp)), some (vI n), some (vI i)] [] σ4 0 0 Q := by
          intro hz
          rw [if_pos hz] at hR5
          rw [← hR5] at h1
          refine zW_iconst dX6_parse_74 ?_
          refine zW_ireturn dX6_parse_75 rfl rfl (by first | decide | (show _ ≤ (0 : Nat); omega)) (by first | decide | (show _ ≤ (0 : Nat); omega)) ?_
          exact h1 x4 σ4 rfl hP4.2.2.2.2 hP4.1 hx4 m4
        refine zW_iload_n dX6_parse_45 rfl ?_
        refine zW_sipush dX6_parse_46 (by decide) ?_
        refine zW_icmp_ge (tgt := 74) dX6_parse_49 (by decide) (by first | assumption | omega | (unfold InR; omega) | (unfold InL; omega) | (simp only [InR] at *; omega)) (by first | assumption | omega | (unfold InR; omega) | (unfold InL; omega) | (simp only [InR] at *; omega)) (fun g5 => ?_) (fun g5 => ?_)
        · exact absurd g5 (by omega)
        · have k64 := hP4.2.1
          refine zW_aload_n dX6_parse_52 rfl ?_
          refine zgI dX6_parse_53 fX6_57 c1 rfl k64 ?_
          refine zW_if_eq (tgt := 74) dX6_parse_56 (by decide) (by first | assumption | omega | (unfold InR; omega) | (unfold InL; omega) | (simp only [InR] at *; omega)) (fun g6 => ?_) (fun g6 => ?_)
          · exact done (by omega)
          · rw [if_neg (by omega)] at hR5
            refine zW_aload_n dX6_parse_59 rfl ?_
            refine zcV0 dX6_parse_60 rfl eX6_readStatement b672 ⟨by decide, by decide, by decide, by decide⟩ rfl c1 rfl (by decide) (Nat.le_of_ble_eq_true rfl) (p_readStatement hP4 hT4 (by omega) hx4 hr4 hl4 (fun e σ5 he5 hE m5 => ?_) (fun x5 t5 σ5 he5 hr5 hT5 hP5 hx5 m5 => ?_))
            · rw [he5] at hR5
              rw [← hR5] at h0
              refine zW_if_ne (tgt := 68) dX6_parse_63 (by decide) (by first | assumption | omega | (unfold InR; omega) | (unfold InL; omega) | (simp only [InR] at *; omega)) (fun g7 => ?_) (fun g7 => ?_)
              · exact absurd rfl g7
              · refine zW_iconst dX6_parse_66 ?_
                refine zW_ireturn dX6_parse_67 rfl rfl (by first | decide | (show _ ≤ (0 : Nat); omega)) (by first | decide | (show _ ≤ (0 : Nat); omega)) ?_
                exact h0 e σ5 rfl hE (m4.tr m5 (fun _ z => z))
            · rw [he5] at hR5
              refine zW_if_ne (tgt := 68) dX6_parse_63 (by decide) (by first | assumption | omega | (unfold InR; omega) | (unfold InL; omega) | (simp only [InR] at *; omega)) (fun g7 => ?_) (fun g7 => ?_)
              · refine zW_iinc dX6_parse_68 rfl (by decide) rfl rfl ?_
                refine zW_goto (tgt := 45) dX6_parse_71 (by decide) ?_
                refine ih (i + 1) σ5 t5 x5 (by omega) (by obtain ⟨p, z1, z2, z3⟩ := hT5; exact ⟨p, by omega, z2, z3⟩) hP5 hx5 (by rw [hr5]; exact hr4) (stm_len he5 hl4) (m4.tr m5 (fun _ z => z)) ?_
                rw [show 700 - (i + 1) = 700 - i - 1 by omega]
                exact hR5
              · exact absurd g7 (by decide)
    refine zW_if_ne (tgt := 43) dX6_parse_38 (by decide) (by first | assumption | omega | (unfold InR; omega) | (unfold InL; omega) | (simp only [InR] at *; omega)) (fun g => ?_) (fun g => ?_)
    · refine zW_iconst dX6_parse_43 ?_
      refine zW_istore_n dX6_parse_44 (by decide) rfl rfl ?_
      exact loop 601 0 σ2 t2 _ rfl hT2 hP2 hx2 r2 (fun _ _ => Nat.zero_le _) (m01.tr m2 (fun _ z => z)) hR
    · exact absurd g (by decide)
end PARSER3
