/-! the law's loop -/
section LAWL
variable {Γ : GG} {σ σ' : HS} {cu su : Nat} {Q : Res → HS → Prop} {x y z i : Nat} {A : AA} {z5 z6 z7 : Option AV}
set_option maxRecDepth 100000 in
theorem w_3_errorKind (h : LHd Γ σ x y z A) (hi : i + 6 ≤ gL Γ) (hc : cu ≤ 600000) (hs : su ≤ 7200000) (k : ∀ σ' A' cu' su' z5 z6 z7, LHd Γ σ' x y z A' → cu' ≤ cu + 20 → su' ≤ su + 150 → zW Γ mLaw 3534 [some (vR (some (gb Γ))), some (vR (some x)), some (vR (some y)), some (vR (some z)), some (vI i), z5, z6, z7] [] σ' cu' su' Q) : zW Γ mLaw 456 [some (vR (some (gb Γ))), some (vR (some x)), some (vR (some y)), some (vR (some z)), some (vI i), z5, z6, z7] [] σ cu su Q := by
  obtain ⟨a1, a2, a3, a4, a6, ⟨b4, b5⟩, a9⟩ := id h
  have hr9 := a3.1.1.2
  have aoo : AO (o_errorKind A).2.2 := a3
  have hnr := nrm_in (o_errorKind A).2.1
  refine zW_aload_n dL_law_456 rfl ?_
  refine zcV0 dL_law_457 rfl eX9_errorKind b320 ⟨by decide, by decide, (by show cu + 0 + 0 ≤ 601024; omega), (by show su + 0 + 0 ≤ 7293034; omega)⟩ rfl a1.xk.1 rfl (by decide) (Nat.le_of_ble_eq_true rfl) (c_errorKind a1 ?_)
  have m1 : Mx σ σ (lzz x z) := Mx.rf
  have h1 := a1
  have hz1 := a4
  have r1 := a2
  change zW Γ mLaw (457 + 3) _ (vI (o_errorKind A).2.1 :: _) _ _ _ Q
  refine zW_nrm ?_
  refine zW_aload_n dL_law_460 rfl ?_
  refine zcV0 dL_law_461 rfl eX10_errorKind b1476 ⟨by decide, by decide, (by show cu + 0 + 0 ≤ 601024; omega), (by show su + 0 + 0 ≤ 7293034; omega)⟩ rfl r1.1.1 rfl (by decide) (Nat.le_of_ble_eq_true rfl) (q_errorKind r1 (fun σ2 v2 hR ht hm hv => ?_))
  rw [hv rfl]
  have hL := h.step m1 h1 hz1 hR hm aoo
  generalize (o_errorKind A).2.1 = v9 at hnr ⊢
  change zW Γ mLaw (461 + 3) _ (vI v9 :: vI (nrm v9) :: _) _ _ _ Q
  refine zW_nrm ?_
  refine zW_icmp_eq (tgt := 3534) dL_law_464 (by decide) (by first | assumption | omega | (unfold InR; omega) | (unfold InL; omega) | (simp only [InR] at *; omega)) (by first | assumption | omega | (unfold InR; omega) | (unfold InL; omega) | (simp only [InR] at *; omega)) (fun b => ?_) (fun b => ?_)
  · exact k σ2 _ _ _ _ _ _ hL (by show cu + 0 + 0 ≤ cu + 20; omega) (by show su + 0 + 0 ≤ su + 150; omega)
  · exact absurd rfl b
set_option maxRecDepth 100000 in
theorem w_4_errorPosition (h : LHd Γ σ x y z A) (hi : i + 6 ≤ gL Γ) (hc : cu ≤ 600000) (hs : su ≤ 7200000) (k : ∀ σ' A' cu' su' z5 z6 z7, LHd Γ σ' x y z A' → cu' ≤ cu + 20 → su' ≤ su + 150 → zW Γ mLaw 3534 [some (vR (some (gb Γ))), some (vR (some x)), some (vR (some y)), some (vR (some z)), some (vI i), z5, z6, z7] [] σ' cu' su' Q) : zW Γ mLaw 469 [some (vR (some (gb Γ))), some (vR (some x)), some (vR (some y)), some (vR (some z)), some (vI i), z5, z6, z7] [] σ cu su Q := by
  obtain ⟨a1, a2, a3, a4, a6, ⟨b4, b5⟩, a9⟩ := id h
  have hr9 := a3.1.1.2
  have aoo : AO (o_errorPosition A).2.2 := a3
  have hnr := nrm_in (o_errorPosition A).2.1
  refine zW_aload_n dL_law_469 rfl ?_
  refine zcV0 dL_law_470 rfl eX9_errorPosition b324 ⟨by decide, by decide, (by show cu + 0 + 0 ≤ 601024; omega), (by show su + 0 + 0 ≤ 7293034; omega)⟩ rfl a1.xk.1 rfl (by decide) (Nat.le_of_ble_eq_true rfl) (c_errorPosition a1 ?_)
  have m1 : Mx σ σ (lzz x z) := Mx.rf
  have h1 := a1
  have hz1 := a4
  have r1 := a2
  change zW Γ mLaw (470 + 3) _ (vI (o_errorPosition A).2.1 :: _) _ _ _ Q
  refine zW_nrm ?_
  refine zW_aload_n dL_law_473 rfl ?_
  refine zcV0 dL_law_474 rfl eX10_errorPosition b1480 ⟨by decide, by decide, (by show cu + 0 + 0 ≤ 601024; omega), (by show su + 0 + 0 ≤ 7293034; omega)⟩ rfl r1.1.1 rfl (by decide) (Nat.le_of_ble_eq_true rfl) (q_errorPosition r1 (fun σ2 v2 hR ht hm hv => ?_))
  rw [hv rfl]
  have hL := h.step m1 h1 hz1 hR hm aoo
  generalize (o_errorPosition A).2.1 = v9 at hnr ⊢
  change zW Γ mLaw (474 + 3) _ (vI v9 :: vI (nrm v9) :: _) _ _ _ Q
  refine zW_nrm ?_
  refine zW_icmp_eq (tgt := 3534) dL_law_477 (by decide) (by first | assumption | omega | (unfold InR; omega) | (unfold InL; omega) | (simp only [InR] at *; omega)) (by first | assumption | omega | (unfold InR; omega) | (unfold InL; omega) | (simp only [InR] at *; omega)) (fun b => ?_) (fun b => ?_)
  · exact k σ2 _ _ _ _ _ _ hL (by show cu + 0 + 0 ≤ cu + 20; omega) (by show su + 0 + 0 ≤ su + 150; omega)
  · exact absurd rfl b
set_option maxRecDepth 100000 in
theorem w_5_groupRank (h : LHd Γ σ x y z A) (hi : i + 6 ≤ gL Γ) (hc : cu ≤ 600000) (hs : su ≤ 7200000) (k : ∀ σ' A' cu' su' z5 z6 z7, LHd Γ σ' x y z A' → cu' ≤ cu + 20 → su' ≤ su + 150 → zW Γ mLaw 3534 [some (vR (some (gb Γ))), some (vR (some x)), some (vR (some y)), some (vR (some z)), some (vI i), z5, z6, z7] [] σ' cu' su' Q) : zW Γ mLaw 482 [some (vR (some (gb Γ))), some (vR (some x)), some (vR (some y)), some (vR (some z)), some (vI i), z5, z6, z7] [] σ cu su Q := by
  obtain ⟨a1, a2, a3, a4, a6, ⟨b4, b5⟩, a9⟩ := id h
  have hr9 := a3.1.1.2
  have aoo : AO (o_groupRank A).2.2 := a3
  have hnr := nrm_in (o_groupRank A).2.1
  refine zW_aload_n dL_law_482 rfl ?_
  refine zcV0 dL_law_483 rfl eX9_groupRank b328 ⟨by decide, by decide, (by show cu + 0 + 0 ≤ 601024; omega), (by show su + 0 + 0 ≤ 7293034; omega)⟩ rfl a1.xk.1 rfl (by decide) (Nat.le_of_ble_eq_true rfl) (c_groupRank a1 ?_)
  have m1 : Mx σ σ (lzz x z) := Mx.rf
  have h1 := a1
  have hz1 := a4
  have r1 := a2
  change zW Γ mLaw (483 + 3) _ (vI (o_groupRank A).2.1 :: _) _ _ _ Q
  refine zW_nrm ?_
  refine zW_aload_n dL_law_486 rfl ?_
  refine zcV0 dL_law_487 rfl eX10_groupRank b1484 ⟨by decide, by decide, (by show cu + 0 + 0 ≤ 601024; omega), (by show su + 0 + 0 ≤ 7293034; omega)⟩ rfl r1.1.1 rfl (by decide) (Nat.le_of_ble_eq_true rfl) (q_groupRank r1 (fun σ2 v2 hR ht hm hv => ?_))
  rw [hv rfl]
  have hL := h.step m1 h1 hz1 hR hm aoo
  generalize (o_groupRank A).2.1 = v9 at hnr ⊢
  change zW Γ mLaw (487 + 3) _ (vI v9 :: vI (nrm v9) :: _) _ _ _ Q
  refine zW_nrm ?_
  refine zW_icmp_eq (tgt := 3534) dL_law_490 (by decide) (by first | assumption | omega | (unfold InR; omega) | (unfold InL; omega) | (simp only [InR] at *; omega)) (by first | assumption | omega | (unfold InR; omega) | (unfold InL; omega) | (simp only [InR] at *; omega)) (fun b => ?_) (fun b => ?_)
  · exact k σ2 _ _ _ _ _ _ hL (by show cu + 0 + 0 ≤ cu + 20; omega) (by show su + 0 + 0 ≤ su + 150; omega)
  · exact absurd rfl b
set_option maxRecDepth 100000 in
theorem w_34_intersectionRank (h : LHd Γ σ x y z A) (hi : i + 6 ≤ gL Γ) (hc : cu ≤ 600000) (hs : su ≤ 7200000) (k : ∀ σ' A' cu' su' z5 z6 z7, LHd Γ σ' x y z A' → cu' ≤ cu + 20 → su' ≤ su + 150 → zW Γ mLaw 3534 [some (vR (some (gb Γ))), some (vR (some x)), some (vR (some y)), some (vR (some z)), some (vI i), z5, z6, z7] [] σ' cu' su' Q) : zW Γ mLaw 2351 [some (vR (some (gb Γ))), some (vR (some x)), some (vR (some y)), some (vR (some z)), some (vI i), z5, z6, z7] [] σ cu su Q := by
  obtain ⟨a1, a2, a3, a4, a6, ⟨b4, b5⟩, a9⟩ := id h
  have hr9 := a3.1.1.2
  have aoo : AO (o_intersectionRank A).2.2 := a3
  have hnr := nrm_in (o_intersectionRank A).2.1
  refine zW_aload_n dL_law_2351 rfl ?_
  refine zcV0 dL_law_2352 rfl eX9_intersectionRank b332 ⟨by decide, by decide, (by show cu + 0 + 2 ≤ 601024; omega), (by show su + 0 + 12 ≤ 7293034; omega)⟩ rfl a1.xk.1 rfl (by decide) (Nat.le_of_ble_eq_true rfl) (c_intersectionRank a1 (fun σ1 h1 m1 => ?_))
  have hz1 : zK σ1 z = (14, 1) := by rw [(m1 z (fun q => by unfold xr at q; omega)).1]; exact a4
  have m1 : Mx σ σ1 (lzz x z) := m1.lz0
  have r1 : RI σ1 y A := a2.out m1 (fun a g1 g2 q => by unfold lzz xr at q; omega)
  change zW Γ mLaw (2352 + 3) _ (vI (o_intersectionRank A).2.1 :: _) _ _ _ Q
  refine zW_nrm ?_
  refine zW_aload_n dL_law_2355 rfl ?_
  refine zcV0 dL_law_2356 rfl eX10_intersectionRank b1756 ⟨by decide, by decide, (by show cu + 2 + 0 ≤ 601024; omega), (by show su + 12 + 0 ≤ 7293034; omega)⟩ rfl r1.1.1 rfl (by decide) (Nat.le_of_ble_eq_true rfl) (q_intersectionRank r1 (fun σ2 v2 hR ht hm hv => ?_))
  rw [hv rfl]
  have hL := h.step m1 h1 hz1 hR hm aoo
  generalize (o_intersectionRank A).2.1 = v9 at hnr ⊢
  change zW Γ mLaw (2356 + 3) _ (vI v9 :: vI (nrm v9) :: _) _ _ _ Q
  refine zW_nrm ?_
  refine zW_icmp_eq (tgt := 3534) dL_law_2359 (by decide) (by first | assumption | omega | (unfold InR; omega) | (unfold InL; omega) | (simp only [InR] at *; omega)) (by first | assumption | omega | (unfold InR; omega) | (unfold InL; omega) | (simp only [InR] at *; omega)) (fun b => ?_) (fun b => ?_)
  · exact k σ2 _ _ _ _ _ _ hL (by show cu + 2 + 0 ≤ cu + 20; omega) (by show su + 12 + 0 ≤ su + 150; omega)
  · exact absurd rfl b
set_option maxRecDepth 100000 in
theorem w_35_intersectionIndex (h : LHd Γ σ x y z A) (hi : i + 6 ≤ gL Γ) (hc : cu ≤ 600000) (hs : su ≤ 7200000) (k : ∀ σ' A' cu' su' z5 z6 z7, LHd Γ σ' x y z A' → cu' ≤ cu + 20 → su' ≤ su + 150 → zW Γ mLaw 3534 [some (vR (some (gb Γ))), some (vR (some x)), some (vR (some y)), some (vR (some z)), some (vI i), z5, z6, z7] [] σ' cu' su' Q) : zW Γ mLaw 2364 [some (vR (some (gb Γ))), some (vR (some x)), some (vR (some y)), some (vR (some z)), some (vI i), z5, z6, z7] [] σ cu su Q := by
  obtain ⟨a1, a2, a3, a4, a6, ⟨b4, b5⟩, a9⟩ := id h
  have hr9 := a3.1.1.2
  have aoo : AO (o_intersectionIndex A).2.2 := a3
  have hnr := nrm_in (o_intersectionIndex A).2.1
  refine zW_aload_n dL_law_2364 rfl ?_
  refine zcV0 dL_law_2365 rfl eX9_intersectionIndex b487 ⟨by decide, by decide, (by show cu + 0 + 4 ≤ 601024; omega), (by show su + 0 + 24 ≤ 7293034; omega)⟩ rfl a1.xk.1 rfl (by decide) (Nat.le_of_ble_eq_true rfl) (c_intersectionIndex a1 hr9 (fun σ1 h1 m1 => ?_))
  have hz1 : zK σ1 z = (14, 1) := by rw [(m1 z (fun q => by unfold xr at q; omega)).1]; exact a4
  have m1 : Mx σ σ1 (lzz x z) := m1.lz0
  have r1 : RI σ1 y A := a2.out m1 (fun a g1 g2 q => by unfold lzz xr at q; omega)
  change zW Γ mLaw (2365 + 3) _ (vI (o_intersectionIndex A).2.1 :: _) _ _ _ Q
  refine zW_nrm ?_
  refine zW_aload_n dL_law_2368 rfl ?_
  refine zcV0 dL_law_2369 rfl eX10_intersectionIndex b1764 ⟨by decide, by decide, (by show cu + 4 + 0 ≤ 601024; omega), (by show su + 24 + 0 ≤ 7293034; omega)⟩ rfl r1.1.1 rfl (by decide) (Nat.le_of_ble_eq_true rfl) (q_intersectionIndex r1 a3 (fun σ2 v2 hR ht hm hv => ?_))
  rw [hv rfl]
  have hL := h.step m1 h1 hz1 hR hm aoo
  generalize (o_intersectionIndex A).2.1 = v9 at hnr ⊢
  change zW Γ mLaw (2369 + 3) _ (vI v9 :: vI (nrm v9) :: _) _ _ _ Q
  refine zW_nrm ?_
  refine zW_icmp_eq (tgt := 3534) dL_law_2372 (by decide) (by first | assumption | omega | (unfold InR; omega) | (unfold InL; omega) | (simp only [InR] at *; omega)) (by first | assumption | omega | (unfold InR; omega) | (unfold InL; omega) | (simp only [InR] at *; omega)) (fun b => ?_) (fun b => ?_)
  · exact k σ2 _ _ _ _ _ _ hL (by show cu + 4 + 0 ≤ cu + 20; omega) (by show su + 24 + 0 ≤ su + 150; omega)
  · exact absurd rfl b
set_option maxRecDepth 100000 in
theorem w_48_save (h : LHd Γ σ x y z A) (hi : i + 6 ≤ gL Γ) (hc : cu ≤ 600000) (hs : su ≤ 7200000) (k : ∀ σ' A' cu' su' z5 z6 z7, LHd Γ σ' x y z A' → cu' ≤ cu + 20 → su' ≤ su + 150 → zW Γ mLaw 3534 [some (vR (some (gb Γ))), some (vR (some x)), some (vR (some y)), some (vR (some z)), some (vI i), z5, z6, z7] [] σ' cu' su' Q) : zW Γ mLaw 3229 [some (vR (some (gb Γ))), some (vR (some x)), some (vR (some y)), some (vR (some z)), some (vI i), z5, z6, z7] [] σ cu su Q := by
  obtain ⟨a1, a2, a3, a4, a6, ⟨b4, b5⟩, a9⟩ := id h
  have hr9 := a3.1.1.2
  have aoo : AO (o_save A).2.2 := ao_save a3
  have hnr := nrm_in (o_save A).2.1
  refine zW_aload_n dL_law_3229 rfl ?_
  refine zcV0 dL_law_3230 rfl eX9_save b496 ⟨by decide, by decide, (by show cu + 0 + 0 ≤ 601024; omega), (by show su + 0 + 0 ≤ 7293034; omega)⟩ rfl a1.xk.1 rfl (by decide) (Nat.le_of_ble_eq_true rfl) (c_save a1 (fun σ1 h1 m1 => ?_))
  have hz1 : zK σ1 z = (14, 1) := by rw [(m1 z (fun q => by unfold xr at q; omega)).1]; exact a4
  have m1 : Mx σ σ1 (lzz x z) := m1.lz0
  have r1 : RI σ1 y A := a2.out m1 (fun a g1 g2 q => by unfold lzz xr at q; omega)
  change zW Γ mLaw (3230 + 3) _ (vI (o_save A).2.1 :: _) _ _ _ Q
  refine zW_nrm ?_
  refine zW_aload_n dL_law_3233 rfl ?_
  refine zcV0 dL_law_3234 rfl eX10_save b1835 ⟨by decide, by decide, (by show cu + 0 + 0 ≤ 601024; omega), (by show su + 0 + 0 ≤ 7293034; omega)⟩ rfl r1.1.1 rfl (by decide) (Nat.le_of_ble_eq_true rfl) (q_save r1 (fun σ2 v2 hR ht hm hv => ?_))
  rw [hv rfl]
  have hL := h.step m1 h1 hz1 hR hm aoo
  generalize (o_save A).2.1 = v9 at hnr ⊢
  change zW Γ mLaw (3234 + 3) _ (vI v9 :: vI (nrm v9) :: _) _ _ _ Q
  refine zW_nrm ?_
  refine zW_icmp_eq (tgt := 3534) dL_law_3237 (by decide) (by first | assumption | omega | (unfold InR; omega) | (unfold InL; omega) | (simp only [InR] at *; omega)) (by first | assumption | omega | (unfold InR; omega) | (unfold InL; omega) | (simp only [InR] at *; omega)) (fun b => ?_) (fun b => ?_)
  · exact k σ2 _ _ _ _ _ _ hL (by show cu + 0 + 0 ≤ cu + 20; omega) (by show su + 0 + 0 ≤ su + 150; omega)
  · exact absurd rfl b
set_option maxRecDepth 100000 in
theorem law_loop (hQ : ∀ σ', Q (.inl (some (vI 1))) σ') : ∀ m i A σ cu su z5 z6 z7, LHd Γ σ x y z A → gL Γ < i + 6 * m + 6 → i ≤ gL Γ → cu + 20 * m ≤ 600000 → su + 150 * m ≤ 7200000 → zW Γ mLaw 23 [some (vR (some (gb Γ))), some (vR (some x)), some (vR (some y)), some (vR (some z)), some (vI i), z5, z6, z7] [] σ cu su Q := by
  intro m
  induction m with
  | zero =>
    intro i A σ cu su z5 z6 z7 h hn hin hc hs
    have a6 := h.2.2.2.2.1
    refine zW_iload dL_law_23 rfl ?_
    refine zW_aload_n dL_law_25 rfl ?_
    refine zW_slen dL_law_26 ?_
    refine zW_bipush dL_law_27 (by decide) ?_
    refine zW_isub dL_law_29 ?_
    refine zW_icmp_gt (tgt := 3540) dL_law_30 (by decide) (by first | assumption | omega | (unfold InR; omega) | (unfold InL; omega) | (simp only [InR] at *; omega)) (by first | assumption | omega | (unfold InR; omega) | (unfold InL; omega) | (simp only [InR] at *; omega)) (fun b => ?_) (fun b => ?_)
    · refine zW_iconst dL_law_3540 ?_
      refine zW_ireturn dL_law_3541 rfl rfl (by first | decide | (show _ ≤ (601024 : Nat); omega)) (by first | decide | (show _ ≤ (7293034 : Nat); omega)) ?_
      exact hQ σ
    · exact absurd b (by omega)
  | succ m ih =>
    intro i A σ cu su z5 z6 z7 h hn hin hc hs
    have a6 := h.2.2.2.2.1
    refine zW_iload dL_law_23 rfl ?_
    refine zW_aload_n dL_law_25 rfl ?_
    refine zW_slen dL_law_26 ?_
    refine zW_bipush dL_law_27 (by decide) ?_
    refine zW_isub dL_law_29 ?_
    refine zW_icmp_gt (tgt := 3540) dL_law_30 (by decide) (by first | assumption | omega | (unfold InR; omega) | (unfold InL; omega) | (simp only [InR] at *; omega)) (by first | assumption | omega | (unfold InR; omega) | (unfold InL; omega) | (simp only [InR] at *; omega)) (fun b => ?_) (fun b => ?_)
    · refine zW_iconst dL_law_3540 ?_
      refine zW_ireturn dL_law_3541 rfl rfl (by first | decide | (show _ ≤ (601024 : Nat); omega)) (by first | decide | (show _ ≤ (7293034 : Nat); omega)) ?_
      exact hQ σ
    · have hi : i + 6 ≤ gL Γ := by omega
      have next : ∀ σ' A' cu' su' z5 z6 z7, LHd Γ σ' x y z A' → cu' ≤ cu + 20 → su' ≤ su + 150 → zW Γ mLaw 3534 [some (vR (some (gb Γ))), some (vR (some x)), some (vR (some y)), some (vR (some z)), some (vI i), z5, z6, z7] [] σ' cu' su' Q := by
        intro σ' A' cu' su' z5 z6 z7 h' c' s'
        refine zW_iinc dL_law_3534 rfl (by decide) rfl rfl ?_
        refine zW_goto (tgt := 23) dL_law_3537 (by decide) ?_
        exact ih (i + 6) A' σ' cu' su' z5 z6 z7 h' (by omega) (by omega) (by omega) (by omega)
      refine zW_aload_n dL_law_33 rfl ?_
      refine zW_iload dL_law_34 rfl ?_
      refine zsI (j := i) dL_law_36 a6 (by omega) (by omega) ?_
      refine zW_bipush dL_law_37 (by decide) ?_
      refine zW_iand dL_law_39 ?_
      have hw : InR ((iI (sx Γ i) &&& iI 63).toInt) := InR_of _
      generalize (iI (sx Γ i) &&& iI 63).toInt = w at hw ⊢
      by_cases hk : 0 ≤ w ∧ w ≤ 53
      · obtain ⟨j, rfl⟩ : ∃ j : Nat, w = (j : Int) := ⟨w.toNat, by omega⟩
        have hj : j < 54 := by omega
        by_cases e9 : j = 0
        · subst e9
          refine zW_tswIn (off := 232) (tgt := 272) dL_law_40 hw hk.1 hk.2 rfl (by decide) ?_
          exact w_0_append h hi (by omega) (by omega) next
        by_cases e9 : j = 1
        · subst e9
          refine zW_tswIn (off := 336) (tgt := 376) dL_law_40 hw hk.1 hk.2 rfl (by decide) ?_
          exact w_1_truncate h hi (by omega) (by omega) next
        by_cases e9 : j = 2
        · subst e9
          refine zW_tswIn (off := 372) (tgt := 412) dL_law_40 hw hk.1 hk.2 rfl (by decide) ?_
          exact w_2_load h hi (by omega) (by omega) next
        by_cases e9 : j = 3
        · subst e9
          refine zW_tswIn (off := 416) (tgt := 456) dL_law_40 hw hk.1 hk.2 rfl (by decide) ?_
          exact w_3_errorKind h hi (by omega) (by omega) next
        by_cases e9 : j = 4
        · subst e9
          refine zW_tswIn (off := 429) (tgt := 469) dL_law_40 hw hk.1 hk.2 rfl (by decide) ?_
          exact w_4_errorPosition h hi (by omega) (by omega) next
        by_cases e9 : j = 5
        · subst e9
          refine zW_tswIn (off := 442) (tgt := 482) dL_law_40 hw hk.1 hk.2 rfl (by decide) ?_
          exact w_5_groupRank h hi (by omega) (by omega) next
        by_cases e9 : j = 6
        · subst e9
          refine zW_tswIn (off := 455) (tgt := 495) dL_law_40 hw hk.1 hk.2 rfl (by decide) ?_
          exact w_6_wordLength h hi (by omega) (by omega) next
        by_cases e9 : j = 7
        · subst e9
          refine zW_tswIn (off := 511) (tgt := 551) dL_law_40 hw hk.1 hk.2 rfl (by decide) ?_
          exact w_7_letter h hi (by omega) (by omega) next
        by_cases e9 : j = 8
        · subst e9
          refine zW_tswIn (off := 579) (tgt := 619) dL_law_40 hw hk.1 hk.2 rfl (by decide) ?_
          exact w_8_areEqual h hi (by omega) (by omega) next
        by_cases e9 : j = 9
        · subst e9
          refine zW_tswIn (off := 654) (tgt := 694) dL_law_40 hw hk.1 hk.2 rfl (by decide) ?_
          exact w_9_areInverse h hi (by omega) (by omega) next
        by_cases e9 : j = 10
        · subst e9
          refine zW_tswIn (off := 729) (tgt := 769) dL_law_40 hw hk.1 hk.2 rfl (by decide) ?_
          exact w_10_compare h hi (by omega) (by omega) next
        by_cases e9 : j = 11
        · subst e9
          refine zW_tswIn (off := 797) (tgt := 837) dL_law_40 hw hk.1 hk.2 rfl (by decide) ?_
          exact w_11_exponentSum h hi (by omega) (by omega) next
        by_cases e9 : j = 12
        · subst e9
          refine zW_tswIn (off := 865) (tgt := 905) dL_law_40 hw hk.1 hk.2 rfl (by decide) ?_
          exact w_12_commonPrefix h hi (by omega) (by omega) next
        by_cases e9 : j = 13
        · subst e9
          refine zW_tswIn (off := 933) (tgt := 973) dL_law_40 hw hk.1 hk.2 rfl (by decide) ?_
          exact w_13_cancellation h hi (by omega) (by omega) next
        by_cases e9 : j = 14
        · subst e9
          refine zW_tswIn (off := 1001) (tgt := 1041) dL_law_40 hw hk.1 hk.2 rfl (by decide) ?_
          exact w_14_doCommute h hi (by omega) (by omega) next
        by_cases e9 : j = 15
        · subst e9
          refine zW_tswIn (off := 1076) (tgt := 1116) dL_law_40 hw hk.1 hk.2 rfl (by decide) ?_
          exact w_15_coreLength h hi (by omega) (by omega) next
        by_cases e9 : j = 16
        · subst e9
          refine zW_tswIn (off := 1132) (tgt := 1172) dL_law_40 hw hk.1 hk.2 rfl (by decide) ?_
          exact w_16_coreLetter h hi (by omega) (by omega) next
        by_cases e9 : j = 17
        · subst e9
          refine zW_tswIn (off := 1200) (tgt := 1240) dL_law_40 hw hk.1 hk.2 rfl (by decide) ?_
          exact w_17_areConjugate h hi (by omega) (by omega) next
        by_cases e9 : j = 18
        · subst e9
          refine zW_tswIn (off := 1275) (tgt := 1315) dL_law_40 hw hk.1 hk.2 rfl (by decide) ?_
          exact w_18_rotation h hi (by omega) (by omega) next
        by_cases e9 : j = 19
        · subst e9
          refine zW_tswIn (off := 1343) (tgt := 1383) dL_law_40 hw hk.1 hk.2 rfl (by decide) ?_
          exact w_19_rootExponent h hi (by omega) (by omega) next
        by_cases e9 : j = 20
        · subst e9
          refine zW_tswIn (off := 1399) (tgt := 1439) dL_law_40 hw hk.1 hk.2 rfl (by decide) ?_
          exact w_20_magnusDegree h hi (by omega) (by omega) next
        by_cases e9 : j = 21
        · subst e9
          refine zW_tswIn (off := 1455) (tgt := 1495) dL_law_40 hw hk.1 hk.2 rfl (by decide) ?_
          exact w_21_magnusCoefficient h hi (by omega) (by omega) next
        by_cases e9 : j = 22
        · subst e9
          refine zW_tswIn (off := 1535) (tgt := 1575) dL_law_40 hw hk.1 hk.2 rfl (by decide) ?_
          exact w_22_magnusNorm h hi (by omega) (by omega) next
        by_cases e9 : j = 23
        · subst e9
          refine zW_tswIn (off := 1602) (tgt := 1642) dL_law_40 hw hk.1 hk.2 rfl (by decide) ?_
          exact w_23_generatingWordCount h hi (by omega) (by omega) next
        by_cases e9 : j = 24
        · subst e9
          refine zW_tswIn (off := 1658) (tgt := 1698) dL_law_40 hw hk.1 hk.2 rfl (by decide) ?_
          exact w_24_vertexCount h hi (by omega) (by omega) next
        by_cases e9 : j = 25
        · subst e9
          refine zW_tswIn (off := 1714) (tgt := 1754) dL_law_40 hw hk.1 hk.2 rfl (by decide) ?_
          exact w_25_edgeCount h hi (by omega) (by omega) next
        by_cases e9 : j = 26
        · subst e9
          refine zW_tswIn (off := 1770) (tgt := 1810) dL_law_40 hw hk.1 hk.2 rfl (by decide) ?_
          exact w_26_neighbour h hi (by omega) (by omega) next
        by_cases e9 : j = 27
        · subst e9
          refine zW_tswIn (off := 1850) (tgt := 1890) dL_law_40 hw hk.1 hk.2 rfl (by decide) ?_
          exact w_27_subgroupRank h hi (by omega) (by omega) next
        by_cases e9 : j = 28
        · subst e9
          refine zW_tswIn (off := 1906) (tgt := 1946) dL_law_40 hw hk.1 hk.2 rfl (by decide) ?_
          exact w_28_index h hi (by omega) (by omega) next
        by_cases e9 : j = 29
        · subst e9
          refine zW_tswIn (off := 1962) (tgt := 2002) dL_law_40 hw hk.1 hk.2 rfl (by decide) ?_
          exact w_29_contains h hi (by omega) (by omega) next
        by_cases e9 : j = 30
        · subst e9
          refine zW_tswIn (off := 2037) (tgt := 2077) dL_law_40 hw hk.1 hk.2 rfl (by decide) ?_
          exact w_30_reachedVertex h hi (by omega) (by omega) next
        by_cases e9 : j = 31
        · subst e9
          refine zW_tswIn (off := 2105) (tgt := 2145) dL_law_40 hw hk.1 hk.2 rfl (by decide) ?_
          exact w_31_smallestPower h hi (by omega) (by omega) next
        by_cases e9 : j = 32
        · subst e9
          refine zW_tswIn (off := 2173) (tgt := 2213) dL_law_40 hw hk.1 hk.2 rfl (by decide) ?_
          exact w_32_isNormal h hi (by omega) (by omega) next
        by_cases e9 : j = 33
        · subst e9
          refine zW_tswIn (off := 2236) (tgt := 2276) dL_law_40 hw hk.1 hk.2 rfl (by decide) ?_
          exact w_33_containsSubgroup h hi (by omega) (by omega) next
        by_cases e9 : j = 34
        · subst e9
          refine zW_tswIn (off := 2311) (tgt := 2351) dL_law_40 hw hk.1 hk.2 rfl (by decide) ?_
          exact w_34_intersectionRank h hi (by omega) (by omega) next
        by_cases e9 : j = 35
        · subst e9
          refine zW_tswIn (off := 2324) (tgt := 2364) dL_law_40 hw hk.1 hk.2 rfl (by decide) ?_
          exact w_35_intersectionIndex h hi (by omega) (by omega) next
        by_cases e9 : j = 36
        · subst e9
          refine zW_tswIn (off := 2337) (tgt := 2377) dL_law_40 hw hk.1 hk.2 rfl (by decide) ?_
          exact w_36_representativeLength h hi (by omega) (by omega) next
        by_cases e9 : j = 37
        · subst e9
          refine zW_tswIn (off := 2405) (tgt := 2445) dL_law_40 hw hk.1 hk.2 rfl (by decide) ?_
          exact w_37_setRegister h hi (by omega) (by omega) next
        by_cases e9 : j = 38
        · subst e9
          refine zW_tswIn (off := 2461) (tgt := 2501) dL_law_40 hw hk.1 hk.2 rfl (by decide) ?_
          exact w_38_setProduct h hi (by omega) (by omega) next
        by_cases e9 : j = 39
        · subst e9
          refine zW_tswIn (off := 2541) (tgt := 2581) dL_law_40 hw hk.1 hk.2 rfl (by decide) ?_
          exact w_39_setInverse h hi (by omega) (by omega) next
        by_cases e9 : j = 40
        · subst e9
          refine zW_tswIn (off := 2609) (tgt := 2649) dL_law_40 hw hk.1 hk.2 rfl (by decide) ?_
          exact w_40_setConjugate h hi (by omega) (by omega) next
        by_cases e9 : j = 41
        · subst e9
          refine zW_tswIn (off := 2689) (tgt := 2729) dL_law_40 hw hk.1 hk.2 rfl (by decide) ?_
          exact w_41_setCommutator h hi (by omega) (by omega) next
        by_cases e9 : j = 42
        · subst e9
          refine zW_tswIn (off := 2769) (tgt := 2809) dL_law_40 hw hk.1 hk.2 rfl (by decide) ?_
          exact w_42_setPower h hi (by omega) (by omega) next
        by_cases e9 : j = 43
        · subst e9
          refine zW_tswIn (off := 2849) (tgt := 2889) dL_law_40 hw hk.1 hk.2 rfl (by decide) ?_
          exact w_43_setRoot h hi (by omega) (by omega) next
        by_cases e9 : j = 44
        · subst e9
          refine zW_tswIn (off := 2917) (tgt := 2957) dL_law_40 hw hk.1 hk.2 rfl (by decide) ?_
          exact w_44_substitute h hi (by omega) (by omega) next
        by_cases e9 : j = 45
        · subst e9
          refine zW_tswIn (off := 3009) (tgt := 3049) dL_law_40 hw hk.1 hk.2 rfl (by decide) ?_
          exact w_45_addGeneratingWord h hi (by omega) (by omega) next
        by_cases e9 : j = 46
        · subst e9
          refine zW_tswIn (off := 3077) (tgt := 3117) dL_law_40 hw hk.1 hk.2 rfl (by decide) ?_
          exact w_46_removeGeneratingWord h hi (by omega) (by omega) next
        by_cases e9 : j = 47
        · subst e9
          refine zW_tswIn (off := 3145) (tgt := 3185) dL_law_40 hw hk.1 hk.2 rfl (by decide) ?_
          exact w_47_undo h hi (by omega) (by omega) next
        by_cases e9 : j = 48
        · subst e9
          refine zW_tswIn (off := 3189) (tgt := 3229) dL_law_40 hw hk.1 hk.2 rfl (by decide) ?_
          exact w_48_save h hi (by omega) (by omega) next
        by_cases e9 : j = 49
        · subst e9
          refine zW_tswIn (off := 3202) (tgt := 3242) dL_law_40 hw hk.1 hk.2 rfl (by decide) ?_
          exact w_49_restore h hi (by omega) (by omega) next
        by_cases e9 : j = 50
        · subst e9
          refine zW_tswIn (off := 3246) (tgt := 3286) dL_law_40 hw hk.1 hk.2 rfl (by decide) ?_
          exact w_50_formatWord h hi (by omega) (by omega) next
        by_cases e9 : j = 51
        · subst e9
          refine zW_tswIn (off := 3302) (tgt := 3342) dL_law_40 hw hk.1 hk.2 rfl (by decide) ?_
          exact w_51_formatBasisWord h hi (by omega) (by omega) next
        by_cases e9 : j = 52
        · subst e9
          refine zW_tswIn (off := 3370) (tgt := 3410) dL_law_40 hw hk.1 hk.2 rfl (by decide) ?_
          exact w_52_formatRepresentative h hi (by omega) (by omega) next
        by_cases e9 : j = 53
        · subst e9
          refine zW_tswIn (off := 3438) (tgt := 3478) dL_law_40 hw hk.1 hk.2 rfl (by decide) ?_
          exact w_53_formattedCharacter h hi (by omega) (by omega) next
        exact absurd hj (by omega)
      · refine zW_tswOut (tgt := 3534) dL_law_40 hw (by omega) (by decide) ?_
        exact next σ A cu su z5 z6 z7 h (by omega) (by omega)
end LAWL
