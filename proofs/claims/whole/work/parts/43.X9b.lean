/-! the calculator: graphs -/
noncomputable abbrev gr (A : AA) (g : Int) : GT := grf (sGw (aSt A) g.toNat)
abbrev gad (x : Nat) (g : Int) : Nat := x + 511 + 5 * g.toNat
def gq (x : Nat) (g : Int) : Nat → Prop := fun a => op7 (x + 493) a ∨ bp (gad x g) a
set_option maxRecDepth 100000 in
theorem gq_xr {x a : Nat} {g : Int} (hg : inR2 g) (h : gq x g a) : xr x a := by
  unfold gq op7 bp at h
  unfold xr
  unfold gad at h
  omega
set_option maxRecDepth 100000 in
theorem GD.o6 {σ : HS} {b : Nat} {G : GT} {v : Int} (h : GD σ b G) : GD (sO σ b 6 v) b G := by
  obtain ⟨h1, h2, h3, h4, h5⟩ := h
  exact ⟨h1, h2, by rw [zO_sOk _ _ _ _ (by omega)]; exact h3, by rw [zO_sOk _ _ _ _ (by omega)]; exact h4, h5⟩
def gg1 (A : AA) (g v : Int) : Out := if inR2 g then (0, v, A) else (1, 0, A)
def gg2 (A : AA) (g r v : Int) : Out := if inR2 g then (if inR8 r then (0, v, A) else (1, 0, A)) else (1, 0, A)
section CALCG
variable {Γ : GG} {σ : HS} {Q : Res → HS → Prop} {x : Nat} {A : AA}
set_option maxRecDepth 100000 in
theorem c_graphOf {g : Int} (h : CI σ x A) (hi : InR g) (h1 : inR2 g → ∀ σ', CI σ' x A → GD σ' (gad x g) (gr A g) → zO σ' (gad x g) 6 = 0 → Md σ σ' (gq x g) → IsGr (sGw (aSt A) g.toNat) (gr A g) → Q (.inl (some (vR (some (gad x g))))) σ') (h0 : ¬ inR2 g → ∀ m, Q (.inr eI) (sN σ m)) : zM Γ mX9_graphOf [vR (some x), vI g] σ Q := by
  obtain ⟨z0, z1, z2, z3, z4, z5, z6, z7, z8, z9, z10, z11, z12, k1, k2, k3, k4⟩ := h.xk
  refine zM_of (n := 1) (by decide +kernel) rfl rfl rfl ?_
  refine zW_iload_n dX9_graphOf_0 rfl ?_
  refine zW_iconst dX9_graphOf_1 ?_
  refine zcS2 dX9_graphOf_2 rfl eX9_checkIndex b344 ⟨by decide, by decide, by decide, by decide⟩ rfl (Nat.le_of_ble_eq_true rfl) (c_checkIndex hi (by unfold InR; omega) (fun g1 g2 => ?_) (fun g m => ?_))
  · have hg2 : g.toNat < 2 := by omega
    have hgK : GK σ (gad x g) := by
      unfold gad
      rcases (by omega : g.toNat = 0 ∨ g.toNat = 1) with e | e
      · rw [e]; exact h.1.2.2.2.2.2.2.2.2.1
      · rw [e]; exact h.1.2.2.2.2.2.2.2.2.2
    have hP : zP σ (x + 492) g.toNat = some (gad x g) := by
      unfold gad
      rcases (by omega : g.toNat = 0 ∨ g.toNat = 1) with e | e
      · rw [e]; exact k3
      · rw [e]; exact k4
    have hS := h.st
    have hcG := h.2.2.2.2.2.2.2.2.1 g.toNat hg2
    have h6' := hcG.2
    have hO := h.1.2.2.2.1
    have hsc := h.2.2.2.2.2.2.1
    have bz : InR (zO σ (gad x g) 6) := by
      unfold InR
      rcases h6' with e | e
      · change zO σ (gad x g) 6 = 1 at e; omega
      · have e := e.1
        change zO σ (gad x g) 6 = 0 at e; omega
    refine zW_aload_n dX9_graphOf_5 rfl ?_
    refine zgP dX9_graphOf_6 fX9_39 z0 rfl z6 ?_
    refine zW_iload_n dX9_graphOf_9 rfl ?_
    refine zrP dX9_graphOf_10 k2 (by decide) (by decide) (by first | assumption | omega | (unfold InR; omega) | (unfold InL; omega) | (simp only [InR] at *; omega)) (by first | assumption | omega | (unfold InR; omega) | (unfold InL; omega) | (simp only [InR] at *; omega)) (by first | assumption | omega | (unfold InR; omega) | (unfold InL; omega) | (simp only [InR] at *; omega)) hP ?_
    refine zW_astore_n dX9_graphOf_11 (by decide) rfl rfl ?_
    refine zW_aload_n dX9_graphOf_12 rfl ?_
    refine zgI dX9_graphOf_13 fX9_346 hgK.1 rfl rfl ?_
    refine zW_if_eq (tgt := 37) dX9_graphOf_16 (by decide) (by first | assumption | omega | (unfold InR; omega) | (unfold InL; omega) | (simp only [InR] at *; omega)) (fun q => ?_) (fun q => ?_)
    · refine zW_aload_n dX9_graphOf_37 rfl ?_
      refine zW_areturn dX9_graphOf_38 rfl (Or.inl ⟨_, rfl⟩) (by first | decide | (show _ ≤ (1 : Nat); omega)) (by first | decide | (show _ ≤ (6 : Nat); omega)) ?_
      rcases h6' with e | e
      · change zO σ (gad x g) 6 = 1 at e
        omega
      · exact h1 ⟨g1, g2⟩ σ h e.2.1 e.1 Md.rf e.2.2
    · have hl : ∀ w ∈ sGw (aSt A) g.toNat, w.length ≤ 60 := fun w hw => by
        obtain ⟨k, hk⟩ := List.getElem?_of_mem hw
        have hkl := (List.getElem?_eq_some_iff.mp hk).1
        have := (hS.gw (g := g.toNat) (k := k) hg2 hkl).cap
        rw [List.getD_eq_getElem?_getD, hk] at this
        exact this
      have eg : g = ((g.toNat : Nat) : Int) := by omega
      have hrow : zI σ (gad x g + 4) 0 = 0 := by
        have := hcG.1
        rw [show x + 515 + 5 * g.toNat = gad x g + 4 by unfold gad; omega] at this
        exact this
      have hf : ∀ R, (∀ σ', GD σ' (gad x g) (gr A g) → zO σ' (x + 493) 5 = 0 → zI σ' (gad x g + 4) 0 = 0 → Md σ σ' (nq (x + 493) (gad x g)) → IsGr (sGw (aSt A) g.toNat) (gr A g) → R (.inl none) σ') → zM Γ mX0_fold [vR (some (x + 493)), vR (some (x + 2)), vI g, vR (some (gad x g))] σ R := by
        intro R hR
        have := v_fold (Γ := Γ) (Q := R) hO hsc.1 hgK hrow hS hg2 hl (by unfold gad; omega) (by omega) (by unfold gad; omega) hR
        rw [← eg] at this
        exact this
      refine zW_aload_n dX9_graphOf_19 rfl ?_
      refine zgP dX9_graphOf_20 fX9_46 z0 rfl z7 ?_
      refine zW_aload_n dX9_graphOf_23 rfl ?_
      refine zgP dX9_graphOf_24 fX9_16 z0 rfl z2 ?_
      refine zW_iload_n dX9_graphOf_27 rfl ?_
      refine zW_aload_n dX9_graphOf_28 rfl ?_
      refine zcV3 dX9_graphOf_29 rfl eX0_fold b416 ⟨by decide, by decide, by decide, by decide⟩ rfl hO.1 rfl (by decide) (Nat.le_of_ble_eq_true rfl) (hf _ (fun σ1 hGD h5 h80 m1 hIs => ?_))
      have hb1 : zK σ1 (gad x g) = (2, 0) := by rw [m1.K]; exact hgK.1
      refine zW_aload_n dX9_graphOf_32 rfl ?_
      refine zW_iconst dX9_graphOf_33 ?_
      refine zpI dX9_graphOf_34 fX9_346 hb1 rfl (Or.inl rfl) zst_0 ?_
      refine zW_aload_n dX9_graphOf_37 rfl ?_
      refine zW_areturn dX9_graphOf_38 rfl (Or.inl ⟨_, rfl⟩) (by first | decide | (show _ ≤ (1 : Nat); omega)) (by first | decide | (show _ ≤ (6 : Nat); omega)) ?_
      have m2 : Md σ1 (sO σ1 (gad x g) 6 0) (fun a => a = gad x g) := Md.O rfl
      have m12 : Md σ (sO σ1 (gad x g) 6 0) (gq x g) := (m1.wk (P' := gq x g) (fun _ z => z)).tr m2 (fun a z => Or.inr (by rw [z]; unfold bp; omega))
      have no : ∀ a, ¬ (op7 (x + 493) a ∨ bp (gad x g) a) → ¬ gq x g a := fun a z => z
      have hg6 : GD (sO σ1 (gad x g) 6 0) (gad x g) (gr A g) := hGD.o6
      have gl : gad x g + 5 ≤ x + 521 ∧ x + 511 ≤ gad x g := by unfold gad; omega
      refine h1 ⟨g1, g2⟩ _ ?_ hg6 (zO_sOs _ _ _ _) m12 hIs
      obtain ⟨a1, a2, a3, a4, a5, a6, a7, a8, a9, a10⟩ := h
      have nx : ∀ a, (a < x + 493 ∨ (x + 500 ≤ a ∧ a < x + 511)) → ¬ gq x g a := fun a ha z => by unfold gq op7 bp at z; omega
      refine ⟨a1.md m12, a2.md m12 (nx _ (by omega)) (nx _ (by omega)), a3.md m12 (fun a z => nx a (by unfold sp at z; omega)), a4.md m12 (nx _ (by omega)) (fun a z => nx a (by unfold sp at z; omega)), a5.md m12 (fun a z => nx a (by unfold hp at z; omega)), ?_, ⟨?_, ?_⟩, a8.md m12 (nx _ (by omega)) (nx _ (by omega)), fun f hf9 => ?_, a10.md m12 (nx _ (by omega))⟩
      · rw [m12.o (nx _ (by omega))]; exact a6
      · rw [m2.o (by omega)]; exact h5
      · rw [m12.i (nx _ (by omega))]; exact a7.2
      · by_cases e : f = g.toNat
        · subst e
          refine ⟨?_, Or.inr ⟨zO_sOs _ _ _ _, hg6, hIs⟩⟩
          rw [show x + 515 + 5 * g.toNat = gad x g + 4 by unfold gad; omega, m2.i (by omega)]
          exact h80
        · refine (a9 f hf9).md m12 (fun a z z' => ?_)
          unfold gq op7 bp at z'
          unfold bp at z
          unfold gad at z'
          omega
  · exact h0 g m
noncomputable abbrev o_vertexCount (A : AA) (g : Int) : Out := gg1 A g (gV (gr A g))
set_option maxRecDepth 100000 in
theorem c_vertexCount {g : Int} (h : CI σ x A) (ig : InR g) (hQ : ∀ σ', CI σ' x (o_vertexCount A g).2.2 → Mx σ σ' (xr x) → Q (rs e1 (o_vertexCount A g)) σ') : zM Γ mX9_vertexCount [vR (some x), vI g] σ Q := by
  obtain ⟨z0, z1, z2, z3, z4, z5, z6, z7, z8, z9, z10, z11, z12, k1, k2, k3, k4⟩ := h.xk
  refine zM_of (n := 0) (by decide +kernel) rfl rfl rfl ?_
  unfold o_vertexCount gg1 at hQ
  refine zW_aload_n dX9_vertexCount_0 rfl ?_
  refine zW_iload_n dX9_vertexCount_1 rfl ?_
  refine zcV1 dX9_vertexCount_2 rfl eX9_graphOf b340 ⟨by decide, by decide, by decide, by decide⟩ rfl z0 rfl (by decide) (Nat.le_of_ble_eq_true rfl) (c_graphOf h ig (fun gk σ1 h1 hG h61 m1 hIs => ?_) (fun gk m => ?_))
  · rw [if_pos gk] at hQ
    have mx1 := m1.mx (P' := xr x) (fun a z => gq_xr gk z)
    obtain ⟨z0, z1, z2, z3, z4, z5, z6, z7, z8, z9, z10, z11, z12, k1, k2, k3, k4⟩ := h1.xk
    have oG := hG.2.1
    have v9 := oG.2.1
    have v8 := oG.1
    have gV9 := hG.2.2.1
    have gE9 := hG.2.2.2.1
    refine zgI dX9_vertexCount_5 fX9_213 hG.1.1 rfl gV9 ?_
    refine zW_ireturn dX9_vertexCount_8 rfl rfl (by first | decide | (show _ ≤ (1 : Nat); omega)) (by first | decide | (show _ ≤ (6 : Nat); omega)) ?_
    exact hQ σ1 h1 mx1
  · rw [if_neg gk] at hQ
    exact hQ _ h.sn Mx.sn
noncomputable abbrev o_edgeCount (A : AA) (g : Int) : Out := gg1 A g (gE (gr A g))
set_option maxRecDepth 100000 in
theorem c_edgeCount {g : Int} (h : CI σ x A) (ig : InR g) (hQ : ∀ σ', CI σ' x (o_edgeCount A g).2.2 → Mx σ σ' (xr x) → Q (rs e1 (o_edgeCount A g)) σ') : zM Γ mX9_edgeCount [vR (some x), vI g] σ Q := by
  obtain ⟨z0, z1, z2, z3, z4, z5, z6, z7, z8, z9, z10, z11, z12, k1, k2, k3, k4⟩ := h.xk
  refine zM_of (n := 0) (by decide +kernel) rfl rfl rfl ?_
  unfold o_edgeCount gg1 at hQ
  refine zW_aload_n dX9_edgeCount_0 rfl ?_
  refine zW_iload_n dX9_edgeCount_1 rfl ?_
  refine zcV1 dX9_edgeCount_2 rfl eX9_graphOf b340 ⟨by decide, by decide, by decide, by decide⟩ rfl z0 rfl (by decide) (Nat.le_of_ble_eq_true rfl) (c_graphOf h ig (fun gk σ1 h1 hG h61 m1 hIs => ?_) (fun gk m => ?_))
  · rw [if_pos gk] at hQ
    have mx1 := m1.mx (P' := xr x) (fun a z => gq_xr gk z)
    obtain ⟨z0, z1, z2, z3, z4, z5, z6, z7, z8, z9, z10, z11, z12, k1, k2, k3, k4⟩ := h1.xk
    have oG := hG.2.1
    have v9 := oG.2.1
    have v8 := oG.1
    have gV9 := hG.2.2.1
    have gE9 := hG.2.2.2.1
    refine zgI dX9_edgeCount_5 fX9_216 hG.1.1 rfl gE9 ?_
    refine zW_ireturn dX9_edgeCount_8 rfl rfl (by first | decide | (show _ ≤ (1 : Nat); omega)) (by first | decide | (show _ ≤ (6 : Nat); omega)) ?_
    exact hQ σ1 h1 mx1
  · rw [if_neg gk] at hQ
    exact hQ _ h.sn Mx.sn
noncomputable abbrev o_subgroupRank (A : AA) (g : Int) : Out := gg1 A g ((gE (gr A g) : Int) - gV (gr A g) + 1)
set_option maxRecDepth 100000 in
theorem c_subgroupRank {g : Int} (h : CI σ x A) (ig : InR g) (hQ : ∀ σ', CI σ' x (o_subgroupRank A g).2.2 → Mx σ σ' (xr x) → Q (rs e1 (o_subgroupRank A g)) σ') : zM Γ mX9_subgroupRank [vR (some x), vI g] σ Q := by
  obtain ⟨z0, z1, z2, z3, z4, z5, z6, z7, z8, z9, z10, z11, z12, k1, k2, k3, k4⟩ := h.xk
  refine zM_of (n := 0) (by decide +kernel) rfl rfl rfl ?_
  unfold o_subgroupRank gg1 at hQ
  refine zW_aload_n dX9_subgroupRank_0 rfl ?_
  refine zW_iload_n dX9_subgroupRank_1 rfl ?_
  refine zcV1 dX9_subgroupRank_2 rfl eX9_graphOf b340 ⟨by decide, by decide, by decide, by decide⟩ rfl z0 rfl (by decide) (Nat.le_of_ble_eq_true rfl) (c_graphOf h ig (fun gk σ1 h1 hG h61 m1 hIs => ?_) (fun gk m => ?_))
  · rw [if_pos gk] at hQ
    have mx1 := m1.mx (P' := xr x) (fun a z => gq_xr gk z)
    obtain ⟨z0, z1, z2, z3, z4, z5, z6, z7, z8, z9, z10, z11, z12, k1, k2, k3, k4⟩ := h1.xk
    have oG := hG.2.1
    have v9 := oG.2.1
    have v8 := oG.1
    have gV9 := hG.2.2.1
    have gE9 := hG.2.2.2.1
    refine zcV0 dX9_subgroupRank_5 rfl eX2_cycleRank b985 ⟨by decide, by decide, by decide, by decide⟩ rfl hG.1.1 rfl (by decide) (Nat.le_of_ble_eq_true rfl) (g_cycleRank hG ?_)
    refine zW_ireturn dX9_subgroupRank_8 rfl rfl (by first | decide | (show _ ≤ (1 : Nat); omega)) (by first | decide | (show _ ≤ (6 : Nat); omega)) ?_
    exact hQ σ1 h1 mx1
  · rw [if_neg gk] at hQ
    exact hQ _ h.sn Mx.sn
noncomputable abbrev o_index (A : AA) (g : Int) : Out := gg1 A g (cif (gcomp (gr A g) (sRk (aSt A))) (gV (gr A g)) (-1))
set_option maxRecDepth 100000 in
theorem c_index {g : Int} (h : CI σ x A) (ig : InR g) (hr9 : sRk (aSt A) ≤ 4) (hQ : ∀ σ', CI σ' x (o_index A g).2.2 → Mx σ σ' (xr x) → Q (rs e1 (o_index A g)) σ') : zM Γ mX9_index [vR (some x), vI g] σ Q := by
  obtain ⟨z0, z1, z2, z3, z4, z5, z6, z7, z8, z9, z10, z11, z12, k1, k2, k3, k4⟩ := h.xk
  refine zM_of (n := 1) (by decide +kernel) rfl rfl rfl ?_
  unfold o_index gg1 at hQ
  refine zW_aload_n dX9_index_0 rfl ?_
  refine zW_iload_n dX9_index_1 rfl ?_
  refine zcV1 dX9_index_2 rfl eX9_graphOf b340 ⟨by decide, by decide, by decide, by decide⟩ rfl z0 rfl (by decide) (Nat.le_of_ble_eq_true rfl) (c_graphOf h ig (fun gk σ1 h1 hG h61 m1 hIs => ?_) (fun gk m => ?_))
  · rw [if_pos gk] at hQ
    have mx1 := m1.mx (P' := xr x) (fun a z => gq_xr gk z)
    obtain ⟨z0, z1, z2, z3, z4, z5, z6, z7, z8, z9, z10, z11, z12, k1, k2, k3, k4⟩ := h1.xk
    have oG := hG.2.1
    have v9 := oG.2.1
    have v8 := oG.1
    have gV9 := hG.2.2.1
    have gE9 := hG.2.2.2.1
    have hS := h1.st
    refine zW_astore_n dX9_index_5 (by decide) rfl rfl ?_
    refine zW_aload_n dX9_index_6 rfl ?_
    refine zW_aload_n dX9_index_7 rfl ?_
    refine zgP dX9_index_8 fX9_16 z0 rfl z2 ?_
    refine zgI dX9_index_11 fX9_126 hS.1.1 rfl hS.2.1 ?_
    refine zcV1 dX9_index_14 rfl eX2_isComplete b491 ⟨by decide, by decide, by decide, by decide⟩ rfl hG.1.1 rfl (by decide) (Nat.le_of_ble_eq_true rfl) (g_isComplete hG hr9 (fun k => ?_) (fun k => ?_))
    · rw [cif_t k] at hQ
      refine zW_if_eq (tgt := 27) dX9_index_17 (by decide) (by first | assumption | omega | (unfold InR; omega) | (unfold InL; omega) | (simp only [InR] at *; omega)) (fun q => ?_) (fun q => ?_)
      · exact absurd q (by decide)
      · refine zW_aload_n dX9_index_20 rfl ?_
        refine zgI dX9_index_21 fX9_213 hG.1.1 rfl gV9 ?_
        refine zW_goto (tgt := 28) dX9_index_24 (by decide) ?_
        refine zW_ireturn dX9_index_28 rfl rfl (by first | decide | (show _ ≤ (1 : Nat); omega)) (by first | decide | (show _ ≤ (6 : Nat); omega)) ?_
        exact hQ σ1 h1 mx1
    · rw [cif_f k] at hQ
      refine zW_if_eq (tgt := 27) dX9_index_17 (by decide) (by first | assumption | omega | (unfold InR; omega) | (unfold InL; omega) | (simp only [InR] at *; omega)) (fun q => ?_) (fun q => ?_)
      · refine zW_iconst dX9_index_27 ?_
        refine zW_ireturn dX9_index_28 rfl rfl (by first | decide | (show _ ≤ (1 : Nat); omega)) (by first | decide | (show _ ≤ (6 : Nat); omega)) ?_
        exact hQ σ1 h1 mx1
      · exact absurd rfl q
  · rw [if_neg gk] at hQ
    exact hQ _ h.sn Mx.sn
noncomputable def o_neighbour (A : AA) (g v c : Int) : Out := @ite Out (inR2 g) _ (@ite Out (0 ≤ v ∧ v < gV (gr A g)) _ (@ite Out (0 ≤ c ∧ c < 2 * (sRk (aSt A) : Nat)) _ (0, gt (gr A g) v.toNat c.toNat, A) (1, 0, A)) (1, 0, A)) (1, 0, A)
set_option maxRecDepth 100000 in
theorem c_neighbour {g v c : Int} (h : CI σ x A) (ig : InR g) (iv : InR v) (ic : InR c) (hr9 : sRk (aSt A) ≤ 4) (hQ : ∀ σ', CI σ' x (o_neighbour A g v c).2.2 → Mx σ σ' (xr x) → Q (rs e1 (o_neighbour A g v c)) σ') : zM Γ mX9_neighbour [vR (some x), vI g, vI v, vI c] σ Q := by
  obtain ⟨z0, z1, z2, z3, z4, z5, z6, z7, z8, z9, z10, z11, z12, k1, k2, k3, k4⟩ := h.xk
  refine zM_of (n := 1) (by decide +kernel) rfl rfl rfl ?_
  unfold o_neighbour at hQ
  refine zW_aload_n dX9_neighbour_0 rfl ?_
  refine zW_iload_n dX9_neighbour_1 rfl ?_
  refine zcV1 dX9_neighbour_2 rfl eX9_graphOf b340 ⟨by decide, by decide, by decide, by decide⟩ rfl z0 rfl (by decide) (Nat.le_of_ble_eq_true rfl) (c_graphOf h ig (fun gk σ1 h1 hG h61 m1 hIs => ?_) (fun gk m => ?_))
  · rw [if_pos gk] at hQ
    have mx1 := m1.mx (P' := xr x) (fun a z => gq_xr gk z)
    obtain ⟨z0, z1, z2, z3, z4, z5, z6, z7, z8, z9, z10, z11, z12, k1, k2, k3, k4⟩ := h1.xk
    have oG := hG.2.1
    have v9 := oG.2.1
    have v8 := oG.1
    have gV9 := hG.2.2.1
    have gE9 := hG.2.2.2.1
    have hS := h1.st
    refine zW_astore dX9_neighbour_5 (by decide) rfl rfl ?_
    refine zW_iload_n dX9_neighbour_7 rfl ?_
    refine zW_aload dX9_neighbour_8 rfl ?_
    refine zgI dX9_neighbour_10 fX9_213 hG.1.1 rfl gV9 ?_
    refine zcS2 dX9_neighbour_13 rfl eX9_checkIndex b344 ⟨by decide, by decide, by decide, by decide⟩ rfl (Nat.le_of_ble_eq_true rfl) (c_checkIndex iv (by unfold InR; omega) (fun y1 y2 => ?_) (fun y m => ?_))
    · rw [if_pos ⟨y1, y2⟩] at hQ
      refine zW_iload_n dX9_neighbour_16 rfl ?_
      refine zW_iconst dX9_neighbour_17 ?_
      refine zW_aload_n dX9_neighbour_18 rfl ?_
      refine zgP dX9_neighbour_19 fX9_16 z0 rfl z2 ?_
      refine zgI dX9_neighbour_22 fX9_126 hS.1.1 rfl hS.2.1 ?_
      refine zW_imul dX9_neighbour_25 ?_
      have e2 : (2 : Int) * (sRk (aSt A) : Nat) = 2 * (sRk (aSt A) : Nat) := rfl
      refine zcS2 dX9_neighbour_26 rfl eX9_checkIndex b344 ⟨by decide, by decide, by decide, by decide⟩ rfl (Nat.le_of_ble_eq_true rfl) (c_checkIndex ic (by unfold InR; omega) (fun y1 y2 => ?_) (fun y m => ?_))
      · rw [if_pos ⟨y1, y2⟩] at hQ
        have ev : v = ((v.toNat : Nat) : Int) := by omega
        have ec : c = ((c.toNat : Nat) : Int) := by omega
        rw [ev, ec]
        rw [ev, ec] at hQ
        simp only [Int.toNat_natCast] at hQ
        refine zW_aload dX9_neighbour_29 rfl ?_
        refine zW_iload_n dX9_neighbour_31 rfl ?_
        refine zW_iload_n dX9_neighbour_32 rfl ?_
        refine zcV2 dX9_neighbour_33 rfl eX2_follow b977 ⟨by decide, by decide, by decide, by decide⟩ rfl hG.1.1 rfl (by decide) (Nat.le_of_ble_eq_true rfl) (g_follow (v := v.toNat) (c := c.toNat) hG (by omega) (by omega) ?_)
        refine zW_ireturn dX9_neighbour_36 rfl rfl (by first | decide | (show _ ≤ (3 : Nat); omega)) (by first | decide | (show _ ≤ (18 : Nat); omega)) ?_
        exact hQ σ1 h1 mx1
      · rw [if_neg y] at hQ
        exact hQ _ h1.sn (mx1.tr Mx.sn)
    · rw [if_neg y] at hQ
      exact hQ _ h1.sn (mx1.tr Mx.sn)
  · rw [if_neg gk] at hQ
    exact hQ _ h.sn Mx.sn
noncomputable abbrev o_contains (A : AA) (g r : Int) : Out := gg2 A g r (if gtr (gr A g) 0 (reg A r) = 0 then 1 else 0)
set_option maxRecDepth 100000 in
theorem c_contains {g r : Int} (h : CI σ x A) (ig : InR g) (ir : InR r) (hQ : ∀ σ', CI σ' x (o_contains A g r).2.2 → Mx σ σ' (xr x) → Q (rs e1 (o_contains A g r)) σ') : zM Γ mX9_contains [vR (some x), vI g, vI r] σ Q := by
  obtain ⟨z0, z1, z2, z3, z4, z5, z6, z7, z8, z9, z10, z11, z12, k1, k2, k3, k4⟩ := h.xk
  refine zM_of (n := 0) (by decide +kernel) rfl rfl rfl ?_
  unfold o_contains gg2 at hQ
  refine zW_aload_n dX9_contains_0 rfl ?_
  refine zW_iload_n dX9_contains_1 rfl ?_
  refine zcV1 dX9_contains_2 rfl eX9_graphOf b340 ⟨by decide, by decide, by decide, by decide⟩ rfl z0 rfl (by decide) (Nat.le_of_ble_eq_true rfl) (c_graphOf h ig (fun gk σ1 h1 hG h61 m1 hIs => ?_) (fun gk m => ?_))
  · rw [if_pos gk] at hQ
    have mx1 := m1.mx (P' := xr x) (fun a z => gq_xr gk z)
    obtain ⟨z0, z1, z2, z3, z4, z5, z6, z7, z8, z9, z10, z11, z12, k1, k2, k3, k4⟩ := h1.xk
    have oG := hG.2.1
    have v9 := oG.2.1
    have v8 := oG.1
    have gV9 := hG.2.2.1
    have gE9 := hG.2.2.2.1
    refine zW_iconst dX9_contains_5 ?_
    refine zW_aload_n dX9_contains_6 rfl ?_
    refine zW_iload_n dX9_contains_7 rfl ?_
    refine zcV1 dX9_contains_8 rfl eX9_wordOf b724 ⟨by decide, by decide, by decide, by decide⟩ rfl z0 rfl (by decide) (Nat.le_of_ble_eq_true rfl) (c_wordOf h1 ir (fun gr9 => ?_) (fun gr9 m => ?_))
    · rw [if_pos gr9] at hQ
      have hw := h1.rw gr9
      have hcap := hw.cap
      have hin0 : gin (gr A g) 0 := ⟨by omega, by omega⟩
      have hin := gtr_in oG hin0 hw.lt
      refine zcV2 dX9_contains_11 rfl eX2_isClosedPath b1003 ⟨by decide, by decide, by decide, by decide⟩ rfl hG.1.1 rfl (by decide) (Nat.le_of_ble_eq_true rfl) (g_isClosedPath (v := 0) hG hw (by omega) (fun k => ?_) (fun k => ?_))
      · rw [if_pos (show gtr (gr A g) 0 (reg A r) = 0 from k)] at hQ
        refine zW_ireturn dX9_contains_14 rfl rfl (by first | decide | (show _ ≤ (2 : Nat); omega)) (by first | decide | (show _ ≤ (12 : Nat); omega)) ?_
        exact hQ σ1 h1 mx1
      · rw [if_neg (show ¬ gtr (gr A g) 0 (reg A r) = 0 from k)] at hQ
        refine zW_ireturn dX9_contains_14 rfl rfl (by first | decide | (show _ ≤ (2 : Nat); omega)) (by first | decide | (show _ ≤ (12 : Nat); omega)) ?_
        exact hQ σ1 h1 mx1
    · rw [if_neg gr9] at hQ
      exact hQ _ h1.sn (mx1.tr Mx.sn)
  · rw [if_neg gk] at hQ
    exact hQ _ h.sn Mx.sn
noncomputable abbrev o_reachedVertex (A : AA) (g r : Int) : Out := gg2 A g r (gtr (gr A g) 0 (reg A r))
set_option maxRecDepth 100000 in
theorem c_reachedVertex {g r : Int} (h : CI σ x A) (ig : InR g) (ir : InR r) (hQ : ∀ σ', CI σ' x (o_reachedVertex A g r).2.2 → Mx σ σ' (xr x) → Q (rs e1 (o_reachedVertex A g r)) σ') : zM Γ mX9_reachedVertex [vR (some x), vI g, vI r] σ Q := by
  obtain ⟨z0, z1, z2, z3, z4, z5, z6, z7, z8, z9, z10, z11, z12, k1, k2, k3, k4⟩ := h.xk
  refine zM_of (n := 2) (by decide +kernel) rfl rfl rfl ?_
  unfold o_reachedVertex gg2 at hQ
  refine zW_aload_n dX9_reachedVertex_0 rfl ?_
  refine zW_iload_n dX9_reachedVertex_1 rfl ?_
  refine zcV1 dX9_reachedVertex_2 rfl eX9_graphOf b340 ⟨by decide, by decide, by decide, by decide⟩ rfl z0 rfl (by decide) (Nat.le_of_ble_eq_true rfl) (c_graphOf h ig (fun gk σ1 h1 hG h61 m1 hIs => ?_) (fun gk m => ?_))
  · rw [if_pos gk] at hQ
    have mx1 := m1.mx (P' := xr x) (fun a z => gq_xr gk z)
    obtain ⟨z0, z1, z2, z3, z4, z5, z6, z7, z8, z9, z10, z11, z12, k1, k2, k3, k4⟩ := h1.xk
    have oG := hG.2.1
    have v9 := oG.2.1
    have v8 := oG.1
    have gV9 := hG.2.2.1
    have gE9 := hG.2.2.2.1
    refine zW_astore_n dX9_reachedVertex_5 (by decide) rfl rfl ?_
    refine zW_aload_n dX9_reachedVertex_6 rfl ?_
    refine zW_iload_n dX9_reachedVertex_7 rfl ?_
    refine zcV1 dX9_reachedVertex_8 rfl eX9_wordOf b724 ⟨by decide, by decide, by decide, by decide⟩ rfl z0 rfl (by decide) (Nat.le_of_ble_eq_true rfl) (c_wordOf h1 ir (fun gr9 => ?_) (fun gr9 m => ?_))
    · rw [if_pos gr9] at hQ
      have hw := h1.rw gr9
      have hcap := hw.cap
      have hin0 : gin (gr A g) 0 := ⟨by omega, by omega⟩
      have hin := gtr_in oG hin0 hw.lt
      refine zW_astore dX9_reachedVertex_11 (by decide) rfl rfl ?_
      refine zW_aload_n dX9_reachedVertex_13 rfl ?_
      refine zW_iconst dX9_reachedVertex_14 ?_
      refine zW_aload dX9_reachedVertex_15 rfl ?_
      refine zW_iconst dX9_reachedVertex_17 ?_
      refine zW_aload dX9_reachedVertex_18 rfl ?_
      refine zgI dX9_reachedVertex_20 fX9_139 hw.1.1 rfl hw.2.1 ?_
      refine zcV4 dX9_reachedVertex_23 rfl eX2_trace b1018 ⟨by decide, by decide, by decide, by decide⟩ rfl hG.1.1 rfl (by decide) (Nat.le_of_ble_eq_true rfl) (g_trace (from_ := 0) (end_ := (reg A r).length) hG hw hin0 (Nat.le_refl _) (by omega) ?_)
      refine zW_ireturn dX9_reachedVertex_26 rfl rfl (by first | decide | (show _ ≤ (2 : Nat); omega)) (by first | decide | (show _ ≤ (12 : Nat); omega)) ?_
      rw [List.take_length, List.drop_zero]
      exact hQ σ1 h1 mx1
    · rw [if_neg gr9] at hQ
      exact hQ _ h1.sn (mx1.tr Mx.sn)
  · rw [if_neg gk] at hQ
    exact hQ _ h.sn Mx.sn
noncomputable abbrev o_smallestPower (A : AA) (g r : Int) : Out := gg2 A g r (scp (gr A g) (reg A r))
set_option maxRecDepth 100000 in
theorem c_smallestPower {g r : Int} (h : CI σ x A) (ig : InR g) (ir : InR r) (hQ : ∀ σ', CI σ' x (o_smallestPower A g r).2.2 → Mx σ σ' (xr x) → Q (rs e1 (o_smallestPower A g r)) σ') : zM Γ mX9_smallestPower [vR (some x), vI g, vI r] σ Q := by
  obtain ⟨z0, z1, z2, z3, z4, z5, z6, z7, z8, z9, z10, z11, z12, k1, k2, k3, k4⟩ := h.xk
  refine zM_of (n := 2) (by decide +kernel) rfl rfl rfl ?_
  unfold o_smallestPower gg2 at hQ
  refine zW_aload_n dX9_smallestPower_0 rfl ?_
  refine zW_iload_n dX9_smallestPower_1 rfl ?_
  refine zcV1 dX9_smallestPower_2 rfl eX9_graphOf b340 ⟨by decide, by decide, by decide, by decide⟩ rfl z0 rfl (by decide) (Nat.le_of_ble_eq_true rfl) (c_graphOf h ig (fun gk σ1 h1 hG h61 m1 hIs => ?_) (fun gk m => ?_))
  · rw [if_pos gk] at hQ
    have mx1 := m1.mx (P' := xr x) (fun a z => gq_xr gk z)
    obtain ⟨z0, z1, z2, z3, z4, z5, z6, z7, z8, z9, z10, z11, z12, k1, k2, k3, k4⟩ := h1.xk
    have oG := hG.2.1
    have v9 := oG.2.1
    have v8 := oG.1
    have gV9 := hG.2.2.1
    have gE9 := hG.2.2.2.1
    refine zW_astore_n dX9_smallestPower_5 (by decide) rfl rfl ?_
    refine zW_aload_n dX9_smallestPower_6 rfl ?_
    refine zW_iload_n dX9_smallestPower_7 rfl ?_
    refine zcV1 dX9_smallestPower_8 rfl eX9_wordOf b724 ⟨by decide, by decide, by decide, by decide⟩ rfl z0 rfl (by decide) (Nat.le_of_ble_eq_true rfl) (c_wordOf h1 ir (fun gr9 => ?_) (fun gr9 m => ?_))
    · rw [if_pos gr9] at hQ
      have hw := h1.rw gr9
      have hcap := hw.cap
      have hin0 : gin (gr A g) 0 := ⟨by omega, by omega⟩
      have hin := gtr_in oG hin0 hw.lt
      refine zW_astore dX9_smallestPower_11 (by decide) rfl rfl ?_
      refine zW_aload_n dX9_smallestPower_13 rfl ?_
      refine zW_aload dX9_smallestPower_14 rfl ?_
      refine zcV1 dX9_smallestPower_16 rfl eX2_smallestClosedPower b1026 ⟨by decide, by decide, by decide, by decide⟩ rfl hG.1.1 rfl (by decide) (Nat.le_of_ble_eq_true rfl) (g_smallestClosedPower hG hw ?_)
      refine zW_ireturn dX9_smallestPower_19 rfl rfl (by first | decide | (show _ ≤ (2 : Nat); omega)) (by first | decide | (show _ ≤ (12 : Nat); omega)) ?_
      exact hQ σ1 h1 mx1
    · rw [if_neg gr9] at hQ
      exact hQ _ h1.sn (mx1.tr Mx.sn)
  · rw [if_neg gk] at hQ
    exact hQ _ h.sn Mx.sn
noncomputable abbrev o_isNormal (A : AA) (g : Int) : Out := gg1 A g (cif ((gE (gr A g) : Int) - gV (gr A g) + 1 = 0 ∨ (gcomp (gr A g) (sRk (aSt A)) ∧ ∀ w ∈ sGw (aSt A) g.toNat, ∀ v : Nat, v < gV (gr A g) → gtr (gr A g) v w = v)) 1 0)
set_option maxRecDepth 100000 in
theorem gE_le (G : GT) : gE G ≤ 4 * gV G := by
  unfold gE
  have := List.length_filter_le (fun e => decide (gt G (e / 4) (2 * (e % 4)) ≠ -1)) (List.range (4 * gV G))
  rw [List.length_range] at this
  exact this
set_option maxRecDepth 100000 in
theorem getD_mem {l : List (List Nat)} {k : Nat} (hk : k < l.length) : l.getD k [] ∈ l := by
  rw [List.getD_eq_getElem?_getD, List.getElem?_eq_getElem hk]
  exact List.getElem_mem _
set_option maxRecDepth 100000 in
theorem mem_getD {l : List (List Nat)} {w : List Nat} (h : w ∈ l) : ∃ k, k < l.length ∧ l.getD k [] = w := by
  obtain ⟨k, hk⟩ := List.getElem?_of_mem h
  exact ⟨k, (List.getElem?_eq_some_iff.mp hk).1, by rw [List.getD_eq_getElem?_getD, hk]; rfl⟩
set_option maxRecDepth 100000 in
theorem c_isNormal {g : Int} (h : CI σ x A) (ig : InR g) (hr9 : sRk (aSt A) ≤ 4) (hQ : ∀ σ', CI σ' x (o_isNormal A g).2.2 → Mx σ σ' (xr x) → Q (rs e1 (o_isNormal A g)) σ') : zM Γ mX9_isNormal [vR (some x), vI g] σ Q := by
  obtain ⟨z0, z1, z2, z3, z4, z5, z6, z7, z8, z9, z10, z11, z12, k1, k2, k3, k4⟩ := h.xk
  refine zM_of (n := 2) (by decide +kernel) rfl rfl rfl ?_
  unfold o_isNormal gg1 at hQ
  refine zW_aload_n dX9_isNormal_0 rfl ?_
  refine zW_iload_n dX9_isNormal_1 rfl ?_
  refine zcV1 dX9_isNormal_2 rfl eX9_graphOf b340 ⟨by decide, by decide, by decide, by decide⟩ rfl z0 rfl (by decide) (Nat.le_of_ble_eq_true rfl) (c_graphOf h ig (fun gk σ1 h1 hG h61 m1 hIs => ?_) (fun gk m => ?_))
  · rw [if_pos gk] at hQ
    have mx1 := m1.mx (P' := xr x) (fun a z => gq_xr gk z)
    obtain ⟨z0, z1, z2, z3, z4, z5, z6, z7, z8, z9, z10, z11, z12, k1, k2, k3, k4⟩ := h1.xk
    have oG := hG.2.1
    have v9 := oG.2.1
    have v8 := oG.1
    have gV9 := hG.2.2.1
    have gE9 := hG.2.2.2.1
    have hS := h1.st
    have hg2 : g.toNat < 2 := by unfold inR2 at gk; omega
    have hE9 := gE_le (gr A g)
    have hcn := (hS.2.2.2 g.toNat hg2).1
    have hgn := hS.gn hg2
    obtain ⟨s0, s1, s2, s3, s4, s5, s6, s7, s8, s9⟩ := id hS.1
    refine zW_astore_n dX9_isNormal_5 (by decide) rfl rfl ?_
    refine zW_aload_n dX9_isNormal_6 rfl ?_
    refine zcV0 dX9_isNormal_7 rfl eX2_cycleRank b985 ⟨by decide, by decide, by decide, by decide⟩ rfl hG.1.1 rfl (by decide) (Nat.le_of_ble_eq_true rfl) (g_cycleRank hG ?_)
    refine zW_if_ne (tgt := 15) dX9_isNormal_10 (by decide) (by first | assumption | omega | (unfold InR; omega) | (unfold InL; omega) | (simp only [InR] at *; omega)) (fun q => ?_) (fun q => ?_)
    · refine zW_aload_n dX9_isNormal_15 rfl ?_
      refine zW_aload_n dX9_isNormal_16 rfl ?_
      refine zgP dX9_isNormal_17 fX9_16 z0 rfl z2 ?_
      refine zgI dX9_isNormal_20 fX9_126 hS.1.1 rfl hS.2.1 ?_
      refine zcV1 dX9_isNormal_23 rfl eX2_isComplete b491 ⟨by decide, by decide, by decide, by decide⟩ rfl hG.1.1 rfl (by decide) (Nat.le_of_ble_eq_true rfl) (g_isComplete hG hr9 (fun k => ?_) (fun k => ?_))
      · have loop : ∀ n i, i + n = (sGw (aSt A) g.toNat).length → (∀ j, j < i → ∀ v : Nat, v < gV (gr A g) → gtr (gr A g) v ((sGw (aSt A) g.toNat).getD j []) = v) → zW Γ mX9_isNormal 33 [some (vR (some x)), some (vI g), some (vR (some (gad x g))), some (vI i)] [] σ1 1 6 Q := by
          intro n
          induction n with
          | zero =>
            intro i hi hall
            refine zW_iload_n dX9_isNormal_33 rfl ?_
            refine zW_aload_n dX9_isNormal_34 rfl ?_
            refine zgP dX9_isNormal_35 fX9_16 z0 rfl z2 ?_
            refine zgP dX9_isNormal_38 fX9_206 s0 rfl s3 ?_
            refine zW_iload_n dX9_isNormal_41 rfl ?_
            refine zrI dX9_isNormal_42 s6 (by first | assumption | omega | (unfold InR; omega) | (unfold InL; omega) | (simp only [InR] at *; omega)) (by first | assumption | omega | (unfold InR; omega) | (unfold InL; omega) | (simp only [InR] at *; omega)) (by first | assumption | omega | (unfold InR; omega) | (unfold InL; omega) | (simp only [InR] at *; omega)) hcn ?_
            refine zW_icmp_ge (tgt := 70) dX9_isNormal_43 (by decide) (by first | assumption | omega | (unfold InR; omega) | (unfold InL; omega) | (simp only [InR] at *; omega)) (by first | assumption | omega | (unfold InR; omega) | (unfold InL; omega) | (simp only [InR] at *; omega)) (fun q2 => ?_) (fun q2 => ?_)
            · refine zW_iconst dX9_isNormal_70 ?_
              refine zW_ireturn dX9_isNormal_71 rfl rfl (by first | decide | (show _ ≤ (1 : Nat); omega)) (by first | decide | (show _ ≤ (6 : Nat); omega)) ?_
              rw [cif_t (Or.inr ⟨k, fun w hw => by
                obtain ⟨j, j1, j2⟩ := mem_getD hw
                rw [← j2]
                exact hall j (by omega)⟩)] at hQ
              exact hQ σ1 h1 mx1
            · exact absurd q2 (by omega)
          | succ n ih =>
            intro i hi hall
            have hw := hS.gw hg2 (k := i) (by omega)
            have eg : g = ((g.toNat : Nat) : Int) := by unfold inR2 at gk; omega
            have hgw : ∀ R, R (.inl (some (vR (some (x + 2 + 4 + 2 * (8 + 6 * g.toNat + i)))))) σ1 → zM Γ mX7_generatingWord [vR (some (x + 2)), vI g, vI i] σ1 R := fun R hR => by
              have := st_gw (Γ := Γ) (Q := R) hS.1 hg2 (k := i) (by omega) hR
              rw [← eg] at this
              exact this
            refine zW_iload_n dX9_isNormal_33 rfl ?_
            refine zW_aload_n dX9_isNormal_34 rfl ?_
            refine zgP dX9_isNormal_35 fX9_16 z0 rfl z2 ?_
            refine zgP dX9_isNormal_38 fX9_206 s0 rfl s3 ?_
            refine zW_iload_n dX9_isNormal_41 rfl ?_
            refine zrI dX9_isNormal_42 s6 (by first | assumption | omega | (unfold InR; omega) | (unfold InL; omega) | (simp only [InR] at *; omega)) (by first | assumption | omega | (unfold InR; omega) | (unfold InL; omega) | (simp only [InR] at *; omega)) (by first | assumption | omega | (unfold InR; omega) | (unfold InL; omega) | (simp only [InR] at *; omega)) hcn ?_
            refine zW_icmp_ge (tgt := 70) dX9_isNormal_43 (by decide) (by first | assumption | omega | (unfold InR; omega) | (unfold InL; omega) | (simp only [InR] at *; omega)) (by first | assumption | omega | (unfold InR; omega) | (unfold InL; omega) | (simp only [InR] at *; omega)) (fun q2 => ?_) (fun q2 => ?_)
            · exact absurd q2 (by omega)
            · refine zW_aload_n dX9_isNormal_46 rfl ?_
              refine zW_aload_n dX9_isNormal_47 rfl ?_
              refine zgP dX9_isNormal_48 fX9_16 z0 rfl z2 ?_
              refine zW_iload_n dX9_isNormal_51 rfl ?_
              refine zW_iload_n dX9_isNormal_52 rfl ?_
              refine zcV2 dX9_isNormal_53 rfl eX7_generatingWord b1038 ⟨by decide, by decide, by decide, by decide⟩ rfl s0 rfl (by decide) (Nat.le_of_ble_eq_true rfl) (hgw _ ?_)
              refine zcV1 dX9_isNormal_56 rfl eX2_isClosedEverywhere b1039 ⟨by decide, by decide, by decide, by decide⟩ rfl hG.1.1 rfl (by decide) (Nat.le_of_ble_eq_true rfl) (g_isClosedEverywhere hG hw (fun k2 => ?_) (fun k2 => ?_))
              · refine zW_if_ne (tgt := 64) dX9_isNormal_59 (by decide) (by first | assumption | omega | (unfold InR; omega) | (unfold InL; omega) | (simp only [InR] at *; omega)) (fun q3 => ?_) (fun q3 => ?_)
                · refine zW_iinc dX9_isNormal_64 rfl (by decide) rfl rfl ?_
                  refine zW_goto (tgt := 33) dX9_isNormal_67 (by decide) ?_
                  refine ih (i + 1) (by omega) (fun j hj => ?_)
                  by_cases e : j = i
                  · rw [e]; exact k2
                  · exact hall j (by omega)
                · exact absurd q3 (by decide)
              · refine zW_if_ne (tgt := 64) dX9_isNormal_59 (by decide) (by first | assumption | omega | (unfold InR; omega) | (unfold InL; omega) | (simp only [InR] at *; omega)) (fun q3 => ?_) (fun q3 => ?_)
                · exact absurd rfl q3
                · refine zW_iconst dX9_isNormal_62 ?_
                  refine zW_ireturn dX9_isNormal_63 rfl rfl (by first | decide | (show _ ≤ (1 : Nat); omega)) (by first | decide | (show _ ≤ (6 : Nat); omega)) ?_
                  rw [cif_f (fun z => z.elim (fun y => q (by omega)) (fun y => k2 (y.2 _ (getD_mem (k := i) (by omega)))))] at hQ
                  exact hQ σ1 h1 mx1
        refine zW_if_ne (tgt := 31) dX9_isNormal_26 (by decide) (by first | assumption | omega | (unfold InR; omega) | (unfold InL; omega) | (simp only [InR] at *; omega)) (fun q2 => ?_) (fun q2 => ?_)
        · refine zW_iconst dX9_isNormal_31 ?_
          refine zW_istore_n dX9_isNormal_32 (by decide) rfl rfl ?_
          exact loop (sGw (aSt A) g.toNat).length 0 (by omega) (fun j hj => absurd hj (by omega))
        · exact absurd q2 (by decide)
      · refine zW_if_ne (tgt := 31) dX9_isNormal_26 (by decide) (by first | assumption | omega | (unfold InR; omega) | (unfold InL; omega) | (simp only [InR] at *; omega)) (fun q2 => ?_) (fun q2 => ?_)
        · exact absurd rfl q2
        · refine zW_iconst dX9_isNormal_29 ?_
          refine zW_ireturn dX9_isNormal_30 rfl rfl (by first | decide | (show _ ≤ (1 : Nat); omega)) (by first | decide | (show _ ≤ (6 : Nat); omega)) ?_
          rw [cif_f (fun z => z.elim (fun y => q (by omega)) (fun y => k y.1))] at hQ
          exact hQ σ1 h1 mx1
    · refine zW_iconst dX9_isNormal_13 ?_
      refine zW_ireturn dX9_isNormal_14 rfl rfl (by first | decide | (show _ ≤ (1 : Nat); omega)) (by first | decide | (show _ ≤ (6 : Nat); omega)) ?_
      rw [cif_t (Or.inl q)] at hQ
      exact hQ σ1 h1 mx1
  · rw [if_neg gk] at hQ
    exact hQ _ h.sn Mx.sn
noncomputable def o_containsSubgroup (A : AA) (g f : Int) : Out := @ite Out (inR2 g) _ (@ite Out (0 ≤ f ∧ f < 2) _ (0, cif (∀ w ∈ sGw (aSt A) f.toNat, gtr (gr A g) 0 w = 0) 1 0, A) (1, 0, A)) (1, 0, A)
set_option maxRecDepth 100000 in
theorem c_containsSubgroup {g f : Int} (h : CI σ x A) (ig : InR g) (if_ : InR f) (hQ : ∀ σ', CI σ' x (o_containsSubgroup A g f).2.2 → Mx σ σ' (xr x) → Q (rs e1 (o_containsSubgroup A g f)) σ') : zM Γ mX9_containsSubgroup [vR (some x), vI g, vI f] σ Q := by
  obtain ⟨z0, z1, z2, z3, z4, z5, z6, z7, z8, z9, z10, z11, z12, k1, k2, k3, k4⟩ := h.xk
  refine zM_of (n := 2) (by decide +kernel) rfl rfl rfl ?_
  unfold o_containsSubgroup at hQ
  refine zW_aload_n dX9_containsSubgroup_0 rfl ?_
  refine zW_iload_n dX9_containsSubgroup_1 rfl ?_
  refine zcV1 dX9_containsSubgroup_2 rfl eX9_graphOf b340 ⟨by decide, by decide, by decide, by decide⟩ rfl z0 rfl (by decide) (Nat.le_of_ble_eq_true rfl) (c_graphOf h ig (fun gk σ1 h1 hG h61 m1 hIs => ?_) (fun gk m => ?_))
  · rw [if_pos gk] at hQ
    have mx1 := m1.mx (P' := xr x) (fun a z => gq_xr gk z)
    obtain ⟨z0, z1, z2, z3, z4, z5, z6, z7, z8, z9, z10, z11, z12, k1, k2, k3, k4⟩ := h1.xk
    have oG := hG.2.1
    have v9 := oG.2.1
    have v8 := oG.1
    have gV9 := hG.2.2.1
    have gE9 := hG.2.2.2.1
    have hS := h1.st
    obtain ⟨s0, s1, s2, s3, s4, s5, s6, s7, s8, s9⟩ := id hS.1
    refine zW_astore_n dX9_containsSubgroup_5 (by decide) rfl rfl ?_
    refine zW_iload_n dX9_containsSubgroup_6 rfl ?_
    refine zW_iconst dX9_containsSubgroup_7 ?_
    refine zcS2 dX9_containsSubgroup_8 rfl eX9_checkIndex b344 ⟨by decide, by decide, by decide, by decide⟩ rfl (Nat.le_of_ble_eq_true rfl) (c_checkIndex if_ (by unfold InR; omega) (fun y1 y2 => ?_) (fun y m => ?_))
    · rw [if_pos ⟨y1, y2⟩] at hQ
      have hf2 : f.toNat < 2 := by omega
      have hcn := (hS.2.2.2 f.toNat hf2).1
      have hgn := hS.gn hf2
      have loop : ∀ n i, i + n = (sGw (aSt A) f.toNat).length → (∀ j, j < i → gtr (gr A g) 0 ((sGw (aSt A) f.toNat).getD j []) = 0) → zW Γ mX9_containsSubgroup 14 [some (vR (some x)), some (vI g), some (vI f), some (vR (some (gad x g))), some (vI i)] [] σ1 2 12 Q := by
        intro n
        induction n with
        | zero =>
          intro i hi hall
          refine zW_iload dX9_containsSubgroup_14 rfl ?_
          refine zW_aload_n dX9_containsSubgroup_16 rfl ?_
          refine zgP dX9_containsSubgroup_17 fX9_16 z0 rfl z2 ?_
          refine zgP dX9_containsSubgroup_20 fX9_206 s0 rfl s3 ?_
          refine zW_iload_n dX9_containsSubgroup_23 rfl ?_
          refine zrI dX9_containsSubgroup_24 s6 (by first | assumption | omega | (unfold InR; omega) | (unfold InL; omega) | (simp only [InR] at *; omega)) (by first | assumption | omega | (unfold InR; omega) | (unfold InL; omega) | (simp only [InR] at *; omega)) (by first | assumption | omega | (unfold InR; omega) | (unfold InL; omega) | (simp only [InR] at *; omega)) hcn ?_
          refine zW_icmp_ge (tgt := 54) dX9_containsSubgroup_25 (by decide) (by first | assumption | omega | (unfold InR; omega) | (unfold InL; omega) | (simp only [InR] at *; omega)) (by first | assumption | omega | (unfold InR; omega) | (unfold InL; omega) | (simp only [InR] at *; omega)) (fun q2 => ?_) (fun q2 => ?_)
          · refine zW_iconst dX9_containsSubgroup_54 ?_
            refine zW_ireturn dX9_containsSubgroup_55 rfl rfl (by first | decide | (show _ ≤ (2 : Nat); omega)) (by first | decide | (show _ ≤ (12 : Nat); omega)) ?_
            rw [cif_t (fun w hw => by
              obtain ⟨j, j1, j2⟩ := mem_getD hw
              rw [← j2]
              exact hall j (by omega))] at hQ
            exact hQ σ1 h1 mx1
          · exact absurd q2 (by omega)
        | succ n ih =>
          intro i hi hall
          have hw := hS.gw hf2 (k := i) (by omega)
          have ef : f = ((f.toNat : Nat) : Int) := by omega
          have hgw : ∀ R, R (.inl (some (vR (some (x + 2 + 4 + 2 * (8 + 6 * f.toNat + i)))))) σ1 → zM Γ mX7_generatingWord [vR (some (x + 2)), vI f, vI i] σ1 R := fun R hR => by
            have := st_gw (Γ := Γ) (Q := R) hS.1 hf2 (k := i) (by omega) hR
            rw [← ef] at this
            exact this
          refine zW_iload dX9_containsSubgroup_14 rfl ?_
          refine zW_aload_n dX9_containsSubgroup_16 rfl ?_
          refine zgP dX9_containsSubgroup_17 fX9_16 z0 rfl z2 ?_
          refine zgP dX9_containsSubgroup_20 fX9_206 s0 rfl s3 ?_
          refine zW_iload_n dX9_containsSubgroup_23 rfl ?_
          refine zrI dX9_containsSubgroup_24 s6 (by first | assumption | omega | (unfold InR; omega) | (unfold InL; omega) | (simp only [InR] at *; omega)) (by first | assumption | omega | (unfold InR; omega) | (unfold InL; omega) | (simp only [InR] at *; omega)) (by first | assumption | omega | (unfold InR; omega) | (unfold InL; omega) | (simp only [InR] at *; omega)) hcn ?_
          refine zW_icmp_ge (tgt := 54) dX9_containsSubgroup_25 (by decide) (by first | assumption | omega | (unfold InR; omega) | (unfold InL; omega) | (simp only [InR] at *; omega)) (by first | assumption | omega | (unfold InR; omega) | (unfold InL; omega) | (simp only [InR] at *; omega)) (fun q2 => ?_) (fun q2 => ?_)
          · exact absurd q2 (by omega)
          · refine zW_aload_n dX9_containsSubgroup_28 rfl ?_
            refine zW_iconst dX9_containsSubgroup_29 ?_
            refine zW_aload_n dX9_containsSubgroup_30 rfl ?_
            refine zgP dX9_containsSubgroup_31 fX9_16 z0 rfl z2 ?_
            refine zW_iload_n dX9_containsSubgroup_34 rfl ?_
            refine zW_iload dX9_containsSubgroup_35 rfl ?_
            refine zcV2 dX9_containsSubgroup_37 rfl eX7_generatingWord b1038 ⟨by decide, by decide, by decide, by decide⟩ rfl s0 rfl (by decide) (Nat.le_of_ble_eq_true rfl) (hgw _ ?_)
            refine zcV2 dX9_containsSubgroup_40 rfl eX2_isClosedPath b1003 ⟨by decide, by decide, by decide, by decide⟩ rfl hG.1.1 rfl (by decide) (Nat.le_of_ble_eq_true rfl) (g_isClosedPath (v := 0) hG hw (by omega) (fun k2 => ?_) (fun k2 => ?_))
            · refine zW_if_ne (tgt := 48) dX9_containsSubgroup_43 (by decide) (by first | assumption | omega | (unfold InR; omega) | (unfold InL; omega) | (simp only [InR] at *; omega)) (fun q3 => ?_) (fun q3 => ?_)
              · refine zW_iinc dX9_containsSubgroup_48 rfl (by decide) rfl rfl ?_
                refine zW_goto (tgt := 14) dX9_containsSubgroup_51 (by decide) ?_
                refine ih (i + 1) (by omega) (fun j hj => ?_)
                by_cases e : j = i
                · rw [e]; exact k2
                · exact hall j (by omega)
              · exact absurd q3 (by decide)
            · refine zW_if_ne (tgt := 48) dX9_containsSubgroup_43 (by decide) (by first | assumption | omega | (unfold InR; omega) | (unfold InL; omega) | (simp only [InR] at *; omega)) (fun q3 => ?_) (fun q3 => ?_)
              · exact absurd rfl q3
              · refine zW_iconst dX9_containsSubgroup_46 ?_
                refine zW_ireturn dX9_containsSubgroup_47 rfl rfl (by first | decide | (show _ ≤ (2 : Nat); omega)) (by first | decide | (show _ ≤ (12 : Nat); omega)) ?_
                rw [cif_f (fun z => k2 (z _ (getD_mem (k := i) (by omega))))] at hQ
                exact hQ σ1 h1 mx1
      refine zW_iconst dX9_containsSubgroup_11 ?_
      refine zW_istore dX9_containsSubgroup_12 (by decide) rfl rfl ?_
      exact loop (sGw (aSt A) f.toNat).length 0 (by omega) (fun j hj => absurd hj (by omega))
    · rw [if_neg y] at hQ
      exact hQ _ h1.sn (mx1.tr Mx.sn)
  · rw [if_neg gk] at hQ
    exact hQ _ h.sn Mx.sn
noncomputable def o_representativeLength (A : AA) (g v : Int) : Out := @ite Out (inR2 g) _ (@ite Out (0 ≤ v ∧ v < gV (gr A g)) _ (0, gde (gr A g) v.toNat, A) (1, 0, A)) (1, 0, A)
set_option maxRecDepth 100000 in
theorem c_representativeLength {g v : Int} (h : CI σ x A) (ig : InR g) (iv : InR v) (hQ : ∀ σ', CI σ' x (o_representativeLength A g v).2.2 → Mx σ σ' (xr x) → Q (rs e1 (o_representativeLength A g v)) σ') : zM Γ mX9_representativeLength [vR (some x), vI g, vI v] σ Q := by
  obtain ⟨z0, z1, z2, z3, z4, z5, z6, z7, z8, z9, z10, z11, z12, k1, k2, k3, k4⟩ := h.xk
  refine zM_of (n := 1) (by decide +kernel) rfl rfl rfl ?_
  unfold o_representativeLength at hQ
  refine zW_aload_n dX9_representativeLength_0 rfl ?_
  refine zW_iload_n dX9_representativeLength_1 rfl ?_
  refine zcV1 dX9_representativeLength_2 rfl eX9_graphOf b340 ⟨by decide, by decide, by decide, by decide⟩ rfl z0 rfl (by decide) (Nat.le_of_ble_eq_true rfl) (c_graphOf h ig (fun gk σ1 h1 hG h61 m1 hIs => ?_) (fun gk m => ?_))
  · rw [if_pos gk] at hQ
    have mx1 := m1.mx (P' := xr x) (fun a z => gq_xr gk z)
    obtain ⟨z0, z1, z2, z3, z4, z5, z6, z7, z8, z9, z10, z11, z12, k1, k2, k3, k4⟩ := h1.xk
    have oG := hG.2.1
    have v9 := oG.2.1
    have v8 := oG.1
    have gV9 := hG.2.2.1
    have gE9 := hG.2.2.2.1
    refine zW_astore_n dX9_representativeLength_5 (by decide) rfl rfl ?_
    refine zW_iload_n dX9_representativeLength_6 rfl ?_
    refine zW_aload_n dX9_representativeLength_7 rfl ?_
    refine zgI dX9_representativeLength_8 fX9_213 hG.1.1 rfl gV9 ?_
    refine zcS2 dX9_representativeLength_11 rfl eX9_checkIndex b344 ⟨by decide, by decide, by decide, by decide⟩ rfl (Nat.le_of_ble_eq_true rfl) (c_checkIndex iv (by unfold InR; omega) (fun y1 y2 => ?_) (fun y m => ?_))
    · rw [if_pos ⟨y1, y2⟩] at hQ
      have hde := hG.2.2.2.2.2.2 v.toNat (by omega)
      refine zW_aload_n dX9_representativeLength_14 rfl ?_
      refine zgP dX9_representativeLength_15 fX9_255 hG.1.1 rfl hG.1.2.2.2.2.1 ?_
      refine zW_iload_n dX9_representativeLength_18 rfl ?_
      refine zrI dX9_representativeLength_19 hG.1.2.2.2.2.2.2.2.2 (by first | assumption | omega | (unfold InR; omega) | (unfold InL; omega) | (simp only [InR] at *; omega)) (by first | assumption | omega | (unfold InR; omega) | (unfold InL; omega) | (simp only [InR] at *; omega)) (by first | assumption | omega | (unfold InR; omega) | (unfold InL; omega) | (simp only [InR] at *; omega)) hde ?_
      refine zW_ireturn dX9_representativeLength_20 rfl rfl (by first | decide | (show _ ≤ (2 : Nat); omega)) (by first | decide | (show _ ≤ (12 : Nat); omega)) ?_
      exact hQ σ1 h1 mx1
    · rw [if_neg y] at hQ
      exact hQ _ h1.sn (mx1.tr Mx.sn)
  · rw [if_neg gk] at hQ
    exact hQ _ h.sn Mx.sn
set_option maxRecDepth 100000 in
theorem c_searchIntersection (h : CI σ x A) (hQ : ∀ σ', CI σ' x A → zO σ' (x + 500) 2 = ((ixF (gr A 0) (gr A 1)).length : Int) → zO σ' (x + 500) 3 = (ixE (gr A 0) (gr A 1) : Int) → Mx σ σ' (xr x) → Q (.inl none) σ') : zM Γ mX9_searchIntersection [vR (some x)] σ Q := by
  obtain ⟨z0, z1, z2, z3, z4, z5, z6, z7, z8, z9, z10, z11, z12, k1, k2, k3, k4⟩ := h.xk
  refine zM_of (n := 2) (by decide +kernel) rfl rfl rfl ?_
  refine zW_aload_n dX9_searchIntersection_0 rfl ?_
  refine zW_iconst dX9_searchIntersection_1 ?_
  refine zcV1 dX9_searchIntersection_2 rfl eX9_graphOf b340 ⟨by decide, by decide, by decide, by decide⟩ rfl z0 rfl (by decide) (Nat.le_of_ble_eq_true rfl) (c_graphOf h (by unfold InR; omega) (fun gk σ1 h1 hG h61 m1 hIs => ?_) (fun gk m => absurd (show inR2 0 by unfold inR2; omega) gk))
  have mx1 := m1.mx (P' := xr x) (fun a z => gq_xr gk z)
  obtain ⟨z0, -⟩ := h1.xk
  refine zW_astore_n dX9_searchIntersection_5 (by decide) rfl rfl ?_
  refine zW_aload_n dX9_searchIntersection_6 rfl ?_
  refine zW_iconst dX9_searchIntersection_7 ?_
  refine zcV1 dX9_searchIntersection_8 rfl eX9_graphOf b340 ⟨by decide, by decide, by decide, by decide⟩ rfl z0 rfl (by decide) (Nat.le_of_ble_eq_true rfl) (c_graphOf h1 (by unfold InR; omega) (fun gk2 σ2 h2 hH h62 m2 hIt => ?_) (fun gk m => absurd (show inR2 1 by unfold inR2; omega) gk))
  have mx2 := mx1.tr (m2.mx (P' := xr x) (fun a z => gq_xr gk2 z))
  have hG2 : GD σ2 (gad x 0) (gr A 0) := hG.md m2 (fun a z z' => by unfold gq op7 bp gad at z'; unfold bp gad at z; simp at z z'; omega)
  obtain ⟨z0, z1, z2, z3, z4, z5, z6, z7, z8, z9, z10, z11, z12, k1, k2, k3, k4⟩ := h2.xk
  have hI := h2.1.2.2.2.2.1
  have hX := h2.2.2.2.2.2.2.2.2.2
  have hsc := h2.2.2.2.2.2.2.1
  have bz : InR (zO σ2 (x + 500) 4) := by
    unfold InR
    rcases hX with e | e
    · omega
    · have := e.1; omega
  refine zW_astore_n dX9_searchIntersection_11 (by decide) rfl rfl ?_
  refine zW_aload_n dX9_searchIntersection_12 rfl ?_
  refine zgP dX9_searchIntersection_13 fX9_53 z0 rfl z8 ?_
  refine zgI dX9_searchIntersection_16 fX9_353 hI.1 rfl rfl ?_
  refine zW_if_eq (tgt := 39) dX9_searchIntersection_19 (by decide) (by first | assumption | omega | (unfold InR; omega) | (unfold InL; omega) | (simp only [InR] at *; omega)) (fun q => ?_) (fun q => ?_)
  · refine zW_return dX9_searchIntersection_39 rfl (by first | decide | (show _ ≤ (2 : Nat); omega)) (by first | decide | (show _ ≤ (12 : Nat); omega)) ?_
    rcases hX with e | e
    · omega
    · exact hQ σ2 h2 e.2.1 e.2.2 mx2
  · refine zW_aload_n dX9_searchIntersection_22 rfl ?_
    refine zgP dX9_searchIntersection_23 fX9_53 z0 rfl z8 ?_
    refine zW_aload_n dX9_searchIntersection_26 rfl ?_
    refine zW_aload_n dX9_searchIntersection_27 rfl ?_
    refine zcV2 dX9_searchIntersection_28 rfl eX4_search b470 ⟨by decide, by decide, by decide, by decide⟩ rfl hI.1 rfl (by decide) (Nat.le_of_ble_eq_true rfl) (i_search hI hG2 hH (by unfold gad; simp) (by unfold gad; simp) hsc.2 (fun σ3 h32 h33 hz3 m3 => ?_))
    have a0 : zK σ3 x = (9, 0) := by rw [m3.K]; exact z0
    have a8 : zP σ3 x 9 = some (x + 500) := by rw [m3.P]; exact z8
    have aI : zK σ3 (x + 500) = (4, 0) := by rw [m3.K]; exact hI.1
    refine zW_aload_n dX9_searchIntersection_31 rfl ?_
    refine zgP dX9_searchIntersection_32 fX9_53 a0 rfl a8 ?_
    refine zW_iconst dX9_searchIntersection_35 ?_
    refine zpI dX9_searchIntersection_36 fX9_353 aI rfl (Or.inl rfl) zst_0 ?_
    refine zW_return dX9_searchIntersection_39 rfl (by first | decide | (show _ ≤ (2 : Nat); omega)) (by first | decide | (show _ ≤ (12 : Nat); omega)) ?_
    have m4 : Md σ3 (sO σ3 (x + 500) 4 0) (tp3 (x + 500)) := Md.O (by unfold tp3; omega)
    have m34 := m3.tr m4 (fun _ z => z)
    have no : ∀ a, (a < x + 500 ∨ x + 503 ≤ a) → ¬ tp3 (x + 500) a := fun a z => by unfold tp3; omega
    obtain ⟨b1, b2, b3, b4, b5, b6, b7, b8, b9, b10⟩ := h2
    have h52 : zO (sO σ3 (x + 500) 4 0) (x + 500) 2 = ((ixF (gr A 0) (gr A 1)).length : Int) := by rw [zO_sOk _ _ _ _ (by omega)]; exact h32
    have h53 : zO (sO σ3 (x + 500) 4 0) (x + 500) 3 = (ixE (gr A 0) (gr A 1) : Int) := by rw [zO_sOk _ _ _ _ (by omega)]; exact h33
    refine hQ _ ⟨b1.md m34, b2.md m34 (no _ (by omega)) (no _ (by omega)), b3.md m34 (fun a z => no a (by unfold sp at z; omega)), b4.md m34 (no _ (by omega)) (fun a z => no a (by unfold sp at z; omega)), b5.md m34 (fun a z => no a (by unfold hp at z; omega)), ?_, ⟨?_, hz3⟩, b8.md m34 (no _ (by omega)) (no _ (by omega)), fun f hf9 => (b9 f hf9).md m34 (fun a z => no a (by unfold bp at z; omega)), Or.inr ⟨zO_sOs _ _ _ _, h52, h53⟩⟩ h52 h53 (mx2.tr (m34.mx (fun a z => by unfold tp3 at z; unfold xr; omega)))
    · rw [m34.o (no _ (by omega))]; exact b6
    · rw [m34.o (no _ (by omega))]; exact b7.1
noncomputable def o_intersectionRank (A : AA) : Out := (0, (ixE (gr A 0) (gr A 1) : Int) - ((ixF (gr A 0) (gr A 1)).length : Nat) + 1, A)
set_option maxRecDepth 100000 in
theorem c_intersectionRank (h : CI σ x A) (hQ : ∀ σ', CI σ' x A → Mx σ σ' (xr x) → Q (rs e1 (o_intersectionRank A)) σ') : zM Γ mX9_intersectionRank [vR (some x)] σ Q := by
  obtain ⟨z0, z1, z2, z3, z4, z5, z6, z7, z8, z9, z10, z11, z12, k1, k2, k3, k4⟩ := h.xk
  refine zM_of (n := 0) (by decide +kernel) rfl rfl rfl ?_
  refine zW_aload_n dX9_intersectionRank_0 rfl ?_
  refine zcV0 dX9_intersectionRank_1 rfl eX9_searchIntersection b336 ⟨by decide, by decide, by decide, by decide⟩ rfl z0 rfl (by decide) (Nat.le_of_ble_eq_true rfl) (c_searchIntersection h (fun σ1 h1 e2 e3 mx => ?_))
  obtain ⟨z0, z1, z2, z3, z4, z5, z6, z7, z8, z9, z10, z11, z12, k1, k2, k3, k4⟩ := h1.xk
  have hI := h1.1.2.2.2.2.1
  refine zW_aload_n dX9_intersectionRank_4 rfl ?_
  refine zgP dX9_intersectionRank_5 fX9_53 z0 rfl z8 ?_
  refine zgI dX9_intersectionRank_8 fX9_251 hI.1 rfl e3 ?_
  refine zW_aload_n dX9_intersectionRank_11 rfl ?_
  refine zgP dX9_intersectionRank_12 fX9_53 z0 rfl z8 ?_
  refine zgI dX9_intersectionRank_15 fX9_252 hI.1 rfl e2 ?_
  refine zW_isub dX9_intersectionRank_18 ?_
  refine zW_iconst dX9_intersectionRank_19 ?_
  refine zW_iadd dX9_intersectionRank_20 ?_
  refine zW_ireturn dX9_intersectionRank_21 rfl rfl (by first | decide | (show _ ≤ (2 : Nat); omega)) (by first | decide | (show _ ≤ (12 : Nat); omega)) ?_
  exact hQ σ1 h1 mx
noncomputable def o_intersectionIndex (A : AA) : Out := (0, cif (gcomp (gr A 0) (sRk (aSt A)) ∧ gcomp (gr A 1) (sRk (aSt A))) ((ixF (gr A 0) (gr A 1)).length : Nat) (-1), A)
set_option maxRecDepth 100000 in
theorem c_intersectionIndex (h : CI σ x A) (hr9 : sRk (aSt A) ≤ 4) (hQ : ∀ σ', CI σ' x A → Mx σ σ' (xr x) → Q (rs e1 (o_intersectionIndex A)) σ') : zM Γ mX9_intersectionIndex [vR (some x)] σ Q := by
  obtain ⟨z0, z1, z2, z3, z4, z5, z6, z7, z8, z9, z10, z11, z12, k1, k2, k3, k4⟩ := h.xk
  refine zM_of (n := 0) (by decide +kernel) rfl rfl rfl ?_
  unfold o_intersectionIndex at hQ
  refine zW_aload_n dX9_intersectionIndex_0 rfl ?_
  refine zW_iconst dX9_intersectionIndex_1 ?_
  refine zcV1 dX9_intersectionIndex_2 rfl eX9_graphOf b340 ⟨by decide, by decide, by decide, by decide⟩ rfl z0 rfl (by decide) (Nat.le_of_ble_eq_true rfl) (c_graphOf h (by unfold InR; omega) (fun gk σ1 h1 hG h61 m1 hIs => ?_) (fun gk m => absurd (show inR2 0 by unfold inR2; omega) gk))
  have mx1 := m1.mx (P' := xr x) (fun a z => gq_xr gk z)
  obtain ⟨z0, z1, z2, z3, z4, z5, z6, z7, z8, z9, z10, z11, z12, k1, k2, k3, k4⟩ := h1.xk
  have hS := h1.st
  refine zW_aload_n dX9_intersectionIndex_5 rfl ?_
  refine zgP dX9_intersectionIndex_6 fX9_16 z0 rfl z2 ?_
  refine zgI dX9_intersectionIndex_9 fX9_126 hS.1.1 rfl hS.2.1 ?_
  refine zcV1 dX9_intersectionIndex_12 rfl eX2_isComplete b491 ⟨by decide, by decide, by decide, by decide⟩ rfl hG.1.1 rfl (by decide) (Nat.le_of_ble_eq_true rfl) (g_isComplete hG hr9 (fun k => ?_) (fun k => ?_))
  · refine zW_if_eq (tgt := 36) dX9_intersectionIndex_15 (by decide) (by first | assumption | omega | (unfold InR; omega) | (unfold InL; omega) | (simp only [InR] at *; omega)) (fun q => ?_) (fun q => ?_)
    · exact absurd q (by decide)
    · refine zW_aload_n dX9_intersectionIndex_18 rfl ?_
      refine zW_iconst dX9_intersectionIndex_19 ?_
      refine zcV1 dX9_intersectionIndex_20 rfl eX9_graphOf b340 ⟨by decide, by decide, by decide, by decide⟩ rfl z0 rfl (by decide) (Nat.le_of_ble_eq_true rfl) (c_graphOf h1 (by unfold InR; omega) (fun gk2 σ2 h2 hH h62 m2 hIt => ?_) (fun gk m => absurd (show inR2 1 by unfold inR2; omega) gk))
      have mx2 := mx1.tr (m2.mx (P' := xr x) (fun a z => gq_xr gk2 z))
      obtain ⟨z0, z1, z2, z3, z4, z5, z6, z7, z8, z9, z10, z11, z12, k1, k2, k3, k4⟩ := h2.xk
      have hS := h2.st
      refine zW_aload_n dX9_intersectionIndex_23 rfl ?_
      refine zgP dX9_intersectionIndex_24 fX9_16 z0 rfl z2 ?_
      refine zgI dX9_intersectionIndex_27 fX9_126 hS.1.1 rfl hS.2.1 ?_
      refine zcV1 dX9_intersectionIndex_30 rfl eX2_isComplete b491 ⟨by decide, by decide, by decide, by decide⟩ rfl hH.1.1 rfl (by decide) (Nat.le_of_ble_eq_true rfl) (g_isComplete hH hr9 (fun k2 => ?_) (fun k2 => ?_))
      · refine zW_if_ne (tgt := 38) dX9_intersectionIndex_33 (by decide) (by first | assumption | omega | (unfold InR; omega) | (unfold InL; omega) | (simp only [InR] at *; omega)) (fun q2 => ?_) (fun q2 => ?_)
        · refine zW_aload_n dX9_intersectionIndex_38 rfl ?_
          refine zcV0 dX9_intersectionIndex_39 rfl eX9_searchIntersection b336 ⟨by decide, by decide, by decide, by decide⟩ rfl z0 rfl (by decide) (Nat.le_of_ble_eq_true rfl) (c_searchIntersection h2 (fun σ3 h3 e2 e3 mx => ?_))
          obtain ⟨z0, z1, z2, z3, z4, z5, z6, z7, z8, z9, z10, z11, z12, k1, k2, k3, k4⟩ := h3.xk
          have hI := h3.1.2.2.2.2.1
          rw [cif_t ⟨k, by assumption⟩] at hQ
          refine zW_aload_n dX9_intersectionIndex_42 rfl ?_
          refine zgP dX9_intersectionIndex_43 fX9_53 z0 rfl z8 ?_
          refine zgI dX9_intersectionIndex_46 fX9_252 hI.1 rfl e2 ?_
          refine zW_ireturn dX9_intersectionIndex_49 rfl rfl (by first | decide | (show _ ≤ (4 : Nat); omega)) (by first | decide | (show _ ≤ (24 : Nat); omega)) ?_
          exact hQ σ3 h3 (mx2.tr mx)
        · exact absurd q2 (by decide)
      · rw [cif_f (fun z => k2 z.2)] at hQ
        refine zW_if_ne (tgt := 38) dX9_intersectionIndex_33 (by decide) (by first | assumption | omega | (unfold InR; omega) | (unfold InL; omega) | (simp only [InR] at *; omega)) (fun q2 => ?_) (fun q2 => ?_)
        · exact absurd rfl q2
        · refine zW_iconst dX9_intersectionIndex_36 ?_
          refine zW_ireturn dX9_intersectionIndex_37 rfl rfl (by first | decide | (show _ ≤ (4 : Nat); omega)) (by first | decide | (show _ ≤ (24 : Nat); omega)) ?_
          exact hQ σ2 h2 mx2
  · rw [cif_f (fun z => k z.1)] at hQ
    refine zW_if_eq (tgt := 36) dX9_intersectionIndex_15 (by decide) (by first | assumption | omega | (unfold InR; omega) | (unfold InL; omega) | (simp only [InR] at *; omega)) (fun q => ?_) (fun q => ?_)
    · refine zW_iconst dX9_intersectionIndex_36 ?_
      refine zW_ireturn dX9_intersectionIndex_37 rfl rfl (by first | decide | (show _ ≤ (4 : Nat); omega)) (by first | decide | (show _ ≤ (24 : Nat); omega)) ?_
      exact hQ σ1 h1 mx1
    · exact absurd rfl q
def o_generatingWordCount (A : AA) (g : Int) : Out := if 0 ≤ g ∧ g < 2 then (0, (sGw (aSt A) g.toNat).length, A) else (1, 0, A)
set_option maxRecDepth 100000 in
theorem c_generatingWordCount {g : Int} (h : CI σ x A) (ig : InR g) (hQ : ∀ σ', CI σ' x (o_generatingWordCount A g).2.2 → Mx σ σ' (xr x) → Q (rs e1 (o_generatingWordCount A g)) σ') : zM Γ mX9_generatingWordCount [vR (some x), vI g] σ Q := by
  obtain ⟨z0, z1, z2, z3, z4, z5, z6, z7, z8, z9, z10, z11, z12, k1, k2, k3, k4⟩ := h.xk
  obtain ⟨s0, s1, s2, s3, s4, s5, s6, s7, s8, s9⟩ := id h.st.1
  refine zM_of (n := 0) (by decide +kernel) rfl rfl rfl ?_
  unfold o_generatingWordCount at hQ
  refine zW_iload_n dX9_generatingWordCount_0 rfl ?_
  refine zW_iconst dX9_generatingWordCount_1 ?_
  refine zcS2 dX9_generatingWordCount_2 rfl eX9_checkIndex b344 ⟨by decide, by decide, by decide, by decide⟩ rfl (Nat.le_of_ble_eq_true rfl) (c_checkIndex ig (by unfold InR; omega) (fun y1 y2 => ?_) (fun y m => ?_))
  · rw [if_pos ⟨y1, y2⟩] at hQ
    have hcn := (h.st.2.2.2 g.toNat (by omega)).1
    refine zW_aload_n dX9_generatingWordCount_5 rfl ?_
    refine zgP dX9_generatingWordCount_6 fX9_16 z0 rfl z2 ?_
    refine zgP dX9_generatingWordCount_9 fX9_206 s0 rfl s3 ?_
    refine zW_iload_n dX9_generatingWordCount_12 rfl ?_
    refine zrI dX9_generatingWordCount_13 s6 (by first | assumption | omega | (unfold InR; omega) | (unfold InL; omega) | (simp only [InR] at *; omega)) (by first | assumption | omega | (unfold InR; omega) | (unfold InL; omega) | (simp only [InR] at *; omega)) (by first | assumption | omega | (unfold InR; omega) | (unfold InL; omega) | (simp only [InR] at *; omega)) hcn ?_
    refine zW_ireturn dX9_generatingWordCount_14 rfl rfl (by first | decide | (show _ ≤ (1 : Nat); omega)) (by first | decide | (show _ ≤ (6 : Nat); omega)) ?_
    exact hQ σ h Mx.rf
  · rw [if_neg y] at hQ
    exact hQ _ h.sn Mx.sn
def o_groupRank (A : AA) : Out := (0, (sRk (aSt A) : Nat), A)
set_option maxRecDepth 100000 in
theorem c_groupRank (h : CI σ x A) (hQ : Q (rs e1 (o_groupRank A)) σ) : zM Γ mX9_groupRank [vR (some x)] σ Q := by
  obtain ⟨z0, z1, z2, z3, z4, z5, z6, z7, z8, z9, z10, z11, z12, k1, k2, k3, k4⟩ := h.xk
  have hS := h.st
  refine zM_of (n := 0) (by decide +kernel) rfl rfl rfl ?_
  refine zW_aload_n dX9_groupRank_0 rfl ?_
  refine zgP dX9_groupRank_1 fX9_16 z0 rfl z2 ?_
  refine zgI dX9_groupRank_4 fX9_126 hS.1.1 rfl hS.2.1 ?_
  refine zW_ireturn dX9_groupRank_7 rfl rfl (by first | decide | (show _ ≤ (0 : Nat); omega)) (by first | decide | (show _ ≤ (0 : Nat); omega)) ?_
  exact hQ
def o_errorKind (A : AA) : Out := (0, (aEk A : Nat), A)
set_option maxRecDepth 100000 in
theorem c_errorKind (h : CI σ x A) (hQ : Q (rs e1 (o_errorKind A)) σ) : zM Γ mX9_errorKind [vR (some x)] σ Q := by
  obtain ⟨z0, z1, z2, z3, z4, z5, z6, z7, z8, z9, z10, z11, z12, k1, k2, k3, k4⟩ := h.xk
  have hp := h.1.2.2.1
  have he := h.2.2.2.2.2.1
  refine zM_of (n := 0) (by decide +kernel) rfl rfl rfl ?_
  refine zW_aload_n dX9_errorKind_0 rfl ?_
  refine zgP dX9_errorKind_1 fX9_33 z0 rfl z5 ?_
  refine zgI dX9_errorKind_4 fX9_129 hp.1 rfl he.1 ?_
  refine zW_ireturn dX9_errorKind_7 rfl rfl (by first | decide | (show _ ≤ (0 : Nat); omega)) (by first | decide | (show _ ≤ (0 : Nat); omega)) ?_
  exact hQ
def o_errorPosition (A : AA) : Out := (0, aEp A, A)
set_option maxRecDepth 100000 in
theorem c_errorPosition (h : CI σ x A) (hQ : Q (rs e1 (o_errorPosition A)) σ) : zM Γ mX9_errorPosition [vR (some x)] σ Q := by
  obtain ⟨z0, z1, z2, z3, z4, z5, z6, z7, z8, z9, z10, z11, z12, k1, k2, k3, k4⟩ := h.xk
  have hp := h.1.2.2.1
  have he := h.2.2.2.2.2.1
  refine zM_of (n := 0) (by decide +kernel) rfl rfl rfl ?_
  refine zW_aload_n dX9_errorPosition_0 rfl ?_
  refine zgP dX9_errorPosition_1 fX9_33 z0 rfl z5 ?_
  refine zgI dX9_errorPosition_4 fX9_132 hp.1 rfl he.2 ?_
  refine zW_ireturn dX9_errorPosition_7 rfl rfl (by first | decide | (show _ ≤ (0 : Nat); omega)) (by first | decide | (show _ ≤ (0 : Nat); omega)) ?_
  exact hQ
end CALCG
