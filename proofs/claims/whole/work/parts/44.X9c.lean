/-! the calculator: edits -/
def aWith (A : AA) (st : ST) (hi : List ST) : AA := (st, hi, aSv A, aIn A, aEk A, aEp A, aFm A)
def aSet (A : AA) (r : Int) (w : List Nat) : AA := aWith A (sReg (aSt A) r.toNat w) ((aSt A :: aHi A).take 8)
def aGen (A : AA) (g : Int) (ws : List (List Nat)) : AA := aWith A (sSet (aSt A) g.toNat ws) ((aSt A :: aHi A).take 8)
def aWin (A : AA) (l : List Nat) : AA := (aSt A, aHi A, aSv A, l, aEk A, aEp A, aFm A)
def aWfm (A : AA) (l : List Nat) : AA := (aSt A, aHi A, aSv A, aIn A, aEk A, aEp A, l)
def aWsv (A : AA) (s : Option ST) : AA := (aSt A, aHi A, s, aIn A, aEk A, aEp A, aFm A)
/-- all but what the graphs hold -/
def CJ (σ : HS) (x : Nat) (A : AA) : Prop := C0 σ x ∧ cIn σ x (aIn A) ∧ SD σ (x + 2) (aSt A) ∧ cSv σ x (aSv A) ∧ HD σ (x + 90) (aHi A) ∧ (zO σ (x + 444) 2 = (aEk A : Int) ∧ zO σ (x + 444) 3 = aEp A) ∧ cSc σ x ∧ FD σ (x + 509) (aFm A) ∧ ∀ g, g < 2 → zI σ (x + 515 + 5 * g) 0 = 0
section CALCE
variable {Γ : GG} {σ σ' : HS} {Q : Res → HS → Prop} {x : Nat} {A : AA} {P : Nat → Prop}
set_option maxRecDepth 100000 in
theorem CI.cj (h : CI σ x A) : CJ σ x A := by
  obtain ⟨a1, a2, a3, a4, a5, a6, a7, a8, a9, a10⟩ := h
  exact ⟨a1, a2, a3, a4, a5, a6, a7, a8, fun g hg => (a9 g hg).1⟩
set_option maxRecDepth 100000 in
/-- the pieces that P leaves alone -/
theorem CJ.hist {hi : List ST} (h : CJ σ x A) (m : Md σ σ' (hp (x + 90))) (H : HD σ' (x + 90) hi) : CJ σ' x (aWith A (aSt A) hi) := by
  obtain ⟨a1, a2, a3, a4, a5, a6, a7, a8, a9⟩ := h
  have no : ∀ a, (a < x + 90 ∨ x + 444 ≤ a) → ¬ hp (x + 90) a := fun a z => by unfold hp; omega
  refine ⟨a1.md m, a2.md m (no _ (by omega)) (no _ (by omega)), a3.md m (fun a z => no a (by unfold sp at z; omega)), a4.md m (no _ (by omega)) (fun a z => no a (by unfold sp at z; omega)), H, ?_, a7.md m (no _ (by omega)) (no _ (by omega)), a8.md m (no _ (by omega)) (no _ (by omega)), fun g hg => ?_⟩
  · rw [m.o (no _ (by omega))]; exact a6
  · rw [m.i (no _ (by omega))]; exact a9 g hg
set_option maxRecDepth 100000 in
theorem CJ.state {st : ST} (h : CJ σ x A) (m : Md σ σ' (sp (x + 2))) (H : SD σ' (x + 2) st) : CJ σ' x (aWith A st (aHi A)) := by
  obtain ⟨a1, a2, a3, a4, a5, a6, a7, a8, a9⟩ := h
  have no : ∀ a, (a < x + 2 ∨ x + 46 ≤ a) → ¬ sp (x + 2) a := fun a z => by unfold sp; omega
  refine ⟨a1.md m, a2.md m (no _ (by omega)) (no _ (by omega)), H, a4.md m (no _ (by omega)) (fun a z => no a (by unfold sp at z; omega)), a5.md m (fun a z => no a (by unfold hp at z; omega)), ?_, a7.md m (no _ (by omega)) (no _ (by omega)), a8.md m (no _ (by omega)) (no _ (by omega)), fun g hg => ?_⟩
  · rw [m.o (no _ (by omega))]; exact a6
  · rw [m.i (no _ (by omega))]; exact a9 g hg
set_option maxRecDepth 100000 in
theorem CJ.sc9 (h : CJ σ x A) (m : Md σ σ' P) (hq : ∀ a, P a → scr x a) : CJ σ' x A := by
  obtain ⟨a1, a2, a3, a4, a5, a6, a7, a8, a9⟩ := h
  have no : ∀ a, (a < x + 503 ∨ x + 509 ≤ a) → ¬ P a := fun a ha z => by have := hq a z; unfold scr at this; omega
  refine ⟨a1.md m, a2.md m (no _ (by omega)) (no _ (by omega)), a3.md m (fun a z => no a (by unfold sp at z; omega)), a4.md m (no _ (by omega)) (fun a z => no a (by unfold sp at z; omega)), a5.md m (fun a z => no a (by unfold hp at z; omega)), ?_, a7.md m (no _ (by omega)) (no _ (by omega)), a8.md m (no _ (by omega)) (no _ (by omega)), fun g hg => ?_⟩
  · rw [m.o (no _ (by omega))]; exact a6
  · rw [m.i (no _ (by omega))]; exact a9 g hg
set_option maxRecDepth 100000 in
/-- the graphs stay as they are: what they are made of has not changed -/
theorem CI.keep {A' : AA} (h : CI σ x A) (h' : CJ σ' x A') (e : sGw (aSt A') = sGw (aSt A)) (m : Md σ σ' P) (hq : ∀ a, (bp (x + 511) a ∨ bp (x + 516) a ∨ a = x + 500) → ¬ P a) : CI σ' x A' := by
  obtain ⟨b1, b2, b3, b4, b5, b6, b7, b8, b9⟩ := h'
  obtain ⟨a1, a2, a3, a4, a5, a6, a7, a8, a9, a10⟩ := h
  refine ⟨b1, b2, b3, b4, b5, b6, b7, b8, fun g hg => ?_, ?_⟩
  · rw [e]
    refine (a9 g hg).md m (fun a z => ?_)
    rcases (by omega : g = 0 ∨ g = 1) with r | r
    · subst r; exact hq a (Or.inl z)
    · subst r; exact hq a (Or.inr (Or.inl z))
  · unfold cX
    rw [e]
    exact a10.md m (hq _ (Or.inr (Or.inr rfl)))
def mk3 (x : Nat) : Nat → Prop := fun a => a = x + 511 ∨ a = x + 516 ∨ a = x + 500
set_option maxRecDepth 100000 in
theorem c_markGraphsStale (h : CJ σ x A) (hQ : ∀ σ', CI σ' x A → Md σ σ' (mk3 x) → Q (.inl none) σ') : zM Γ mX9_markGraphsStale [vR (some x)] σ Q := by
  obtain ⟨z0, z1, z2, z3, z4, z5, z6, z7, z8, z9, z10, z11, z12, k1, k2, k3, k4⟩ := id h.1.1
  have hI := h.1.2.2.2.2.1
  have g1 := h.1.2.2.2.2.2.2.2.2.1
  have g2 := h.1.2.2.2.2.2.2.2.2.2
  refine zM_of (n := 1) (by decide +kernel) rfl rfl rfl ?_
  refine zW_iconst dX9_markGraphsStale_0 ?_
  refine zW_istore_n dX9_markGraphsStale_1 (by decide) rfl rfl ?_
  refine zW_iload_n dX9_markGraphsStale_2 rfl ?_
  refine zW_iconst dX9_markGraphsStale_3 ?_
  refine zW_icmp_ge (tgt := 23) dX9_markGraphsStale_4 (by decide) (by first | assumption | omega | (unfold InR; omega) | (unfold InL; omega) | (simp only [InR] at *; omega)) (by first | assumption | omega | (unfold InR; omega) | (unfold InL; omega) | (simp only [InR] at *; omega)) (fun q => ?_) (fun q => ?_)
  · exact absurd q (by decide)
  · refine zW_aload_n dX9_markGraphsStale_7 rfl ?_
    refine zgP dX9_markGraphsStale_8 fX9_39 z0 rfl z6 ?_
    refine zW_iload_n dX9_markGraphsStale_11 rfl ?_
    refine zrP dX9_markGraphsStale_12 k2 (by decide) (by decide) (by first | assumption | omega | (unfold InR; omega) | (unfold InL; omega) | (simp only [InR] at *; omega)) (by first | assumption | omega | (unfold InR; omega) | (unfold InL; omega) | (simp only [InR] at *; omega)) (by first | assumption | omega | (unfold InR; omega) | (unfold InL; omega) | (simp only [InR] at *; omega)) k3 ?_
    refine zW_iconst dX9_markGraphsStale_13 ?_
    refine zpI dX9_markGraphsStale_14 fX9_346 g1.1 rfl (Or.inl rfl) zst_1 ?_
    refine zW_iinc dX9_markGraphsStale_17 rfl (by decide) rfl rfl ?_
    refine zW_goto (tgt := 2) dX9_markGraphsStale_20 (by decide) ?_
    refine zW_iload_n dX9_markGraphsStale_2 rfl ?_
    refine zW_iconst dX9_markGraphsStale_3 ?_
    refine zW_icmp_ge (tgt := 23) dX9_markGraphsStale_4 (by decide) (by first | assumption | omega | (unfold InR; omega) | (unfold InL; omega) | (simp only [InR] at *; omega)) (by first | assumption | omega | (unfold InR; omega) | (unfold InL; omega) | (simp only [InR] at *; omega)) (fun q2 => ?_) (fun q2 => ?_)
    · exact absurd q2 (by decide)
    · refine zW_aload_n dX9_markGraphsStale_7 rfl ?_
      refine zgP dX9_markGraphsStale_8 fX9_39 z0 rfl z6 ?_
      refine zW_iload_n dX9_markGraphsStale_11 rfl ?_
      refine zrP dX9_markGraphsStale_12 k2 (by decide) (by decide) (by first | assumption | omega | (unfold InR; omega) | (unfold InL; omega) | (simp only [InR] at *; omega)) (by first | assumption | omega | (unfold InR; omega) | (unfold InL; omega) | (simp only [InR] at *; omega)) (by first | assumption | omega | (unfold InR; omega) | (unfold InL; omega) | (simp only [InR] at *; omega)) k4 ?_
      refine zW_iconst dX9_markGraphsStale_13 ?_
      refine zpI dX9_markGraphsStale_14 fX9_346 g2.1 rfl (Or.inl rfl) zst_1 ?_
      refine zW_iinc dX9_markGraphsStale_17 rfl (by decide) rfl rfl ?_
      refine zW_goto (tgt := 2) dX9_markGraphsStale_20 (by decide) ?_
      refine zW_iload_n dX9_markGraphsStale_2 rfl ?_
      refine zW_iconst dX9_markGraphsStale_3 ?_
      refine zW_icmp_ge (tgt := 23) dX9_markGraphsStale_4 (by decide) (by first | assumption | omega | (unfold InR; omega) | (unfold InL; omega) | (simp only [InR] at *; omega)) (by first | assumption | omega | (unfold InR; omega) | (unfold InL; omega) | (simp only [InR] at *; omega)) (fun q3 => ?_) (fun q3 => ?_)
      · refine zW_aload_n dX9_markGraphsStale_23 rfl ?_
        refine zgP dX9_markGraphsStale_24 fX9_53 z0 rfl z8 ?_
        refine zW_iconst dX9_markGraphsStale_27 ?_
        refine zpI dX9_markGraphsStale_28 fX9_353 hI.1 rfl (Or.inl rfl) zst_1 ?_
        refine zW_return dX9_markGraphsStale_31 rfl (by first | decide | (show _ ≤ (0 : Nat); omega)) (by first | decide | (show _ ≤ (0 : Nat); omega)) ?_
        have m : Md σ (sO (sO (sO σ (x + 511) 6 1) (x + 516) 6 1) (x + 500) 4 1) (mk3 x) := ((Md.O (P := mk3 x) (Or.inl rfl)).tr (Md.O (P := mk3 x) (Or.inr (Or.inl rfl))) (fun _ z => z)).tr (Md.O (P := mk3 x) (Or.inr (Or.inr rfl))) (fun _ z => z)
        obtain ⟨a1, a2, a3, a4, a5, a6, a7, a8, a9⟩ := id h
        have no : ∀ a, (a ≠ x + 511 ∧ a ≠ x + 516 ∧ a ≠ x + 500) → ¬ mk3 x a := fun a z => by unfold mk3; omega
        refine hQ _ ⟨a1.md m, a2.md m (no _ (by omega)) (no _ (by omega)), a3.md m (fun a z => no a (by unfold sp at z; omega)), a4.md m (no _ (by omega)) (fun a z => no a (by unfold sp at z; omega)), a5.md m (fun a z => no a (by unfold hp at z; omega)), ?_, a7.md m (no _ (by omega)) (no _ (by omega)), a8.md m (no _ (by omega)) (no _ (by omega)), fun g hg => ⟨?_, Or.inl ?_⟩, Or.inl (zO_sOs _ _ _ _)⟩ m
        · rw [m.o (no _ (by omega))]; exact a6
        · rw [m.i (no _ (by omega))]; exact a9 g hg
        · rw [zO_sOa _ _ _ _ (by omega)]
          rcases (by omega : g = 0 ∨ g = 1) with r | r
          · subst r
            rw [zO_sOa _ _ _ _ (by omega)]
            exact zO_sOs _ _ _ _
          · subst r
            exact zO_sOs _ _ _ _
      · exact absurd (by decide) q3
def o_store (A : AA) (r : Int) (w : List Nat) (k : Nat) : Out := if w.length ≤ 60 then (0, (w.length : Nat), aSet A r w) else (k, 0, A)
set_option maxRecDepth 100000 in
theorem c_storeProduct {r : Int} {w : List Nat} (h : CI σ x A) (hw : Wd σ (x + 505) (x + 506) 3600 w) (hr : inR8 r) (hok : w.length ≤ 60 → ∀ σ', CI σ' x (aSet A r w) → Mx σ σ' (xr x) → Q (.inl (some (vI w.length))) σ') (hbad : ¬ w.length ≤ 60 → ∀ n, Q (.inr eS) (sN σ n)) : zM Γ mX9_storeProduct [vR (some x), vI r] σ Q := by
  obtain ⟨z0, z1, z2, z3, z4, z5, z6, z7, z8, z9, z10, z11, z12, k1, k2, k3, k4⟩ := h.xk
  have hS := h.st
  have hH := h.2.2.2.2.1
  have hcap := hw.cap
  unfold inR8 at hr
  refine zM_of (n := 0) (by decide +kernel) rfl rfl rfl ?_
  refine zW_aload_n dX9_storeProduct_0 rfl ?_
  refine zgP dX9_storeProduct_1 fX9_69 z0 rfl z10 ?_
  refine zgI dX9_storeProduct_4 fX9_139 hw.1.1 rfl hw.2.1 ?_
  refine zW_bipush dX9_storeProduct_7 (by decide) ?_
  refine zW_icmp_le (tgt := 23) dX9_storeProduct_9 (by decide) (by first | assumption | omega | (unfold InR; omega) | (unfold InL; omega) | (simp only [InR] at *; omega)) (by first | assumption | omega | (unfold InR; omega) | (unfold InL; omega) | (simp only [InR] at *; omega)) (fun q => ?_) (fun q => ?_)
  · have hl : w.length ≤ 60 := by omega
    refine zW_aload_n dX9_storeProduct_23 rfl ?_
    refine zgP dX9_storeProduct_24 fX9_26 z0 rfl z4 ?_
    refine zW_aload_n dX9_storeProduct_27 rfl ?_
    refine zgP dX9_storeProduct_28 fX9_16 z0 rfl z2 ?_
    refine zcV1 dX9_storeProduct_31 rfl eX3_record b1073 ⟨by decide, by decide, by decide, by decide⟩ rfl hH.1.1 rfl (by decide) (Nat.le_of_ble_eq_true rfl) (h_record hH hS (by omega) (fun σ1 H1 m1 => ?_))
    have hj1 := h.cj.hist m1 H1
    have S1 : SD σ1 (x + 2) (aSt A) := hj1.2.2.1
    obtain ⟨z0, z1, z2, z3, z4, z5, z6, z7, z8, z9, z10, z11, z12, k1, k2, k3, k4⟩ := id hj1.1.1
    obtain ⟨s0, s1, s2, s3, s4, s5, s6, s7, s8, s9⟩ := id S1.1
    have hw1 : Wd σ1 (x + 505) (x + 506) 3600 w := hw.md m1 (by unfold hp; omega) (by unfold hp; omega)
    have ht := s9 r.toNat (by omega)
    refine zW_aload_n dX9_storeProduct_34 rfl ?_
    refine zgP dX9_storeProduct_35 fX9_16 z0 rfl z2 ?_
    refine zgP dX9_storeProduct_38 fX9_342 s0 rfl s1 ?_
    refine zW_iload_n dX9_storeProduct_41 rfl ?_
    refine zrP dX9_storeProduct_42 s4 (by decide) (by decide) (by first | assumption | omega | (unfold InR; omega) | (unfold InL; omega) | (simp only [InR] at *; omega)) (by first | assumption | omega | (unfold InR; omega) | (unfold InL; omega) | (simp only [InR] at *; omega)) (by first | assumption | omega | (unfold InR; omega) | (unfold InL; omega) | (simp only [InR] at *; omega)) (s7 r.toNat (by omega)) ?_
    refine zW_aload_n dX9_storeProduct_43 rfl ?_
    refine zgP dX9_storeProduct_44 fX9_69 z0 rfl z10 ?_
    refine zcV1 dX9_storeProduct_47 rfl eX8_copyFrom b1079 ⟨by decide, by decide, by decide, by decide⟩ rfl ht.1 rfl (by decide) (Nat.le_of_ble_eq_true rfl) (w_copyFrom ht hw1 (by omega) (by omega) (by omega) (by omega) (by omega) hl (fun σ2 hw2 m2 => ?_))
    have S2 : SD σ2 (x + 2) (sReg (aSt A) r.toNat w) := S1.set (by omega) m2 hw2
    have m2' : Md σ1 σ2 (sp (x + 2)) := m2.wk (fun a z => by unfold wp at z; unfold sp; omega)
    have hj2 := hj1.state m2' S2
    have hw3 : Wd σ2 (x + 505) (x + 506) 3600 w := hw1.md m2' (by unfold sp; omega) (by unfold sp; omega)
    have m12 : Md σ σ2 (fun a => hp (x + 90) a ∨ sp (x + 2) a) := (m1.wk (P' := fun a => hp (x + 90) a ∨ sp (x + 2) a) (fun a z => Or.inl z)).tr m2' (fun a z => Or.inr z)
    obtain ⟨z0, z1, z2, z3, z4, z5, z6, z7, z8, z9, z10, z11, z12, k1, k2, k3, k4⟩ := id hj2.1.1
    refine zW_aload_n dX9_storeProduct_50 rfl ?_
    refine zgP dX9_storeProduct_51 fX9_69 z0 rfl z10 ?_
    refine zgI dX9_storeProduct_54 fX9_139 hw3.1.1 rfl hw3.2.1 ?_
    refine zW_ireturn dX9_storeProduct_57 rfl rfl (by first | decide | (show _ ≤ (1 : Nat); omega)) (by first | decide | (show _ ≤ (6 : Nat); omega)) ?_
    refine hok hl σ2 (h.keep (A' := aSet A r w) hj2 rfl m12 (fun a z z' => ?_)) (m12.mx (fun a z => ?_))
    · unfold hp sp at z'
      unfold bp at z
      omega
    · unfold hp sp at z
      unfold xr
      omega
  · refine zW_throwW (k := 11) zTok_0 (by decide) rfl rfl rfl dX9_storeProduct_12 dX9_storeProduct_15 dX9_storeProduct_16 dX9_storeProduct_19 dX9_storeProduct_22 (by decide) (Nat.le_of_ble_eq_true rfl) (by decide) (by decide) (fun n => ?_)
    exact hbad (by omega) n
set_option maxRecDepth 100000 in
theorem c_makeCommutator {w c w' c' : Nat} {l m : List Nat} (h : XK σ x) (hp9 : Wk σ (x + 505) (x + 506) 3600) (hl : Wd σ w c 60 l) (hm : Wd σ w' c' 60 m) (d1 : w + 1 < x + 505 ∧ c + 1 < x + 505 ∧ w' + 1 < x + 505 ∧ c' + 1 < x + 505) (hQ : ∀ σ', Wd σ' (x + 505) (x + 506) 3600 (comw l m) → Md σ σ' (wp (x + 505) (x + 506)) → Q (.inl none) σ') : zM Γ mX9_makeCommutator [vR (some x), vR (some w), vR (some w')] σ Q := by
  obtain ⟨z0, -, -, -, -, -, -, -, -, -, z10, -⟩ := id h
  have c1 := hl.cap
  have c2 := hm.cap
  have kx : ∀ {σ1}, Md σ σ1 (wp (x + 505) (x + 506)) → zK σ1 x = (9, 0) ∧ zP σ1 x 11 = some (x + 505) := fun m => ⟨by rw [m.K]; exact z0, by rw [m.P]; exact z10⟩
  have kl : ∀ {σ1}, Md σ σ1 (wp (x + 505) (x + 506)) → Wd σ1 w c 60 l := fun m => hl.md m (by unfold wp; omega) (by unfold wp; omega)
  have km : ∀ {σ1}, Md σ σ1 (wp (x + 505) (x + 506)) → Wd σ1 w' c' 60 m := fun q => hm.md q (by unfold wp; omega) (by unfold wp; omega)
  refine zM_of (n := 0) (by decide +kernel) rfl rfl rfl ?_
  refine zW_aload_n dX9_makeCommutator_0 rfl ?_
  refine zgP dX9_makeCommutator_1 fX9_69 z0 rfl z10 ?_
  refine zcV0 dX9_makeCommutator_4 rfl eX8_clear b802 ⟨by decide, by decide, by decide, by decide⟩ rfl hp9.1 rfl (by decide) (Nat.le_of_ble_eq_true rfl) (w_clear hp9 (fun σ1 h1 m1 => ?_))
  obtain ⟨y0, y1⟩ := kx m1
  have L1 := pws_len (invw l) []
  rw [invw_len] at L1
  refine zW_aload_n dX9_makeCommutator_7 rfl ?_
  refine zgP dX9_makeCommutator_8 fX9_69 y0 rfl y1 ?_
  refine zW_aload_n dX9_makeCommutator_11 rfl ?_
  refine zcV1 dX9_makeCommutator_12 rfl eX8_putInverse b803 ⟨by decide, by decide, by decide, by decide⟩ rfl h1.1.1 rfl (by decide) (Nat.le_of_ble_eq_true rfl) (w_putInverse h1 (kl m1) (by omega) (by omega) (by omega) (by omega) (by simp; omega) (fun σ2 h2 m2 => ?_))
  have m12 := m1.tr m2 (fun _ z => z)
  obtain ⟨y0, y1⟩ := kx m12
  have L2 := pws_len (invw m) (pws [] (invw l))
  rw [invw_len] at L2
  simp only [List.length_nil] at L1
  refine zW_aload_n dX9_makeCommutator_15 rfl ?_
  refine zgP dX9_makeCommutator_16 fX9_69 y0 rfl y1 ?_
  refine zW_aload_n dX9_makeCommutator_19 rfl ?_
  refine zcV1 dX9_makeCommutator_20 rfl eX8_putInverse b803 ⟨by decide, by decide, by decide, by decide⟩ rfl h2.1.1 rfl (by decide) (Nat.le_of_ble_eq_true rfl) (w_putInverse h2 (km m12) (by omega) (by omega) (by omega) (by omega) (by omega) (fun σ3 h3 m3 => ?_))
  have m13 := m12.tr m3 (fun _ z => z)
  obtain ⟨y0, y1⟩ := kx m13
  have L3 := pws_len l (pws (pws [] (invw l)) (invw m))
  refine zW_aload_n dX9_makeCommutator_23 rfl ?_
  refine zgP dX9_makeCommutator_24 fX9_69 y0 rfl y1 ?_
  refine zW_aload_n dX9_makeCommutator_27 rfl ?_
  refine zcV1 dX9_makeCommutator_28 rfl eX8_putWord b808 ⟨by decide, by decide, by decide, by decide⟩ rfl h3.1.1 rfl (by decide) (Nat.le_of_ble_eq_true rfl) (w_putWord h3 (kl m13) (by omega) (by omega) (by omega) (by omega) (by omega) (fun σ4 h4 m4 => ?_))
  have m14 := m13.tr m4 (fun _ z => z)
  obtain ⟨y0, y1⟩ := kx m14
  refine zW_aload_n dX9_makeCommutator_31 rfl ?_
  refine zgP dX9_makeCommutator_32 fX9_69 y0 rfl y1 ?_
  refine zW_aload_n dX9_makeCommutator_35 rfl ?_
  refine zcV1 dX9_makeCommutator_36 rfl eX8_putWord b808 ⟨by decide, by decide, by decide, by decide⟩ rfl h4.1.1 rfl (by decide) (Nat.le_of_ble_eq_true rfl) (w_putWord h4 (km m14) (by omega) (by omega) (by omega) (by omega) (by omega) (fun σ5 h5 m5 => ?_))
  refine zW_return dX9_makeCommutator_39 rfl (by first | decide | (show _ ≤ (0 : Nat); omega)) (by first | decide | (show _ ≤ (0 : Nat); omega)) ?_
  exact hQ σ5 h5 (m14.tr m5 (fun _ z => z))
abbrev o_doCommute (A : AA) (r s : Int) : Out := g2 A r s (if comw (reg A r) (reg A s) = [] then 1 else 0)
set_option maxRecDepth 100000 in
theorem c_doCommute {r s : Int} (h : CI σ x A) (ir : InR r) (is : InR s) (hQ : ∀ σ', CI σ' x (o_doCommute A r s).2.2 → Mx σ σ' (xr x) → Q (rs e1 (o_doCommute A r s)) σ') : zM Γ mX9_doCommute [vR (some x), vI r, vI s] σ Q := by
  obtain ⟨z0, z1, z2, z3, z4, z5, z6, z7, z8, z9, z10, z11, z12, k1, k2, k3, k4⟩ := h.xk
  have hP := h.1.2.2.2.2.2.2.1
  refine zM_of (n := 0) (by decide +kernel) rfl rfl rfl ?_
  unfold o_doCommute g2 at hQ
  refine zW_aload_n dX9_doCommute_0 rfl ?_
  refine zW_aload_n dX9_doCommute_1 rfl ?_
  refine zW_iload_n dX9_doCommute_2 rfl ?_
  refine zcV1 dX9_doCommute_3 rfl eX9_wordOf b724 ⟨by decide, by decide, by decide, by decide⟩ rfl z0 rfl (by decide) (Nat.le_of_ble_eq_true rfl) (c_wordOf h ir (fun g => ?_) (fun g m => ?_))
  · rw [if_pos g] at hQ
    have hw := h.rw g
    refine zW_aload_n dX9_doCommute_6 rfl ?_
    refine zW_iload_n dX9_doCommute_7 rfl ?_
    refine zcV1 dX9_doCommute_8 rfl eX9_wordOf b724 ⟨by decide, by decide, by decide, by decide⟩ rfl z0 rfl (by decide) (Nat.le_of_ble_eq_true rfl) (c_wordOf h is (fun g3 => ?_) (fun g3 m => ?_))
    · rw [if_pos g3] at hQ
      have hv := h.rw g3
      have r8 : r.toNat < 8 := by unfold inR8 at g; omega
      have s8 : s.toNat < 8 := by unfold inR8 at g3; omega
      refine zcV2 dX9_doCommute_11 rfl eX9_makeCommutator b798 ⟨by decide, by decide, by decide, by decide⟩ rfl z0 rfl (by decide) (Nat.le_of_ble_eq_true rfl) (c_makeCommutator h.xk hP hw hv (by omega) (fun σ1 h1 m1 => ?_))
      have hC1 : CI σ1 x A := h.md m1 (fun a z => by unfold wp at z; unfold scr; omega)
      have mx1 : Mx σ σ1 (xr x) := m1.mx (fun a z => by unfold wp at z; unfold xr; omega)
      obtain ⟨z0, z1, z2, z3, z4, z5, z6, z7, z8, z9, z10, z11, z12, k1, k2, k3, k4⟩ := hC1.xk
      have hcp := h1.cap
      refine zW_aload_n dX9_doCommute_14 rfl ?_
      refine zgP dX9_doCommute_15 fX9_69 z0 rfl z10 ?_
      refine zgI dX9_doCommute_18 fX9_139 h1.1.1 rfl h1.2.1 ?_
      refine zW_if_ne (tgt := 28) dX9_doCommute_21 (by decide) (by first | assumption | omega | (unfold InR; omega) | (unfold InL; omega) | (simp only [InR] at *; omega)) (fun q => ?_) (fun q => ?_)
      · rw [if_neg (fun z => q (by rw [z]; rfl))] at hQ
        refine zW_iconst dX9_doCommute_28 ?_
        refine zW_ireturn dX9_doCommute_29 rfl rfl (by first | decide | (show _ ≤ (2 : Nat); omega)) (by first | decide | (show _ ≤ (12 : Nat); omega)) ?_
        exact hQ σ1 hC1 mx1
      · rw [if_pos (List.eq_nil_of_length_eq_zero (by omega))] at hQ
        refine zW_iconst dX9_doCommute_24 ?_
        refine zW_goto (tgt := 29) dX9_doCommute_25 (by decide) ?_
        refine zW_ireturn dX9_doCommute_29 rfl rfl (by first | decide | (show _ ≤ (2 : Nat); omega)) (by first | decide | (show _ ≤ (12 : Nat); omega)) ?_
        exact hQ σ1 hC1 mx1
    · rw [if_neg g3] at hQ
      exact hQ _ h.sn Mx.sn
  · rw [if_neg g] at hQ
    exact hQ _ h.sn Mx.sn
def e4 : Nat → String := fun k => if k = 1 then eI else eS
def o_setProduct (A : AA) (p r s : Int) : Out := if inR8 p then (if inR8 r then (if inR8 s then (o_store A p (pws (pws ([]) (reg A r)) (reg A s)) 2) else (1, 0, A)) else (1, 0, A)) else (1, 0, A)
set_option maxRecDepth 100000 in
theorem c_setProduct {p r s : Int} (h : CI σ x A) (ip : InR p) (ir : InR r) (is : InR s) (hQ : ∀ σ', CI σ' x (o_setProduct A p r s).2.2 → Mx σ σ' (xr x) → Q (rs e4 (o_setProduct A p r s)) σ') : zM Γ mX9_setProduct [vR (some x), vI p, vI r, vI s] σ Q := by
  obtain ⟨z0, z1, z2, z3, z4, z5, z6, z7, z8, z9, z10, z11, z12, k1, k2, k3, k4⟩ := h.xk
  have hP := h.1.2.2.2.2.2.2.1
  refine zM_of (n := 2) (by decide +kernel) rfl rfl rfl ?_
  unfold o_setProduct o_store at hQ
  refine zW_iload_n dX9_setProduct_0 rfl ?_
  refine zW_bipush dX9_setProduct_1 (by decide) ?_
  refine zcS2 dX9_setProduct_3 rfl eX9_checkIndex b344 ⟨by decide, by decide, by decide, by decide⟩ rfl (Nat.le_of_ble_eq_true rfl) (c_checkIndex ip (by unfold InR; omega) (fun y1 y2 => ?_) (fun y m => ?_))
  · have gr9 : inR8 p := ⟨y1, y2⟩
    rw [if_pos gr9] at hQ
    refine zW_aload_n dX9_setProduct_6 rfl ?_
    refine zW_iload_n dX9_setProduct_7 rfl ?_
    refine zcV1 dX9_setProduct_8 rfl eX9_wordOf b724 ⟨by decide, by decide, by decide, by decide⟩ rfl z0 rfl (by decide) (Nat.le_of_ble_eq_true rfl) (c_wordOf h ir (fun kr => ?_) (fun kr m => ?_))
    · rw [if_pos kr] at hQ
      have wr := h.rw kr
      have cr := wr.cap
      have tr : r.toNat < 8 := by unfold inR8 at kr; omega
      refine zW_astore dX9_setProduct_11 (by decide) rfl rfl ?_
      refine zW_aload_n dX9_setProduct_13 rfl ?_
      refine zW_iload_n dX9_setProduct_14 rfl ?_
      refine zcV1 dX9_setProduct_15 rfl eX9_wordOf b724 ⟨by decide, by decide, by decide, by decide⟩ rfl z0 rfl (by decide) (Nat.le_of_ble_eq_true rfl) (c_wordOf h is (fun ks => ?_) (fun ks m => ?_))
      · rw [if_pos ks] at hQ
        have ws := h.rw ks
        have cs := ws.cap
        have ts : s.toNat < 8 := by unfold inR8 at ks; omega
        have kx : ∀ {σ1}, Md σ σ1 (wp (x + 505) (x + 506)) → zK σ1 x = (9, 0) ∧ zP σ1 x 11 = some (x + 505) := fun m => ⟨by rw [m.K]; exact z0, by rw [m.P]; exact z10⟩
        have qr : ∀ {σ1}, Md σ σ1 (wp (x + 505) (x + 506)) → Wd σ1 (x + 6 + 2 * r.toNat) (x + 7 + 2 * r.toNat) 60 (reg A r) := fun m => wr.md m (by unfold wp; omega) (by unfold wp; omega)
        have qs : ∀ {σ1}, Md σ σ1 (wp (x + 505) (x + 506)) → Wd σ1 (x + 6 + 2 * s.toNat) (x + 7 + 2 * s.toNat) 60 (reg A s) := fun m => ws.md m (by unfold wp; omega) (by unfold wp; omega)
        refine zW_astore dX9_setProduct_18 (by decide) rfl rfl ?_
        refine zW_aload_n dX9_setProduct_20 rfl ?_
        refine zgP dX9_setProduct_21 fX9_69 z0 rfl z10 ?_
        refine zcV0 dX9_setProduct_24 rfl eX8_clear b802 ⟨by decide, by decide, by decide, by decide⟩ rfl hP.1 rfl (by decide) (Nat.le_of_ble_eq_true rfl) (w_clear hP (fun σ1 h1 m1 => ?_))
        have L1 : ([] : List Nat).length = 0 := rfl
        obtain ⟨y0, y1⟩ := kx m1
        have L2 := pws_len (reg A r) ([])
        refine zW_aload_n dX9_setProduct_27 rfl ?_
        refine zgP dX9_setProduct_28 fX9_69 y0 rfl y1 ?_
        refine zW_aload dX9_setProduct_31 rfl ?_
        refine zcV1 dX9_setProduct_33 rfl eX8_putWord b808 ⟨by decide, by decide, by decide, by decide⟩ rfl h1.1.1 rfl (by decide) (Nat.le_of_ble_eq_true rfl) (w_putWord h1 (qr m1) (by omega) (by omega) (by omega) (by omega) (by omega) (fun σ2 h2 n2 => ?_))
        have m2 := Md.tr m1 n2 (fun _ z => z)
        obtain ⟨y0, y1⟩ := kx m2
        have L3 := pws_len (reg A s) (pws ([]) (reg A r))
        refine zW_aload_n dX9_setProduct_36 rfl ?_
        refine zgP dX9_setProduct_37 fX9_69 y0 rfl y1 ?_
        refine zW_aload dX9_setProduct_40 rfl ?_
        refine zcV1 dX9_setProduct_42 rfl eX8_putWord b808 ⟨by decide, by decide, by decide, by decide⟩ rfl h2.1.1 rfl (by decide) (Nat.le_of_ble_eq_true rfl) (w_putWord h2 (qs m2) (by omega) (by omega) (by omega) (by omega) (by omega) (fun σ3 h3 n3 => ?_))
        have m3 := Md.tr m2 n3 (fun _ z => z)
        have hC : CI σ3 x A := h.md m3 (fun a z => by unfold wp at z; unfold scr; omega)
        have mx : Mx σ σ3 (xr x) := Md.mx m3 (fun a z => by unfold wp at z; unfold xr; omega)
        obtain ⟨z0, z1, z2, z3, z4, z5, z6, z7, z8, z9, z10, z11, z12, k1, k2, k3, k4⟩ := hC.xk
        refine zW_aload_n dX9_setProduct_45 rfl ?_
        refine zW_iload_n dX9_setProduct_46 rfl ?_
        refine zcV1 dX9_setProduct_47 rfl eX9_storeProduct b1068 ⟨by decide, by decide, by decide, by decide⟩ rfl z0 rfl (by decide) (Nat.le_of_ble_eq_true rfl) (c_storeProduct hC h3 gr9 (fun hl σ9 h9 m9 => ?_) (fun hl m => ?_))
        · rw [if_pos hl] at hQ
          refine zW_ireturn dX9_setProduct_50 rfl rfl (by first | decide | (show _ ≤ (4 : Nat); omega)) (by first | decide | (show _ ≤ (24 : Nat); omega)) ?_
          exact hQ σ9 h9 (mx.tr m9)
        · rw [if_neg hl] at hQ
          exact hQ _ hC.sn (mx.tr Mx.sn)
      · rw [if_neg ks] at hQ
        exact hQ _ h.sn Mx.sn
    · rw [if_neg kr] at hQ
      exact hQ _ h.sn Mx.sn
  · rw [if_neg y] at hQ
    exact hQ _ h.sn Mx.sn
def o_setConjugate (A : AA) (p r s : Int) : Out := if inR8 p then (if inR8 r then (if inR8 s then (o_store A p (pws (pws (pws ([]) (invw (reg A s))) (reg A r)) (reg A s)) 2) else (1, 0, A)) else (1, 0, A)) else (1, 0, A)
set_option maxRecDepth 100000 in
theorem c_setConjugate {p r s : Int} (h : CI σ x A) (ip : InR p) (ir : InR r) (is : InR s) (hQ : ∀ σ', CI σ' x (o_setConjugate A p r s).2.2 → Mx σ σ' (xr x) → Q (rs e4 (o_setConjugate A p r s)) σ') : zM Γ mX9_setConjugate [vR (some x), vI p, vI r, vI s] σ Q := by
  obtain ⟨z0, z1, z2, z3, z4, z5, z6, z7, z8, z9, z10, z11, z12, k1, k2, k3, k4⟩ := h.xk
  have hP := h.1.2.2.2.2.2.2.1
  refine zM_of (n := 2) (by decide +kernel) rfl rfl rfl ?_
  unfold o_setConjugate o_store at hQ
  refine zW_iload_n dX9_setConjugate_0 rfl ?_
  refine zW_bipush dX9_setConjugate_1 (by decide) ?_
  refine zcS2 dX9_setConjugate_3 rfl eX9_checkIndex b344 ⟨by decide, by decide, by decide, by decide⟩ rfl (Nat.le_of_ble_eq_true rfl) (c_checkIndex ip (by unfold InR; omega) (fun y1 y2 => ?_) (fun y m => ?_))
  · have gr9 : inR8 p := ⟨y1, y2⟩
    rw [if_pos gr9] at hQ
    refine zW_aload_n dX9_setConjugate_6 rfl ?_
    refine zW_iload_n dX9_setConjugate_7 rfl ?_
    refine zcV1 dX9_setConjugate_8 rfl eX9_wordOf b724 ⟨by decide, by decide, by decide, by decide⟩ rfl z0 rfl (by decide) (Nat.le_of_ble_eq_true rfl) (c_wordOf h ir (fun kr => ?_) (fun kr m => ?_))
    · rw [if_pos kr] at hQ
      have wr := h.rw kr
      have cr := wr.cap
      have tr : r.toNat < 8 := by unfold inR8 at kr; omega
      refine zW_astore dX9_setConjugate_11 (by decide) rfl rfl ?_
      refine zW_aload_n dX9_setConjugate_13 rfl ?_
      refine zW_iload_n dX9_setConjugate_14 rfl ?_
      refine zcV1 dX9_setConjugate_15 rfl eX9_wordOf b724 ⟨by decide, by decide, by decide, by decide⟩ rfl z0 rfl (by decide) (Nat.le_of_ble_eq_true rfl) (c_wordOf h is (fun ks => ?_) (fun ks m => ?_))
      · rw [if_pos ks] at hQ
        have ws := h.rw ks
        have cs := ws.cap
        have ts : s.toNat < 8 := by unfold inR8 at ks; omega
        have kx : ∀ {σ1}, Md σ σ1 (wp (x + 505) (x + 506)) → zK σ1 x = (9, 0) ∧ zP σ1 x 11 = some (x + 505) := fun m => ⟨by rw [m.K]; exact z0, by rw [m.P]; exact z10⟩
        have qr : ∀ {σ1}, Md σ σ1 (wp (x + 505) (x + 506)) → Wd σ1 (x + 6 + 2 * r.toNat) (x + 7 + 2 * r.toNat) 60 (reg A r) := fun m => wr.md m (by unfold wp; omega) (by unfold wp; omega)
        have qs : ∀ {σ1}, Md σ σ1 (wp (x + 505) (x + 506)) → Wd σ1 (x + 6 + 2 * s.toNat) (x + 7 + 2 * s.toNat) 60 (reg A s) := fun m => ws.md m (by unfold wp; omega) (by unfold wp; omega)
        refine zW_astore dX9_setConjugate_18 (by decide) rfl rfl ?_
        refine zW_aload_n dX9_setConjugate_20 rfl ?_
        refine zgP dX9_setConjugate_21 fX9_69 z0 rfl z10 ?_
        refine zcV0 dX9_setConjugate_24 rfl eX8_clear b802 ⟨by decide, by decide, by decide, by decide⟩ rfl hP.1 rfl (by decide) (Nat.le_of_ble_eq_true rfl) (w_clear hP (fun σ1 h1 m1 => ?_))
        have L1 : ([] : List Nat).length = 0 := rfl
        obtain ⟨y0, y1⟩ := kx m1
        have L2 := pws_len (invw (reg A s)) ([])
        rw [invw_len] at L2
        refine zW_aload_n dX9_setConjugate_27 rfl ?_
        refine zgP dX9_setConjugate_28 fX9_69 y0 rfl y1 ?_
        refine zW_aload dX9_setConjugate_31 rfl ?_
        refine zcV1 dX9_setConjugate_33 rfl eX8_putInverse b803 ⟨by decide, by decide, by decide, by decide⟩ rfl h1.1.1 rfl (by decide) (Nat.le_of_ble_eq_true rfl) (w_putInverse h1 (qs m1) (by omega) (by omega) (by omega) (by omega) (by omega) (fun σ2 h2 n2 => ?_))
        have m2 := Md.tr m1 n2 (fun _ z => z)
        obtain ⟨y0, y1⟩ := kx m2
        have L3 := pws_len (reg A r) (pws ([]) (invw (reg A s)))
        refine zW_aload_n dX9_setConjugate_36 rfl ?_
        refine zgP dX9_setConjugate_37 fX9_69 y0 rfl y1 ?_
        refine zW_aload dX9_setConjugate_40 rfl ?_
        refine zcV1 dX9_setConjugate_42 rfl eX8_putWord b808 ⟨by decide, by decide, by decide, by decide⟩ rfl h2.1.1 rfl (by decide) (Nat.le_of_ble_eq_true rfl) (w_putWord h2 (qr m2) (by omega) (by omega) (by omega) (by omega) (by omega) (fun σ3 h3 n3 => ?_))
        have m3 := Md.tr m2 n3 (fun _ z => z)
        obtain ⟨y0, y1⟩ := kx m3
        have L4 := pws_len (reg A s) (pws (pws ([]) (invw (reg A s))) (reg A r))
        refine zW_aload_n dX9_setConjugate_45 rfl ?_
        refine zgP dX9_setConjugate_46 fX9_69 y0 rfl y1 ?_
        refine zW_aload dX9_setConjugate_49 rfl ?_
        refine zcV1 dX9_setConjugate_51 rfl eX8_putWord b808 ⟨by decide, by decide, by decide, by decide⟩ rfl h3.1.1 rfl (by decide) (Nat.le_of_ble_eq_true rfl) (w_putWord h3 (qs m3) (by omega) (by omega) (by omega) (by omega) (by omega) (fun σ4 h4 n4 => ?_))
        have m4 := Md.tr m3 n4 (fun _ z => z)
        have hC : CI σ4 x A := h.md m4 (fun a z => by unfold wp at z; unfold scr; omega)
        have mx : Mx σ σ4 (xr x) := Md.mx m4 (fun a z => by unfold wp at z; unfold xr; omega)
        obtain ⟨z0, z1, z2, z3, z4, z5, z6, z7, z8, z9, z10, z11, z12, k1, k2, k3, k4⟩ := hC.xk
        refine zW_aload_n dX9_setConjugate_54 rfl ?_
        refine zW_iload_n dX9_setConjugate_55 rfl ?_
        refine zcV1 dX9_setConjugate_56 rfl eX9_storeProduct b1068 ⟨by decide, by decide, by decide, by decide⟩ rfl z0 rfl (by decide) (Nat.le_of_ble_eq_true rfl) (c_storeProduct hC h4 gr9 (fun hl σ9 h9 m9 => ?_) (fun hl m => ?_))
        · rw [if_pos hl] at hQ
          refine zW_ireturn dX9_setConjugate_59 rfl rfl (by first | decide | (show _ ≤ (4 : Nat); omega)) (by first | decide | (show _ ≤ (24 : Nat); omega)) ?_
          exact hQ σ9 h9 (mx.tr m9)
        · rw [if_neg hl] at hQ
          exact hQ _ hC.sn (mx.tr Mx.sn)
      · rw [if_neg ks] at hQ
        exact hQ _ h.sn Mx.sn
    · rw [if_neg kr] at hQ
      exact hQ _ h.sn Mx.sn
  · rw [if_neg y] at hQ
    exact hQ _ h.sn Mx.sn
def o_setInverse (A : AA) (p r : Int) : Out := if inR8 p then (if inR8 r then (o_store A p (pws ([]) (invw (reg A r))) 2) else (1, 0, A)) else (1, 0, A)
set_option maxRecDepth 100000 in
theorem c_setInverse {p r : Int} (h : CI σ x A) (ip : InR p) (ir : InR r) (hQ : ∀ σ', CI σ' x (o_setInverse A p r).2.2 → Mx σ σ' (xr x) → Q (rs e4 (o_setInverse A p r)) σ') : zM Γ mX9_setInverse [vR (some x), vI p, vI r] σ Q := by
  obtain ⟨z0, z1, z2, z3, z4, z5, z6, z7, z8, z9, z10, z11, z12, k1, k2, k3, k4⟩ := h.xk
  have hP := h.1.2.2.2.2.2.2.1
  refine zM_of (n := 1) (by decide +kernel) rfl rfl rfl ?_
  unfold o_setInverse o_store at hQ
  refine zW_iload_n dX9_setInverse_0 rfl ?_
  refine zW_bipush dX9_setInverse_1 (by decide) ?_
  refine zcS2 dX9_setInverse_3 rfl eX9_checkIndex b344 ⟨by decide, by decide, by decide, by decide⟩ rfl (Nat.le_of_ble_eq_true rfl) (c_checkIndex ip (by unfold InR; omega) (fun y1 y2 => ?_) (fun y m => ?_))
  · have gr9 : inR8 p := ⟨y1, y2⟩
    rw [if_pos gr9] at hQ
    refine zW_aload_n dX9_setInverse_6 rfl ?_
    refine zW_iload_n dX9_setInverse_7 rfl ?_
    refine zcV1 dX9_setInverse_8 rfl eX9_wordOf b724 ⟨by decide, by decide, by decide, by decide⟩ rfl z0 rfl (by decide) (Nat.le_of_ble_eq_true rfl) (c_wordOf h ir (fun kr => ?_) (fun kr m => ?_))
    · rw [if_pos kr] at hQ
      have wr := h.rw kr
      have cr := wr.cap
      have tr : r.toNat < 8 := by unfold inR8 at kr; omega
      have kx : ∀ {σ1}, Md σ σ1 (wp (x + 505) (x + 506)) → zK σ1 x = (9, 0) ∧ zP σ1 x 11 = some (x + 505) := fun m => ⟨by rw [m.K]; exact z0, by rw [m.P]; exact z10⟩
      have qr : ∀ {σ1}, Md σ σ1 (wp (x + 505) (x + 506)) → Wd σ1 (x + 6 + 2 * r.toNat) (x + 7 + 2 * r.toNat) 60 (reg A r) := fun m => wr.md m (by unfold wp; omega) (by unfold wp; omega)
      refine zW_astore_n dX9_setInverse_11 (by decide) rfl rfl ?_
      refine zW_aload_n dX9_setInverse_12 rfl ?_
      refine zgP dX9_setInverse_13 fX9_69 z0 rfl z10 ?_
      refine zcV0 dX9_setInverse_16 rfl eX8_clear b802 ⟨by decide, by decide, by decide, by decide⟩ rfl hP.1 rfl (by decide) (Nat.le_of_ble_eq_true rfl) (w_clear hP (fun σ1 h1 m1 => ?_))
      have L1 : ([] : List Nat).length = 0 := rfl
      obtain ⟨y0, y1⟩ := kx m1
      have L2 := pws_len (invw (reg A r)) ([])
      rw [invw_len] at L2
      refine zW_aload_n dX9_setInverse_19 rfl ?_
      refine zgP dX9_setInverse_20 fX9_69 y0 rfl y1 ?_
      refine zW_aload_n dX9_setInverse_23 rfl ?_
      refine zcV1 dX9_setInverse_24 rfl eX8_putInverse b803 ⟨by decide, by decide, by decide, by decide⟩ rfl h1.1.1 rfl (by decide) (Nat.le_of_ble_eq_true rfl) (w_putInverse h1 (qr m1) (by omega) (by omega) (by omega) (by omega) (by omega) (fun σ2 h2 n2 => ?_))
      have m2 := Md.tr m1 n2 (fun _ z => z)
      have hC : CI σ2 x A := h.md m2 (fun a z => by unfold wp at z; unfold scr; omega)
      have mx : Mx σ σ2 (xr x) := Md.mx m2 (fun a z => by unfold wp at z; unfold xr; omega)
      obtain ⟨z0, z1, z2, z3, z4, z5, z6, z7, z8, z9, z10, z11, z12, k1, k2, k3, k4⟩ := hC.xk
      refine zW_aload_n dX9_setInverse_27 rfl ?_
      refine zW_iload_n dX9_setInverse_28 rfl ?_
      refine zcV1 dX9_setInverse_29 rfl eX9_storeProduct b1068 ⟨by decide, by decide, by decide, by decide⟩ rfl z0 rfl (by decide) (Nat.le_of_ble_eq_true rfl) (c_storeProduct hC h2 gr9 (fun hl σ9 h9 m9 => ?_) (fun hl m => ?_))
      · rw [if_pos hl] at hQ
        refine zW_ireturn dX9_setInverse_32 rfl rfl (by first | decide | (show _ ≤ (3 : Nat); omega)) (by first | decide | (show _ ≤ (18 : Nat); omega)) ?_
        exact hQ σ9 h9 (mx.tr m9)
      · rw [if_neg hl] at hQ
        exact hQ _ hC.sn (mx.tr Mx.sn)
    · rw [if_neg kr] at hQ
      exact hQ _ h.sn Mx.sn
  · rw [if_neg y] at hQ
    exact hQ _ h.sn Mx.sn
def o_setCommutator (A : AA) (p r s : Int) : Out := if inR8 p then (if inR8 r then (if inR8 s then o_store A p (comw (reg A r) (reg A s)) 2 else (1, 0, A)) else (1, 0, A)) else (1, 0, A)
set_option maxRecDepth 100000 in
theorem c_setCommutator {p r s : Int} (h : CI σ x A) (ip : InR p) (ir : InR r) (is : InR s) (hQ : ∀ σ', CI σ' x (o_setCommutator A p r s).2.2 → Mx σ σ' (xr x) → Q (rs e4 (o_setCommutator A p r s)) σ') : zM Γ mX9_setCommutator [vR (some x), vI p, vI r, vI s] σ Q := by
  obtain ⟨z0, z1, z2, z3, z4, z5, z6, z7, z8, z9, z10, z11, z12, k1, k2, k3, k4⟩ := h.xk
  have hP := h.1.2.2.2.2.2.2.1
  refine zM_of (n := 0) (by decide +kernel) rfl rfl rfl ?_
  unfold o_setCommutator o_store at hQ
  refine zW_iload_n dX9_setCommutator_0 rfl ?_
  refine zW_bipush dX9_setCommutator_1 (by decide) ?_
  refine zcS2 dX9_setCommutator_3 rfl eX9_checkIndex b344 ⟨by decide, by decide, by decide, by decide⟩ rfl (Nat.le_of_ble_eq_true rfl) (c_checkIndex ip (by unfold InR; omega) (fun y1 y2 => ?_) (fun y m => ?_))
  · have gr9 : inR8 p := ⟨y1, y2⟩
    rw [if_pos gr9] at hQ
    refine zW_aload_n dX9_setCommutator_6 rfl ?_
    refine zW_aload_n dX9_setCommutator_7 rfl ?_
    refine zW_iload_n dX9_setCommutator_8 rfl ?_
    refine zcV1 dX9_setCommutator_9 rfl eX9_wordOf b724 ⟨by decide, by decide, by decide, by decide⟩ rfl z0 rfl (by decide) (Nat.le_of_ble_eq_true rfl) (c_wordOf h ir (fun kr => ?_) (fun kr m => ?_))
    · rw [if_pos kr] at hQ
      have wr := h.rw kr
      have tr : r.toNat < 8 := by unfold inR8 at kr; omega
      refine zW_aload_n dX9_setCommutator_12 rfl ?_
      refine zW_iload_n dX9_setCommutator_13 rfl ?_
      refine zcV1 dX9_setCommutator_14 rfl eX9_wordOf b724 ⟨by decide, by decide, by decide, by decide⟩ rfl z0 rfl (by decide) (Nat.le_of_ble_eq_true rfl) (c_wordOf h is (fun ks => ?_) (fun ks m => ?_))
      · rw [if_pos ks] at hQ
        have ws := h.rw ks
        have ts : s.toNat < 8 := by unfold inR8 at ks; omega
        refine zcV2 dX9_setCommutator_17 rfl eX9_makeCommutator b798 ⟨by decide, by decide, by decide, by decide⟩ rfl z0 rfl (by decide) (Nat.le_of_ble_eq_true rfl) (c_makeCommutator h.xk hP wr ws (by omega) (fun σ1 h1 m1 => ?_))
        have hC : CI σ1 x A := h.md m1 (fun a z => by unfold wp at z; unfold scr; omega)
        have mx : Mx σ σ1 (xr x) := Md.mx m1 (fun a z => by unfold wp at z; unfold xr; omega)
        obtain ⟨z0, z1, z2, z3, z4, z5, z6, z7, z8, z9, z10, z11, z12, k1, k2, k3, k4⟩ := hC.xk
        refine zW_aload_n dX9_setCommutator_20 rfl ?_
        refine zW_iload_n dX9_setCommutator_21 rfl ?_
        refine zcV1 dX9_setCommutator_22 rfl eX9_storeProduct b1068 ⟨by decide, by decide, by decide, by decide⟩ rfl z0 rfl (by decide) (Nat.le_of_ble_eq_true rfl) (c_storeProduct hC h1 gr9 (fun hl σ9 h9 m9 => ?_) (fun hl m => ?_))
        · rw [if_pos hl] at hQ
          refine zW_ireturn dX9_setCommutator_25 rfl rfl (by first | decide | (show _ ≤ (4 : Nat); omega)) (by first | decide | (show _ ≤ (24 : Nat); omega)) ?_
          exact hQ σ9 h9 (mx.tr m9)
        · rw [if_neg hl] at hQ
          exact hQ _ hC.sn (mx.tr Mx.sn)
      · rw [if_neg ks] at hQ
        exact hQ _ h.sn Mx.sn
    · rw [if_neg kr] at hQ
      exact hQ _ h.sn Mx.sn
  · rw [if_neg y] at hQ
    exact hQ _ h.sn Mx.sn
end CALCE
