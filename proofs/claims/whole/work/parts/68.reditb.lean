/-! the reference: generating words, undo, save, restore -/
section REDITB
variable {Γ : GG} {σ σ' : HS} {Q : Res → HS → Prop} {y o : Nat} {A A' : AA} {w : List Nat} {t : ST} {B g : Nat}
set_option maxRecDepth 100000 in
theorem sSet_s {ws : List (List Nat)} : sGw (sSet t g ws) g = ws := by
  show (if g = g then _ else _) = _
  rw [if_pos rfl]
set_option maxRecDepth 100000 in
theorem sSet_k {ws : List (List Nat)} {f : Nat} (h : f ≠ g) : sGw (sSet t g ws) f = sGw t f := by
  show (if f = g then _ else _) = _
  rw [if_neg h]
set_option maxRecDepth 100000 in
theorem SR.app (h : SR σ y B t) (hg : g < 2) (hl : (sGw t g).length < 6) (hc : zI σ' (y + 1) (B + 489 + 367 * g) = (((sGw t g).length + 1 : Nat) : Int)) (hw : Rw σ' y (B + 490 + 367 * g + 61 * (sGw t g).length) w) (e : ∀ k, k ≠ B + 489 + 367 * g → (k < B + 490 + 367 * g + 61 * (sGw t g).length ∨ B + 490 + 367 * g + 61 * (sGw t g).length + 61 ≤ k) → zI σ' (y + 1) k = zI σ (y + 1) k) : SR σ' y B (sSet t g (sGw t g ++ [w])) := by
  refine ⟨by rw [e B (by omega) (by omega)]; exact h.1, fun r hr => (h.2.1 r hr).same (fun k k1 k2 => e k (by omega) (by omega)), fun f hf => ?_⟩
  obtain ⟨a1, a2, a3⟩ := h.2.2 f hf
  by_cases eq : f = g
  · subst eq
    rw [sSet_s]
    refine ⟨by rw [List.length_append]; exact hc, by rw [List.length_append]; show _ + 1 ≤ 6; omega, fun k hk => ?_⟩
    rw [List.length_append] at hk
    change k < (sGw t f).length + 1 at hk
    by_cases ek : k = (sGw t f).length
    · subst ek
      have : (sGw t f ++ [w]).getD (sGw t f).length [] = w := by simp
      rw [this]; exact hw
    · have : (sGw t f ++ [w]).getD k [] = (sGw t f).getD k [] := by simp [List.getD_eq_getElem?_getD, List.getElem?_append_left (show k < (sGw t f).length by omega)]
      rw [this]
      exact (a3 k (by omega)).same (fun j j1 j2 => e j (by omega) (by omega))
  · rw [sSet_k eq]
    exact ⟨by rw [e _ (by omega) (by omega)]; exact a1, a2, fun k hk => (a3 k hk).same (fun j j1 j2 => e j (by omega) (by omega))⟩
set_option maxRecDepth 100000 in
theorem SR.era {k : Nat} (h : SR σ y B t) (hg : g < 2) (hk : k < (sGw t g).length) (hc : zI σ' (y + 1) (B + 489 + 367 * g) = (((sGw t g).length - 1 : Nat) : Int)) (e1 : ∀ j, B + 490 + 367 * g + 61 * k ≤ j → j < B + 490 + 367 * g + 61 * ((sGw t g).length - 1) → zI σ' (y + 1) j = zI σ (y + 1) (j + 61)) (e2 : ∀ j, j ≠ B + 489 + 367 * g → (j < B + 490 + 367 * g + 61 * k ∨ B + 490 + 367 * g + 61 * ((sGw t g).length - 1) ≤ j) → zI σ' (y + 1) j = zI σ (y + 1) j) : SR σ' y B (sSet t g ((sGw t g).eraseIdx k)) := by
  have hl6 := (h.2.2 g hg).2.1
  refine ⟨by rw [e2 B (by omega) (by omega)]; exact h.1, fun r hr => (h.2.1 r hr).same (fun j k1 k2 => e2 j (by omega) (by omega)), fun f hf => ?_⟩
  obtain ⟨a1, a2, a3⟩ := h.2.2 f hf
  by_cases eq : f = g
  · subst eq
    rw [sSet_s, List.length_eraseIdx_of_lt hk]
    refine ⟨hc, by omega, fun i hi => ?_⟩
    by_cases ei : i < k
    · have : ((sGw t f).eraseIdx k).getD i [] = (sGw t f).getD i [] := by simp [List.getD_eq_getElem?_getD, List.getElem?_eraseIdx_of_lt ei]
      rw [this]
      exact (a3 i (by omega)).same (fun j j1 j2 => e2 j (by omega) (by omega))
    · have : ((sGw t f).eraseIdx k).getD i [] = (sGw t f).getD (i + 1) [] := by simp [List.getD_eq_getElem?_getD, List.getElem?_eraseIdx_of_ge (show k ≤ i by omega)]
      rw [this]
      refine (a3 (i + 1) (by omega)).move (fun j hj => ?_)
      rw [e1 _ (by omega) (by omega)]
      congr 1
      omega
  · rw [sSet_k eq]
    exact ⟨by rw [e2 _ (by omega) (by omega)]; exact a1, a2, fun i hk => (a3 i hk).same (fun j j1 j2 => e2 j (by omega) (by omega))⟩
/-- the row of states outside the slab at B is as it was -/
def OutS (σ σ' : HS) (y B : Nat) : Prop := ∀ k, (k < B ∨ B + 1223 ≤ k) → zI σ' (y + 1) k = zI σ (y + 1) k
set_option maxRecDepth 100000 in
theorem r_appendsWord {g r : Int} (h : RA σ y o) (hS : SR σ y o t) (fg : inR2 g) (fr : inR8 r) (hl : (sGw t g.toNat).length < 6) (hQ : ∀ σ', SR σ' y o (sSet t g.toNat (sGw t g.toNat ++ [sRg t r.toNat])) → Mr σ σ' y [] [1] → OutS σ σ' y o → Q (.inl none) σ') : zM Γ mX10_appendsWord [vR (some y), vI g, vI r] σ Q := by
  have hg2 : g.toNat < 2 := by unfold inR2 at fg; omega
  have hr8 : r.toNat < 8 := by unfold inR8 at fr; omega
  have hc := (hS.2.2 g.toNat hg2).1
  have hw := hS.2.1 r.toNat hr8
  have ho := h.2.2
  generalize hn : (sGw t g.toNat).length = n at hl hc
  refine zM_of (n := 2) (by decide +kernel) rfl rfl rfl ?_
  have eo : o + (489 + 367 * g.toNat) = o + 489 + 367 * g.toNat := by omega
  have loop : ∀ m i σ1, i + m = 61 → (∀ j, j < i → zI σ1 (y + 1) (o + 490 + 367 * g.toNat + 61 * n + j) = zI σ (y + 1) (o + 1 + 61 * r.toNat + j)) → (∀ j, (j < o + 490 + 367 * g.toNat + 61 * n ∨ o + 490 + 367 * g.toNat + 61 * n + 61 ≤ j) → zI σ1 (y + 1) j = zI σ (y + 1) j) → Mr σ σ1 y [] [1] → zW Γ mX10_appendsWord 12 [some (vR (some y)), some (vI g), some (vI r), some (vI n), some (vI i)] [] σ1 0 0 Q := by
    intro m
    induction m with
    | zero =>
      intro i σ1 hi ha hb m1
      have h1 := h.mr m1
      refine zW_iload dX10_appendsWord_12 rfl ?_
      refine zW_bipush dX10_appendsWord_14 (by decide) ?_
      refine zW_icmp_ge (tgt := 48) dX10_appendsWord_16 (by decide) (by first | assumption | omega | (unfold InR; omega) | (unfold InL; omega) | (simp only [InR] at *; omega)) (by first | assumption | omega | (unfold InR; omega) | (unfold InL; omega) | (simp only [InR] at *; omega)) (fun q => ?_) (fun q => ?_)
      · refine zW_aload_n dX10_appendsWord_48 rfl ?_
        refine zW_iload_n dX10_appendsWord_49 rfl ?_
        refine zcS1 dX10_appendsWord_50 rfl eX10_wordsOf b1462 ⟨by decide, by decide, by decide, by decide⟩ rfl (Nat.le_of_ble_eq_true rfl) (r_wordsOf fg ?_)
        refine zW_iload_n dX10_appendsWord_53 rfl ?_
        refine zW_iconst dX10_appendsWord_54 ?_
        refine zW_iadd dX10_appendsWord_55 ?_
        refine zcV2 dX10_appendsWord_56 rfl eX10_set b1247 ⟨by decide, by decide, by decide, by decide⟩ rfl h1.1.1 rfl (by decide) (Nat.le_of_ble_eq_true rfl) (r_set h1 (by omega) ?_)
        refine zW_return dX10_appendsWord_59 rfl (by first | decide | (show _ ≤ (0 : Nat); omega)) (by first | decide | (show _ ≤ (0 : Nat); omega)) ?_
        have m2 := m1.tr (Mr.I (j := o + (489 + 367 * g.toNat)) (x := (n : Int) + 1) (show 1 ∈ [1] by decide))
        refine hQ _ (hS.app hg2 (by omega) (by rw [hn, eo, zI_sIs]; rfl) ?_ (fun k k1 k2 => ?_)) m2 (fun k hk => ?_)
        · rw [hn]
          refine hw.move (fun k hk => ?_)
          rw [zI_sIk _ _ _ _ (by omega)]
          exact ha k (by omega)
        · rw [hn] at k2
          rw [zI_sIk _ _ _ _ (by omega)]
          exact hb k (by omega)
        · rw [zI_sIk _ _ _ _ (by omega)]
          exact hb k (by omega)
      · exact absurd q (by omega)
    | succ m ih =>
      intro i σ1 hi ha hb m1
      have h1 := h.mr m1
      have e1 : ((490 + 367 * g.toNat + 61 * n : Nat) : Int) + (i : Int) = ((490 + 367 * g.toNat + 61 * n + i : Nat) : Int) := by omega
      have e2 : ((1 + 61 * r.toNat : Nat) : Int) + (i : Int) = ((1 + 61 * r.toNat + i : Nat) : Int) := by omega
      refine zW_iload dX10_appendsWord_12 rfl ?_
      refine zW_bipush dX10_appendsWord_14 (by decide) ?_
      refine zW_icmp_ge (tgt := 48) dX10_appendsWord_16 (by decide) (by first | assumption | omega | (unfold InR; omega) | (unfold InL; omega) | (simp only [InR] at *; omega)) (by first | assumption | omega | (unfold InR; omega) | (unfold InL; omega) | (simp only [InR] at *; omega)) (fun q => ?_) (fun q => ?_)
      · exact absurd q (by omega)
      · refine zW_aload_n dX10_appendsWord_19 rfl ?_
        refine zW_iload_n dX10_appendsWord_20 rfl ?_
        refine zW_iload_n dX10_appendsWord_21 rfl ?_
        refine zcS2 dX10_appendsWord_22 rfl eX10_generating b1469 ⟨by decide, by decide, by decide, by decide⟩ rfl (Nat.le_of_ble_eq_true rfl) (r_generating fg ?_)
        refine zW_iload dX10_appendsWord_25 rfl ?_
        refine zW_iadd dX10_appendsWord_27 ?_
        refine zW_aload_n dX10_appendsWord_28 rfl ?_
        refine zW_iload_n dX10_appendsWord_29 rfl ?_
        refine zcS1 dX10_appendsWord_30 rfl eX10_register b1455 ⟨by decide, by decide, by decide, by decide⟩ rfl (Nat.le_of_ble_eq_true rfl) (r_register fr ?_)
        refine zW_iload dX10_appendsWord_33 rfl ?_
        refine zW_iadd dX10_appendsWord_35 ?_
        rw [e1, e2]
        refine zcV1 dX10_appendsWord_36 rfl eX10_get b1443 ⟨by decide, by decide, by decide, by decide⟩ rfl h1.1.1 rfl (by decide) (Nat.le_of_ble_eq_true rfl) (r_get h1 (by omega) (show _ = zI σ (y + 1) (o + 1 + 61 * r.toNat + i) from by rw [hb _ (by omega)]; congr 1; omega) ?_)
        refine zcV2 dX10_appendsWord_39 rfl eX10_set b1247 ⟨by decide, by decide, by decide, by decide⟩ rfl h1.1.1 rfl (by decide) (Nat.le_of_ble_eq_true rfl) (r_set h1 (by omega) ?_)
        refine zW_iinc dX10_appendsWord_42 rfl (by decide) rfl rfl ?_
        refine zW_goto (tgt := 12) dX10_appendsWord_45 (by decide) ?_
        refine ih (i + 1) _ (by omega) (fun j hj => ?_) (fun j hj => ?_) (m1.tr (Mr.I (by decide)))
        · by_cases e : j = i
          · rw [e, show o + 490 + 367 * g.toNat + 61 * n + i = o + (490 + 367 * g.toNat + 61 * n + i) by omega, zI_sIs]
          · rw [zI_sIk _ _ _ _ (by omega)]; exact ha j (by omega)
        · rw [zI_sIk _ _ _ _ (by omega)]; exact hb j hj
  refine zW_aload_n dX10_appendsWord_0 rfl ?_
  refine zW_iload_n dX10_appendsWord_1 rfl ?_
  refine zcS1 dX10_appendsWord_2 rfl eX10_wordsOf b1462 ⟨by decide, by decide, by decide, by decide⟩ rfl (Nat.le_of_ble_eq_true rfl) (r_wordsOf fg ?_)
  refine zcV1 dX10_appendsWord_5 rfl eX10_get b1443 ⟨by decide, by decide, by decide, by decide⟩ rfl h.1.1 rfl (by decide) (Nat.le_of_ble_eq_true rfl) (r_get h (by omega) (show _ = ((n : Nat) : Int) from by rw [eo]; exact hc) ?_)
  refine zW_istore_n dX10_appendsWord_8 (by decide) rfl rfl ?_
  refine zW_iconst dX10_appendsWord_9 ?_
  refine zW_istore dX10_appendsWord_10 (by decide) rfl rfl ?_
  exact loop 61 0 σ (by omega) (fun j hj => absurd hj (Nat.not_lt_zero j)) (fun j _ => rfl) Mr.rf
set_option maxRecDepth 100000 in
theorem q_addGeneratingWord {g r : Int} (h : RI σ y A) (ig : InR g) (ir : InR r) (hQ : RQ σ y (o_addGeneratingWord A g r) Q) : zM Γ mX10_addGeneratingWord [vR (some y), vI g, vI r] σ Q := by
  refine zM_of (n := 0) (by decide +kernel) rfl rfl rfl ?_
  refine zW_aload_n dX10_addGeneratingWord_0 rfl ?_
  refine zW_iconst dX10_addGeneratingWord_1 ?_
  refine zpI dX10_addGeneratingWord_2 fX10_75 h.1.1 rfl (Or.inl rfl) (zst_int _) ?_
  have m0 : Mr σ (sO σ y 0 0) y KS RS := Mr.O (by decide)
  have h0 := h.mr m0
  have t0 : zO (sO σ y 0 0) y 0 = 0 := zO_sOs _ _ _ _
  generalize sO σ y 0 0 = σ0 at m0 h0 t0 ⊢
  have a0 : RA σ0 y 0 := h0.ra
  have bd : ¬ (inR2 g ∧ inR8 r) → zW Γ mX10_addGeneratingWord 19 [some (vR (some y)), some (vI g), some (vI r)] [] σ0 0 0 Q := by
    intro hno
    have ho : o_addGeneratingWord A g r = (1, 0, A) := by
      unfold o_addGeneratingWord
      by_cases k : 0 ≤ g ∧ g < 2
      · rw [if_pos k, if_neg (fun z => hno ⟨k, z⟩)]
      · rw [if_neg k]
    refine zW_aload_n dX10_addGeneratingWord_19 rfl ?_
    refine zW_iconst dX10_addGeneratingWord_20 ?_
    refine zcV1 dX10_addGeneratingWord_21 rfl eX10_fails b1371 ⟨by decide, by decide, by decide, by decide⟩ rfl a0.1.1 rfl (by decide) (Nat.le_of_ble_eq_true rfl) (r_fails a0.1 ?_)
    refine zW_ireturn dX10_addGeneratingWord_24 rfl rfl (by first | decide | (show _ ≤ (0 : Nat); omega)) (by first | decide | (show _ ≤ (0 : Nat); omega)) ?_
    exact hQ.bad (k := 0) ho h (m0.th (Mr.O (Ks := KS) (Rs := RS) (by decide)) (fun _ z => z) (fun _ z => z)) (zO_sOs _ _ _ _)
  refine zW_iload_n dX10_addGeneratingWord_5 rfl ?_
  refine zcS1 dX10_addGeneratingWord_6 rfl eX10_isSubgroup b1637 ⟨by decide, by decide, by decide, by decide⟩ rfl (Nat.le_of_ble_eq_true rfl) (r_isSubgroup ig (fun fg => ?_) (fun fg => ?_))
  · refine zW_if_eq (tgt := 19) dX10_addGeneratingWord_9 (by decide) (by first | assumption | omega | (unfold InR; omega) | (unfold InL; omega) | (simp only [InR] at *; omega)) (fun q => ?_) (fun q => ?_)
    · exact absurd q (by decide)
    · refine zW_iload_n dX10_addGeneratingWord_12 rfl ?_
      refine zcS1 dX10_addGeneratingWord_13 rfl eX10_isRegister b1492 ⟨by decide, by decide, by decide, by decide⟩ rfl (Nat.le_of_ble_eq_true rfl) (r_isRegister ir (fun fr => ?_) (fun fr => ?_))
      · refine zW_if_ne (tgt := 25) dX10_addGeneratingWord_16 (by decide) (by first | assumption | omega | (unfold InR; omega) | (unfold InL; omega) | (simp only [InR] at *; omega)) (fun q2 => ?_) (fun q2 => ?_)
        · have hg2 : g.toNat < 2 := by unfold inR2 at fg; omega
          have hc := h0.2.2.1.gc hg2
          have hl6 := (h0.2.2.1.2.2 g.toNat hg2).2.1
          refine zW_aload_n dX10_addGeneratingWord_25 rfl ?_
          refine zW_iload_n dX10_addGeneratingWord_26 rfl ?_
          refine zcS1 dX10_addGeneratingWord_27 rfl eX10_wordsOf b1462 ⟨by decide, by decide, by decide, by decide⟩ rfl (Nat.le_of_ble_eq_true rfl) (r_wordsOf fg ?_)
          refine zcV1 dX10_addGeneratingWord_30 rfl eX10_get b1443 ⟨by decide, by decide, by decide, by decide⟩ rfl a0.1.1 rfl (by decide) (Nat.le_of_ble_eq_true rfl) (r_get a0 (by omega) hc ?_)
          refine zW_bipush dX10_addGeneratingWord_33 (by decide) ?_
          refine zW_icmp_ne (tgt := 44) dX10_addGeneratingWord_35 (by decide) (by first | assumption | omega | (unfold InR; omega) | (unfold InL; omega) | (simp only [InR] at *; omega)) (by first | assumption | omega | (unfold InR; omega) | (unfold InL; omega) | (simp only [InR] at *; omega)) (fun q3 => ?_) (fun q3 => ?_)
          · have hl : (sGw (aSt A) g.toNat).length < 6 := by omega
            have ho : o_addGeneratingWord A g r = (0, (((sGw (aSt A) g.toNat).length + 1 : Nat) : Int), aGen A g (sGw (aSt A) g.toNat ++ [reg A r])) := by
              unfold o_addGeneratingWord
              rw [if_pos fg, if_pos fr, if_pos hl]
            refine zW_aload_n dX10_addGeneratingWord_44 rfl ?_
            refine zcV0 dX10_addGeneratingWord_45 rfl eX10_records b1784 ⟨by decide, by decide, by decide, by decide⟩ rfl a0.1.1 rfl (by decide) (Nat.le_of_ble_eq_true rfl) (r_records h0 (fun σ1 h1 m1 => ?_))
            have a1 := h1.ra
            refine zW_aload_n dX10_addGeneratingWord_48 rfl ?_
            refine zW_iload_n dX10_addGeneratingWord_49 rfl ?_
            refine zW_iload_n dX10_addGeneratingWord_50 rfl ?_
            refine zcV2 dX10_addGeneratingWord_51 rfl eX10_appendsWord b1465 ⟨by decide, by decide, by decide, by decide⟩ rfl a1.1.1 rfl (by decide) (Nat.le_of_ble_eq_true rfl) (r_appendsWord a1 h1.2.2.1 fg fr hl (fun σ2 s2 m2 x2 => ?_))
            have h2 : RI σ2 y (aGen A g (sGw (aSt A) g.toNat ++ [reg A r])) := h1.st (m2.wk (by decide) (by decide)) s2 (h1.2.2.2.1.same m2 (fun k k1 k2 => x2 k (by omega))) (fun k k1 k2 => x2 k (by omega))
            have a2 := h2.ra
            have hc2 := h2.2.2.1.gc hg2
            have t2 : zO σ2 y 0 = 0 := by rw [m2.o (by decide), m1.o (by decide)]; exact t0
            refine zW_aload_n dX10_addGeneratingWord_54 rfl ?_
            refine zW_iload_n dX10_addGeneratingWord_55 rfl ?_
            refine zcS1 dX10_addGeneratingWord_56 rfl eX10_wordsOf b1462 ⟨by decide, by decide, by decide, by decide⟩ rfl (Nat.le_of_ble_eq_true rfl) (r_wordsOf fg ?_)
            refine zcV1 dX10_addGeneratingWord_59 rfl eX10_get b1443 ⟨by decide, by decide, by decide, by decide⟩ rfl a2.1.1 rfl (by decide) (Nat.le_of_ble_eq_true rfl) (r_get a2 (by omega) hc2 ?_)
            refine zW_ireturn dX10_addGeneratingWord_62 rfl rfl (by first | decide | (show _ ≤ (0 : Nat); omega)) (by first | decide | (show _ ≤ (0 : Nat); omega)) ?_
            refine hQ.done (ho.trans ?_) h2 (Mr.th (Mr.th (Mr.wk m0 (Ks' := KA) (Rs' := RSA) (by decide) (by decide)) m1 (by decide) (by decide)) m2 (by decide) (by decide)) t2
            have : sGw (aSt (aGen A g (sGw (aSt A) g.toNat ++ [reg A r]))) g.toNat = sGw (aSt A) g.toNat ++ [reg A r] := sSet_s
            rw [this, List.length_append]
            rfl
          · have ho : o_addGeneratingWord A g r = (2, 0, A) := by
              unfold o_addGeneratingWord
              rw [if_pos fg, if_pos fr, if_neg (by omega)]
            refine zW_aload_n dX10_addGeneratingWord_38 rfl ?_
            refine zW_iconst dX10_addGeneratingWord_39 ?_
            refine zcV1 dX10_addGeneratingWord_40 rfl eX10_fails b1371 ⟨by decide, by decide, by decide, by decide⟩ rfl a0.1.1 rfl (by decide) (Nat.le_of_ble_eq_true rfl) (r_fails a0.1 ?_)
            refine zW_ireturn dX10_addGeneratingWord_43 rfl rfl (by first | decide | (show _ ≤ (0 : Nat); omega)) (by first | decide | (show _ ≤ (0 : Nat); omega)) ?_
            exact hQ.bad (k := 1) ho h (m0.th (Mr.O (Ks := KS) (Rs := RS) (by decide)) (fun _ z => z) (fun _ z => z)) (zO_sOs _ _ _ _)
        · exact absurd q2 (by decide)
      · refine zW_if_ne (tgt := 25) dX10_addGeneratingWord_16 (by decide) (by first | assumption | omega | (unfold InR; omega) | (unfold InL; omega) | (simp only [InR] at *; omega)) (fun q2 => ?_) (fun q2 => ?_)
        · exact absurd rfl q2
        · exact bd (fun z => fr z.2)
  · refine zW_if_eq (tgt := 19) dX10_addGeneratingWord_9 (by decide) (by first | assumption | omega | (unfold InR; omega) | (unfold InL; omega) | (simp only [InR] at *; omega)) (fun q => ?_) (fun q => ?_)
    · exact bd (fun z => fg z.1)
    · exact absurd rfl q
set_option maxRecDepth 100000 in
theorem q_removeGeneratingWord {g k : Int} (h : RI σ y A) (ig : InR g) (ik : InR k) (hQ : RQ σ y (o_removeGeneratingWord A g k) Q) : zM Γ mX10_removeGeneratingWord [vR (some y), vI g, vI k] σ Q := by
  refine zM_of (n := 2) (by decide +kernel) rfl rfl rfl ?_
  refine zW_aload_n dX10_removeGeneratingWord_0 rfl ?_
  refine zW_iconst dX10_removeGeneratingWord_1 ?_
  refine zpI dX10_removeGeneratingWord_2 fX10_75 h.1.1 rfl (Or.inl rfl) (zst_int _) ?_
  have m0 : Mr σ (sO σ y 0 0) y KS RS := Mr.O (by decide)
  have h0 := h.mr m0
  have t0 : zO (sO σ y 0 0) y 0 = 0 := zO_sOs _ _ _ _
  generalize sO σ y 0 0 = σ0 at m0 h0 t0 ⊢
  have a0 : RA σ0 y 0 := h0.ra
  have bd : ¬ (inR2 g ∧ 0 ≤ k ∧ k < ((sGw (aSt A) g.toNat).length : Nat)) → zW Γ mX10_removeGeneratingWord 28 [some (vR (some y)), some (vI g), some (vI k), none, none] [] σ0 0 0 Q := by
    intro hno
    have ho : o_removeGeneratingWord A g k = (1, 0, A) := by
      unfold o_removeGeneratingWord
      by_cases c : 0 ≤ g ∧ g < 2
      · rw [if_pos c, if_neg (fun z => hno ⟨c, z⟩)]
      · rw [if_neg c]
    refine zW_aload_n dX10_removeGeneratingWord_28 rfl ?_
    refine zW_iconst dX10_removeGeneratingWord_29 ?_
    refine zcV1 dX10_removeGeneratingWord_30 rfl eX10_fails b1371 ⟨by decide, by decide, by decide, by decide⟩ rfl a0.1.1 rfl (by decide) (Nat.le_of_ble_eq_true rfl) (r_fails a0.1 ?_)
    refine zW_ireturn dX10_removeGeneratingWord_33 rfl rfl (by first | decide | (show _ ≤ (0 : Nat); omega)) (by first | decide | (show _ ≤ (0 : Nat); omega)) ?_
    exact hQ.bad (k := 0) ho h (m0.th (Mr.O (Ks := KS) (Rs := RS) (by decide)) (fun _ z => z) (fun _ z => z)) (zO_sOs _ _ _ _)
  refine zW_iload_n dX10_removeGeneratingWord_5 rfl ?_
  refine zcS1 dX10_removeGeneratingWord_6 rfl eX10_isSubgroup b1637 ⟨by decide, by decide, by decide, by decide⟩ rfl (Nat.le_of_ble_eq_true rfl) (r_isSubgroup ig (fun fg => ?_) (fun fg => ?_))
  · refine zW_if_eq (tgt := 28) dX10_removeGeneratingWord_9 (by decide) (by first | assumption | omega | (unfold InR; omega) | (unfold InL; omega) | (simp only [InR] at *; omega)) (fun q => ?_) (fun q => ?_)
    · exact absurd q (by decide)
    · have hg2 : g.toNat < 2 := by unfold inR2 at fg; omega
      have hc := h0.2.2.1.gc hg2
      have hl6 := (h0.2.2.1.2.2 g.toNat hg2).2.1
      generalize hn : (sGw (aSt A) g.toNat).length = n at hc hl6 bd
      refine zW_iload_n dX10_removeGeneratingWord_12 rfl ?_
      refine zW_if_lt (tgt := 28) dX10_removeGeneratingWord_13 (by decide) (by first | assumption | omega | (unfold InR; omega) | (unfold InL; omega) | (simp only [InR] at *; omega)) (fun q2 => ?_) (fun q2 => ?_)
      · exact bd (by omega)
      · refine zW_iload_n dX10_removeGeneratingWord_16 rfl ?_
        refine zW_aload_n dX10_removeGeneratingWord_17 rfl ?_
        refine zW_iload_n dX10_removeGeneratingWord_18 rfl ?_
        refine zcS1 dX10_removeGeneratingWord_19 rfl eX10_wordsOf b1462 ⟨by decide, by decide, by decide, by decide⟩ rfl (Nat.le_of_ble_eq_true rfl) (r_wordsOf fg ?_)
        refine zcV1 dX10_removeGeneratingWord_22 rfl eX10_get b1443 ⟨by decide, by decide, by decide, by decide⟩ rfl a0.1.1 rfl (by decide) (Nat.le_of_ble_eq_true rfl) (r_get a0 (by omega) hc ?_)
        refine zW_icmp_lt (tgt := 34) dX10_removeGeneratingWord_25 (by decide) (by first | assumption | omega | (unfold InR; omega) | (unfold InL; omega) | (simp only [InR] at *; omega)) (by first | assumption | omega | (unfold InR; omega) | (unfold InL; omega) | (simp only [InR] at *; omega)) (fun q3 => ?_) (fun q3 => ?_)
        · obtain ⟨i, rfl⟩ : ∃ i : Nat, k = (i : Int) := ⟨k.toNat, by omega⟩
          have hi : i < n := by omega
          have en : (n : Int) - 1 = ((n - 1 : Nat) : Int) := by omega
          have ho : o_removeGeneratingWord A g i = (0, ((n - 1 : Nat) : Int), aGen A g ((sGw (aSt A) g.toNat).eraseIdx i)) := by
            unfold o_removeGeneratingWord
            rw [if_pos fg, hn, if_pos ⟨by omega, by omega⟩]
            rfl
          refine zW_aload_n dX10_removeGeneratingWord_34 rfl ?_
          refine zcV0 dX10_removeGeneratingWord_35 rfl eX10_records b1784 ⟨by decide, by decide, by decide, by decide⟩ rfl a0.1.1 rfl (by decide) (Nat.le_of_ble_eq_true rfl) (r_records h0 (fun σ1 h1 m1 => ?_))
          have a1 := h1.ra
          have hc1 := h1.2.2.1.gc hg2
          change _ = (((sGw (aSt A) g.toNat).length : Nat) : Int) at hc1
          rw [hn] at hc1
          refine zW_aload_n dX10_removeGeneratingWord_38 rfl ?_
          refine zW_iload_n dX10_removeGeneratingWord_39 rfl ?_
          refine zcS1 dX10_removeGeneratingWord_40 rfl eX10_wordsOf b1462 ⟨by decide, by decide, by decide, by decide⟩ rfl (Nat.le_of_ble_eq_true rfl) (r_wordsOf fg ?_)
          refine zcV1 dX10_removeGeneratingWord_43 rfl eX10_get b1443 ⟨by decide, by decide, by decide, by decide⟩ rfl a1.1.1 rfl (by decide) (Nat.le_of_ble_eq_true rfl) (r_get a1 (by omega) hc1 ?_)
          refine zW_iconst dX10_removeGeneratingWord_46 ?_
          refine zW_isub dX10_removeGeneratingWord_47 ?_
          rw [en]
          refine zW_istore_n dX10_removeGeneratingWord_48 (by decide) rfl rfl ?_
          refine zW_iload_n dX10_removeGeneratingWord_49 rfl ?_
          refine zW_iload_n dX10_removeGeneratingWord_50 rfl ?_
          refine zcS2 dX10_removeGeneratingWord_51 rfl eX10_generating b1469 ⟨by decide, by decide, by decide, by decide⟩ rfl (Nat.le_of_ble_eq_true rfl) (r_generating fg ?_)
          refine zW_istore dX10_removeGeneratingWord_54 (by decide) rfl rfl ?_
          have loop : ∀ m p σ2, p + m = 490 + 367 * g.toNat + 61 * (n - 1) → 490 + 367 * g.toNat + 61 * i ≤ p → (∀ j, 490 + 367 * g.toNat + 61 * i ≤ j → j < p → zI σ2 (y + 1) j = zI σ1 (y + 1) (j + 61)) → (∀ j, (j < 490 + 367 * g.toNat + 61 * i ∨ p ≤ j) → zI σ2 (y + 1) j = zI σ1 (y + 1) j) → Mr σ1 σ2 y [] [1] → zW Γ mX10_removeGeneratingWord 56 [some (vR (some y)), some (vI g), some (vI i), some (vI ((n - 1 : Nat) : Int)), some (vI p)] [] σ2 0 0 Q := by
            intro m
            induction m with
            | zero =>
              intro p σ2 hp hp2 ea eb m2
              have a2 := a1.mr m2
              refine zW_iload dX10_removeGeneratingWord_56 rfl ?_
              refine zW_iload_n dX10_removeGeneratingWord_58 rfl ?_
              refine zW_iload_n dX10_removeGeneratingWord_59 rfl ?_
              refine zcS2 dX10_removeGeneratingWord_60 rfl eX10_generating b1469 ⟨by decide, by decide, by decide, by decide⟩ rfl (Nat.le_of_ble_eq_true rfl) (r_generating fg ?_)
              refine zW_icmp_ge (tgt := 87) dX10_removeGeneratingWord_63 (by decide) (by first | assumption | omega | (unfold InR; omega) | (unfold InL; omega) | (simp only [InR] at *; omega)) (by first | assumption | omega | (unfold InR; omega) | (unfold InL; omega) | (simp only [InR] at *; omega)) (fun q4 => ?_) (fun q4 => ?_)
              · refine zW_aload_n dX10_removeGeneratingWord_87 rfl ?_
                refine zW_iload_n dX10_removeGeneratingWord_88 rfl ?_
                refine zcS1 dX10_removeGeneratingWord_89 rfl eX10_wordsOf b1462 ⟨by decide, by decide, by decide, by decide⟩ rfl (Nat.le_of_ble_eq_true rfl) (r_wordsOf fg ?_)
                refine zW_iload_n dX10_removeGeneratingWord_92 rfl ?_
                refine zcV2 dX10_removeGeneratingWord_93 rfl eX10_set b1247 ⟨by decide, by decide, by decide, by decide⟩ rfl a2.1.1 rfl (by decide) (Nat.le_of_ble_eq_true rfl) (r_set a2 (by omega) ?_)
                refine zW_iload_n dX10_removeGeneratingWord_96 rfl ?_
                refine zW_ireturn dX10_removeGeneratingWord_97 rfl rfl (by first | decide | (show _ ≤ (0 : Nat); omega)) (by first | decide | (show _ ≤ (0 : Nat); omega)) ?_
                have m3 := m2.tr (Mr.I (j := 0 + (489 + 367 * g.toNat)) (x := ((n - 1 : Nat) : Int)) (show 1 ∈ [1] by decide))
                have eo : 0 + (489 + 367 * g.toNat) = 0 + 489 + 367 * g.toNat := by omega
                have hS1 : SR σ1 y 0 (aSt A) := h1.2.2.1
                have s3 := hS1.era (σ' := sI σ2 (y + 1) (0 + (489 + 367 * g.toNat)) ((n - 1 : Nat) : Int)) (k := i) hg2 (by omega) (by rw [hn, eo, zI_sIs]) (fun j j1 j2 => by rw [hn] at j2; rw [zI_sIk _ _ _ _ (by omega)]; exact ea j (by omega) (by omega)) (fun j j1 j2 => by rw [hn] at j2; rw [zI_sIk _ _ _ _ (by omega)]; exact eb j (by omega))
                have x3 : ∀ j, 1223 ≤ j → zI (sI σ2 (y + 1) (0 + (489 + 367 * g.toNat)) ((n - 1 : Nat) : Int)) (y + 1) j = zI σ1 (y + 1) j := fun j hj => by rw [zI_sIk _ _ _ _ (by omega)]; exact eb j (by omega)
                have h3 : RI _ y (aGen A g ((sGw (aSt A) g.toNat).eraseIdx i)) := h1.st (m3.wk (by decide) (by decide)) s3 (h1.2.2.2.1.same m3 (fun k k1 k2 => x3 k (by omega))) (fun k k1 k2 => x3 k (by omega))
                exact hQ.done ho h3 (Mr.th (Mr.th (Mr.wk m0 (Ks' := KA) (Rs' := RSA) (by decide) (by decide)) m1 (by decide) (by decide)) m3 (by decide) (by decide)) (by rw [m3.o (by decide), m1.o (by decide)]; exact t0)
              · exact absurd q4 (by omega)
            | succ m ih =>
              intro p σ2 hp hp2 ea eb m2
              have a2 := a1.mr m2
              have e9 : (p : Int) + 61 = ((p + 61 : Nat) : Int) := by omega
              refine zW_iload dX10_removeGeneratingWord_56 rfl ?_
              refine zW_iload_n dX10_removeGeneratingWord_58 rfl ?_
              refine zW_iload_n dX10_removeGeneratingWord_59 rfl ?_
              refine zcS2 dX10_removeGeneratingWord_60 rfl eX10_generating b1469 ⟨by decide, by decide, by decide, by decide⟩ rfl (Nat.le_of_ble_eq_true rfl) (r_generating fg ?_)
              refine zW_icmp_ge (tgt := 87) dX10_removeGeneratingWord_63 (by decide) (by first | assumption | omega | (unfold InR; omega) | (unfold InL; omega) | (simp only [InR] at *; omega)) (by first | assumption | omega | (unfold InR; omega) | (unfold InL; omega) | (simp only [InR] at *; omega)) (fun q4 => ?_) (fun q4 => ?_)
              · exact absurd q4 (by omega)
              · refine zW_aload_n dX10_removeGeneratingWord_66 rfl ?_
                refine zW_iload dX10_removeGeneratingWord_67 rfl ?_
                refine zW_aload_n dX10_removeGeneratingWord_69 rfl ?_
                refine zW_iload dX10_removeGeneratingWord_70 rfl ?_
                refine zW_bipush dX10_removeGeneratingWord_72 (by decide) ?_
                refine zW_iadd dX10_removeGeneratingWord_74 ?_
                rw [e9]
                refine zcV1 dX10_removeGeneratingWord_75 rfl eX10_get b1443 ⟨by decide, by decide, by decide, by decide⟩ rfl a2.1.1 rfl (by decide) (Nat.le_of_ble_eq_true rfl) (r_get a2 (by omega) (show _ = zI σ1 (y + 1) (p + 61) from by rw [eb _ (by omega), Nat.zero_add]) ?_)
                refine zcV2 dX10_removeGeneratingWord_78 rfl eX10_set b1247 ⟨by decide, by decide, by decide, by decide⟩ rfl a2.1.1 rfl (by decide) (Nat.le_of_ble_eq_true rfl) (r_set a2 (by omega) ?_)
                refine zW_iinc dX10_removeGeneratingWord_81 rfl (by decide) rfl rfl ?_
                refine zW_goto (tgt := 56) dX10_removeGeneratingWord_84 (by decide) ?_
                refine ih (p + 1) _ (by omega) (by omega) (fun j j1 j2 => ?_) (fun j hj => ?_) (m2.tr (Mr.I (by decide)))
                · by_cases e : j = p
                  · rw [e, Nat.zero_add, zI_sIs]
                  · rw [zI_sIk _ _ _ _ (by omega)]; exact ea j j1 (by omega)
                · rw [zI_sIk _ _ _ _ (by omega)]; exact eb j (by omega)
          exact loop (61 * (n - 1 - i)) (490 + 367 * g.toNat + 61 * i) σ1 (by omega) (Nat.le_refl _) (fun j j1 j2 => absurd j1 (by omega)) (fun j _ => rfl) Mr.rf
        · exact bd (by omega)
  · refine zW_if_eq (tgt := 28) dX10_removeGeneratingWord_9 (by decide) (by first | assumption | omega | (unfold InR; omega) | (unfold InL; omega) | (simp only [InR] at *; omega)) (fun q => ?_) (fun q => ?_)
    · exact bd (fun z => fg z.1)
    · exact absurd rfl q
set_option maxRecDepth 100000 in
theorem sum_le8 {t : ST} (h : ∀ r, r < 8 → (sRg t r).length ≤ 60) : ∀ i, i ≤ 8 → ((List.range i).map (fun r => (sRg t r).length)).sum ≤ 60 * i := by
  intro i
  induction i with
  | zero => exact fun _ => Nat.le_refl _
  | succ i ih =>
    intro hi
    rw [List.range_succ, List.map_append, List.sum_append]
    have := ih (by omega)
    have := h i (by omega)
    simp
    omega
set_option maxRecDepth 100000 in
theorem r_allLetters (h : RA σ y 0) (hS : SR σ y 0 t) (hQ : Q (.inl (some (vI (sumR t : Nat)))) σ) : zM Γ mX10_allLetters [vR (some y)] σ Q := by
  refine zM_of (n := 2) (by decide +kernel) rfl rfl rfl ?_
  have loop : ∀ m i, i + m = 8 → zW Γ mX10_allLetters 4 [some (vR (some y)), some (vI (((List.range i).map (fun r => (sRg t r).length)).sum : Nat)), some (vI i)] [] σ 0 0 Q := by
    intro m
    induction m with
    | zero =>
      intro i hi
      have hi8 : i = 8 := by omega
      subst hi8
      refine zW_iload_n dX10_allLetters_4 rfl ?_
      refine zW_bipush dX10_allLetters_5 (by decide) ?_
      refine zW_icmp_ge (tgt := 27) dX10_allLetters_7 (by decide) (by first | assumption | omega | (unfold InR; omega) | (unfold InL; omega) | (simp only [InR] at *; omega)) (by first | assumption | omega | (unfold InR; omega) | (unfold InL; omega) | (simp only [InR] at *; omega)) (fun q => ?_) (fun q => ?_)
      · refine zW_iload_n dX10_allLetters_27 rfl ?_
        refine zW_ireturn dX10_allLetters_28 rfl rfl (by first | decide | (show _ ≤ (0 : Nat); omega)) (by first | decide | (show _ ≤ (0 : Nat); omega)) ?_
        exact hQ
      · exact absurd q (by decide)
    | succ m ih =>
      intro i hi
      have fr : inR8 (i : Int) := by unfold inR8; omega
      have hw := (hS.2.1 i (by omega)).1
      have hsum := sum_le8 (t := t) (fun r hr => (hS.2.1 r hr).2.1) i (by omega)
      have e9 : (((List.range i).map (fun r => (sRg t r).length)).sum : Nat) + ((sRg t i).length : Int) = ((((List.range (i + 1)).map (fun r => (sRg t r).length)).sum : Nat) : Int) := by
        rw [List.range_succ, List.map_append, List.sum_append]
        simp
      have hl := (hS.2.1 i (by omega)).2.1
      refine zW_iload_n dX10_allLetters_4 rfl ?_
      refine zW_bipush dX10_allLetters_5 (by decide) ?_
      refine zW_icmp_ge (tgt := 27) dX10_allLetters_7 (by decide) (by first | assumption | omega | (unfold InR; omega) | (unfold InL; omega) | (simp only [InR] at *; omega)) (by first | assumption | omega | (unfold InR; omega) | (unfold InL; omega) | (simp only [InR] at *; omega)) (fun q => ?_) (fun q => ?_)
      · exact absurd q (by omega)
      · refine zW_iload_n dX10_allLetters_10 rfl ?_
        refine zW_aload_n dX10_allLetters_11 rfl ?_
        refine zW_iload_n dX10_allLetters_12 rfl ?_
        refine zcS1 dX10_allLetters_13 rfl eX10_register b1455 ⟨by decide, by decide, by decide, by decide⟩ rfl (Nat.le_of_ble_eq_true rfl) (r_register fr ?_)
        refine zcV1 dX10_allLetters_16 rfl eX10_get b1443 ⟨by decide, by decide, by decide, by decide⟩ rfl h.1.1 rfl (by decide) (Nat.le_of_ble_eq_true rfl) (r_get h (by omega) (show _ = ((sRg t i).length : Int) from by rw [← hw]; congr 1; omega) ?_)
        refine zW_iadd dX10_allLetters_19 ?_
        refine zW_istore_n dX10_allLetters_20 (by decide) rfl rfl ?_
        refine zW_iinc dX10_allLetters_21 rfl (by decide) rfl rfl ?_
        refine zW_goto (tgt := 4) dX10_allLetters_24 (by decide) ?_
        rw [e9]
        exact ih (i + 1) (by omega)
  refine zW_iconst dX10_allLetters_0 ?_
  refine zW_istore_n dX10_allLetters_1 (by decide) rfl rfl ?_
  refine zW_iconst dX10_allLetters_2 ?_
  refine zW_istore_n dX10_allLetters_3 (by decide) rfl rfl ?_
  exact loop 8 0 (by omega)
set_option maxRecDepth 100000 in
theorem q_undo (h : RI σ y A) (hQ : RQ σ y (o_undo A) Q) : zM Γ mX10_undo [vR (some y)] σ Q := by
  refine zM_of (n := 0) (by decide +kernel) rfl rfl rfl ?_
  refine zW_aload_n dX10_undo_0 rfl ?_
  refine zW_iconst dX10_undo_1 ?_
  refine zpI dX10_undo_2 fX10_75 h.1.1 rfl (Or.inl rfl) (zst_int _) ?_
  have m0 : Mr σ (sO σ y 0 0) y KS RS := Mr.O (by decide)
  have h0 := h.mr m0
  have t0 : zO (sO σ y 0 0) y 0 = 0 := zO_sOs _ _ _ _
  generalize sO σ y 0 0 = σ0 at m0 h0 t0 ⊢
  have a0 : RA σ0 y 0 := h0.ra
  obtain ⟨hl, hc, f, f1, f2, f3⟩ := id h0.2.2.2.1
  have hS0 := h0.2.2.1
  generalize hn : (aHi A).length = n at hl hc f3
  refine zW_aload_n dX10_undo_5 rfl ?_
  refine zgI dX10_undo_6 fX10_84 a0.1.1 rfl hc ?_
  cases hA : aHi A with
  | nil =>
    have ho : o_undo A = (1, 0, A) := by unfold o_undo; rw [hA]
    have hz : n = 0 := by rw [← hn, hA]; rfl
    refine zW_if_ne (tgt := 18) dX10_undo_9 (by decide) (by first | assumption | omega | (unfold InR; omega) | (unfold InL; omega) | (simp only [InR] at *; omega)) (fun q => ?_) (fun q => ?_)
    · exact absurd hz (by omega)
    · refine zW_aload_n dX10_undo_12 rfl ?_
      refine zW_iconst dX10_undo_13 ?_
      refine zcV1 dX10_undo_14 rfl eX10_fails b1371 ⟨by decide, by decide, by decide, by decide⟩ rfl a0.1.1 rfl (by decide) (Nat.le_of_ble_eq_true rfl) (r_fails a0.1 ?_)
      refine zW_ireturn dX10_undo_17 rfl rfl (by first | decide | (show _ ≤ (0 : Nat); omega)) (by first | decide | (show _ ≤ (0 : Nat); omega)) ?_
      exact hQ.bad (k := 0) ho h (m0.th (Mr.O (Ks := KS) (Rs := RS) (by decide)) (fun _ z => z) (fun _ z => z)) (zO_sOs _ _ _ _)
  | cons z hi =>
    have ho : o_undo A = (0, ((hi.length : Nat) : Int), aWith A z hi) := by unfold o_undo; rw [hA]
    have hz : n = hi.length + 1 := by rw [← hn, hA]; rfl
    subst hz
    have em : ((f : Int) + (hi.length : Int)) % 8 = (((f + hi.length) % 8 : Nat) : Int) := by omega
    have e2 : ((hi.length + 1 : Nat) : Int) - 1 = (hi.length : Int) := by omega
    have e3 : (1 : Int) + (((f + hi.length) % 8 : Nat) : Int) = ((1 + (f + hi.length) % 8 : Nat) : Int) := by omega
    have hm8 : (f + hi.length) % 8 < 8 := Nat.mod_lt _ (by decide)
    refine zW_if_ne (tgt := 18) dX10_undo_9 (by decide) (by first | assumption | omega | (unfold InR; omega) | (unfold InL; omega) | (simp only [InR] at *; omega)) (fun q => ?_) (fun q => ?_)
    · refine zW_aload_n dX10_undo_18 rfl ?_
      refine zW_dup dX10_undo_19 rfl ?_
      refine zgI dX10_undo_20 fX10_84 a0.1.1 rfl hc ?_
      refine zW_iconst dX10_undo_23 ?_
      refine zW_isub dX10_undo_24 ?_
      rw [e2]
      refine zpI dX10_undo_25 fX10_84 a0.1.1 rfl (Or.inl rfl) (zst_int _) ?_
      have m1 : Mr σ0 (sO σ0 y 3 (hi.length : Int)) y [3, 4] [] := Mr.O (by decide)
      have n1 : zO (sO σ0 y 3 (hi.length : Int)) y 3 = (hi.length : Int) := zO_sOs _ _ _ _
      have g1 : zO (sO σ0 y 3 (hi.length : Int)) y 4 = (f : Int) := by rw [zO_sOk _ _ _ _ (by omega)]; exact f2
      generalize sO σ0 y 3 (hi.length : Int) = σ1 at m1 n1 g1 ⊢
      have k1 := a0.1.mr m1
      have x1 := m1.i (i := 1) (by decide)
      refine zW_aload_n dX10_undo_28 rfl ?_
      refine zW_iconst dX10_undo_29 ?_
      refine zW_aload_n dX10_undo_30 rfl ?_
      refine zgI dX10_undo_31 fX10_81 k1.1 rfl g1 ?_
      refine zW_aload_n dX10_undo_34 rfl ?_
      refine zgI dX10_undo_35 fX10_84 k1.1 rfl n1 ?_
      refine zW_iadd dX10_undo_38 ?_
      refine zW_bipush dX10_undo_39 (by decide) ?_
      refine zW_irem dX10_undo_41 (by first | assumption | omega | (unfold InR; omega) | (unfold InL; omega) | (simp only [InR] at *; omega)) (by first | assumption | omega | (unfold InR; omega) | (unfold InL; omega) | (simp only [InR] at *; omega)) (by first | assumption | omega | (unfold InR; omega) | (unfold InL; omega) | (simp only [InR] at *; omega)) (by first | assumption | omega | (unfold InR; omega) | (unfold InL; omega) | (simp only [InR] at *; omega)) ?_
      rw [em]
      refine zW_iadd dX10_undo_42 ?_
      rw [e3]
      refine zW_iconst dX10_undo_43 ?_
      refine zcV2 dX10_undo_44 rfl eX10_copies b1472 ⟨by decide, by decide, by decide, by decide⟩ rfl k1.1 rfl (by decide) (Nat.le_of_ble_eq_true rfl) (r_copies (f := 1 + (f + hi.length) % 8) (t := 0) k1 (by omega) (by omega) (by omega) (fun σ2 c1 c2 m2 => ?_))
      have m12 : Mr σ0 σ2 y [3, 4] [1] := (m1.wk (Ks' := [3, 4]) (Rs' := [1]) (by decide) (by decide)).th m2 (by decide) (by decide)
      rw [x1] at c1 c2
      have k2 := k1.mr m2
      have n2 : zO σ2 y 3 = (hi.length : Int) := by rw [m2.o (by decide)]; exact n1
      have g2 : zO σ2 y 4 = (f : Int) := by rw [m2.o (by decide)]; exact g1
      have hz0 := f3 0 z (by rw [hA]; rfl)
      rw [show f + (hi.length + 1) - 1 - 0 = f + hi.length by omega] at hz0
      have hS2 : SR σ2 y 0 z := hz0.move (fun k hk => by have := c1 k hk; rw [Nat.mul_zero] at this; exact this)
      have h2 : RI σ2 y (aWith A z hi) := by
        refine h0.st m12 hS2 ⟨by omega, n2, f, f1, g2, fun i u hu => ?_⟩ (fun k k1 k2 => c2 k (by omega))
        have hi9 := (List.getElem?_eq_some_iff.mp hu).1
        have := f3 (i + 1) u (by rw [hA]; exact hu)
        rw [show f + (hi.length + 1) - 1 - (i + 1) = f + hi.length - 1 - i by omega] at this
        exact this.same (fun k k1 k2 => c2 k (by omega))
      refine zW_aload_n dX10_undo_47 rfl ?_
      refine zgI dX10_undo_48 fX10_84 k2.1 rfl n2 ?_
      refine zW_ireturn dX10_undo_51 rfl rfl (by first | decide | (show _ ≤ (0 : Nat); omega)) (by first | decide | (show _ ≤ (0 : Nat); omega)) ?_
      exact hQ.done ho h2 (Mr.th (Mr.wk m0 (Ks' := KA) (Rs' := RSA) (by decide) (by decide)) m12 (by decide) (by decide)) (by rw [m12.o (by decide)]; exact t0)
    · exact absurd q (by omega)
set_option maxRecDepth 100000 in
theorem q_save (h : RI σ y A) (hQ : RQ σ y (o_save A) Q) : zM Γ mX10_save [vR (some y)] σ Q := by
  refine zM_of (n := 0) (by decide +kernel) rfl rfl rfl ?_
  refine zW_aload_n dX10_save_0 rfl ?_
  refine zW_iconst dX10_save_1 ?_
  refine zpI dX10_save_2 fX10_75 h.1.1 rfl (Or.inl rfl) (zst_int _) ?_
  have m0 : Mr σ (sO σ y 0 0) y KS RS := Mr.O (by decide)
  have h0 := h.mr m0
  have t0 : zO (sO σ y 0 0) y 0 = 0 := zO_sOs _ _ _ _
  generalize sO σ y 0 0 = σ0 at m0 h0 t0 ⊢
  have a0 : RA σ0 y 0 := h0.ra
  refine zW_aload_n dX10_save_5 rfl ?_
  refine zW_iconst dX10_save_6 ?_
  refine zW_bipush dX10_save_7 (by decide) ?_
  refine zcV2 dX10_save_9 rfl eX10_copies b1472 ⟨by decide, by decide, by decide, by decide⟩ rfl a0.1.1 rfl (by decide) (Nat.le_of_ble_eq_true rfl) (r_copies (f := 0) (t := 9) a0.1 (by omega) (by omega) (by omega) (fun σ1 c1 c2 m1 => ?_))
  have k1 := a0.1.mr m1
  refine zW_aload_n dX10_save_12 rfl ?_
  refine zW_iconst dX10_save_13 ?_
  refine zpI dX10_save_14 fX10_287 k1.1 rfl (Or.inl rfl) zst_1 ?_
  have m2 : Mr σ0 (sO σ1 y 5 1) y [5] [1] := Mr.tr (m1.wk (by decide) (by decide)) (Mr.O (by decide))
  have n2 : zO (sO σ1 y 5 1) y 5 = 1 := zO_sOs _ _ _ _
  have i2 : zI (sO σ1 y 5 1) = zI σ1 := rfl
  generalize sO σ1 y 5 1 = σ2 at m2 n2 i2 ⊢
  rw [← i2] at c1 c2
  obtain ⟨a1, a2, a3, a4, a5, a6, a7, a8⟩ := id h0
  have e0 : ∀ {B t}, B + 1223 ≤ 11007 → SR σ0 y B t → SR σ2 y B t := fun hB h => h.same (fun k _ _ => c2 k (by omega))
  have hS9 : SR σ2 y 11007 (aSt A) := a3.move (fun k hk => by have := c1 k hk; rw [Nat.mul_zero] at this; exact this)
  have h2 : RI σ2 y (aWsv A (some (aSt A))) := by
    refine ⟨a1.mr m2, by rw [m2.o (by decide)]; exact a2, e0 (by omega) a3, ⟨a4.1, by rw [m2.o (by decide)]; exact a4.2.1, ?_⟩, ⟨n2, fun t ht => by rw [← Option.some.inj ht]; exact hS9⟩, ⟨by rw [m2.o (by decide)]; exact a6.1, a6.2.1, fun i hi => by rw [m2.i (by decide)]; exact a6.2.2.1 i hi, a6.2.2.2⟩, ⟨by rw [m2.o (by decide)]; exact a7.1, by rw [m2.o (by decide)]; exact a7.2⟩, ⟨by rw [m2.o (by decide)]; exact a8.1, a8.2.1, fun i hi => by rw [m2.i (by decide)]; exact a8.2.2.1 i hi, a8.2.2.2⟩⟩
    obtain ⟨f, f1, f2, f3⟩ := a4.2.2
    refine ⟨f, f1, by rw [m2.o (by decide)]; exact f2, fun i t ht => e0 ?_ (f3 i t ht)⟩
    have : (f + (aHi A).length - 1 - i) % 8 < 8 := Nat.mod_lt _ (by decide)
    omega
  refine zW_aload_n dX10_save_17 rfl ?_
  refine zcV0 dX10_save_18 rfl eX10_allLetters b1839 ⟨by decide, by decide, by decide, by decide⟩ rfl h2.1.1 rfl (by decide) (Nat.le_of_ble_eq_true rfl) (r_allLetters h2.ra h2.2.2.1 ?_)
  refine zW_ireturn dX10_save_21 rfl rfl (by first | decide | (show _ ≤ (0 : Nat); omega)) (by first | decide | (show _ ≤ (0 : Nat); omega)) ?_
  exact hQ.done rfl h2 (Mr.th (Mr.wk m0 (Ks' := KA) (Rs' := RSA) (by decide) (by decide)) m2 (by decide) (by decide)) (by rw [m2.o (by decide)]; exact t0)
set_option maxRecDepth 100000 in
theorem q_restore (h : RI σ y A) (hQ : RQ σ y (o_restore A) Q) : zM Γ mX10_restore [vR (some y)] σ Q := by
  refine zM_of (n := 0) (by decide +kernel) rfl rfl rfl ?_
  refine zW_aload_n dX10_restore_0 rfl ?_
  refine zW_iconst dX10_restore_1 ?_
  refine zpI dX10_restore_2 fX10_75 h.1.1 rfl (Or.inl rfl) (zst_int _) ?_
  have m0 : Mr σ (sO σ y 0 0) y KS RS := Mr.O (by decide)
  have h0 := h.mr m0
  have t0 : zO (sO σ y 0 0) y 0 = 0 := zO_sOs _ _ _ _
  generalize sO σ y 0 0 = σ0 at m0 h0 t0 ⊢
  have a0 : RA σ0 y 0 := h0.ra
  have hV := h0.2.2.2.2.1
  cases hA : aSv A with
  | none =>
    have ho : o_restore A = (1, 0, A) := by unfold o_restore; rw [hA]
    rw [hA] at hV
    have hv : zO σ0 y 5 = 0 := hV.1
    refine zW_aload_n dX10_restore_5 rfl ?_
    refine zgI dX10_restore_6 fX10_287 a0.1.1 rfl hv ?_
    refine zW_if_ne (tgt := 18) dX10_restore_9 (by decide) (by first | assumption | omega | (unfold InR; omega) | (unfold InL; omega) | (simp only [InR] at *; omega)) (fun q => ?_) (fun q => ?_)
    · exact absurd rfl q
    · refine zW_aload_n dX10_restore_12 rfl ?_
      refine zW_iconst dX10_restore_13 ?_
      refine zcV1 dX10_restore_14 rfl eX10_fails b1371 ⟨by decide, by decide, by decide, by decide⟩ rfl a0.1.1 rfl (by decide) (Nat.le_of_ble_eq_true rfl) (r_fails a0.1 ?_)
      refine zW_ireturn dX10_restore_17 rfl rfl (by first | decide | (show _ ≤ (0 : Nat); omega)) (by first | decide | (show _ ≤ (0 : Nat); omega)) ?_
      exact hQ.bad (k := 0) ho h (m0.th (Mr.O (Ks := KS) (Rs := RS) (by decide)) (fun _ z => z) (fun _ z => z)) (zO_sOs _ _ _ _)
  | some t =>
    have ho : o_restore A = (0, ((sumR t : Nat) : Int), aWith A t (aHist A)) := by unfold o_restore; rw [hA]; rfl
    rw [hA] at hV
    have hv : zO σ0 y 5 = 1 := hV.1
    refine zW_aload_n dX10_restore_5 rfl ?_
    refine zgI dX10_restore_6 fX10_287 a0.1.1 rfl hv ?_
    refine zW_if_ne (tgt := 18) dX10_restore_9 (by decide) (by first | assumption | omega | (unfold InR; omega) | (unfold InL; omega) | (simp only [InR] at *; omega)) (fun q => ?_) (fun q => ?_)
    · refine zW_aload_n dX10_restore_18 rfl ?_
      refine zcV0 dX10_restore_19 rfl eX10_records b1784 ⟨by decide, by decide, by decide, by decide⟩ rfl a0.1.1 rfl (by decide) (Nat.le_of_ble_eq_true rfl) (r_records h0 (fun σ1 h1 m1 => ?_))
      have a1 := h1.ra
      have hT : SR σ1 y 11007 t := h1.2.2.2.2.1.2 t hA
      refine zW_aload_n dX10_restore_22 rfl ?_
      refine zW_bipush dX10_restore_23 (by decide) ?_
      refine zW_iconst dX10_restore_25 ?_
      refine zcV2 dX10_restore_26 rfl eX10_copies b1472 ⟨by decide, by decide, by decide, by decide⟩ rfl a1.1.1 rfl (by decide) (Nat.le_of_ble_eq_true rfl) (r_copies (f := 9) (t := 0) a1.1 (by omega) (by omega) (by omega) (fun σ2 c1 c2 m2 => ?_))
      have hS2 : SR σ2 y 0 t := hT.move (fun k hk => by have := c1 k hk; rw [Nat.mul_zero] at this; exact this)
      have h2 : RI σ2 y (aWith A t (aHist A)) := h1.st (m2.wk (by decide) (by decide)) hS2 (h1.2.2.2.1.same m2 (fun k k1 k2 => c2 k (by omega))) (fun k k1 k2 => c2 k (by omega))
      refine zW_aload_n dX10_restore_29 rfl ?_
      refine zcV0 dX10_restore_30 rfl eX10_allLetters b1839 ⟨by decide, by decide, by decide, by decide⟩ rfl h2.1.1 rfl (by decide) (Nat.le_of_ble_eq_true rfl) (r_allLetters h2.ra h2.2.2.1 ?_)
      refine zW_ireturn dX10_restore_33 rfl rfl (by first | decide | (show _ ≤ (0 : Nat); omega)) (by first | decide | (show _ ≤ (0 : Nat); omega)) ?_
      exact hQ.done ho h2 (Mr.th (Mr.th (Mr.wk m0 (Ks' := KA) (Rs' := RSA) (by decide) (by decide)) m1 (by decide) (by decide)) m2 (by decide) (by decide)) (by rw [m2.o (by decide), m1.o (by decide)]; exact t0)
    · exact absurd q (by decide)
end REDITB
