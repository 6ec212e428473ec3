/-! Parser: items, statements, the whole text -/
def pi3 (q : Nat) : Nat → Prop := fun a => a = q ∨ a = q + 45 ∨ a = q + 46
set_option maxRecDepth 100000 in
theorem pi_pp {q a : Nat} (h : pi3 q a) : pp q a := by unfold pi3 at h; unfold pp; omega
set_option maxRecDepth 100000 in
theorem qq_pi {q a : Nat} (h : qq q a) : pi3 q a := Or.inl h
set_option maxRecDepth 100000 in
theorem wp_pi {q a : Nat} (h : wp (q + 45) (q + 46) a) : pi3 q a := Or.inr h
def isTok (tx : Nat → Nat) (n m : Nat) (t : Nat × Nat × Nat) : Prop := ∃ p, m ≤ p ∧ p ≤ n ∧ t = tok tx n p
set_option maxRecDepth 100000 in
theorem isTok.le {tx : Nat → Nat} {n m : Nat} {t : Nat × Nat × Nat} (h : isTok tx n m t) : m ≤ t.2.1 ∧ t.2.1 ≤ t.2.2 ∧ t.2.2 ≤ n ∧ t.1 ≤ 4 ∧ (t.1 ≠ 0 → t.2.1 < t.2.2) ∧ (t.1 = 1 → t.2.2 - t.2.1 ≤ 60) ∧ (t.1 = 2 → t.2.2 - t.2.1 ≤ 2 ∧ ∀ i, t.2.1 ≤ i → i < t.2.2 → isDg (tx i) = true) := by
  obtain ⟨p, h1, h2, h3⟩ := h
  have := tok_le (tx := tx) h2
  rw [← h3] at this
  exact ⟨by omega, this.2⟩
set_option maxRecDepth 100000 in
theorem isTok.nx {tx : Nat → Nat} {n m : Nat} {t : Nat × Nat × Nat} (h : isTok tx n m t) (h0 : t.1 ≠ 0) : isTok tx n (m + 1) (tok tx n t.2.2) := by
  have := h.le
  exact ⟨t.2.2, by have := this.2.2.2.2.1 h0; omega, this.2.2.1, rfl⟩
set_option maxRecDepth 100000 in
theorem isTok.ex {tx : Nat → Nat} {n m : Nat} {t : Nat × Nat × Nat} (h : isTok tx n m t) : ∃ p, p ≤ n ∧ t = tok tx n p := by
  obtain ⟨p, h1, h2, h3⟩ := h
  exact ⟨p, h2, h3⟩
set_option maxRecDepth 100000 in
/-- a register is set -/
theorem SD.set {σ σ' : HS} {s r : Nat} {x : ST} {w : List Nat} (h : SD σ s x) (hr : r < 8) (m : Md σ σ' (wp (s + 4 + 2 * r) (s + 5 + 2 * r))) (hw : SW σ' s r w) : SD σ' s (sReg x r w) := by
  refine ⟨h.1.md m, ?_, fun k hk => ?_, fun g hg => ⟨?_, (h.2.2.2 g hg).2.1, fun k hk => ((h.2.2.2 g hg).2.2 k hk).keep m ?_⟩⟩
  · rw [m.o (by unfold wp; omega)]; exact h.2.1
  · show SW σ' s k (if k = r then w else sRg x k)
    by_cases e : k = r
    · rw [if_pos e, e]; exact hw
    · rw [if_neg e]; exact (h.rg hk).keep m e
  · rw [m.i (by unfold wp; omega)]; exact (h.2.2.2 g hg).1
  · have := (h.2.2.2 g hg).2.1
    omega
section PARSER2
variable {Γ : GG} {σ : HS} {Q : Res → HS → Prop} {q inp n : Nat} {tx : Nat → Nat}
set_option maxRecDepth 100000 in
theorem p_multiplyByToken {t : Nat × Nat × Nat} {r : Nat} {w : List Nat} (h : PT σ q inp n tx t) (ht : isTok tx n 0 t) (h1 : t.1 = 1) (hr : zO σ (q + 1) 3 = (r : Int)) (hr4 : r ≤ 4) (hw : Wd σ (q + 45) (q + 46) 120 w) (hl : w.length ≤ 60)
    (hb : ∀ σ', tokl tx r t = false → Md σ σ' (wp (q + 45) (q + 46)) → Q (.inl (some (vI 0))) σ') (hg : ∀ σ', tokl tx r t = true → Wd σ' (q + 45) (q + 46) 120 (pws w (tcds tx r t)) → Md σ σ' (wp (q + 45) (q + 46)) → Q (.inl (some (vI 1))) σ') : zM Γ mX6_multiplyByToken [vR (some q)] σ Q := by
  obtain ⟨l1, l2, l3, l4, l5, l6, l7⟩ := ht.le
  have l8 := l6 h1
  have hn6 := h.1.2.2.2.2.2.2.2.1
  refine zM_of (n := 2) (by decide +kernel) rfl rfl rfl ?_
  have loop : ∀ m j σ1, j + m = t.2.2 - t.2.1 → (∀ i, i < j → cob (tx (t.2.1 + i)) r ≠ -1) → Wd σ1 (q + 45) (q + 46) 120 (pws w ((tcds tx r t).take j)) → Md σ σ1 (wp (q + 45) (q + 46)) → ∀ z, zW Γ mX6_multiplyByToken 5 [some (vR (some q)), some (vI (t.2.1 + j : Nat)), z] [] σ1 0 0 Q := by
    intro m
    induction m with
    | zero =>
      intro j σ1 hj hok hw1 m1 z
      obtain ⟨hS, k6, k7, k8, k2, k3⟩ := h.md m1 (by unfold wp; omega) (by have := h.1.2.2.2.2.2.2.2.2.2.1; unfold wp; omega)
      obtain ⟨a1, a2, a3, a4, a5, a6, a7, a8, a9, a10, a11⟩ := id hS
      refine zW_iload_n dX6_multiplyByToken_5 rfl ?_
      refine zW_aload_n dX6_multiplyByToken_6 rfl ?_
      refine zgI dX6_multiplyByToken_7 fX6_47 a1 rfl k8 ?_
      refine zW_icmp_ge (tgt := 51) dX6_multiplyByToken_10 (by decide) (by first | assumption | omega | (unfold InR; omega) | (unfold InL; omega) | (simp only [InR] at *; omega)) (by first | assumption | omega | (unfold InR; omega) | (unfold InL; omega) | (simp only [InR] at *; omega)) (fun g => ?_) (fun g => ?_)
      · refine zW_iconst dX6_multiplyByToken_51 ?_
        refine zW_ireturn dX6_multiplyByToken_52 rfl rfl (by first | decide | (show _ ≤ (0 : Nat); omega)) (by first | decide | (show _ ≤ (0 : Nat); omega)) ?_
        have e : (tcds tx r t).take j = tcds tx r t := List.take_of_length_le (by unfold tcds; rw [List.length_map, List.length_range]; omega)
        rw [e] at hw1
        refine hg σ1 ?_ hw1 m1
        unfold tokl
        rw [List.all_eq_true]
        intro i hi
        rw [decide_eq_true_iff]
        exact hok i (by have := List.mem_range.mp hi; omega)
      · exact absurd g (by omega)
    | succ m ih =>
      intro j σ1 hj hok hw1 m1 z
      obtain ⟨hS, k6, k7, k8, k2, k3⟩ := h.md m1 (by unfold wp; omega) (by have := h.1.2.2.2.2.2.2.2.2.2.1; unfold wp; omega)
      obtain ⟨a1, a2, a3, a4, a5, a6, a7, a8, a9, a10, a11⟩ := id hS
      obtain ⟨x1, x2⟩ := a11 (t.2.1 + j) (by omega)
      have hr1 : zO σ1 (q + 1) 3 = (r : Int) := by rw [m1.o (by unfold wp; omega)]; exact hr
      have hcl := cob_lt (y := tx (t.2.1 + j)) (r := r)
      refine zW_iload_n dX6_multiplyByToken_5 rfl ?_
      refine zW_aload_n dX6_multiplyByToken_6 rfl ?_
      refine zgI dX6_multiplyByToken_7 fX6_47 a1 rfl k8 ?_
      refine zW_icmp_ge (tgt := 51) dX6_multiplyByToken_10 (by decide) (by first | assumption | omega | (unfold InR; omega) | (unfold InL; omega) | (simp only [InR] at *; omega)) (by first | assumption | omega | (unfold InR; omega) | (unfold InL; omega) | (simp only [InR] at *; omega)) (fun g => ?_) (fun g => ?_)
      · exact absurd g (by omega)
      · refine zW_aload_n dX6_multiplyByToken_13 rfl ?_
        refine zgP dX6_multiplyByToken_14 fX6_34 a1 rfl a6 ?_
        refine zW_iload_n dX6_multiplyByToken_17 rfl ?_
        refine zrI dX6_multiplyByToken_18 a7 (by first | assumption | omega | (unfold InR; omega) | (unfold InL; omega) | (simp only [InR] at *; omega)) (by first | assumption | omega | (unfold InR; omega) | (unfold InL; omega) | (simp only [InR] at *; omega)) (by first | assumption | omega | (unfold InR; omega) | (unfold InL; omega) | (simp only [InR] at *; omega)) x1 ?_
        refine zW_aload_n dX6_multiplyByToken_19 rfl ?_
        refine zgP dX6_multiplyByToken_20 fX6_12 a1 rfl a2 ?_
        refine zgI dX6_multiplyByToken_23 fX6_125 a4.1 rfl hr1 ?_
        refine zcSN2 dX6_multiplyByToken_26 rfl eX9_codeOfByte (host := RX9) (by decide +kernel) ⟨by decide, by decide, by decide, by decide⟩ rfl (Nat.le_of_ble_eq_true rfl) (x_codeOfByte x2 hr4 ?_)
        refine zW_istore_n dX6_multiplyByToken_29 (by decide) rfl rfl ?_
        refine zW_iload_n dX6_multiplyByToken_30 rfl ?_
        refine zW_iconst dX6_multiplyByToken_31 ?_
        refine zW_icmp_ne (tgt := 37) dX6_multiplyByToken_32 (by decide) (by first | assumption | omega | (unfold InR; omega) | (unfold InL; omega) | (simp only [InR] at *; omega)) (by first | assumption | omega | (unfold InR; omega) | (unfold InL; omega) | (simp only [InR] at *; omega)) (fun g2 => ?_) (fun g2 => ?_)
        · have e1 : cob (tx (t.2.1 + j)) r = (((cob (tx (t.2.1 + j)) r).toNat : Nat) : Int) := by omega
          have hx8 : (cob (tx (t.2.1 + j)) r).toNat < 8 := by omega
          have hlen := pws_len ((tcds tx r t).take j) w
          have hlt : ((tcds tx r t).take j).length ≤ j := by rw [List.length_take]; omega
          have et : (tcds tx r t).take (j + 1) = (tcds tx r t).take j ++ [(cob (tx (t.2.1 + j)) r).toNat] := by
            rw [List.take_add_one]
            congr 1
            unfold tcds
            rw [List.getElem?_map, List.getElem?_range (by omega)]
            rfl
          rw [e1]
          refine zW_aload_n dX6_multiplyByToken_37 rfl ?_
          refine zgP dX6_multiplyByToken_38 fX6_23 a1 rfl a3 ?_
          refine zW_iload_n dX6_multiplyByToken_41 rfl ?_
          refine zcV1 dX6_multiplyByToken_42 rfl eX8_put b693 ⟨by decide, by decide, by decide, by decide⟩ rfl hw1.1.1 rfl (by decide) (Nat.le_of_ble_eq_true rfl) (w_put hw1 hx8 (by omega) (fun σ2 hw2 m2 => ?_))
          refine zW_iinc dX6_multiplyByToken_45 rfl (by decide) rfl rfl ?_
          refine zW_goto (tgt := 5) dX6_multiplyByToken_48 (by decide) ?_
          rw [show pw (pws w ((tcds tx r t).take j)) (cob (tx (t.2.1 + j)) r).toNat = pws w ((tcds tx r t).take (j + 1)) by rw [et, pws_app]; rfl] at hw2
          refine ih (j + 1) σ2 (by omega) (fun i hi => ?_) hw2 (m1.tr m2 (fun _ z => z)) _
          by_cases e : i = j
          · rw [e]; exact g2
          · exact hok i (by omega)
        · refine zW_iconst dX6_multiplyByToken_35 ?_
          refine zW_ireturn dX6_multiplyByToken_36 rfl rfl (by first | decide | (show _ ≤ (0 : Nat); omega)) (by first | decide | (show _ ≤ (0 : Nat); omega)) ?_
          refine hb σ1 ?_ m1
          unfold tokl
          rw [List.all_eq_false]
          exact ⟨j, List.mem_range.mpr (by omega), by rw [decide_eq_true_iff]; exact fun z => z g2⟩
  obtain ⟨hS, k6, k7, k8, k2, k3⟩ := id h
  obtain ⟨a1, a2, a3, a4, a5, a6, a7, a8, a9, a10, a11⟩ := id hS
  refine zW_aload_n dX6_multiplyByToken_0 rfl ?_
  refine zgI dX6_multiplyByToken_1 fX6_118 a1 rfl k7 ?_
  refine zW_istore_n dX6_multiplyByToken_4 (by decide) rfl rfl ?_
  exact loop (t.2.2 - t.2.1) 0 σ (by omega) (fun i hi => absurd hi (by omega)) hw Md.rf _
set_option maxRecDepth 100000 in
theorem p_readItem {t : Nat × Nat × Nat} {r m0 : Nat} {w : List Nat} (h : PT σ q inp n tx t) (ht : isTok tx n m0 t) (hr : zO σ (q + 1) 3 = (r : Int)) (hr4 : r ≤ 4) (hw : Wd σ (q + 45) (q + 46) 120 w) (hl : w.length ≤ 60)
    (h0 : ∀ e σ', itm1 tx r t w = .inl e → PE σ' q inp n tx e → Md σ σ' (pi3 q) → Q (.inl (some (vI 0))) σ') (h1 : ∀ w' σ', itm1 tx r t w = .inr w' → t.1 ≠ 0 → w'.length ≤ 60 → PT σ' q inp n tx (tok tx n t.2.2) → Wd σ' (q + 45) (q + 46) 120 w' → Md σ σ' (pi3 q) → Q (.inl (some (vI 1))) σ') : zM Γ mX6_readItem [vR (some q)] σ Q := by
  obtain ⟨l1, l2, l3, l4, l5, l6, l7⟩ := ht.le
  obtain ⟨hS, k6, k7, k8, k2, k3⟩ := id h
  obtain ⟨a1, a2, a3, a4, a5, a6, a7, a8, a9, a10, a11⟩ := id hS
  refine zM_of (n := 0) (by decide +kernel) rfl rfl rfl ?_
  have fin : ∀ σ1 w', PT σ1 q inp n tx t → t.1 ≠ 0 → Wd σ1 (q + 45) (q + 46) 120 w' → w'.length ≤ 60 → itm1 tx r t w = .inr w' → Md σ σ1 (pi3 q) → zW Γ mX6_readItem 86 [some (vR (some q))] [] σ1 0 0 Q := by
    intro σ1 w' hP hk hw' hl' he m1
    refine zW_aload_n dX6_readItem_86 rfl ?_
    refine zcV0 dX6_readItem_87 rfl eX6_advance b581 ⟨by decide, by decide, by decide, by decide⟩ rfl hP.1.1 rfl (by decide) (Nat.le_of_ble_eq_true rfl) (p_advance hP l3 (fun σ2 hP2 m2 => ?_))
    refine zW_iconst dX6_readItem_90 ?_
    refine zW_ireturn dX6_readItem_91 rfl rfl (by first | decide | (show _ ≤ (0 : Nat); omega)) (by first | decide | (show _ ≤ (0 : Nat); omega)) ?_
    exact h1 w' σ2 he hk hl' hP2 (hw'.md m2 (by unfold qq; omega) (by unfold qq; omega)) (m1.tr m2 (fun _ z => qq_pi z))
  unfold itm1 at h0 h1 fin
  refine zW_aload_n dX6_readItem_0 rfl ?_
  refine zgI dX6_readItem_1 fX6_57 a1 rfl k6 ?_
  refine zW_iconst dX6_readItem_4 ?_
  refine zW_icmp_ne (tgt := 41) dX6_readItem_5 (by decide) (by first | assumption | omega | (unfold InR; omega) | (unfold InL; omega) | (simp only [InR] at *; omega)) (by first | assumption | omega | (unfold InR; omega) | (unfold InL; omega) | (simp only [InR] at *; omega)) (fun g => ?_) (fun g => ?_)
  · rw [if_neg (by omega)] at h0 h1 fin
    refine zW_aload_n dX6_readItem_41 rfl ?_
    refine zgI dX6_readItem_42 fX6_57 a1 rfl k6 ?_
    refine zW_iconst dX6_readItem_45 ?_
    refine zW_icmp_eq (tgt := 55) dX6_readItem_46 (by decide) (by first | assumption | omega | (unfold InR; omega) | (unfold InL; omega) | (simp only [InR] at *; omega)) (by first | assumption | omega | (unfold InR; omega) | (unfold InL; omega) | (simp only [InR] at *; omega)) (fun g2 => ?_) (fun g2 => ?_)
    · have g2' : t.1 = 1 := by omega
      rw [if_neg (by omega)] at h0 h1 fin
      refine zW_aload_n dX6_readItem_55 rfl ?_
      have ht0 : isTok tx n 0 t := by obtain ⟨p, p1, p2, p3⟩ := ht; exact ⟨p, Nat.zero_le _, p2, p3⟩
      have hinp : ∀ {σ1}, Md σ σ1 (wp (q + 45) (q + 46)) → PT σ1 q inp n tx t := fun m1 => h.md m1 (by unfold wp; omega) (by unfold wp; omega)
      refine zcV0 dX6_readItem_56 rfl eX6_multiplyByToken b686 ⟨by decide, by decide, by decide, by decide⟩ rfl a1 rfl (by decide) (Nat.le_of_ble_eq_true rfl) (p_multiplyByToken h ht0 g2' hr hr4 hw hl (fun σ1 hc m1 => ?_) (fun σ1 hc hw1 m1 => ?_))
      · refine zW_if_ne (tgt := 68) dX6_readItem_59 (by decide) (by first | assumption | omega | (unfold InR; omega) | (unfold InL; omega) | (simp only [InR] at *; omega)) (fun g3 => ?_) (fun g3 => ?_)
        · exact absurd rfl g3
        · rw [if_pos hc] at h0
          have hP1 := hinp m1
          refine zW_aload_n dX6_readItem_62 rfl ?_
          refine zW_iconst dX6_readItem_63 ?_
          refine zcV1 dX6_readItem_64 rfl eX6_fail b648 ⟨by decide, by decide, by decide, by decide⟩ rfl hP1.1.1 rfl (by decide) (Nat.le_of_ble_eq_true rfl) (p_fail (k := 3) hP1 (fun σ2 hE m2 => ?_))
          refine zW_ireturn dX6_readItem_67 rfl rfl (by first | decide | (show _ ≤ (0 : Nat); omega)) (by first | decide | (show _ ≤ (0 : Nat); omega)) ?_
          exact h0 _ σ2 rfl hE ((m1.wk (P' := pi3 q) (fun _ z => wp_pi z)).tr m2 (fun _ z => qq_pi z))
      · refine zW_if_ne (tgt := 68) dX6_readItem_59 (by decide) (by first | assumption | omega | (unfold InR; omega) | (unfold InL; omega) | (simp only [InR] at *; omega)) (fun g3 => ?_) (fun g3 => ?_)
        · rw [if_neg (by rw [hc]; decide)] at h0 h1 fin
          have hP1 := hinp m1
          obtain ⟨b1, b2, b3, -⟩ := id hP1.1
          have hcap := hw1.cap
          refine zW_aload_n dX6_readItem_68 rfl ?_
          refine zgP dX6_readItem_69 fX6_23 b1 rfl b3 ?_
          refine zgI dX6_readItem_72 fX6_124 hw1.1.1 rfl hw1.2.1 ?_
          refine zW_bipush dX6_readItem_75 (by decide) ?_
          refine zW_icmp_le (tgt := 86) dX6_readItem_77 (by decide) (by first | assumption | omega | (unfold InR; omega) | (unfold InL; omega) | (simp only [InR] at *; omega)) (by first | assumption | omega | (unfold InR; omega) | (unfold InL; omega) | (simp only [InR] at *; omega)) (fun g4 => ?_) (fun g4 => ?_)
          · rw [if_neg (by omega)] at fin
            exact fin σ1 _ hP1 (by omega) hw1 (by omega) rfl (m1.wk (fun _ z => wp_pi z))
          · rw [if_pos (by omega)] at h0
            refine zW_aload_n dX6_readItem_80 rfl ?_
            refine zW_iconst dX6_readItem_81 ?_
            refine zcV1 dX6_readItem_82 rfl eX6_fail b648 ⟨by decide, by decide, by decide, by decide⟩ rfl hP1.1.1 rfl (by decide) (Nat.le_of_ble_eq_true rfl) (p_fail (k := 4) hP1 (fun σ2 hE m2 => ?_))
            refine zW_ireturn dX6_readItem_85 rfl rfl (by first | decide | (show _ ≤ (0 : Nat); omega)) (by first | decide | (show _ ≤ (0 : Nat); omega)) ?_
            exact h0 _ σ2 rfl hE ((m1.wk (P' := pi3 q) (fun _ z => wp_pi z)).tr m2 (fun _ z => qq_pi z))
        · exact absurd g3 (by decide)
    · rw [if_pos (by omega)] at h0
      refine zW_aload_n dX6_readItem_49 rfl ?_
      refine zW_iconst dX6_readItem_50 ?_
      refine zcV1 dX6_readItem_51 rfl eX6_fail b648 ⟨by decide, by decide, by decide, by decide⟩ rfl a1 rfl (by decide) (Nat.le_of_ble_eq_true rfl) (p_fail (k := 1) h (fun σ2 hE m2 => ?_))
      refine zW_ireturn dX6_readItem_54 rfl rfl (by first | decide | (show _ ≤ (0 : Nat); omega)) (by first | decide | (show _ ≤ (0 : Nat); omega)) ?_
      exact h0 _ σ2 rfl hE (m2.wk (fun _ z => qq_pi z))
  · have g' : t.1 = 2 := by omega
    rw [if_pos g'] at h0 h1 fin
    have hlt := l5 (by omega)
    have bad : ¬ (t.2.2 - t.2.1 = 1 ∧ tx t.2.1 = 49) → zW Γ mX6_readItem 35 [some (vR (some q))] [] σ 0 0 Q := by
      intro hz
      rw [if_neg hz] at h0
      refine zW_aload_n dX6_readItem_35 rfl ?_
      refine zW_iconst dX6_readItem_36 ?_
      refine zcV1 dX6_readItem_37 rfl eX6_fail b648 ⟨by decide, by decide, by decide, by decide⟩ rfl a1 rfl (by decide) (Nat.le_of_ble_eq_true rfl) (p_fail (k := 1) h (fun σ2 hE m2 => ?_))
      refine zW_ireturn dX6_readItem_40 rfl rfl (by first | decide | (show _ ≤ (0 : Nat); omega)) (by first | decide | (show _ ≤ (0 : Nat); omega)) ?_
      exact h0 _ σ2 rfl hE (m2.wk (fun _ z => qq_pi z))
    refine zW_aload_n dX6_readItem_8 rfl ?_
    refine zgI dX6_readItem_9 fX6_47 a1 rfl k8 ?_
    refine zW_aload_n dX6_readItem_12 rfl ?_
    refine zgI dX6_readItem_13 fX6_118 a1 rfl k7 ?_
    refine zW_isub dX6_readItem_16 ?_
    refine zW_iconst dX6_readItem_17 ?_
    refine zW_icmp_ne (tgt := 35) dX6_readItem_18 (by decide) (by first | assumption | omega | (unfold InR; omega) | (unfold InL; omega) | (simp only [InR] at *; omega)) (by first | assumption | omega | (unfold InR; omega) | (unfold InL; omega) | (simp only [InR] at *; omega)) (fun g2 => ?_) (fun g2 => ?_)
    · exact bad (fun z => by omega)
    · obtain ⟨x1, x2⟩ := a11 t.2.1 (by omega)
      refine zW_aload_n dX6_readItem_21 rfl ?_
      refine zgP dX6_readItem_22 fX6_34 a1 rfl a6 ?_
      refine zW_aload_n dX6_readItem_25 rfl ?_
      refine zgI dX6_readItem_26 fX6_118 a1 rfl k7 ?_
      refine zrI dX6_readItem_29 a7 (by first | assumption | omega | (unfold InR; omega) | (unfold InL; omega) | (simp only [InR] at *; omega)) (by first | assumption | omega | (unfold InR; omega) | (unfold InL; omega) | (simp only [InR] at *; omega)) (by first | assumption | omega | (unfold InR; omega) | (unfold InL; omega) | (simp only [InR] at *; omega)) x1 ?_
      refine zW_bipush dX6_readItem_30 (by decide) ?_
      refine zW_icmp_eq (tgt := 86) dX6_readItem_32 (by decide) (by first | assumption | omega | (unfold InR; omega) | (unfold InL; omega) | (simp only [InR] at *; omega)) (by first | assumption | omega | (unfold InR; omega) | (unfold InL; omega) | (simp only [InR] at *; omega)) (fun g3 => ?_) (fun g3 => ?_)
      · rw [if_pos (by omega)] at fin
        exact fin σ w h (by omega) hw hl rfl Md.rf
      · exact bad (fun z => by omega)
set_option maxRecDepth 100000 in
theorem p_readSemicolon {t : Nat × Nat × Nat} {m0 : Nat} (h : PT σ q inp n tx t) (ht : isTok tx n m0 t) (h0 : ∀ σ', t.1 ≠ 3 → PE σ' q inp n tx (1, t.2.1) → Md σ σ' (qq q) → Q (.inl (some (vI 0))) σ') (h1 : ∀ σ', t.1 = 3 → PT σ' q inp n tx (tok tx n t.2.2) → Md σ σ' (qq q) → Q (.inl (some (vI 1))) σ') : zM Γ mX6_readSemicolon [vR (some q)] σ Q := by
  obtain ⟨l1, l2, l3, l4, l5, l6, l7⟩ := ht.le
  obtain ⟨hS, k6, k7, k8, k2, k3⟩ := id h
  obtain ⟨a1, a2, a3, a4, a5, a6, a7, a8, a9, a10, a11⟩ := id hS
  refine zM_of (n := 0) (by decide +kernel) rfl rfl rfl ?_
  refine zW_aload_n dX6_readSemicolon_0 rfl ?_
  refine zgI dX6_readSemicolon_1 fX6_57 a1 rfl k6 ?_
  refine zW_iconst dX6_readSemicolon_4 ?_
  refine zW_icmp_eq (tgt := 14) dX6_readSemicolon_5 (by decide) (by first | assumption | omega | (unfold InR; omega) | (unfold InL; omega) | (simp only [InR] at *; omega)) (by first | assumption | omega | (unfold InR; omega) | (unfold InL; omega) | (simp only [InR] at *; omega)) (fun g => ?_) (fun g => ?_)
  · refine zW_aload_n dX6_readSemicolon_14 rfl ?_
    refine zcV0 dX6_readSemicolon_15 rfl eX6_advance b581 ⟨by decide, by decide, by decide, by decide⟩ rfl a1 rfl (by decide) (Nat.le_of_ble_eq_true rfl) (p_advance h l3 (fun σ2 hP2 m2 => ?_))
    refine zW_iconst dX6_readSemicolon_18 ?_
    refine zW_ireturn dX6_readSemicolon_19 rfl rfl (by first | decide | (show _ ≤ (0 : Nat); omega)) (by first | decide | (show _ ≤ (0 : Nat); omega)) ?_
    exact h1 σ2 (by omega) hP2 m2
  · refine zW_aload_n dX6_readSemicolon_8 rfl ?_
    refine zW_iconst dX6_readSemicolon_9 ?_
    refine zcV1 dX6_readSemicolon_10 rfl eX6_fail b648 ⟨by decide, by decide, by decide, by decide⟩ rfl a1 rfl (by decide) (Nat.le_of_ble_eq_true rfl) (p_fail (k := 1) h (fun σ2 hE m2 => ?_))
    refine zW_ireturn dX6_readSemicolon_13 rfl rfl (by first | decide | (show _ ≤ (0 : Nat); omega)) (by first | decide | (show _ ≤ (0 : Nat); omega)) ?_
    exact h0 σ2 (by omega) hE m2
set_option maxRecDepth 100000 in
theorem SD.pj {x : ST} {σ' : HS} (h : SD σ (q + 1) x) (m : Md σ σ' (pi3 q)) : SD σ' (q + 1) x := h.md m (fun a z z' => by unfold sp at z; unfold pi3 at z'; omega)
set_option maxRecDepth 100000 in
theorem p_readSet {t : Nat × Nat × Nat} {x : ST} {m0 : Nat} (h : PT σ q inp n tx t) (ht : isTok tx n m0 t) (hx : SD σ (q + 1) x) (hr4 : sRk x ≤ 4)
    (h0 : ∀ e σ', stmS tx n x t = .inl e → PE σ' q inp n tx e → Md σ σ' (pp q) → Q (.inl (some (vI 0))) σ') (h1 : ∀ x' t' σ', stmS tx n x t = .inr (x', t') → sRk x' = sRk x → isTok tx n (m0 + 1) t' → PT σ' q inp n tx t' → SD σ' (q + 1) x' → Md σ σ' (pp q) → Q (.inl (some (vI 1))) σ') : zM Γ mX6_readSet [vR (some q)] σ Q := by
  obtain ⟨l1, l2, l3, l4, l5, l6, l7⟩ := ht.le
  obtain ⟨hS, k6, k7, k8, k2, k3⟩ := id h
  obtain ⟨a1, a2, a3, a4, a5, a6, a7, a8, a9, a10, a11⟩ := id hS
  have hn6 : n ≤ 600 := a8
  refine zM_of (n := 2) (by decide +kernel) rfl rfl rfl ?_
  unfold stmS at h0 h1
  refine zW_aload_n dX6_readSet_0 rfl ?_
  refine zW_iconst dX6_readSet_1 ?_
  refine zW_bipush dX6_readSet_2 (by decide) ?_
  refine zcV2 dX6_readSet_4 rfl eX6_isNumberIn b652 ⟨by decide, by decide, by decide, by decide⟩ rfl a1 rfl (by decide) (Nat.le_of_ble_eq_true rfl) (p_isNumberIn (lo := 0) (hi := 7) h ht.ex (by omega) (by omega) (fun e σ1 he hE m1 => ?_) (fun g1 g2 g3 => ?_))
  · refine zW_if_ne (tgt := 12) dX6_readSet_7 (by decide) (by first | assumption | omega | (unfold InR; omega) | (unfold InL; omega) | (simp only [InR] at *; omega)) (fun g => ?_) (fun g => ?_)
    · exact absurd rfl g
    · refine zW_iconst dX6_readSet_10 ?_
      refine zW_ireturn dX6_readSet_11 rfl rfl (by first | decide | (show _ ≤ (0 : Nat); omega)) (by first | decide | (show _ ≤ (0 : Nat); omega)) ?_
      refine h0 e σ1 ?_ hE (m1.wk (fun _ z => qq_pp z))
      split at he
      · rename_i z
        rw [if_pos z]
        exact congrArg Sum.inl (Option.some.inj he)
      · rename_i z
        rw [if_neg z]
        split at he
        · rename_i z2
          rw [if_pos (by omega)]
          exact congrArg Sum.inl (Option.some.inj he)
        · cases he
  · refine zW_if_ne (tgt := 12) dX6_readSet_7 (by decide) (by first | assumption | omega | (unfold InR; omega) | (unfold InL; omega) | (simp only [InR] at *; omega)) (fun g => ?_) (fun g => ?_)
    · rw [if_neg (fun z => z g1), if_neg (by omega)] at h0 h1
      obtain ⟨l8, l9⟩ := l7 g1
      have hT1 := ht.nx (show t.1 ≠ 0 by omega)
      refine zW_aload_n dX6_readSet_12 rfl ?_
      refine zcV0 dX6_readSet_13 rfl eX6_numberValue b656 ⟨by decide, by decide, by decide, by decide⟩ rfl a1 rfl (by decide) (Nat.le_of_ble_eq_true rfl) (p_numberValue h g1 l3 l2 l8 l9 (fun hb => ?_))
      refine zW_istore_n dX6_readSet_16 (by decide) rfl rfl ?_
      refine zW_aload_n dX6_readSet_17 rfl ?_
      refine zcV0 dX6_readSet_18 rfl eX6_advance b581 ⟨by decide, by decide, by decide, by decide⟩ rfl a1 rfl (by decide) (Nat.le_of_ble_eq_true rfl) (p_advance h l3 (fun σ1 hP1 m1 => ?_))
      obtain ⟨b1, b2, b3, b4, b5, -⟩ := id hP1.1
      refine zW_aload_n dX6_readSet_21 rfl ?_
      refine zgP dX6_readSet_22 fX6_23 b1 rfl b3 ?_
      refine zcV0 dX6_readSet_25 rfl eX8_clear b681 ⟨by decide, by decide, by decide, by decide⟩ rfl b5.1 rfl (by decide) (Nat.le_of_ble_eq_true rfl) (w_clear b5 (fun σ2 hw2 m2 => ?_))
      refine zW_aload_n dX6_readSet_28 rfl ?_
      have m12 : Md σ σ2 (pi3 q) := (m1.wk (P' := pi3 q) (fun _ z => qq_pi z)).tr m2 (fun _ z => wp_pi z)
      have hP2 : PT σ2 q inp n tx (tok tx n t.2.2) := hP1.md m2 (by unfold wp; omega) (by unfold wp; omega)
      have hx2 := SD.pj hx m12
      refine zcV0 dX6_readSet_29 rfl eX6_readItem b682 ⟨by decide, by decide, by decide, by decide⟩ rfl hP2.1.1 rfl (by decide) (Nat.le_of_ble_eq_true rfl) (p_readItem hP2 hT1 hx2.2.1 hr4 hw2 (Nat.zero_le _) (fun e σ3 he hE m3 => ?_) (fun w3 σ3 he hk3 hl3 hP3 hw3 m3 => ?_))
      · rw [he] at h0
        refine zW_if_ne (tgt := 37) dX6_readSet_32 (by decide) (by first | assumption | omega | (unfold InR; omega) | (unfold InL; omega) | (simp only [InR] at *; omega)) (fun g4 => ?_) (fun g4 => ?_)
        · exact absurd rfl g4
        · refine zW_iconst dX6_readSet_35 ?_
          refine zW_ireturn dX6_readSet_36 rfl rfl (by first | decide | (show _ ≤ (0 : Nat); omega)) (by first | decide | (show _ ≤ (0 : Nat); omega)) ?_
          exact h0 e σ3 rfl hE ((m12.tr m3 (fun _ z => z)).wk (fun _ z => pi_pp z))
      · rw [he] at h0 h1
        have hT2 := hT1.nx hk3
        change ∀ e σ', (match itm tx n (sRk x) 700 (tok tx n (tok tx n t.2.2).2.2) w3 with | .inl e => (.inl e : PEr ⊕ (ST × (Nat × Nat × Nat))) | .inr (w', t') => .inr (sReg x (tnum tx t) w', tok tx n t'.2.2)) = .inl e → PE σ' q inp n tx e → Md σ σ' (pp q) → Q (.inl (some (vI 0))) σ' at h0
        change ∀ x' t' σ', (match itm tx n (sRk x) 700 (tok tx n (tok tx n t.2.2).2.2) w3 with | .inl e => (.inl e : PEr ⊕ (ST × (Nat × Nat × Nat))) | .inr (w', t') => .inr (sReg x (tnum tx t) w', tok tx n t'.2.2)) = .inr (x', t') → sRk x' = sRk x → isTok tx n (m0 + 1) t' → PT σ' q inp n tx t' → SD σ' (q + 1) x' → Md σ σ' (pp q) → Q (.inl (some (vI 1))) σ' at h1
        generalize hR : itm tx n (sRk x) 700 (tok tx n (tok tx n t.2.2).2.2) w3 = R at h0 h1
        have loop : ∀ m i σ4 t4 w4, m + i = 601 → isTok tx n (m0 + 2 + i) t4 → PT σ4 q inp n tx t4 → Wd σ4 (q + 45) (q + 46) 120 w4 → w4.length ≤ 60 → Md σ σ4 (pi3 q) → itm tx n (sRk x) (700 - i) t4 w4 = R → zW Γ mX6_readSet 39 [some (vR (some q)), some (vI (tnum tx t)), some (vI i)] [] σ4 0 0 Q := by
          intro m
          induction m with
          | zero =>
            intro i σ4 t4 w4 hm hT4 hP4 hw4 hl4 m4 hR4
            have := hT4.le
            omega
          | succ m ih =>
            intro i σ4 t4 w4 hm hT4 hP4 hw4 hl4 m4 hR4
            have hle4 := hT4.le
            obtain ⟨c1, c2, c3, c4, c5, -⟩ := id hP4.1
            have hx4 := SD.pj hx m4
            obtain ⟨s0, s1, s2, s3, s4, s5, s6, s7, s8, s9⟩ := id hx4.1
            have hf : 700 - i = (700 - i - 1) + 1 := by omega
            rw [hf] at hR4
            have hR5 : (if t4.1 = 3 then .inr (w4, t4) else match itm1 tx (sRk x) t4 w4 with | .inl e => .inl e | .inr w' => itm tx n (sRk x) (700 - i - 1) (tok tx n t4.2.2) w') = R := hR4
            have k64 := hP4.2.1
            refine zW_iload_n dX6_readSet_39 rfl ?_
            refine zW_sipush dX6_readSet_40 (by decide) ?_
            refine zW_icmp_ge (tgt := 69) dX6_readSet_43 (by decide) (by first | assumption | omega | (unfold InR; omega) | (unfold InL; omega) | (simp only [InR] at *; omega)) (by first | assumption | omega | (unfold InR; omega) | (unfold InL; omega) | (simp only [InR] at *; omega)) (fun g5 => ?_) (fun g5 => ?_)
            · exact absurd g5 (by omega)
            · refine zW_aload_n dX6_readSet_46 rfl ?_
              refine zgI dX6_readSet_47 fX6_57 c1 rfl k64 ?_
              refine zW_iconst dX6_readSet_50 ?_
              refine zW_icmp_eq (tgt := 69) dX6_readSet_51 (by decide) (by first | assumption | omega | (unfold InR; omega) | (unfold InL; omega) | (simp only [InR] at *; omega)) (by first | assumption | omega | (unfold InR; omega) | (unfold InL; omega) | (simp only [InR] at *; omega)) (fun g6 => ?_) (fun g6 => ?_)
              · rw [if_pos (by omega)] at hR5
                rw [← hR5] at h1
                have hw := s9 (tnum tx t) (by omega)
                refine zW_aload_n dX6_readSet_69 rfl ?_
                refine zgP dX6_readSet_70 fX6_12 c1 rfl c2 ?_
                refine zgP dX6_readSet_73 fX6_103 s0 rfl s1 ?_
                refine zW_iload_n dX6_readSet_76 rfl ?_
                refine zrP dX6_readSet_77 s4 (by decide) (by decide) (by first | assumption | omega | (unfold InR; omega) | (unfold InL; omega) | (simp only [InR] at *; omega)) (by first | assumption | omega | (unfold InR; omega) | (unfold InL; omega) | (simp only [InR] at *; omega)) (by first | assumption | omega | (unfold InR; omega) | (unfold InL; omega) | (simp only [InR] at *; omega)) (s7 (tnum tx t) (by omega)) ?_
                refine zW_aload_n dX6_readSet_78 rfl ?_
                refine zgP dX6_readSet_79 fX6_23 c1 rfl c3 ?_
                refine zcV1 dX6_readSet_82 rfl eX8_copyFrom b697 ⟨by decide, by decide, by decide, by decide⟩ rfl hw.1 rfl (by decide) (Nat.le_of_ble_eq_true rfl) (w_copyFrom hw hw4 (by omega) (by omega) (by omega) (by omega) (by omega) hl4 (fun σ5 hw5 m5 => ?_))
                have hx5 : SD σ5 (q + 1) (sReg x (tnum tx t) w4) := hx4.set (by omega) m5 hw5
                have hP5 : PT σ5 q inp n tx t4 := hP4.md m5 (by unfold wp; omega) (by unfold wp; omega)
                have m45 : Md σ σ5 (pp q) := (m4.wk (P' := pp q) (fun _ z => pi_pp z)).tr m5 (fun a z => by unfold wp at z; unfold pp; omega)
                refine zW_aload_n dX6_readSet_85 rfl ?_
                refine zcV0 dX6_readSet_86 rfl eX6_readSemicolon b660 ⟨by decide, by decide, by decide, by decide⟩ rfl hP5.1.1 rfl (by decide) (Nat.le_of_ble_eq_true rfl) (p_readSemicolon hP5 hT4 (fun σ6 z _ _ => absurd (by omega : t4.1 = 3) z) (fun σ6 z hP6 m6 => ?_))
                refine zW_ireturn dX6_readSet_89 rfl rfl (by first | decide | (show _ ≤ (0 : Nat); omega)) (by first | decide | (show _ ≤ (0 : Nat); omega)) ?_
                refine h1 _ _ σ6 rfl rfl ?_ hP6 (hx5.md m6 (fun a z z' => by unfold sp at z; unfold qq at z'; omega)) (m45.tr m6 (fun _ z => qq_pp z))
                obtain ⟨p6, z1, z2, z3⟩ := hT4.nx (show t4.1 ≠ 0 by omega)
                exact ⟨p6, by omega, z2, z3⟩
              · rw [if_neg (by omega)] at hR5
                refine zW_aload_n dX6_readSet_54 rfl ?_
                refine zcV0 dX6_readSet_55 rfl eX6_readItem b682 ⟨by decide, by decide, by decide, by decide⟩ rfl c1 rfl (by decide) (Nat.le_of_ble_eq_true rfl) (p_readItem hP4 hT4 hx4.2.1 hr4 hw4 hl4 (fun e σ5 he hE m5 => ?_) (fun w5 σ5 he hk5 hl5 hP5 hw5 m5 => ?_))
                · rw [he] at hR5
                  rw [← hR5] at h0
                  refine zW_if_ne (tgt := 63) dX6_readSet_58 (by decide) (by first | assumption | omega | (unfold InR; omega) | (unfold InL; omega) | (simp only [InR] at *; omega)) (fun g7 => ?_) (fun g7 => ?_)
                  · exact absurd rfl g7
                  · refine zW_iconst dX6_readSet_61 ?_
                    refine zW_ireturn dX6_readSet_62 rfl rfl (by first | decide | (show _ ≤ (0 : Nat); omega)) (by first | decide | (show _ ≤ (0 : Nat); omega)) ?_
                    exact h0 e σ5 rfl hE ((m4.tr m5 (fun _ z => z)).wk (fun _ z => pi_pp z))
                · rw [he] at hR5
                  refine zW_if_ne (tgt := 63) dX6_readSet_58 (by decide) (by first | assumption | omega | (unfold InR; omega) | (unfold InL; omega) | (simp only [InR] at *; omega)) (fun g7 => ?_) (fun g7 => ?_)
                  · refine zW_iinc dX6_readSet_63 rfl (by decide) rfl rfl ?_
                    refine zW_goto (tgt := 39) dX6_readSet_66 (by decide) ?_
                    have hT5 := hT4.nx hk5
                    refine ih (i + 1) σ5 _ w5 (by omega) hT5 hP5 hw5 hl5 (m4.tr m5 (fun _ z => z)) ?_
                    rw [show 700 - (i + 1) = 700 - i - 1 by omega]
                    exact hR5
                  · exact absurd g7 (by decide)
        refine zW_if_ne (tgt := 37) dX6_readSet_32 (by decide) (by first | assumption | omega | (unfold InR; omega) | (unfold InL; omega) | (simp only [InR] at *; omega)) (fun g4 => ?_) (fun g4 => ?_)
        · refine zW_iconst dX6_readSet_37 ?_
          refine zW_istore_n dX6_readSet_38 (by decide) rfl rfl ?_
          exact loop 601 0 σ3 _ w3 rfl hT2 hP3 hw3 hl3 (m12.tr m3 (fun _ z => z)) hR
        · exact absurd g4 (by decide)
    · exact absurd g (by decide)
end PARSER2
