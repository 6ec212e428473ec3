/-! Parser -/
def pp (q : Nat) : Nat → Prop := fun a => q ≤ a ∧ a < q + 47
def PS (σ : HS) (q inp n : Nat) (tx : Nat → Nat) : Prop := zK σ q = (6, 0) ∧ zP σ q 0 = some (q + 1) ∧ zP σ q 1 = some (q + 45) ∧ SK σ (q + 1) ∧ Wk σ (q + 45) (q + 46) 120 ∧ zP σ q 4 = some inp ∧ zK σ inp = (13, 600) ∧ n ≤ 600 ∧ zO σ q 5 = (n : Int) ∧ (inp < q ∨ q + 47 ≤ inp) ∧ ∀ i, i < n → zI σ inp i = (tx i : Int) ∧ tx i < 256
def PT (σ : HS) (q inp n : Nat) (tx : Nat → Nat) (t : Nat × Nat × Nat) : Prop := PS σ q inp n tx ∧ zO σ q 6 = (t.1 : Int) ∧ zO σ q 7 = (t.2.1 : Int) ∧ zO σ q 8 = (t.2.2 : Int) ∧ zO σ q 2 = 0 ∧ zO σ q 3 = -1
def PE (σ : HS) (q inp n : Nat) (tx : Nat → Nat) (e : PEr) : Prop := PS σ q inp n tx ∧ zO σ q 2 = (e.1 : Int) ∧ zO σ q 3 = (e.2 : Int)
def qq (q : Nat) : Nat → Prop := fun a => a = q
set_option maxRecDepth 100000 in
theorem qq_pp {q a : Nat} (h : qq q a) : pp q a := by unfold qq at h; unfold pp; omega
set_option maxRecDepth 100000 in
theorem wp_pp {q a : Nat} (h : wp (q + 45) (q + 46) a) : pp q a := by unfold wp at h; unfold pp; omega
set_option maxRecDepth 100000 in
theorem sp_pp {q a : Nat} (h : sp (q + 1) a) : pp q a := by unfold sp at h; unfold pp; omega
set_option maxRecDepth 100000 in
theorem PS.md {σ σ' : HS} {q inp n : Nat} {tx : Nat → Nat} {P : Nat → Prop} (m : Md σ σ' P) (h : PS σ q inp n tx) (h5 : zO σ' q 5 = zO σ q 5) (hi : ¬ P inp) : PS σ' q inp n tx := by
  obtain ⟨a1, a2, a3, a4, a5, a6, a7, a8, a9, a10, a11⟩ := h
  refine ⟨by rw [m.K]; exact a1, by rw [m.P]; exact a2, by rw [m.P]; exact a3, a4.md m, a5.md m, by rw [m.P]; exact a6, by rw [m.K]; exact a7, a8, by rw [h5]; exact a9, a10, ?_⟩
  rw [m.i hi]
  exact a11
set_option maxRecDepth 100000 in
theorem PT.md {σ σ' : HS} {q inp n : Nat} {tx : Nat → Nat} {t : Nat × Nat × Nat} {P : Nat → Prop} (m : Md σ σ' P) (h : PT σ q inp n tx t) (hq : ¬ P q) (hi : ¬ P inp) : PT σ' q inp n tx t := by
  obtain ⟨a1, a2⟩ := h
  refine ⟨a1.md m (by rw [m.o hq]) hi, ?_⟩
  rw [m.o hq]
  exact a2
section PARSER
variable {Γ : GG} {σ : HS} {Q : Res → HS → Prop} {q inp n : Nat} {tx : Nat → Nat}
set_option maxRecDepth 100000 in
theorem p_isLetter {y : Nat} (hy : y < 256) (hQ : Q (.inl (some (vI (if isLt y then 1 else 0)))) σ) : zM Γ mX6_isLetter [vI y] σ Q := by
  refine zM_of (n := 0) (by decide +kernel) rfl rfl rfl ?_
  have one : isLt y = true → zW Γ mX6_isLetter 24 [some (vI y)] [] σ 0 0 Q := by
    intro h
    rw [if_pos h] at hQ
    refine zW_iconst dX6_isLetter_24 ?_
    refine zW_goto (tgt := 29) dX6_isLetter_25 (by decide) ?_
    refine zW_ireturn dX6_isLetter_29 rfl rfl (by first | decide | (show _ ≤ (0 : Nat); omega)) (by first | decide | (show _ ≤ (0 : Nat); omega)) ?_
    exact hQ
  have zero : isLt y = false → zW Γ mX6_isLetter 28 [some (vI y)] [] σ 0 0 Q := by
    intro h
    rw [h] at hQ
    refine zW_iconst dX6_isLetter_28 ?_
    refine zW_ireturn dX6_isLetter_29 rfl rfl (by first | decide | (show _ ≤ (0 : Nat); omega)) (by first | decide | (show _ ≤ (0 : Nat); omega)) ?_
    exact hQ
  have snd : ¬ (97 ≤ y ∧ y ≤ 122) → zW Γ mX6_isLetter 12 [some (vI y)] [] σ 0 0 Q := by
    intro h
    refine zW_iload_n dX6_isLetter_12 rfl ?_
    refine zW_bipush dX6_isLetter_13 (by decide) ?_
    refine zW_icmp_lt (tgt := 28) dX6_isLetter_15 (by decide) (by first | assumption | omega | (unfold InR; omega) | (unfold InL; omega) | (simp only [InR] at *; omega)) (by first | assumption | omega | (unfold InR; omega) | (unfold InL; omega) | (simp only [InR] at *; omega)) (fun g => ?_) (fun g => ?_)
    · exact zero (by unfold isLt; rw [decide_eq_false_iff_not]; omega)
    · refine zW_iload_n dX6_isLetter_18 rfl ?_
      refine zW_bipush dX6_isLetter_19 (by decide) ?_
      refine zW_icmp_gt (tgt := 28) dX6_isLetter_21 (by decide) (by first | assumption | omega | (unfold InR; omega) | (unfold InL; omega) | (simp only [InR] at *; omega)) (by first | assumption | omega | (unfold InR; omega) | (unfold InL; omega) | (simp only [InR] at *; omega)) (fun g2 => ?_) (fun g2 => ?_)
      · exact zero (by unfold isLt; rw [decide_eq_false_iff_not]; omega)
      · exact one (by unfold isLt; rw [decide_eq_true_iff]; omega)
  refine zW_iload_n dX6_isLetter_0 rfl ?_
  refine zW_bipush dX6_isLetter_1 (by decide) ?_
  refine zW_icmp_lt (tgt := 12) dX6_isLetter_3 (by decide) (by first | assumption | omega | (unfold InR; omega) | (unfold InL; omega) | (simp only [InR] at *; omega)) (by first | assumption | omega | (unfold InR; omega) | (unfold InL; omega) | (simp only [InR] at *; omega)) (fun g => ?_) (fun g => ?_)
  · exact snd (by omega)
  · refine zW_iload_n dX6_isLetter_6 rfl ?_
    refine zW_bipush dX6_isLetter_7 (by decide) ?_
    refine zW_icmp_le (tgt := 24) dX6_isLetter_9 (by decide) (by first | assumption | omega | (unfold InR; omega) | (unfold InL; omega) | (simp only [InR] at *; omega)) (by first | assumption | omega | (unfold InR; omega) | (unfold InL; omega) | (simp only [InR] at *; omega)) (fun g2 => ?_) (fun g2 => ?_)
    · exact one (by unfold isLt; rw [decide_eq_true_iff]; omega)
    · exact snd (by omega)
set_option maxRecDepth 100000 in
theorem p_isDigit {y : Nat} (hy : y < 256) (hQ : Q (.inl (some (vI (if isDg y then 1 else 0)))) σ) : zM Γ mX6_isDigit [vI y] σ Q := by
  refine zM_of (n := 0) (by decide +kernel) rfl rfl rfl ?_
  have zero : isDg y = false → zW Γ mX6_isDigit 16 [some (vI y)] [] σ 0 0 Q := by
    intro h
    rw [h] at hQ
    refine zW_iconst dX6_isDigit_16 ?_
    refine zW_ireturn dX6_isDigit_17 rfl rfl (by first | decide | (show _ ≤ (0 : Nat); omega)) (by first | decide | (show _ ≤ (0 : Nat); omega)) ?_
    exact hQ
  refine zW_iload_n dX6_isDigit_0 rfl ?_
  refine zW_bipush dX6_isDigit_1 (by decide) ?_
  refine zW_icmp_lt (tgt := 16) dX6_isDigit_3 (by decide) (by first | assumption | omega | (unfold InR; omega) | (unfold InL; omega) | (simp only [InR] at *; omega)) (by first | assumption | omega | (unfold InR; omega) | (unfold InL; omega) | (simp only [InR] at *; omega)) (fun g => ?_) (fun g => ?_)
  · exact zero (by unfold isDg; rw [decide_eq_false_iff_not]; omega)
  · refine zW_iload_n dX6_isDigit_6 rfl ?_
    refine zW_bipush dX6_isDigit_7 (by decide) ?_
    refine zW_icmp_gt (tgt := 16) dX6_isDigit_9 (by decide) (by first | assumption | omega | (unfold InR; omega) | (unfold InL; omega) | (simp only [InR] at *; omega)) (by first | assumption | omega | (unfold InR; omega) | (unfold InL; omega) | (simp only [InR] at *; omega)) (fun g2 => ?_) (fun g2 => ?_)
    · exact zero (by unfold isDg; rw [decide_eq_false_iff_not]; omega)
    · have h : isDg y = true := by unfold isDg; rw [decide_eq_true_iff]; omega
      rw [if_pos h] at hQ
      refine zW_iconst dX6_isDigit_12 ?_
      refine zW_goto (tgt := 17) dX6_isDigit_13 (by decide) ?_
      refine zW_ireturn dX6_isDigit_17 rfl rfl (by first | decide | (show _ ≤ (0 : Nat); omega)) (by first | decide | (show _ ≤ (0 : Nat); omega)) ?_
      exact hQ
set_option maxRecDepth 100000 in
theorem p_fail {k : Nat} {t : Nat × Nat × Nat} (h : PT σ q inp n tx t) (hQ : ∀ σ', PE σ' q inp n tx (k, t.2.1) → Md σ σ' (qq q) → Q (.inl (some (vI 0))) σ') : zM Γ mX6_fail [vR (some q), vI k] σ Q := by
  obtain ⟨hS, k6, k7, k8, k2, k3⟩ := id h
  obtain ⟨a1, a2, a3, a4, a5, a6, a7, a8, a9, a10, a11⟩ := id hS
  refine zM_of (n := 0) (by decide +kernel) rfl rfl rfl ?_
  refine zW_aload_n dX6_fail_0 rfl ?_
  refine zW_iload_n dX6_fail_1 rfl ?_
  refine zpI dX6_fail_2 fX6_27 a1 rfl (Or.inl rfl) (zst_int _) ?_
  refine zW_aload_n dX6_fail_5 rfl ?_
  refine zW_aload_n dX6_fail_6 rfl ?_
  refine zgI dX6_fail_7 fX6_118 a1 rfl ((zO_sOk _ _ _ _ (by omega)).trans k7) ?_
  refine zpI dX6_fail_10 fX6_31 a1 rfl (Or.inl rfl) (zst_int _) ?_
  refine zW_iconst dX6_fail_13 ?_
  refine zW_ireturn dX6_fail_14 rfl rfl (by first | decide | (show _ ≤ (0 : Nat); omega)) (by first | decide | (show _ ≤ (0 : Nat); omega)) ?_
  have m : Md σ (sO (sO σ q 2 k) q 3 (t.2.1 : Int)) (qq q) := (Md.O (P := qq q) rfl).tr (Md.O (P := qq q) rfl) (fun _ z => z)
  refine hQ _ ⟨hS.md m ?_ (by unfold qq; omega), ?_, zO_sOs _ _ _ _⟩ m
  · rw [zO_sOk _ _ _ _ (by omega), zO_sOk _ _ _ _ (by omega)]
  · rw [zO_sOk _ _ _ _ (by omega), zO_sOs]
set_option maxRecDepth 100000 in
theorem p_numberValue {t : Nat × Nat × Nat} (h : PT σ q inp n tx t) (h1 : t.1 = 2) (he : t.2.2 ≤ n) (hse : t.2.1 ≤ t.2.2) (h2 : t.2.2 - t.2.1 ≤ 2) (hd : ∀ i, t.2.1 ≤ i → i < t.2.2 → isDg (tx i) = true) (hQ : tnum tx t ≤ 99 → Q (.inl (some (vI (tnum tx t)))) σ) : zM Γ mX6_numberValue [vR (some q)] σ Q := by
  obtain ⟨hS, k6, k7, k8, k2, k3⟩ := id h
  obtain ⟨a1, a2, a3, a4, a5, a6, a7, a8, a9, a10, a11⟩ := id hS
  have dg : ∀ i, t.2.1 ≤ i → i < t.2.2 → 48 ≤ tx i ∧ tx i ≤ 57 := fun i z1 z2 => of_decide_eq_true (hd i z1 z2)
  refine zM_of (n := 2) (by decide +kernel) rfl rfl rfl ?_
  have loop : ∀ m k, k + m = t.2.2 - t.2.1 → nmF tx t.2.1 k < 10 ^ k → zW Γ mX6_numberValue 7 [some (vR (some q)), some (vI (nmF tx t.2.1 k)), some (vI (t.2.1 + k : Nat))] [] σ 0 0 Q := by
    intro m
    induction m with
    | zero =>
      intro k hk hb
      have hb2 : nmF tx t.2.1 k ≤ 99 := by
        have : 10 ^ k ≤ 10 ^ 2 := Nat.pow_le_pow_right (by omega) (by omega)
        omega
      refine zW_iload_n dX6_numberValue_7 rfl ?_
      refine zW_aload_n dX6_numberValue_8 rfl ?_
      refine zgI dX6_numberValue_9 fX6_47 a1 rfl k8 ?_
      refine zW_icmp_ge (tgt := 36) dX6_numberValue_12 (by decide) (by first | assumption | omega | (unfold InR; omega) | (unfold InL; omega) | (simp only [InR] at *; omega)) (by first | assumption | omega | (unfold InR; omega) | (unfold InL; omega) | (simp only [InR] at *; omega)) (fun g => ?_) (fun g => ?_)
      · refine zW_iload_n dX6_numberValue_36 rfl ?_
        refine zW_ireturn dX6_numberValue_37 rfl rfl (by first | decide | (show _ ≤ (0 : Nat); omega)) (by first | decide | (show _ ≤ (0 : Nat); omega)) ?_
        have e : k = t.2.2 - t.2.1 := by omega
        rw [e] at hb2 ⊢
        exact hQ hb2
      · exact absurd g (by omega)
    | succ m ih =>
      intro k hk hb
      obtain ⟨d1, d2⟩ := dg (t.2.1 + k) (by omega) (by omega)
      have hx := (a11 (t.2.1 + k) (by omega)).1
      have hb2 : nmF tx t.2.1 k ≤ 99 := by
        have : 10 ^ k ≤ 10 ^ 2 := Nat.pow_le_pow_right (by omega) (by omega)
        omega
      refine zW_iload_n dX6_numberValue_7 rfl ?_
      refine zW_aload_n dX6_numberValue_8 rfl ?_
      refine zgI dX6_numberValue_9 fX6_47 a1 rfl k8 ?_
      refine zW_icmp_ge (tgt := 36) dX6_numberValue_12 (by decide) (by first | assumption | omega | (unfold InR; omega) | (unfold InL; omega) | (simp only [InR] at *; omega)) (by first | assumption | omega | (unfold InR; omega) | (unfold InL; omega) | (simp only [InR] at *; omega)) (fun g => ?_) (fun g => ?_)
      · exact absurd g (by omega)
      · refine zW_bipush dX6_numberValue_15 (by decide) ?_
        refine zW_iload_n dX6_numberValue_17 rfl ?_
        refine zW_imul dX6_numberValue_18 ?_
        refine zW_aload_n dX6_numberValue_19 rfl ?_
        refine zgP dX6_numberValue_20 fX6_34 a1 rfl a6 ?_
        refine zW_iload_n dX6_numberValue_23 rfl ?_
        refine zrI dX6_numberValue_24 a7 (by first | assumption | omega | (unfold InR; omega) | (unfold InL; omega) | (simp only [InR] at *; omega)) (by first | assumption | omega | (unfold InR; omega) | (unfold InL; omega) | (simp only [InR] at *; omega)) (by first | assumption | omega | (unfold InR; omega) | (unfold InL; omega) | (simp only [InR] at *; omega)) hx ?_
        refine zW_iadd dX6_numberValue_25 ?_
        refine zW_bipush dX6_numberValue_26 (by decide) ?_
        refine zW_isub dX6_numberValue_28 ?_
        refine zW_istore_n dX6_numberValue_29 (by decide) rfl rfl ?_
        refine zW_iinc dX6_numberValue_30 rfl (by decide) rfl rfl ?_
        refine zW_goto (tgt := 7) dX6_numberValue_33 (by decide) ?_
        have e : (10 : Int) * (nmF tx t.2.1 k : Nat) + (tx (t.2.1 + k) : Nat) - 48 = ((nmF tx t.2.1 (k + 1) : Nat) : Int) := by
          show _ = ((10 * nmF tx t.2.1 k + (tx (t.2.1 + k) - 48) : Nat) : Int)
          omega
        rw [e]
        refine ih (k + 1) (by omega) ?_
        show 10 * nmF tx t.2.1 k + (tx (t.2.1 + k) - 48) < 10 ^ (k + 1)
        rw [Nat.pow_succ]
        omega
  refine zW_iconst dX6_numberValue_0 ?_
  refine zW_istore_n dX6_numberValue_1 (by decide) rfl rfl ?_
  refine zW_aload_n dX6_numberValue_2 rfl ?_
  refine zgI dX6_numberValue_3 fX6_118 a1 rfl k7 ?_
  refine zW_istore_n dX6_numberValue_6 (by decide) rfl rfl ?_
  exact loop (t.2.2 - t.2.1) 0 (by omega) (by show 0 < 1; omega)
set_option maxRecDepth 100000 in
theorem p_isNumberIn {lo hi : Nat} {t : Nat × Nat × Nat} (h : PT σ q inp n tx t) (ht : ∃ p, p ≤ n ∧ t = tok tx n p) (hl : lo ≤ 99) (hh : hi ≤ 99)
    (h0 : ∀ e σ', (if t.1 ≠ 2 then some ((1, t.2.1) : PEr) else if tnum tx t < lo ∨ hi < tnum tx t then some (2, t.2.1) else none) = some e → PE σ' q inp n tx e → Md σ σ' (qq q) → Q (.inl (some (vI 0))) σ') (h1 : t.1 = 2 → lo ≤ tnum tx t → tnum tx t ≤ hi → Q (.inl (some (vI 1))) σ) : zM Γ mX6_isNumberIn [vR (some q), vI lo, vI hi] σ Q := by
  obtain ⟨hS, k6, k7, k8, k2, k3⟩ := id h
  obtain ⟨a1, a2, a3, a4, a5, a6, a7, a8, a9, a10, a11⟩ := id hS
  obtain ⟨p, hp, hte⟩ := ht
  have hle := tok_le (tx := tx) hp
  rw [← hte] at hle
  obtain ⟨l1, l2, l3, l4, l5, l6, l7⟩ := hle
  refine zM_of (n := 1) (by decide +kernel) rfl rfl rfl ?_
  refine zW_aload_n dX6_isNumberIn_0 rfl ?_
  refine zgI dX6_isNumberIn_1 fX6_57 a1 rfl k6 ?_
  refine zW_iconst dX6_isNumberIn_4 ?_
  refine zW_icmp_eq (tgt := 14) dX6_isNumberIn_5 (by decide) (by first | assumption | omega | (unfold InR; omega) | (unfold InL; omega) | (simp only [InR] at *; omega)) (by first | assumption | omega | (unfold InR; omega) | (unfold InL; omega) | (simp only [InR] at *; omega)) (fun g => ?_) (fun g => ?_)
  · have g' : t.1 = 2 := by omega
    obtain ⟨l8, l9⟩ := l7 g'
    rw [if_neg (by omega)] at h0
    have bad : ∀ z, (tnum tx t < lo ∨ hi < tnum tx t) → zW Γ mX6_isNumberIn 29 [some (vR (some q)), some (vI lo), some (vI hi), z] [] σ 0 0 Q := by
      intro z hz
      rw [if_pos hz] at h0
      refine zW_aload_n dX6_isNumberIn_29 rfl ?_
      refine zW_iconst dX6_isNumberIn_30 ?_
      refine zcV1 dX6_isNumberIn_31 rfl eX6_fail b648 ⟨by decide, by decide, by decide, by decide⟩ rfl a1 rfl (by decide) (Nat.le_of_ble_eq_true rfl) (p_fail (k := 2) h (fun σ2 hE m2 => ?_))
      refine zW_ireturn dX6_isNumberIn_34 rfl rfl (by first | decide | (show _ ≤ (0 : Nat); omega)) (by first | decide | (show _ ≤ (0 : Nat); omega)) ?_
      exact h0 _ σ2 rfl hE m2
    refine zW_aload_n dX6_isNumberIn_14 rfl ?_
    refine zcV0 dX6_isNumberIn_15 rfl eX6_numberValue b656 ⟨by decide, by decide, by decide, by decide⟩ rfl a1 rfl (by decide) (Nat.le_of_ble_eq_true rfl) (p_numberValue h g' l3 l2 l8 l9 (fun hb => ?_))
    refine zW_istore_n dX6_isNumberIn_18 (by decide) rfl rfl ?_
    refine zW_iload_n dX6_isNumberIn_19 rfl ?_
    refine zW_iload_n dX6_isNumberIn_20 rfl ?_
    refine zW_icmp_lt (tgt := 29) dX6_isNumberIn_21 (by decide) (by first | assumption | omega | (unfold InR; omega) | (unfold InL; omega) | (simp only [InR] at *; omega)) (by first | assumption | omega | (unfold InR; omega) | (unfold InL; omega) | (simp only [InR] at *; omega)) (fun g2 => ?_) (fun g2 => ?_)
    · exact bad _ (by omega)
    · refine zW_iload_n dX6_isNumberIn_24 rfl ?_
      refine zW_iload_n dX6_isNumberIn_25 rfl ?_
      refine zW_icmp_le (tgt := 35) dX6_isNumberIn_26 (by decide) (by first | assumption | omega | (unfold InR; omega) | (unfold InL; omega) | (simp only [InR] at *; omega)) (by first | assumption | omega | (unfold InR; omega) | (unfold InL; omega) | (simp only [InR] at *; omega)) (fun g3 => ?_) (fun g3 => ?_)
      · refine zW_iconst dX6_isNumberIn_35 ?_
        refine zW_ireturn dX6_isNumberIn_36 rfl rfl (by first | decide | (show _ ≤ (0 : Nat); omega)) (by first | decide | (show _ ≤ (0 : Nat); omega)) ?_
        exact h1 g' (by omega) (by omega)
      · exact bad _ (by omega)
  · rw [if_pos (by omega)] at h0
    refine zW_aload_n dX6_isNumberIn_8 rfl ?_
    refine zW_iconst dX6_isNumberIn_9 ?_
    refine zcV1 dX6_isNumberIn_10 rfl eX6_fail b648 ⟨by decide, by decide, by decide, by decide⟩ rfl a1 rfl (by decide) (Nat.le_of_ble_eq_true rfl) (p_fail (k := 1) h (fun σ2 hE m2 => ?_))
    refine zW_ireturn dX6_isNumberIn_13 rfl rfl (by first | decide | (show _ ≤ (0 : Nat); omega)) (by first | decide | (show _ ≤ (0 : Nat); omega)) ?_
    exact h0 _ σ2 rfl hE m2
set_option maxRecDepth 100000 in
theorem PS.o {k : Nat} {x : Int} (h : PS σ q inp n tx) (hk : k ≠ 5) : PS (sO σ q k x) q inp n tx := by
  obtain ⟨a1, a2, a3, a4, a5, a6, a7, a8, a9, a10, a11⟩ := h
  exact ⟨a1, a2, a3, a4, a5, a6, a7, a8, by rw [zO_sOk _ _ _ _ (fun z => hk z.symm)]; exact a9, a10, a11⟩
set_option maxRecDepth 100000 in
theorem p_advanceE {e0 : Nat} (hS : PS σ q inp n tx) (k8 : zO σ q 8 = (e0 : Int)) (k2 : zO σ q 2 = 0) (k3 : zO σ q 3 = -1) (he : e0 ≤ n) (hQ : ∀ σ', PT σ' q inp n tx (tok tx n e0) → Md σ σ' (qq q) → Q (.inl none) σ') : zM Γ mX6_advance [vR (some q)] σ Q := by
  obtain ⟨s1, s2, s3⟩ := sc_le isSp tx he
  have hn6 := hS.2.2.2.2.2.2.2.1
  have mo : ∀ (σ1 : HS) (k : Nat) (x : Int), Md σ1 (sO σ1 q k x) (qq q) := fun σ1 k x => Md.O rfl
  have ok7 : ∀ (σ1 : HS) (x : Int), zO (sO σ1 q 7 x) q 7 = x := fun σ1 x => zO_sOs _ _ _ _
  refine zM_of (n := 0) (by decide +kernel) rfl rfl rfl ?_
  generalize hS9 : sc isSp tx n e0 = s at s1 s2 s3
  -- the end: kind and end are written
  have fin : ∀ (σ1 : HS) (k e : Nat), PS σ1 q inp n tx → zO σ1 q 7 = (s : Int) → zO σ1 q 2 = 0 → zO σ1 q 3 = -1 → zO σ1 q 6 = (k : Int) → zO σ1 q 8 = (e : Int) → Md σ σ1 (qq q) → (k, s, e) = tok tx n e0 → zW Γ mX6_advance 279 [some (vR (some q))] [] σ1 0 0 Q := by
    intro σ1 k e hP h7 h2 h3 h6 h8 m1 ht
    refine zW_return dX6_advance_279 rfl (by first | decide | (show _ ≤ (0 : Nat); omega)) (by first | decide | (show _ ≤ (0 : Nat); omega)) ?_
    refine hQ _ ⟨hP, ?_, ?_, ?_, h2, h3⟩ m1
    · rw [← ht]; exact h6
    · rw [← ht]; exact h7
    · rw [← ht]; exact h8
  have hscL : ∀ (σ1 : HS) (p : Nat), PS σ1 q inp n tx → zO σ1 q 7 = (s : Int) → zO σ1 q 2 = 0 → zO σ1 q 3 = -1 → zO σ1 q 8 = (p : Int) → Md σ σ1 (qq q) → s < n → isLt (tx s) = true → s ≤ p → p ≤ n → sc isLt tx n p = sc isLt tx n s → zW Γ mX6_advance 102 [some (vR (some q))] [] σ1 0 0 Q := by
    have : ∀ (m : Nat) (σ1 : HS) (p : Nat), m + p = n → PS σ1 q inp n tx → zO σ1 q 7 = (s : Int) → zO σ1 q 2 = 0 → zO σ1 q 3 = -1 → zO σ1 q 8 = (p : Int) → Md σ σ1 (qq q) → s < n → isLt (tx s) = true → s ≤ p → sc isLt tx n p = sc isLt tx n s → zW Γ mX6_advance 102 [some (vR (some q))] [] σ1 0 0 Q := by
      intro m
      have out : ∀ (σ1 : HS) (p : Nat), PS σ1 q inp n tx → zO σ1 q 7 = (s : Int) → zO σ1 q 2 = 0 → zO σ1 q 3 = -1 → zO σ1 q 8 = (p : Int) → Md σ σ1 (qq q) → s < n → isLt (tx s) = true → s ≤ p → p ≤ n → p = sc isLt tx n s → zW Γ mX6_advance 141 [some (vR (some q))] [] σ1 0 0 Q := by
        intro σ1 p hP h7 h2 h3 h8 m1 hsn hl hsp hpn hpe
        obtain ⟨a1, a2, a3, a4, a5, a6, a7, a8, a9, a10, a11⟩ := id hP
        have ht : ((if 60 < p - s then 4 else 1), s, p) = tok tx n e0 := by
          unfold tok
          rw [hS9, if_neg (show ¬ n ≤ s by omega), if_pos hl, ← hpe]
        refine zW_aload_n dX6_advance_141 rfl ?_
        refine zW_aload_n dX6_advance_142 rfl ?_
        refine zgI dX6_advance_143 fX6_47 a1 rfl h8 ?_
        refine zW_aload_n dX6_advance_146 rfl ?_
        refine zgI dX6_advance_147 fX6_118 a1 rfl h7 ?_
        refine zW_isub dX6_advance_150 ?_
        refine zW_bipush dX6_advance_151 (by decide) ?_
        refine zW_icmp_le (tgt := 160) dX6_advance_153 (by decide) (by first | assumption | omega | (unfold InR; omega) | (unfold InL; omega) | (simp only [InR] at *; omega)) (by first | assumption | omega | (unfold InR; omega) | (unfold InL; omega) | (simp only [InR] at *; omega)) (fun g => ?_) (fun g => ?_)
        · refine zW_iconst dX6_advance_160 ?_
          refine zpI dX6_advance_161 fX6_57 (by assumption) rfl (Or.inl rfl) (zst_int _) ?_
          refine zW_goto (tgt := 279) dX6_advance_164 (by decide) ?_
          rw [if_neg (by omega)] at ht
          refine fin _ 1 p (hP.o (by omega)) ?_ ?_ ?_ (zO_sOs _ _ _ _) ?_ (m1.tr (mo _ _ _) (fun _ z => z)) ht
          all_goals rw [zO_sOk _ _ _ _ (by omega)]; assumption
        · refine zW_iconst dX6_advance_156 ?_
          refine zW_goto (tgt := 161) dX6_advance_157 (by decide) ?_
          refine zpI dX6_advance_161 fX6_57 (by assumption) rfl (Or.inl rfl) (zst_int _) ?_
          refine zW_goto (tgt := 279) dX6_advance_164 (by decide) ?_
          rw [if_pos (by omega)] at ht
          refine fin _ 4 p (hP.o (by omega)) ?_ ?_ ?_ (zO_sOs _ _ _ _) ?_ (m1.tr (mo _ _ _) (fun _ z => z)) ht
          all_goals rw [zO_sOk _ _ _ _ (by omega)]; assumption
      induction m with
      | zero =>
        intro σ1 p hm hP h7 h2 h3 h8 m1 hsn hl hsp he9
        obtain ⟨a1, a2, a3, a4, a5, a6, a7, a8, a9, a10, a11⟩ := id hP
        refine zW_aload_n dX6_advance_102 rfl ?_
        refine zgI dX6_advance_103 fX6_47 a1 rfl h8 ?_
        refine zW_aload_n dX6_advance_106 rfl ?_
        refine zgI dX6_advance_107 fX6_44 a1 rfl a9 ?_
        refine zW_icmp_ge (tgt := 141) dX6_advance_110 (by decide) (by first | assumption | omega | (unfold InR; omega) | (unfold InL; omega) | (simp only [InR] at *; omega)) (by first | assumption | omega | (unfold InR; omega) | (unfold InL; omega) | (simp only [InR] at *; omega)) (fun g => ?_) (fun g => ?_)
        · refine out σ1 p hP h7 h2 h3 h8 m1 hsn hl hsp (by omega) ?_
          rw [← he9, sc_end (by omega)]
        · exact absurd g (by omega)
      | succ m ih =>
        intro σ1 p hm hP h7 h2 h3 h8 m1 hsn hl hsp he9
        obtain ⟨a1, a2, a3, a4, a5, a6, a7, a8, a9, a10, a11⟩ := id hP
        obtain ⟨x1, x2⟩ := a11 p (by omega)
        have hst := sc_step (P := isLt) (tx := tx) (show p < n by omega)
        refine zW_aload_n dX6_advance_102 rfl ?_
        refine zgI dX6_advance_103 fX6_47 a1 rfl h8 ?_
        refine zW_aload_n dX6_advance_106 rfl ?_
        refine zgI dX6_advance_107 fX6_44 a1 rfl a9 ?_
        refine zW_icmp_ge (tgt := 141) dX6_advance_110 (by decide) (by first | assumption | omega | (unfold InR; omega) | (unfold InL; omega) | (simp only [InR] at *; omega)) (by first | assumption | omega | (unfold InR; omega) | (unfold InL; omega) | (simp only [InR] at *; omega)) (fun g => ?_) (fun g => ?_)
        · exact absurd g (by omega)
        · refine zW_aload_n dX6_advance_113 rfl ?_
          refine zgP dX6_advance_114 fX6_34 a1 rfl a6 ?_
          refine zW_aload_n dX6_advance_117 rfl ?_
          refine zgI dX6_advance_118 fX6_47 a1 rfl h8 ?_
          refine zrI dX6_advance_121 a7 (by first | assumption | omega | (unfold InR; omega) | (unfold InL; omega) | (simp only [InR] at *; omega)) (by first | assumption | omega | (unfold InR; omega) | (unfold InL; omega) | (simp only [InR] at *; omega)) (by first | assumption | omega | (unfold InR; omega) | (unfold InL; omega) | (simp only [InR] at *; omega)) x1 ?_
          refine zcS1 dX6_advance_122 rfl eX6_isLetter b585 ⟨by decide, by decide, by decide, by decide⟩ rfl (Nat.le_of_ble_eq_true rfl) (p_isLetter x2 ?_)
          cases hc : isLt (tx p)
          · rw [hc] at hst
            refine zW_if_eq (tgt := 141) dX6_advance_125 (by decide) (by first | assumption | omega | (unfold InR; omega) | (unfold InL; omega) | (simp only [InR] at *; omega)) (fun g2 => ?_) (fun g2 => ?_)
            · exact out σ1 p hP h7 h2 h3 h8 m1 hsn hl hsp (by omega) (by rw [← he9, hst]; rfl)
            · exact absurd rfl g2
          · rw [if_pos hc] at hst
            refine zW_if_eq (tgt := 141) dX6_advance_125 (by decide) (by first | assumption | omega | (unfold InR; omega) | (unfold InL; omega) | (simp only [InR] at *; omega)) (fun g2 => ?_) (fun g2 => ?_)
            · exact absurd g2 (by decide)
            · refine zW_aload_n dX6_advance_128 rfl ?_
              refine zW_dup dX6_advance_129 rfl ?_
              refine zgI dX6_advance_130 fX6_47 a1 rfl h8 ?_
              refine zW_iconst dX6_advance_133 ?_
              refine zW_iadd dX6_advance_134 ?_
              refine zpI dX6_advance_135 fX6_47 (by assumption) rfl (Or.inl rfl) (zst_int _) ?_
              refine zW_goto (tgt := 102) dX6_advance_138 (by decide) ?_
              refine ih _ (p + 1) (by omega) (hP.o (by omega)) ?_ ?_ ?_ (zO_sOs _ _ _ _) (m1.tr (mo _ _ _) (fun _ z => z)) hsn hl (by omega) (by rw [← hst]; exact he9)
              all_goals rw [zO_sOk _ _ _ _ (by omega)]; assumption
    exact fun σ1 p hP h7 h2 h3 h8 m1 hsn hl hsp hpn he9 => this (n - p) σ1 p (by omega) hP h7 h2 h3 h8 m1 hsn hl hsp he9
  have hscD : ∀ (σ1 : HS) (p : Nat), PS σ1 q inp n tx → zO σ1 q 7 = (s : Int) → zO σ1 q 2 = 0 → zO σ1 q 3 = -1 → zO σ1 q 8 = (p : Int) → Md σ σ1 (qq q) → s < n → isLt (tx s) = false → isDg (tx s) = true → s ≤ p → p ≤ n → sc isDg tx n p = sc isDg tx n s → zW Γ mX6_advance 182 [some (vR (some q))] [] σ1 0 0 Q := by
    have : ∀ (m : Nat) (σ1 : HS) (p : Nat), m + p = n → PS σ1 q inp n tx → zO σ1 q 7 = (s : Int) → zO σ1 q 2 = 0 → zO σ1 q 3 = -1 → zO σ1 q 8 = (p : Int) → Md σ σ1 (qq q) → s < n → isLt (tx s) = false → isDg (tx s) = true → s ≤ p → sc isDg tx n p = sc isDg tx n s → zW Γ mX6_advance 182 [some (vR (some q))] [] σ1 0 0 Q := by
      intro m
      have out : ∀ (σ1 : HS) (p : Nat), PS σ1 q inp n tx → zO σ1 q 7 = (s : Int) → zO σ1 q 2 = 0 → zO σ1 q 3 = -1 → zO σ1 q 8 = (p : Int) → Md σ σ1 (qq q) → s < n → isLt (tx s) = false → isDg (tx s) = true → s ≤ p → p ≤ n → p = sc isDg tx n s → zW Γ mX6_advance 221 [some (vR (some q))] [] σ1 0 0 Q := by
        intro σ1 p hP h7 h2 h3 h8 m1 hsn hl hdg hsp hpn hpe
        obtain ⟨a1, a2, a3, a4, a5, a6, a7, a8, a9, a10, a11⟩ := id hP
        have ht : ((if 2 < p - s then 4 else 2), s, p) = tok tx n e0 := by
          unfold tok
          rw [hS9, if_neg (show ¬ n ≤ s by omega), if_neg (show ¬ isLt (tx s) = true by rw [hl]; decide), if_pos hdg, ← hpe]
        refine zW_aload_n dX6_advance_221 rfl ?_
        refine zW_aload_n dX6_advance_222 rfl ?_
        refine zgI dX6_advance_223 fX6_47 a1 rfl h8 ?_
        refine zW_aload_n dX6_advance_226 rfl ?_
        refine zgI dX6_advance_227 fX6_118 a1 rfl h7 ?_
        refine zW_isub dX6_advance_230 ?_
        refine zW_iconst dX6_advance_231 ?_
        refine zW_icmp_le (tgt := 239) dX6_advance_232 (by decide) (by first | assumption | omega | (unfold InR; omega) | (unfold InL; omega) | (simp only [InR] at *; omega)) (by first | assumption | omega | (unfold InR; omega) | (unfold InL; omega) | (simp only [InR] at *; omega)) (fun g => ?_) (fun g => ?_)
        · refine zW_iconst dX6_advance_239 ?_
          refine zpI dX6_advance_240 fX6_57 (by assumption) rfl (Or.inl rfl) (zst_int _) ?_
          refine zW_goto (tgt := 279) dX6_advance_243 (by decide) ?_
          rw [if_neg (by omega)] at ht
          refine fin _ 2 p (hP.o (by omega)) ?_ ?_ ?_ (zO_sOs _ _ _ _) ?_ (m1.tr (mo _ _ _) (fun _ z => z)) ht
          all_goals rw [zO_sOk _ _ _ _ (by omega)]; assumption
        · refine zW_iconst dX6_advance_235 ?_
          refine zW_goto (tgt := 240) dX6_advance_236 (by decide) ?_
          refine zpI dX6_advance_240 fX6_57 (by assumption) rfl (Or.inl rfl) (zst_int _) ?_
          refine zW_goto (tgt := 279) dX6_advance_243 (by decide) ?_
          rw [if_pos (by omega)] at ht
          refine fin _ 4 p (hP.o (by omega)) ?_ ?_ ?_ (zO_sOs _ _ _ _) ?_ (m1.tr (mo _ _ _) (fun _ z => z)) ht
          all_goals rw [zO_sOk _ _ _ _ (by omega)]; assumption
      induction m with
      | zero =>
        intro σ1 p hm hP h7 h2 h3 h8 m1 hsn hl hdg hsp he9
        obtain ⟨a1, a2, a3, a4, a5, a6, a7, a8, a9, a10, a11⟩ := id hP
        refine zW_aload_n dX6_advance_182 rfl ?_
        refine zgI dX6_advance_183 fX6_47 a1 rfl h8 ?_
        refine zW_aload_n dX6_advance_186 rfl ?_
        refine zgI dX6_advance_187 fX6_44 a1 rfl a9 ?_
        refine zW_icmp_ge (tgt := 221) dX6_advance_190 (by decide) (by first | assumption | omega | (unfold InR; omega) | (unfold InL; omega) | (simp only [InR] at *; omega)) (by first | assumption | omega | (unfold InR; omega) | (unfold InL; omega) | (simp only [InR] at *; omega)) (fun g => ?_) (fun g => ?_)
        · refine out σ1 p hP h7 h2 h3 h8 m1 hsn hl hdg hsp (by omega) ?_
          rw [← he9, sc_end (by omega)]
        · exact absurd g (by omega)
      | succ m ih =>
        intro σ1 p hm hP h7 h2 h3 h8 m1 hsn hl hdg hsp he9
        obtain ⟨a1, a2, a3, a4, a5, a6, a7, a8, a9, a10, a11⟩ := id hP
        obtain ⟨x1, x2⟩ := a11 p (by omega)
        have hst := sc_step (P := isDg) (tx := tx) (show p < n by omega)
        refine zW_aload_n dX6_advance_182 rfl ?_
        refine zgI dX6_advance_183 fX6_47 a1 rfl h8 ?_
        refine zW_aload_n dX6_advance_186 rfl ?_
        refine zgI dX6_advance_187 fX6_44 a1 rfl a9 ?_
        refine zW_icmp_ge (tgt := 221) dX6_advance_190 (by decide) (by first | assumption | omega | (unfold InR; omega) | (unfold InL; omega) | (simp only [InR] at *; omega)) (by first | assumption | omega | (unfold InR; omega) | (unfold InL; omega) | (simp only [InR] at *; omega)) (fun g => ?_) (fun g => ?_)
        · exact absurd g (by omega)
        · refine zW_aload_n dX6_advance_193 rfl ?_
          refine zgP dX6_advance_194 fX6_34 a1 rfl a6 ?_
          refine zW_aload_n dX6_advance_197 rfl ?_
          refine zgI dX6_advance_198 fX6_47 a1 rfl h8 ?_
          refine zrI dX6_advance_201 a7 (by first | assumption | omega | (unfold InR; omega) | (unfold InL; omega) | (simp only [InR] at *; omega)) (by first | assumption | omega | (unfold InR; omega) | (unfold InL; omega) | (simp only [InR] at *; omega)) (by first | assumption | omega | (unfold InR; omega) | (unfold InL; omega) | (simp only [InR] at *; omega)) x1 ?_
          refine zcS1 dX6_advance_202 rfl eX6_isDigit b588 ⟨by decide, by decide, by decide, by decide⟩ rfl (Nat.le_of_ble_eq_true rfl) (p_isDigit x2 ?_)
          cases hc : isDg (tx p)
          · rw [hc] at hst
            refine zW_if_eq (tgt := 221) dX6_advance_205 (by decide) (by first | assumption | omega | (unfold InR; omega) | (unfold InL; omega) | (simp only [InR] at *; omega)) (fun g2 => ?_) (fun g2 => ?_)
            · exact out σ1 p hP h7 h2 h3 h8 m1 hsn hl hdg hsp (by omega) (by rw [← he9, hst]; rfl)
            · exact absurd rfl g2
          · rw [if_pos hc] at hst
            refine zW_if_eq (tgt := 221) dX6_advance_205 (by decide) (by first | assumption | omega | (unfold InR; omega) | (unfold InL; omega) | (simp only [InR] at *; omega)) (fun g2 => ?_) (fun g2 => ?_)
            · exact absurd g2 (by decide)
            · refine zW_aload_n dX6_advance_208 rfl ?_
              refine zW_dup dX6_advance_209 rfl ?_
              refine zgI dX6_advance_210 fX6_47 a1 rfl h8 ?_
              refine zW_iconst dX6_advance_213 ?_
              refine zW_iadd dX6_advance_214 ?_
              refine zpI dX6_advance_215 fX6_47 (by assumption) rfl (Or.inl rfl) (zst_int _) ?_
              refine zW_goto (tgt := 182) dX6_advance_218 (by decide) ?_
              refine ih _ (p + 1) (by omega) (hP.o (by omega)) ?_ ?_ ?_ (zO_sOs _ _ _ _) (m1.tr (mo _ _ _) (fun _ z => z)) hsn hl hdg (by omega) (by rw [← hst]; exact he9)
              all_goals rw [zO_sOk _ _ _ _ (by omega)]; assumption
    exact fun σ1 p hP h7 h2 h3 h8 m1 hsn hl hdg hsp hpn he9 => this (n - p) σ1 p (by omega) hP h7 h2 h3 h8 m1 hsn hl hdg hsp he9
  have mid : ∀ σ1, PS σ1 q inp n tx → zO σ1 q 7 = (s : Int) → zO σ1 q 2 = 0 → zO σ1 q 3 = -1 → Md σ σ1 (qq q) → zW Γ mX6_advance 60 [some (vR (some q))] [] σ1 0 0 Q := by
    intro σ1 hP h7 h2 h3 m1
    obtain ⟨a1, a2, a3, a4, a5, a6, a7, a8, a9, a10, a11⟩ := id hP
    have hP2 : PS (sO σ1 q 8 (s : Int)) q inp n tx := hP.o (by omega)
    have h72 : zO (sO σ1 q 8 (s : Int)) q 7 = (s : Int) := by rw [zO_sOk _ _ _ _ (by omega)]; exact h7
    have h22 : zO (sO σ1 q 8 (s : Int)) q 2 = 0 := by rw [zO_sOk _ _ _ _ (by omega)]; exact h2
    have h32 : zO (sO σ1 q 8 (s : Int)) q 3 = -1 := by rw [zO_sOk _ _ _ _ (by omega)]; exact h3
    have h82 : zO (sO σ1 q 8 (s : Int)) q 8 = (s : Int) := zO_sOs _ _ _ _
    have m2 := m1.tr (mo σ1 8 (s : Int)) (fun _ z => z)
    have a92 : zO (sO σ1 q 8 (s : Int)) q 5 = (n : Int) := hP2.2.2.2.2.2.2.2.2.1
    refine zW_aload_n dX6_advance_60 rfl ?_
    refine zW_aload_n dX6_advance_61 rfl ?_
    refine zgI dX6_advance_62 fX6_118 a1 rfl h7 ?_
    refine zpI dX6_advance_65 fX6_47 (by assumption) rfl (Or.inl rfl) (zst_int _) ?_
    refine zW_aload_n dX6_advance_68 rfl ?_
    refine zgI dX6_advance_69 fX6_118 a1 rfl h72 ?_
    refine zW_aload_n dX6_advance_72 rfl ?_
    refine zgI dX6_advance_73 fX6_44 a1 rfl a92 ?_
    refine zW_icmp_lt (tgt := 87) dX6_advance_76 (by decide) (by first | assumption | omega | (unfold InR; omega) | (unfold InL; omega) | (simp only [InR] at *; omega)) (by first | assumption | omega | (unfold InR; omega) | (unfold InL; omega) | (simp only [InR] at *; omega)) (fun g => ?_) (fun g => ?_)
    · obtain ⟨x1, x2⟩ := a11 s (by omega)
      refine zW_aload_n dX6_advance_87 rfl ?_
      refine zgP dX6_advance_88 fX6_34 a1 rfl a6 ?_
      refine zW_aload_n dX6_advance_91 rfl ?_
      refine zgI dX6_advance_92 fX6_118 a1 rfl h72 ?_
      refine zrI dX6_advance_95 a7 (by first | assumption | omega | (unfold InR; omega) | (unfold InL; omega) | (simp only [InR] at *; omega)) (by first | assumption | omega | (unfold InR; omega) | (unfold InL; omega) | (simp only [InR] at *; omega)) (by first | assumption | omega | (unfold InR; omega) | (unfold InL; omega) | (simp only [InR] at *; omega)) x1 ?_
      refine zcS1 dX6_advance_96 rfl eX6_isLetter b585 ⟨by decide, by decide, by decide, by decide⟩ rfl (Nat.le_of_ble_eq_true rfl) (p_isLetter x2 ?_)
      cases hc : isLt (tx s)
      · refine zW_if_eq (tgt := 167) dX6_advance_99 (by decide) (by first | assumption | omega | (unfold InR; omega) | (unfold InL; omega) | (simp only [InR] at *; omega)) (fun g2 => ?_) (fun g2 => ?_)
        · refine zW_aload_n dX6_advance_167 rfl ?_
          refine zgP dX6_advance_168 fX6_34 a1 rfl a6 ?_
          refine zW_aload_n dX6_advance_171 rfl ?_
          refine zgI dX6_advance_172 fX6_118 a1 rfl h72 ?_
          refine zrI dX6_advance_175 a7 (by first | assumption | omega | (unfold InR; omega) | (unfold InL; omega) | (simp only [InR] at *; omega)) (by first | assumption | omega | (unfold InR; omega) | (unfold InL; omega) | (simp only [InR] at *; omega)) (by first | assumption | omega | (unfold InR; omega) | (unfold InL; omega) | (simp only [InR] at *; omega)) x1 ?_
          refine zcS1 dX6_advance_176 rfl eX6_isDigit b588 ⟨by decide, by decide, by decide, by decide⟩ rfl (Nat.le_of_ble_eq_true rfl) (p_isDigit x2 ?_)
          cases hd : isDg (tx s)
          · refine zW_if_eq (tgt := 246) dX6_advance_179 (by decide) (by first | assumption | omega | (unfold InR; omega) | (unfold InL; omega) | (simp only [InR] at *; omega)) (fun g3 => ?_) (fun g3 => ?_)
            · refine zW_aload_n dX6_advance_246 rfl ?_
              refine zW_aload_n dX6_advance_247 rfl ?_
              refine zgP dX6_advance_248 fX6_34 a1 rfl a6 ?_
              refine zW_aload_n dX6_advance_251 rfl ?_
              refine zgI dX6_advance_252 fX6_118 a1 rfl h72 ?_
              refine zrI dX6_advance_255 a7 (by first | assumption | omega | (unfold InR; omega) | (unfold InL; omega) | (simp only [InR] at *; omega)) (by first | assumption | omega | (unfold InR; omega) | (unfold InL; omega) | (simp only [InR] at *; omega)) (by first | assumption | omega | (unfold InR; omega) | (unfold InL; omega) | (simp only [InR] at *; omega)) x1 ?_
              refine zW_bipush dX6_advance_256 (by decide) ?_
              have ht : ((if tx s = 59 then 3 else 4), s, s + 1) = tok tx n e0 := by
                unfold tok
                rw [hS9, if_neg (show ¬ n ≤ s by omega), if_neg (show ¬ isLt (tx s) = true by rw [hc]; decide), if_neg (show ¬ isDg (tx s) = true by rw [hd]; decide)]
              have last : ∀ k : Nat, (k, s, s + 1) = tok tx n e0 → zW Γ mX6_advance 269 [some (vR (some q))] [] (sO (sO σ1 q 8 (s : Int)) q 6 k) 0 0 Q := by
                intro k hk
                refine zW_aload_n dX6_advance_269 rfl ?_
                refine zW_dup dX6_advance_270 rfl ?_
                refine zgI dX6_advance_271 fX6_47 a1 rfl ((zO_sOk _ _ _ _ (by omega)).trans h82) ?_
                refine zW_iconst dX6_advance_274 ?_
                refine zW_iadd dX6_advance_275 ?_
                refine zpI dX6_advance_276 fX6_47 (by assumption) rfl (Or.inl rfl) (zst_int _) ?_
                refine fin _ k (s + 1) ((hP2.o (by omega)).o (by omega)) ?_ ?_ ?_ ?_ (zO_sOs _ _ _ _) ((m2.tr (mo _ _ _) (fun _ z => z)).tr (mo _ _ _) (fun _ z => z)) hk
                · rw [zO_sOk _ _ _ _ (by omega), zO_sOk _ _ _ _ (by omega)]; exact h72
                · rw [zO_sOk _ _ _ _ (by omega), zO_sOk _ _ _ _ (by omega)]; exact h22
                · rw [zO_sOk _ _ _ _ (by omega), zO_sOk _ _ _ _ (by omega)]; exact h32
                · rw [zO_sOk _ _ _ _ (by omega)]; exact zO_sOs _ _ _ _
              refine zW_icmp_ne (tgt := 265) dX6_advance_258 (by decide) (by first | assumption | omega | (unfold InR; omega) | (unfold InL; omega) | (simp only [InR] at *; omega)) (by first | assumption | omega | (unfold InR; omega) | (unfold InL; omega) | (simp only [InR] at *; omega)) (fun g4 => ?_) (fun g4 => ?_)
              · refine zW_iconst dX6_advance_265 ?_
                refine zpI dX6_advance_266 fX6_57 (by assumption) rfl (Or.inl rfl) (zst_int _) ?_
                rw [if_neg (by omega)] at ht
                exact last 4 ht
              · refine zW_iconst dX6_advance_261 ?_
                refine zW_goto (tgt := 266) dX6_advance_262 (by decide) ?_
                refine zpI dX6_advance_266 fX6_57 (by assumption) rfl (Or.inl rfl) (zst_int _) ?_
                rw [if_pos (by omega)] at ht
                exact last 3 ht
            · exact absurd rfl g3
          · refine zW_if_eq (tgt := 246) dX6_advance_179 (by decide) (by first | assumption | omega | (unfold InR; omega) | (unfold InL; omega) | (simp only [InR] at *; omega)) (fun g3 => ?_) (fun g3 => ?_)
            · exact absurd g3 (by decide)
            · exact hscD _ s hP2 h72 h22 h32 h82 m2 (by omega) hc hd (Nat.le_refl _) s2 rfl
        · exact absurd rfl g2
      · refine zW_if_eq (tgt := 167) dX6_advance_99 (by decide) (by first | assumption | omega | (unfold InR; omega) | (unfold InL; omega) | (simp only [InR] at *; omega)) (fun g2 => ?_) (fun g2 => ?_)
        · exact absurd g2 (by decide)
        · exact hscL _ s hP2 h72 h22 h32 h82 m2 (by omega) hc (Nat.le_refl _) s2 rfl
    · refine zW_aload_n dX6_advance_79 rfl ?_
      refine zW_iconst dX6_advance_80 ?_
      refine zpI dX6_advance_81 fX6_57 (by assumption) rfl (Or.inl rfl) (zst_int _) ?_
      refine zW_goto (tgt := 279) dX6_advance_84 (by decide) ?_
      refine fin _ 0 s (hP2.o (by omega)) ?_ ?_ ?_ (zO_sOs _ _ _ _) ?_ (m2.tr (mo _ _ _) (fun _ z => z)) ?_
      · rw [zO_sOk _ _ _ _ (by omega)]; exact h72
      · rw [zO_sOk _ _ _ _ (by omega)]; exact h22
      · rw [zO_sOk _ _ _ _ (by omega)]; exact h32
      · rw [zO_sOk _ _ _ _ (by omega)]; exact h82
      · unfold tok
        rw [hS9, if_pos (show n ≤ s by omega)]
  have loop : ∀ (m : Nat) (σ1 : HS) (p : Nat), m + p = n → PS σ1 q inp n tx → zO σ1 q 7 = (p : Int) → zO σ1 q 2 = 0 → zO σ1 q 3 = -1 → Md σ σ1 (qq q) → sc isSp tx n p = s → zW Γ mX6_advance 8 [some (vR (some q))] [] σ1 0 0 Q := by
    intro m
    induction m with
    | zero =>
      intro σ1 p hm hP h7 h2 h3 m1 he9
      obtain ⟨a1, a2, a3, a4, a5, a6, a7, a8, a9, a10, a11⟩ := id hP
      rw [sc_end (by omega)] at he9
      refine zW_aload_n dX6_advance_8 rfl ?_
      refine zgI dX6_advance_9 fX6_118 a1 rfl h7 ?_
      refine zW_aload_n dX6_advance_12 rfl ?_
      refine zgI dX6_advance_13 fX6_44 a1 rfl a9 ?_
      refine zW_icmp_ge (tgt := 60) dX6_advance_16 (by decide) (by first | assumption | omega | (unfold InR; omega) | (unfold InL; omega) | (simp only [InR] at *; omega)) (by first | assumption | omega | (unfold InR; omega) | (unfold InL; omega) | (simp only [InR] at *; omega)) (fun g => ?_) (fun g => ?_)
      · exact mid σ1 hP (by rw [← he9]; exact h7) h2 h3 m1
      · exact absurd g (by omega)
    | succ m ih =>
      intro σ1 p hm hP h7 h2 h3 m1 he9
      obtain ⟨a1, a2, a3, a4, a5, a6, a7, a8, a9, a10, a11⟩ := id hP
      obtain ⟨x1, x2⟩ := a11 p (by omega)
      have hst := sc_step (P := isSp) (tx := tx) (show p < n by omega)
      have more : isSp (tx p) = true → zW Γ mX6_advance 47 [some (vR (some q))] [] σ1 0 0 Q := by
        intro hc
        rw [if_pos hc] at hst
        refine zW_aload_n dX6_advance_47 rfl ?_
        refine zW_dup dX6_advance_48 rfl ?_
        refine zgI dX6_advance_49 fX6_118 a1 rfl h7 ?_
        refine zW_iconst dX6_advance_52 ?_
        refine zW_iadd dX6_advance_53 ?_
        refine zpI dX6_advance_54 fX6_118 (by assumption) rfl (Or.inl rfl) (zst_int _) ?_
        refine zW_goto (tgt := 8) dX6_advance_57 (by decide) ?_
        refine ih _ (p + 1) (by omega) (hP.o (by omega)) (zO_sOs _ _ _ _) ?_ ?_ (m1.tr (mo _ _ _) (fun _ z => z)) (by rw [← hst]; exact he9)
        all_goals rw [zO_sOk _ _ _ _ (by omega)]; assumption
      refine zW_aload_n dX6_advance_8 rfl ?_
      refine zgI dX6_advance_9 fX6_118 a1 rfl h7 ?_
      refine zW_aload_n dX6_advance_12 rfl ?_
      refine zgI dX6_advance_13 fX6_44 a1 rfl a9 ?_
      refine zW_icmp_ge (tgt := 60) dX6_advance_16 (by decide) (by first | assumption | omega | (unfold InR; omega) | (unfold InL; omega) | (simp only [InR] at *; omega)) (by first | assumption | omega | (unfold InR; omega) | (unfold InL; omega) | (simp only [InR] at *; omega)) (fun g => ?_) (fun g => ?_)
      · exact absurd g (by omega)
      · refine zW_aload_n dX6_advance_19 rfl ?_
        refine zgP dX6_advance_20 fX6_34 a1 rfl a6 ?_
        refine zW_aload_n dX6_advance_23 rfl ?_
        refine zgI dX6_advance_24 fX6_118 a1 rfl h7 ?_
        refine zrI dX6_advance_27 a7 (by first | assumption | omega | (unfold InR; omega) | (unfold InL; omega) | (simp only [InR] at *; omega)) (by first | assumption | omega | (unfold InR; omega) | (unfold InL; omega) | (simp only [InR] at *; omega)) (by first | assumption | omega | (unfold InR; omega) | (unfold InL; omega) | (simp only [InR] at *; omega)) x1 ?_
        refine zW_bipush dX6_advance_28 (by decide) ?_
        refine zW_icmp_eq (tgt := 47) dX6_advance_30 (by decide) (by first | assumption | omega | (unfold InR; omega) | (unfold InL; omega) | (simp only [InR] at *; omega)) (by first | assumption | omega | (unfold InR; omega) | (unfold InL; omega) | (simp only [InR] at *; omega)) (fun g2 => ?_) (fun g2 => ?_)
        · exact more (by unfold isSp; rw [decide_eq_true_iff]; omega)
        · refine zW_aload_n dX6_advance_33 rfl ?_
          refine zgP dX6_advance_34 fX6_34 a1 rfl a6 ?_
          refine zW_aload_n dX6_advance_37 rfl ?_
          refine zgI dX6_advance_38 fX6_118 a1 rfl h7 ?_
          refine zrI dX6_advance_41 a7 (by first | assumption | omega | (unfold InR; omega) | (unfold InL; omega) | (simp only [InR] at *; omega)) (by first | assumption | omega | (unfold InR; omega) | (unfold InL; omega) | (simp only [InR] at *; omega)) (by first | assumption | omega | (unfold InR; omega) | (unfold InL; omega) | (simp only [InR] at *; omega)) x1 ?_
          refine zW_bipush dX6_advance_42 (by decide) ?_
          refine zW_icmp_ne (tgt := 60) dX6_advance_44 (by decide) (by first | assumption | omega | (unfold InR; omega) | (unfold InL; omega) | (simp only [InR] at *; omega)) (by first | assumption | omega | (unfold InR; omega) | (unfold InL; omega) | (simp only [InR] at *; omega)) (fun g3 => ?_) (fun g3 => ?_)
          · have hc : isSp (tx p) = false := by unfold isSp; rw [decide_eq_false_iff_not]; omega
            rw [hc] at hst
            have e : p = s := by rw [← he9, hst]; rfl
            exact mid σ1 hP (by rw [← e]; exact h7) h2 h3 m1
          · exact more (by unfold isSp; rw [decide_eq_true_iff]; omega)
  obtain ⟨a1, a2, a3, a4, a5, a6, a7, a8, a9, a10, a11⟩ := id hS
  refine zW_aload_n dX6_advance_0 rfl ?_
  refine zW_aload_n dX6_advance_1 rfl ?_
  refine zgI dX6_advance_2 fX6_47 a1 rfl k8 ?_
  refine zpI dX6_advance_5 fX6_118 a1 rfl (Or.inl rfl) (zst_int _) ?_
  refine loop (n - e0) _ e0 (by omega) (hS.o (by omega)) (zO_sOs _ _ _ _) ?_ ?_ (mo _ _ _) hS9
  all_goals rw [zO_sOk _ _ _ _ (by omega)]; assumption
set_option maxRecDepth 100000 in
theorem p_advance {t : Nat × Nat × Nat} (h : PT σ q inp n tx t) (he : t.2.2 ≤ n) (hQ : ∀ σ', PT σ' q inp n tx (tok tx n t.2.2) → Md σ σ' (qq q) → Q (.inl none) σ') : zM Γ mX6_advance [vR (some q)] σ Q :=
  p_advanceE h.1 h.2.2.2.1 h.2.2.2.2.1 h.2.2.2.2.2 he hQ
end PARSER
