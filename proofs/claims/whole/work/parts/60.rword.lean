/-! the reference: words -/
def RA (σ : HS) (y o : Nat) : Prop := RK σ y ∧ zO σ y 2 = (o : Int) ∧ (o = 0 ∨ o = 12230)
/-- what is worked out -/
def RP (σ : HS) (y : Nat) (l : List Nat) : Prop := zO σ y 13 = (l.length : Int) ∧ l.length ≤ 4000 ∧ (∀ j, j < l.length → zI σ (y + 4) j = ((l.getD j 0 : Nat) : Int)) ∧ lt8 l
section RFRAME
variable {σ σ' : HS} {y o b : Nat} {l : List Nat} {Ks Rs : List Nat}
set_option maxRecDepth 100000 in
theorem RA.mr (h : RA σ y o) (m : Mr σ σ' y Ks Rs) (hk : 2 ∉ Ks := by decide) : RA σ' y o := ⟨h.1.mr m, by rw [m.o hk]; exact h.2.1, h.2.2⟩
set_option maxRecDepth 100000 in
theorem RP.mr (h : RP σ y l) (m : Mr σ σ' y Ks Rs) (hk : 13 ∉ Ks := by decide) (hr : 4 ∉ Rs := by decide) : RP σ' y l := ⟨by rw [m.o hk]; exact h.1, h.2.1, fun j hj => by rw [m.i hr]; exact h.2.2.1 j hj, h.2.2.2⟩
set_option maxRecDepth 100000 in
theorem Rw.mr (h : Rw σ y b l) (m : Mr σ σ' y Ks Rs) (hr : 1 ∉ Rs := by decide) : Rw σ' y b l := h.same (fun k _ _ => by rw [m.i hr])
set_option maxRecDepth 100000 in
theorem SR.mr {t : ST} (h : SR σ y b t) (m : Mr σ σ' y Ks Rs) (hr : 1 ∉ Rs := by decide) : SR σ' y b t := h.same (fun k _ _ => by rw [m.i hr])
end RFRAME
section RWORD
variable {Γ : GG} {σ : HS} {Q : Res → HS → Prop} {y o : Nat}
set_option maxRecDepth 100000 in
theorem r_get {k : Nat} {v : Int} (h : RA σ y o) (hk : o + k < 13453) (hv : zI σ (y + 1) (o + k) = v) (hQ : Q (.inl (some (vI v))) σ) : zM Γ mX10_get [vR (some y), vI k] σ Q := by
  refine zM_of (n := 0) (by decide +kernel) rfl rfl rfl ?_
  refine zW_aload_n dX10_get_0 rfl ?_
  refine zgP dX10_get_1 fX10_7 h.1.1 rfl h.1.p_states ?_
  refine zW_aload_n dX10_get_4 rfl ?_
  refine zgI dX10_get_5 fX10_78 h.1.1 rfl h.2.1 ?_
  refine zW_iload_n dX10_get_8 rfl ?_
  refine zW_iadd dX10_get_9 ?_
  refine zrI dX10_get_10 h.1.k_states (by first | assumption | omega | (unfold InR; omega) | (unfold InL; omega) | (simp only [InR] at *; omega)) (by first | assumption | omega | (unfold InR; omega) | (unfold InL; omega) | (simp only [InR] at *; omega)) (by first | assumption | omega | (unfold InR; omega) | (unfold InL; omega) | (simp only [InR] at *; omega)) (zix (f := zI σ (y + 1)) (j := o + k) (by omega) hv) ?_
  refine zW_ireturn dX10_get_11 rfl rfl (by first | decide | (show _ ≤ (0 : Nat); omega)) (by first | decide | (show _ ≤ (0 : Nat); omega)) ?_
  exact hQ
set_option maxRecDepth 100000 in
theorem r_set {k : Nat} {v : Int} (h : RA σ y o) (hk : o + k < 13453) (hQ : Q (.inl none) (sI σ (y + 1) (o + k) v)) : zM Γ mX10_set [vR (some y), vI k, vI v] σ Q := by
  refine zM_of (n := 0) (by decide +kernel) rfl rfl rfl ?_
  have e9 : ((o : Int) + (k : Int)).toNat = o + k := by omega
  refine zW_aload_n dX10_set_0 rfl ?_
  refine zgP dX10_set_1 fX10_7 h.1.1 rfl h.1.p_states ?_
  refine zW_aload_n dX10_set_4 rfl ?_
  refine zgI dX10_set_5 fX10_78 h.1.1 rfl h.2.1 ?_
  refine zW_iload_n dX10_set_8 rfl ?_
  refine zW_iadd dX10_set_9 ?_
  refine zW_iload_n dX10_set_10 rfl ?_
  refine zW_iast dX10_set_11 h.1.k_states (by first | assumption | omega | (unfold InR; omega) | (unfold InL; omega) | (simp only [InR] at *; omega)) (by first | assumption | omega | (unfold InR; omega) | (unfold InL; omega) | (simp only [InR] at *; omega)) (by first | assumption | omega | (unfold InR; omega) | (unfold InL; omega) | (simp only [InR] at *; omega)) ?_
  refine zW_return dX10_set_12 rfl (by first | decide | (show _ ≤ (0 : Nat); omega)) (by first | decide | (show _ ≤ (0 : Nat); omega)) ?_
  rw [e9]
  exact hQ
set_option maxRecDepth 100000 in
theorem r_register {r : Int} (hr : inR8 r) (hQ : Q (.inl (some (vI ((1 + 61 * r.toNat : Nat) : Int)))) σ) : zM Γ mX10_register [vI r] σ Q := by
  have e9 : 1 + 61 * r = ((1 + 61 * r.toNat : Nat) : Int) := by unfold inR8 at hr; omega
  refine zM_of (n := 0) (by decide +kernel) rfl rfl rfl ?_
  refine zW_iconst dX10_register_0 ?_
  refine zW_bipush dX10_register_1 (by decide) ?_
  refine zW_iload_n dX10_register_3 rfl ?_
  refine zW_imul dX10_register_4 ?_
  refine zW_iadd dX10_register_5 ?_
  refine zW_ireturn dX10_register_6 rfl rfl (by first | decide | (show _ ≤ (0 : Nat); omega)) (by first | decide | (show _ ≤ (0 : Nat); omega)) ?_
  rw [e9]
  exact hQ
set_option maxRecDepth 100000 in
theorem r_wordsOf {g : Int} (hg : inR2 g) (hQ : Q (.inl (some (vI ((489 + 367 * g.toNat : Nat) : Int)))) σ) : zM Γ mX10_wordsOf [vI g] σ Q := by
  have e9 : 489 + 367 * g = ((489 + 367 * g.toNat : Nat) : Int) := by unfold inR2 at hg; omega
  refine zM_of (n := 0) (by decide +kernel) rfl rfl rfl ?_
  refine zW_sipush dX10_wordsOf_0 (by decide) ?_
  refine zW_sipush dX10_wordsOf_3 (by decide) ?_
  refine zW_iload_n dX10_wordsOf_6 rfl ?_
  refine zW_imul dX10_wordsOf_7 ?_
  refine zW_iadd dX10_wordsOf_8 ?_
  refine zW_ireturn dX10_wordsOf_9 rfl rfl (by first | decide | (show _ ≤ (0 : Nat); omega)) (by first | decide | (show _ ≤ (0 : Nat); omega)) ?_
  rw [e9]
  exact hQ
set_option maxRecDepth 100000 in
theorem r_generating {g : Int} {k : Nat} (hg : inR2 g) (hQ : Q (.inl (some (vI ((490 + 367 * g.toNat + 61 * k : Nat) : Int)))) σ) : zM Γ mX10_generating [vI g, vI k] σ Q := by
  have e9 : ((489 + 367 * g.toNat : Nat) : Int) + 1 + 61 * (k : Int) = ((490 + 367 * g.toNat + 61 * k : Nat) : Int) := by omega
  refine zM_of (n := 0) (by decide +kernel) rfl rfl rfl ?_
  refine zW_iload_n dX10_generating_0 rfl ?_
  refine zcS1 dX10_generating_1 rfl eX10_wordsOf b1462 ⟨by decide, by decide, by decide, by decide⟩ rfl (Nat.le_of_ble_eq_true rfl) (r_wordsOf hg ?_)
  refine zW_iconst dX10_generating_4 ?_
  refine zW_iadd dX10_generating_5 ?_
  refine zW_bipush dX10_generating_6 (by decide) ?_
  refine zW_iload_n dX10_generating_8 rfl ?_
  refine zW_imul dX10_generating_9 ?_
  refine zW_iadd dX10_generating_10 ?_
  refine zW_ireturn dX10_generating_11 rfl rfl (by first | decide | (show _ ≤ (0 : Nat); omega)) (by first | decide | (show _ ≤ (0 : Nat); omega)) ?_
  rw [e9]
  exact hQ
set_option maxRecDepth 100000 in
theorem r_codeAt {w i : Nat} {l : List Nat} (h : RA σ y o) (hw : Rw σ y (o + w) l) (hi : i < l.length) (hb : o + w + 61 ≤ 13453) (hQ : Q (.inl (some (vI ((l.getD i 0 : Nat) : Int)))) σ) : zM Γ mX10_codeAt [vR (some y), vI w, vI i] σ Q := by
  have e9 : (w : Int) + 1 + (i : Int) = ((w + 1 + i : Nat) : Int) := by omega
  have hl := hw.2.1
  refine zM_of (n := 0) (by decide +kernel) rfl rfl rfl ?_
  refine zW_aload_n dX10_codeAt_0 rfl ?_
  refine zW_iload_n dX10_codeAt_1 rfl ?_
  refine zW_iconst dX10_codeAt_2 ?_
  refine zW_iadd dX10_codeAt_3 ?_
  refine zW_iload_n dX10_codeAt_4 rfl ?_
  refine zW_iadd dX10_codeAt_5 ?_
  rw [e9]
  refine zcV1 dX10_codeAt_6 rfl eX10_get b1443 ⟨by decide, by decide, by decide, by decide⟩ rfl h.1.1 rfl (by decide) (Nat.le_of_ble_eq_true rfl) (r_get h (by omega) (zix (f := zI σ (y + 1)) (by omega) (hw.2.2.1 i hi)) ?_)
  refine zW_ireturn dX10_codeAt_9 rfl rfl (by first | decide | (show _ ≤ (0 : Nat); omega)) (by first | decide | (show _ ≤ (0 : Nat); omega)) ?_
  exact hQ
set_option maxRecDepth 100000 in
theorem r_isRegister {r : Int} (ir : InR r) (h1 : inR8 r → Q (.inl (some (vI 1))) σ) (h0 : ¬ inR8 r → Q (.inl (some (vI 0))) σ) : zM Γ mX10_isRegister [vI r] σ Q := by
  refine zM_of (n := 0) (by decide +kernel) rfl rfl rfl ?_
  refine zW_iload_n dX10_isRegister_0 rfl ?_
  refine zW_if_lt (tgt := 14) dX10_isRegister_1 (by decide) (by first | assumption | omega | (unfold InR; omega) | (unfold InL; omega) | (simp only [InR] at *; omega)) (fun q => ?_) (fun q => ?_)
  · refine zW_iconst dX10_isRegister_14 ?_
    refine zW_ireturn dX10_isRegister_15 rfl rfl (by first | decide | (show _ ≤ (0 : Nat); omega)) (by first | decide | (show _ ≤ (0 : Nat); omega)) ?_
    exact h0 (fun z => by unfold inR8 at z; omega)
  · refine zW_iload_n dX10_isRegister_4 rfl ?_
    refine zW_bipush dX10_isRegister_5 (by decide) ?_
    refine zW_icmp_ge (tgt := 14) dX10_isRegister_7 (by decide) (by first | assumption | omega | (unfold InR; omega) | (unfold InL; omega) | (simp only [InR] at *; omega)) (by first | assumption | omega | (unfold InR; omega) | (unfold InL; omega) | (simp only [InR] at *; omega)) (fun q2 => ?_) (fun q2 => ?_)
    · refine zW_iconst dX10_isRegister_14 ?_
      refine zW_ireturn dX10_isRegister_15 rfl rfl (by first | decide | (show _ ≤ (0 : Nat); omega)) (by first | decide | (show _ ≤ (0 : Nat); omega)) ?_
      exact h0 (fun z => by unfold inR8 at z; omega)
    · refine zW_iconst dX10_isRegister_10 ?_
      refine zW_goto (tgt := 15) dX10_isRegister_11 (by decide) ?_
      refine zW_ireturn dX10_isRegister_15 rfl rfl (by first | decide | (show _ ≤ (0 : Nat); omega)) (by first | decide | (show _ ≤ (0 : Nat); omega)) ?_
      exact h1 ⟨by omega, by omega⟩
set_option maxRecDepth 100000 in
theorem r_areRegisters {r s : Int} (ir : InR r) (is : InR s) (h1 : inR8 r → inR8 s → Q (.inl (some (vI 1))) σ) (h0 : ¬ (inR8 r ∧ inR8 s) → Q (.inl (some (vI 0))) σ) : zM Γ mX10_areRegisters [vI r, vI s] σ Q := by
  refine zM_of (n := 0) (by decide +kernel) rfl rfl rfl ?_
  refine zW_iload_n dX10_areRegisters_0 rfl ?_
  refine zcS1 dX10_areRegisters_1 rfl eX10_isRegister b1492 ⟨by decide, by decide, by decide, by decide⟩ rfl (Nat.le_of_ble_eq_true rfl) (r_isRegister ir (fun k1 => ?_) (fun k1 => ?_))
  · refine zW_if_eq (tgt := 18) dX10_areRegisters_4 (by decide) (by first | assumption | omega | (unfold InR; omega) | (unfold InL; omega) | (simp only [InR] at *; omega)) (fun q => ?_) (fun q => ?_)
    · exact absurd q (by decide)
    · refine zW_iload_n dX10_areRegisters_7 rfl ?_
      refine zcS1 dX10_areRegisters_8 rfl eX10_isRegister b1492 ⟨by decide, by decide, by decide, by decide⟩ rfl (Nat.le_of_ble_eq_true rfl) (r_isRegister is (fun k2 => ?_) (fun k2 => ?_))
      · refine zW_if_eq (tgt := 18) dX10_areRegisters_11 (by decide) (by first | assumption | omega | (unfold InR; omega) | (unfold InL; omega) | (simp only [InR] at *; omega)) (fun q2 => ?_) (fun q2 => ?_)
        · exact absurd q2 (by decide)
        · refine zW_iconst dX10_areRegisters_14 ?_
          refine zW_goto (tgt := 19) dX10_areRegisters_15 (by decide) ?_
          refine zW_ireturn dX10_areRegisters_19 rfl rfl (by first | decide | (show _ ≤ (0 : Nat); omega)) (by first | decide | (show _ ≤ (0 : Nat); omega)) ?_
          exact h1 k1 k2
      · refine zW_if_eq (tgt := 18) dX10_areRegisters_11 (by decide) (by first | assumption | omega | (unfold InR; omega) | (unfold InL; omega) | (simp only [InR] at *; omega)) (fun q2 => ?_) (fun q2 => ?_)
        · refine zW_iconst dX10_areRegisters_18 ?_
          refine zW_ireturn dX10_areRegisters_19 rfl rfl (by first | decide | (show _ ≤ (0 : Nat); omega)) (by first | decide | (show _ ≤ (0 : Nat); omega)) ?_
          exact h0 (fun z => k2 z.2)
        · exact absurd rfl q2
  · refine zW_if_eq (tgt := 18) dX10_areRegisters_4 (by decide) (by first | assumption | omega | (unfold InR; omega) | (unfold InL; omega) | (simp only [InR] at *; omega)) (fun q => ?_) (fun q => ?_)
    · refine zW_iconst dX10_areRegisters_18 ?_
      refine zW_ireturn dX10_areRegisters_19 rfl rfl (by first | decide | (show _ ≤ (0 : Nat); omega)) (by first | decide | (show _ ≤ (0 : Nat); omega)) ?_
      exact h0 (fun z => k1 z.1)
    · exact absurd rfl q
set_option maxRecDepth 100000 in
theorem r_isSubgroup {r : Int} (ir : InR r) (h1 : inR2 r → Q (.inl (some (vI 1))) σ) (h0 : ¬ inR2 r → Q (.inl (some (vI 0))) σ) : zM Γ mX10_isSubgroup [vI r] σ Q := by
  refine zM_of (n := 0) (by decide +kernel) rfl rfl rfl ?_
  refine zW_iload_n dX10_isSubgroup_0 rfl ?_
  refine zW_if_lt (tgt := 13) dX10_isSubgroup_1 (by decide) (by first | assumption | omega | (unfold InR; omega) | (unfold InL; omega) | (simp only [InR] at *; omega)) (fun q => ?_) (fun q => ?_)
  · refine zW_iconst dX10_isSubgroup_13 ?_
    refine zW_ireturn dX10_isSubgroup_14 rfl rfl (by first | decide | (show _ ≤ (0 : Nat); omega)) (by first | decide | (show _ ≤ (0 : Nat); omega)) ?_
    exact h0 (fun z => by unfold inR2 at z; omega)
  · refine zW_iload_n dX10_isSubgroup_4 rfl ?_
    refine zW_iconst dX10_isSubgroup_5 ?_
    refine zW_icmp_ge (tgt := 13) dX10_isSubgroup_6 (by decide) (by first | assumption | omega | (unfold InR; omega) | (unfold InL; omega) | (simp only [InR] at *; omega)) (by first | assumption | omega | (unfold InR; omega) | (unfold InL; omega) | (simp only [InR] at *; omega)) (fun q2 => ?_) (fun q2 => ?_)
    · refine zW_iconst dX10_isSubgroup_13 ?_
      refine zW_ireturn dX10_isSubgroup_14 rfl rfl (by first | decide | (show _ ≤ (0 : Nat); omega)) (by first | decide | (show _ ≤ (0 : Nat); omega)) ?_
      exact h0 (fun z => by unfold inR2 at z; omega)
    · refine zW_iconst dX10_isSubgroup_9 ?_
      refine zW_goto (tgt := 14) dX10_isSubgroup_10 (by decide) ?_
      refine zW_ireturn dX10_isSubgroup_14 rfl rfl (by first | decide | (show _ ≤ (0 : Nat); omega)) (by first | decide | (show _ ≤ (0 : Nat); omega)) ?_
      exact h1 ⟨by omega, by omega⟩
set_option maxRecDepth 100000 in
theorem r_isGenerator {r : Int} {k : Nat} (h : RA σ y o) (ir : InR r) (hk : zI σ (y + 1) (o + 0) = (k : Int)) (hk4 : k ≤ 4) (h1 : 0 ≤ r ∧ r < k → Q (.inl (some (vI 1))) σ) (h0 : ¬ (0 ≤ r ∧ r < k) → Q (.inl (some (vI 0))) σ) : zM Γ mX10_isGenerator [vR (some y), vI r] σ Q := by
  have ho := h.2.2
  refine zM_of (n := 0) (by decide +kernel) rfl rfl rfl ?_
  refine zW_iload_n dX10_isGenerator_0 rfl ?_
  refine zW_if_lt (tgt := 17) dX10_isGenerator_1 (by decide) (by first | assumption | omega | (unfold InR; omega) | (unfold InL; omega) | (simp only [InR] at *; omega)) (fun q => ?_) (fun q => ?_)
  · refine zW_iconst dX10_isGenerator_17 ?_
    refine zW_ireturn dX10_isGenerator_18 rfl rfl (by first | decide | (show _ ≤ (0 : Nat); omega)) (by first | decide | (show _ ≤ (0 : Nat); omega)) ?_
    exact h0 (fun z => by omega)
  · refine zW_iload_n dX10_isGenerator_4 rfl ?_
    refine zW_aload_n dX10_isGenerator_5 rfl ?_
    refine zW_iconst dX10_isGenerator_6 ?_
    refine zcV1 dX10_isGenerator_7 rfl eX10_get b1443 ⟨by decide, by decide, by decide, by decide⟩ rfl h.1.1 rfl (by decide) (Nat.le_of_ble_eq_true rfl) (r_get (k := 0) h (by omega) hk ?_)
    refine zW_icmp_ge (tgt := 17) dX10_isGenerator_10 (by decide) (by first | assumption | omega | (unfold InR; omega) | (unfold InL; omega) | (simp only [InR] at *; omega)) (by first | assumption | omega | (unfold InR; omega) | (unfold InL; omega) | (simp only [InR] at *; omega)) (fun q2 => ?_) (fun q2 => ?_)
    · refine zW_iconst dX10_isGenerator_17 ?_
      refine zW_ireturn dX10_isGenerator_18 rfl rfl (by first | decide | (show _ ≤ (0 : Nat); omega)) (by first | decide | (show _ ≤ (0 : Nat); omega)) ?_
      exact h0 (fun z => by omega)
    · refine zW_iconst dX10_isGenerator_13 ?_
      refine zW_goto (tgt := 18) dX10_isGenerator_14 (by decide) ?_
      refine zW_ireturn dX10_isGenerator_18 rfl rfl (by first | decide | (show _ ≤ (0 : Nat); omega)) (by first | decide | (show _ ≤ (0 : Nat); omega)) ?_
      exact h1 ⟨by omega, by omega⟩
set_option maxRecDepth 100000 in
theorem r_letterOf {c : Nat} (hc : c < 8) (hQ : Q (.inl (some (vI (lco c : Nat)))) σ) : zM Γ mX10_letterOf [vI c] σ Q := by
  have hl := lco_lt hc
  have em : (c : Int) % 2 = ((c % 2 : Nat) : Int) := by omega
  refine zM_of (n := 0) (by decide +kernel) rfl rfl rfl ?_
  refine zW_iload_n dX10_letterOf_0 rfl ?_
  refine zW_iconst dX10_letterOf_1 ?_
  refine zW_irem dX10_letterOf_2 (by first | assumption | omega | (unfold InR; omega) | (unfold InL; omega) | (simp only [InR] at *; omega)) (by first | assumption | omega | (unfold InR; omega) | (unfold InL; omega) | (simp only [InR] at *; omega)) (by first | assumption | omega | (unfold InR; omega) | (unfold InL; omega) | (simp only [InR] at *; omega)) (by first | assumption | omega | (unfold InR; omega) | (unfold InL; omega) | (simp only [InR] at *; omega)) ?_
  refine zW_if_ne (tgt := 11) dX10_letterOf_3 (by decide) (by first | assumption | omega | (unfold InR; omega) | (unfold InL; omega) | (simp only [InR] at *; omega)) (fun q => ?_) (fun q => ?_)
  · have e : (65 : Int) + (c : Int) / 2 = (lco c : Nat) := by unfold lco; rw [if_neg (by omega)]; omega
    refine zW_bipush dX10_letterOf_11 (by decide) ?_
    refine zW_iload_n dX10_letterOf_13 rfl ?_
    refine zW_iconst dX10_letterOf_14 ?_
    refine zW_idiv dX10_letterOf_15 (by first | assumption | omega | (unfold InR; omega) | (unfold InL; omega) | (simp only [InR] at *; omega)) (by first | assumption | omega | (unfold InR; omega) | (unfold InL; omega) | (simp only [InR] at *; omega)) (by first | assumption | omega | (unfold InR; omega) | (unfold InL; omega) | (simp only [InR] at *; omega)) (by first | assumption | omega | (unfold InR; omega) | (unfold InL; omega) | (simp only [InR] at *; omega)) ?_
    refine zW_iadd dX10_letterOf_16 ?_
    refine zW_i2cN dX10_letterOf_17 e (by omega) ?_
    refine zW_ireturn dX10_letterOf_18 rfl (znc _ (by omega)) (by first | decide | (show _ ≤ (0 : Nat); omega)) (by first | decide | (show _ ≤ (0 : Nat); omega)) ?_
    exact hQ
  · have e : (97 : Int) + (c : Int) / 2 = (lco c : Nat) := by unfold lco; rw [if_pos (by omega)]; omega
    refine zW_bipush dX10_letterOf_6 (by decide) ?_
    refine zW_goto (tgt := 13) dX10_letterOf_8 (by decide) ?_
    refine zW_iload_n dX10_letterOf_13 rfl ?_
    refine zW_iconst dX10_letterOf_14 ?_
    refine zW_idiv dX10_letterOf_15 (by first | assumption | omega | (unfold InR; omega) | (unfold InL; omega) | (simp only [InR] at *; omega)) (by first | assumption | omega | (unfold InR; omega) | (unfold InL; omega) | (simp only [InR] at *; omega)) (by first | assumption | omega | (unfold InR; omega) | (unfold InL; omega) | (simp only [InR] at *; omega)) (by first | assumption | omega | (unfold InR; omega) | (unfold InL; omega) | (simp only [InR] at *; omega)) ?_
    refine zW_iadd dX10_letterOf_16 ?_
    refine zW_i2cN dX10_letterOf_17 e (by omega) ?_
    refine zW_ireturn dX10_letterOf_18 rfl (znc _ (by omega)) (by first | decide | (show _ ≤ (0 : Nat); omega)) (by first | decide | (show _ ≤ (0 : Nat); omega)) ?_
    exact hQ
set_option maxRecDepth 100000 in
theorem r_codeOf {b k : Nat} (h : RA σ y o) (hk : zI σ (y + 1) (o + 0) = (k : Int)) (hk4 : k ≤ 4) (hb : b < 256) (hQ : Q (.inl (some (vI (cob b k)))) σ) : zM Γ mX10_codeOf [vR (some y), vI (sgn b)] σ Q := by
  have ho := h.2.2
  have hs : sgn b = if b < 128 then (b : Int) else (b : Int) - 256 := rfl
  have hs2 : -128 ≤ sgn b ∧ sgn b < 128 := by rw [hs]; split <;> omega
  refine zM_of (n := 1) (by decide +kernel) rfl rfl rfl ?_
  have bad : ∀ z, cob b k = -1 → zW Γ mX10_codeOf 53 [some (vR (some y)), some (vI (sgn b)), z] [] σ 0 0 Q := by
    intro z e
    refine zW_iconst dX10_codeOf_53 ?_
    refine zW_goto (tgt := 58) dX10_codeOf_54 (by decide) ?_
    refine zW_ireturn dX10_codeOf_58 rfl rfl (by first | decide | (show _ ≤ (0 : Nat); omega)) (by first | decide | (show _ ≤ (0 : Nat); omega)) ?_
    rw [e] at hQ
    exact hQ
  have good : ∀ v : Int, -300 ≤ v ∧ v ≤ 300 → (v < 2 * (k : Int) → cob b k = v) → (2 * (k : Int) ≤ v → cob b k = -1) → zW Γ mX10_codeOf 42 [some (vR (some y)), some (vI (sgn b)), some (vI v)] [] σ 0 0 Q := by
    intro v hv e1 e2
    refine zW_iload_n dX10_codeOf_42 rfl ?_
    refine zW_iconst dX10_codeOf_43 ?_
    refine zW_aload_n dX10_codeOf_44 rfl ?_
    refine zW_iconst dX10_codeOf_45 ?_
    refine zcV1 dX10_codeOf_46 rfl eX10_get b1443 ⟨by decide, by decide, by decide, by decide⟩ rfl h.1.1 rfl (by decide) (Nat.le_of_ble_eq_true rfl) (r_get (k := 0) h (by omega) hk ?_)
    refine zW_imul dX10_codeOf_49 ?_
    refine zW_icmp_lt (tgt := 57) dX10_codeOf_50 (by decide) (by first | assumption | omega | (unfold InR; omega) | (unfold InL; omega) | (simp only [InR] at *; omega)) (by first | assumption | omega | (unfold InR; omega) | (unfold InL; omega) | (simp only [InR] at *; omega)) (fun q => ?_) (fun q => ?_)
    · refine zW_iload_n dX10_codeOf_57 rfl ?_
      refine zW_ireturn dX10_codeOf_58 rfl rfl (by first | decide | (show _ ≤ (0 : Nat); omega)) (by first | decide | (show _ ≤ (0 : Nat); omega)) ?_
      rw [e1 (by omega)] at hQ
      exact hQ
    · exact bad _ (e2 (by omega))
  have rest : ∀ v : Int, -400 ≤ v ∧ v ≤ 300 → (65 ≤ sgn b → -300 ≤ v) → (65 ≤ sgn b ∧ (sgn b ≤ 90 ∨ 97 ≤ sgn b) → v < 2 * (k : Int) → cob b k = v) → (65 ≤ sgn b ∧ (sgn b ≤ 90 ∨ 97 ≤ sgn b) → 2 * (k : Int) ≤ v → cob b k = -1) → zW Γ mX10_codeOf 24 [some (vR (some y)), some (vI (sgn b)), some (vI v)] [] σ 0 0 Q := by
    intro v hv hv2 e1 e2
    have no : sgn b < 65 ∨ (90 < sgn b ∧ sgn b < 97) → cob b k = -1 := by
      intro z
      unfold cob
      rw [if_neg (by split at hs <;> omega), if_neg (by split at hs <;> omega)]
    refine zW_iload_n dX10_codeOf_24 rfl ?_
    refine zW_bipush dX10_codeOf_25 (by decide) ?_
    refine zW_icmp_lt (tgt := 53) dX10_codeOf_27 (by decide) (by first | assumption | omega | (unfold InR; omega) | (unfold InL; omega) | (simp only [InR] at *; omega)) (by first | assumption | omega | (unfold InR; omega) | (unfold InL; omega) | (simp only [InR] at *; omega)) (fun q => ?_) (fun q => ?_)
    · exact bad _ (no (by omega))
    · refine zW_iload_n dX10_codeOf_30 rfl ?_
      refine zW_bipush dX10_codeOf_31 (by decide) ?_
      refine zW_icmp_le (tgt := 42) dX10_codeOf_33 (by decide) (by first | assumption | omega | (unfold InR; omega) | (unfold InL; omega) | (simp only [InR] at *; omega)) (by first | assumption | omega | (unfold InR; omega) | (unfold InL; omega) | (simp only [InR] at *; omega)) (fun q2 => ?_) (fun q2 => ?_)
      · exact good v (by omega) (fun z => e1 ⟨by omega, by omega⟩ z) (fun z => e2 ⟨by omega, by omega⟩ z)
      · refine zW_iload_n dX10_codeOf_36 rfl ?_
        refine zW_bipush dX10_codeOf_37 (by decide) ?_
        refine zW_icmp_lt (tgt := 53) dX10_codeOf_39 (by decide) (by first | assumption | omega | (unfold InR; omega) | (unfold InL; omega) | (simp only [InR] at *; omega)) (by first | assumption | omega | (unfold InR; omega) | (unfold InL; omega) | (simp only [InR] at *; omega)) (fun q3 => ?_) (fun q3 => ?_)
        · exact bad _ (no (by omega))
        · exact good v (by omega) (fun z => e1 ⟨by omega, by omega⟩ z) (fun z => e2 ⟨by omega, by omega⟩ z)
  refine zW_iload_n dX10_codeOf_0 rfl ?_
  refine zW_bipush dX10_codeOf_1 (by decide) ?_
  refine zW_icmp_lt (tgt := 15) dX10_codeOf_3 (by decide) (by first | assumption | omega | (unfold InR; omega) | (unfold InL; omega) | (simp only [InR] at *; omega)) (by first | assumption | omega | (unfold InR; omega) | (unfold InL; omega) | (simp only [InR] at *; omega)) (fun q => ?_) (fun q => ?_)
  · refine zW_iconst dX10_codeOf_15 ?_
    refine zW_iload_n dX10_codeOf_16 rfl ?_
    refine zW_bipush dX10_codeOf_17 (by decide) ?_
    refine zW_isub dX10_codeOf_19 ?_
    refine zW_imul dX10_codeOf_20 ?_
    refine zW_iconst dX10_codeOf_21 ?_
    refine zW_iadd dX10_codeOf_22 ?_
    refine zW_istore_n dX10_codeOf_23 (by decide) rfl rfl ?_
    refine rest _ (by omega) (fun z => by omega) (fun z z2 => ?_) (fun z z2 => ?_)
    · unfold cob
      rw [if_neg (by split at hs <;> omega), if_pos (by split at hs <;> omega)]
      split at hs <;> omega
    · unfold cob
      rw [if_neg (by split at hs <;> omega), if_neg (by split at hs <;> omega)]
  · refine zW_iconst dX10_codeOf_6 ?_
    refine zW_iload_n dX10_codeOf_7 rfl ?_
    refine zW_bipush dX10_codeOf_8 (by decide) ?_
    refine zW_isub dX10_codeOf_10 ?_
    refine zW_imul dX10_codeOf_11 ?_
    refine zW_goto (tgt := 23) dX10_codeOf_12 (by decide) ?_
    refine zW_istore_n dX10_codeOf_23 (by decide) rfl rfl ?_
    refine rest _ (by omega) (fun z => by omega) (fun z z2 => ?_) (fun z z2 => ?_)
    · unfold cob
      rw [if_pos (by split at hs <;> omega)]
      split at hs <;> omega
    · unfold cob
      rw [if_neg (by split at hs <;> omega), if_neg (by split at hs <;> omega)]
set_option maxRecDepth 100000 in
theorem r_begins (h : RK σ y) (hQ : ∀ σ', RP σ' y [] → Mr σ σ' y [13] [4] → Q (.inl none) σ') : zM Γ mX10_begins [vR (some y)] σ Q := by
  refine zM_of (n := 0) (by decide +kernel) rfl rfl rfl ?_
  refine zW_aload_n dX10_begins_0 rfl ?_
  refine zW_iconst dX10_begins_1 ?_
  refine zpI dX10_begins_2 fX10_101 h.1 rfl (Or.inl rfl) (zst_int _) ?_
  refine zW_return dX10_begins_5 rfl (by first | decide | (show _ ≤ (0 : Nat); omega)) (by first | decide | (show _ ≤ (0 : Nat); omega)) ?_
  exact hQ _ ⟨zO_sOs _ _ _ _, Nat.zero_le _, fun j hj => absurd hj (Nat.not_lt_zero j), fun z hz => by cases hz⟩ (Mr.O (by decide))
set_option maxRecDepth 100000 in
theorem r_pushes {x : Nat} {l : List Nat} (h : RK σ y) (hp : RP σ y l) (hx : x < 8) (hn : l.length < 4000) (hQ : ∀ σ', RP σ' y (pw l x) → Mr σ σ' y [13] [4] → Q (.inl none) σ') : zM Γ mX10_pushes [vR (some y), vI x] σ Q := by
  obtain ⟨hlen, hle, hget, hlt⟩ := id hp
  refine zM_of (n := 0) (by decide +kernel) rfl rfl rfl ?_
  have tail : pw l x = l ++ [x] → zW Γ mX10_pushes 35 [some (vR (some y)), some (vI x)] [] σ 0 0 Q := by
    intro e
    refine zW_aload_n dX10_pushes_35 rfl ?_
    refine zgP dX10_pushes_36 fX10_21 h.1 rfl h.p_work ?_
    refine zW_aload_n dX10_pushes_39 rfl ?_
    refine zgI dX10_pushes_40 fX10_101 h.1 rfl hlen ?_
    refine zW_iload_n dX10_pushes_43 rfl ?_
    refine zW_iast dX10_pushes_44 h.k_work (by first | assumption | omega | (unfold InR; omega) | (unfold InL; omega) | (simp only [InR] at *; omega)) (by first | assumption | omega | (unfold InR; omega) | (unfold InL; omega) | (simp only [InR] at *; omega)) (by first | assumption | omega | (unfold InR; omega) | (unfold InL; omega) | (simp only [InR] at *; omega)) ?_
    refine zW_aload_n dX10_pushes_45 rfl ?_
    refine zW_dup dX10_pushes_46 rfl ?_
    refine zgI dX10_pushes_47 fX10_101 h.1 rfl hlen ?_
    refine zW_iconst dX10_pushes_50 ?_
    refine zW_iadd dX10_pushes_51 ?_
    refine zpI dX10_pushes_52 fX10_101 h.1 rfl (Or.inl rfl) (zst_int _) ?_
    refine zW_return dX10_pushes_55 rfl (by first | decide | (show _ ≤ (0 : Nat); omega)) (by first | decide | (show _ ≤ (0 : Nat); omega)) ?_
    refine hQ _ ?_ ((Mr.I (by decide)).tr (Mr.O (by decide)))
    rw [e]
    refine ⟨?_, by simp; omega, fun j hj => ?_, fun z hz => ?_⟩
    · rw [zO_sOs]; simp
    · rw [zI_sO, zI_sI]
      by_cases hjl : j = l.length
      · rw [if_pos ⟨rfl, by omega⟩, hjl]; simp
      · have : j < l.length := by simp at hj; omega
        rw [if_neg (fun q => hjl (by omega)), hget j this]
        simp [List.getD_eq_getElem?_getD, List.getElem?_append_left this]
    · rcases List.mem_append.mp hz with h | h
      · exact hlt z h
      · rw [List.mem_singleton.mp h]; exact hx
  refine zW_aload_n dX10_pushes_0 rfl ?_
  refine zgI dX10_pushes_1 fX10_101 h.1 rfl hlen ?_
  refine zW_if_le (tgt := 35) dX10_pushes_4 (by decide) (by first | assumption | omega | (unfold InR; omega) | (unfold InL; omega) | (simp only [InR] at *; omega)) (fun h1 => ?_) (fun h1 => ?_)
  · refine tail ?_
    have : l = [] := List.eq_nil_of_length_eq_zero (by omega)
    subst this
    rfl
  · have h2 : 0 < l.length := by omega
    have h8 := x1_lt hx
    have h7 := getD_lt hlt (i := l.length - 1) (by omega)
    have e9 : ((l.length : Int) - 1).toNat = l.length - 1 := by omega
    refine zW_aload_n dX10_pushes_7 rfl ?_
    refine zgP dX10_pushes_8 fX10_21 h.1 rfl h.p_work ?_
    refine zW_aload_n dX10_pushes_11 rfl ?_
    refine zgI dX10_pushes_12 fX10_101 h.1 rfl hlen ?_
    refine zW_iconst dX10_pushes_15 ?_
    refine zW_isub dX10_pushes_16 ?_
    refine zrI dX10_pushes_17 h.k_work (by first | assumption | omega | (unfold InR; omega) | (unfold InL; omega) | (simp only [InR] at *; omega)) (by first | assumption | omega | (unfold InR; omega) | (unfold InL; omega) | (simp only [InR] at *; omega)) (by first | assumption | omega | (unfold InR; omega) | (unfold InL; omega) | (simp only [InR] at *; omega)) (zix (f := zI σ (y + 4)) e9 (hget _ (by omega))) ?_
    refine zW_iload_n dX10_pushes_18 rfl ?_
    refine zW_iconst dX10_pushes_19 ?_
    refine zW_ixor1 dX10_pushes_20 hx ?_
    refine zW_icmp_ne (tgt := 35) dX10_pushes_21 (by decide) (by first | assumption | omega | (unfold InR; omega) | (unfold InL; omega) | (simp only [InR] at *; omega)) (by first | assumption | omega | (unfold InR; omega) | (unfold InL; omega) | (simp only [InR] at *; omega)) (fun h3 => ?_) (fun h3 => ?_)
    · refine tail ?_
      unfold pw
      rw [getD_last h2, if_neg]
      intro q
      have := Option.some.inj q
      omega
    · refine zW_aload_n dX10_pushes_24 rfl ?_
      refine zW_dup dX10_pushes_25 rfl ?_
      refine zgI dX10_pushes_26 fX10_101 h.1 rfl hlen ?_
      refine zW_iconst dX10_pushes_29 ?_
      refine zW_isub dX10_pushes_30 ?_
      refine zpI dX10_pushes_31 fX10_101 h.1 rfl (Or.inl rfl) (zst_int _) ?_
      refine zW_return dX10_pushes_34 rfl (by first | decide | (show _ ≤ (0 : Nat); omega)) (by first | decide | (show _ ≤ (0 : Nat); omega)) ?_
      refine hQ _ ?_ (Mr.O (by decide))
      have e : pw l x = l.dropLast := by
        unfold pw
        rw [getD_last h2, if_pos]
        congr 1
        omega
      rw [e]
      refine ⟨?_, ?_, fun j hj => ?_, fun z hz => hlt z ((List.dropLast_sublist l).subset hz)⟩
      · rw [zO_sOs, List.length_dropLast]; omega
      · rw [List.length_dropLast]; omega
      · rw [List.length_dropLast] at hj
        rw [zI_sO, hget j (by omega)]
        rw [List.getD_eq_getElem?_getD, List.getD_eq_getElem?_getD, List.getElem?_dropLast, if_pos hj]
set_option maxRecDepth 100000 in
theorem r_pushesWord {w : Nat} {l m : List Nat} (h : RA σ y o) (hw : Rw σ y (o + w) m) (hb : o + w + 61 ≤ 13453) (hp : RP σ y l) (hn : l.length + m.length ≤ 4000) (hQ : ∀ σ', RP σ' y (pws l m) → Mr σ σ' y [13] [4] → Q (.inl none) σ') : zM Γ mX10_pushesWord [vR (some y), vI w] σ Q := by
  have hm := hw.2.1
  refine zM_of (n := 1) (by decide +kernel) rfl rfl rfl ?_
  have loop : ∀ n i σ1 l1, i + n = m.length → l1.length + n ≤ 4000 → RP σ1 y l1 → Mr σ σ1 y [13] [4] → pws l1 (m.drop i) = pws l m → zW Γ mX10_pushesWord 2 [some (vR (some y)), some (vI w), some (vI i)] [] σ1 0 0 Q := by
    intro n
    induction n with
    | zero =>
      intro i σ1 l1 hi hl1 hp1 m1 he
      have h1 := h.mr m1
      have hw1 := hw.mr m1
      refine zW_iload_n dX10_pushesWord_2 rfl ?_
      refine zW_aload_n dX10_pushesWord_3 rfl ?_
      refine zW_iload_n dX10_pushesWord_4 rfl ?_
      refine zcV1 dX10_pushesWord_5 rfl eX10_get b1443 ⟨by decide, by decide, by decide, by decide⟩ rfl h1.1.1 rfl (by decide) (Nat.le_of_ble_eq_true rfl) (r_get h1 (by omega) hw1.1 ?_)
      refine zW_icmp_ge (tgt := 27) dX10_pushesWord_8 (by decide) (by first | assumption | omega | (unfold InR; omega) | (unfold InL; omega) | (simp only [InR] at *; omega)) (by first | assumption | omega | (unfold InR; omega) | (unfold InL; omega) | (simp only [InR] at *; omega)) (fun q => ?_) (fun q => ?_)
      · refine zW_return dX10_pushesWord_27 rfl (by first | decide | (show _ ≤ (0 : Nat); omega)) (by first | decide | (show _ ≤ (0 : Nat); omega)) ?_
        rw [List.drop_eq_nil_of_le (by omega), pws_nil] at he
        rw [he] at hp1
        exact hQ _ hp1 m1
      · exact absurd q (by omega)
    | succ n ih =>
      intro i σ1 l1 hi hl1 hp1 m1 he
      have h1 := h.mr m1
      have hw1 := hw.mr m1
      have hx := getD_lt hw.2.2.2 (i := i) (by omega)
      refine zW_iload_n dX10_pushesWord_2 rfl ?_
      refine zW_aload_n dX10_pushesWord_3 rfl ?_
      refine zW_iload_n dX10_pushesWord_4 rfl ?_
      refine zcV1 dX10_pushesWord_5 rfl eX10_get b1443 ⟨by decide, by decide, by decide, by decide⟩ rfl h1.1.1 rfl (by decide) (Nat.le_of_ble_eq_true rfl) (r_get h1 (by omega) hw1.1 ?_)
      refine zW_icmp_ge (tgt := 27) dX10_pushesWord_8 (by decide) (by first | assumption | omega | (unfold InR; omega) | (unfold InL; omega) | (simp only [InR] at *; omega)) (by first | assumption | omega | (unfold InR; omega) | (unfold InL; omega) | (simp only [InR] at *; omega)) (fun q => ?_) (fun q => ?_)
      · exact absurd q (by omega)
      · refine zW_aload_n dX10_pushesWord_11 rfl ?_
        refine zW_aload_n dX10_pushesWord_12 rfl ?_
        refine zW_iload_n dX10_pushesWord_13 rfl ?_
        refine zW_iload_n dX10_pushesWord_14 rfl ?_
        refine zcV2 dX10_pushesWord_15 rfl eX10_codeAt b1499 ⟨by decide, by decide, by decide, by decide⟩ rfl h1.1.1 rfl (by decide) (Nat.le_of_ble_eq_true rfl) (r_codeAt h1 hw1 (by omega) hb ?_)
        refine zcV1 dX10_pushesWord_18 rfl eX10_pushes b1447 ⟨by decide, by decide, by decide, by decide⟩ rfl h1.1.1 rfl (by decide) (Nat.le_of_ble_eq_true rfl) (r_pushes h1.1 hp1 hx (by omega) (fun σ2 hp2 m2 => ?_))
        refine zW_iinc dX10_pushesWord_21 rfl (by decide) rfl rfl ?_
        refine zW_goto (tgt := 2) dX10_pushesWord_24 (by decide) ?_
        have hpl := pw_len l1 (m.getD i 0)
        refine ih (i + 1) σ2 _ (by omega) (by omega) hp2 (m1.tr m2) ?_
        rw [← he, drop_cons (i := i) (by omega), pws_cons]
  refine zW_iconst dX10_pushesWord_0 ?_
  refine zW_istore_n dX10_pushesWord_1 (by decide) rfl rfl ?_
  exact loop m.length 0 σ l (by omega) hn hp Mr.rf (by rw [List.drop_zero])
set_option maxRecDepth 100000 in
theorem r_pushesInverse {w : Nat} {l m : List Nat} (h : RA σ y o) (hw : Rw σ y (o + w) m) (hb : o + w + 61 ≤ 13453) (hp : RP σ y l) (hn : l.length + m.length ≤ 4000) (hQ : ∀ σ', RP σ' y (pws l (invw m)) → Mr σ σ' y [13] [4] → Q (.inl none) σ') : zM Γ mX10_pushesInverse [vR (some y), vI w] σ Q := by
  have hm := hw.2.1
  refine zM_of (n := 1) (by decide +kernel) rfl rfl rfl ?_
  have loop : ∀ i σ1 l1, i ≤ m.length → l1.length + i ≤ 4000 → RP σ1 y l1 → Mr σ σ1 y [13] [4] → pws l1 (invw (m.take i)) = pws l (invw m) → zW Γ mX10_pushesInverse 8 [some (vR (some y)), some (vI w), some (vI ((i : Int) - 1))] [] σ1 0 0 Q := by
    intro i
    induction i with
    | zero =>
      intro σ1 l1 hi hl1 hp1 m1 he
      refine zW_iload_n dX10_pushesInverse_8 rfl ?_
      refine zW_if_lt (tgt := 30) dX10_pushesInverse_9 (by decide) (by first | assumption | omega | (unfold InR; omega) | (unfold InL; omega) | (simp only [InR] at *; omega)) (fun q => ?_) (fun q => ?_)
      · refine zW_return dX10_pushesInverse_30 rfl (by first | decide | (show _ ≤ (0 : Nat); omega)) (by first | decide | (show _ ≤ (0 : Nat); omega)) ?_
        rw [List.take_zero] at he
        rw [← he] at hQ
        exact hQ _ hp1 m1
      · exact absurd q (by omega)
    | succ i ih =>
      intro σ1 l1 hi hl1 hp1 m1 he
      have h1 := h.mr m1
      have hw1 := hw.mr m1
      have hx := getD_lt hw.2.2.2 (i := i) (by omega)
      have e9 : (((i + 1 : Nat) : Int) - 1) = (i : Int) := by omega
      rw [e9]
      refine zW_iload_n dX10_pushesInverse_8 rfl ?_
      refine zW_if_lt (tgt := 30) dX10_pushesInverse_9 (by decide) (by first | assumption | omega | (unfold InR; omega) | (unfold InL; omega) | (simp only [InR] at *; omega)) (fun q => ?_) (fun q => ?_)
      · exact absurd q (by omega)
      · refine zW_aload_n dX10_pushesInverse_12 rfl ?_
        refine zW_aload_n dX10_pushesInverse_13 rfl ?_
        refine zW_iload_n dX10_pushesInverse_14 rfl ?_
        refine zW_iload_n dX10_pushesInverse_15 rfl ?_
        refine zcV2 dX10_pushesInverse_16 rfl eX10_codeAt b1499 ⟨by decide, by decide, by decide, by decide⟩ rfl h1.1.1 rfl (by decide) (Nat.le_of_ble_eq_true rfl) (r_codeAt h1 hw1 (by omega) hb ?_)
        refine zW_iconst dX10_pushesInverse_19 ?_
        refine zW_ixor1 dX10_pushesInverse_20 hx ?_
        refine zcV1 dX10_pushesInverse_21 rfl eX10_pushes b1447 ⟨by decide, by decide, by decide, by decide⟩ rfl h1.1.1 rfl (by decide) (Nat.le_of_ble_eq_true rfl) (r_pushes h1.1 hp1 (x1_lt hx) (by omega) (fun σ2 hp2 m2 => ?_))
        refine zW_iinc dX10_pushesInverse_24 rfl (by decide) rfl rfl ?_
        refine zW_goto (tgt := 8) dX10_pushesInverse_27 (by decide) ?_
        have hpl := pw_len l1 (m.getD i 0 ^^^ 1)
        refine ih σ2 _ (by omega) (by omega) hp2 (m1.tr m2) ?_
        rw [← he, invw_take (by omega), pws_cons]
  refine zW_aload_n dX10_pushesInverse_0 rfl ?_
  refine zW_iload_n dX10_pushesInverse_1 rfl ?_
  refine zcV1 dX10_pushesInverse_2 rfl eX10_get b1443 ⟨by decide, by decide, by decide, by decide⟩ rfl h.1.1 rfl (by decide) (Nat.le_of_ble_eq_true rfl) (r_get h (by omega) hw.1 ?_)
  refine zW_iconst dX10_pushesInverse_5 ?_
  refine zW_isub dX10_pushesInverse_6 ?_
  refine zW_istore_n dX10_pushesInverse_7 (by decide) rfl rfl ?_
  exact loop m.length σ l (Nat.le_refl _) hn hp Mr.rf (by rw [List.take_length])
set_option maxRecDepth 100000 in
theorem r_isTooLong {l : List Nat} (h : RK σ y) (hp : RP σ y l) (hQ : Q (.inl (some (vI (if l.length ≤ 60 then 0 else 1)))) σ) : zM Γ mX10_isTooLong [vR (some y)] σ Q := by
  have hl := hp.2.1
  refine zM_of (n := 0) (by decide +kernel) rfl rfl rfl ?_
  refine zW_aload_n dX10_isTooLong_0 rfl ?_
  refine zgI dX10_isTooLong_1 fX10_101 h.1 rfl hp.1 ?_
  refine zW_bipush dX10_isTooLong_4 (by decide) ?_
  refine zW_icmp_le (tgt := 13) dX10_isTooLong_6 (by decide) (by first | assumption | omega | (unfold InR; omega) | (unfold InL; omega) | (simp only [InR] at *; omega)) (by first | assumption | omega | (unfold InR; omega) | (unfold InL; omega) | (simp only [InR] at *; omega)) (fun q => ?_) (fun q => ?_)
  · refine zW_iconst dX10_isTooLong_13 ?_
    refine zW_ireturn dX10_isTooLong_14 rfl rfl (by first | decide | (show _ ≤ (0 : Nat); omega)) (by first | decide | (show _ ≤ (0 : Nat); omega)) ?_
    rw [if_pos (by omega)] at hQ
    exact hQ
  · refine zW_iconst dX10_isTooLong_9 ?_
    refine zW_goto (tgt := 14) dX10_isTooLong_10 (by decide) ?_
    refine zW_ireturn dX10_isTooLong_14 rfl rfl (by first | decide | (show _ ≤ (0 : Nat); omega)) (by first | decide | (show _ ≤ (0 : Nat); omega)) ?_
    rw [if_neg (by omega)] at hQ
    exact hQ
/-- the row of states outside b .. b + 60 is as it was -/
def Out61 (σ σ' : HS) (y b : Nat) : Prop := ∀ k, (k < b ∨ b + 61 ≤ k) → zI σ' (y + 1) k = zI σ (y + 1) k
set_option maxRecDepth 100000 in
theorem r_lays {w : Nat} {l : List Nat} (h : RA σ y o) (hp : RP σ y l) (hl : l.length ≤ 60) (hb : o + w + 61 ≤ 13453) (hQ : ∀ σ', Rw σ' y (o + w) l → Mr σ σ' y [] [1] → Out61 σ σ' y (o + w) → Q (.inl (some (vI l.length))) σ') : zM Γ mX10_lays [vR (some y), vI w] σ Q := by
  refine zM_of (n := 1) (by decide +kernel) rfl rfl rfl ?_
  have loop : ∀ n i σ1, i + n = l.length → zI σ1 (y + 1) (o + w) = (l.length : Int) → (∀ j, j < i → zI σ1 (y + 1) (o + w + 1 + j) = ((l.getD j 0 : Nat) : Int)) → Mr σ σ1 y [] [1] → Out61 σ σ1 y (o + w) → zW Γ mX10_lays 11 [some (vR (some y)), some (vI w), some (vI i)] [] σ1 0 0 Q := by
    intro n
    induction n with
    | zero =>
      intro i σ1 hi h0 hall m1 ho
      have h1 := h.mr m1
      have hp1 := hp.mr m1
      refine zW_iload_n dX10_lays_11 rfl ?_
      refine zW_aload_n dX10_lays_12 rfl ?_
      refine zgI dX10_lays_13 fX10_101 h1.1.1 rfl hp1.1 ?_
      refine zW_icmp_ge (tgt := 40) dX10_lays_16 (by decide) (by first | assumption | omega | (unfold InR; omega) | (unfold InL; omega) | (simp only [InR] at *; omega)) (by first | assumption | omega | (unfold InR; omega) | (unfold InL; omega) | (simp only [InR] at *; omega)) (fun q => ?_) (fun q => ?_)
      · refine zW_aload_n dX10_lays_40 rfl ?_
        refine zgI dX10_lays_41 fX10_101 h1.1.1 rfl hp1.1 ?_
        refine zW_ireturn dX10_lays_44 rfl rfl (by first | decide | (show _ ≤ (0 : Nat); omega)) (by first | decide | (show _ ≤ (0 : Nat); omega)) ?_
        exact hQ σ1 ⟨h0, hl, fun j hj => hall j (by omega), hp.2.2.2⟩ m1 ho
      · exact absurd q (by omega)
    | succ n ih =>
      intro i σ1 hi h0 hall m1 ho
      have h1 := h.mr m1
      have hp1 := hp.mr m1
      have e9 : (w : Int) + 1 + (i : Int) = ((w + 1 + i : Nat) : Int) := by omega
      refine zW_iload_n dX10_lays_11 rfl ?_
      refine zW_aload_n dX10_lays_12 rfl ?_
      refine zgI dX10_lays_13 fX10_101 h1.1.1 rfl hp1.1 ?_
      refine zW_icmp_ge (tgt := 40) dX10_lays_16 (by decide) (by first | assumption | omega | (unfold InR; omega) | (unfold InL; omega) | (simp only [InR] at *; omega)) (by first | assumption | omega | (unfold InR; omega) | (unfold InL; omega) | (simp only [InR] at *; omega)) (fun q => ?_) (fun q => ?_)
      · exact absurd q (by omega)
      · refine zW_aload_n dX10_lays_19 rfl ?_
        refine zW_iload_n dX10_lays_20 rfl ?_
        refine zW_iconst dX10_lays_21 ?_
        refine zW_iadd dX10_lays_22 ?_
        refine zW_iload_n dX10_lays_23 rfl ?_
        refine zW_iadd dX10_lays_24 ?_
        refine zW_aload_n dX10_lays_25 rfl ?_
        refine zgP dX10_lays_26 fX10_21 h1.1.1 rfl h1.1.p_work ?_
        refine zW_iload_n dX10_lays_29 rfl ?_
        refine zrI dX10_lays_30 h1.1.k_work (by first | assumption | omega | (unfold InR; omega) | (unfold InL; omega) | (simp only [InR] at *; omega)) (by first | assumption | omega | (unfold InR; omega) | (unfold InL; omega) | (simp only [InR] at *; omega)) (by first | assumption | omega | (unfold InR; omega) | (unfold InL; omega) | (simp only [InR] at *; omega)) (hp1.2.2.1 i (by omega)) ?_
        rw [e9]
        refine zcV2 dX10_lays_31 rfl eX10_set b1247 ⟨by decide, by decide, by decide, by decide⟩ rfl h1.1.1 rfl (by decide) (Nat.le_of_ble_eq_true rfl) (r_set h1 (by omega) ?_)
        refine zW_iinc dX10_lays_34 rfl (by decide) rfl rfl ?_
        refine zW_goto (tgt := 11) dX10_lays_37 (by decide) ?_
        refine ih (i + 1) _ (by omega) ?_ (fun j hj => ?_) (m1.tr (Mr.I (by decide))) (fun k hk => ?_)
        · rw [zI_sIk _ _ _ _ (by omega)]; exact h0
        · by_cases e : j = i
          · rw [e, show o + w + 1 + i = o + (w + 1 + i) by omega, zI_sIs]
          · rw [zI_sIk _ _ _ _ (by omega)]; exact hall j (by omega)
        · rw [zI_sIk _ _ _ _ (by omega)]; exact ho k hk
  refine zW_aload_n dX10_lays_0 rfl ?_
  refine zW_iload_n dX10_lays_1 rfl ?_
  refine zW_aload_n dX10_lays_2 rfl ?_
  refine zgI dX10_lays_3 fX10_101 h.1.1 rfl hp.1 ?_
  refine zcV2 dX10_lays_6 rfl eX10_set b1247 ⟨by decide, by decide, by decide, by decide⟩ rfl h.1.1 rfl (by decide) (Nat.le_of_ble_eq_true rfl) (r_set h (by omega) ?_)
  refine zW_iconst dX10_lays_9 ?_
  refine zW_istore_n dX10_lays_10 (by decide) rfl rfl ?_
  exact loop l.length 0 _ (by omega) (zI_sIs _ _ _ _) (fun j hj => absurd hj (Nat.not_lt_zero j)) (Mr.I (by decide)) (fun k hk => zI_sIk _ _ _ _ (by omega))
set_option maxRecDepth 100000 in
theorem r_products {w v : Nat} {l m : List Nat} (h : RA σ y o) (hw : Rw σ y (o + w) l) (hv : Rw σ y (o + v) m) (hb : o + w + 61 ≤ 13453) (hb2 : o + v + 61 ≤ 13453) (hQ : ∀ σ', RP σ' y (pws (pws [] l) m) → Mr σ σ' y [13] [4] → Q (.inl none) σ') : zM Γ mX10_products [vR (some y), vI w, vI v] σ Q := by
  have e0 : ([] : List Nat).length = 0 := rfl
  have a1 := hw.2.1
  have a2 := hv.2.1
  refine zM_of (n := 0) (by decide +kernel) rfl rfl rfl ?_
  refine zW_aload_n dX10_products_0 rfl ?_
  refine zcV0 dX10_products_1 rfl eX10_begins b1431 ⟨by decide, by decide, by decide, by decide⟩ rfl h.1.1 rfl (by decide) (Nat.le_of_ble_eq_true rfl) (r_begins h.1 (fun σ1 h1 m1 => ?_))
  have A1 := h.mr m1
  refine zW_aload_n dX10_products_4 rfl ?_
  refine zW_iload_n dX10_products_5 rfl ?_
  refine zcV1 dX10_products_6 rfl eX10_pushesWord b1525 ⟨by decide, by decide, by decide, by decide⟩ rfl A1.1.1 rfl (by decide) (Nat.le_of_ble_eq_true rfl) (r_pushesWord A1 (hw.mr m1) hb h1 (by omega) (fun σ2 h2 m2 => ?_))
  have m12 := m1.tr m2
  have A2 := h.mr m12
  have L := pws_len l []
  refine zW_aload_n dX10_products_9 rfl ?_
  refine zW_iload_n dX10_products_10 rfl ?_
  refine zcV1 dX10_products_11 rfl eX10_pushesWord b1525 ⟨by decide, by decide, by decide, by decide⟩ rfl A2.1.1 rfl (by decide) (Nat.le_of_ble_eq_true rfl) (r_pushesWord A2 (hv.mr m12) hb2 h2 (by omega) (fun σ3 h3 m3 => ?_))
  refine zW_return dX10_products_14 rfl (by first | decide | (show _ ≤ (0 : Nat); omega)) (by first | decide | (show _ ≤ (0 : Nat); omega)) ?_
  exact hQ σ3 h3 (m12.tr m3)
set_option maxRecDepth 100000 in
theorem r_strips {w : Nat} {l : List Nat} (h : RA σ y o) (hw : Rw σ y (o + w) l) (hb : o + w + 61 ≤ 13453) (hQ : Q (.inl (some (vI (cs l : Nat)))) σ) : zM Γ mX10_strips [vR (some y), vI w] σ Q := by
  have hl := hw.2.1
  refine zM_of (n := 1) (by decide +kernel) rfl rfl rfl ?_
  have loop : ∀ f n, l.length ≤ n + f → 2 * n ≤ l.length → csF l f n = cs l → zW Γ mX10_strips 2 [some (vR (some y)), some (vI w), some (vI n)] [] σ 0 0 Q := by
    intro f
    induction f with
    | zero =>
      intro n hf h2 he
      refine zW_aload_n dX10_strips_2 rfl ?_
      refine zW_iload_n dX10_strips_3 rfl ?_
      refine zcV1 dX10_strips_4 rfl eX10_get b1443 ⟨by decide, by decide, by decide, by decide⟩ rfl h.1.1 rfl (by decide) (Nat.le_of_ble_eq_true rfl) (r_get h (by omega) hw.1 ?_)
      refine zW_iconst dX10_strips_7 ?_
      refine zW_iload_n dX10_strips_8 rfl ?_
      refine zW_imul dX10_strips_9 ?_
      refine zW_isub dX10_strips_10 ?_
      refine zW_iconst dX10_strips_11 ?_
      refine zW_icmp_lt (tgt := 46) dX10_strips_12 (by decide) (by first | assumption | omega | (unfold InR; omega) | (unfold InL; omega) | (simp only [InR] at *; omega)) (by first | assumption | omega | (unfold InR; omega) | (unfold InL; omega) | (simp only [InR] at *; omega)) (fun q => ?_) (fun q => ?_)
      · refine zW_iload_n dX10_strips_46 rfl ?_
        refine zW_ireturn dX10_strips_47 rfl rfl (by first | decide | (show _ ≤ (0 : Nat); omega)) (by first | decide | (show _ ≤ (0 : Nat); omega)) ?_
        rw [← he] at hQ
        exact hQ
      · exact absurd q (by omega)
    | succ f ih =>
      intro n hf h2 he
      have he' : (if 2 * n + 2 ≤ l.length ∧ l.getD n 0 = l.getD (l.length - 1 - n) 0 ^^^ 1 then csF l f (n + 1) else n) = cs l := he
      refine zW_aload_n dX10_strips_2 rfl ?_
      refine zW_iload_n dX10_strips_3 rfl ?_
      refine zcV1 dX10_strips_4 rfl eX10_get b1443 ⟨by decide, by decide, by decide, by decide⟩ rfl h.1.1 rfl (by decide) (Nat.le_of_ble_eq_true rfl) (r_get h (by omega) hw.1 ?_)
      refine zW_iconst dX10_strips_7 ?_
      refine zW_iload_n dX10_strips_8 rfl ?_
      refine zW_imul dX10_strips_9 ?_
      refine zW_isub dX10_strips_10 ?_
      refine zW_iconst dX10_strips_11 ?_
      refine zW_icmp_lt (tgt := 46) dX10_strips_12 (by decide) (by first | assumption | omega | (unfold InR; omega) | (unfold InL; omega) | (simp only [InR] at *; omega)) (by first | assumption | omega | (unfold InR; omega) | (unfold InL; omega) | (simp only [InR] at *; omega)) (fun q => ?_) (fun q => ?_)
      · refine zW_iload_n dX10_strips_46 rfl ?_
        refine zW_ireturn dX10_strips_47 rfl rfl (by first | decide | (show _ ≤ (0 : Nat); omega)) (by first | decide | (show _ ≤ (0 : Nat); omega)) ?_
        rw [if_neg (fun q => by omega)] at he'
        rw [← he'] at hQ
        exact hQ
      · have h7 := getD_lt hw.2.2.2 (i := n) (by omega)
        have h6 := getD_lt hw.2.2.2 (i := l.length - 1 - n) (by omega)
        have h5 := x1_lt h6
        have e9 : (l.length : Int) - 1 - (n : Int) = ((l.length - 1 - n : Nat) : Int) := by omega
        refine zW_aload_n dX10_strips_15 rfl ?_
        refine zW_iload_n dX10_strips_16 rfl ?_
        refine zW_iload_n dX10_strips_17 rfl ?_
        refine zcV2 dX10_strips_18 rfl eX10_codeAt b1499 ⟨by decide, by decide, by decide, by decide⟩ rfl h.1.1 rfl (by decide) (Nat.le_of_ble_eq_true rfl) (r_codeAt h hw (i := n) (by omega) hb ?_)
        refine zW_aload_n dX10_strips_21 rfl ?_
        refine zW_iload_n dX10_strips_22 rfl ?_
        refine zW_aload_n dX10_strips_23 rfl ?_
        refine zW_iload_n dX10_strips_24 rfl ?_
        refine zcV1 dX10_strips_25 rfl eX10_get b1443 ⟨by decide, by decide, by decide, by decide⟩ rfl h.1.1 rfl (by decide) (Nat.le_of_ble_eq_true rfl) (r_get h (by omega) hw.1 ?_)
        refine zW_iconst dX10_strips_28 ?_
        refine zW_isub dX10_strips_29 ?_
        refine zW_iload_n dX10_strips_30 rfl ?_
        refine zW_isub dX10_strips_31 ?_
        rw [e9]
        refine zcV2 dX10_strips_32 rfl eX10_codeAt b1499 ⟨by decide, by decide, by decide, by decide⟩ rfl h.1.1 rfl (by decide) (Nat.le_of_ble_eq_true rfl) (r_codeAt h hw (i := l.length - 1 - n) (by omega) hb ?_)
        refine zW_iconst dX10_strips_35 ?_
        refine zW_ixor1 dX10_strips_36 h6 ?_
        refine zW_icmp_ne (tgt := 46) dX10_strips_37 (by decide) (by first | assumption | omega | (unfold InR; omega) | (unfold InL; omega) | (simp only [InR] at *; omega)) (by first | assumption | omega | (unfold InR; omega) | (unfold InL; omega) | (simp only [InR] at *; omega)) (fun g2 => ?_) (fun g2 => ?_)
        · refine zW_iload_n dX10_strips_46 rfl ?_
          refine zW_ireturn dX10_strips_47 rfl rfl (by first | decide | (show _ ≤ (0 : Nat); omega)) (by first | decide | (show _ ≤ (0 : Nat); omega)) ?_
          rw [if_neg (fun q => by omega)] at he'
          rw [← he'] at hQ
          exact hQ
        · refine zW_iinc dX10_strips_40 rfl (by decide) rfl rfl ?_
          refine zW_goto (tgt := 2) dX10_strips_43 (by decide) ?_
          rw [if_pos ⟨by omega, by omega⟩] at he'
          exact ih (n + 1) (by omega) (by omega) he'
  refine zW_iconst dX10_strips_0 ?_
  refine zW_istore_n dX10_strips_1 (by decide) rfl rfl ?_
  exact loop l.length 0 (by omega) (by omega) rfl
set_option maxRecDepth 100000 in
theorem r_coreOf {w : Nat} {l : List Nat} (h : RA σ y o) (hw : Rw σ y (o + w) l) (hb : o + w + 61 ≤ 13453) (hQ : Q (.inl (some (vI (crl l : Nat)))) σ) : zM Γ mX10_coreOf [vR (some y), vI w] σ Q := by
  have hc := cs_le l
  have e9 : (l.length : Int) - 2 * (cs l : Nat) = (crl l : Nat) := by unfold crl; omega
  refine zM_of (n := 0) (by decide +kernel) rfl rfl rfl ?_
  refine zW_aload_n dX10_coreOf_0 rfl ?_
  refine zW_iload_n dX10_coreOf_1 rfl ?_
  refine zcV1 dX10_coreOf_2 rfl eX10_get b1443 ⟨by decide, by decide, by decide, by decide⟩ rfl h.1.1 rfl (by decide) (Nat.le_of_ble_eq_true rfl) (r_get h (by omega) hw.1 ?_)
  refine zW_iconst dX10_coreOf_5 ?_
  refine zW_aload_n dX10_coreOf_6 rfl ?_
  refine zW_iload_n dX10_coreOf_7 rfl ?_
  refine zcV1 dX10_coreOf_8 rfl eX10_strips b1562 ⟨by decide, by decide, by decide, by decide⟩ rfl h.1.1 rfl (by decide) (Nat.le_of_ble_eq_true rfl) (r_strips h hw hb ?_)
  refine zW_imul dX10_coreOf_11 ?_
  refine zW_isub dX10_coreOf_12 ?_
  refine zW_ireturn dX10_coreOf_13 rfl rfl (by first | decide | (show _ ≤ (0 : Nat); omega)) (by first | decide | (show _ ≤ (0 : Nat); omega)) ?_
  rw [e9]
  exact hQ
set_option maxRecDepth 100000 in
theorem r_coreCode {w i : Nat} {l : List Nat} (h : RA σ y o) (hw : Rw σ y (o + w) l) (hb : o + w + 61 ≤ 13453) (hi : cs l + i < l.length) (hQ : Q (.inl (some (vI ((crg l i : Nat) : Int)))) σ) : zM Γ mX10_coreCode [vR (some y), vI w, vI i] σ Q := by
  have e9 : (cs l : Int) + (i : Int) = ((cs l + i : Nat) : Int) := by omega
  refine zM_of (n := 0) (by decide +kernel) rfl rfl rfl ?_
  refine zW_aload_n dX10_coreCode_0 rfl ?_
  refine zW_iload_n dX10_coreCode_1 rfl ?_
  refine zW_aload_n dX10_coreCode_2 rfl ?_
  refine zW_iload_n dX10_coreCode_3 rfl ?_
  refine zcV1 dX10_coreCode_4 rfl eX10_strips b1562 ⟨by decide, by decide, by decide, by decide⟩ rfl h.1.1 rfl (by decide) (Nat.le_of_ble_eq_true rfl) (r_strips h hw hb ?_)
  refine zW_iload_n dX10_coreCode_7 rfl ?_
  refine zW_iadd dX10_coreCode_8 ?_
  rw [e9]
  refine zcV2 dX10_coreCode_9 rfl eX10_codeAt b1499 ⟨by decide, by decide, by decide, by decide⟩ rfl h.1.1 rfl (by decide) (Nat.le_of_ble_eq_true rfl) (r_codeAt h hw hi hb ?_)
  refine zW_ireturn dX10_coreCode_12 rfl rfl (by first | decide | (show _ ≤ (0 : Nat); omega)) (by first | decide | (show _ ≤ (0 : Nat); omega)) ?_
  exact hQ
set_option maxRecDepth 100000 in
theorem r_isRotation {w v s : Nat} {l m : List Nat} (h : RA σ y o) (hw : Rw σ y (o + w) l) (hv : Rw σ y (o + v) m) (hb : o + w + 61 ≤ 13453) (hb2 : o + v + 61 ≤ 13453) (he : crl m = crl l) (hs : s ≤ 100) (h1 : rotd l m s → Q (.inl (some (vI 1))) σ) (h0 : ¬ rotd l m s → Q (.inl (some (vI 0))) σ) : zM Γ mX10_isRotation [vR (some y), vI w, vI v, vI s] σ Q := by
  have a1 := hw.2.1
  have a2 := hv.2.1
  have b1 := cs_le l
  have b2 := cs_le m
  have c1 : crl l = l.length - 2 * cs l := rfl
  have c2 : crl m = m.length - 2 * cs m := rfl
  refine zM_of (n := 4) (by decide +kernel) rfl rfl rfl ?_
  have loop : ∀ n i, i + n = crl l → (∀ j, j < i → crg l ((j + s) % crl l) = crg m j) → zW Γ mX10_isRotation 24 [some (vR (some y)), some (vI w), some (vI v), some (vI s), some (vI (crl l : Nat)), some (vI (cs l : Nat)), some (vI (cs m : Nat)), some (vI i)] [] σ 0 0 Q := by
    intro n
    induction n with
    | zero =>
      intro i hi hall
      refine zW_iload dX10_isRotation_24 rfl ?_
      refine zW_iload dX10_isRotation_26 rfl ?_
      refine zW_icmp_ge (tgt := 67) dX10_isRotation_28 (by decide) (by first | assumption | omega | (unfold InR; omega) | (unfold InL; omega) | (simp only [InR] at *; omega)) (by first | assumption | omega | (unfold InR; omega) | (unfold InL; omega) | (simp only [InR] at *; omega)) (fun q => ?_) (fun q => ?_)
      · refine zW_iconst dX10_isRotation_67 ?_
        refine zW_ireturn dX10_isRotation_68 rfl rfl (by first | decide | (show _ ≤ (0 : Nat); omega)) (by first | decide | (show _ ≤ (0 : Nat); omega)) ?_
        exact h1 (fun j hj => hall j (by omega))
      · exact absurd q (by omega)
    | succ n ih =>
      intro i hi hall
      have hm : (i + s) % crl l < crl l := Nat.mod_lt _ (by omega)
      have em : ((i : Int) + (s : Int)) % ((crl l : Nat) : Int) = (((i + s) % crl l : Nat) : Int) := by rw [← Int.natCast_add]; rfl
      have e9 : (cs l : Int) + (((i + s) % crl l : Nat) : Int) = ((cs l + (i + s) % crl l : Nat) : Int) := by omega
      have e8 : (cs m : Int) + (i : Int) = ((cs m + i : Nat) : Int) := by omega
      have g1 := getD_lt hw.2.2.2 (i := cs l + (i + s) % crl l) (by omega)
      have g2 := getD_lt hv.2.2.2 (i := cs m + i) (by omega)
      refine zW_iload dX10_isRotation_24 rfl ?_
      refine zW_iload dX10_isRotation_26 rfl ?_
      refine zW_icmp_ge (tgt := 67) dX10_isRotation_28 (by decide) (by first | assumption | omega | (unfold InR; omega) | (unfold InL; omega) | (simp only [InR] at *; omega)) (by first | assumption | omega | (unfold InR; omega) | (unfold InL; omega) | (simp only [InR] at *; omega)) (fun q => ?_) (fun q => ?_)
      · exact absurd q (by omega)
      · refine zW_aload_n dX10_isRotation_31 rfl ?_
        refine zW_iload_n dX10_isRotation_32 rfl ?_
        refine zW_iload dX10_isRotation_33 rfl ?_
        refine zW_iload dX10_isRotation_35 rfl ?_
        refine zW_iload_n dX10_isRotation_37 rfl ?_
        refine zW_iadd dX10_isRotation_38 ?_
        refine zW_iload dX10_isRotation_39 rfl ?_
        refine zW_irem dX10_isRotation_41 (by first | assumption | omega | (unfold InR; omega) | (unfold InL; omega) | (simp only [InR] at *; omega)) (by first | assumption | omega | (unfold InR; omega) | (unfold InL; omega) | (simp only [InR] at *; omega)) (by first | assumption | omega | (unfold InR; omega) | (unfold InL; omega) | (simp only [InR] at *; omega)) (by first | assumption | omega | (unfold InR; omega) | (unfold InL; omega) | (simp only [InR] at *; omega)) ?_
        refine zW_iadd dX10_isRotation_42 ?_
        rw [em, e9]
        refine zcV2 dX10_isRotation_43 rfl eX10_codeAt b1499 ⟨by decide, by decide, by decide, by decide⟩ rfl h.1.1 rfl (by decide) (Nat.le_of_ble_eq_true rfl) (r_codeAt h hw (by omega) hb ?_)
        refine zW_aload_n dX10_isRotation_46 rfl ?_
        refine zW_iload_n dX10_isRotation_47 rfl ?_
        refine zW_iload dX10_isRotation_48 rfl ?_
        refine zW_iload dX10_isRotation_50 rfl ?_
        refine zW_iadd dX10_isRotation_52 ?_
        rw [e8]
        refine zcV2 dX10_isRotation_53 rfl eX10_codeAt b1499 ⟨by decide, by decide, by decide, by decide⟩ rfl h.1.1 rfl (by decide) (Nat.le_of_ble_eq_true rfl) (r_codeAt h hv (by omega) hb2 ?_)
        refine zW_icmp_eq (tgt := 61) dX10_isRotation_56 (by decide) (by first | assumption | omega | (unfold InR; omega) | (unfold InL; omega) | (simp only [InR] at *; omega)) (by first | assumption | omega | (unfold InR; omega) | (unfold InL; omega) | (simp only [InR] at *; omega)) (fun q2 => ?_) (fun q2 => ?_)
        · refine zW_iinc dX10_isRotation_61 rfl (by decide) rfl rfl ?_
          refine zW_goto (tgt := 24) dX10_isRotation_64 (by decide) ?_
          refine ih (i + 1) (by omega) (fun j hj => ?_)
          by_cases e : j = i
          · rw [e]; show l.getD _ 0 = m.getD _ 0; omega
          · exact hall j (by omega)
        · refine zW_iconst dX10_isRotation_59 ?_
          refine zW_ireturn dX10_isRotation_60 rfl rfl (by first | decide | (show _ ≤ (0 : Nat); omega)) (by first | decide | (show _ ≤ (0 : Nat); omega)) ?_
          refine h0 (fun z => q2 ?_)
          have : l.getD (cs l + (i + s) % crl l) 0 = m.getD (cs m + i) 0 := z i (by omega)
          omega
  refine zW_aload_n dX10_isRotation_0 rfl ?_
  refine zW_iload_n dX10_isRotation_1 rfl ?_
  refine zcV1 dX10_isRotation_2 rfl eX10_coreOf b1558 ⟨by decide, by decide, by decide, by decide⟩ rfl h.1.1 rfl (by decide) (Nat.le_of_ble_eq_true rfl) (r_coreOf h hw hb ?_)
  refine zW_istore dX10_isRotation_5 (by decide) rfl rfl ?_
  refine zW_aload_n dX10_isRotation_7 rfl ?_
  refine zW_iload_n dX10_isRotation_8 rfl ?_
  refine zcV1 dX10_isRotation_9 rfl eX10_strips b1562 ⟨by decide, by decide, by decide, by decide⟩ rfl h.1.1 rfl (by decide) (Nat.le_of_ble_eq_true rfl) (r_strips h hw hb ?_)
  refine zW_istore dX10_isRotation_12 (by decide) rfl rfl ?_
  refine zW_aload_n dX10_isRotation_14 rfl ?_
  refine zW_iload_n dX10_isRotation_15 rfl ?_
  refine zcV1 dX10_isRotation_16 rfl eX10_strips b1562 ⟨by decide, by decide, by decide, by decide⟩ rfl h.1.1 rfl (by decide) (Nat.le_of_ble_eq_true rfl) (r_strips h hv hb2 ?_)
  refine zW_istore dX10_isRotation_19 (by decide) rfl rfl ?_
  refine zW_iconst dX10_isRotation_21 ?_
  refine zW_istore dX10_isRotation_22 (by decide) rfl rfl ?_
  exact loop (crl l) 0 (by omega) (fun j hj => absurd hj (Nat.not_lt_zero j))
set_option maxRecDepth 100000 in
theorem r_rotationOf {w v : Nat} {l m : List Nat} (h : RA σ y o) (hw : Rw σ y (o + w) l) (hv : Rw σ y (o + v) m) (hb : o + w + 61 ≤ 13453) (hb2 : o + v + 61 ≤ 13453) (hQ : Q (.inl (some (vI (srot l m)))) σ) : zM Γ mX10_rotationOf [vR (some y), vI w, vI v] σ Q := by
  have a1 := hw.2.1
  have a2 := hv.2.1
  have c1 : crl l ≤ l.length := Nat.sub_le _ _
  have c2 : crl m ≤ m.length := Nat.sub_le _ _
  refine zM_of (n := 2) (by decide +kernel) rfl rfl rfl ?_
  unfold srot at hQ
  refine zW_aload_n dX10_rotationOf_0 rfl ?_
  refine zW_iload_n dX10_rotationOf_1 rfl ?_
  refine zcV1 dX10_rotationOf_2 rfl eX10_coreOf b1558 ⟨by decide, by decide, by decide, by decide⟩ rfl h.1.1 rfl (by decide) (Nat.le_of_ble_eq_true rfl) (r_coreOf h hw hb ?_)
  refine zW_istore_n dX10_rotationOf_5 (by decide) rfl rfl ?_
  refine zW_iload_n dX10_rotationOf_6 rfl ?_
  refine zW_aload_n dX10_rotationOf_7 rfl ?_
  refine zW_iload_n dX10_rotationOf_8 rfl ?_
  refine zcV1 dX10_rotationOf_9 rfl eX10_coreOf b1558 ⟨by decide, by decide, by decide, by decide⟩ rfl h.1.1 rfl (by decide) (Nat.le_of_ble_eq_true rfl) (r_coreOf h hv hb2 ?_)
  refine zW_icmp_eq (tgt := 17) dX10_rotationOf_12 (by decide) (by first | assumption | omega | (unfold InR; omega) | (unfold InL; omega) | (simp only [InR] at *; omega)) (by first | assumption | omega | (unfold InR; omega) | (unfold InL; omega) | (simp only [InR] at *; omega)) (fun q => ?_) (fun q => ?_)
  · have he : crl m = crl l := by omega
    rw [if_neg (fun z => z he)] at hQ
    refine zW_iload_n dX10_rotationOf_17 rfl ?_
    refine zW_if_ne (tgt := 23) dX10_rotationOf_18 (by decide) (by first | assumption | omega | (unfold InR; omega) | (unfold InL; omega) | (simp only [InR] at *; omega)) (fun q2 => ?_) (fun q2 => ?_)
    · rw [if_neg (by omega)] at hQ
      have loop : ∀ n s, s + n = crl l → srF l m n s = srF l m (crl l) 0 → zW Γ mX10_rotationOf 26 [some (vR (some y)), some (vI w), some (vI v), some (vI (crl l : Nat)), some (vI s)] [] σ 0 0 Q := by
        intro n
        induction n with
        | zero =>
          intro s hs e
          refine zW_iload dX10_rotationOf_26 rfl ?_
          refine zW_iload_n dX10_rotationOf_28 rfl ?_
          refine zW_icmp_ge (tgt := 52) dX10_rotationOf_29 (by decide) (by first | assumption | omega | (unfold InR; omega) | (unfold InL; omega) | (simp only [InR] at *; omega)) (by first | assumption | omega | (unfold InR; omega) | (unfold InL; omega) | (simp only [InR] at *; omega)) (fun g => ?_) (fun g => ?_)
          · refine zW_iconst dX10_rotationOf_52 ?_
            refine zW_ireturn dX10_rotationOf_53 rfl rfl (by first | decide | (show _ ≤ (0 : Nat); omega)) (by first | decide | (show _ ≤ (0 : Nat); omega)) ?_
            rw [← e] at hQ
            exact hQ
          · exact absurd g (by omega)
        | succ n ih =>
          intro s hs e
          have e' : (if rotd l m s then (s : Int) else srF l m n (s + 1)) = srF l m (crl l) 0 := e
          refine zW_iload dX10_rotationOf_26 rfl ?_
          refine zW_iload_n dX10_rotationOf_28 rfl ?_
          refine zW_icmp_ge (tgt := 52) dX10_rotationOf_29 (by decide) (by first | assumption | omega | (unfold InR; omega) | (unfold InL; omega) | (simp only [InR] at *; omega)) (by first | assumption | omega | (unfold InR; omega) | (unfold InL; omega) | (simp only [InR] at *; omega)) (fun g => ?_) (fun g => ?_)
          · exact absurd g (by omega)
          · refine zW_aload_n dX10_rotationOf_32 rfl ?_
            refine zW_iload_n dX10_rotationOf_33 rfl ?_
            refine zW_iload_n dX10_rotationOf_34 rfl ?_
            refine zW_iload dX10_rotationOf_35 rfl ?_
            refine zcV3 dX10_rotationOf_37 rfl eX10_isRotation b1582 ⟨by decide, by decide, by decide, by decide⟩ rfl h.1.1 rfl (by decide) (Nat.le_of_ble_eq_true rfl) (r_isRotation h hw hv hb hb2 he (by omega) (fun k => ?_) (fun k => ?_))
            · refine zW_if_eq (tgt := 46) dX10_rotationOf_40 (by decide) (by first | assumption | omega | (unfold InR; omega) | (unfold InL; omega) | (simp only [InR] at *; omega)) (fun g2 => ?_) (fun g2 => ?_)
              · exact absurd g2 (by decide)
              · refine zW_iload dX10_rotationOf_43 rfl ?_
                refine zW_ireturn dX10_rotationOf_45 rfl rfl (by first | decide | (show _ ≤ (0 : Nat); omega)) (by first | decide | (show _ ≤ (0 : Nat); omega)) ?_
                rw [if_pos k] at e'
                rw [← e'] at hQ
                exact hQ
            · refine zW_if_eq (tgt := 46) dX10_rotationOf_40 (by decide) (by first | assumption | omega | (unfold InR; omega) | (unfold InL; omega) | (simp only [InR] at *; omega)) (fun g2 => ?_) (fun g2 => ?_)
              · refine zW_iinc dX10_rotationOf_46 rfl (by decide) rfl rfl ?_
                refine zW_goto (tgt := 26) dX10_rotationOf_49 (by decide) ?_
                rw [if_neg k] at e'
                exact ih (s + 1) (by omega) e'
              · exact absurd rfl g2
      refine zW_iconst dX10_rotationOf_23 ?_
      refine zW_istore dX10_rotationOf_24 (by decide) rfl rfl ?_
      exact loop (crl l) 0 (by omega) rfl
    · rw [if_pos (by omega)] at hQ
      refine zW_iconst dX10_rotationOf_21 ?_
      refine zW_ireturn dX10_rotationOf_22 rfl rfl (by first | decide | (show _ ≤ (0 : Nat); omega)) (by first | decide | (show _ ≤ (0 : Nat); omega)) ?_
      exact hQ
  · rw [if_pos (fun z => q (by omega))] at hQ
    refine zW_iconst dX10_rotationOf_15 ?_
    refine zW_ireturn dX10_rotationOf_16 rfl rfl (by first | decide | (show _ ≤ (0 : Nat); omega)) (by first | decide | (show _ ≤ (0 : Nat); omega)) ?_
    exact hQ
set_option maxRecDepth 100000 in
theorem perd_mul {l : List Nat} {p : Nat} (h : perd l p) : ∀ t j, j + p * t < crl l → crg l (j + p * t) = crg l j := by
  intro t
  induction t with
  | zero => intro j _; rfl
  | succ t ih =>
    intro j hj
    rw [Nat.mul_succ] at hj ⊢
    have := h (j + (p * t + p)) (by omega) hj
    rw [this, show j + (p * t + p) - p = j + p * t by omega]
    exact ih j (by omega)
set_option maxRecDepth 100000 in
theorem rotd_perd {l : List Nat} {p : Nat} (hp : 1 ≤ p) (hn : p ≤ crl l) (hd : crl l % p = 0) : rotd l l (p % crl l) ↔ perd l p := by
  constructor
  · intro h i h1 h2
    by_cases e : p = crl l
    · omega
    · have := h (i - p) (by omega)
      rw [Nat.mod_eq_of_lt (show p < crl l by omega), show i - p + p = i by omega, Nat.mod_eq_of_lt h2] at this
      exact this
  · intro h i hi
    by_cases e : p = crl l
    · rw [e, Nat.mod_self, Nat.add_zero, Nat.mod_eq_of_lt hi]
    · rw [Nat.mod_eq_of_lt (show p < crl l by omega)]
      by_cases q : i + p < crl l
      · rw [Nat.mod_eq_of_lt q]
        have := h (i + p) (by omega) q
        rw [this, Nat.add_sub_cancel]
      · rw [Nat.mod_eq_sub_mod (by omega), Nat.mod_eq_of_lt (by omega)]
        have hd' := Nat.div_add_mod (crl l) p
        rw [hd, Nat.add_zero] at hd'
        have hq : 1 ≤ crl l / p := Nat.div_pos hn hp
        obtain ⟨t, ht⟩ : ∃ t, crl l / p = t + 1 := ⟨crl l / p - 1, by omega⟩
        rw [ht, Nat.mul_succ] at hd'
        have := perd_mul h t (i + p - crl l) (by omega)
        rw [show i + p - crl l + p * t = i by omega] at this
        exact this.symm
set_option maxRecDepth 100000 in
theorem r_period {w : Nat} {l : List Nat} (h : RA σ y o) (hw : Rw σ y (o + w) l) (hb : o + w + 61 ≤ 13453) (hc : 1 ≤ crl l) (hQ : ∀ p, RootIs l p → Q (.inl (some (vI (p : Nat)))) σ) : zM Γ mX10_period [vR (some y), vI w] σ Q := by
  have a1 := hw.2.1
  have c1 : crl l ≤ l.length := Nat.sub_le _ _
  refine zM_of (n := 2) (by decide +kernel) rfl rfl rfl ?_
  have loop : ∀ n p, 1 ≤ p → p + n = crl l → (∀ j, 1 ≤ j → j < p → crl l % j = 0 → ¬ perd l j) → zW Γ mX10_period 8 [some (vR (some y)), some (vI w), some (vI (crl l : Nat)), some (vI p)] [] σ 0 0 Q := by
    intro n
    induction n with
    | zero =>
      intro p hp hn hall
      have e : p = crl l := by omega
      have em : ((crl l : Nat) : Int) % (p : Int) = ((crl l % p : Nat) : Int) := rfl
      have ez : crl l % p = 0 := by rw [e]; exact Nat.mod_self _
      have em2 : (p : Int) % ((crl l : Nat) : Int) = ((p % crl l : Nat) : Int) := rfl
      have hpl : p % crl l < crl l := Nat.mod_lt _ (by omega)
      refine zW_iload_n dX10_period_8 rfl ?_
      refine zW_iload_n dX10_period_9 rfl ?_
      refine zW_irem dX10_period_10 (by first | assumption | omega | (unfold InR; omega) | (unfold InL; omega) | (simp only [InR] at *; omega)) (by first | assumption | omega | (unfold InR; omega) | (unfold InL; omega) | (simp only [InR] at *; omega)) (by first | assumption | omega | (unfold InR; omega) | (unfold InL; omega) | (simp only [InR] at *; omega)) (by first | assumption | omega | (unfold InR; omega) | (unfold InL; omega) | (simp only [InR] at *; omega)) ?_
      rw [em]
      refine zW_if_ne (tgt := 26) dX10_period_11 (by decide) (by first | assumption | omega | (unfold InR; omega) | (unfold InL; omega) | (simp only [InR] at *; omega)) (fun q => ?_) (fun q => ?_)
      · exact absurd (by rw [ez]; rfl) q
      · refine zW_aload_n dX10_period_14 rfl ?_
        refine zW_iload_n dX10_period_15 rfl ?_
        refine zW_iload_n dX10_period_16 rfl ?_
        refine zW_iload_n dX10_period_17 rfl ?_
        refine zW_iload_n dX10_period_18 rfl ?_
        refine zW_irem dX10_period_19 (by first | assumption | omega | (unfold InR; omega) | (unfold InL; omega) | (simp only [InR] at *; omega)) (by first | assumption | omega | (unfold InR; omega) | (unfold InL; omega) | (simp only [InR] at *; omega)) (by first | assumption | omega | (unfold InR; omega) | (unfold InL; omega) | (simp only [InR] at *; omega)) (by first | assumption | omega | (unfold InR; omega) | (unfold InL; omega) | (simp only [InR] at *; omega)) ?_
        rw [em2]
        refine zcV3 dX10_period_20 rfl eX10_isRotation b1582 ⟨by decide, by decide, by decide, by decide⟩ rfl h.1.1 rfl (by decide) (Nat.le_of_ble_eq_true rfl) (r_isRotation h hw hw hb hb rfl (by omega) (fun k => ?_) (fun k => ?_))
        · refine zW_if_ne (tgt := 32) dX10_period_23 (by decide) (by first | assumption | omega | (unfold InR; omega) | (unfold InL; omega) | (simp only [InR] at *; omega)) (fun q2 => ?_) (fun q2 => ?_)
          · refine zW_iload_n dX10_period_32 rfl ?_
            refine zW_ireturn dX10_period_33 rfl rfl (by first | decide | (show _ ≤ (0 : Nat); omega)) (by first | decide | (show _ ≤ (0 : Nat); omega)) ?_
            exact hQ p ⟨by omega, fun _ => ⟨hp, ez, (rotd_perd hp (by omega) ez).mp k, hall⟩⟩
          · exact absurd q2 (by decide)
        · exact absurd ((rotd_perd hp (by omega) ez).mpr (by rw [e]; exact perd_all l)) k
    | succ n ih =>
      intro p hp hn hall
      have em : ((crl l : Nat) : Int) % (p : Int) = ((crl l % p : Nat) : Int) := rfl
      have em2 : (p : Int) % ((crl l : Nat) : Int) = ((p % crl l : Nat) : Int) := rfl
      have hpl : p % crl l < crl l := Nat.mod_lt _ (by omega)
      have hml : crl l % p < p := Nat.mod_lt _ (by omega)
      have nxt : (crl l % p = 0 → ¬ perd l p) → zW Γ mX10_period 26 [some (vR (some y)), some (vI w), some (vI (crl l : Nat)), some (vI p)] [] σ 0 0 Q := by
        intro hno
        refine zW_iinc dX10_period_26 rfl (by decide) rfl rfl ?_
        refine zW_goto (tgt := 8) dX10_period_29 (by decide) ?_
        refine ih (p + 1) (by omega) (by omega) (fun j g1 g2 g3 => ?_)
        by_cases e : j = p
        · rw [e] at g3 ⊢; exact hno g3
        · exact hall j g1 (by omega) g3
      refine zW_iload_n dX10_period_8 rfl ?_
      refine zW_iload_n dX10_period_9 rfl ?_
      refine zW_irem dX10_period_10 (by first | assumption | omega | (unfold InR; omega) | (unfold InL; omega) | (simp only [InR] at *; omega)) (by first | assumption | omega | (unfold InR; omega) | (unfold InL; omega) | (simp only [InR] at *; omega)) (by first | assumption | omega | (unfold InR; omega) | (unfold InL; omega) | (simp only [InR] at *; omega)) (by first | assumption | omega | (unfold InR; omega) | (unfold InL; omega) | (simp only [InR] at *; omega)) ?_
      rw [em]
      refine zW_if_ne (tgt := 26) dX10_period_11 (by decide) (by first | assumption | omega | (unfold InR; omega) | (unfold InL; omega) | (simp only [InR] at *; omega)) (fun q => ?_) (fun q => ?_)
      · exact nxt (fun z => absurd (by rw [z]; rfl) q)
      · have ez : crl l % p = 0 := by omega
        refine zW_aload_n dX10_period_14 rfl ?_
        refine zW_iload_n dX10_period_15 rfl ?_
        refine zW_iload_n dX10_period_16 rfl ?_
        refine zW_iload_n dX10_period_17 rfl ?_
        refine zW_iload_n dX10_period_18 rfl ?_
        refine zW_irem dX10_period_19 (by first | assumption | omega | (unfold InR; omega) | (unfold InL; omega) | (simp only [InR] at *; omega)) (by first | assumption | omega | (unfold InR; omega) | (unfold InL; omega) | (simp only [InR] at *; omega)) (by first | assumption | omega | (unfold InR; omega) | (unfold InL; omega) | (simp only [InR] at *; omega)) (by first | assumption | omega | (unfold InR; omega) | (unfold InL; omega) | (simp only [InR] at *; omega)) ?_
        rw [em2]
        refine zcV3 dX10_period_20 rfl eX10_isRotation b1582 ⟨by decide, by decide, by decide, by decide⟩ rfl h.1.1 rfl (by decide) (Nat.le_of_ble_eq_true rfl) (r_isRotation h hw hw hb hb rfl (by omega) (fun k => ?_) (fun k => ?_))
        · refine zW_if_ne (tgt := 32) dX10_period_23 (by decide) (by first | assumption | omega | (unfold InR; omega) | (unfold InL; omega) | (simp only [InR] at *; omega)) (fun q2 => ?_) (fun q2 => ?_)
          · refine zW_iload_n dX10_period_32 rfl ?_
            refine zW_ireturn dX10_period_33 rfl rfl (by first | decide | (show _ ≤ (0 : Nat); omega)) (by first | decide | (show _ ≤ (0 : Nat); omega)) ?_
            exact hQ p ⟨by omega, fun _ => ⟨hp, ez, (rotd_perd hp (by omega) ez).mp k, hall⟩⟩
          · exact absurd q2 (by decide)
        · refine zW_if_ne (tgt := 32) dX10_period_23 (by decide) (by first | assumption | omega | (unfold InR; omega) | (unfold InL; omega) | (simp only [InR] at *; omega)) (fun q2 => ?_) (fun q2 => ?_)
          · exact absurd rfl q2
          · exact nxt (fun _ z => k ((rotd_perd hp (by omega) ez).mpr z))
  refine zW_aload_n dX10_period_0 rfl ?_
  refine zW_iload_n dX10_period_1 rfl ?_
  refine zcV1 dX10_period_2 rfl eX10_coreOf b1558 ⟨by decide, by decide, by decide, by decide⟩ rfl h.1.1 rfl (by decide) (Nat.le_of_ble_eq_true rfl) (r_coreOf h hw hb ?_)
  refine zW_istore_n dX10_period_5 (by decide) rfl rfl ?_
  refine zW_iconst dX10_period_6 ?_
  refine zW_istore_n dX10_period_7 (by decide) rfl rfl ?_
  exact loop (crl l - 1) 1 (by omega) (by omega) (fun j g1 g2 => absurd g1 (by omega))
end RWORD
