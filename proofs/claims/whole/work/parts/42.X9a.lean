/-! the calculator: helpers, what the calls answer -/
abbrev eI : String := "java/lang/IndexOutOfBoundsException"
abbrev eA : String := "java/lang/IllegalArgumentException"
abbrev eS : String := "java/lang/IllegalStateException"
abbrev eN : String := "java/util/NoSuchElementException"
/-- a call's outcome: which exception (0: none), the answer, what is held then -/
abbrev Out : Type := Nat × Int × AA
def rs (E : Nat → String) : Out → Res
  | (0, v, _) => .inl (some (vI v))
  | (k + 1, _, _) => .inr (E (k + 1))
def e1 : Nat → String := fun _ => eI
abbrev inR8 (r : Int) : Prop := 0 ≤ r ∧ r < 8
abbrev inR2 (g : Int) : Prop := 0 ≤ g ∧ g < 2
abbrev reg (A : AA) (r : Int) : List Nat := sRg (aSt A) r.toNat
set_option maxRecDepth 100000 in
theorem CI.sn {σ : HS} {x n : Nat} {A : AA} (h : CI σ x A) : CI (sN σ n) x A := h
set_option maxRecDepth 100000 in
theorem CI.xk {σ : HS} {x : Nat} {A : AA} (h : CI σ x A) : XK σ x := h.1.1
set_option maxRecDepth 100000 in
theorem CI.st {σ : HS} {x : Nat} {A : AA} (h : CI σ x A) : SD σ (x + 2) (aSt A) := h.2.2.1
set_option maxRecDepth 100000 in
theorem CI.rw {σ : HS} {x : Nat} {A : AA} {r : Int} (h : CI σ x A) (hr : inR8 r) : Wd σ (x + 6 + 2 * r.toNat) (x + 7 + 2 * r.toNat) 60 (reg A r) := by
  have := h.st.rg (r := r.toNat) (by unfold inR8 at hr; omega)
  unfold SW at this
  rw [show x + 2 + 4 + 2 * r.toNat = x + 6 + 2 * r.toNat by omega, show x + 2 + 5 + 2 * r.toNat = x + 7 + 2 * r.toNat by omega] at this
  exact this
def g1 (A : AA) (r v : Int) : Out := if inR8 r then (0, v, A) else (1, 0, A)
def g2 (A : AA) (r s v : Int) : Out := if inR8 r then (if inR8 s then (0, v, A) else (1, 0, A)) else (1, 0, A)
/-- one of two by a condition that no one decides -/
noncomputable def cif (p : Prop) (a b : Int) : Int := @ite Int p (Classical.propDecidable p) a b
set_option maxRecDepth 100000 in
theorem cif_t {p : Prop} (h : p) {a b : Int} : cif p a b = a := @if_pos p (Classical.propDecidable p) h Int a b
set_option maxRecDepth 100000 in
theorem cif_f {p : Prop} (h : ¬ p) {a b : Int} : cif p a b = b := @if_neg p (Classical.propDecidable p) h Int a b
noncomputable def rootL (l : List Nat) : Nat := @dite Nat (∃ r, RootIs l r) (Classical.propDecidable _) (fun h => Classical.choose h) (fun _ => 0)
set_option maxRecDepth 100000 in
theorem RootIs.uniq {l : List Nat} {r r' : Nat} (h : RootIs l r) (h' : RootIs l r') : r = r' := by
  rcases Nat.eq_zero_or_pos (crl l) with e | e
  · have := h.1
    have := h'.1
    omega
  · obtain ⟨a1, a2, a3, a4⟩ := h.2 e
    obtain ⟨b1, b2, b3, b4⟩ := h'.2 e
    rcases Nat.lt_trichotomy r r' with z | z | z
    · exact absurd a3 (b4 r a1 z a2)
    · exact z
    · exact absurd b3 (a4 r' b1 z b2)
set_option maxRecDepth 100000 in
theorem RootIs.eq {l : List Nat} {r : Nat} (h : RootIs l r) : r = rootL l := by
  have : RootIs l (rootL l) := by
    unfold rootL
    rw [dif_pos ⟨r, h⟩]
    exact Classical.choose_spec (⟨r, h⟩ : ∃ r, RootIs l r)
  exact h.uniq this
/-- the exponent of one generator -/
def ex1 (g : Nat) (a : Int) (c : Nat) : Int := if c / 2 = g then a + (if c % 2 = 1 then -1 else 1) else a
def exs (g : Nat) (l : List Nat) : Int := l.foldl (ex1 g) 0
def comw (l m : List Nat) : List Nat := pws (pws (pws (pws [] (invw l)) (invw m)) l) m
def mdeg (l : List Nat) : Int := if mnm l 1 ≠ 0 then 1 else if mnm l 2 ≠ 0 then 2 else if mnm l 3 ≠ 0 then 3 else if mnm l 4 ≠ 0 then 4 else -1
section CALC
variable {Γ : GG} {σ : HS} {Q : Res → HS → Prop} {x : Nat} {A : AA}
set_option maxRecDepth 100000 in
theorem c_checkIndex {i n : Int} (hi : InR i) (hn : InR n) (h1 : 0 ≤ i → i < n → Q (.inl none) σ) (h0 : ¬ (0 ≤ i ∧ i < n) → ∀ m, Q (.inr eI) (sN σ m)) : zM Γ mX9_checkIndex [vI i, vI n] σ Q := by
  refine zM_of (n := 0) (by decide +kernel) rfl rfl rfl ?_
  have bad : ¬ (0 ≤ i ∧ i < n) → zW Γ mX9_checkIndex 9 [some (vI i), some (vI n)] [] σ 0 0 Q := by
    intro hb
    refine zW_throwW (k := 3) zTok_2 (by decide) rfl rfl rfl dX9_checkIndex_9 dX9_checkIndex_12 dX9_checkIndex_13 dX9_checkIndex_16 dX9_checkIndex_19 (by decide) (Nat.le_of_ble_eq_true rfl) (by decide) (by decide) (fun m => ?_)
    exact h0 hb m
  refine zW_iload_n dX9_checkIndex_0 rfl ?_
  refine zW_if_lt (tgt := 9) dX9_checkIndex_1 (by decide) (by first | assumption | omega | (unfold InR; omega) | (unfold InL; omega) | (simp only [InR] at *; omega)) (fun g => ?_) (fun g => ?_)
  · exact bad (by omega)
  · refine zW_iload_n dX9_checkIndex_4 rfl ?_
    refine zW_iload_n dX9_checkIndex_5 rfl ?_
    refine zW_icmp_lt (tgt := 20) dX9_checkIndex_6 (by decide) (by first | assumption | omega | (unfold InR; omega) | (unfold InL; omega) | (simp only [InR] at *; omega)) (by first | assumption | omega | (unfold InR; omega) | (unfold InL; omega) | (simp only [InR] at *; omega)) (fun g2 => ?_) (fun g2 => ?_)
    · refine zW_return dX9_checkIndex_20 rfl (by first | decide | (show _ ≤ (1 : Nat); omega)) (by first | decide | (show _ ≤ (6 : Nat); omega)) ?_
      exact h1 (by omega) (by omega)
    · exact bad (by omega)
set_option maxRecDepth 100000 in
theorem c_checkNotEmpty {w c cap : Nat} {l : List Nat} (h : Wd σ w c cap l) (h1 : l ≠ [] → Q (.inl none) σ) (h0 : l = [] → ∀ m, Q (.inr eN) (sN σ m)) : zM Γ mX9_checkNotEmpty [vR (some w)] σ Q := by
  obtain ⟨⟨hw, hc, hcc, hcap⟩, hlen, hle, hget, hlt⟩ := id h
  refine zM_of (n := 0) (by decide +kernel) rfl rfl rfl ?_
  refine zW_aload_n dX9_checkNotEmpty_0 rfl ?_
  refine zgI dX9_checkNotEmpty_1 fX9_139 hw rfl hlen ?_
  refine zW_if_ne (tgt := 18) dX9_checkNotEmpty_4 (by decide) (by first | assumption | omega | (unfold InR; omega) | (unfold InL; omega) | (simp only [InR] at *; omega)) (fun g => ?_) (fun g => ?_)
  · refine zW_return dX9_checkNotEmpty_18 rfl (by first | decide | (show _ ≤ (1 : Nat); omega)) (by first | decide | (show _ ≤ (6 : Nat); omega)) ?_
    exact h1 (fun z => g (by rw [z]; rfl))
  · refine zW_throwNW (k := 8) zTok_3 (by decide) rfl rfl rfl dX9_checkNotEmpty_7 dX9_checkNotEmpty_10 dX9_checkNotEmpty_11 dX9_checkNotEmpty_14 dX9_checkNotEmpty_17 (by decide) (Nat.le_of_ble_eq_true rfl) (by decide) (by decide) (fun m => ?_)
    exact h0 (List.eq_nil_of_length_eq_zero (by omega)) m
set_option maxRecDepth 100000 in
theorem c_wordOf {r : Int} (h : CI σ x A) (hi : InR r) (h1 : inR8 r → Q (.inl (some (vR (some (x + 6 + 2 * r.toNat))))) σ) (h0 : ¬ inR8 r → ∀ m, Q (.inr eI) (sN σ m)) : zM Γ mX9_wordOf [vR (some x), vI r] σ Q := by
  obtain ⟨z0, z1, z2, z3, z4, z5, z6, z7, z8, z9, z10, z11, z12, k1, k2, k3, k4⟩ := h.xk
  obtain ⟨s0, s1, s2, s3, s4, s5, s6, s7, s8, s9⟩ := id h.st.1
  refine zM_of (n := 0) (by decide +kernel) rfl rfl rfl ?_
  refine zW_iload_n dX9_wordOf_0 rfl ?_
  refine zW_bipush dX9_wordOf_1 (by decide) ?_
  refine zcS2 dX9_wordOf_3 rfl eX9_checkIndex b344 ⟨by decide, by decide, by decide, by decide⟩ rfl (Nat.le_of_ble_eq_true rfl) (c_checkIndex hi (by unfold InR; omega) (fun g1 g2 => ?_) (fun g m => ?_))
  · have e := s7 r.toNat (by omega)
    rw [show x + 2 + 4 + 2 * r.toNat = x + 6 + 2 * r.toNat by omega] at e
    refine zW_aload_n dX9_wordOf_6 rfl ?_
    refine zgP dX9_wordOf_7 fX9_16 z0 rfl z2 ?_
    refine zgP dX9_wordOf_10 fX9_342 s0 rfl s1 ?_
    refine zW_iload_n dX9_wordOf_13 rfl ?_
    refine zrP dX9_wordOf_14 s4 (by decide) (by decide) (by first | assumption | omega | (unfold InR; omega) | (unfold InL; omega) | (simp only [InR] at *; omega)) (by first | assumption | omega | (unfold InR; omega) | (unfold InL; omega) | (simp only [InR] at *; omega)) (by first | assumption | omega | (unfold InR; omega) | (unfold InL; omega) | (simp only [InR] at *; omega)) e ?_
    refine zW_areturn dX9_wordOf_15 rfl (Or.inl ⟨_, rfl⟩) (by first | decide | (show _ ≤ (1 : Nat); omega)) (by first | decide | (show _ ≤ (6 : Nat); omega)) ?_
    exact h1 ⟨g1, g2⟩
  · exact h0 g m
abbrev o_wordLength (A : AA) (r : Int) : Out := g1 A r (reg A r).length
set_option maxRecDepth 100000 in
theorem c_wordLength {r : Int} (h : CI σ x A) (ir : InR r) (hQ : ∀ σ', CI σ' x (o_wordLength A r).2.2 → Mx σ σ' (xr x) → Q (rs e1 (o_wordLength A r)) σ') : zM Γ mX9_wordLength [vR (some x), vI r] σ Q := by
  obtain ⟨z0, z1, z2, z3, z4, z5, z6, z7, z8, z9, z10, z11, z12, k1, k2, k3, k4⟩ := h.xk
  refine zM_of (n := 0) (by decide +kernel) rfl rfl rfl ?_
  unfold o_wordLength g1 at hQ
  refine zW_aload_n dX9_wordLength_0 rfl ?_
  refine zW_iload_n dX9_wordLength_1 rfl ?_
  refine zcV1 dX9_wordLength_2 rfl eX9_wordOf b724 ⟨by decide, by decide, by decide, by decide⟩ rfl z0 rfl (by decide) (Nat.le_of_ble_eq_true rfl) (c_wordOf h ir (fun g => ?_) (fun g m => ?_))
  · rw [if_pos g] at hQ
    have hw := h.rw g
    refine zgI dX9_wordLength_5 fX9_139 hw.1.1 rfl hw.2.1 ?_
    refine zW_ireturn dX9_wordLength_8 rfl rfl (by first | decide | (show _ ≤ (1 : Nat); omega)) (by first | decide | (show _ ≤ (6 : Nat); omega)) ?_
    exact hQ σ h Mx.rf
  · rw [if_neg g] at hQ
    exact hQ _ h.sn Mx.sn
def o_letter (A : AA) (r i : Int) : Out := if inR8 r then (if 0 ≤ i ∧ i < (reg A r).length then (0, lco ((reg A r).getD i.toNat 0), A) else (1, 0, A)) else (1, 0, A)
set_option maxRecDepth 100000 in
theorem c_letter {r i : Int} (h : CI σ x A) (ir : InR r) (ii : InR i) (hQ : ∀ σ', CI σ' x (o_letter A r i).2.2 → Mx σ σ' (xr x) → Q (rs e1 (o_letter A r i)) σ') : zM Γ mX9_letter [vR (some x), vI r, vI i] σ Q := by
  obtain ⟨z0, z1, z2, z3, z4, z5, z6, z7, z8, z9, z10, z11, z12, k1, k2, k3, k4⟩ := h.xk
  refine zM_of (n := 1) (by decide +kernel) rfl rfl rfl ?_
  unfold o_letter at hQ
  refine zW_aload_n dX9_letter_0 rfl ?_
  refine zW_iload_n dX9_letter_1 rfl ?_
  refine zcV1 dX9_letter_2 rfl eX9_wordOf b724 ⟨by decide, by decide, by decide, by decide⟩ rfl z0 rfl (by decide) (Nat.le_of_ble_eq_true rfl) (c_wordOf h ir (fun g => ?_) (fun g m => ?_))
  · rw [if_pos g] at hQ
    have hw := h.rw g
    have hcap := hw.cap
    refine zW_astore_n dX9_letter_5 (by decide) rfl rfl ?_
    refine zW_iload_n dX9_letter_6 rfl ?_
    refine zW_aload_n dX9_letter_7 rfl ?_
    refine zgI dX9_letter_8 fX9_139 hw.1.1 rfl hw.2.1 ?_
    refine zcS2 dX9_letter_11 rfl eX9_checkIndex b344 ⟨by decide, by decide, by decide, by decide⟩ rfl (Nat.le_of_ble_eq_true rfl) (c_checkIndex ii (by unfold InR; omega) (fun g1 g2 => ?_) (fun g m => ?_))
    · rw [if_pos ⟨g1, g2⟩] at hQ
      have hx := getD_lt hw.lt (i := i.toNat) (by omega)
      have hl := lco_lt hx
      refine zW_aload_n dX9_letter_14 rfl ?_
      refine zgP dX9_letter_15 fX9_146 hw.1.1 rfl hw.1.2.1 ?_
      refine zW_iload_n dX9_letter_18 rfl ?_
      refine zrI dX9_letter_19 hw.1.2.2.1 (by first | assumption | omega | (unfold InR; omega) | (unfold InL; omega) | (simp only [InR] at *; omega)) (by first | assumption | omega | (unfold InR; omega) | (unfold InL; omega) | (simp only [InR] at *; omega)) (by first | assumption | omega | (unfold InR; omega) | (unfold InL; omega) | (simp only [InR] at *; omega)) (hw.2.2.2.1 i.toNat (by omega)) ?_
      refine zcS1 dX9_letter_20 rfl eX9_letterOfCode b735 ⟨by decide, by decide, by decide, by decide⟩ rfl (Nat.le_of_ble_eq_true rfl) (x_letterOfCode hx ?_)
      refine zW_ireturn dX9_letter_23 rfl (znc _ (by omega)) (by first | decide | (show _ ≤ (2 : Nat); omega)) (by first | decide | (show _ ≤ (12 : Nat); omega)) ?_
      exact hQ σ h Mx.rf
    · rw [if_neg g] at hQ
      exact hQ _ h.sn Mx.sn
  · rw [if_neg g] at hQ
    exact hQ _ h.sn Mx.sn
abbrev o_areEqual (A : AA) (r s : Int) : Out := g2 A r s (if ordw (reg A r) (reg A s) = 0 then 1 else 0)
set_option maxRecDepth 100000 in
theorem ordw_in (l m : List Nat) : -1 ≤ ordw l m ∧ ordw l m ≤ 1 := by
  unfold ordw
  split
  · split <;> omega
  · split
    · omega
    · split <;> omega
set_option maxRecDepth 100000 in
theorem c_areEqual {r s : Int} (h : CI σ x A) (ir : InR r) (is : InR s) (hQ : ∀ σ', CI σ' x (o_areEqual A r s).2.2 → Mx σ σ' (xr x) → Q (rs e1 (o_areEqual A r s)) σ') : zM Γ mX9_areEqual [vR (some x), vI r, vI s] σ Q := by
  obtain ⟨z0, z1, z2, z3, z4, z5, z6, z7, z8, z9, z10, z11, z12, k1, k2, k3, k4⟩ := h.xk
  refine zM_of (n := 0) (by decide +kernel) rfl rfl rfl ?_
  unfold o_areEqual g2 at hQ
  refine zW_aload_n dX9_areEqual_0 rfl ?_
  refine zW_iload_n dX9_areEqual_1 rfl ?_
  refine zcV1 dX9_areEqual_2 rfl eX9_wordOf b724 ⟨by decide, by decide, by decide, by decide⟩ rfl z0 rfl (by decide) (Nat.le_of_ble_eq_true rfl) (c_wordOf h ir (fun g => ?_) (fun g m => ?_))
  · rw [if_pos g] at hQ
    have hw := h.rw g
    refine zW_aload_n dX9_areEqual_5 rfl ?_
    refine zW_iload_n dX9_areEqual_6 rfl ?_
    refine zcV1 dX9_areEqual_7 rfl eX9_wordOf b724 ⟨by decide, by decide, by decide, by decide⟩ rfl z0 rfl (by decide) (Nat.le_of_ble_eq_true rfl) (c_wordOf h is (fun g3 => ?_) (fun g3 m => ?_))
    · rw [if_pos g3] at hQ
      have hv := h.rw g3
      have ho := ordw_in (reg A r) (reg A s)
      refine zcS2 dX9_areEqual_10 rfl eX9_order b746 ⟨by decide, by decide, by decide, by decide⟩ rfl (Nat.le_of_ble_eq_true rfl) (x_order hw hv ?_)
      refine zW_if_ne (tgt := 20) dX9_areEqual_13 (by decide) (by first | assumption | omega | (unfold InR; omega) | (unfold InL; omega) | (simp only [InR] at *; omega)) (fun q => ?_) (fun q => ?_)
      · rw [if_neg q] at hQ
        refine zW_iconst dX9_areEqual_20 ?_
        refine zW_ireturn dX9_areEqual_21 rfl rfl (by first | decide | (show _ ≤ (2 : Nat); omega)) (by first | decide | (show _ ≤ (12 : Nat); omega)) ?_
        exact hQ σ h Mx.rf
      · rw [if_pos q] at hQ
        refine zW_iconst dX9_areEqual_16 ?_
        refine zW_goto (tgt := 21) dX9_areEqual_17 (by decide) ?_
        refine zW_ireturn dX9_areEqual_21 rfl rfl (by first | decide | (show _ ≤ (2 : Nat); omega)) (by first | decide | (show _ ≤ (12 : Nat); omega)) ?_
        exact hQ σ h Mx.rf
    · rw [if_neg g3] at hQ
      exact hQ _ h.sn Mx.sn
  · rw [if_neg g] at hQ
    exact hQ _ h.sn Mx.sn
abbrev o_areInverse (A : AA) (r s : Int) : Out := g2 A r s (if (reg A r).length = (reg A s).length ∧ cnc (reg A r) (reg A s) = (reg A r).length then 1 else 0)
set_option maxRecDepth 100000 in
theorem cnc_le (l m : List Nat) : cnc l m ≤ min l.length m.length := by
  have : ∀ n i, cncF l m n i ≤ i + n := by
    intro n
    induction n with
    | zero => exact fun i => Nat.le_refl _
    | succ n ih =>
      intro i
      show (if _ then _ else _) ≤ _
      split
      · have := ih (i + 1); omega
      · omega
  have := this (min l.length m.length) 0
  unfold cnc
  omega
set_option maxRecDepth 100000 in
theorem c_areInverse {r s : Int} (h : CI σ x A) (ir : InR r) (is : InR s) (hQ : ∀ σ', CI σ' x (o_areInverse A r s).2.2 → Mx σ σ' (xr x) → Q (rs e1 (o_areInverse A r s)) σ') : zM Γ mX9_areInverse [vR (some x), vI r, vI s] σ Q := by
  obtain ⟨z0, z1, z2, z3, z4, z5, z6, z7, z8, z9, z10, z11, z12, k1, k2, k3, k4⟩ := h.xk
  refine zM_of (n := 2) (by decide +kernel) rfl rfl rfl ?_
  unfold o_areInverse g2 at hQ
  refine zW_aload_n dX9_areInverse_0 rfl ?_
  refine zW_iload_n dX9_areInverse_1 rfl ?_
  refine zcV1 dX9_areInverse_2 rfl eX9_wordOf b724 ⟨by decide, by decide, by decide, by decide⟩ rfl z0 rfl (by decide) (Nat.le_of_ble_eq_true rfl) (c_wordOf h ir (fun g => ?_) (fun g m => ?_))
  · rw [if_pos g] at hQ
    have hw := h.rw g
    refine zW_astore_n dX9_areInverse_5 (by decide) rfl rfl ?_
    refine zW_aload_n dX9_areInverse_6 rfl ?_
    refine zW_iload_n dX9_areInverse_7 rfl ?_
    refine zcV1 dX9_areInverse_8 rfl eX9_wordOf b724 ⟨by decide, by decide, by decide, by decide⟩ rfl z0 rfl (by decide) (Nat.le_of_ble_eq_true rfl) (c_wordOf h is (fun g3 => ?_) (fun g3 m => ?_))
    · rw [if_pos g3] at hQ
      have hv := h.rw g3
      have ho := cnc_le (reg A r) (reg A s)
      have hc1 := hw.cap
      have hc2 := hv.cap
      refine zW_astore dX9_areInverse_11 (by decide) rfl rfl ?_
      refine zW_aload_n dX9_areInverse_13 rfl ?_
      refine zgI dX9_areInverse_14 fX9_139 hw.1.1 rfl hw.2.1 ?_
      refine zW_aload dX9_areInverse_17 rfl ?_
      refine zgI dX9_areInverse_19 fX9_139 hv.1.1 rfl hv.2.1 ?_
      refine zW_icmp_ne (tgt := 42) dX9_areInverse_22 (by decide) (by first | assumption | omega | (unfold InR; omega) | (unfold InL; omega) | (simp only [InR] at *; omega)) (by first | assumption | omega | (unfold InR; omega) | (unfold InL; omega) | (simp only [InR] at *; omega)) (fun q => ?_) (fun q => ?_)
      · rw [if_neg (fun z => q (by omega))] at hQ
        refine zW_iconst dX9_areInverse_42 ?_
        refine zW_ireturn dX9_areInverse_43 rfl rfl (by first | decide | (show _ ≤ (2 : Nat); omega)) (by first | decide | (show _ ≤ (12 : Nat); omega)) ?_
        exact hQ σ h Mx.rf
      · refine zW_aload_n dX9_areInverse_25 rfl ?_
        refine zW_aload dX9_areInverse_26 rfl ?_
        refine zcS2 dX9_areInverse_28 rfl eX9_cancelledPairs b760 ⟨by decide, by decide, by decide, by decide⟩ rfl (Nat.le_of_ble_eq_true rfl) (x_cancelledPairs hw hv ?_)
        refine zW_aload_n dX9_areInverse_31 rfl ?_
        refine zgI dX9_areInverse_32 fX9_139 hw.1.1 rfl hw.2.1 ?_
        refine zW_icmp_ne (tgt := 42) dX9_areInverse_35 (by decide) (by first | assumption | omega | (unfold InR; omega) | (unfold InL; omega) | (simp only [InR] at *; omega)) (by first | assumption | omega | (unfold InR; omega) | (unfold InL; omega) | (simp only [InR] at *; omega)) (fun q2 => ?_) (fun q2 => ?_)
        · rw [if_neg (fun z => q2 (by omega))] at hQ
          refine zW_iconst dX9_areInverse_42 ?_
          refine zW_ireturn dX9_areInverse_43 rfl rfl (by first | decide | (show _ ≤ (2 : Nat); omega)) (by first | decide | (show _ ≤ (12 : Nat); omega)) ?_
          exact hQ σ h Mx.rf
        · rw [if_pos ⟨by omega, by omega⟩] at hQ
          refine zW_iconst dX9_areInverse_38 ?_
          refine zW_goto (tgt := 43) dX9_areInverse_39 (by decide) ?_
          refine zW_ireturn dX9_areInverse_43 rfl rfl (by first | decide | (show _ ≤ (2 : Nat); omega)) (by first | decide | (show _ ≤ (12 : Nat); omega)) ?_
          exact hQ σ h Mx.rf
    · rw [if_neg g3] at hQ
      exact hQ _ h.sn Mx.sn
  · rw [if_neg g] at hQ
    exact hQ _ h.sn Mx.sn
abbrev o_compare (A : AA) (r s : Int) : Out := g2 A r s (ordw (reg A r) (reg A s))
set_option maxRecDepth 100000 in
theorem c_compare {r s : Int} (h : CI σ x A) (ir : InR r) (is : InR s) (hQ : ∀ σ', CI σ' x (o_compare A r s).2.2 → Mx σ σ' (xr x) → Q (rs e1 (o_compare A r s)) σ') : zM Γ mX9_compare [vR (some x), vI r, vI s] σ Q := by
  obtain ⟨z0, z1, z2, z3, z4, z5, z6, z7, z8, z9, z10, z11, z12, k1, k2, k3, k4⟩ := h.xk
  refine zM_of (n := 0) (by decide +kernel) rfl rfl rfl ?_
  unfold o_compare g2 at hQ
  refine zW_aload_n dX9_compare_0 rfl ?_
  refine zW_iload_n dX9_compare_1 rfl ?_
  refine zcV1 dX9_compare_2 rfl eX9_wordOf b724 ⟨by decide, by decide, by decide, by decide⟩ rfl z0 rfl (by decide) (Nat.le_of_ble_eq_true rfl) (c_wordOf h ir (fun g => ?_) (fun g m => ?_))
  · rw [if_pos g] at hQ
    have hw := h.rw g
    refine zW_aload_n dX9_compare_5 rfl ?_
    refine zW_iload_n dX9_compare_6 rfl ?_
    refine zcV1 dX9_compare_7 rfl eX9_wordOf b724 ⟨by decide, by decide, by decide, by decide⟩ rfl z0 rfl (by decide) (Nat.le_of_ble_eq_true rfl) (c_wordOf h is (fun g3 => ?_) (fun g3 m => ?_))
    · rw [if_pos g3] at hQ
      have hv := h.rw g3
      refine zcS2 dX9_compare_10 rfl eX9_order b746 ⟨by decide, by decide, by decide, by decide⟩ rfl (Nat.le_of_ble_eq_true rfl) (x_order hw hv ?_)
      refine zW_ireturn dX9_compare_13 rfl rfl (by first | decide | (show _ ≤ (2 : Nat); omega)) (by first | decide | (show _ ≤ (12 : Nat); omega)) ?_
      exact hQ σ h Mx.rf
    · rw [if_neg g3] at hQ
      exact hQ _ h.sn Mx.sn
  · rw [if_neg g] at hQ
    exact hQ _ h.sn Mx.sn
abbrev o_commonPrefix (A : AA) (r s : Int) : Out := g2 A r s (cpf (reg A r) (reg A s))
set_option maxRecDepth 100000 in
theorem c_commonPrefix {r s : Int} (h : CI σ x A) (ir : InR r) (is : InR s) (hQ : ∀ σ', CI σ' x (o_commonPrefix A r s).2.2 → Mx σ σ' (xr x) → Q (rs e1 (o_commonPrefix A r s)) σ') : zM Γ mX9_commonPrefix [vR (some x), vI r, vI s] σ Q := by
  obtain ⟨z0, z1, z2, z3, z4, z5, z6, z7, z8, z9, z10, z11, z12, k1, k2, k3, k4⟩ := h.xk
  refine zM_of (n := 0) (by decide +kernel) rfl rfl rfl ?_
  unfold o_commonPrefix g2 at hQ
  refine zW_aload_n dX9_commonPrefix_0 rfl ?_
  refine zW_iload_n dX9_commonPrefix_1 rfl ?_
  refine zcV1 dX9_commonPrefix_2 rfl eX9_wordOf b724 ⟨by decide, by decide, by decide, by decide⟩ rfl z0 rfl (by decide) (Nat.le_of_ble_eq_true rfl) (c_wordOf h ir (fun g => ?_) (fun g m => ?_))
  · rw [if_pos g] at hQ
    have hw := h.rw g
    refine zW_aload_n dX9_commonPrefix_5 rfl ?_
    refine zW_iload_n dX9_commonPrefix_6 rfl ?_
    refine zcV1 dX9_commonPrefix_7 rfl eX9_wordOf b724 ⟨by decide, by decide, by decide, by decide⟩ rfl z0 rfl (by decide) (Nat.le_of_ble_eq_true rfl) (c_wordOf h is (fun g3 => ?_) (fun g3 m => ?_))
    · rw [if_pos g3] at hQ
      have hv := h.rw g3
      refine zcS2 dX9_commonPrefix_10 rfl eX9_prefixLength b749 ⟨by decide, by decide, by decide, by decide⟩ rfl (Nat.le_of_ble_eq_true rfl) (x_prefixLength hw hv ?_)
      refine zW_ireturn dX9_commonPrefix_13 rfl rfl (by first | decide | (show _ ≤ (2 : Nat); omega)) (by first | decide | (show _ ≤ (12 : Nat); omega)) ?_
      exact hQ σ h Mx.rf
    · rw [if_neg g3] at hQ
      exact hQ _ h.sn Mx.sn
  · rw [if_neg g] at hQ
    exact hQ _ h.sn Mx.sn
abbrev o_cancellation (A : AA) (r s : Int) : Out := g2 A r s (cnc (reg A r) (reg A s))
set_option maxRecDepth 100000 in
theorem c_cancellation {r s : Int} (h : CI σ x A) (ir : InR r) (is : InR s) (hQ : ∀ σ', CI σ' x (o_cancellation A r s).2.2 → Mx σ σ' (xr x) → Q (rs e1 (o_cancellation A r s)) σ') : zM Γ mX9_cancellation [vR (some x), vI r, vI s] σ Q := by
  obtain ⟨z0, z1, z2, z3, z4, z5, z6, z7, z8, z9, z10, z11, z12, k1, k2, k3, k4⟩ := h.xk
  refine zM_of (n := 0) (by decide +kernel) rfl rfl rfl ?_
  unfold o_cancellation g2 at hQ
  refine zW_aload_n dX9_cancellation_0 rfl ?_
  refine zW_iload_n dX9_cancellation_1 rfl ?_
  refine zcV1 dX9_cancellation_2 rfl eX9_wordOf b724 ⟨by decide, by decide, by decide, by decide⟩ rfl z0 rfl (by decide) (Nat.le_of_ble_eq_true rfl) (c_wordOf h ir (fun g => ?_) (fun g m => ?_))
  · rw [if_pos g] at hQ
    have hw := h.rw g
    refine zW_aload_n dX9_cancellation_5 rfl ?_
    refine zW_iload_n dX9_cancellation_6 rfl ?_
    refine zcV1 dX9_cancellation_7 rfl eX9_wordOf b724 ⟨by decide, by decide, by decide, by decide⟩ rfl z0 rfl (by decide) (Nat.le_of_ble_eq_true rfl) (c_wordOf h is (fun g3 => ?_) (fun g3 m => ?_))
    · rw [if_pos g3] at hQ
      have hv := h.rw g3
      refine zcS2 dX9_cancellation_10 rfl eX9_cancelledPairs b760 ⟨by decide, by decide, by decide, by decide⟩ rfl (Nat.le_of_ble_eq_true rfl) (x_cancelledPairs hw hv ?_)
      refine zW_ireturn dX9_cancellation_13 rfl rfl (by first | decide | (show _ ≤ (2 : Nat); omega)) (by first | decide | (show _ ≤ (12 : Nat); omega)) ?_
      exact hQ σ h Mx.rf
    · rw [if_neg g3] at hQ
      exact hQ _ h.sn Mx.sn
  · rw [if_neg g] at hQ
    exact hQ _ h.sn Mx.sn
abbrev o_areConjugate (A : AA) (r s : Int) : Out := g2 A r s (if srot (reg A r) (reg A s) = -1 then 0 else 1)
set_option maxRecDepth 100000 in
theorem srot_in (l m : List Nat) : -1 ≤ srot l m ∧ srot l m < max 1 (crl l) := by
  have : ∀ n s, -1 ≤ srF l m n s ∧ srF l m n s < max 1 (s + n : Nat) := by
    intro n
    induction n with
    | zero => intro s; show -1 ≤ (-1 : Int) ∧ (-1 : Int) < _; omega
    | succ n ih =>
      intro s
      have ih' := ih (s + 1)
      have e : srF l m (n + 1) s = if rotd l m s then (s : Int) else srF l m n (s + 1) := rfl
      rw [e]
      by_cases z : rotd l m s
      · rw [if_pos z]; omega
      · rw [if_neg z]; omega
  have := this (crl l) 0
  unfold srot
  split
  · omega
  · split
    · omega
    · omega
set_option maxRecDepth 100000 in
theorem c_areConjugate {r s : Int} (h : CI σ x A) (ir : InR r) (is : InR s) (hQ : ∀ σ', CI σ' x (o_areConjugate A r s).2.2 → Mx σ σ' (xr x) → Q (rs e1 (o_areConjugate A r s)) σ') : zM Γ mX9_areConjugate [vR (some x), vI r, vI s] σ Q := by
  obtain ⟨z0, z1, z2, z3, z4, z5, z6, z7, z8, z9, z10, z11, z12, k1, k2, k3, k4⟩ := h.xk
  refine zM_of (n := 0) (by decide +kernel) rfl rfl rfl ?_
  unfold o_areConjugate g2 at hQ
  refine zW_aload_n dX9_areConjugate_0 rfl ?_
  refine zW_iload_n dX9_areConjugate_1 rfl ?_
  refine zcV1 dX9_areConjugate_2 rfl eX9_wordOf b724 ⟨by decide, by decide, by decide, by decide⟩ rfl z0 rfl (by decide) (Nat.le_of_ble_eq_true rfl) (c_wordOf h ir (fun g => ?_) (fun g m => ?_))
  · rw [if_pos g] at hQ
    have hw := h.rw g
    refine zW_aload_n dX9_areConjugate_5 rfl ?_
    refine zW_iload_n dX9_areConjugate_6 rfl ?_
    refine zcV1 dX9_areConjugate_7 rfl eX9_wordOf b724 ⟨by decide, by decide, by decide, by decide⟩ rfl z0 rfl (by decide) (Nat.le_of_ble_eq_true rfl) (c_wordOf h is (fun g3 => ?_) (fun g3 m => ?_))
    · rw [if_pos g3] at hQ
      have hv := h.rw g3
      have ho := srot_in (reg A r) (reg A s)
      have hc1 := hw.cap
      have hc3 : crl (reg A r) ≤ (reg A r).length := Nat.sub_le _ _
      refine zcS2 dX9_areConjugate_10 rfl eX9_smallestRotation b846 ⟨by decide, by decide, by decide, by decide⟩ rfl (Nat.le_of_ble_eq_true rfl) (x_smallestRotation hw hv ?_)
      refine zW_iconst dX9_areConjugate_13 ?_
      refine zW_icmp_eq (tgt := 21) dX9_areConjugate_14 (by decide) (by first | assumption | omega | (unfold InR; omega) | (unfold InL; omega) | (simp only [InR] at *; omega)) (by first | assumption | omega | (unfold InR; omega) | (unfold InL; omega) | (simp only [InR] at *; omega)) (fun q => ?_) (fun q => ?_)
      · rw [if_pos q] at hQ
        refine zW_iconst dX9_areConjugate_21 ?_
        refine zW_ireturn dX9_areConjugate_22 rfl rfl (by first | decide | (show _ ≤ (2 : Nat); omega)) (by first | decide | (show _ ≤ (12 : Nat); omega)) ?_
        exact hQ σ h Mx.rf
      · rw [if_neg q] at hQ
        refine zW_iconst dX9_areConjugate_17 ?_
        refine zW_goto (tgt := 22) dX9_areConjugate_18 (by decide) ?_
        refine zW_ireturn dX9_areConjugate_22 rfl rfl (by first | decide | (show _ ≤ (2 : Nat); omega)) (by first | decide | (show _ ≤ (12 : Nat); omega)) ?_
        exact hQ σ h Mx.rf
    · rw [if_neg g3] at hQ
      exact hQ _ h.sn Mx.sn
  · rw [if_neg g] at hQ
    exact hQ _ h.sn Mx.sn
def e2 : Nat → String := fun k => if k = 1 then eI else eN
def o_rotation (A : AA) (r s : Int) : Out := if inR8 r then (if inR8 s then (if srot (reg A r) (reg A s) = -1 then (2, 0, A) else (0, srot (reg A r) (reg A s), A)) else (1, 0, A)) else (1, 0, A)
set_option maxRecDepth 100000 in
theorem c_rotation {r s : Int} (h : CI σ x A) (ir : InR r) (is : InR s) (hQ : ∀ σ', CI σ' x (o_rotation A r s).2.2 → Mx σ σ' (xr x) → Q (rs e2 (o_rotation A r s)) σ') : zM Γ mX9_rotation [vR (some x), vI r, vI s] σ Q := by
  obtain ⟨z0, z1, z2, z3, z4, z5, z6, z7, z8, z9, z10, z11, z12, k1, k2, k3, k4⟩ := h.xk
  refine zM_of (n := 1) (by decide +kernel) rfl rfl rfl ?_
  unfold o_rotation at hQ
  refine zW_aload_n dX9_rotation_0 rfl ?_
  refine zW_iload_n dX9_rotation_1 rfl ?_
  refine zcV1 dX9_rotation_2 rfl eX9_wordOf b724 ⟨by decide, by decide, by decide, by decide⟩ rfl z0 rfl (by decide) (Nat.le_of_ble_eq_true rfl) (c_wordOf h ir (fun g => ?_) (fun g m => ?_))
  · rw [if_pos g] at hQ
    have hw := h.rw g
    refine zW_aload_n dX9_rotation_5 rfl ?_
    refine zW_iload_n dX9_rotation_6 rfl ?_
    refine zcV1 dX9_rotation_7 rfl eX9_wordOf b724 ⟨by decide, by decide, by decide, by decide⟩ rfl z0 rfl (by decide) (Nat.le_of_ble_eq_true rfl) (c_wordOf h is (fun g3 => ?_) (fun g3 m => ?_))
    · rw [if_pos g3] at hQ
      have hv := h.rw g3
      have ho := srot_in (reg A r) (reg A s)
      have hc1 := hw.cap
      have hc3 : crl (reg A r) ≤ (reg A r).length := Nat.sub_le _ _
      refine zcS2 dX9_rotation_10 rfl eX9_smallestRotation b846 ⟨by decide, by decide, by decide, by decide⟩ rfl (Nat.le_of_ble_eq_true rfl) (x_smallestRotation hw hv ?_)
      refine zW_istore_n dX9_rotation_13 (by decide) rfl rfl ?_
      refine zW_iload_n dX9_rotation_14 rfl ?_
      refine zW_iconst dX9_rotation_15 ?_
      refine zW_icmp_ne (tgt := 29) dX9_rotation_16 (by decide) (by first | assumption | omega | (unfold InR; omega) | (unfold InL; omega) | (simp only [InR] at *; omega)) (by first | assumption | omega | (unfold InR; omega) | (unfold InL; omega) | (simp only [InR] at *; omega)) (fun q => ?_) (fun q => ?_)
      · rw [if_neg q] at hQ
        refine zW_iload_n dX9_rotation_29 rfl ?_
        refine zW_ireturn dX9_rotation_30 rfl rfl (by first | decide | (show _ ≤ (3 : Nat); omega)) (by first | decide | (show _ ≤ (18 : Nat); omega)) ?_
        exact hQ σ h Mx.rf
      · rw [if_pos q] at hQ
        refine zW_throwN (k := 7) zTok_3 (by decide) rfl rfl rfl dX9_rotation_19 dX9_rotation_22 dX9_rotation_23 dX9_rotation_25 dX9_rotation_28 (by decide) (Nat.le_of_ble_eq_true rfl) (by decide) (by decide) (fun m => ?_)
        exact hQ _ h.sn Mx.sn
    · rw [if_neg g3] at hQ
      exact hQ _ h.sn Mx.sn
  · rw [if_neg g] at hQ
    exact hQ _ h.sn Mx.sn
abbrev o_coreLength (A : AA) (r : Int) : Out := g1 A r (crl (reg A r))
set_option maxRecDepth 100000 in
theorem c_coreLength {r : Int} (h : CI σ x A) (ir : InR r) (hQ : ∀ σ', CI σ' x (o_coreLength A r).2.2 → Mx σ σ' (xr x) → Q (rs e1 (o_coreLength A r)) σ') : zM Γ mX9_coreLength [vR (some x), vI r] σ Q := by
  obtain ⟨z0, z1, z2, z3, z4, z5, z6, z7, z8, z9, z10, z11, z12, k1, k2, k3, k4⟩ := h.xk
  refine zM_of (n := 0) (by decide +kernel) rfl rfl rfl ?_
  unfold o_coreLength g1 at hQ
  refine zW_aload_n dX9_coreLength_0 rfl ?_
  refine zW_iload_n dX9_coreLength_1 rfl ?_
  refine zcV1 dX9_coreLength_2 rfl eX9_wordOf b724 ⟨by decide, by decide, by decide, by decide⟩ rfl z0 rfl (by decide) (Nat.le_of_ble_eq_true rfl) (c_wordOf h ir (fun g => ?_) (fun g m => ?_))
  · rw [if_pos g] at hQ
    have hw := h.rw g
    have hc1 := hw.cap
    refine zcV0 dX9_coreLength_5 rfl eX8_lengthOfCore b823 ⟨by decide, by decide, by decide, by decide⟩ rfl hw.1.1 rfl (by decide) (Nat.le_of_ble_eq_true rfl) (w_lengthOfCore hw ?_)
    refine zW_ireturn dX9_coreLength_8 rfl rfl (by first | decide | (show _ ≤ (1 : Nat); omega)) (by first | decide | (show _ ≤ (6 : Nat); omega)) ?_
    exact hQ σ h Mx.rf
  · rw [if_neg g] at hQ
    exact hQ _ h.sn Mx.sn
noncomputable def o_rootExponent (A : AA) (r : Int) : Out := @ite Out (inR8 r) _ (@ite Out (reg A r = []) _ (2, 0, A) (0, ((crl (reg A r) / rootL (reg A r) : Nat) : Int), A)) (1, 0, A)
set_option maxRecDepth 100000 in
theorem c_rootExponent {r : Int} (h : CI σ x A) (ir : InR r) (hQ : ∀ σ', CI σ' x (o_rootExponent A r).2.2 → Mx σ σ' (xr x) → Q (rs e2 (o_rootExponent A r)) σ') : zM Γ mX9_rootExponent [vR (some x), vI r] σ Q := by
  obtain ⟨z0, z1, z2, z3, z4, z5, z6, z7, z8, z9, z10, z11, z12, k1, k2, k3, k4⟩ := h.xk
  refine zM_of (n := 1) (by decide +kernel) rfl rfl rfl ?_
  unfold o_rootExponent at hQ
  refine zW_aload_n dX9_rootExponent_0 rfl ?_
  refine zW_iload_n dX9_rootExponent_1 rfl ?_
  refine zcV1 dX9_rootExponent_2 rfl eX9_wordOf b724 ⟨by decide, by decide, by decide, by decide⟩ rfl z0 rfl (by decide) (Nat.le_of_ble_eq_true rfl) (c_wordOf h ir (fun g => ?_) (fun g m => ?_))
  · rw [if_pos g] at hQ
    have hw := h.rw g
    have hc1 := hw.cap
    refine zW_astore_n dX9_rootExponent_5 (by decide) rfl rfl ?_
    refine zW_aload_n dX9_rootExponent_6 rfl ?_
    refine zcS1 dX9_rootExponent_7 rfl eX9_checkNotEmpty b883 ⟨by decide, by decide, by decide, by decide⟩ rfl (Nat.le_of_ble_eq_true rfl) (c_checkNotEmpty hw (fun g2 => ?_) (fun g2 m => ?_))
    · rw [if_neg g2] at hQ
      refine zW_aload_n dX9_rootExponent_10 rfl ?_
      refine zcV0 dX9_rootExponent_11 rfl eX8_exponentOfRoot b887 ⟨by decide, by decide, by decide, by decide⟩ rfl hw.1.1 rfl (by decide) (Nat.le_of_ble_eq_true rfl) (w_exponentOfRoot hw (fun p hp => ?_))
      refine zW_ireturn dX9_rootExponent_14 rfl rfl (by first | decide | (show _ ≤ (2 : Nat); omega)) (by first | decide | (show _ ≤ (12 : Nat); omega)) ?_
      rw [hp.eq]
      exact hQ σ h Mx.rf
    · rw [if_pos g2] at hQ
      exact hQ _ h.sn Mx.sn
  · rw [if_neg g] at hQ
    exact hQ _ h.sn Mx.sn
def o_coreLetter (A : AA) (r i : Int) : Out := if inR8 r then (if 0 ≤ i ∧ i < (crl (reg A r) : Nat) then (0, lco ((reg A r).getD (cs (reg A r) + i.toNat) 0), A) else (1, 0, A)) else (1, 0, A)
set_option maxRecDepth 100000 in
theorem c_coreLetter {r i : Int} (h : CI σ x A) (ir : InR r) (ii : InR i) (hQ : ∀ σ', CI σ' x (o_coreLetter A r i).2.2 → Mx σ σ' (xr x) → Q (rs e1 (o_coreLetter A r i)) σ') : zM Γ mX9_coreLetter [vR (some x), vI r, vI i] σ Q := by
  obtain ⟨z0, z1, z2, z3, z4, z5, z6, z7, z8, z9, z10, z11, z12, k1, k2, k3, k4⟩ := h.xk
  refine zM_of (n := 1) (by decide +kernel) rfl rfl rfl ?_
  unfold o_coreLetter at hQ
  refine zW_aload_n dX9_coreLetter_0 rfl ?_
  refine zW_iload_n dX9_coreLetter_1 rfl ?_
  refine zcV1 dX9_coreLetter_2 rfl eX9_wordOf b724 ⟨by decide, by decide, by decide, by decide⟩ rfl z0 rfl (by decide) (Nat.le_of_ble_eq_true rfl) (c_wordOf h ir (fun g => ?_) (fun g m => ?_))
  · rw [if_pos g] at hQ
    have hw := h.rw g
    have hcap := hw.cap
    have hcs := cs_le (reg A r)
    have hcr : crl (reg A r) = (reg A r).length - 2 * cs (reg A r) := rfl
    refine zW_astore_n dX9_coreLetter_5 (by decide) rfl rfl ?_
    refine zW_iload_n dX9_coreLetter_6 rfl ?_
    refine zW_aload_n dX9_coreLetter_7 rfl ?_
    refine zcV0 dX9_coreLetter_8 rfl eX8_lengthOfCore b823 ⟨by decide, by decide, by decide, by decide⟩ rfl hw.1.1 rfl (by decide) (Nat.le_of_ble_eq_true rfl) (w_lengthOfCore hw ?_)
    refine zcS2 dX9_coreLetter_11 rfl eX9_checkIndex b344 ⟨by decide, by decide, by decide, by decide⟩ rfl (Nat.le_of_ble_eq_true rfl) (c_checkIndex ii (by unfold InR; omega) (fun g1 g2 => ?_) (fun g m => ?_))
    · rw [if_pos ⟨g1, g2⟩] at hQ
      have hx := getD_lt hw.lt (i := cs (reg A r) + i.toNat) (by omega)
      have hl := lco_lt hx
      refine zW_aload_n dX9_coreLetter_14 rfl ?_
      refine zgP dX9_coreLetter_15 fX9_146 hw.1.1 rfl hw.1.2.1 ?_
      refine zW_aload_n dX9_coreLetter_18 rfl ?_
      refine zcV0 dX9_coreLetter_19 rfl eX8_coreStart b838 ⟨by decide, by decide, by decide, by decide⟩ rfl hw.1.1 rfl (by decide) (Nat.le_of_ble_eq_true rfl) (w_coreStart hw ?_)
      refine zW_iload_n dX9_coreLetter_22 rfl ?_
      refine zW_iadd dX9_coreLetter_23 ?_
      refine zrI dX9_coreLetter_24 hw.1.2.2.1 (by first | assumption | omega | (unfold InR; omega) | (unfold InL; omega) | (simp only [InR] at *; omega)) (by first | assumption | omega | (unfold InR; omega) | (unfold InL; omega) | (simp only [InR] at *; omega)) (by first | assumption | omega | (unfold InR; omega) | (unfold InL; omega) | (simp only [InR] at *; omega)) (zix (f := zI σ (x + 7 + 2 * r.toNat)) (j := cs (reg A r) + i.toNat) (by omega) (hw.2.2.2.1 _ (by omega))) ?_
      refine zcS1 dX9_coreLetter_25 rfl eX9_letterOfCode b735 ⟨by decide, by decide, by decide, by decide⟩ rfl (Nat.le_of_ble_eq_true rfl) (x_letterOfCode hx ?_)
      refine zW_ireturn dX9_coreLetter_28 rfl (znc _ (by omega)) (by first | decide | (show _ ≤ (2 : Nat); omega)) (by first | decide | (show _ ≤ (12 : Nat); omega)) ?_
      exact hQ σ h Mx.rf
    · rw [if_neg g] at hQ
      exact hQ _ h.sn Mx.sn
  · rw [if_neg g] at hQ
    exact hQ _ h.sn Mx.sn
def o_exponentSum (A : AA) (r i : Int) : Out := if inR8 r then (if 0 ≤ i ∧ i < (sRk (aSt A) : Nat) then (0, exs i.toNat (reg A r), A) else (1, 0, A)) else (1, 0, A)
set_option maxRecDepth 100000 in
theorem c_exponentSum {r i : Int} (h : CI σ x A) (ir : InR r) (ii : InR i) (hr9 : sRk (aSt A) ≤ 4) (hQ : ∀ σ', CI σ' x (o_exponentSum A r i).2.2 → Mx σ σ' (xr x) → Q (rs e1 (o_exponentSum A r i)) σ') : zM Γ mX9_exponentSum [vR (some x), vI r, vI i] σ Q := by
  obtain ⟨z0, z1, z2, z3, z4, z5, z6, z7, z8, z9, z10, z11, z12, k1, k2, k3, k4⟩ := h.xk
  refine zM_of (n := 3) (by decide +kernel) rfl rfl rfl ?_
  unfold o_exponentSum at hQ
  have hS := h.st
  refine zW_aload_n dX9_exponentSum_0 rfl ?_
  refine zW_iload_n dX9_exponentSum_1 rfl ?_
  refine zcV1 dX9_exponentSum_2 rfl eX9_wordOf b724 ⟨by decide, by decide, by decide, by decide⟩ rfl z0 rfl (by decide) (Nat.le_of_ble_eq_true rfl) (c_wordOf h ir (fun g => ?_) (fun g m => ?_))
  · rw [if_pos g] at hQ
    have hw := h.rw g
    have hcap := hw.cap
    refine zW_astore_n dX9_exponentSum_5 (by decide) rfl rfl ?_
    refine zW_iload_n dX9_exponentSum_6 rfl ?_
    refine zW_aload_n dX9_exponentSum_7 rfl ?_
    refine zgP dX9_exponentSum_8 fX9_16 z0 rfl z2 ?_
    refine zgI dX9_exponentSum_11 fX9_126 hS.1.1 rfl hS.2.1 ?_
    refine zcS2 dX9_exponentSum_14 rfl eX9_checkIndex b344 ⟨by decide, by decide, by decide, by decide⟩ rfl (Nat.le_of_ble_eq_true rfl) (c_checkIndex ii (by unfold InR; omega) (fun g1 g2 => ?_) (fun g m => ?_))
    · rw [if_pos ⟨g1, g2⟩] at hQ
      have loop : ∀ n k (a : Int), k + n = (reg A r).length → -(k : Int) ≤ a ∧ a ≤ k → (reg A r).foldl (ex1 i.toNat) 0 = ((reg A r).drop k).foldl (ex1 i.toNat) a → zW Γ mX9_exponentSum 23 [some (vR (some x)), some (vI r), some (vI i), some (vR (some (x + 6 + 2 * r.toNat))), some (vI a), some (vI k)] [] σ 2 12 Q := by
        intro n
        induction n with
        | zero =>
          intro k a hk ha he
          rw [List.drop_eq_nil_of_le (by omega)] at he
          refine zW_iload dX9_exponentSum_23 rfl ?_
          refine zW_aload_n dX9_exponentSum_25 rfl ?_
          refine zgI dX9_exponentSum_26 fX9_139 hw.1.1 rfl hw.2.1 ?_
          refine zW_icmp_ge (tgt := 74) dX9_exponentSum_29 (by decide) (by first | assumption | omega | (unfold InR; omega) | (unfold InL; omega) | (simp only [InR] at *; omega)) (by first | assumption | omega | (unfold InR; omega) | (unfold InL; omega) | (simp only [InR] at *; omega)) (fun q => ?_) (fun q => ?_)
          · refine zW_iload dX9_exponentSum_74 rfl ?_
            refine zW_ireturn dX9_exponentSum_76 rfl rfl (by first | decide | (show _ ≤ (2 : Nat); omega)) (by first | decide | (show _ ≤ (12 : Nat); omega)) ?_
            have e : exs i.toNat (reg A r) = a := he
            rw [e] at hQ
            exact hQ σ h Mx.rf
          · exact absurd q (by omega)
        | succ n ih =>
          intro k a hk ha he
          have hx := getD_lt hw.lt (i := k) (by omega)
          rw [drop_cons (i := k) (by omega)] at he
          have he' : (reg A r).foldl (ex1 i.toNat) 0 = ((reg A r).drop (k + 1)).foldl (ex1 i.toNat) (if (reg A r).getD k 0 / 2 = i.toNat then a + (if (reg A r).getD k 0 % 2 = 1 then -1 else 1) else a) := he
          refine zW_iload dX9_exponentSum_23 rfl ?_
          refine zW_aload_n dX9_exponentSum_25 rfl ?_
          refine zgI dX9_exponentSum_26 fX9_139 hw.1.1 rfl hw.2.1 ?_
          refine zW_icmp_ge (tgt := 74) dX9_exponentSum_29 (by decide) (by first | assumption | omega | (unfold InR; omega) | (unfold InL; omega) | (simp only [InR] at *; omega)) (by first | assumption | omega | (unfold InR; omega) | (unfold InL; omega) | (simp only [InR] at *; omega)) (fun q => ?_) (fun q => ?_)
          · exact absurd q (by omega)
          · refine zW_aload_n dX9_exponentSum_32 rfl ?_
            refine zgP dX9_exponentSum_33 fX9_146 hw.1.1 rfl hw.1.2.1 ?_
            refine zW_iload dX9_exponentSum_36 rfl ?_
            refine zrI dX9_exponentSum_38 hw.1.2.2.1 (by first | assumption | omega | (unfold InR; omega) | (unfold InL; omega) | (simp only [InR] at *; omega)) (by first | assumption | omega | (unfold InR; omega) | (unfold InL; omega) | (simp only [InR] at *; omega)) (by first | assumption | omega | (unfold InR; omega) | (unfold InL; omega) | (simp only [InR] at *; omega)) (hw.2.2.2.1 k (by omega)) ?_
            refine zW_iconst dX9_exponentSum_39 ?_
            refine zW_idiv dX9_exponentSum_40 (by first | assumption | omega | (unfold InR; omega) | (unfold InL; omega) | (simp only [InR] at *; omega)) (by first | assumption | omega | (unfold InR; omega) | (unfold InL; omega) | (simp only [InR] at *; omega)) (by first | assumption | omega | (unfold InR; omega) | (unfold InL; omega) | (simp only [InR] at *; omega)) (by first | assumption | omega | (unfold InR; omega) | (unfold InL; omega) | (simp only [InR] at *; omega)) ?_
            refine zW_iload_n dX9_exponentSum_41 rfl ?_
            refine zW_icmp_ne (tgt := 68) dX9_exponentSum_42 (by decide) (by first | assumption | omega | (unfold InR; omega) | (unfold InL; omega) | (simp only [InR] at *; omega)) (by first | assumption | omega | (unfold InR; omega) | (unfold InL; omega) | (simp only [InR] at *; omega)) (fun q2 => ?_) (fun q2 => ?_)
            · rw [if_neg (by omega)] at he'
              refine zW_iinc dX9_exponentSum_68 rfl (by decide) rfl rfl ?_
              refine zW_goto (tgt := 23) dX9_exponentSum_71 (by decide) ?_
              exact ih (k + 1) a (by omega) (by omega) he'
            · rw [if_pos (by omega)] at he'
              refine zW_iload dX9_exponentSum_45 rfl ?_
              refine zW_aload_n dX9_exponentSum_47 rfl ?_
              refine zgP dX9_exponentSum_48 fX9_146 hw.1.1 rfl hw.1.2.1 ?_
              refine zW_iload dX9_exponentSum_51 rfl ?_
              refine zrI dX9_exponentSum_53 hw.1.2.2.1 (by first | assumption | omega | (unfold InR; omega) | (unfold InL; omega) | (simp only [InR] at *; omega)) (by first | assumption | omega | (unfold InR; omega) | (unfold InL; omega) | (simp only [InR] at *; omega)) (by first | assumption | omega | (unfold InR; omega) | (unfold InL; omega) | (simp only [InR] at *; omega)) (hw.2.2.2.1 k (by omega)) ?_
              refine zcS1 dX9_exponentSum_54 rfl eX9_isInverse b738 ⟨by decide, by decide, by decide, by decide⟩ rfl (Nat.le_of_ble_eq_true rfl) (x_isInverse (by omega) ?_)
              refine zW_if_eq (tgt := 64) dX9_exponentSum_57 (by decide) (by first | assumption | omega | (unfold InR; omega) | (unfold InL; omega) | (simp only [InR] at *; omega)) (fun q3 => ?_) (fun q3 => ?_)
              · rw [if_neg (by omega)] at he'
                refine zW_iconst dX9_exponentSum_64 ?_
                refine zW_iadd dX9_exponentSum_65 ?_
                refine zW_istore dX9_exponentSum_66 (by decide) rfl rfl ?_
                refine zW_iinc dX9_exponentSum_68 rfl (by decide) rfl rfl ?_
                refine zW_goto (tgt := 23) dX9_exponentSum_71 (by decide) ?_
                exact ih (k + 1) (a + 1) (by omega) (by omega) he'
              · rw [if_pos (by omega)] at he'
                refine zW_iconst dX9_exponentSum_60 ?_
                refine zW_goto (tgt := 65) dX9_exponentSum_61 (by decide) ?_
                refine zW_iadd dX9_exponentSum_65 ?_
                refine zW_istore dX9_exponentSum_66 (by decide) rfl rfl ?_
                refine zW_iinc dX9_exponentSum_68 rfl (by decide) rfl rfl ?_
                refine zW_goto (tgt := 23) dX9_exponentSum_71 (by decide) ?_
                exact ih (k + 1) (a + -1) (by omega) (by omega) he'
      refine zW_iconst dX9_exponentSum_17 ?_
      refine zW_istore dX9_exponentSum_18 (by decide) rfl rfl ?_
      refine zW_iconst dX9_exponentSum_20 ?_
      refine zW_istore dX9_exponentSum_21 (by decide) rfl rfl ?_
      exact loop (reg A r).length 0 0 (by omega) (by omega) (by rw [List.drop_zero])
    · rw [if_neg g] at hQ
      exact hQ _ h.sn Mx.sn
  · rw [if_neg g] at hQ
    exact hQ _ h.sn Mx.sn
abbrev o_magnusDegree (A : AA) (r : Int) : Out := g1 A r (mdeg (reg A r))
set_option maxRecDepth 100000 in
theorem mnm_in {l : List Nat} (h : l.length ≤ 60) {d : Nat} (hd : d < 5) : (mnm l d : Nat) ≤ 13845841 * 256 := by
  have hm := mof_le d hd
  have : ∀ n, n ≤ mp4 d → mnr (mgx l) (mof d) n ≤ 13845841 * n := by
    intro n
    induction n with
    | zero => intro _; exact Nat.zero_le _
    | succ n ih =>
      intro hn
      have h1 := ih (by omega)
      have h2 := mgx_in h (j := mof d + n) (by omega)
      show mnr (mgx l) (mof d) n + (mgx l (mof d + n)).natAbs ≤ _
      omega
  have h9 := this (mp4 d) (Nat.le_refl _)
  unfold mnm
  omega
set_option maxRecDepth 100000 in
theorem c_magnusDegree {r : Int} (h : CI σ x A) (ir : InR r) (hQ : ∀ σ', CI σ' x (o_magnusDegree A r).2.2 → Mx σ σ' (xr x) → Q (rs e1 (o_magnusDegree A r)) σ') : zM Γ mX9_magnusDegree [vR (some x), vI r] σ Q := by
  obtain ⟨z0, z1, z2, z3, z4, z5, z6, z7, z8, z9, z10, z11, z12, k1, k2, k3, k4⟩ := h.xk
  refine zM_of (n := 1) (by decide +kernel) rfl rfl rfl ?_
  unfold o_magnusDegree g1 at hQ
  have hM := h.1.2.2.2.2.2.1
  refine zW_aload_n dX9_magnusDegree_0 rfl ?_
  refine zgP dX9_magnusDegree_1 fX9_60 z0 rfl z9 ?_
  refine zW_aload_n dX9_magnusDegree_4 rfl ?_
  refine zW_iload_n dX9_magnusDegree_5 rfl ?_
  refine zcV1 dX9_magnusDegree_6 rfl eX9_wordOf b724 ⟨by decide, by decide, by decide, by decide⟩ rfl z0 rfl (by decide) (Nat.le_of_ble_eq_true rfl) (c_wordOf h ir (fun g => ?_) (fun g m => ?_))
  · rw [if_pos g] at hQ
    have hw := h.rw g
    have hcap := hw.cap
    have hg8 : r.toNat < 8 := by unfold inR8 at g; omega
    refine zcV1 dX9_magnusDegree_9 rfl eX5_expand b907 ⟨by decide, by decide, by decide, by decide⟩ rfl hM.1 rfl (by decide) (Nat.le_of_ble_eq_true rfl) (m_expand hM hw (by omega) (fun σ1 h1 m1 => ?_))
    have hC1 : CI σ1 x A := h.md m1 (fun a z => by unfold scr; omega)
    obtain ⟨z0, z1, z2, z3, z4, z5, z6, z7, z8, z9, -⟩ := hC1.xk
    have loop : ∀ n d, d + n = 5 → 1 ≤ d → (mdeg (reg A r) = if d ≤ 4 ∧ mnm (reg A r) d ≠ 0 then (d : Int) else if d + 1 ≤ 4 ∧ mnm (reg A r) (d + 1) ≠ 0 then ((d + 1 : Nat) : Int) else if d + 2 ≤ 4 ∧ mnm (reg A r) (d + 2) ≠ 0 then ((d + 2 : Nat) : Int) else if d + 3 ≤ 4 ∧ mnm (reg A r) (d + 3) ≠ 0 then ((d + 3 : Nat) : Int) else -1) → zW Γ mX9_magnusDegree 14 [some (vR (some x)), some (vI r), some (vI d)] [] σ1 1 6 Q := by
      intro n
      induction n with
      | zero =>
        intro d hd hd1 he
        rw [if_neg (by omega), if_neg (by omega), if_neg (by omega), if_neg (by omega)] at he
        refine zW_iload_n dX9_magnusDegree_14 rfl ?_
        refine zW_iconst dX9_magnusDegree_15 ?_
        refine zW_icmp_gt (tgt := 40) dX9_magnusDegree_16 (by decide) (by first | assumption | omega | (unfold InR; omega) | (unfold InL; omega) | (simp only [InR] at *; omega)) (by first | assumption | omega | (unfold InR; omega) | (unfold InL; omega) | (simp only [InR] at *; omega)) (fun q => ?_) (fun q => ?_)
        · refine zW_iconst dX9_magnusDegree_40 ?_
          refine zW_ireturn dX9_magnusDegree_41 rfl rfl (by first | decide | (show _ ≤ (1 : Nat); omega)) (by first | decide | (show _ ≤ (6 : Nat); omega)) ?_
          rw [he] at hQ
          exact hQ σ1 hC1 (m1.mx (fun a z => by unfold xr; omega))
        · exact absurd q (by omega)
      | succ n ih =>
        intro d hd hd1 he
        have hmn := mnm_in hcap (d := d) (by omega)
        have hlc : zcmp ((mnm (reg A r) d : Nat) : Int) 0 = if mnm (reg A r) d = 0 then 0 else 1 := by
          unfold zcmp
          rw [if_neg (by omega)]
          by_cases z : mnm (reg A r) d = 0
          · rw [if_pos (by omega), if_pos z]
          · rw [if_neg (by omega), if_neg z]
        refine zW_iload_n dX9_magnusDegree_14 rfl ?_
        refine zW_iconst dX9_magnusDegree_15 ?_
        refine zW_icmp_gt (tgt := 40) dX9_magnusDegree_16 (by decide) (by first | assumption | omega | (unfold InR; omega) | (unfold InL; omega) | (simp only [InR] at *; omega)) (by first | assumption | omega | (unfold InR; omega) | (unfold InL; omega) | (simp only [InR] at *; omega)) (fun q => ?_) (fun q => ?_)
        · exact absurd q (by omega)
        · refine zW_aload_n dX9_magnusDegree_19 rfl ?_
          refine zgP dX9_magnusDegree_20 fX9_60 z0 rfl z9 ?_
          refine zW_iload_n dX9_magnusDegree_23 rfl ?_
          refine zcV1 dX9_magnusDegree_24 rfl eX5_norm b923 ⟨by decide, by decide, by decide, by decide⟩ rfl h1.1.1 rfl (by decide) (Nat.le_of_ble_eq_true rfl) (m_norm h1 (by omega) (fun j hj => mgx_in hcap hj) ?_)
          refine zW_lconst dX9_magnusDegree_27 (z := 0) (by decide) ?_
          refine zW_lcmp dX9_magnusDegree_28 (by unfold InL; have : mnr (mgx (reg A r)) (mof d) (mp4 d) = mnm (reg A r) d := rfl; omega) (by unfold InL; omega) ?_
          have e9 : mnr (mgx (reg A r)) (mof d) (mp4 d) = mnm (reg A r) d := rfl
          rw [e9, hlc]
          by_cases z : mnm (reg A r) d = 0
          · rw [if_pos z]
            rw [if_neg (fun y => y.2 z)] at he
            refine zW_if_eq (tgt := 34) dX9_magnusDegree_29 (by decide) (by first | assumption | omega | (unfold InR; omega) | (unfold InL; omega) | (simp only [InR] at *; omega)) (fun q2 => ?_) (fun q2 => ?_)
            · refine zW_iinc dX9_magnusDegree_34 rfl (by decide) rfl rfl ?_
              refine zW_goto (tgt := 14) dX9_magnusDegree_37 (by decide) ?_
              refine ih (d + 1) (by omega) (by omega) ?_
              rw [he]
              by_cases z1 : d + 1 ≤ 4 ∧ mnm (reg A r) (d + 1) ≠ 0
              · rw [if_pos z1, if_pos z1]
              · rw [if_neg z1, if_neg z1]
                by_cases z2 : d + 2 ≤ 4 ∧ mnm (reg A r) (d + 2) ≠ 0
                · rw [if_pos z2, if_pos z2]
                · rw [if_neg z2, if_neg z2]
                  by_cases z3 : d + 3 ≤ 4 ∧ mnm (reg A r) (d + 3) ≠ 0
                  · rw [if_pos z3, if_pos z3]
                  · rw [if_neg z3, if_neg z3, if_neg (by omega)]
            · exact absurd rfl q2
          · rw [if_neg z]
            rw [if_pos ⟨by omega, z⟩] at he
            refine zW_if_eq (tgt := 34) dX9_magnusDegree_29 (by decide) (by first | assumption | omega | (unfold InR; omega) | (unfold InL; omega) | (simp only [InR] at *; omega)) (fun q2 => ?_) (fun q2 => ?_)
            · exact absurd q2 (by decide)
            · refine zW_iload_n dX9_magnusDegree_32 rfl ?_
              refine zW_ireturn dX9_magnusDegree_33 rfl rfl (by first | decide | (show _ ≤ (1 : Nat); omega)) (by first | decide | (show _ ≤ (6 : Nat); omega)) ?_
              rw [he] at hQ
              exact hQ σ1 hC1 (m1.mx (fun a z => by unfold xr; omega))
    refine zW_iconst dX9_magnusDegree_12 ?_
    refine zW_istore_n dX9_magnusDegree_13 (by decide) rfl rfl ?_
    refine loop 4 1 rfl (Nat.le_refl _) ?_
    unfold mdeg
    simp only [Nat.reduceAdd, Nat.reduceLeDiff, true_and]
    rfl
  · rw [if_neg g] at hQ
    exact hQ _ h.sn Mx.sn
def o_magnusCoefficient (A : AA) (r a b : Int) : Out := if inR8 r then (if 0 ≤ a ∧ a < (sRk (aSt A) : Nat) then (if 0 ≤ b ∧ b < (sRk (aSt A) : Nat) then (0, mgx (reg A r) (4 * (1 + a.toNat) + 1 + b.toNat), A) else (1, 0, A)) else (1, 0, A)) else (1, 0, A)
set_option maxRecDepth 100000 in
theorem c_magnusCoefficient {r a b : Int} (h : CI σ x A) (ir : InR r) (ia : InR a) (ib : InR b) (hr9 : sRk (aSt A) ≤ 4) (hQ : ∀ σ', CI σ' x (o_magnusCoefficient A r a b).2.2 → Mx σ σ' (xr x) → Q (rs e1 (o_magnusCoefficient A r a b)) σ') : zM Γ mX9_magnusCoefficient [vR (some x), vI r, vI a, vI b] σ Q := by
  obtain ⟨z0, z1, z2, z3, z4, z5, z6, z7, z8, z9, z10, z11, z12, k1, k2, k3, k4⟩ := h.xk
  refine zM_of (n := 1) (by decide +kernel) rfl rfl rfl ?_
  unfold o_magnusCoefficient at hQ
  have hM := h.1.2.2.2.2.2.1
  have hS := h.st
  refine zW_aload_n dX9_magnusCoefficient_0 rfl ?_
  refine zW_iload_n dX9_magnusCoefficient_1 rfl ?_
  refine zcV1 dX9_magnusCoefficient_2 rfl eX9_wordOf b724 ⟨by decide, by decide, by decide, by decide⟩ rfl z0 rfl (by decide) (Nat.le_of_ble_eq_true rfl) (c_wordOf h ir (fun g => ?_) (fun g m => ?_))
  · rw [if_pos g] at hQ
    have hw := h.rw g
    have hcap := hw.cap
    have hg8 : r.toNat < 8 := by unfold inR8 at g; omega
    refine zW_astore dX9_magnusCoefficient_5 (by decide) rfl rfl ?_
    refine zW_iload_n dX9_magnusCoefficient_7 rfl ?_
    refine zW_aload_n dX9_magnusCoefficient_8 rfl ?_
    refine zgP dX9_magnusCoefficient_9 fX9_16 z0 rfl z2 ?_
    refine zgI dX9_magnusCoefficient_12 fX9_126 hS.1.1 rfl hS.2.1 ?_
    refine zcS2 dX9_magnusCoefficient_15 rfl eX9_checkIndex b344 ⟨by decide, by decide, by decide, by decide⟩ rfl (Nat.le_of_ble_eq_true rfl) (c_checkIndex ia (by unfold InR; omega) (fun g1 g2 => ?_) (fun g m => ?_))
    · rw [if_pos ⟨g1, g2⟩] at hQ
      refine zW_iload_n dX9_magnusCoefficient_18 rfl ?_
      refine zW_aload_n dX9_magnusCoefficient_19 rfl ?_
      refine zgP dX9_magnusCoefficient_20 fX9_16 z0 rfl z2 ?_
      refine zgI dX9_magnusCoefficient_23 fX9_126 hS.1.1 rfl hS.2.1 ?_
      refine zcS2 dX9_magnusCoefficient_26 rfl eX9_checkIndex b344 ⟨by decide, by decide, by decide, by decide⟩ rfl (Nat.le_of_ble_eq_true rfl) (c_checkIndex ib (by unfold InR; omega) (fun g3 g4 => ?_) (fun g m => ?_))
      · rw [if_pos ⟨g3, g4⟩] at hQ
        refine zW_aload_n dX9_magnusCoefficient_29 rfl ?_
        refine zgP dX9_magnusCoefficient_30 fX9_60 z0 rfl z9 ?_
        refine zW_aload dX9_magnusCoefficient_33 rfl ?_
        refine zcV1 dX9_magnusCoefficient_35 rfl eX5_expand b907 ⟨by decide, by decide, by decide, by decide⟩ rfl hM.1 rfl (by decide) (Nat.le_of_ble_eq_true rfl) (m_expand hM hw (by omega) (fun σ1 h1 m1 => ?_))
        have hC1 : CI σ1 x A := h.md m1 (fun a z => by unfold scr; omega)
        obtain ⟨z0, z1, z2, z3, z4, z5, z6, z7, z8, z9, -⟩ := hC1.xk
        have ea : a = ((a.toNat : Nat) : Int) := by omega
        have eb : b = ((b.toNat : Nat) : Int) := by omega
        rw [ea, eb]
        refine zW_aload_n dX9_magnusCoefficient_38 rfl ?_
        refine zgP dX9_magnusCoefficient_39 fX9_60 z0 rfl z9 ?_
        refine zW_iload_n dX9_magnusCoefficient_42 rfl ?_
        refine zW_iload_n dX9_magnusCoefficient_43 rfl ?_
        refine zcV2 dX9_magnusCoefficient_44 rfl eX5_quadraticCoefficient b937 ⟨by decide, by decide, by decide, by decide⟩ rfl h1.1.1 rfl (by decide) (Nat.le_of_ble_eq_true rfl) (m_quadratic (a := a.toNat) (b := b.toNat) h1 (by omega) (by omega) ?_)
        refine zW_ireturn dX9_magnusCoefficient_47 rfl rfl (by first | decide | (show _ ≤ (3 : Nat); omega)) (by first | decide | (show _ ≤ (18 : Nat); omega)) ?_
        exact hQ σ1 hC1 (m1.mx (fun a z => by unfold xr; omega))
      · rw [if_neg g] at hQ
        exact hQ _ h.sn Mx.sn
    · rw [if_neg g] at hQ
      exact hQ _ h.sn Mx.sn
  · rw [if_neg g] at hQ
    exact hQ _ h.sn Mx.sn
/-- the norm's outcome is a long -/
def rsJ (E : Nat → String) : Out → Res
  | (0, v, _) => .inl (some (vJ v))
  | (k + 1, _, _) => .inr (E (k + 1))
def e3 : Nat → String := fun k => if k = 1 then eI else eA
def o_magnusNorm (A : AA) (r d : Int) : Out := if inR8 r then (if 0 ≤ d ∧ d ≤ 4 then (0, (mnm (reg A r) d.toNat : Nat), A) else (2, 0, A)) else (1, 0, A)
set_option maxRecDepth 100000 in
theorem c_magnusNorm {r d : Int} (h : CI σ x A) (ir : InR r) (id : InR d) (hQ : ∀ σ', CI σ' x (o_magnusNorm A r d).2.2 → Mx σ σ' (xr x) → Q (rsJ e3 (o_magnusNorm A r d)) σ') : zM Γ mX9_magnusNorm [vR (some x), vI r, vI d] σ Q := by
  obtain ⟨z0, z1, z2, z3, z4, z5, z6, z7, z8, z9, z10, z11, z12, k1, k2, k3, k4⟩ := h.xk
  refine zM_of (n := 1) (by decide +kernel) rfl rfl rfl ?_
  unfold o_magnusNorm at hQ
  have hM := h.1.2.2.2.2.2.1
  refine zW_aload_n dX9_magnusNorm_0 rfl ?_
  refine zW_iload_n dX9_magnusNorm_1 rfl ?_
  refine zcV1 dX9_magnusNorm_2 rfl eX9_wordOf b724 ⟨by decide, by decide, by decide, by decide⟩ rfl z0 rfl (by decide) (Nat.le_of_ble_eq_true rfl) (c_wordOf h ir (fun g => ?_) (fun g m => ?_))
  · rw [if_pos g] at hQ
    have hw := h.rw g
    have hcap := hw.cap
    have hg8 : r.toNat < 8 := by unfold inR8 at g; omega
    have bad : ¬ (0 ≤ d ∧ d ≤ 4) → zW Γ mX9_magnusNorm 15 [some (vR (some x)), some (vI r), some (vI d), some (vR (some (x + 6 + 2 * r.toNat)))] [] σ 1 6 Q := by
      intro hb
      rw [if_neg hb] at hQ
      refine zW_throw (k := 9) zTok_1 (by decide) rfl rfl rfl dX9_magnusNorm_15 dX9_magnusNorm_18 dX9_magnusNorm_19 dX9_magnusNorm_21 dX9_magnusNorm_24 (by decide) (Nat.le_of_ble_eq_true rfl) (by decide) (by decide) (fun m => ?_)
      exact hQ _ h.sn Mx.sn
    refine zW_astore_n dX9_magnusNorm_5 (by decide) rfl rfl ?_
    refine zW_iload_n dX9_magnusNorm_6 rfl ?_
    refine zW_if_lt (tgt := 15) dX9_magnusNorm_7 (by decide) (by first | assumption | omega | (unfold InR; omega) | (unfold InL; omega) | (simp only [InR] at *; omega)) (fun q => ?_) (fun q => ?_)
    · exact bad (by omega)
    · refine zW_iload_n dX9_magnusNorm_10 rfl ?_
      refine zW_iconst dX9_magnusNorm_11 ?_
      refine zW_icmp_le (tgt := 25) dX9_magnusNorm_12 (by decide) (by first | assumption | omega | (unfold InR; omega) | (unfold InL; omega) | (simp only [InR] at *; omega)) (by first | assumption | omega | (unfold InR; omega) | (unfold InL; omega) | (simp only [InR] at *; omega)) (fun q2 => ?_) (fun q2 => ?_)
      · rw [if_pos (by omega)] at hQ
        refine zW_aload_n dX9_magnusNorm_25 rfl ?_
        refine zgP dX9_magnusNorm_26 fX9_60 z0 rfl z9 ?_
        refine zW_aload_n dX9_magnusNorm_29 rfl ?_
        refine zcV1 dX9_magnusNorm_30 rfl eX5_expand b907 ⟨by decide, by decide, by decide, by decide⟩ rfl hM.1 rfl (by decide) (Nat.le_of_ble_eq_true rfl) (m_expand hM hw (by omega) (fun σ1 h1 m1 => ?_))
        have hC1 : CI σ1 x A := h.md m1 (fun a z => by unfold scr; omega)
        obtain ⟨z0, z1, z2, z3, z4, z5, z6, z7, z8, z9, -⟩ := hC1.xk
        have ed : d = ((d.toNat : Nat) : Int) := by omega
        rw [ed]
        refine zW_aload_n dX9_magnusNorm_33 rfl ?_
        refine zgP dX9_magnusNorm_34 fX9_60 z0 rfl z9 ?_
        refine zW_iload_n dX9_magnusNorm_37 rfl ?_
        refine zcV1 dX9_magnusNorm_38 rfl eX5_norm b923 ⟨by decide, by decide, by decide, by decide⟩ rfl h1.1.1 rfl (by decide) (Nat.le_of_ble_eq_true rfl) (m_norm (d := d.toNat) h1 (by omega) (fun j hj => mgx_in hcap hj) ?_)
        refine zW_lreturn dX9_magnusNorm_41 rfl (by first | decide | (show _ ≤ (2 : Nat); omega)) (by first | decide | (show _ ≤ (12 : Nat); omega)) ?_
        exact hQ σ1 hC1 (m1.mx (fun a z => by unfold xr; omega))
      · exact bad (by omega)
  · rw [if_neg g] at hQ
    exact hQ _ h.sn Mx.sn
end CALC
