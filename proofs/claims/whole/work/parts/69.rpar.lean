/-! the reference: tokens -/
def tl (l : List Nat) : Nat → Nat := fun i => l.getD i 0
def KT : List Nat := [32, 33, 34, 35, 36]
def PF (σ : HS) (y : Nat) (e : PEr) : Prop := zO σ y 36 = (e.1 : Int) ∧ zO σ y 33 = (e.2 : Int)
/-- the token that was read -/
def PR (σ : HS) (y : Nat) (l : List Nat) (t : Nat × Nat × Nat) : Prop := zO σ y 34 = (t.1 : Int) ∧ zO σ y 33 = (t.2.1 : Int) ∧ zO σ y 32 = (t.2.2 : Int) ∧ (t.1 = 2 → zO σ y 35 = (tnum (tl l) t : Int))
section RPARSE
variable {Γ : GG} {σ σ' : HS} {Q : Res → HS → Prop} {y o : Nat} {l : List Nat} {Ks Rs : List Nat}
set_option maxRecDepth 100000 in
theorem rIn.mr (h : rIn σ y l) (m : Mr σ σ' y Ks Rs) (hk : 7 ∉ Ks := by decide) (hr : 2 ∉ Rs := by decide) : rIn σ' y l := ⟨by rw [m.o hk]; exact h.1, h.2.1, fun i hi => by rw [m.i hr]; exact h.2.2.1 i hi, h.2.2.2⟩
set_option maxRecDepth 100000 in
theorem tl_lt (h : rIn σ y l) (i : Nat) : tl l i < 256 := by
  unfold tl
  by_cases hi : i < l.length
  · apply h.2.2.2
    rw [List.getD_eq_getElem?_getD, List.getElem?_eq_getElem hi]
    exact List.getElem_mem _
  · rw [List.getD_eq_getElem?_getD, List.getElem?_eq_none (by omega)]
    decide
set_option maxRecDepth 100000 in
theorem sgn_or {b : Nat} (h : b < 256) : (b < 128 ∧ sgn b = (b : Int)) ∨ (128 ≤ b ∧ sgn b = (b : Int) - 256) := by
  unfold sgn
  split <;> omega
set_option maxRecDepth 100000 in
theorem r_isIn {i lo hi : Nat} (h : RK σ y) (hI : rIn σ y l) (hlo : lo < 128) (hhi : hi < 128) (hi6 : i ≤ 600) (h1 : i < l.length ∧ lo ≤ tl l i ∧ tl l i ≤ hi → Q (.inl (some (vI 1))) σ) (h0 : ¬ (i < l.length ∧ lo ≤ tl l i ∧ tl l i ≤ hi) → Q (.inl (some (vI 0))) σ) : zM Γ mX10_isIn [vR (some y), vI i, vI lo, vI hi] σ Q := by
  have hl := hI.2.1
  have hv := hI.2.2.1 i
  have hb := tl_lt hI i
  change i < l.length → zI σ (y + 2) i = sgn (tl l i) at hv
  generalize tl l i = b at hv hb h1 h0
  have hs := sgn_or hb
  refine zM_of (n := 0) (by decide +kernel) rfl rfl rfl ?_
  have no : ¬ (i < l.length ∧ lo ≤ b ∧ b ≤ hi) → zW Γ mX10_isIn 32 [some (vR (some y)), some (vI i), some (vI lo), some (vI hi)] [] σ 0 0 Q := fun z => by
    refine zW_iconst dX10_isIn_32 ?_
    refine zW_ireturn dX10_isIn_33 rfl rfl (by first | decide | (show _ ≤ (0 : Nat); omega)) (by first | decide | (show _ ≤ (0 : Nat); omega)) ?_
    exact h0 z
  refine zW_iload_n dX10_isIn_0 rfl ?_
  refine zW_aload_n dX10_isIn_1 rfl ?_
  refine zgI dX10_isIn_2 fX10_206 h.1 rfl hI.1 ?_
  refine zW_icmp_ge (tgt := 32) dX10_isIn_5 (by decide) (by first | assumption | omega | (unfold InR; omega) | (unfold InL; omega) | (simp only [InR] at *; omega)) (by first | assumption | omega | (unfold InR; omega) | (unfold InL; omega) | (simp only [InR] at *; omega)) (fun q => ?_) (fun q => ?_)
  · exact no (by omega)
  · refine zW_aload_n dX10_isIn_8 rfl ?_
    refine zgP dX10_isIn_9 fX10_13 h.1 rfl h.p_buffer ?_
    refine zW_iload_n dX10_isIn_12 rfl ?_
    refine zrB dX10_isIn_13 h.k_buffer (by first | assumption | omega | (unfold InR; omega) | (unfold InL; omega) | (simp only [InR] at *; omega)) (by first | assumption | omega | (unfold InR; omega) | (unfold InL; omega) | (simp only [InR] at *; omega)) (by first | assumption | omega | (unfold InR; omega) | (unfold InL; omega) | (simp only [InR] at *; omega)) (hv (by omega)) ?_
    refine zW_iload_n dX10_isIn_14 rfl ?_
    refine zW_icmp_lt (tgt := 32) dX10_isIn_15 (by decide) (by first | assumption | omega | (unfold InR; omega) | (unfold InL; omega) | (simp only [InR] at *; omega)) (by first | assumption | omega | (unfold InR; omega) | (unfold InL; omega) | (simp only [InR] at *; omega)) (fun q2 => ?_) (fun q2 => ?_)
    · exact no (by omega)
    · refine zW_aload_n dX10_isIn_18 rfl ?_
      refine zgP dX10_isIn_19 fX10_13 h.1 rfl h.p_buffer ?_
      refine zW_iload_n dX10_isIn_22 rfl ?_
      refine zrB dX10_isIn_23 h.k_buffer (by first | assumption | omega | (unfold InR; omega) | (unfold InL; omega) | (simp only [InR] at *; omega)) (by first | assumption | omega | (unfold InR; omega) | (unfold InL; omega) | (simp only [InR] at *; omega)) (by first | assumption | omega | (unfold InR; omega) | (unfold InL; omega) | (simp only [InR] at *; omega)) (hv (by omega)) ?_
      refine zW_iload_n dX10_isIn_24 rfl ?_
      refine zW_icmp_gt (tgt := 32) dX10_isIn_25 (by decide) (by first | assumption | omega | (unfold InR; omega) | (unfold InL; omega) | (simp only [InR] at *; omega)) (by first | assumption | omega | (unfold InR; omega) | (unfold InL; omega) | (simp only [InR] at *; omega)) (fun q3 => ?_) (fun q3 => ?_)
      · exact no (by omega)
      · refine zW_iconst dX10_isIn_28 ?_
        refine zW_goto (tgt := 33) dX10_isIn_29 (by decide) ?_
        refine zW_ireturn dX10_isIn_33 rfl rfl (by first | decide | (show _ ≤ (0 : Nat); omega)) (by first | decide | (show _ ≤ (0 : Nat); omega)) ?_
        exact h1 ⟨by omega, by omega, by omega⟩
set_option maxRecDepth 100000 in
theorem isLt_iff {b : Nat} : isLt b = true ↔ (97 ≤ b ∧ b ≤ 122) ∨ (65 ≤ b ∧ b ≤ 90) := by unfold isLt; exact decide_eq_true_iff
set_option maxRecDepth 100000 in
theorem isDg_iff {b : Nat} : isDg b = true ↔ 48 ≤ b ∧ b ≤ 57 := by unfold isDg; exact decide_eq_true_iff
set_option maxRecDepth 100000 in
theorem isSp_iff {b : Nat} : isSp b = true ↔ b = 32 ∨ b = 10 := by unfold isSp; exact decide_eq_true_iff
set_option maxRecDepth 100000 in
theorem r_isLetter {i : Nat} (h : RK σ y) (hI : rIn σ y l) (hi6 : i ≤ 600) (h1 : i < l.length ∧ isLt (tl l i) = true → Q (.inl (some (vI 1))) σ) (h0 : ¬ (i < l.length ∧ isLt (tl l i) = true) → Q (.inl (some (vI 0))) σ) : zM Γ mX10_isLetter [vR (some y), vI i] σ Q := by
  rw [isLt_iff] at h1 h0
  refine zM_of (n := 0) (by decide +kernel) rfl rfl rfl ?_
  have yes : (i < l.length ∧ ((97 ≤ tl l i ∧ tl l i ≤ 122) ∨ (65 ≤ tl l i ∧ tl l i ≤ 90))) → zW Γ mX10_isLetter 24 [some (vR (some y)), some (vI i)] [] σ 0 0 Q := fun z => by
    refine zW_iconst dX10_isLetter_24 ?_
    refine zW_goto (tgt := 29) dX10_isLetter_25 (by decide) ?_
    refine zW_ireturn dX10_isLetter_29 rfl rfl (by first | decide | (show _ ≤ (0 : Nat); omega)) (by first | decide | (show _ ≤ (0 : Nat); omega)) ?_
    exact h1 z
  refine zW_aload_n dX10_isLetter_0 rfl ?_
  refine zW_iload_n dX10_isLetter_1 rfl ?_
  refine zW_bipush dX10_isLetter_2 (by decide) ?_
  refine zW_bipush dX10_isLetter_4 (by decide) ?_
  refine zcV3 dX10_isLetter_6 rfl eX10_isIn b1395 ⟨by decide, by decide, by decide, by decide⟩ rfl h.1 rfl (by decide) (Nat.le_of_ble_eq_true rfl) (r_isIn (lo := 97) (hi := 122) h hI (by decide) (by decide) hi6 (fun k1 => ?_) (fun k1 => ?_))
  · refine zW_if_ne (tgt := 24) dX10_isLetter_9 (by decide) (by first | assumption | omega | (unfold InR; omega) | (unfold InL; omega) | (simp only [InR] at *; omega)) (fun q => ?_) (fun q => ?_)
    · exact yes (by omega)
    · exact absurd q (by decide)
  · refine zW_if_ne (tgt := 24) dX10_isLetter_9 (by decide) (by first | assumption | omega | (unfold InR; omega) | (unfold InL; omega) | (simp only [InR] at *; omega)) (fun q => ?_) (fun q => ?_)
    · exact absurd rfl q
    · refine zW_aload_n dX10_isLetter_12 rfl ?_
      refine zW_iload_n dX10_isLetter_13 rfl ?_
      refine zW_bipush dX10_isLetter_14 (by decide) ?_
      refine zW_bipush dX10_isLetter_16 (by decide) ?_
      refine zcV3 dX10_isLetter_18 rfl eX10_isIn b1395 ⟨by decide, by decide, by decide, by decide⟩ rfl h.1 rfl (by decide) (Nat.le_of_ble_eq_true rfl) (r_isIn (lo := 65) (hi := 90) h hI (by decide) (by decide) hi6 (fun k2 => ?_) (fun k2 => ?_))
      · refine zW_if_eq (tgt := 28) dX10_isLetter_21 (by decide) (by first | assumption | omega | (unfold InR; omega) | (unfold InL; omega) | (simp only [InR] at *; omega)) (fun q2 => ?_) (fun q2 => ?_)
        · exact absurd q2 (by decide)
        · exact yes (by omega)
      · refine zW_if_eq (tgt := 28) dX10_isLetter_21 (by decide) (by first | assumption | omega | (unfold InR; omega) | (unfold InL; omega) | (simp only [InR] at *; omega)) (fun q2 => ?_) (fun q2 => ?_)
        · refine zW_iconst dX10_isLetter_28 ?_
          refine zW_ireturn dX10_isLetter_29 rfl rfl (by first | decide | (show _ ≤ (0 : Nat); omega)) (by first | decide | (show _ ≤ (0 : Nat); omega)) ?_
          exact h0 (by omega)
        · exact absurd rfl q2
set_option maxRecDepth 100000 in
theorem r_faults {k : Int} (h : RK σ y) (hQ : Q (.inl (some (vI 0))) (sO σ y 36 k)) : zM Γ mX10_faults [vR (some y), vI k] σ Q := by
  refine zM_of (n := 0) (by decide +kernel) rfl rfl rfl ?_
  refine zW_aload_n dX10_faults_0 rfl ?_
  refine zW_iload_n dX10_faults_1 rfl ?_
  refine zpI dX10_faults_2 fX10_212 h.1 rfl (Or.inl rfl) (zst_int _) ?_
  refine zW_iconst dX10_faults_5 ?_
  refine zW_ireturn dX10_faults_6 rfl rfl (by first | decide | (show _ ≤ (0 : Nat); omega)) (by first | decide | (show _ ≤ (0 : Nat); omega)) ?_
  exact hQ
set_option maxRecDepth 100000 in
theorem tnum_2 {tx : Nat → Nat} {t : Nat × Nat × Nat} : tnum tx t = nmF tx t.2.1 (t.2.2 - t.2.1) := rfl
set_option maxRecDepth 100000 in
theorem r_token {p0 : Nat} (h : RK σ y) (hI : rIn σ y l) (hp0 : zO σ y 32 = (p0 : Int)) (hp9 : p0 ≤ l.length) (h0 : ∀ σ', (tok (tl l) l.length p0).1 = 4 → PF σ' y (1, (tok (tl l) l.length p0).2.1) → Mr σ σ' y KT [] → Q (.inl (some (vI 0))) σ') (h1 : ∀ σ', (tok (tl l) l.length p0).1 ≠ 4 → PR σ' y l (tok (tl l) l.length p0) → Mr σ σ' y KT [] → Q (.inl (some (vI 1))) σ') : zM Γ mX10_token [vR (some y)] σ Q := by
  have hl6 := hI.2.1
  refine zM_of (n := 0) (by decide +kernel) rfl rfl rfl ?_
  have loop : ∀ m p σ1, p + m = l.length → sc isSp (tl l) l.length p = sc isSp (tl l) l.length p0 → zO σ1 y 32 = (p : Int) → Mr σ σ1 y KT [] → (∀ σ2 s, s = sc isSp (tl l) l.length p0 → s ≤ l.length → zO σ2 y 32 = (s : Int) → Mr σ σ2 y KT [] → zW Γ mX10_token 43 [some (vR (some y))] [] σ2 0 0 Q) → zW Γ mX10_token 0 [some (vR (some y))] [] σ1 0 0 Q := by
    intro m
    induction m with
    | zero =>
      intro p σ1 hpm hs hp m1 kk
      have k1 := h.mr m1
      have hI1 := hI.mr m1
      refine zW_aload_n dX10_token_0 rfl ?_
      refine zW_aload_n dX10_token_1 rfl ?_
      refine zgI dX10_token_2 fX10_215 k1.1 rfl hp ?_
      refine zW_bipush dX10_token_5 (by decide) ?_
      refine zW_bipush dX10_token_7 (by decide) ?_
      refine zcV3 dX10_token_9 rfl eX10_isIn b1395 ⟨by decide, by decide, by decide, by decide⟩ rfl k1.1 rfl (by decide) (Nat.le_of_ble_eq_true rfl) (r_isIn (lo := 32) (hi := 32) k1 hI1 (by decide) (by decide) (by omega) (fun z => ?_) (fun z => ?_))
      · exact absurd z.1 (by omega)
      · refine zW_if_ne (tgt := 30) dX10_token_12 (by decide) (by first | assumption | omega | (unfold InR; omega) | (unfold InL; omega) | (simp only [InR] at *; omega)) (fun q => ?_) (fun q => ?_)
        · exact absurd rfl q
        · refine zW_aload_n dX10_token_15 rfl ?_
          refine zW_aload_n dX10_token_16 rfl ?_
          refine zgI dX10_token_17 fX10_215 k1.1 rfl hp ?_
          refine zW_bipush dX10_token_20 (by decide) ?_
          refine zW_bipush dX10_token_22 (by decide) ?_
          refine zcV3 dX10_token_24 rfl eX10_isIn b1395 ⟨by decide, by decide, by decide, by decide⟩ rfl k1.1 rfl (by decide) (Nat.le_of_ble_eq_true rfl) (r_isIn (lo := 10) (hi := 10) k1 hI1 (by decide) (by decide) (by omega) (fun z => ?_) (fun z => ?_))
          · exact absurd z.1 (by omega)
          · refine zW_if_eq (tgt := 43) dX10_token_27 (by decide) (by first | assumption | omega | (unfold InR; omega) | (unfold InL; omega) | (simp only [InR] at *; omega)) (fun q2 => ?_) (fun q2 => ?_)
            · exact kk σ1 p (by rw [← hs, sc_end (by omega)]) (by omega) hp m1
            · exact absurd rfl q2
    | succ m ih =>
      intro p σ1 hpm hs hp m1 kk
      have k1 := h.mr m1
      have hI1 := hI.mr m1
      have hst := sc_step (P := isSp) (tx := tl l) (n := l.length) (p := p) (by omega)
      have on : isSp (tl l p) = true → zW Γ mX10_token 30 [some (vR (some y))] [] σ1 0 0 Q := fun hy => by
        rw [if_pos hy] at hst
        refine zW_aload_n dX10_token_30 rfl ?_
        refine zW_dup dX10_token_31 rfl ?_
        refine zgI dX10_token_32 fX10_215 k1.1 rfl hp ?_
        refine zW_iconst dX10_token_35 ?_
        refine zW_iadd dX10_token_36 ?_
        refine zpI dX10_token_37 fX10_215 k1.1 rfl (Or.inl rfl) (zst_int _) ?_
        refine zW_goto (tgt := 0) dX10_token_40 (by decide) ?_
        exact ih (p + 1) _ (by omega) (by rw [← hst]; exact hs) (zO_sOs _ _ _ _) (m1.tr (Mr.O (by decide))) kk
      refine zW_aload_n dX10_token_0 rfl ?_
      refine zW_aload_n dX10_token_1 rfl ?_
      refine zgI dX10_token_2 fX10_215 k1.1 rfl hp ?_
      refine zW_bipush dX10_token_5 (by decide) ?_
      refine zW_bipush dX10_token_7 (by decide) ?_
      refine zcV3 dX10_token_9 rfl eX10_isIn b1395 ⟨by decide, by decide, by decide, by decide⟩ rfl k1.1 rfl (by decide) (Nat.le_of_ble_eq_true rfl) (r_isIn (lo := 32) (hi := 32) k1 hI1 (by decide) (by decide) (by omega) (fun z => ?_) (fun z => ?_))
      · refine zW_if_ne (tgt := 30) dX10_token_12 (by decide) (by first | assumption | omega | (unfold InR; omega) | (unfold InL; omega) | (simp only [InR] at *; omega)) (fun q => ?_) (fun q => ?_)
        · exact on (isSp_iff.mpr (by omega))
        · exact absurd q (by decide)
      · refine zW_if_ne (tgt := 30) dX10_token_12 (by decide) (by first | assumption | omega | (unfold InR; omega) | (unfold InL; omega) | (simp only [InR] at *; omega)) (fun q => ?_) (fun q => ?_)
        · exact absurd rfl q
        · refine zW_aload_n dX10_token_15 rfl ?_
          refine zW_aload_n dX10_token_16 rfl ?_
          refine zgI dX10_token_17 fX10_215 k1.1 rfl hp ?_
          refine zW_bipush dX10_token_20 (by decide) ?_
          refine zW_bipush dX10_token_22 (by decide) ?_
          refine zcV3 dX10_token_24 rfl eX10_isIn b1395 ⟨by decide, by decide, by decide, by decide⟩ rfl k1.1 rfl (by decide) (Nat.le_of_ble_eq_true rfl) (r_isIn (lo := 10) (hi := 10) k1 hI1 (by decide) (by decide) (by omega) (fun z2 => ?_) (fun z2 => ?_))
          · refine zW_if_eq (tgt := 43) dX10_token_27 (by decide) (by first | assumption | omega | (unfold InR; omega) | (unfold InL; omega) | (simp only [InR] at *; omega)) (fun q2 => ?_) (fun q2 => ?_)
            · exact absurd q2 (by decide)
            · exact on (isSp_iff.mpr (by omega))
          · refine zW_if_eq (tgt := 43) dX10_token_27 (by decide) (by first | assumption | omega | (unfold InR; omega) | (unfold InL; omega) | (simp only [InR] at *; omega)) (fun q2 => ?_) (fun q2 => ?_)
            · rw [if_neg (fun z3 => by rw [isSp_iff] at z3; omega)] at hst
              exact kk σ1 p (by rw [← hs, hst]) (by omega) hp m1
            · exact absurd rfl q2
  refine loop (l.length - p0) p0 σ (by omega) rfl hp0 Mr.rf (fun σ1 s hs hsl hp1 m1 => ?_)
  have k1 := h.mr m1
  refine zW_aload_n dX10_token_43 rfl ?_
  refine zW_aload_n dX10_token_44 rfl ?_
  refine zgI dX10_token_45 fX10_215 k1.1 rfl hp1 ?_
  refine zpI dX10_token_48 fX10_218 k1.1 rfl (Or.inl rfl) (zst_int _) ?_
  have m2 : Mr σ (sO σ1 y 33 (s : Int)) y KT [] := m1.tr (Mr.O (by decide))
  have hp2 : zO (sO σ1 y 33 (s : Int)) y 32 = (s : Int) := by rw [zO_sOk _ _ _ _ (by omega)]; exact hp1
  have hs2 : zO (sO σ1 y 33 (s : Int)) y 33 = (s : Int) := zO_sOs _ _ _ _
  generalize sO σ1 y 33 (s : Int) = σ2 at m2 hp2 hs2 ⊢
  have k2 := h.mr m2
  have hI2 := hI.mr m2
  have et : tok (tl l) l.length p0 = if l.length ≤ s then (0, s, s) else if isLt (tl l s) then (if 60 < sc isLt (tl l) l.length s - s then 4 else 1, s, sc isLt (tl l) l.length s) else if isDg (tl l s) then (if 2 < sc isDg (tl l) l.length s - s then 4 else 2, s, sc isDg (tl l) l.length s) else (if tl l s = 59 then 3 else 4, s, s + 1) := by rw [hs]; rfl
  generalize tok (tl l) l.length p0 = t at h0 h1 et
  refine zW_aload_n dX10_token_51 rfl ?_
  refine zgI dX10_token_52 fX10_215 k2.1 rfl hp2 ?_
  refine zW_aload_n dX10_token_55 rfl ?_
  refine zgI dX10_token_56 fX10_206 k2.1 rfl hI2.1 ?_
  refine zW_icmp_ne (tgt := 69) dX10_token_59 (by decide) (by first | assumption | omega | (unfold InR; omega) | (unfold InL; omega) | (simp only [InR] at *; omega)) (by first | assumption | omega | (unfold InR; omega) | (unfold InL; omega) | (simp only [InR] at *; omega)) (fun q => ?_) (fun q => ?_)
  · have hsn : s < l.length := by omega
    rw [if_neg (by omega)] at et
    refine zW_aload_n dX10_token_69 rfl ?_
    refine zW_aload_n dX10_token_70 rfl ?_
    refine zgI dX10_token_71 fX10_215 k2.1 rfl hp2 ?_
    refine zcV1 dX10_token_74 rfl eX10_isLetter b1399 ⟨by decide, by decide, by decide, by decide⟩ rfl k2.1 rfl (by decide) (Nat.le_of_ble_eq_true rfl) (r_isLetter k2 hI2 (by omega) (fun z => ?_) (fun z => ?_))
    · refine zW_if_eq (tgt := 137) dX10_token_77 (by decide) (by first | assumption | omega | (unfold InR; omega) | (unfold InL; omega) | (simp only [InR] at *; omega)) (fun q2 => ?_) (fun q2 => ?_)
      · exact absurd q2 (by decide)
      · rw [if_pos z.2] at et
        generalize he : sc isLt (tl l) l.length s = e at et
        refine zW_aload_n dX10_token_80 rfl ?_
        refine zW_iconst dX10_token_81 ?_
        refine zpI dX10_token_82 fX10_221 k2.1 rfl (Or.inl rfl) (zst_int _) ?_
        have lend : ∀ σ3, s ≤ e → e ≤ l.length → zO σ3 y 32 = (e : Int) → zO σ3 y 33 = (s : Int) → zO σ3 y 34 = 1 → Mr σ σ3 y KT [] → zW Γ mX10_token 109 [some (vR (some y))] [] σ3 0 0 Q := by
          intro σ3 hse hen g1 g2 g3 m3
          have k3 := h.mr m3
          refine zW_aload_n dX10_token_109 rfl ?_
          refine zgI dX10_token_110 fX10_215 k3.1 rfl g1 ?_
          refine zW_aload_n dX10_token_113 rfl ?_
          refine zgI dX10_token_114 fX10_218 k3.1 rfl g2 ?_
          refine zW_isub dX10_token_117 ?_
          refine zW_bipush dX10_token_118 (by decide) ?_
          refine zW_icmp_le (tgt := 131) dX10_token_120 (by decide) (by first | assumption | omega | (unfold InR; omega) | (unfold InL; omega) | (simp only [InR] at *; omega)) (by first | assumption | omega | (unfold InR; omega) | (unfold InL; omega) | (simp only [InR] at *; omega)) (fun b2 => ?_) (fun b2 => ?_)
          · rw [if_neg (by omega)] at et
            refine zW_iconst dX10_token_131 ?_
            refine zW_goto (tgt := 136) dX10_token_132 (by decide) ?_
            refine zW_ireturn dX10_token_136 rfl rfl (by first | decide | (show _ ≤ (0 : Nat); omega)) (by first | decide | (show _ ≤ (0 : Nat); omega)) ?_
            subst et
            exact h1 σ3 (show (1 : Nat) ≠ 4 by decide) ⟨g3, g2, g1, fun z => absurd (show (1 : Nat) = 2 from z) (by decide)⟩ m3
          · rw [if_pos (by omega)] at et
            refine zW_aload_n dX10_token_123 rfl ?_
            refine zW_iconst dX10_token_124 ?_
            refine zcV1 dX10_token_125 rfl eX10_faults b1403 ⟨by decide, by decide, by decide, by decide⟩ rfl k3.1 rfl (by decide) (Nat.le_of_ble_eq_true rfl) (r_faults k3 ?_)
            refine zW_if_eq (tgt := 135) dX10_token_128 (by decide) (by first | assumption | omega | (unfold InR; omega) | (unfold InL; omega) | (simp only [InR] at *; omega)) (fun b3 => ?_) (fun b3 => ?_)
            · refine zW_iconst dX10_token_135 ?_
              refine zW_ireturn dX10_token_136 rfl rfl (by first | decide | (show _ ≤ (0 : Nat); omega)) (by first | decide | (show _ ≤ (0 : Nat); omega)) ?_
              subst et
              exact h0 _ rfl ⟨zO_sOs _ _ _ _, by rw [zO_sOk _ _ _ _ (by omega)]; exact g2⟩ (m3.tr (Mr.O (by decide)))
            · exact absurd rfl b3
        have lloop : ∀ m p σ3, p + m = l.length → s ≤ p → sc isLt (tl l) l.length p = e → zO σ3 y 32 = (p : Int) → zO σ3 y 33 = (s : Int) → zO σ3 y 34 = 1 → Mr σ σ3 y KT [] → zW Γ mX10_token 85 [some (vR (some y))] [] σ3 0 0 Q := by
          intro m
          induction m with
          | zero =>
            intro p σ3 hpm hsp hpe g1 g2 g3 m3
            have k3 := h.mr m3
            have hI3 := hI.mr m3
            rw [sc_end (by omega)] at hpe
            refine zW_aload_n dX10_token_85 rfl ?_
            refine zW_aload_n dX10_token_86 rfl ?_
            refine zgI dX10_token_87 fX10_215 k3.1 rfl g1 ?_
            refine zcV1 dX10_token_90 rfl eX10_isLetter b1399 ⟨by decide, by decide, by decide, by decide⟩ rfl k3.1 rfl (by decide) (Nat.le_of_ble_eq_true rfl) (r_isLetter k3 hI3 (by omega) (fun z4 => ?_) (fun z4 => ?_))
            · exact absurd z4.1 (by omega)
            · refine zW_if_eq (tgt := 109) dX10_token_93 (by decide) (by first | assumption | omega | (unfold InR; omega) | (unfold InL; omega) | (simp only [InR] at *; omega)) (fun b1 => ?_) (fun b1 => ?_)
              · subst hpe; exact lend σ3 hsp (by omega) g1 g2 g3 m3
              · exact absurd rfl b1
          | succ m ih =>
            intro p σ3 hpm hsp hpe g1 g2 g3 m3
            have k3 := h.mr m3
            have hI3 := hI.mr m3
            rw [sc_step (by omega)] at hpe
            refine zW_aload_n dX10_token_85 rfl ?_
            refine zW_aload_n dX10_token_86 rfl ?_
            refine zgI dX10_token_87 fX10_215 k3.1 rfl g1 ?_
            refine zcV1 dX10_token_90 rfl eX10_isLetter b1399 ⟨by decide, by decide, by decide, by decide⟩ rfl k3.1 rfl (by decide) (Nat.le_of_ble_eq_true rfl) (r_isLetter k3 hI3 (by omega) (fun z4 => ?_) (fun z4 => ?_))
            · rw [if_pos z4.2] at hpe
              refine zW_if_eq (tgt := 109) dX10_token_93 (by decide) (by first | assumption | omega | (unfold InR; omega) | (unfold InL; omega) | (simp only [InR] at *; omega)) (fun b1 => ?_) (fun b1 => ?_)
              · exact absurd b1 (by decide)
              · refine zW_aload_n dX10_token_96 rfl ?_
                refine zW_dup dX10_token_97 rfl ?_
                refine zgI dX10_token_98 fX10_215 k3.1 rfl g1 ?_
                refine zW_iconst dX10_token_101 ?_
                refine zW_iadd dX10_token_102 ?_
                refine zpI dX10_token_103 fX10_215 k3.1 rfl (Or.inl rfl) (zst_int _) ?_
                refine zW_goto (tgt := 85) dX10_token_106 (by decide) ?_
                exact ih (p + 1) _ (by omega) (by omega) hpe (zO_sOs _ _ _ _) (by rw [zO_sOk _ _ _ _ (by omega)]; exact g2) (by rw [zO_sOk _ _ _ _ (by omega)]; exact g3) (m3.tr (Mr.O (by decide)))
            · rw [if_neg (fun z5 => z4 ⟨by omega, z5⟩)] at hpe
              refine zW_if_eq (tgt := 109) dX10_token_93 (by decide) (by first | assumption | omega | (unfold InR; omega) | (unfold InL; omega) | (simp only [InR] at *; omega)) (fun b1 => ?_) (fun b1 => ?_)
              · subst hpe; exact lend σ3 hsp (by omega) g1 g2 g3 m3
              · exact absurd rfl b1
        exact lloop (l.length - s) s _ (by omega) (Nat.le_refl _) he (by rw [zO_sOk _ _ _ _ (by omega)]; exact hp2) (by rw [zO_sOk _ _ _ _ (by omega)]; exact hs2) (zO_sOs _ _ _ _) (m2.tr (Mr.O (by decide)))
    · refine zW_if_eq (tgt := 137) dX10_token_77 (by decide) (by first | assumption | omega | (unfold InR; omega) | (unfold InL; omega) | (simp only [InR] at *; omega)) (fun q2 => ?_) (fun q2 => ?_)
      · rw [if_neg (fun z2 => z ⟨hsn, z2⟩)] at et
        refine zW_aload_n dX10_token_137 rfl ?_
        refine zW_aload_n dX10_token_138 rfl ?_
        refine zgI dX10_token_139 fX10_215 k2.1 rfl hp2 ?_
        refine zW_bipush dX10_token_142 (by decide) ?_
        refine zW_bipush dX10_token_144 (by decide) ?_
        refine zcV3 dX10_token_146 rfl eX10_isIn b1395 ⟨by decide, by decide, by decide, by decide⟩ rfl k2.1 rfl (by decide) (Nat.le_of_ble_eq_true rfl) (r_isIn (lo := 48) (hi := 57) k2 hI2 (by decide) (by decide) (by omega) (fun z3 => ?_) (fun z3 => ?_))
        · refine zW_if_eq (tgt := 254) dX10_token_149 (by decide) (by first | assumption | omega | (unfold InR; omega) | (unfold InL; omega) | (simp only [InR] at *; omega)) (fun q3 => ?_) (fun q3 => ?_)
          · exact absurd q3 (by decide)
          · rw [if_pos (isDg_iff.mpr ⟨z3.2.1, z3.2.2⟩)] at et
            generalize he : sc isDg (tl l) l.length s = e at et
            refine zW_aload_n dX10_token_152 rfl ?_
            refine zW_iconst dX10_token_153 ?_
            refine zpI dX10_token_154 fX10_221 k2.1 rfl (Or.inl rfl) (zst_int _) ?_
            have m5 : Mr σ (sO σ2 y 34 2) y KT [] := m2.tr (Mr.O (by decide))
            have hp5 : zO (sO σ2 y 34 2) y 32 = (s : Int) := by rw [zO_sOk _ _ _ _ (by omega)]; exact hp2
            have hs5 : zO (sO σ2 y 34 2) y 33 = (s : Int) := by rw [zO_sOk _ _ _ _ (by omega)]; exact hs2
            have ho5 : zO (sO σ2 y 34 2) y 34 = 2 := zO_sOs _ _ _ _
            generalize sO σ2 y 34 2 = σ5 at m5 hp5 hs5 ho5 ⊢
            have k5 := h.mr m5
            refine zW_aload_n dX10_token_157 rfl ?_
            refine zW_iconst dX10_token_158 ?_
            refine zpI dX10_token_159 fX10_230 k5.1 rfl (Or.inl rfl) (zst_int _) ?_
            have dend : ∀ σ3, s ≤ e → e ≤ l.length → zO σ3 y 32 = (e : Int) → zO σ3 y 33 = (s : Int) → zO σ3 y 34 = 2 → zO σ3 y 35 = (nmF (tl l) s (if e - s < 2 then e - s else 2) : Nat) → Mr σ σ3 y KT [] → zW Γ mX10_token 227 [some (vR (some y))] [] σ3 0 0 Q := by
              intro σ3 hse hen g1 g2 g3 g4 m3
              have k3 := h.mr m3
              refine zW_aload_n dX10_token_227 rfl ?_
              refine zgI dX10_token_228 fX10_215 k3.1 rfl g1 ?_
              refine zW_aload_n dX10_token_231 rfl ?_
              refine zgI dX10_token_232 fX10_218 k3.1 rfl g2 ?_
              refine zW_isub dX10_token_235 ?_
              refine zW_iconst dX10_token_236 ?_
              refine zW_icmp_le (tgt := 248) dX10_token_237 (by decide) (by first | assumption | omega | (unfold InR; omega) | (unfold InL; omega) | (simp only [InR] at *; omega)) (by first | assumption | omega | (unfold InR; omega) | (unfold InL; omega) | (simp only [InR] at *; omega)) (fun b2 => ?_) (fun b2 => ?_)
              · rw [if_neg (by omega)] at et
                refine zW_iconst dX10_token_248 ?_
                refine zW_goto (tgt := 253) dX10_token_249 (by decide) ?_
                refine zW_ireturn dX10_token_253 rfl rfl (by first | decide | (show _ ≤ (0 : Nat); omega)) (by first | decide | (show _ ≤ (0 : Nat); omega)) ?_
                subst et
                refine h1 σ3 (show (2 : Nat) ≠ 4 by decide) ⟨g3, g2, g1, fun _ => ?_⟩ m3
                rw [g4]
                show _ = (nmF (tl l) s (e - s) : Int)
                congr 2
                split <;> omega
              · rw [if_pos (by omega)] at et
                refine zW_aload_n dX10_token_240 rfl ?_
                refine zW_iconst dX10_token_241 ?_
                refine zcV1 dX10_token_242 rfl eX10_faults b1403 ⟨by decide, by decide, by decide, by decide⟩ rfl k3.1 rfl (by decide) (Nat.le_of_ble_eq_true rfl) (r_faults k3 ?_)
                refine zW_if_eq (tgt := 252) dX10_token_245 (by decide) (by first | assumption | omega | (unfold InR; omega) | (unfold InL; omega) | (simp only [InR] at *; omega)) (fun b3 => ?_) (fun b3 => ?_)
                · refine zW_iconst dX10_token_252 ?_
                  refine zW_ireturn dX10_token_253 rfl rfl (by first | decide | (show _ ≤ (0 : Nat); omega)) (by first | decide | (show _ ≤ (0 : Nat); omega)) ?_
                  subst et
                  exact h0 _ rfl ⟨zO_sOs _ _ _ _, by rw [zO_sOk _ _ _ _ (by omega)]; exact g2⟩ (m3.tr (Mr.O (by decide)))
                · exact absurd rfl b3
            have dloop : ∀ m p (N : Nat) σ3, p + m = l.length → s ≤ p → sc isDg (tl l) l.length p = e → zO σ3 y 32 = (p : Int) → zO σ3 y 33 = (s : Int) → zO σ3 y 34 = 2 → zO σ3 y 35 = (N : Int) → N = nmF (tl l) s (if p - s < 2 then p - s else 2) → (p = s → N = 0) → (p = s + 1 → N ≤ 9) → Mr σ σ3 y KT [] → zW Γ mX10_token 162 [some (vR (some y))] [] σ3 0 0 Q := by
              intro m
              induction m with
              | zero =>
                intro p N σ3 hpm hsp hpe g1 g2 g3 g4 g5 g6 g7 m3
                have k3 := h.mr m3
                have hI3 := hI.mr m3
                rw [sc_end (by omega)] at hpe
                refine zW_aload_n dX10_token_162 rfl ?_
                refine zW_aload_n dX10_token_163 rfl ?_
                refine zgI dX10_token_164 fX10_215 k3.1 rfl g1 ?_
                refine zW_bipush dX10_token_167 (by decide) ?_
                refine zW_bipush dX10_token_169 (by decide) ?_
                refine zcV3 dX10_token_171 rfl eX10_isIn b1395 ⟨by decide, by decide, by decide, by decide⟩ rfl k3.1 rfl (by decide) (Nat.le_of_ble_eq_true rfl) (r_isIn (lo := 48) (hi := 57) k3 hI3 (by decide) (by decide) (by omega) (fun z4 => ?_) (fun z4 => ?_))
                · exact absurd z4.1 (by omega)
                · refine zW_if_eq (tgt := 227) dX10_token_174 (by decide) (by first | assumption | omega | (unfold InR; omega) | (unfold InL; omega) | (simp only [InR] at *; omega)) (fun b1 => ?_) (fun b1 => ?_)
                  · subst hpe; exact dend σ3 hsp (by omega) g1 g2 g3 (by rw [g4, g5]) m3
                  · exact absurd rfl b1
              | succ m ih =>
                intro p N σ3 hpm hsp hpe g1 g2 g3 g4 g5 g6 g7 m3
                have k3 := h.mr m3
                have hI3 := hI.mr m3
                rw [sc_step (by omega)] at hpe
                have hb := tl_lt hI p
                have hv := hI3.2.2.1 p (by omega)
                change zI σ3 (y + 2) p = sgn (tl l p) at hv
                have hsg := sgn_or hb
                refine zW_aload_n dX10_token_162 rfl ?_
                refine zW_aload_n dX10_token_163 rfl ?_
                refine zgI dX10_token_164 fX10_215 k3.1 rfl g1 ?_
                refine zW_bipush dX10_token_167 (by decide) ?_
                refine zW_bipush dX10_token_169 (by decide) ?_
                refine zcV3 dX10_token_171 rfl eX10_isIn b1395 ⟨by decide, by decide, by decide, by decide⟩ rfl k3.1 rfl (by decide) (Nat.le_of_ble_eq_true rfl) (r_isIn (lo := 48) (hi := 57) k3 hI3 (by decide) (by decide) (by omega) (fun z4 => ?_) (fun z4 => ?_))
                · rw [if_pos (isDg_iff.mpr z4.2)] at hpe
                  refine zW_if_eq (tgt := 227) dX10_token_174 (by decide) (by first | assumption | omega | (unfold InR; omega) | (unfold InL; omega) | (simp only [InR] at *; omega)) (fun b1 => ?_) (fun b1 => ?_)
                  · exact absurd b1 (by decide)
                  · refine zW_aload_n dX10_token_177 rfl ?_
                    refine zgI dX10_token_178 fX10_215 k3.1 rfl g1 ?_
                    refine zW_aload_n dX10_token_181 rfl ?_
                    refine zgI dX10_token_182 fX10_218 k3.1 rfl g2 ?_
                    refine zW_isub dX10_token_185 ?_
                    refine zW_iconst dX10_token_186 ?_
                    refine zW_icmp_ge (tgt := 214) dX10_token_187 (by decide) (by first | assumption | omega | (unfold InR; omega) | (unfold InL; omega) | (simp only [InR] at *; omega)) (by first | assumption | omega | (unfold InR; omega) | (unfold InL; omega) | (simp only [InR] at *; omega)) (fun b2 => ?_) (fun b2 => ?_)
                    · refine zW_aload_n dX10_token_214 rfl ?_
                      refine zW_dup dX10_token_215 rfl ?_
                      refine zgI dX10_token_216 fX10_215 k3.1 rfl g1 ?_
                      refine zW_iconst dX10_token_219 ?_
                      refine zW_iadd dX10_token_220 ?_
                      refine zpI dX10_token_221 fX10_215 k3.1 rfl (Or.inl rfl) (zst_int _) ?_
                      refine zW_goto (tgt := 162) dX10_token_224 (by decide) ?_
                      exact ih (p + 1) N _ (by omega) (by omega) hpe (zO_sOs _ _ _ _) (by rw [zO_sOk _ _ _ _ (by omega)]; exact g2) (by rw [zO_sOk _ _ _ _ (by omega)]; exact g3) (by rw [zO_sOk _ _ _ _ (by omega)]; exact g4) (by rw [g5, if_neg (by omega), if_neg (by omega)]) (fun z => by omega) (fun z => by omega) (m3.tr (Mr.O (by decide)))
                    · have e9 : 10 * (N : Int) + sgn (tl l p) - 48 = ((10 * N + (tl l p - 48) : Nat) : Int) := by omega
                      refine zW_aload_n dX10_token_190 rfl ?_
                      refine zW_bipush dX10_token_191 (by decide) ?_
                      refine zW_aload_n dX10_token_193 rfl ?_
                      refine zgI dX10_token_194 fX10_230 k3.1 rfl g4 ?_
                      refine zW_imul dX10_token_197 ?_
                      refine zW_aload_n dX10_token_198 rfl ?_
                      refine zgP dX10_token_199 fX10_13 k3.1 rfl k3.p_buffer ?_
                      refine zW_aload_n dX10_token_202 rfl ?_
                      refine zgI dX10_token_203 fX10_215 k3.1 rfl g1 ?_
                      refine zrB dX10_token_206 k3.k_buffer (by first | assumption | omega | (unfold InR; omega) | (unfold InL; omega) | (simp only [InR] at *; omega)) (by first | assumption | omega | (unfold InR; omega) | (unfold InL; omega) | (simp only [InR] at *; omega)) (by first | assumption | omega | (unfold InR; omega) | (unfold InL; omega) | (simp only [InR] at *; omega)) hv ?_
                      refine zW_iadd dX10_token_207 ?_
                      refine zW_bipush dX10_token_208 (by decide) ?_
                      refine zW_isub dX10_token_210 ?_
                      rw [e9]
                      refine zpI dX10_token_211 fX10_230 k3.1 rfl (Or.inl rfl) (zst_int _) ?_
                      have m4 := m3.tr (Mr.O (k := 35) (x := ((10 * N + (tl l p - 48) : Nat) : Int)) (show 35 ∈ KT by decide))
                      have g1' : zO (sO σ3 y 35 ((10 * N + (tl l p - 48) : Nat) : Int)) y 32 = (p : Int) := by rw [zO_sOk _ _ _ _ (by omega)]; exact g1
                      have g2' : zO (sO σ3 y 35 ((10 * N + (tl l p - 48) : Nat) : Int)) y 33 = (s : Int) := by rw [zO_sOk _ _ _ _ (by omega)]; exact g2
                      have g3' : zO (sO σ3 y 35 ((10 * N + (tl l p - 48) : Nat) : Int)) y 34 = 2 := by rw [zO_sOk _ _ _ _ (by omega)]; exact g3
                      have g4' : zO (sO σ3 y 35 ((10 * N + (tl l p - 48) : Nat) : Int)) y 35 = ((10 * N + (tl l p - 48) : Nat) : Int) := zO_sOs _ _ _ _
                      generalize sO σ3 y 35 ((10 * N + (tl l p - 48) : Nat) : Int) = σ4 at m4 g1' g2' g3' g4' ⊢
                      have k4 := h.mr m4
                      refine zW_aload_n dX10_token_214 rfl ?_
                      refine zW_dup dX10_token_215 rfl ?_
                      refine zgI dX10_token_216 fX10_215 k4.1 rfl g1' ?_
                      refine zW_iconst dX10_token_219 ?_
                      refine zW_iadd dX10_token_220 ?_
                      refine zpI dX10_token_221 fX10_215 k4.1 rfl (Or.inl rfl) (zst_int _) ?_
                      refine zW_goto (tgt := 162) dX10_token_224 (by decide) ?_
                      refine ih (p + 1) (10 * N + (tl l p - 48)) _ (by omega) (by omega) hpe (zO_sOs _ _ _ _) (by rw [zO_sOk _ _ _ _ (by omega)]; exact g2') (by rw [zO_sOk _ _ _ _ (by omega)]; exact g3') (by rw [zO_sOk _ _ _ _ (by omega)]; exact g4') ?_ (fun z => by omega) (fun z => by have := g6 (by omega); omega) (m4.tr (Mr.O (by decide)))
                      rw [if_pos (by omega)] at g5
                      have e1 : (if p + 1 - s < 2 then p + 1 - s else 2) = (p - s) + 1 := by split <;> omega
                      rw [e1]
                      show _ = 10 * nmF (tl l) s (p - s) + (tl l (s + (p - s)) - 48)
                      rw [← g5, show s + (p - s) = p by omega]
                · rw [if_neg (fun z5 => z4 ⟨by omega, isDg_iff.mp z5⟩)] at hpe
                  refine zW_if_eq (tgt := 227) dX10_token_174 (by decide) (by first | assumption | omega | (unfold InR; omega) | (unfold InL; omega) | (simp only [InR] at *; omega)) (fun b1 => ?_) (fun b1 => ?_)
                  · subst hpe; exact dend σ3 hsp (by omega) g1 g2 g3 (by rw [g4, g5]) m3
                  · exact absurd rfl b1
            exact dloop (l.length - s) s 0 _ (by omega) (Nat.le_refl _) he (by rw [zO_sOk _ _ _ _ (by omega)]; exact hp5) (by rw [zO_sOk _ _ _ _ (by omega)]; exact hs5) (by rw [zO_sOk _ _ _ _ (by omega)]; exact ho5) (zO_sOs _ _ _ _) (by rw [Nat.sub_self, if_pos (by decide)]; rfl) (fun _ => rfl) (fun z => by omega) (m5.tr (Mr.O (by decide)))
        · refine zW_if_eq (tgt := 254) dX10_token_149 (by decide) (by first | assumption | omega | (unfold InR; omega) | (unfold InL; omega) | (simp only [InR] at *; omega)) (fun q3 => ?_) (fun q3 => ?_)
          · rw [if_neg (fun z4 => z3 ⟨hsn, isDg_iff.mp z4⟩)] at et
            have hb := tl_lt hI s
            have hv := hI2.2.2.1 s hsn
            change zI σ2 (y + 2) s = sgn (tl l s) at hv
            generalize tl l s = b at et hb hv
            have hsg := sgn_or hb
            refine zW_aload_n dX10_token_254 rfl ?_
            refine zW_iconst dX10_token_255 ?_
            refine zpI dX10_token_256 fX10_221 k2.1 rfl (Or.inl rfl) (zst_int _) ?_
            have m3 : Mr σ (sO σ2 y 34 3) y KT [] := m2.tr (Mr.O (by decide))
            have hp3 : zO (sO σ2 y 34 3) y 32 = (s : Int) := by rw [zO_sOk _ _ _ _ (by omega)]; exact hp2
            have hs3 : zO (sO σ2 y 34 3) y 33 = (s : Int) := by rw [zO_sOk _ _ _ _ (by omega)]; exact hs2
            have ho3 : zO (sO σ2 y 34 3) y 34 = 3 := zO_sOs _ _ _ _
            have hv3 : zI (sO σ2 y 34 3) (y + 2) s = sgn b := hv
            generalize sO σ2 y 34 3 = σ3 at m3 hp3 hs3 ho3 hv3 ⊢
            have k3 := h.mr m3
            refine zW_aload_n dX10_token_259 rfl ?_
            refine zW_dup dX10_token_260 rfl ?_
            refine zgI dX10_token_261 fX10_215 k3.1 rfl hp3 ?_
            refine zW_iconst dX10_token_264 ?_
            refine zW_iadd dX10_token_265 ?_
            refine zpI dX10_token_266 fX10_215 k3.1 rfl (Or.inl rfl) (zst_int _) ?_
            have m4 : Mr σ (sO σ3 y 32 ((s : Int) + 1)) y KT [] := m3.tr (Mr.O (by decide))
            have hp4 : zO (sO σ3 y 32 ((s : Int) + 1)) y 32 = (s : Int) + 1 := zO_sOs _ _ _ _
            have hs4 : zO (sO σ3 y 32 ((s : Int) + 1)) y 33 = (s : Int) := by rw [zO_sOk _ _ _ _ (by omega)]; exact hs3
            have ho4 : zO (sO σ3 y 32 ((s : Int) + 1)) y 34 = 3 := by rw [zO_sOk _ _ _ _ (by omega)]; exact ho3
            have hv4 : zI (sO σ3 y 32 ((s : Int) + 1)) (y + 2) s = sgn b := hv3
            generalize sO σ3 y 32 ((s : Int) + 1) = σ4 at m4 hp4 hs4 ho4 hv4 ⊢
            have k4 := h.mr m4
            refine zW_aload_n dX10_token_269 rfl ?_
            refine zgP dX10_token_270 fX10_13 k4.1 rfl k4.p_buffer ?_
            refine zW_aload_n dX10_token_273 rfl ?_
            refine zgI dX10_token_274 fX10_218 k4.1 rfl hs4 ?_
            refine zrB dX10_token_277 k4.k_buffer (by first | assumption | omega | (unfold InR; omega) | (unfold InL; omega) | (simp only [InR] at *; omega)) (by first | assumption | omega | (unfold InR; omega) | (unfold InL; omega) | (simp only [InR] at *; omega)) (by first | assumption | omega | (unfold InR; omega) | (unfold InL; omega) | (simp only [InR] at *; omega)) hv4 ?_
            refine zW_bipush dX10_token_278 (by decide) ?_
            refine zW_icmp_eq (tgt := 291) dX10_token_280 (by decide) (by first | assumption | omega | (unfold InR; omega) | (unfold InL; omega) | (simp only [InR] at *; omega)) (by first | assumption | omega | (unfold InR; omega) | (unfold InL; omega) | (simp only [InR] at *; omega)) (fun q4 => ?_) (fun q4 => ?_)
            · rw [if_pos (by omega)] at et
              refine zW_iconst dX10_token_291 ?_
              refine zW_goto (tgt := 296) dX10_token_292 (by decide) ?_
              refine zW_ireturn dX10_token_296 rfl rfl (by first | decide | (show _ ≤ (0 : Nat); omega)) (by first | decide | (show _ ≤ (0 : Nat); omega)) ?_
              subst et
              exact h1 σ4 (show (3 : Nat) ≠ 4 by decide) ⟨ho4, hs4, hp4, fun z => absurd (show (3 : Nat) = 2 from z) (by decide)⟩ m4
            · rw [if_neg (by omega)] at et
              refine zW_aload_n dX10_token_283 rfl ?_
              refine zW_iconst dX10_token_284 ?_
              refine zcV1 dX10_token_285 rfl eX10_faults b1403 ⟨by decide, by decide, by decide, by decide⟩ rfl k4.1 rfl (by decide) (Nat.le_of_ble_eq_true rfl) (r_faults k4 ?_)
              refine zW_if_eq (tgt := 295) dX10_token_288 (by decide) (by first | assumption | omega | (unfold InR; omega) | (unfold InL; omega) | (simp only [InR] at *; omega)) (fun q5 => ?_) (fun q5 => ?_)
              · refine zW_iconst dX10_token_295 ?_
                refine zW_ireturn dX10_token_296 rfl rfl (by first | decide | (show _ ≤ (0 : Nat); omega)) (by first | decide | (show _ ≤ (0 : Nat); omega)) ?_
                subst et
                exact h0 _ rfl ⟨zO_sOs _ _ _ _, by rw [zO_sOk _ _ _ _ (by omega)]; exact hs4⟩ (m4.tr (Mr.O (by decide)))
              · exact absurd rfl q5
          · exact absurd rfl q3
      · exact absurd rfl q2
  · rw [if_pos (by omega)] at et
    subst et
    refine zW_aload_n dX10_token_62 rfl ?_
    refine zW_iconst dX10_token_63 ?_
    refine zpI dX10_token_64 fX10_221 k2.1 rfl (Or.inl rfl) (zst_int _) ?_
    refine zW_iconst dX10_token_67 ?_
    refine zW_ireturn dX10_token_68 rfl rfl (by first | decide | (show _ ≤ (0 : Nat); omega)) (by first | decide | (show _ ≤ (0 : Nat); omega)) ?_
    exact h1 _ (show (0 : Nat) ≠ 4 by decide) ⟨zO_sOs _ _ _ _, by rw [zO_sOk _ _ _ _ (by omega)]; exact hs2, by rw [zO_sOk _ _ _ _ (by omega)]; exact hp2, fun z => absurd (show (0 : Nat) = 2 from z) (by decide)⟩ (m2.tr (Mr.O (by decide)))
end RPARSE
