/-! the reference: what it reads -/
section RREAD
variable {Γ : GG} {σ σ' : HS} {Q : Res → HS → Prop} {y o p : Nat} {l w : List Nat} {Ks Rs : List Nat} {t : Nat × Nat × Nat}
set_option maxRecDepth 100000 in
theorem PR.mr (h : PR σ y l t) (m : Mr σ σ' y Ks Rs) (hk : ∀ k ∈ KT, k ∉ Ks := by decide) : PR σ' y l t := by
  obtain ⟨a1, a2, a3, a4⟩ := h
  exact ⟨by rw [m.o (hk _ (by decide))]; exact a1, by rw [m.o (hk _ (by decide))]; exact a2, by rw [m.o (hk _ (by decide))]; exact a3, fun z => by rw [m.o (hk _ (by decide))]; exact a4 z⟩
set_option maxRecDepth 100000 in
theorem PR.f {k : Int} (h : PR σ y l t) : zO (sO σ y 36 k) y 33 = (t.2.1 : Int) := by rw [zO_sOk _ _ _ _ (by omega)]; exact h.2.1
set_option maxRecDepth 100000 in
theorem r_is {k : Nat} (h : RK σ y) (hI : rIn σ y l) (hp : zO σ y 32 = (p : Int)) (hp9 : p ≤ l.length) (hk : k < 4) (h0 : ∀ σ', (tok (tl l) l.length p).1 ≠ k → PF σ' y (1, (tok (tl l) l.length p).2.1) → Mr σ σ' y KT [] → Q (.inl (some (vI 0))) σ') (h1 : ∀ σ', (tok (tl l) l.length p).1 = k → PR σ' y l (tok (tl l) l.length p) → Mr σ σ' y KT [] → Q (.inl (some (vI 1))) σ') : zM Γ mX10_is [vR (some y), vI k] σ Q := by
  have ht := tok_le (tx := tl l) hp9
  refine zM_of (n := 0) (by decide +kernel) rfl rfl rfl ?_
  refine zW_aload_n dX10_is_0 rfl ?_
  refine zcV0 dX10_is_1 rfl eX10_token b1391 ⟨by decide, by decide, by decide, by decide⟩ rfl h.1 rfl (by decide) (Nat.le_of_ble_eq_true rfl) (r_token h hI hp hp9 (fun σ1 e1 f1 m1 => ?_) (fun σ1 e1 f1 m1 => ?_))
  · refine zW_if_eq (tgt := 27) dX10_is_4 (by decide) (by first | assumption | omega | (unfold InR; omega) | (unfold InL; omega) | (simp only [InR] at *; omega)) (fun q => ?_) (fun q => ?_)
    · refine zW_iconst dX10_is_27 ?_
      refine zW_ireturn dX10_is_28 rfl rfl (by first | decide | (show _ ≤ (0 : Nat); omega)) (by first | decide | (show _ ≤ (0 : Nat); omega)) ?_
      exact h0 σ1 (by omega) f1 m1
    · exact absurd rfl q
  · have k1 := h.mr m1
    have e4 := ht.2.2.2.1
    refine zW_if_eq (tgt := 27) dX10_is_4 (by decide) (by first | assumption | omega | (unfold InR; omega) | (unfold InL; omega) | (simp only [InR] at *; omega)) (fun q => ?_) (fun q => ?_)
    · exact absurd q (by decide)
    · refine zW_aload_n dX10_is_7 rfl ?_
      refine zgI dX10_is_8 fX10_221 k1.1 rfl f1.1 ?_
      refine zW_iload_n dX10_is_11 rfl ?_
      refine zW_icmp_eq (tgt := 23) dX10_is_12 (by decide) (by first | assumption | omega | (unfold InR; omega) | (unfold InL; omega) | (simp only [InR] at *; omega)) (by first | assumption | omega | (unfold InR; omega) | (unfold InL; omega) | (simp only [InR] at *; omega)) (fun q2 => ?_) (fun q2 => ?_)
      · refine zW_iconst dX10_is_23 ?_
        refine zW_goto (tgt := 28) dX10_is_24 (by decide) ?_
        refine zW_ireturn dX10_is_28 rfl rfl (by first | decide | (show _ ≤ (0 : Nat); omega)) (by first | decide | (show _ ≤ (0 : Nat); omega)) ?_
        exact h1 σ1 (by omega) f1 m1
      · refine zW_aload_n dX10_is_15 rfl ?_
        refine zW_iconst dX10_is_16 ?_
        refine zcV1 dX10_is_17 rfl eX10_faults b1403 ⟨by decide, by decide, by decide, by decide⟩ rfl k1.1 rfl (by decide) (Nat.le_of_ble_eq_true rfl) (r_faults k1 ?_)
        refine zW_if_eq (tgt := 27) dX10_is_20 (by decide) (by first | assumption | omega | (unfold InR; omega) | (unfold InL; omega) | (simp only [InR] at *; omega)) (fun q3 => ?_) (fun q3 => ?_)
        · refine zW_iconst dX10_is_27 ?_
          refine zW_ireturn dX10_is_28 rfl rfl (by first | decide | (show _ ≤ (0 : Nat); omega)) (by first | decide | (show _ ≤ (0 : Nat); omega)) ?_
          exact h0 _ (by omega) ⟨zO_sOs _ _ _ _, f1.f⟩ (m1.tr (Mr.O (by decide)))
        · exact absurd rfl q3
set_option maxRecDepth 100000 in
theorem nmF_99 {tx : Nat → Nat} {s k : Nat} (hk : k ≤ 2) (hd : ∀ i, s ≤ i → i < s + k → isDg (tx i) = true) : nmF tx s k ≤ 99 := by
  have d : ∀ i, i < k → tx (s + i) - 48 ≤ 9 := fun i hi => by have := isDg_iff.mp (hd (s + i) (by omega) (by omega)); omega
  match k, hk with
  | 0, _ => exact Nat.zero_le _
  | 1, _ =>
    have := d 0 (by decide)
    show 10 * 0 + (tx (s + 0) - 48) ≤ 99
    omega
  | 2, _ =>
    have := d 0 (by decide)
    have := d 1 (by decide)
    show 10 * (10 * 0 + (tx (s + 0) - 48)) + (tx (s + 1) - 48) ≤ 99
    omega
set_option maxRecDepth 100000 in
theorem r_isNumber {lo hi : Nat} (h : RK σ y) (hI : rIn σ y l) (hp : zO σ y 32 = (p : Int)) (hp9 : p ≤ l.length) (hlo : lo ≤ 99) (hhi : hi ≤ 99) (h0 : ∀ σ', (tok (tl l) l.length p).1 ≠ 2 → PF σ' y (1, (tok (tl l) l.length p).2.1) → Mr σ σ' y KT [] → Q (.inl (some (vI 0))) σ') (h2 : ∀ σ', (tok (tl l) l.length p).1 = 2 → (tnum (tl l) (tok (tl l) l.length p) < lo ∨ hi < tnum (tl l) (tok (tl l) l.length p)) → PF σ' y (2, (tok (tl l) l.length p).2.1) → Mr σ σ' y KT [] → Q (.inl (some (vI 0))) σ') (h1 : ∀ σ', (tok (tl l) l.length p).1 = 2 → lo ≤ tnum (tl l) (tok (tl l) l.length p) → tnum (tl l) (tok (tl l) l.length p) ≤ hi → PR σ' y l (tok (tl l) l.length p) → zO σ' y 35 = (tnum (tl l) (tok (tl l) l.length p) : Int) → Mr σ σ' y KT [] → Q (.inl (some (vI 1))) σ') : zM Γ mX10_isNumber [vR (some y), vI lo, vI hi] σ Q := by
  have ht := tok_le (tx := tl l) hp9
  refine zM_of (n := 0) (by decide +kernel) rfl rfl rfl ?_
  refine zW_aload_n dX10_isNumber_0 rfl ?_
  refine zW_iconst dX10_isNumber_1 ?_
  refine zcV1 dX10_isNumber_2 rfl eX10_is b1419 ⟨by decide, by decide, by decide, by decide⟩ rfl h.1 rfl (by decide) (Nat.le_of_ble_eq_true rfl) (r_is (k := 2) h hI hp hp9 (by decide) (fun σ1 e1 f1 m1 => ?_) (fun σ1 e1 f1 m1 => ?_))
  · refine zW_if_eq (tgt := 36) dX10_isNumber_5 (by decide) (by first | assumption | omega | (unfold InR; omega) | (unfold InL; omega) | (simp only [InR] at *; omega)) (fun q => ?_) (fun q => ?_)
    · refine zW_iconst dX10_isNumber_36 ?_
      refine zW_ireturn dX10_isNumber_37 rfl rfl (by first | decide | (show _ ≤ (0 : Nat); omega)) (by first | decide | (show _ ≤ (0 : Nat); omega)) ?_
      exact h0 σ1 e1 f1 m1
    · exact absurd rfl q
  · have k1 := h.mr m1
    have hn := f1.2.2.2 e1
    obtain ⟨hd1, hd2⟩ := ht.2.2.2.2.2.2 e1
    have h99 : tnum (tl l) (tok (tl l) l.length p) ≤ 99 := nmF_99 hd1 (fun i i1 i2 => hd2 i i1 (by omega))
    have bd : (tnum (tl l) (tok (tl l) l.length p) < lo ∨ hi < tnum (tl l) (tok (tl l) l.length p)) → zW Γ mX10_isNumber 24 [some (vR (some y)), some (vI lo), some (vI hi)] [] σ1 0 0 Q := fun z => by
      refine zW_aload_n dX10_isNumber_24 rfl ?_
      refine zW_iconst dX10_isNumber_25 ?_
      refine zcV1 dX10_isNumber_26 rfl eX10_faults b1403 ⟨by decide, by decide, by decide, by decide⟩ rfl k1.1 rfl (by decide) (Nat.le_of_ble_eq_true rfl) (r_faults k1 ?_)
      refine zW_if_eq (tgt := 36) dX10_isNumber_29 (by decide) (by first | assumption | omega | (unfold InR; omega) | (unfold InL; omega) | (simp only [InR] at *; omega)) (fun q3 => ?_) (fun q3 => ?_)
      · refine zW_iconst dX10_isNumber_36 ?_
        refine zW_ireturn dX10_isNumber_37 rfl rfl (by first | decide | (show _ ≤ (0 : Nat); omega)) (by first | decide | (show _ ≤ (0 : Nat); omega)) ?_
        exact h2 _ e1 z ⟨zO_sOs _ _ _ _, f1.f⟩ (m1.tr (Mr.O (by decide)))
      · exact absurd rfl q3
    refine zW_if_eq (tgt := 36) dX10_isNumber_5 (by decide) (by first | assumption | omega | (unfold InR; omega) | (unfold InL; omega) | (simp only [InR] at *; omega)) (fun q => ?_) (fun q => ?_)
    · exact absurd q (by decide)
    · refine zW_aload_n dX10_isNumber_8 rfl ?_
      refine zgI dX10_isNumber_9 fX10_230 k1.1 rfl hn ?_
      refine zW_iload_n dX10_isNumber_12 rfl ?_
      refine zW_icmp_lt (tgt := 24) dX10_isNumber_13 (by decide) (by first | assumption | omega | (unfold InR; omega) | (unfold InL; omega) | (simp only [InR] at *; omega)) (by first | assumption | omega | (unfold InR; omega) | (unfold InL; omega) | (simp only [InR] at *; omega)) (fun q2 => ?_) (fun q2 => ?_)
      · exact bd (Or.inl (by omega))
      · refine zW_aload_n dX10_isNumber_16 rfl ?_
        refine zgI dX10_isNumber_17 fX10_230 k1.1 rfl hn ?_
        refine zW_iload_n dX10_isNumber_20 rfl ?_
        refine zW_icmp_le (tgt := 32) dX10_isNumber_21 (by decide) (by first | assumption | omega | (unfold InR; omega) | (unfold InL; omega) | (simp only [InR] at *; omega)) (by first | assumption | omega | (unfold InR; omega) | (unfold InL; omega) | (simp only [InR] at *; omega)) (fun q4 => ?_) (fun q4 => ?_)
        · refine zW_iconst dX10_isNumber_32 ?_
          refine zW_goto (tgt := 37) dX10_isNumber_33 (by decide) ?_
          refine zW_ireturn dX10_isNumber_37 rfl rfl (by first | decide | (show _ ≤ (0 : Nat); omega)) (by first | decide | (show _ ≤ (0 : Nat); omega)) ?_
          exact h1 σ1 e1 (by omega) (by omega) f1 hn m1
        · exact bd (Or.inr (by omega))
def LI (tx : Nat → Nat) (t : Nat × Nat × Nat) (i b : Nat) : Prop := if b = 0 then t.2.2 ≤ t.2.1 + i else t.2.1 + i < t.2.2 ∧ tx (t.2.1 + i) = b
set_option maxRecDepth 100000 in
theorem r_letterIs {i b : Nat} (h : RK σ y) (hI : rIn σ y l) (hP : PR σ y l t) (hle : t.2.1 ≤ t.2.2 ∧ t.2.2 ≤ l.length) (hi : i ≤ 4) (hb : b < 128) (h1 : LI (tl l) t i b → Q (.inl (some (vI 1))) σ) (h0 : ¬ LI (tl l) t i b → Q (.inl (some (vI 0))) σ) : zM Γ mX10_letterIs [vR (some y), vI i, vI b] σ Q := by
  have hl6 := hI.2.1
  obtain ⟨a1, a2, a3, a4⟩ := hP
  unfold LI at h1 h0
  refine zM_of (n := 0) (by decide +kernel) rfl rfl rfl ?_
  refine zW_iload_n dX10_letterIs_0 rfl ?_
  refine zW_if_ne (tgt := 25) dX10_letterIs_1 (by decide) (by first | assumption | omega | (unfold InR; omega) | (unfold InL; omega) | (simp only [InR] at *; omega)) (fun q => ?_) (fun q => ?_)
  · rw [if_neg (by omega)] at h1 h0
    have bd : ¬ (t.2.1 + i < t.2.2 ∧ tl l (t.2.1 + i) = b) → zW Γ mX10_letterIs 57 [some (vR (some y)), some (vI i), some (vI b)] [] σ 0 0 Q := fun z => by
      refine zW_iconst dX10_letterIs_57 ?_
      refine zW_ireturn dX10_letterIs_58 rfl rfl (by first | decide | (show _ ≤ (0 : Nat); omega)) (by first | decide | (show _ ≤ (0 : Nat); omega)) ?_
      exact h0 z
    refine zW_aload_n dX10_letterIs_25 rfl ?_
    refine zgI dX10_letterIs_26 fX10_218 h.1 rfl a2 ?_
    refine zW_iload_n dX10_letterIs_29 rfl ?_
    refine zW_iadd dX10_letterIs_30 ?_
    refine zW_aload_n dX10_letterIs_31 rfl ?_
    refine zgI dX10_letterIs_32 fX10_215 h.1 rfl a3 ?_
    refine zW_icmp_ge (tgt := 57) dX10_letterIs_35 (by decide) (by first | assumption | omega | (unfold InR; omega) | (unfold InL; omega) | (simp only [InR] at *; omega)) (by first | assumption | omega | (unfold InR; omega) | (unfold InL; omega) | (simp only [InR] at *; omega)) (fun q2 => ?_) (fun q2 => ?_)
    · exact bd (by omega)
    · have hv := hI.2.2.1 (t.2.1 + i) (by omega)
      have hc := tl_lt hI (t.2.1 + i)
      change zI σ (y + 2) (t.2.1 + i) = sgn (tl l (t.2.1 + i)) at hv
      have hs := sgn_or hc
      refine zW_aload_n dX10_letterIs_38 rfl ?_
      refine zgP dX10_letterIs_39 fX10_13 h.1 rfl h.p_buffer ?_
      refine zW_aload_n dX10_letterIs_42 rfl ?_
      refine zgI dX10_letterIs_43 fX10_218 h.1 rfl a2 ?_
      refine zW_iload_n dX10_letterIs_46 rfl ?_
      refine zW_iadd dX10_letterIs_47 ?_
      refine zrB dX10_letterIs_48 h.k_buffer (by first | assumption | omega | (unfold InR; omega) | (unfold InL; omega) | (simp only [InR] at *; omega)) (by first | assumption | omega | (unfold InR; omega) | (unfold InL; omega) | (simp only [InR] at *; omega)) (by first | assumption | omega | (unfold InR; omega) | (unfold InL; omega) | (simp only [InR] at *; omega)) (zix (f := zI σ (y + 2)) (j := t.2.1 + i) (by omega) hv) ?_
      refine zW_iload_n dX10_letterIs_49 rfl ?_
      refine zW_icmp_ne (tgt := 57) dX10_letterIs_50 (by decide) (by first | assumption | omega | (unfold InR; omega) | (unfold InL; omega) | (simp only [InR] at *; omega)) (by first | assumption | omega | (unfold InR; omega) | (unfold InL; omega) | (simp only [InR] at *; omega)) (fun q3 => ?_) (fun q3 => ?_)
      · exact bd (by omega)
      · refine zW_iconst dX10_letterIs_53 ?_
        refine zW_goto (tgt := 58) dX10_letterIs_54 (by decide) ?_
        refine zW_ireturn dX10_letterIs_58 rfl rfl (by first | decide | (show _ ≤ (0 : Nat); omega)) (by first | decide | (show _ ≤ (0 : Nat); omega)) ?_
        exact h1 (by omega)
  · rw [if_pos (by omega)] at h1 h0
    refine zW_aload_n dX10_letterIs_4 rfl ?_
    refine zgI dX10_letterIs_5 fX10_218 h.1 rfl a2 ?_
    refine zW_iload_n dX10_letterIs_8 rfl ?_
    refine zW_iadd dX10_letterIs_9 ?_
    refine zW_aload_n dX10_letterIs_10 rfl ?_
    refine zgI dX10_letterIs_11 fX10_215 h.1 rfl a3 ?_
    refine zW_icmp_lt (tgt := 21) dX10_letterIs_14 (by decide) (by first | assumption | omega | (unfold InR; omega) | (unfold InL; omega) | (simp only [InR] at *; omega)) (by first | assumption | omega | (unfold InR; omega) | (unfold InL; omega) | (simp only [InR] at *; omega)) (fun q2 => ?_) (fun q2 => ?_)
    · refine zW_iconst dX10_letterIs_21 ?_
      refine zW_goto (tgt := 58) dX10_letterIs_22 (by decide) ?_
      refine zW_ireturn dX10_letterIs_58 rfl rfl (by first | decide | (show _ ≤ (0 : Nat); omega)) (by first | decide | (show _ ≤ (0 : Nat); omega)) ?_
      exact h0 (by omega)
    · refine zW_iconst dX10_letterIs_17 ?_
      refine zW_goto (tgt := 58) dX10_letterIs_18 (by decide) ?_
      refine zW_ireturn dX10_letterIs_58 rfl rfl (by first | decide | (show _ ≤ (0 : Nat); omega)) (by first | decide | (show _ ≤ (0 : Nat); omega)) ?_
      exact h1 (by omega)
def IW (tx : Nat → Nat) (t : Nat × Nat × Nat) (a b c d : Nat) : Prop := t.1 = 1 ∧ LI tx t 0 a ∧ LI tx t 1 b ∧ LI tx t 2 c ∧ LI tx t 3 d ∧ LI tx t 4 0
set_option maxRecDepth 100000 in
theorem r_isWord {a b c d : Nat} (h : RK σ y) (hI : rIn σ y l) (hP : PR σ y l t) (hle : t.2.1 ≤ t.2.2 ∧ t.2.2 ≤ l.length) (h4 : t.1 ≤ 4) (ha : a < 128) (hb : b < 128) (hc : c < 128) (hd : d < 128) (h1 : IW (tl l) t a b c d → Q (.inl (some (vI 1))) σ) (h0 : ¬ IW (tl l) t a b c d → Q (.inl (some (vI 0))) σ) : zM Γ mX10_isWord [vR (some y), vI a, vI b, vI c, vI d] σ Q := by
  refine zM_of (n := 0) (by decide +kernel) rfl rfl rfl ?_
  have bd : ¬ IW (tl l) t a b c d → zW Γ mX10_isWord 58 [some (vR (some y)), some (vI a), some (vI b), some (vI c), some (vI d)] [] σ 0 0 Q := fun z => by
    refine zW_iconst dX10_isWord_58 ?_
    refine zW_ireturn dX10_isWord_59 rfl rfl (by first | decide | (show _ ≤ (0 : Nat); omega)) (by first | decide | (show _ ≤ (0 : Nat); omega)) ?_
    exact h0 z
  refine zW_aload_n dX10_isWord_0 rfl ?_
  refine zgI dX10_isWord_1 fX10_221 h.1 rfl hP.1 ?_
  refine zW_iconst dX10_isWord_4 ?_
  refine zW_icmp_ne (tgt := 58) dX10_isWord_5 (by decide) (by first | assumption | omega | (unfold InR; omega) | (unfold InL; omega) | (simp only [InR] at *; omega)) (by first | assumption | omega | (unfold InR; omega) | (unfold InL; omega) | (simp only [InR] at *; omega)) (fun q => ?_) (fun q => ?_)
  · exact bd (fun z => by have := z.1; omega)
  · refine zW_aload_n dX10_isWord_8 rfl ?_
    refine zW_iconst dX10_isWord_9 ?_
    refine zW_iload_n dX10_isWord_10 rfl ?_
    refine zcV2 dX10_isWord_11 rfl eX10_letterIs b1411 ⟨by decide, by decide, by decide, by decide⟩ rfl h.1 rfl (by decide) (Nat.le_of_ble_eq_true rfl) (r_letterIs (i := 0) h hI hP hle (by decide) ha (fun z1 => ?_) (fun z1 => ?_))
    · refine zW_if_eq (tgt := 58) dX10_isWord_14 (by decide) (by first | assumption | omega | (unfold InR; omega) | (unfold InL; omega) | (simp only [InR] at *; omega)) (fun b1 => ?_) (fun b1 => ?_)
      · exact absurd b1 (by decide)
      · refine zW_aload_n dX10_isWord_17 rfl ?_
        refine zW_iconst dX10_isWord_18 ?_
        refine zW_iload_n dX10_isWord_19 rfl ?_
        refine zcV2 dX10_isWord_20 rfl eX10_letterIs b1411 ⟨by decide, by decide, by decide, by decide⟩ rfl h.1 rfl (by decide) (Nat.le_of_ble_eq_true rfl) (r_letterIs (i := 1) h hI hP hle (by decide) hb (fun z2 => ?_) (fun z2 => ?_))
        · refine zW_if_eq (tgt := 58) dX10_isWord_23 (by decide) (by first | assumption | omega | (unfold InR; omega) | (unfold InL; omega) | (simp only [InR] at *; omega)) (fun b2 => ?_) (fun b2 => ?_)
          · exact absurd b2 (by decide)
          · refine zW_aload_n dX10_isWord_26 rfl ?_
            refine zW_iconst dX10_isWord_27 ?_
            refine zW_iload_n dX10_isWord_28 rfl ?_
            refine zcV2 dX10_isWord_29 rfl eX10_letterIs b1411 ⟨by decide, by decide, by decide, by decide⟩ rfl h.1 rfl (by decide) (Nat.le_of_ble_eq_true rfl) (r_letterIs (i := 2) h hI hP hle (by decide) hc (fun z3 => ?_) (fun z3 => ?_))
            · refine zW_if_eq (tgt := 58) dX10_isWord_32 (by decide) (by first | assumption | omega | (unfold InR; omega) | (unfold InL; omega) | (simp only [InR] at *; omega)) (fun b3 => ?_) (fun b3 => ?_)
              · exact absurd b3 (by decide)
              · refine zW_aload_n dX10_isWord_35 rfl ?_
                refine zW_iconst dX10_isWord_36 ?_
                refine zW_iload dX10_isWord_37 rfl ?_
                refine zcV2 dX10_isWord_39 rfl eX10_letterIs b1411 ⟨by decide, by decide, by decide, by decide⟩ rfl h.1 rfl (by decide) (Nat.le_of_ble_eq_true rfl) (r_letterIs (i := 3) h hI hP hle (by decide) hd (fun z4 => ?_) (fun z4 => ?_))
                · refine zW_if_eq (tgt := 58) dX10_isWord_42 (by decide) (by first | assumption | omega | (unfold InR; omega) | (unfold InL; omega) | (simp only [InR] at *; omega)) (fun b4 => ?_) (fun b4 => ?_)
                  · exact absurd b4 (by decide)
                  · refine zW_aload_n dX10_isWord_45 rfl ?_
                    refine zW_iconst dX10_isWord_46 ?_
                    refine zW_iconst dX10_isWord_47 ?_
                    refine zcV2 dX10_isWord_48 rfl eX10_letterIs b1411 ⟨by decide, by decide, by decide, by decide⟩ rfl h.1 rfl (by decide) (Nat.le_of_ble_eq_true rfl) (r_letterIs (i := 4) (b := 0) h hI hP hle (by decide) (by decide) (fun z5 => ?_) (fun z5 => ?_))
                    · refine zW_if_eq (tgt := 58) dX10_isWord_51 (by decide) (by first | assumption | omega | (unfold InR; omega) | (unfold InL; omega) | (simp only [InR] at *; omega)) (fun b5 => ?_) (fun b5 => ?_)
                      · exact absurd b5 (by decide)
                      · refine zW_iconst dX10_isWord_54 ?_
                        refine zW_goto (tgt := 59) dX10_isWord_55 (by decide) ?_
                        refine zW_ireturn dX10_isWord_59 rfl rfl (by first | decide | (show _ ≤ (0 : Nat); omega)) (by first | decide | (show _ ≤ (0 : Nat); omega)) ?_
                        exact h1 ⟨by omega, z1, z2, z3, z4, z5⟩
                    · refine zW_if_eq (tgt := 58) dX10_isWord_51 (by decide) (by first | assumption | omega | (unfold InR; omega) | (unfold InL; omega) | (simp only [InR] at *; omega)) (fun b5 => ?_) (fun b5 => ?_)
                      · exact bd (fun z => z5 z.2.2.2.2.2)
                      · exact absurd rfl b5
                · refine zW_if_eq (tgt := 58) dX10_isWord_42 (by decide) (by first | assumption | omega | (unfold InR; omega) | (unfold InL; omega) | (simp only [InR] at *; omega)) (fun b4 => ?_) (fun b4 => ?_)
                  · exact bd (fun z => z4 z.2.2.2.2.1)
                  · exact absurd rfl b4
            · refine zW_if_eq (tgt := 58) dX10_isWord_32 (by decide) (by first | assumption | omega | (unfold InR; omega) | (unfold InL; omega) | (simp only [InR] at *; omega)) (fun b3 => ?_) (fun b3 => ?_)
              · exact bd (fun z => z3 z.2.2.2.1)
              · exact absurd rfl b3
        · refine zW_if_eq (tgt := 58) dX10_isWord_23 (by decide) (by first | assumption | omega | (unfold InR; omega) | (unfold InL; omega) | (simp only [InR] at *; omega)) (fun b2 => ?_) (fun b2 => ?_)
          · exact bd (fun z => z2 z.2.2.1)
          · exact absurd rfl b2
    · refine zW_if_eq (tgt := 58) dX10_isWord_14 (by decide) (by first | assumption | omega | (unfold InR; omega) | (unfold InL; omega) | (simp only [InR] at *; omega)) (fun b1 => ?_) (fun b1 => ?_)
      · exact bd (fun z => z1 z.2.1)
      · exact absurd rfl b1
set_option maxRecDepth 100000 in
theorem kw_iff4 {tx : Nat → Nat} {a b c d : Nat} (ha : a ≠ 0) (hb : b ≠ 0) (hc : c ≠ 0) (hd : d ≠ 0) (hle : t.2.1 ≤ t.2.2) : kw [a, b, c, d] tx t = true ↔ IW tx t a b c d := by
  unfold kw IW LI
  rw [if_neg ha, if_neg hb, if_neg hc, if_neg hd, if_pos rfl, Bool.and_eq_true, Bool.and_eq_true, decide_eq_true_iff, decide_eq_true_iff, List.all_eq_true]
  constructor
  · rintro ⟨h1, h2, h3⟩
    change t.2.2 - t.2.1 = 4 at h2
    have g : ∀ i, i < 4 → tx (t.2.1 + i) = [a, b, c, d].getD i 0 := fun i hi => of_decide_eq_true (h3 i (List.mem_range.mpr hi))
    exact ⟨h1, ⟨by omega, g 0 (by decide)⟩, ⟨by omega, g 1 (by decide)⟩, ⟨by omega, g 2 (by decide)⟩, ⟨by omega, g 3 (by decide)⟩, by omega⟩
  · rintro ⟨h1, ⟨_, g0⟩, ⟨_, g1⟩, ⟨_, g2⟩, ⟨_, g3⟩, g4⟩
    refine ⟨h1, by show _ = 4; omega, fun i hi => decide_eq_true ?_⟩
    have hi4 : i < 4 := List.mem_range.mp hi
    match i, hi4 with
    | 0, _ => exact g0
    | 1, _ => exact g1
    | 2, _ => exact g2
    | 3, _ => exact g3
set_option maxRecDepth 100000 in
theorem kw_iff3 {tx : Nat → Nat} {a b c : Nat} (ha : a ≠ 0) (hb : b ≠ 0) (hc : c ≠ 0) (hle : t.2.1 ≤ t.2.2) : kw [a, b, c] tx t = true ↔ IW tx t a b c 0 := by
  unfold kw IW LI
  rw [if_neg ha, if_neg hb, if_neg hc, if_pos rfl, if_pos rfl, Bool.and_eq_true, Bool.and_eq_true, decide_eq_true_iff, decide_eq_true_iff, List.all_eq_true]
  constructor
  · rintro ⟨h1, h2, h3⟩
    change t.2.2 - t.2.1 = 3 at h2
    have g : ∀ i, i < 3 → tx (t.2.1 + i) = [a, b, c].getD i 0 := fun i hi => of_decide_eq_true (h3 i (List.mem_range.mpr hi))
    exact ⟨h1, ⟨by omega, g 0 (by decide)⟩, ⟨by omega, g 1 (by decide)⟩, ⟨by omega, g 2 (by decide)⟩, by omega, by omega⟩
  · rintro ⟨h1, ⟨_, g0⟩, ⟨_, g1⟩, ⟨_, g2⟩, g3, g4⟩
    refine ⟨h1, by show _ = 3; omega, fun i hi => decide_eq_true ?_⟩
    have hi3 : i < 3 := List.mem_range.mp hi
    match i, hi3 with
    | 0, _ => exact g0
    | 1, _ => exact g1
    | 2, _ => exact g2
end RREAD
