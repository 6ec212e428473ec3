/-! Word: what it holds, its methods -/
/-- w is a word with the row c of cap places -/
def Wk (σ : HS) (w c cap : Nat) : Prop := zK σ w = (8, 0) ∧ zP σ w 0 = some c ∧ zK σ c = (13, cap) ∧ cap ≤ 3600
/-- .. and holds the letters l -/
def Wd (σ : HS) (w c cap : Nat) (l : List Nat) : Prop := Wk σ w c cap ∧ zO σ w 1 = (l.length : Int) ∧ l.length ≤ cap ∧ (∀ j, j < l.length → zI σ c j = ((l.getD j 0 : Nat) : Int)) ∧ lt8 l
set_option maxRecDepth 100000 in
theorem Wk.md {σ σ' : HS} {w c cap : Nat} {P : Nat → Prop} (m : Md σ σ' P) (h : Wk σ w c cap) : Wk σ' w c cap := by
  unfold Wk
  rw [m.K, m.P]
  exact h
set_option maxRecDepth 100000 in
theorem Wd.md {σ σ' : HS} {w c cap : Nat} {l : List Nat} {P : Nat → Prop} (m : Md σ σ' P) (h : Wd σ w c cap l) (hw : ¬ P w) (hc : ¬ P c) : Wd σ' w c cap l := by
  refine ⟨h.1.md m, ?_, h.2.2.1, fun j hj => ?_, h.2.2.2.2⟩
  · rw [m.o hw]; exact h.2.1
  · rw [m.i hc]; exact h.2.2.2.1 j hj
set_option maxRecDepth 100000 in
theorem Wd.cap {σ : HS} {w c cap : Nat} {l : List Nat} (h : Wd σ w c cap l) : l.length ≤ cap := h.2.2.1
set_option maxRecDepth 100000 in
theorem Wd.lt {σ : HS} {w c cap : Nat} {l : List Nat} (h : Wd σ w c cap l) : lt8 l := h.2.2.2.2
set_option maxRecDepth 100000 in
theorem Wd.ne {σ : HS} {w c cap : Nat} {l : List Nat} (h : Wd σ w c cap l) : w ≠ c := by
  intro q
  have h1 := h.1.1
  rw [q, h.1.2.2.1] at h1
  exact absurd (congrArg Prod.fst h1) (by decide : ¬ ((13 : Nat) = 8))
/-- the places of a word -/
def wp (w c : Nat) : Nat → Prop := fun a => a = w ∨ a = c
section WORD
variable {Γ : GG} {σ : HS} {Q : Res → HS → Prop}
set_option maxRecDepth 100000 in
theorem w_clear {w c cap : Nat} (h : Wk σ w c cap) (hQ : ∀ σ', Wd σ' w c cap [] → Md σ σ' (wp w c) → Q (.inl none) σ') : zM Γ mX8_clear [vR (some w)] σ Q := by
  obtain ⟨hw, hc, hcc, hcap⟩ := id h
  refine zM_of (n := 0) (by decide +kernel) rfl rfl rfl ?_
  refine zW_aload_n dX8_clear_0 rfl ?_
  refine zW_iconst dX8_clear_1 ?_
  refine zpI dX8_clear_2 fX8_19 (by assumption) rfl (Or.inl rfl) (zst_int _) ?_
  refine zW_return dX8_clear_5 rfl (by first | decide | (show _ ≤ (0 : Nat); omega)) (by first | decide | (show _ ≤ (0 : Nat); omega)) ?_
  refine hQ _ ⟨⟨hw, hc, hcc, hcap⟩, zO_sOs _ _ _ _, Nat.zero_le _, fun j hj => absurd hj (Nat.not_lt_zero j), fun y hy => by cases hy⟩ (Md.O (Or.inl rfl))
set_option maxRecDepth 100000 in
theorem w_put {w c cap x : Nat} {l : List Nat} (h : Wd σ w c cap l) (hx : x < 8) (hn : l.length < cap) (hQ : ∀ σ', Wd σ' w c cap (pw l x) → Md σ σ' (wp w c) → Q (.inl none) σ') : zM Γ mX8_put [vR (some w), vI x] σ Q := by
  obtain ⟨⟨hw, hc, hcc, hcap⟩, hlen, hle, hget, hlt⟩ := id h
  refine zM_of (n := 0) (by decide +kernel) rfl rfl rfl ?_
  have push : pw l x = l ++ [x] → Q (.inl none) (sO (sI σ c l.length x) w 1 (l.length + 1)) := by
    intro e
    refine hQ _ ?_ ((Md.I (Or.inr rfl)).tr (Md.O (P := wp w c) (Or.inl rfl)) (fun _ h => h))
    rw [e]
    refine ⟨⟨hw, hc, hcc, hcap⟩, ?_, ?_, fun j hj => ?_, fun y hy => ?_⟩
    · rw [zO_sOs]; simp
    · simp; omega
    · rw [zI_sO, zI_sI]
      by_cases hjl : j = l.length
      · rw [if_pos ⟨rfl, hjl⟩, hjl]; simp
      · have : j < l.length := by simp at hj; omega
        rw [if_neg (fun q => hjl q.2), hget j this]
        simp [List.getD_eq_getElem?_getD, List.getElem?_append_left this]
    · rcases List.mem_append.mp hy with h | h
      · exact hlt y h
      · rw [List.mem_singleton.mp h]; exact hx
  have tail : pw l x = l ++ [x] → zW Γ mX8_put 37 [some (vR (some w)), some (vI x)] [] σ 0 0 Q := by
    intro e
    refine zW_aload_n dX8_put_37 rfl ?_
    refine zgI dX8_put_38 fX8_19 hw rfl hlen ?_
    refine zW_aload_n dX8_put_41 rfl ?_
    refine zgP dX8_put_42 fX8_13 hw rfl hc ?_
    refine zW_alen dX8_put_45 hcc (by decide) (by decide) ?_
    refine zW_icmp_ge (tgt := 69) dX8_put_46 (by decide) (by first | assumption | omega | (unfold InR; omega) | (unfold InL; omega) | (simp only [InR] at *; omega)) (by first | assumption | omega | (unfold InR; omega) | (unfold InL; omega) | (simp only [InR] at *; omega)) (fun h1 => ?_) (fun h1 => ?_)
    · exact absurd h1 (by omega)
    · refine zW_aload_n dX8_put_49 rfl ?_
      refine zgP dX8_put_50 fX8_13 hw rfl hc ?_
      refine zW_aload_n dX8_put_53 rfl ?_
      refine zgI dX8_put_54 fX8_19 hw rfl hlen ?_
      refine zW_iload_n dX8_put_57 rfl ?_
      refine zW_iast dX8_put_58 hcc (by first | assumption | omega | (unfold InR; omega) | (unfold InL; omega) | (simp only [InR] at *; omega)) (by first | assumption | omega | (unfold InR; omega) | (unfold InL; omega) | (simp only [InR] at *; omega)) (by first | assumption | omega | (unfold InR; omega) | (unfold InL; omega) | (simp only [InR] at *; omega)) ?_
      refine zW_aload_n dX8_put_59 rfl ?_
      refine zW_dup dX8_put_60 rfl ?_
      refine zgI dX8_put_61 fX8_19 hw rfl hlen ?_
      refine zW_iconst dX8_put_64 ?_
      refine zW_iadd dX8_put_65 ?_
      refine zpI dX8_put_66 fX8_19 (by assumption) rfl (Or.inl rfl) (zst_int _) ?_
      refine zW_return dX8_put_69 rfl (by first | decide | (show _ ≤ (0 : Nat); omega)) (by first | decide | (show _ ≤ (0 : Nat); omega)) ?_
      have := push e
      simpa using this
  refine zW_aload_n dX8_put_0 rfl ?_
  refine zgI dX8_put_1 fX8_19 hw rfl hlen ?_
  refine zW_if_le (tgt := 37) dX8_put_4 (by decide) (by first | assumption | omega | (unfold InR; omega) | (unfold InL; omega) | (simp only [InR] at *; omega)) (fun h1 => ?_) (fun h1 => ?_)
  · refine tail ?_
    have : l = [] := List.eq_nil_of_length_eq_zero (by omega)
    subst this
    rfl
  · have h2 : 0 < l.length := by omega
    have h8 := x1_lt hx
    have h7 := getD_lt hlt (i := l.length - 1) (by omega)
    have e9 : ((l.length : Int) - 1).toNat = l.length - 1 := by omega
    refine zW_aload_n dX8_put_7 rfl ?_
    refine zgP dX8_put_8 fX8_13 hw rfl hc ?_
    refine zW_aload_n dX8_put_11 rfl ?_
    refine zgI dX8_put_12 fX8_19 hw rfl hlen ?_
    refine zW_iconst dX8_put_15 ?_
    refine zW_isub dX8_put_16 ?_
    refine zrI dX8_put_17 hcc (by first | assumption | omega | (unfold InR; omega) | (unfold InL; omega) | (simp only [InR] at *; omega)) (by first | assumption | omega | (unfold InR; omega) | (unfold InL; omega) | (simp only [InR] at *; omega)) (by first | assumption | omega | (unfold InR; omega) | (unfold InL; omega) | (simp only [InR] at *; omega)) (zix (f := zI σ c) e9 (hget _ (by omega))) ?_
    refine zW_iload_n dX8_put_18 rfl ?_
    refine zW_iconst dX8_put_19 ?_
    refine zW_ixor1 dX8_put_20 hx ?_
    refine zW_icmp_ne (tgt := 37) dX8_put_21 (by decide) (by first | assumption | omega | (unfold InR; omega) | (unfold InL; omega) | (simp only [InR] at *; omega)) (by first | assumption | omega | (unfold InR; omega) | (unfold InL; omega) | (simp only [InR] at *; omega)) (fun h3 => ?_) (fun h3 => ?_)
    · refine tail ?_
      unfold pw
      rw [getD_last h2, if_neg]
      intro q
      have := Option.some.inj q
      omega
    · refine zW_aload_n dX8_put_24 rfl ?_
      refine zW_dup dX8_put_25 rfl ?_
      refine zgI dX8_put_26 fX8_19 hw rfl hlen ?_
      refine zW_iconst dX8_put_29 ?_
      refine zW_isub dX8_put_30 ?_
      refine zpI dX8_put_31 fX8_19 (by assumption) rfl (Or.inl rfl) (zst_int _) ?_
      refine zW_goto (tgt := 69) dX8_put_34 (by decide) ?_
      refine zW_return dX8_put_69 rfl (by first | decide | (show _ ≤ (0 : Nat); omega)) (by first | decide | (show _ ≤ (0 : Nat); omega)) ?_
      refine hQ _ ?_ (Md.O (Or.inl rfl))
      have e : pw l x = l.dropLast := by
        unfold pw
        rw [getD_last h2, if_pos]
        congr 1
        omega
      rw [e]
      refine ⟨⟨hw, hc, hcc, hcap⟩, ?_, ?_, fun j hj => ?_, fun y hy => hlt y ((List.dropLast_sublist l).subset hy)⟩
      · rw [zO_sOs, List.length_dropLast]; omega
      · rw [List.length_dropLast]; omega
      · rw [List.length_dropLast] at hj
        rw [zI_sO, hget j (by omega)]
        rw [List.getD_eq_getElem?_getD, List.getD_eq_getElem?_getD, List.getElem?_dropLast, if_pos hj]
set_option maxRecDepth 100000 in
theorem w_putPart {w c cap v b cap' from_ end_ : Nat} {l ys : List Nat} (h : Wd σ w c cap l) (h' : Wd σ v b cap' ys) (hv : v ≠ w) (hvc : v ≠ c) (hb : b ≠ w) (hbc : b ≠ c) (he : end_ ≤ ys.length) (hf : from_ ≤ 4000) (hn : l.length + (end_ - from_) ≤ cap) (hQ : ∀ σ', Wd σ' w c cap (pws l ((ys.take end_).drop from_)) → Md σ σ' (wp w c) → Q (.inl none) σ') : zM Γ mX8_putPart [vR (some w), vR (some v), vI from_, vI end_] σ Q := by
  refine zM_of (n := 1) (by decide +kernel) rfl rfl rfl ?_
  have hc7 := h.1.2.2.2
  have hc9 := h'.1.2.2.2
  have hc8 := h'.cap
  have loop : ∀ n i σ1 l1, i + n = max from_ end_ → l1.length + (end_ - i) ≤ cap → Wd σ1 w c cap l1 → Md σ σ1 (wp w c) → pws l1 ((ys.take end_).drop i) = pws l ((ys.take end_).drop from_) → from_ ≤ i → zW Γ mX8_putPart 3 [some (vR (some w)), some (vR (some v)), some (vI from_), some (vI end_), some (vI i)] [] σ1 0 0 Q := by
    intro n
    induction n with
    | zero =>
      intro i σ1 l1 hi hl1 hw1 hm1 he1 hfi
      refine zW_iload dX8_putPart_3 rfl ?_
      refine zW_iload_n dX8_putPart_5 rfl ?_
      refine zW_icmp_ge (tgt := 26) dX8_putPart_6 (by decide) (by first | assumption | omega | (unfold InR; omega) | (unfold InL; omega) | (simp only [InR] at *; omega)) (by first | assumption | omega | (unfold InR; omega) | (unfold InL; omega) | (simp only [InR] at *; omega)) (fun g => ?_) (fun g => ?_)
      · refine zW_return dX8_putPart_26 rfl (by first | decide | (show _ ≤ (0 : Nat); omega)) (by first | decide | (show _ ≤ (0 : Nat); omega)) ?_
        have : (ys.take end_).drop i = [] := by rw [List.drop_eq_nil_iff, List.length_take]; omega
        rw [this, pws_nil] at he1
        rw [he1] at hw1
        exact hQ _ hw1 hm1
      · exact absurd g (by omega)
    | succ n ih =>
      intro i σ1 l1 hi hl1 hw1 hm1 he1 hfi
      refine zW_iload dX8_putPart_3 rfl ?_
      refine zW_iload_n dX8_putPart_5 rfl ?_
      refine zW_icmp_ge (tgt := 26) dX8_putPart_6 (by decide) (by first | assumption | omega | (unfold InR; omega) | (unfold InL; omega) | (simp only [InR] at *; omega)) (by first | assumption | omega | (unfold InR; omega) | (unfold InL; omega) | (simp only [InR] at *; omega)) (fun g => ?_) (fun g => ?_)
      · exact absurd g (by omega)
      · have hv1 := h'.md hm1 (fun q => q.elim hv hvc) (fun q => q.elim hb hbc)
        have hi2 : i < ys.length := by omega
        have hx8 := getD_lt h'.lt hi2
        refine zW_aload_n dX8_putPart_9 rfl ?_
        refine zW_aload_n dX8_putPart_10 rfl ?_
        refine zgP dX8_putPart_11 fX8_13 hv1.1.1 rfl hv1.1.2.1 ?_
        refine zW_iload dX8_putPart_14 rfl ?_
        refine zrI dX8_putPart_16 hv1.1.2.2.1 (by first | assumption | omega | (unfold InR; omega) | (unfold InL; omega) | (simp only [InR] at *; omega)) (by first | assumption | omega | (unfold InR; omega) | (unfold InL; omega) | (simp only [InR] at *; omega)) (by first | assumption | omega | (unfold InR; omega) | (unfold InL; omega) | (simp only [InR] at *; omega)) (hv1.2.2.2.1 i hi2) ?_
        refine zcV1 dX8_putPart_17 rfl eX8_put b807 ⟨by decide, by decide, by decide, by decide⟩ rfl hw1.1.1 rfl (by decide) (Nat.le_of_ble_eq_true rfl) (w_put hw1 hx8 (by omega) (fun σ2 hw2 hm2 => ?_))
        refine zW_iinc dX8_putPart_20 rfl (by decide) rfl rfl ?_
        refine zW_goto (tgt := 3) dX8_putPart_23 (by decide) ?_
        have hp := pw_len l1 (ys.getD i 0)
        refine ih (i + 1) σ2 _ (by omega) (by omega) hw2 (hm1.tr hm2 (fun _ q => q)) ?_ (by omega)
        rw [← he1, drop_cons (i := i) (by rw [List.length_take]; omega), pws_cons, getD_take (by omega)]
  refine zW_iload_n dX8_putPart_0 rfl ?_
  refine zW_istore dX8_putPart_1 (by decide) rfl rfl ?_
  exact loop (max from_ end_ - from_) from_ σ l (by omega) hn h Md.rf rfl (Nat.le_refl _)
set_option maxRecDepth 100000 in
theorem w_putWord {w c cap v b cap' : Nat} {l ys : List Nat} (h : Wd σ w c cap l) (h' : Wd σ v b cap' ys) (hv : v ≠ w) (hvc : v ≠ c) (hb : b ≠ w) (hbc : b ≠ c) (hn : l.length + ys.length ≤ cap) (hQ : ∀ σ', Wd σ' w c cap (pws l ys) → Md σ σ' (wp w c) → Q (.inl none) σ') : zM Γ mX8_putWord [vR (some w), vR (some v)] σ Q := by
  refine zM_of (n := 0) (by decide +kernel) rfl rfl rfl ?_
  refine zW_aload_n dX8_putWord_0 rfl ?_
  refine zW_aload_n dX8_putWord_1 rfl ?_
  refine zW_iconst dX8_putWord_2 ?_
  refine zW_aload_n dX8_putWord_3 rfl ?_
  refine zgI dX8_putWord_4 fX8_19 h'.1.1 rfl h'.2.1 ?_
  refine zcV3 dX8_putWord_7 rfl eX8_putPart b812 ⟨by decide, by decide, by decide, by decide⟩ rfl h.1.1 rfl (by decide) (Nat.le_of_ble_eq_true rfl) (w_putPart (from_ := 0) h h' hv hvc hb hbc (Nat.le_refl _) (by omega) (by omega) (fun σ2 hw2 hm2 => ?_))
  refine zW_return dX8_putWord_10 rfl (by first | decide | (show _ ≤ (0 : Nat); omega)) (by first | decide | (show _ ≤ (0 : Nat); omega)) ?_
  rw [List.take_length, List.drop_zero] at hw2
  exact hQ _ hw2 hm2
set_option maxRecDepth 100000 in
theorem w_putInverse {w c cap v b cap' : Nat} {l ys : List Nat} (h : Wd σ w c cap l) (h' : Wd σ v b cap' ys) (hv : v ≠ w) (hvc : v ≠ c) (hb : b ≠ w) (hbc : b ≠ c) (hn : l.length + ys.length ≤ cap) (hQ : ∀ σ', Wd σ' w c cap (pws l (invw ys)) → Md σ σ' (wp w c) → Q (.inl none) σ') : zM Γ mX8_putInverse [vR (some w), vR (some v)] σ Q := by
  refine zM_of (n := 1) (by decide +kernel) rfl rfl rfl ?_
  have hc7 := h.1.2.2.2
  have hc9 := h'.1.2.2.2
  have hc8 := h'.cap
  have loop : ∀ i σ1 l1, i ≤ ys.length → l1.length + i ≤ cap → Wd σ1 w c cap l1 → Md σ σ1 (wp w c) → pws l1 (invw (ys.take i)) = pws l (invw ys) → zW Γ mX8_putInverse 7 [some (vR (some w)), some (vR (some v)), some (vI ((i : Int) - 1))] [] σ1 0 0 Q := by
    intro i
    induction i with
    | zero =>
      intro σ1 l1 hi hl1 hw1 hm1 he1
      refine zW_iload_n dX8_putInverse_7 rfl ?_
      refine zW_if_lt (tgt := 29) dX8_putInverse_8 (by decide) (by first | assumption | omega | (unfold InR; omega) | (unfold InL; omega) | (simp only [InR] at *; omega)) (fun g => ?_) (fun g => ?_)
      · refine zW_return dX8_putInverse_29 rfl (by first | decide | (show _ ≤ (0 : Nat); omega)) (by first | decide | (show _ ≤ (0 : Nat); omega)) ?_
        rw [List.take_zero] at he1
        rw [← he1] at hQ
        exact hQ _ hw1 hm1
      · exact absurd g (by omega)
    | succ i ih =>
      intro σ1 l1 hi hl1 hw1 hm1 he1
      refine zW_iload_n dX8_putInverse_7 rfl ?_
      refine zW_if_lt (tgt := 29) dX8_putInverse_8 (by decide) (by first | assumption | omega | (unfold InR; omega) | (unfold InL; omega) | (simp only [InR] at *; omega)) (fun g => ?_) (fun g => ?_)
      · exact absurd g (by omega)
      · have hv1 := h'.md hm1 (fun q => q.elim hv hvc) (fun q => q.elim hb hbc)
        have hi2 : i < ys.length := by omega
        have hx8 := getD_lt h'.lt hi2
        refine zW_aload_n dX8_putInverse_11 rfl ?_
        refine zW_aload_n dX8_putInverse_12 rfl ?_
        refine zgP dX8_putInverse_13 fX8_13 hv1.1.1 rfl hv1.1.2.1 ?_
        refine zW_iload_n dX8_putInverse_16 rfl ?_
        refine zrI dX8_putInverse_17 hv1.1.2.2.1 (by first | assumption | omega | (unfold InR; omega) | (unfold InL; omega) | (simp only [InR] at *; omega)) (by first | assumption | omega | (unfold InR; omega) | (unfold InL; omega) | (simp only [InR] at *; omega)) (by first | assumption | omega | (unfold InR; omega) | (unfold InL; omega) | (simp only [InR] at *; omega)) (zix (f := zI σ1 b) (j := i) (by omega) (hv1.2.2.2.1 i hi2)) ?_
        refine zW_iconst dX8_putInverse_18 ?_
        refine zW_ixor1 dX8_putInverse_19 hx8 ?_
        refine zcV1 dX8_putInverse_20 rfl eX8_put b807 ⟨by decide, by decide, by decide, by decide⟩ rfl hw1.1.1 rfl (by decide) (Nat.le_of_ble_eq_true rfl) (w_put hw1 (x1_lt hx8) (by omega) (fun σ2 hw2 hm2 => ?_))
        refine zW_iinc dX8_putInverse_23 rfl (by decide) rfl rfl ?_
        refine zW_goto (tgt := 7) dX8_putInverse_26 (by decide) ?_
        have hp := pw_len l1 (ys.getD i 0 ^^^ 1)
        have e9 : (((i + 1 : Nat) : Int) - 1) + -1 = (i : Int) - 1 := by omega
        rw [e9]
        refine ih σ2 _ (by omega) (by omega) hw2 (hm1.tr hm2 (fun _ q => q)) ?_
        rw [← he1, invw_take hi2, pws_cons]
  refine zW_aload_n dX8_putInverse_0 rfl ?_
  refine zgI dX8_putInverse_1 fX8_19 h'.1.1 rfl h'.2.1 ?_
  refine zW_iconst dX8_putInverse_4 ?_
  refine zW_isub dX8_putInverse_5 ?_
  refine zW_istore_n dX8_putInverse_6 (by decide) rfl rfl ?_
  refine loop ys.length σ l (Nat.le_refl _) hn h Md.rf ?_
  rw [List.take_length]
set_option maxRecDepth 100000 in
theorem w_copyFrom {w c cap v b cap' : Nat} {ys : List Nat} (h : Wk σ w c cap) (h' : Wd σ v b cap' ys) (hv : v ≠ w) (hvc : v ≠ c) (hb : b ≠ w) (hbc : b ≠ c) (hwc : w ≠ c) (hn : ys.length ≤ cap) (hQ : ∀ σ', Wd σ' w c cap ys → Md σ σ' (wp w c) → Q (.inl none) σ') : zM Γ mX8_copyFrom [vR (some w), vR (some v)] σ Q := by
  refine zM_of (n := 0) (by decide +kernel) rfl rfl rfl ?_
  obtain ⟨hw, hc, hcc, hcap⟩ := id h
  have hc9 := h'.1.2.2.2
  have hc8 := h'.cap
  have e9 : min (ys.length : Int) cap = ys.length := by omega
  refine zW_aload_n dX8_copyFrom_0 rfl ?_
  refine zW_aload_n dX8_copyFrom_1 rfl ?_
  refine zgI dX8_copyFrom_2 fX8_19 h'.1.1 rfl h'.2.1 ?_
  refine zW_aload_n dX8_copyFrom_5 rfl ?_
  refine zgP dX8_copyFrom_6 fX8_13 hw rfl hc ?_
  refine zW_alen dX8_copyFrom_9 hcc (by decide) (by decide) ?_
  refine zW_mmin dX8_copyFrom_10 (by first | assumption | omega | (unfold InR; omega) | (unfold InL; omega) | (simp only [InR] at *; omega)) (by first | assumption | omega | (unfold InR; omega) | (unfold InL; omega) | (simp only [InR] at *; omega)) b508 b452 b4 b453 (Nat.le_of_ble_eq_true rfl) (Nat.le_of_ble_eq_true rfl) (Nat.le_of_ble_eq_true rfl) (Nat.le_of_ble_eq_true rfl) ?_
  refine zpI dX8_copyFrom_13 fX8_19 hw rfl (Or.inl rfl) (zst_int _) ?_
  refine zW_aload_n dX8_copyFrom_16 rfl ?_
  refine zgP dX8_copyFrom_17 fX8_13 h'.1.1 rfl h'.1.2.1 ?_
  refine zW_iconst dX8_copyFrom_20 ?_
  refine zW_aload_n dX8_copyFrom_21 rfl ?_
  refine zgP dX8_copyFrom_22 fX8_13 hw rfl hc ?_
  refine zW_iconst dX8_copyFrom_25 ?_
  refine zW_aload_n dX8_copyFrom_26 rfl ?_
  refine zgI dX8_copyFrom_27 fX8_19 hw rfl (zO_sOs _ _ _ _) ?_
  refine zW_copy dX8_copyFrom_30 b509 zNat b510 b22 h'.1.2.2.1 hcc (by first | assumption | omega | (unfold InR; omega) | (unfold InL; omega) | (simp only [InR] at *; omega)) (by first | assumption | omega | (unfold InR; omega) | (unfold InL; omega) | (simp only [InR] at *; omega)) (by first | assumption | omega | (unfold InR; omega) | (unfold InL; omega) | (simp only [InR] at *; omega)) (by first | assumption | omega | (unfold InR; omega) | (unfold InL; omega) | (simp only [InR] at *; omega)) (by first | assumption | omega | (unfold InR; omega) | (unfold InL; omega) | (simp only [InR] at *; omega)) (by first | assumption | omega | (unfold InR; omega) | (unfold InL; omega) | (simp only [InR] at *; omega)) (by first | assumption | omega | (unfold InR; omega) | (unfold InL; omega) | (simp only [InR] at *; omega)) (Nat.le_of_ble_eq_true rfl) (Nat.le_of_ble_eq_true rfl) ?_
  refine zW_return dX8_copyFrom_33 rfl (by first | decide | (show _ ≤ (0 : Nat); omega)) (by first | decide | (show _ ≤ (0 : Nat); omega)) ?_
  refine hQ _ ⟨⟨hw, hc, hcc, hcap⟩, ?_, hn, fun j hj => ?_, h'.lt⟩ (Md.tr (Md.O (P := wp w c) (Or.inl rfl)) (Md.Ir (P := wp w c) (Or.inr rfl)) (fun _ q => q))
  · show zO (sO σ w 1 _) w 1 = _
    rw [zO_sOs, e9]
  · rw [zI_sIr, if_pos rfl, e9, if_pos (by omega)]
    refine Eq.trans ?_ (h'.2.2.2.1 j hj)
    show zI σ b _ = _
    congr 1
    omega
set_option maxRecDepth 100000 in
theorem w_coreStart {w c cap : Nat} {l : List Nat} (h : Wd σ w c cap l) (hQ : Q (.inl (some (vI (cs l)))) σ) : zM Γ mX8_coreStart [vR (some w)] σ Q := by
  obtain ⟨⟨hw, hc, hcc, hcap⟩, hlen, hle, hget, hlt⟩ := id h
  refine zM_of (n := 2) (by decide +kernel) rfl rfl rfl ?_
  have loop : ∀ f n, l.length ≤ n + f → 2 * n ≤ l.length → csF l f n = cs l → zW Γ mX8_coreStart 9 [some (vR (some w)), some (vI n), some (vI ((l.length : Int) - 1 - n))] [] σ 0 0 Q := by
    intro f
    induction f with
    | zero =>
      intro n hf h2 he
      refine zW_iload_n dX8_coreStart_9 rfl ?_
      refine zW_iload_n dX8_coreStart_10 rfl ?_
      refine zW_icmp_ge (tgt := 40) dX8_coreStart_11 (by decide) (by first | assumption | omega | (unfold InR; omega) | (unfold InL; omega) | (simp only [InR] at *; omega)) (by first | assumption | omega | (unfold InR; omega) | (unfold InL; omega) | (simp only [InR] at *; omega)) (fun g => ?_) (fun g => ?_)
      · refine zW_iload_n dX8_coreStart_40 rfl ?_
        refine zW_ireturn dX8_coreStart_41 rfl rfl (by first | decide | (show _ ≤ (0 : Nat); omega)) (by first | decide | (show _ ≤ (0 : Nat); omega)) ?_
        rw [← he] at hQ
        exact hQ
      · exact absurd g (by omega)
    | succ f ih =>
      intro n hf h2 he
      have he' : (if 2 * n + 2 ≤ l.length ∧ l.getD n 0 = l.getD (l.length - 1 - n) 0 ^^^ 1 then csF l f (n + 1) else n) = cs l := he
      refine zW_iload_n dX8_coreStart_9 rfl ?_
      refine zW_iload_n dX8_coreStart_10 rfl ?_
      refine zW_icmp_ge (tgt := 40) dX8_coreStart_11 (by decide) (by first | assumption | omega | (unfold InR; omega) | (unfold InL; omega) | (simp only [InR] at *; omega)) (by first | assumption | omega | (unfold InR; omega) | (unfold InL; omega) | (simp only [InR] at *; omega)) (fun g => ?_) (fun g => ?_)
      · refine zW_iload_n dX8_coreStart_40 rfl ?_
        refine zW_ireturn dX8_coreStart_41 rfl rfl (by first | decide | (show _ ≤ (0 : Nat); omega)) (by first | decide | (show _ ≤ (0 : Nat); omega)) ?_
        rw [if_neg (fun q => by omega)] at he'
        rw [← he'] at hQ
        exact hQ
      · have h7 := getD_lt hlt (i := n) (by omega)
        have h6 := getD_lt hlt (i := l.length - 1 - n) (by omega)
        have h5 := x1_lt h6
        refine zW_aload_n dX8_coreStart_14 rfl ?_
        refine zgP dX8_coreStart_15 fX8_13 hw rfl hc ?_
        refine zW_iload_n dX8_coreStart_18 rfl ?_
        refine zrI dX8_coreStart_19 hcc (by first | assumption | omega | (unfold InR; omega) | (unfold InL; omega) | (simp only [InR] at *; omega)) (by first | assumption | omega | (unfold InR; omega) | (unfold InL; omega) | (simp only [InR] at *; omega)) (by first | assumption | omega | (unfold InR; omega) | (unfold InL; omega) | (simp only [InR] at *; omega)) (hget n (by omega)) ?_
        refine zW_aload_n dX8_coreStart_20 rfl ?_
        refine zgP dX8_coreStart_21 fX8_13 hw rfl hc ?_
        refine zW_iload_n dX8_coreStart_24 rfl ?_
        refine zrI dX8_coreStart_25 hcc (by first | assumption | omega | (unfold InR; omega) | (unfold InL; omega) | (simp only [InR] at *; omega)) (by first | assumption | omega | (unfold InR; omega) | (unfold InL; omega) | (simp only [InR] at *; omega)) (by first | assumption | omega | (unfold InR; omega) | (unfold InL; omega) | (simp only [InR] at *; omega)) (zix (f := zI σ c) (j := l.length - 1 - n) (by omega) (hget _ (by omega))) ?_
        refine zW_iconst dX8_coreStart_26 ?_
        refine zW_ixor1 dX8_coreStart_27 h6 ?_
        refine zW_icmp_ne (tgt := 40) dX8_coreStart_28 (by decide) (by first | assumption | omega | (unfold InR; omega) | (unfold InL; omega) | (simp only [InR] at *; omega)) (by first | assumption | omega | (unfold InR; omega) | (unfold InL; omega) | (simp only [InR] at *; omega)) (fun g2 => ?_) (fun g2 => ?_)
        · refine zW_iload_n dX8_coreStart_40 rfl ?_
          refine zW_ireturn dX8_coreStart_41 rfl rfl (by first | decide | (show _ ≤ (0 : Nat); omega)) (by first | decide | (show _ ≤ (0 : Nat); omega)) ?_
          rw [if_neg (fun q => by omega)] at he'
          rw [← he'] at hQ
          exact hQ
        · refine zW_iinc dX8_coreStart_31 rfl (by decide) rfl rfl ?_
          refine zW_iinc dX8_coreStart_34 rfl (by decide) rfl rfl ?_
          refine zW_goto (tgt := 9) dX8_coreStart_37 (by decide) ?_
          rw [if_pos ⟨by omega, by omega⟩] at he'
          have e9 : (l.length : Int) - 1 - n + -1 = (l.length : Int) - 1 - ((n + 1 : Nat) : Int) := by omega
          rw [e9]
          exact ih (n + 1) (by omega) (by omega) he'
  refine zW_iconst dX8_coreStart_0 ?_
  refine zW_istore_n dX8_coreStart_1 (by decide) rfl rfl ?_
  refine zW_aload_n dX8_coreStart_2 rfl ?_
  refine zgI dX8_coreStart_3 fX8_19 hw rfl hlen ?_
  refine zW_iconst dX8_coreStart_6 ?_
  refine zW_isub dX8_coreStart_7 ?_
  refine zW_istore_n dX8_coreStart_8 (by decide) rfl rfl ?_
  have e9 : (l.length : Int) - 1 = (l.length : Int) - 1 - ((0 : Nat) : Int) := by omega
  rw [e9]
  exact loop l.length 0 (by omega) (by omega) rfl
set_option maxRecDepth 100000 in
theorem w_lengthOfCore {w c cap : Nat} {l : List Nat} (h : Wd σ w c cap l) (hQ : Q (.inl (some (vI (crl l)))) σ) : zM Γ mX8_lengthOfCore [vR (some w)] σ Q := by
  refine zM_of (n := 0) (by decide +kernel) rfl rfl rfl ?_
  refine zW_aload_n dX8_lengthOfCore_0 rfl ?_
  refine zgI dX8_lengthOfCore_1 fX8_19 h.1.1 rfl h.2.1 ?_
  refine zW_iconst dX8_lengthOfCore_4 ?_
  refine zW_aload_n dX8_lengthOfCore_5 rfl ?_
  refine zcV0 dX8_lengthOfCore_6 rfl eX8_coreStart b827 ⟨by decide, by decide, by decide, by decide⟩ rfl h.1.1 rfl (by decide) (Nat.le_of_ble_eq_true rfl) (w_coreStart h ?_)
  refine zW_imul dX8_lengthOfCore_9 ?_
  refine zW_isub dX8_lengthOfCore_10 ?_
  refine zW_ireturn dX8_lengthOfCore_11 rfl rfl (by first | decide | (show _ ≤ (0 : Nat); omega)) (by first | decide | (show _ ≤ (0 : Nat); omega)) ?_
  have := cs_le l
  have e : (l.length : Int) - 2 * (cs l : Nat) = (crl l : Nat) := by unfold crl; omega
  rw [e]
  exact hQ
set_option maxRecDepth 100000 in
theorem w_hasCorePeriod {w c cap p : Nat} {l : List Nat} (h : Wd σ w c cap l) (hp : 1 ≤ p) (hp2 : p ≤ 3600) (h1 : perd l p → Q (.inl (some (vI 1))) σ) (h0 : ¬ perd l p → Q (.inl (some (vI 0))) σ) : zM Γ mX8_hasCorePeriod [vR (some w), vI p] σ Q := by
  obtain ⟨⟨hw, hc, hcc, hcap⟩, hlen, hle, hget, hlt⟩ := id h
  refine zM_of (n := 2) (by decide +kernel) rfl rfl rfl ?_
  have hcs := cs_le l
  have hcr : crl l = l.length - 2 * cs l := rfl
  have loop : ∀ n i, p ≤ i → i ≤ p + crl l → crl l ≤ i + n → (∀ j, p ≤ j → j < i → crg l j = crg l (j - p)) → zW Γ mX8_hasCorePeriod 9 [some (vR (some w)), some (vI p), some (vI (cs l)), some (vI ((cs l : Int) + i))] [] σ 0 0 Q := by
    intro n
    induction n with
    | zero =>
      intro i hi hi9 hn hall
      refine zW_iload_n dX8_hasCorePeriod_9 rfl ?_
      refine zW_aload_n dX8_hasCorePeriod_10 rfl ?_
      refine zgI dX8_hasCorePeriod_11 fX8_19 hw rfl hlen ?_
      refine zW_iload_n dX8_hasCorePeriod_14 rfl ?_
      refine zW_isub dX8_hasCorePeriod_15 ?_
      refine zW_icmp_ge (tgt := 44) dX8_hasCorePeriod_16 (by decide) (by first | assumption | omega | (unfold InR; omega) | (unfold InL; omega) | (simp only [InR] at *; omega)) (by first | assumption | omega | (unfold InR; omega) | (unfold InL; omega) | (simp only [InR] at *; omega)) (fun g => ?_) (fun g => ?_)
      · refine zW_iconst dX8_hasCorePeriod_44 ?_
        refine zW_ireturn dX8_hasCorePeriod_45 rfl rfl (by first | decide | (show _ ≤ (0 : Nat); omega)) (by first | decide | (show _ ≤ (0 : Nat); omega)) ?_
        exact h1 (fun j g1 g2 => hall j g1 (by omega))
      · exact absurd g (by omega)
    | succ n ih =>
      intro i hi hi9 hn hall
      refine zW_iload_n dX8_hasCorePeriod_9 rfl ?_
      refine zW_aload_n dX8_hasCorePeriod_10 rfl ?_
      refine zgI dX8_hasCorePeriod_11 fX8_19 hw rfl hlen ?_
      refine zW_iload_n dX8_hasCorePeriod_14 rfl ?_
      refine zW_isub dX8_hasCorePeriod_15 ?_
      refine zW_icmp_ge (tgt := 44) dX8_hasCorePeriod_16 (by decide) (by first | assumption | omega | (unfold InR; omega) | (unfold InL; omega) | (simp only [InR] at *; omega)) (by first | assumption | omega | (unfold InR; omega) | (unfold InL; omega) | (simp only [InR] at *; omega)) (fun g => ?_) (fun g => ?_)
      · refine zW_iconst dX8_hasCorePeriod_44 ?_
        refine zW_ireturn dX8_hasCorePeriod_45 rfl rfl (by first | decide | (show _ ≤ (0 : Nat); omega)) (by first | decide | (show _ ≤ (0 : Nat); omega)) ?_
        exact h1 (fun j g1 g2 => hall j g1 (by omega))
      · have e1 := hget (cs l + i) (by omega)
        have e2 := hget (cs l + (i - p)) (by omega)
        have b1 := getD_lt hlt (i := cs l + i) (by omega)
        have b2 := getD_lt hlt (i := cs l + (i - p)) (by omega)
        refine zW_aload_n dX8_hasCorePeriod_19 rfl ?_
        refine zgP dX8_hasCorePeriod_20 fX8_13 hw rfl hc ?_
        refine zW_iload_n dX8_hasCorePeriod_23 rfl ?_
        refine zrI dX8_hasCorePeriod_24 hcc (by first | assumption | omega | (unfold InR; omega) | (unfold InL; omega) | (simp only [InR] at *; omega)) (by first | assumption | omega | (unfold InR; omega) | (unfold InL; omega) | (simp only [InR] at *; omega)) (by first | assumption | omega | (unfold InR; omega) | (unfold InL; omega) | (simp only [InR] at *; omega)) (zix (f := zI σ c) (j := cs l + i) (by omega) e1) ?_
        refine zW_aload_n dX8_hasCorePeriod_25 rfl ?_
        refine zgP dX8_hasCorePeriod_26 fX8_13 hw rfl hc ?_
        refine zW_iload_n dX8_hasCorePeriod_29 rfl ?_
        refine zW_iload_n dX8_hasCorePeriod_30 rfl ?_
        refine zW_isub dX8_hasCorePeriod_31 ?_
        refine zrI dX8_hasCorePeriod_32 hcc (by first | assumption | omega | (unfold InR; omega) | (unfold InL; omega) | (simp only [InR] at *; omega)) (by first | assumption | omega | (unfold InR; omega) | (unfold InL; omega) | (simp only [InR] at *; omega)) (by first | assumption | omega | (unfold InR; omega) | (unfold InL; omega) | (simp only [InR] at *; omega)) (zix (f := zI σ c) (j := cs l + (i - p)) (by omega) e2) ?_
        refine zW_icmp_eq (tgt := 38) dX8_hasCorePeriod_33 (by decide) (by first | assumption | omega | (unfold InR; omega) | (unfold InL; omega) | (simp only [InR] at *; omega)) (by first | assumption | omega | (unfold InR; omega) | (unfold InL; omega) | (simp only [InR] at *; omega)) (fun g2 => ?_) (fun g2 => ?_)
        · refine zW_iinc dX8_hasCorePeriod_38 rfl (by decide) rfl rfl ?_
          refine zW_goto (tgt := 9) dX8_hasCorePeriod_41 (by decide) ?_
          have e9 : (cs l : Int) + i + 1 = (cs l : Int) + ((i + 1 : Nat) : Int) := by omega
          rw [e9]
          refine ih (i + 1) (by omega) (by omega) (by omega) (fun j g3 g4 => ?_)
          by_cases hj : j = i
          · rw [hj]
            show l.getD (cs l + i) 0 = l.getD (cs l + (i - p)) 0
            omega
          · exact hall j g3 (by omega)
        · refine zW_iconst dX8_hasCorePeriod_36 ?_
          refine zW_ireturn dX8_hasCorePeriod_37 rfl rfl (by first | decide | (show _ ≤ (0 : Nat); omega)) (by first | decide | (show _ ≤ (0 : Nat); omega)) ?_
          refine h0 (fun q => g2 ?_)
          have : l.getD (cs l + i) 0 = l.getD (cs l + (i - p)) 0 := q i hi (by omega)
          omega
  refine zW_aload_n dX8_hasCorePeriod_0 rfl ?_
  refine zcV0 dX8_hasCorePeriod_1 rfl eX8_coreStart b827 ⟨by decide, by decide, by decide, by decide⟩ rfl hw rfl (by decide) (Nat.le_of_ble_eq_true rfl) (w_coreStart h ?_)
  refine zW_istore_n dX8_hasCorePeriod_4 (by decide) rfl rfl ?_
  refine zW_iload_n dX8_hasCorePeriod_5 rfl ?_
  refine zW_iload_n dX8_hasCorePeriod_6 rfl ?_
  refine zW_iadd dX8_hasCorePeriod_7 ?_
  refine zW_istore_n dX8_hasCorePeriod_8 (by decide) rfl rfl ?_
  exact loop (crl l) p (Nat.le_refl _) (by omega) (by omega) (fun j g1 g2 => absurd g1 (by omega))
set_option maxRecDepth 100000 in
theorem w_rootLength {w c cap : Nat} {l : List Nat} (h : Wd σ w c cap l) (hQ : ∀ r, RootIs l r → Q (.inl (some (vI (r : Nat)))) σ) : zM Γ mX8_rootLength [vR (some w)] σ Q := by
  obtain ⟨⟨hw, hc, hcc, hcap⟩, hlen, hle, hget, hlt⟩ := id h
  refine zM_of (n := 2) (by decide +kernel) rfl rfl rfl ?_
  have hcs := cs_le l
  have hcr : crl l = l.length - 2 * cs l := rfl
  have loop : ∀ n p, 1 ≤ p → crl l ≤ p + n → (p ≤ crl l ∨ crl l = 0) → p ≤ crl l + 1 → (∀ j, 1 ≤ j → j < p → crl l % j = 0 → ¬ perd l j) → zW Γ mX8_rootLength 7 [some (vR (some w)), some (vI (crl l)), some (vI p)] [] σ 0 0 Q := by
    intro n
    induction n with
    | zero =>
      intro p hp hn hp2 hp9 hall
      refine zW_iload_n dX8_rootLength_7 rfl ?_
      refine zW_iload_n dX8_rootLength_8 rfl ?_
      refine zW_icmp_ge (tgt := 34) dX8_rootLength_9 (by decide) (by first | assumption | omega | (unfold InR; omega) | (unfold InL; omega) | (simp only [InR] at *; omega)) (by first | assumption | omega | (unfold InR; omega) | (unfold InL; omega) | (simp only [InR] at *; omega)) (fun g => ?_) (fun g => ?_)
      · refine zW_iload_n dX8_rootLength_34 rfl ?_
        refine zW_ireturn dX8_rootLength_35 rfl rfl (by first | decide | (show _ ≤ (0 : Nat); omega)) (by first | decide | (show _ ≤ (0 : Nat); omega)) ?_
        refine hQ _ ⟨Nat.le_refl _, fun g0 => ⟨g0, Nat.mod_self _, perd_all l, fun j g1 g2 => hall j g1 (by omega)⟩⟩
      · exact absurd g (by omega)
    | succ n ih =>
      intro p hp hn hp2 hp9 hall
      refine zW_iload_n dX8_rootLength_7 rfl ?_
      refine zW_iload_n dX8_rootLength_8 rfl ?_
      refine zW_icmp_ge (tgt := 34) dX8_rootLength_9 (by decide) (by first | assumption | omega | (unfold InR; omega) | (unfold InL; omega) | (simp only [InR] at *; omega)) (by first | assumption | omega | (unfold InR; omega) | (unfold InL; omega) | (simp only [InR] at *; omega)) (fun g => ?_) (fun g => ?_)
      · refine zW_iload_n dX8_rootLength_34 rfl ?_
        refine zW_ireturn dX8_rootLength_35 rfl rfl (by first | decide | (show _ ≤ (0 : Nat); omega)) (by first | decide | (show _ ≤ (0 : Nat); omega)) ?_
        refine hQ _ ⟨Nat.le_refl _, fun g0 => ⟨g0, Nat.mod_self _, perd_all l, fun j g1 g2 => hall j g1 (by omega)⟩⟩
      · have em : (crl l : Int) % (p : Int) = ((crl l % p : Nat) : Int) := rfl
        have nxt : ¬ (crl l % p = 0 ∧ perd l p) → zW Γ mX8_rootLength 28 [some (vR (some w)), some (vI (crl l)), some (vI p)] [] σ 0 0 Q := by
          intro hno
          refine zW_iinc dX8_rootLength_28 rfl (by decide) rfl rfl ?_
          refine zW_goto (tgt := 7) dX8_rootLength_31 (by decide) ?_
          refine ih (p + 1) (by omega) (by omega) (Or.inl (by omega)) (by omega) (fun j g1 g2 g3 g4 => ?_)
          by_cases hj : j = p
          · exact hno (by rw [← hj]; exact ⟨g3, g4⟩)
          · exact hall j g1 (by omega) g3 g4
        have hml : crl l % p < p := Nat.mod_lt _ (by omega)
        refine zW_iload_n dX8_rootLength_12 rfl ?_
        refine zW_iload_n dX8_rootLength_13 rfl ?_
        refine zW_irem dX8_rootLength_14 (by first | assumption | omega | (unfold InR; omega) | (unfold InL; omega) | (simp only [InR] at *; omega)) (by first | assumption | omega | (unfold InR; omega) | (unfold InL; omega) | (simp only [InR] at *; omega)) (by first | assumption | omega | (unfold InR; omega) | (unfold InL; omega) | (simp only [InR] at *; omega)) (by first | assumption | omega | (unfold InR; omega) | (unfold InL; omega) | (simp only [InR] at *; omega)) ?_
        rw [em]
        refine zW_if_ne (tgt := 28) dX8_rootLength_15 (by decide) (by first | assumption | omega | (unfold InR; omega) | (unfold InL; omega) | (simp only [InR] at *; omega)) (fun g2 => ?_) (fun g2 => ?_)
        · exact nxt (fun q => by omega)
        · refine zW_aload_n dX8_rootLength_18 rfl ?_
          refine zW_iload_n dX8_rootLength_19 rfl ?_
          refine zcV1 dX8_rootLength_20 rfl eX8_hasCorePeriod b896 ⟨by decide, by decide, by decide, by decide⟩ rfl hw rfl (by decide) (Nat.le_of_ble_eq_true rfl) (w_hasCorePeriod h hp (by omega) (fun k1 => ?_) (fun k1 => ?_))
          · refine zW_if_eq (tgt := 28) dX8_rootLength_23 (by decide) (by first | assumption | omega | (unfold InR; omega) | (unfold InL; omega) | (simp only [InR] at *; omega)) (fun g3 => ?_) (fun g3 => ?_)
            · exact absurd g3 (by omega)
            · refine zW_iload_n dX8_rootLength_26 rfl ?_
              refine zW_ireturn dX8_rootLength_27 rfl rfl (by first | decide | (show _ ≤ (0 : Nat); omega)) (by first | decide | (show _ ≤ (0 : Nat); omega)) ?_
              exact hQ p ⟨by omega, fun _ => ⟨hp, by omega, k1, hall⟩⟩
          · refine zW_if_eq (tgt := 28) dX8_rootLength_23 (by decide) (by first | assumption | omega | (unfold InR; omega) | (unfold InL; omega) | (simp only [InR] at *; omega)) (fun g3 => ?_) (fun g3 => ?_)
            · exact nxt (fun q => k1 q.2)
            · exact absurd rfl g3
  refine zW_aload_n dX8_rootLength_0 rfl ?_
  refine zcV0 dX8_rootLength_1 rfl eX8_lengthOfCore b895 ⟨by decide, by decide, by decide, by decide⟩ rfl hw rfl (by decide) (Nat.le_of_ble_eq_true rfl) (w_lengthOfCore h ?_)
  refine zW_istore_n dX8_rootLength_4 (by decide) rfl rfl ?_
  refine zW_iconst dX8_rootLength_5 ?_
  refine zW_istore_n dX8_rootLength_6 (by decide) rfl rfl ?_
  exact loop (crl l) 1 (Nat.le_refl _) (by omega) (by omega) (by omega) (fun j g1 g2 => absurd g1 (by omega))
set_option maxRecDepth 100000 in
theorem w_exponentOfRoot {w c cap : Nat} {l : List Nat} (h : Wd σ w c cap l) (hQ : ∀ r, RootIs l r → Q (.inl (some (vI (crl l / r : Nat)))) σ) : zM Γ mX8_exponentOfRoot [vR (some w)] σ Q := by
  obtain ⟨⟨hw, hc, hcc, hcap⟩, hlen, hle, hget, hlt⟩ := id h
  have hcr : crl l = l.length - 2 * cs l := rfl
  refine zM_of (n := 1) (by decide +kernel) rfl rfl rfl ?_
  refine zW_aload_n dX8_exponentOfRoot_0 rfl ?_
  refine zcV0 dX8_exponentOfRoot_1 rfl eX8_rootLength b891 ⟨by decide, by decide, by decide, by decide⟩ rfl hw rfl (by decide) (Nat.le_of_ble_eq_true rfl) (w_rootLength h (fun r hr => ?_))
  have hr1 := hr.1
  refine zW_istore_n dX8_exponentOfRoot_4 (by decide) rfl rfl ?_
  refine zW_iload_n dX8_exponentOfRoot_5 rfl ?_
  refine zW_if_ne (tgt := 13) dX8_exponentOfRoot_6 (by decide) (by first | assumption | omega | (unfold InR; omega) | (unfold InL; omega) | (simp only [InR] at *; omega)) (fun g => ?_) (fun g => ?_)
  · have h0 : 0 < r := by omega
    refine zW_aload_n dX8_exponentOfRoot_13 rfl ?_
    refine zcV0 dX8_exponentOfRoot_14 rfl eX8_lengthOfCore b895 ⟨by decide, by decide, by decide, by decide⟩ rfl hw rfl (by decide) (Nat.le_of_ble_eq_true rfl) (w_lengthOfCore h ?_)
    refine zW_iload_n dX8_exponentOfRoot_17 rfl ?_
    refine zW_idiv dX8_exponentOfRoot_18 (by first | assumption | omega | (unfold InR; omega) | (unfold InL; omega) | (simp only [InR] at *; omega)) (by first | assumption | omega | (unfold InR; omega) | (unfold InL; omega) | (simp only [InR] at *; omega)) (by first | assumption | omega | (unfold InR; omega) | (unfold InL; omega) | (simp only [InR] at *; omega)) (by first | assumption | omega | (unfold InR; omega) | (unfold InL; omega) | (simp only [InR] at *; omega)) ?_
    refine zW_ireturn dX8_exponentOfRoot_19 rfl rfl (by first | decide | (show _ ≤ (0 : Nat); omega)) (by first | decide | (show _ ≤ (0 : Nat); omega)) ?_
    exact hQ r hr
  · refine zW_iconst dX8_exponentOfRoot_9 ?_
    refine zW_goto (tgt := 19) dX8_exponentOfRoot_10 (by decide) ?_
    refine zW_ireturn dX8_exponentOfRoot_19 rfl rfl (by first | decide | (show _ ≤ (0 : Nat); omega)) (by first | decide | (show _ ≤ (0 : Nat); omega)) ?_
    have e : r = 0 := by omega
    have := hQ r hr
    rw [e, Nat.div_zero] at this
    exact this
set_option maxRecDepth 100000 in
theorem w_init {w cap : Nat} (hw : zK σ w = (8, 0)) (hwn : w < zN σ) (hcap : cap ≤ 3600) (hB : zO σ w 1 = 0) (hQ : ∀ σ', Wd σ' w (zN σ) cap [] → zN σ' = zN σ + 1 → (∀ a, a ≠ w → a < zN σ → zK σ' a = zK σ a ∧ zO σ' a = zO σ a ∧ zI σ' a = zI σ a ∧ zJ σ' a = zJ σ a ∧ zP σ' a = zP σ a) → Q (.inl none) σ') : zM Γ mX8_init [vR (some w), vI cap] σ Q := by
  refine zM_of (n := 0) (by decide +kernel) rfl rfl rfl ?_
  refine zW_aload_n dX8_init_0 rfl ?_
  refine zW_objInit dX8_init_1 b46 b32 b33 (by decide) (by decide) ?_
  refine zW_aload_n dX8_init_4 rfl ?_
  refine zW_iload_n dX8_init_5 rfl ?_
  refine zW_iconst dX8_init_6 ?_
  refine zW_mmax dX8_init_7 (by first | assumption | omega | (unfold InR; omega) | (unfold InL; omega) | (simp only [InR] at *; omega)) (by first | assumption | omega | (unfold InR; omega) | (unfold InL; omega) | (simp only [InR] at *; omega)) b47 b48 b4 b49 (Nat.le_of_ble_eq_true rfl) (Nat.le_of_ble_eq_true rfl) (Nat.le_of_ble_eq_true rfl) (Nat.le_of_ble_eq_true rfl) ?_
  refine zW_newa (K := 13) dX8_init_10 (by simp) b69 (by first | assumption | omega | (unfold InR; omega) | (unfold InL; omega) | (simp only [InR] at *; omega)) (by first | assumption | omega | (unfold InR; omega) | (unfold InL; omega) | (simp only [InR] at *; omega)) (by show _ ≤ (1 : Nat); omega) (by show _ ≤ (3600 : Nat); omega) ?_
  refine zpP dX8_init_12 fX8_13 (show zK (sNew σ (13, _)) w = (8, 0) by rw [zK_sNew, if_neg (by omega)]; exact hw) rfl (Or.inr ⟨rfl, rfl⟩) (Or.inl rfl) ?_
  refine zW_return dX8_init_15 rfl (by first | decide | (show _ ≤ (1 : Nat); omega)) (by first | decide | (show _ ≤ (3600 : Nat); omega)) ?_
  have e9 : (max (cap : Int) 0).toNat = cap := by omega
  rw [e9]
  have nw : ∀ a, a < zN σ → a ≠ zN σ := fun a ha => by omega
  refine hQ _ ⟨⟨?_, ?_, ?_, hcap⟩, ?_, Nat.zero_le _, fun j hj => absurd hj (Nat.not_lt_zero j), fun y hy => by cases hy⟩ rfl (fun a ha hn => ⟨?_, ?_, ?_, ?_, ?_⟩)
  · rw [zK_sP, zK_sNew, if_neg (nw w hwn)]; exact hw
  · exact zP_sPs _ _ _ _
  · rw [zK_sP, zK_sNew, if_pos rfl]
  · rw [zO_sP, zO_sNew, if_neg (nw w hwn)]; exact hB
  · rw [zK_sP, zK_sNew, if_neg (nw a hn)]
  · rw [zO_sP]; funext k; rw [zO_sNew, if_neg (nw a hn)]
  · rw [zI_sP]; funext k; rw [zI_sNew, if_neg (nw a hn)]
  · rw [zJ_sP]; funext k; rw [zJ_sNew, if_neg (nw a hn)]
  · funext k; rw [zP_sPa _ _ _ _ ha, zP_sNew, if_neg (nw a hn)]
end WORD
