/-! Folding -/
def op7 (o : Nat) : Nat → Prop := fun a => o ≤ a ∧ a < o + 7
def FOK (σ : HS) (o : Nat) : Prop := zK σ o = (0, 0) ∧ zP σ o 0 = some (o + 1) ∧ zP σ o 1 = some (o + 2) ∧ zP σ o 3 = some (o + 3) ∧ zP σ o 4 = some (o + 4) ∧ zP σ o 6 = some (o + 5) ∧ zP σ o 7 = some (o + 6) ∧ zK σ (o + 1) = (13, 2840) ∧ zK σ (o + 2) = (13, 355) ∧ zK σ (o + 3) = (13, 2841) ∧ zK σ (o + 4) = (13, 2841) ∧ zK σ (o + 5) = (13, 355) ∧ zK σ (o + 6) = (13, 355)
def FH (σ : HS) (o : Nat) (T : TB) (mg : Nat → Nat) (used : Nat) (E : List (Nat × Nat)) : Prop := FOK σ o ∧ zO σ o 2 = (used : Int) ∧ zO σ o 5 = (E.length : Int) ∧ E.length ≤ 2841 ∧ (∀ u c, u < 355 → c < 8 → zI σ (o + 1) (8 * u + c) = T u c) ∧ (∀ u, u < used → zI σ (o + 2) u = (mg u : Int)) ∧ ∀ (i : Nat) (p : Nat × Nat), E[i]? = some p → zI σ (o + 3) i = (p.1 : Int) ∧ zI σ (o + 4) i = (p.2 : Int)
set_option maxRecDepth 100000 in
theorem FOK.md {σ σ' : HS} {o : Nat} {P : Nat → Prop} (m : Md σ σ' P) (h : FOK σ o) : FOK σ' o := by
  unfold FOK at *
  rw [m.K, m.P]
  exact h
section FOLDING
variable {Γ : GG} {σ : HS} {Q : Res → HS → Prop} {o : Nat} {T : TB} {mg ρ : Nat → Nat} {used : Nat} {E : List (Nat × Nat)}
set_option maxRecDepth 100000 in
theorem FH.setT (h : FH σ o T mg used E) {a c : Nat} {x : Int} (hc : c < 8) : FH (sI σ (o + 1) (8 * a + c) x) o (tset T a c x) mg used E := by
  refine ⟨h.1, h.2.1, h.2.2.1, h.2.2.2.1, fun u d hu hd => ?_, fun u hu => ?_, fun i p hp => ?_⟩
  · unfold tset
    by_cases q : u = a ∧ d = c
    · rw [if_pos q, q.1, q.2, zI_sIs]
    · rw [if_neg q, zI_sIk _ _ _ _ (show 8 * u + d ≠ 8 * a + c by omega)]
      exact h.2.2.2.2.1 u d hu hd
  · rw [zI_sIa _ _ _ _ (by omega)]; exact h.2.2.2.2.2.1 u hu
  · rw [zI_sIa _ _ _ _ (by omega), zI_sIa _ _ _ _ (by omega)]; exact h.2.2.2.2.2.2 i p hp
set_option maxRecDepth 100000 in
theorem FH.setM (h : FH σ o T mg used E) {v x : Nat} : FH (sI σ (o + 2) v x) o T (fun y => if y = v then x else mg y) used E := by
  refine ⟨h.1, h.2.1, h.2.2.1, h.2.2.2.1, fun u d hu hd => ?_, fun u hu => ?_, fun i p hp => ?_⟩
  · rw [zI_sIa _ _ _ _ (by omega)]; exact h.2.2.2.2.1 u d hu hd
  · show _ = ((if u = v then x else mg u : Nat) : Int)
    by_cases q : u = v
    · rw [if_pos q, q, zI_sIs]
    · rw [if_neg q, zI_sIk _ _ _ _ q]; exact h.2.2.2.2.2.1 u hu
  · rw [zI_sIa _ _ _ _ (by omega), zI_sIa _ _ _ _ (by omega)]; exact h.2.2.2.2.2.2 i p hp
set_option maxRecDepth 100000 in
theorem v_makeVertex (h : FH σ o T mg used E) (hu : used < 355) (hm : mg used = used) (hQ : ∀ σ', FH σ' o T mg (used + 1) E → Md σ σ' (op7 o) → Q (.inl (some (vI used))) σ') : zM Γ mX0_makeVertex [vR (some o)] σ Q := by
  obtain ⟨h0, h1, h2, h3, h4, h5, h6, k1, k2, k3, k4, k5, k6⟩ := id h.1
  have hU := h.2.1
  refine zM_of (n := 0) (by decide +kernel) rfl rfl rfl ?_
  refine zW_aload_n dX0_makeVertex_0 rfl ?_
  refine zgI dX0_makeVertex_1 fX0_36 (by assumption) rfl (by assumption) ?_
  refine zW_sipush dX0_makeVertex_4 (by decide) ?_
  refine zW_icmp_lt (tgt := 12) dX0_makeVertex_7 (by decide) (by first | assumption | omega | (unfold InR; omega) | (unfold InL; omega) | (simp only [InR] at *; omega)) (by first | assumption | omega | (unfold InR; omega) | (unfold InL; omega) | (simp only [InR] at *; omega)) (fun q => ?_) (fun q => ?_)
  · refine zW_aload_n dX0_makeVertex_12 rfl ?_
    refine zgP dX0_makeVertex_13 fX0_15 (by assumption) rfl (by assumption) ?_
    refine zW_aload_n dX0_makeVertex_16 rfl ?_
    refine zgI dX0_makeVertex_17 fX0_36 h0 rfl hU ?_
    refine zW_aload_n dX0_makeVertex_20 rfl ?_
    refine zgI dX0_makeVertex_21 fX0_36 h0 rfl hU ?_
    refine zW_iast dX0_makeVertex_24 (by assumption) (by first | assumption | omega | (unfold InR; omega) | (unfold InL; omega) | (simp only [InR] at *; omega)) (by first | assumption | omega | (unfold InR; omega) | (unfold InL; omega) | (simp only [InR] at *; omega)) (by first | assumption | omega | (unfold InR; omega) | (unfold InL; omega) | (simp only [InR] at *; omega)) ?_
    refine zW_aload_n dX0_makeVertex_25 rfl ?_
    refine zW_dup dX0_makeVertex_26 rfl ?_
    refine zgI dX0_makeVertex_27 fX0_36 h0 rfl hU ?_
    refine zW_iconst dX0_makeVertex_30 ?_
    refine zW_iadd dX0_makeVertex_31 ?_
    refine zpI dX0_makeVertex_32 fX0_36 (by assumption) rfl (Or.inl rfl) (zst_int _) ?_
    refine zW_aload_n dX0_makeVertex_35 rfl ?_
    refine zgI dX0_makeVertex_36 fX0_36 h0 rfl (zO_sOs _ _ _ _) ?_
    refine zW_iconst dX0_makeVertex_39 ?_
    refine zW_isub dX0_makeVertex_40 ?_
    refine zW_ireturn dX0_makeVertex_41 rfl rfl (by first | decide | (show _ ≤ (0 : Nat); omega)) (by first | decide | (show _ ≤ (0 : Nat); omega)) ?_
    have e : (used : Int) + 1 - 1 = (used : Int) := by omega
    rw [e]
    refine hQ _ ⟨h.1, ?_, ?_, h.2.2.2.1, fun u d hu hd => ?_, fun u hu => ?_, fun i p hp => ?_⟩ ((Md.I (P := op7 o) (by unfold op7; omega)).tr (Md.O (P := op7 o) (by unfold op7; omega)) (fun _ z => z))
    · rw [zO_sOs]; omega
    · rw [zO_sOk _ _ _ _ (by omega)]; exact h.2.2.1
    · rw [zI_sO, zI_sIa _ _ _ _ (by omega)]; exact h.2.2.2.2.1 u d hu hd
    · rw [zI_sO]
      by_cases q2 : u = used
      · rw [q2, hm]; exact zI_sIs _ _ _ _
      · rw [zI_sIk _ _ _ _ (show u ≠ ((used : Int)).toNat by omega)]; exact h.2.2.2.2.2.1 u (by omega)
    · rw [zI_sO, zI_sIa _ _ _ _ (by omega), zI_sIa _ _ _ _ (by omega)]; exact h.2.2.2.2.2.2 i p hp
  · exact absurd q (by omega)
set_option maxRecDepth 100000 in
theorem v_putCoincidence {l r : Nat} (h : FH σ o T mg used E) (hn : E.length < 2841) (hQ : ∀ σ', FH σ' o T mg used (E ++ [(l, r)]) → Md σ σ' (op7 o) → Q (.inl none) σ') : zM Γ mX0_putCoincidence [vR (some o), vI l, vI r] σ Q := by
  obtain ⟨h0, h1, h2, h3, h4, h5, h6, k1, k2, k3, k4, k5, k6⟩ := id h.1
  have hU := h.2.2.1
  refine zM_of (n := 0) (by decide +kernel) rfl rfl rfl ?_
  refine zW_aload_n dX0_putCoincidence_0 rfl ?_
  refine zgI dX0_putCoincidence_1 fX0_80 h0 rfl hU ?_
  refine zW_sipush dX0_putCoincidence_4 (by decide) ?_
  refine zW_icmp_ge (tgt := 40) dX0_putCoincidence_7 (by decide) (by first | assumption | omega | (unfold InR; omega) | (unfold InL; omega) | (simp only [InR] at *; omega)) (by first | assumption | omega | (unfold InR; omega) | (unfold InL; omega) | (simp only [InR] at *; omega)) (fun q => ?_) (fun q => ?_)
  · exact absurd q (by omega)
  · refine zW_aload_n dX0_putCoincidence_10 rfl ?_
    refine zgP dX0_putCoincidence_11 fX0_18 h0 rfl h3 ?_
    refine zW_aload_n dX0_putCoincidence_14 rfl ?_
    refine zgI dX0_putCoincidence_15 fX0_80 h0 rfl hU ?_
    refine zW_iload_n dX0_putCoincidence_18 rfl ?_
    refine zW_iast dX0_putCoincidence_19 k3 (by first | assumption | omega | (unfold InR; omega) | (unfold InL; omega) | (simp only [InR] at *; omega)) (by first | assumption | omega | (unfold InR; omega) | (unfold InL; omega) | (simp only [InR] at *; omega)) (by first | assumption | omega | (unfold InR; omega) | (unfold InL; omega) | (simp only [InR] at *; omega)) ?_
    refine zW_aload_n dX0_putCoincidence_20 rfl ?_
    refine zgP dX0_putCoincidence_21 fX0_21 h0 rfl h4 ?_
    refine zW_aload_n dX0_putCoincidence_24 rfl ?_
    refine zgI dX0_putCoincidence_25 fX0_80 h0 rfl hU ?_
    refine zW_iload_n dX0_putCoincidence_28 rfl ?_
    refine zW_iast dX0_putCoincidence_29 k4 (by first | assumption | omega | (unfold InR; omega) | (unfold InL; omega) | (simp only [InR] at *; omega)) (by first | assumption | omega | (unfold InR; omega) | (unfold InL; omega) | (simp only [InR] at *; omega)) (by first | assumption | omega | (unfold InR; omega) | (unfold InL; omega) | (simp only [InR] at *; omega)) ?_
    refine zW_aload_n dX0_putCoincidence_30 rfl ?_
    refine zW_dup dX0_putCoincidence_31 rfl ?_
    refine zgI dX0_putCoincidence_32 fX0_80 h0 rfl hU ?_
    refine zW_iconst dX0_putCoincidence_35 ?_
    refine zW_iadd dX0_putCoincidence_36 ?_
    refine zpI dX0_putCoincidence_37 fX0_80 (by assumption) rfl (Or.inl rfl) (zst_int _) ?_
    refine zW_return dX0_putCoincidence_40 rfl (by first | decide | (show _ ≤ (0 : Nat); omega)) (by first | decide | (show _ ≤ (0 : Nat); omega)) ?_
    refine hQ _ ⟨h.1, ?_, ?_, by simp; omega, fun u d hu hd => ?_, fun u hu => ?_, fun i p hp => ?_⟩ (((Md.I (P := op7 o) (by unfold op7; omega)).tr (Md.I (P := op7 o) (by unfold op7; omega)) (fun _ z => z)).tr (Md.O (P := op7 o) (by unfold op7; omega)) (fun _ z => z))
    · rw [zO_sOk _ _ _ _ (by omega)]; exact h.2.1
    · rw [zO_sOs]; simp
    · rw [zI_sO, zI_sIa _ _ _ _ (by omega), zI_sIa _ _ _ _ (by omega)]; exact h.2.2.2.2.1 u d hu hd
    · rw [zI_sO, zI_sIa _ _ _ _ (by omega), zI_sIa _ _ _ _ (by omega)]; exact h.2.2.2.2.2.1 u hu
    · rw [zI_sO, zI_sIa _ _ _ _ (show o + 3 ≠ o + 4 by omega)]
      have hi := (List.getElem?_eq_some_iff.mp hp).1
      rw [List.length_append, List.length_singleton] at hi
      by_cases q2 : i = E.length
      · rw [q2, List.getElem?_append_right (Nat.le_refl _), Nat.sub_self] at hp
        have e : (l, r) = p := by simpa using hp
        rw [← e, q2]
        exact ⟨zI_sIs _ _ _ _, zI_sIs _ _ _ _⟩
      · rw [List.getElem?_append_left (by omega)] at hp
        rw [zI_sIk _ _ _ _ (show i ≠ ((E.length : Int)).toNat by omega), zI_sIk _ _ _ _ (show i ≠ ((E.length : Int)).toNat by omega), zI_sIa _ _ _ _ (show o + 4 ≠ o + 3 by omega)]
        exact h.2.2.2.2.2.2 i p hp
set_option maxRecDepth 100000 in
theorem v_connect {a c b : Nat} (h : FH σ o T mg used E) (hT : CT T used) (hu : used ≤ 355) (ha : a < used) (hb : b < used) (hc : c < 8) (hn : E.length < 2841) (hQ : ∀ σ', FH σ' o (cnT T a c b) mg used (E ++ cnP T a c b) → Md σ σ' (op7 o) → Q (.inl none) σ') : zM Γ mX0_connect [vR (some o), vI a, vI c, vI b] σ Q := by
  obtain ⟨h0, h1, h2, h3, h4, h5, h6, k1, k2, k3, k4, k5, k6⟩ := id h.1
  have hx := x1_lt hc
  have b1 := hT.1 a c hc
  have b2 := hT.1 b _ hx
  have g1 := h.2.2.2.2.1 a c (by omega) hc
  have g2 := h.2.2.2.2.1 b _ (by omega) hx
  refine zM_of (n := 2) (by decide +kernel) rfl rfl rfl ?_
  refine zW_aload_n dX0_connect_0 rfl ?_
  refine zgP dX0_connect_1 fX0_9 h0 rfl h1 ?_
  refine zW_iload_n dX0_connect_4 rfl ?_
  refine zW_bipush dX0_connect_5 (by decide) ?_
  refine zW_imul dX0_connect_7 ?_
  refine zW_iload_n dX0_connect_8 rfl ?_
  refine zW_iadd dX0_connect_9 ?_
  refine zrI dX0_connect_10 k1 (by first | assumption | omega | (unfold InR; omega) | (unfold InL; omega) | (simp only [InR] at *; omega)) (by first | assumption | omega | (unfold InR; omega) | (unfold InL; omega) | (simp only [InR] at *; omega)) (by first | assumption | omega | (unfold InR; omega) | (unfold InL; omega) | (simp only [InR] at *; omega)) (zix (f := zI σ (o + 1)) (j := 8 * a + c) (by omega) g1) ?_
  refine zW_istore dX0_connect_11 (by decide) rfl rfl ?_
  refine zW_aload_n dX0_connect_13 rfl ?_
  refine zgP dX0_connect_14 fX0_9 h0 rfl h1 ?_
  refine zW_iload_n dX0_connect_17 rfl ?_
  refine zW_bipush dX0_connect_18 (by decide) ?_
  refine zW_imul dX0_connect_20 ?_
  refine zW_iload_n dX0_connect_21 rfl ?_
  refine zW_iconst dX0_connect_22 ?_
  refine zW_ixor1 dX0_connect_23 hc ?_
  refine zW_iadd dX0_connect_24 ?_
  refine zrI dX0_connect_25 k1 (by first | assumption | omega | (unfold InR; omega) | (unfold InL; omega) | (simp only [InR] at *; omega)) (by first | assumption | omega | (unfold InR; omega) | (unfold InL; omega) | (simp only [InR] at *; omega)) (by first | assumption | omega | (unfold InR; omega) | (unfold InL; omega) | (simp only [InR] at *; omega)) (zix (f := zI σ (o + 1)) (j := 8 * b + (c ^^^ 1)) (by omega) g2) ?_
  refine zW_istore dX0_connect_26 (by decide) rfl rfl ?_
  refine zW_iload dX0_connect_28 rfl ?_
  refine zW_iconst dX0_connect_30 ?_
  refine zW_icmp_eq (tgt := 44) dX0_connect_31 (by decide) (by first | assumption | omega | (unfold InR; omega) | (unfold InL; omega) | (simp only [InR] at *; omega)) (by first | assumption | omega | (unfold InR; omega) | (unfold InL; omega) | (simp only [InR] at *; omega)) (fun q => ?_) (fun q => ?_)
  · refine zW_iload dX0_connect_44 rfl ?_
    refine zW_iconst dX0_connect_46 ?_
    refine zW_icmp_eq (tgt := 60) dX0_connect_47 (by decide) (by first | assumption | omega | (unfold InR; omega) | (unfold InL; omega) | (simp only [InR] at *; omega)) (by first | assumption | omega | (unfold InR; omega) | (unfold InL; omega) | (simp only [InR] at *; omega)) (fun q2 => ?_) (fun q2 => ?_)
    · have eT : cnT T a c b = tset (tset T a c b) b (c ^^^ 1) a := if_pos ⟨q, q2⟩
      have eP : cnP T a c b = [] := by unfold cnP; rw [if_neg (fun z => z q), if_neg (fun z => z q2)]
      rw [eT, eP, List.append_nil] at hQ
      have i1 : ((a : Int) * 8 + c).toNat = 8 * a + c := by omega
      have i2 : ((b : Int) * 8 + ((c ^^^ 1 : Nat) : Int)).toNat = 8 * b + (c ^^^ 1) := by omega
      refine zW_aload_n dX0_connect_60 rfl ?_
      refine zgP dX0_connect_61 fX0_9 h0 rfl h1 ?_
      refine zW_iload_n dX0_connect_64 rfl ?_
      refine zW_bipush dX0_connect_65 (by decide) ?_
      refine zW_imul dX0_connect_67 ?_
      refine zW_iload_n dX0_connect_68 rfl ?_
      refine zW_iadd dX0_connect_69 ?_
      refine zW_iload_n dX0_connect_70 rfl ?_
      refine zW_iast dX0_connect_71 k1 (by first | assumption | omega | (unfold InR; omega) | (unfold InL; omega) | (simp only [InR] at *; omega)) (by first | assumption | omega | (unfold InR; omega) | (unfold InL; omega) | (simp only [InR] at *; omega)) (by first | assumption | omega | (unfold InR; omega) | (unfold InL; omega) | (simp only [InR] at *; omega)) ?_
      refine zW_aload_n dX0_connect_72 rfl ?_
      refine zgP dX0_connect_73 fX0_9 h0 rfl h1 ?_
      refine zW_iload_n dX0_connect_76 rfl ?_
      refine zW_bipush dX0_connect_77 (by decide) ?_
      refine zW_imul dX0_connect_79 ?_
      refine zW_iload_n dX0_connect_80 rfl ?_
      refine zW_iconst dX0_connect_81 ?_
      refine zW_ixor1 dX0_connect_82 hc ?_
      refine zW_iadd dX0_connect_83 ?_
      refine zW_iload_n dX0_connect_84 rfl ?_
      refine zW_iast dX0_connect_85 k1 (by first | assumption | omega | (unfold InR; omega) | (unfold InL; omega) | (simp only [InR] at *; omega)) (by first | assumption | omega | (unfold InR; omega) | (unfold InL; omega) | (simp only [InR] at *; omega)) (by first | assumption | omega | (unfold InR; omega) | (unfold InL; omega) | (simp only [InR] at *; omega)) ?_
      refine zW_return dX0_connect_86 rfl (by first | decide | (show _ ≤ (0 : Nat); omega)) (by first | decide | (show _ ≤ (0 : Nat); omega)) ?_
      rw [i1, i2]
      exact hQ _ ((h.setT hc).setT hx) ((Md.I (P := op7 o) (by unfold op7; omega)).tr (Md.I (P := op7 o) (by unfold op7; omega)) (fun _ z => z))
    · have e : T b (c ^^^ 1) = ((T b (c ^^^ 1)).toNat : Int) := by omega
      have eT : cnT T a c b = T := if_neg (fun z => q2 z.2)
      have eP : cnP T a c b = [((T b (c ^^^ 1)).toNat, a)] := by unfold cnP; rw [if_neg (fun z => z q), if_pos q2]
      rw [eT, eP] at hQ
      rw [e]
      refine zW_aload_n dX0_connect_50 rfl ?_
      refine zW_iload dX0_connect_51 rfl ?_
      refine zW_iload_n dX0_connect_53 rfl ?_
      refine zcV2 dX0_connect_54 rfl eX0_putCoincidence b439 ⟨by decide, by decide, by decide, by decide⟩ rfl h0 rfl (by decide) (Nat.le_of_ble_eq_true rfl) (v_putCoincidence h hn (fun σ2 h2 m2 => ?_))
      refine zW_goto (tgt := 86) dX0_connect_57 (by decide) ?_
      refine zW_return dX0_connect_86 rfl (by first | decide | (show _ ≤ (0 : Nat); omega)) (by first | decide | (show _ ≤ (0 : Nat); omega)) ?_
      exact hQ _ h2 m2
  · have e : T a c = ((T a c).toNat : Int) := by omega
    have eT : cnT T a c b = T := if_neg (fun z => q z.1)
    have eP : cnP T a c b = [((T a c).toNat, b)] := by unfold cnP; rw [if_pos q]
    rw [eT, eP] at hQ
    rw [e]
    refine zW_aload_n dX0_connect_34 rfl ?_
    refine zW_iload dX0_connect_35 rfl ?_
    refine zW_iload_n dX0_connect_37 rfl ?_
    refine zcV2 dX0_connect_38 rfl eX0_putCoincidence b439 ⟨by decide, by decide, by decide, by decide⟩ rfl h0 rfl (by decide) (Nat.le_of_ble_eq_true rfl) (v_putCoincidence h hn (fun σ2 h2 m2 => ?_))
    refine zW_goto (tgt := 86) dX0_connect_41 (by decide) ?_
    refine zW_return dX0_connect_86 rfl (by first | decide | (show _ ≤ (0 : Nat); omega)) (by first | decide | (show _ ≤ (0 : Nat); omega)) ?_
    exact hQ _ h2 m2
set_option maxRecDepth 100000 in
theorem v_survivorOf {v : Nat} (h : FH σ o T mg used E) (hR : RtOf mg ρ) (hid : ∀ x, used ≤ x → mg x = x) (hu : used ≤ 355) (hv : v < used) (hQ : ∀ σ' mg', FH σ' o T mg' used E → RtOf mg' ρ → (∀ x, used ≤ x → mg' x = x) → Md σ σ' (op7 o) → Q (.inl (some (vI (ρ v)))) σ') : zM Γ mX0_survivorOf [vR (some o), vI v] σ Q := by
  refine zM_of (n := 2) (by decide +kernel) rfl rfl rfl ?_
  have loop : ∀ n at_ i σ1 mg1, at_ ≤ n → i + at_ ≤ v → ρ at_ = ρ v → FH σ1 o T mg1 used E → RtOf mg1 ρ → (∀ x, used ≤ x → mg1 x = x) → Md σ σ1 (op7 o) → zW Γ mX0_survivorOf 4 [some (vR (some o)), some (vI v), some (vI at_), some (vI i)] [] σ1 0 0 Q := by
    intro n
    induction n with
    | zero =>
      intro at_ i σ1 mg1 hn hi hρ h1 hR1 hid1 m1
      obtain ⟨h0, -, h2, -, -, -, -, -, k2, -, -, -, -⟩ := id h1.1
      have e : at_ = 0 := by omega
      have z := hR1.1 0
      have z2 : mg1 0 = 0 := by omega
      have g := h1.2.2.2.2.2.1 at_ (by omega)
      rw [e, z2] at g
      subst e
      refine zW_iload_n dX0_survivorOf_4 rfl ?_
      refine zW_sipush dX0_survivorOf_5 (by decide) ?_
      refine zW_icmp_ge (tgt := 51) dX0_survivorOf_8 (by decide) (by first | assumption | omega | (unfold InR; omega) | (unfold InL; omega) | (simp only [InR] at *; omega)) (by first | assumption | omega | (unfold InR; omega) | (unfold InL; omega) | (simp only [InR] at *; omega)) (fun q => ?_) (fun q => ?_)
      · exact absurd q (by omega)
      · refine zW_aload_n dX0_survivorOf_11 rfl ?_
        refine zgP dX0_survivorOf_12 fX0_15 h0 rfl h2 ?_
        refine zW_iload_n dX0_survivorOf_15 rfl ?_
        refine zrI dX0_survivorOf_16 k2 (by first | assumption | omega | (unfold InR; omega) | (unfold InL; omega) | (simp only [InR] at *; omega)) (by first | assumption | omega | (unfold InR; omega) | (unfold InL; omega) | (simp only [InR] at *; omega)) (by first | assumption | omega | (unfold InR; omega) | (unfold InL; omega) | (simp only [InR] at *; omega)) g ?_
        refine zW_iload_n dX0_survivorOf_17 rfl ?_
        refine zW_icmp_eq (tgt := 51) dX0_survivorOf_18 (by decide) (by first | assumption | omega | (unfold InR; omega) | (unfold InL; omega) | (simp only [InR] at *; omega)) (by first | assumption | omega | (unfold InR; omega) | (unfold InL; omega) | (simp only [InR] at *; omega)) (fun q2 => ?_) (fun q2 => ?_)
        · refine zW_iload_n dX0_survivorOf_51 rfl ?_
          refine zW_ireturn dX0_survivorOf_52 rfl rfl (by first | decide | (show _ ≤ (0 : Nat); omega)) (by first | decide | (show _ ≤ (0 : Nat); omega)) ?_
          have := hR1.2.2.1 0 z2
          rw [← hρ, this] at hQ
          exact hQ _ _ h1 hR1 hid1 m1
        · exact absurd rfl q2
    | succ n ih =>
      intro at_ i σ1 mg1 hn hi hρ h1 hR1 hid1 m1
      obtain ⟨h0, -, h2, -, -, -, -, -, k2, -, -, -, -⟩ := id h1.1
      have l1 := hR1.1 at_
      have l2 := hR1.1 (mg1 at_)
      have g := h1.2.2.2.2.2.1 at_ (by omega)
      have g2 := h1.2.2.2.2.2.1 (mg1 at_) (by omega)
      refine zW_iload_n dX0_survivorOf_4 rfl ?_
      refine zW_sipush dX0_survivorOf_5 (by decide) ?_
      refine zW_icmp_ge (tgt := 51) dX0_survivorOf_8 (by decide) (by first | assumption | omega | (unfold InR; omega) | (unfold InL; omega) | (simp only [InR] at *; omega)) (by first | assumption | omega | (unfold InR; omega) | (unfold InL; omega) | (simp only [InR] at *; omega)) (fun q => ?_) (fun q => ?_)
      · exact absurd q (by omega)
      · refine zW_aload_n dX0_survivorOf_11 rfl ?_
        refine zgP dX0_survivorOf_12 fX0_15 h0 rfl h2 ?_
        refine zW_iload_n dX0_survivorOf_15 rfl ?_
        refine zrI dX0_survivorOf_16 k2 (by first | assumption | omega | (unfold InR; omega) | (unfold InL; omega) | (simp only [InR] at *; omega)) (by first | assumption | omega | (unfold InR; omega) | (unfold InL; omega) | (simp only [InR] at *; omega)) (by first | assumption | omega | (unfold InR; omega) | (unfold InL; omega) | (simp only [InR] at *; omega)) g ?_
        refine zW_iload_n dX0_survivorOf_17 rfl ?_
        refine zW_icmp_eq (tgt := 51) dX0_survivorOf_18 (by decide) (by first | assumption | omega | (unfold InR; omega) | (unfold InL; omega) | (simp only [InR] at *; omega)) (by first | assumption | omega | (unfold InR; omega) | (unfold InL; omega) | (simp only [InR] at *; omega)) (fun q2 => ?_) (fun q2 => ?_)
        · refine zW_iload_n dX0_survivorOf_51 rfl ?_
          refine zW_ireturn dX0_survivorOf_52 rfl rfl (by first | decide | (show _ ≤ (0 : Nat); omega)) (by first | decide | (show _ ≤ (0 : Nat); omega)) ?_
          have := hR1.2.2.1 at_ (by omega)
          rw [← hρ, this] at hQ
          exact hQ _ _ h1 hR1 hid1 m1
        · have m2 : Md σ1 (sI σ1 (o + 2) ((at_ : Int)).toNat (mg1 (mg1 at_) : Int)) (op7 o) := Md.I (by unfold op7; omega)
          refine zW_aload_n dX0_survivorOf_21 rfl ?_
          refine zgP dX0_survivorOf_22 fX0_15 h0 rfl h2 ?_
          refine zW_iload_n dX0_survivorOf_25 rfl ?_
          refine zW_aload_n dX0_survivorOf_26 rfl ?_
          refine zgP dX0_survivorOf_27 fX0_15 h0 rfl h2 ?_
          refine zW_aload_n dX0_survivorOf_30 rfl ?_
          refine zgP dX0_survivorOf_31 fX0_15 h0 rfl h2 ?_
          refine zW_iload_n dX0_survivorOf_34 rfl ?_
          refine zrI dX0_survivorOf_35 k2 (by first | assumption | omega | (unfold InR; omega) | (unfold InL; omega) | (simp only [InR] at *; omega)) (by first | assumption | omega | (unfold InR; omega) | (unfold InL; omega) | (simp only [InR] at *; omega)) (by first | assumption | omega | (unfold InR; omega) | (unfold InL; omega) | (simp only [InR] at *; omega)) g ?_
          refine zrI dX0_survivorOf_36 k2 (by first | assumption | omega | (unfold InR; omega) | (unfold InL; omega) | (simp only [InR] at *; omega)) (by first | assumption | omega | (unfold InR; omega) | (unfold InL; omega) | (simp only [InR] at *; omega)) (by first | assumption | omega | (unfold InR; omega) | (unfold InL; omega) | (simp only [InR] at *; omega)) g2 ?_
          refine zW_iast dX0_survivorOf_37 k2 (by first | assumption | omega | (unfold InR; omega) | (unfold InL; omega) | (simp only [InR] at *; omega)) (by first | assumption | omega | (unfold InR; omega) | (unfold InL; omega) | (simp only [InR] at *; omega)) (by first | assumption | omega | (unfold InR; omega) | (unfold InL; omega) | (simp only [InR] at *; omega)) ?_
          refine zW_aload_n dX0_survivorOf_38 rfl ?_
          refine zgP dX0_survivorOf_39 fX0_15 h0 rfl h2 ?_
          refine zW_iload_n dX0_survivorOf_42 rfl ?_
          refine zrI dX0_survivorOf_43 k2 (by first | assumption | omega | (unfold InR; omega) | (unfold InL; omega) | (simp only [InR] at *; omega)) (by first | assumption | omega | (unfold InR; omega) | (unfold InL; omega) | (simp only [InR] at *; omega)) (by first | assumption | omega | (unfold InR; omega) | (unfold InL; omega) | (simp only [InR] at *; omega)) (zI_sIs _ _ _ _) ?_
          refine zW_istore_n dX0_survivorOf_44 (by decide) rfl rfl ?_
          refine zW_iinc dX0_survivorOf_45 rfl (by decide) rfl rfl ?_
          refine zW_goto (tgt := 4) dX0_survivorOf_48 (by decide) ?_
          refine ih (mg1 (mg1 at_)) (i + 1) _ _ (by omega) (by omega) (by rw [hR1.2.1, hR1.2.1]; exact hρ) h1.setM (hR1.comp at_) (fun x hx => ?_) (m1.tr m2 (fun _ z => z))
          show (if x = at_ then _ else _) = x
          rw [if_neg (by omega)]
          exact hid1 x hx
  refine zW_iload_n dX0_survivorOf_0 rfl ?_
  refine zW_istore_n dX0_survivorOf_1 (by decide) rfl rfl ?_
  refine zW_iconst dX0_survivorOf_2 ?_
  refine zW_istore_n dX0_survivorOf_3 (by decide) rfl rfl ?_
  exact loop v v 0 σ mg (Nat.le_refl _) (by omega) rfl h hR hid Md.rf
/-- dropped vertices have no edges -/
def Live (T : TB) (ρ : Nat → Nat) : Prop := ∀ u d, d < 8 → ρ u ≠ u → T u d = -1
set_option maxRecDepth 100000 in
theorem v_mergeVertices {a b : Nat} (h : FH σ o T mg used E) (hT : CT T used) (hL : Live T ρ) (hR : RtOf mg ρ) (hid : ∀ x, used ≤ x → mg x = x) (hu : used ≤ 355) (ha : ρ a = a) (hb : ρ b = b) (hab : a < b) (hbu : b < used) (hn : E.length + 8 ≤ 2841)
    (hQ : ∀ σ' T' mg' N, FH σ' o T' mg' used (E ++ N) → N.length ≤ 8 → (∀ p ∈ N, p.1 < used ∧ p.2 < used) → CT T' used → Live T' (rput ρ a b) → RtOf mg' (rput ρ a b) → (∀ x, used ≤ x → mg' x = x) → (∀ X, Sim (CE T) (Rl (rput ρ a b) X) (CE T') (Rl (rput ρ a b) (X ++ N)) ∧ ∀ H φ, HOK H → Resp H φ (CE T) (rput ρ a b) X → Resp H φ (CE T') (rput ρ a b) (X ++ N)) → Md σ σ' (op7 o) → Q (.inl none) σ') : zM Γ mX0_mergeVertices [vR (some o), vI a, vI b] σ Q := by
  obtain ⟨h0, h1, h2, h3, h4, h5, h6, k1, k2, k3, k4, k5, k6⟩ := id h.1
  refine zM_of (n := 2) (by decide +kernel) rfl rfl rfl ?_
  have loop : ∀ n c σ1 T1 mg1 N, c + n = 8 → FH σ1 o T1 mg1 used (E ++ N) → N.length ≤ c → (∀ p ∈ N, p.1 < used ∧ p.2 < used) → CT T1 used → (∀ v d, d < 8 → v ≠ b → ρ v ≠ v → T1 v d = -1) → (∀ d, d < c → T1 b d = -1) → RtOf mg1 (rput ρ a b) → (∀ x, used ≤ x → mg1 x = x) → (∀ X, Sim (CE T) (Rl (rput ρ a b) X) (CE T1) (Rl (rput ρ a b) (X ++ N)) ∧ ∀ H φ, HOK H → Resp H φ (CE T) (rput ρ a b) X → Resp H φ (CE T1) (rput ρ a b) (X ++ N)) → Md σ σ1 (op7 o) → ∀ z, zW Γ mX0_mergeVertices 9 [some (vR (some o)), some (vI a), some (vI b), some (vI c), z] [] σ1 0 0 Q := by
    intro n
    induction n with
    | zero =>
      intro c σ1 T1 mg1 N hc h1 hN hNi hT1 hv hbd hR1 hid1 hS m1 z
      refine zW_iload_n dX0_mergeVertices_9 rfl ?_
      refine zW_bipush dX0_mergeVertices_10 (by decide) ?_
      refine zW_icmp_ge (tgt := 85) dX0_mergeVertices_12 (by decide) (by first | assumption | omega | (unfold InR; omega) | (unfold InL; omega) | (simp only [InR] at *; omega)) (by first | assumption | omega | (unfold InR; omega) | (unfold InL; omega) | (simp only [InR] at *; omega)) (fun q => ?_) (fun q => ?_)
      · refine zW_return dX0_mergeVertices_85 rfl (by first | decide | (show _ ≤ (0 : Nat); omega)) (by first | decide | (show _ ≤ (0 : Nat); omega)) ?_
        refine hQ _ T1 mg1 N h1 (by omega) hNi hT1 (fun u d hd hρ => ?_) hR1 hid1 hS m1
        by_cases q2 : u = b
        · rw [q2]; exact hbd d (by omega)
        · refine hv u d hd q2 (fun z => hρ ?_)
          unfold rput
          rw [z, if_neg q2]
      · exact absurd q (by omega)
    | succ n ih =>
      intro c σ1 T1 mg1 N hc h1 hN hNi hT1 hv hbd hR1 hid1 hS m1 z
      obtain ⟨h0, h1', -, -, -, -, -, k1, -, -, -, -, -⟩ := id h1.1
      have hc8 : c < 8 := by omega
      have hx := x1_lt hc8
      have g := h1.2.2.2.2.1 b c (by omega) hc8
      have b1 := hT1.1 b c hc8
      refine zW_iload_n dX0_mergeVertices_9 rfl ?_
      refine zW_bipush dX0_mergeVertices_10 (by decide) ?_
      refine zW_icmp_ge (tgt := 85) dX0_mergeVertices_12 (by decide) (by first | assumption | omega | (unfold InR; omega) | (unfold InL; omega) | (simp only [InR] at *; omega)) (by first | assumption | omega | (unfold InR; omega) | (unfold InL; omega) | (simp only [InR] at *; omega)) (fun q => ?_) (fun q => ?_)
      · exact absurd q (by omega)
      · refine zW_aload_n dX0_mergeVertices_15 rfl ?_
        refine zgP dX0_mergeVertices_16 fX0_9 h0 rfl h1' ?_
        refine zW_iload_n dX0_mergeVertices_19 rfl ?_
        refine zW_bipush dX0_mergeVertices_20 (by decide) ?_
        refine zW_imul dX0_mergeVertices_22 ?_
        refine zW_iload_n dX0_mergeVertices_23 rfl ?_
        refine zW_iadd dX0_mergeVertices_24 ?_
        refine zrI dX0_mergeVertices_25 k1 (by first | assumption | omega | (unfold InR; omega) | (unfold InL; omega) | (simp only [InR] at *; omega)) (by first | assumption | omega | (unfold InR; omega) | (unfold InL; omega) | (simp only [InR] at *; omega)) (by first | assumption | omega | (unfold InR; omega) | (unfold InL; omega) | (simp only [InR] at *; omega)) (zix (f := zI σ1 (o + 1)) (j := 8 * b + c) (by omega) g) ?_
        refine zW_istore dX0_mergeVertices_26 (by decide) rfl rfl ?_
        refine zW_iload dX0_mergeVertices_28 rfl ?_
        refine zW_iconst dX0_mergeVertices_30 ?_
        refine zW_icmp_eq (tgt := 79) dX0_mergeVertices_31 (by decide) (by first | assumption | omega | (unfold InR; omega) | (unfold InL; omega) | (simp only [InR] at *; omega)) (by first | assumption | omega | (unfold InR; omega) | (unfold InL; omega) | (simp only [InR] at *; omega)) (fun q2 => ?_) (fun q2 => ?_)
        · refine zW_iinc dX0_mergeVertices_79 rfl (by decide) rfl rfl ?_
          refine zW_goto (tgt := 9) dX0_mergeVertices_82 (by decide) ?_
          refine ih (c + 1) σ1 T1 mg1 N (by omega) h1 (by omega) hNi hT1 hv (fun d hd => ?_) hR1 hid1 hS m1 _
          by_cases q3 : d = c
          · rw [q3]; exact q2
          · exact hbd d (by omega)
        · obtain ⟨to, et⟩ : ∃ to : Nat, T1 b c = (to : Int) := ⟨(T1 b c).toNat, by omega⟩
          rw [et] at b1 ⊢
          have hto : to < used := by omega
          have i1 : ((b : Int) * 8 + c).toNat = 8 * b + c := by omega
          have i2 : ((to : Int) * 8 + ((c ^^^ 1 : Nat) : Int)).toNat = 8 * to + (c ^^^ 1) := by omega
          have hc1 := tcl_ct hT1 hc8 et
          have hcl : FH (sI (sI σ1 (o + 1) ((b : Int) * 8 + c).toNat (-1)) (o + 1) ((to : Int) * 8 + ((c ^^^ 1 : Nat) : Int)).toNat (-1)) o (tcl T1 b c to) mg1 used (E ++ N) := by
            rw [i1, i2]
            exact (h1.setT hc8).setT hx
          have m2 : Md σ1 (sI (sI σ1 (o + 1) ((b : Int) * 8 + c).toNat (-1)) (o + 1) ((to : Int) * 8 + ((c ^^^ 1 : Nat) : Int)).toNat (-1)) (op7 o) := (Md.I (P := op7 o) (by unfold op7; omega)).tr (Md.I (P := op7 o) (by unfold op7; omega)) (fun _ z => z)
          have key : zW Γ mX0_mergeVertices 76 [some (vR (some o)), some (vI a), some (vI b), some (vI c), some (vI to)] [vI (if to = b then a else to : Nat), vI c, vI a, vR (some o)] (sI (sI σ1 (o + 1) ((b : Int) * 8 + c).toNat (-1)) (o + 1) ((to : Int) * 8 + ((c ^^^ 1 : Nat) : Int)).toNat (-1)) 0 0 Q := by
            have htl : (if to = b then a else to) < used := by split <;> omega
            have hne : (if to = b then a else to) ≠ b := by split <;> omega
            have hst := mg_step (E := E ++ N) hT1 hc8 (by omega : a < used) (by omega) hb et
            have hlen := cnP_len (tcl T1 b c to) a c (if to = b then a else to)
            have hToff : ∀ v d, v ≠ a → v ≠ (if to = b then a else to) → cnT (tcl T1 b c to) a c (if to = b then a else to) v d = tcl T1 b c to v d := fun v d e1 e2 => cnT_off (fun z => e1 z.1) (fun z => e2 z.1)
            have hcl1 : ∀ v d, T1 v d = -1 → tcl T1 b c to v d = -1 := fun v d e => by
              unfold tcl tset
              split
              · rfl
              · split
                · rfl
                · exact e
            refine zcV3 dX0_mergeVertices_76 rfl eX0_connect b435 ⟨by decide, by decide, by decide, by decide⟩ rfl h0 rfl (by decide) (Nat.le_of_ble_eq_true rfl) (v_connect hcl hc1 hu (by omega) htl hc8 (by simp; omega) (fun σ2 h2 m3 => ?_))
            refine zW_iinc dX0_mergeVertices_79 rfl (by decide) rfl rfl ?_
            refine zW_goto (tgt := 9) dX0_mergeVertices_82 (by decide) ?_
            rw [List.append_assoc] at h2
            refine ih (c + 1) σ2 _ mg1 _ (by omega) h2 (by simp; omega) (fun p hp => (List.mem_append.mp hp).elim (hNi p) (cnP_in hc1 hc8 (by omega) htl p)) (cnT_ct hc1 hc8 (by omega) htl) (fun v d hd e1 e2 => ?_) (fun d hd => ?_) hR1 hid1 (fun X => ?_) (m1.tr (m2.tr m3 (fun _ z => z)) (fun _ z => z)) _
            · have e3 : v ≠ a := fun z => e2 (by rw [z]; exact ha)
              have e4 : v ≠ (if to = b then a else to) := by
                split
                · exact e3
                · rename_i q4
                  intro z
                  have e5 := hv to (c ^^^ 1) hx q4 (by rw [z] at e2; exact e2)
                  have := hT1.2.2 b c to hc8 et
                  omega
              rw [hToff v d e3 e4]
              exact hcl1 v d (hv v d hd e1 e2)
            · rw [hToff b d (by omega) hne.symm]
              by_cases q3 : d = c
              · rw [q3]
                unfold tcl
                unfold tset
                split
                · rfl
                · rw [if_pos ⟨rfl, rfl⟩]
              · exact hcl1 b d (hbd d (by omega))
            · have hst2 := mg_step (E := X ++ N) hT1 hc8 (by omega : a < used) (by omega) hb et
              rw [← List.append_assoc]
              exact ⟨(hS X).1.tr hst2.1, fun H φ hH hr => hst2.2 H φ hH ((hS X).2 H φ hH hr)⟩
          refine zW_aload_n dX0_mergeVertices_34 rfl ?_
          refine zgP dX0_mergeVertices_35 fX0_9 h0 rfl h1' ?_
          refine zW_iload_n dX0_mergeVertices_38 rfl ?_
          refine zW_bipush dX0_mergeVertices_39 (by decide) ?_
          refine zW_imul dX0_mergeVertices_41 ?_
          refine zW_iload_n dX0_mergeVertices_42 rfl ?_
          refine zW_iadd dX0_mergeVertices_43 ?_
          refine zW_iconst dX0_mergeVertices_44 ?_
          refine zW_iast dX0_mergeVertices_45 k1 (by first | assumption | omega | (unfold InR; omega) | (unfold InL; omega) | (simp only [InR] at *; omega)) (by first | assumption | omega | (unfold InR; omega) | (unfold InL; omega) | (simp only [InR] at *; omega)) (by first | assumption | omega | (unfold InR; omega) | (unfold InL; omega) | (simp only [InR] at *; omega)) ?_
          refine zW_aload_n dX0_mergeVertices_46 rfl ?_
          refine zgP dX0_mergeVertices_47 fX0_9 h0 rfl h1' ?_
          refine zW_iload dX0_mergeVertices_50 rfl ?_
          refine zW_bipush dX0_mergeVertices_52 (by decide) ?_
          refine zW_imul dX0_mergeVertices_54 ?_
          refine zW_iload_n dX0_mergeVertices_55 rfl ?_
          refine zW_iconst dX0_mergeVertices_56 ?_
          refine zW_ixor1 dX0_mergeVertices_57 hc8 ?_
          refine zW_iadd dX0_mergeVertices_58 ?_
          refine zW_iconst dX0_mergeVertices_59 ?_
          refine zW_iast dX0_mergeVertices_60 k1 (by first | assumption | omega | (unfold InR; omega) | (unfold InL; omega) | (simp only [InR] at *; omega)) (by first | assumption | omega | (unfold InR; omega) | (unfold InL; omega) | (simp only [InR] at *; omega)) (by first | assumption | omega | (unfold InR; omega) | (unfold InL; omega) | (simp only [InR] at *; omega)) ?_
          refine zW_aload_n dX0_mergeVertices_61 rfl ?_
          refine zW_iload_n dX0_mergeVertices_62 rfl ?_
          refine zW_iload_n dX0_mergeVertices_63 rfl ?_
          refine zW_iload dX0_mergeVertices_64 rfl ?_
          refine zW_iload_n dX0_mergeVertices_66 rfl ?_
          refine zW_icmp_ne (tgt := 74) dX0_mergeVertices_67 (by decide) (by first | assumption | omega | (unfold InR; omega) | (unfold InL; omega) | (simp only [InR] at *; omega)) (by first | assumption | omega | (unfold InR; omega) | (unfold InL; omega) | (simp only [InR] at *; omega)) (fun q3 => ?_) (fun q3 => ?_)
          · refine zW_iload dX0_mergeVertices_74 rfl ?_
            rw [if_neg (by omega)] at key
            exact key
          · refine zW_iload_n dX0_mergeVertices_70 rfl ?_
            refine zW_goto (tgt := 76) dX0_mergeVertices_71 (by decide) ?_
            rw [if_pos (by omega)] at key
            exact key
  refine zW_aload_n dX0_mergeVertices_0 rfl ?_
  refine zgP dX0_mergeVertices_1 fX0_15 h0 rfl h2 ?_
  refine zW_iload_n dX0_mergeVertices_4 rfl ?_
  refine zW_iload_n dX0_mergeVertices_5 rfl ?_
  refine zW_iast dX0_mergeVertices_6 k2 (by first | assumption | omega | (unfold InR; omega) | (unfold InL; omega) | (simp only [InR] at *; omega)) (by first | assumption | omega | (unfold InR; omega) | (unfold InL; omega) | (simp only [InR] at *; omega)) (by first | assumption | omega | (unfold InR; omega) | (unfold InL; omega) | (simp only [InR] at *; omega)) ?_
  refine zW_iconst dX0_mergeVertices_7 ?_
  refine zW_istore_n dX0_mergeVertices_8 (by decide) rfl rfl ?_
  refine loop 8 0 _ T _ [] rfl (by rw [List.append_nil]; exact h.setM) (Nat.le_refl _) (fun p hp => by cases hp) hT (fun v d hd _ e => hL v d hd e) (fun d hd => absurd hd (by omega)) (hR.put ha hb hab) (fun x hx => ?_) (fun X => ?_) (Md.I (by unfold op7; omega)) _
  · show (if x = b then _ else _) = x
    rw [if_neg (by omega)]
    exact hid x hx
  · rw [List.append_nil]
    exact ⟨Sim.rf, fun H φ _ hr => hr⟩
set_option maxRecDepth 100000 in
theorem v_mergeCoincidences {ws : List (List Nat)} (h : FH σ o T mg used E) (hF : FInv ws (CE T) ρ E) (hT : CT T used) (hL : Live T ρ) (hR : RtOf mg ρ) (hid : ∀ x, used ≤ x → mg x = x) (hu : used ≤ 355) (hu1 : 1 ≤ used) (hE : ∀ p ∈ E, p.1 < used ∧ p.2 < used) (hn : E.length ≤ 1)
    (hQ : ∀ σ' T' mg' ρ', FH σ' o T' mg' used [] → FInv ws (CE T') ρ' [] → CT T' used → Live T' ρ' → RtOf mg' ρ' → (∀ x, used ≤ x → mg' x = x) → Md σ σ' (op7 o) → Q (.inl none) σ') : zM Γ mX0_mergeCoincidences [vR (some o)] σ Q := by
  refine zM_of (n := 3) (by decide +kernel) rfl rfl rfl ?_
  have loop : ∀ n i σ1 T1 mg1 ρ1 E1, (E1.length - i) + 9 * cntr ρ1 used ≤ n → i ≤ E1.length → E1.length + 8 * cntr ρ1 used ≤ 1 + 8 * used → FH σ1 o T1 mg1 used E1 → FInv ws (CE T1) ρ1 (E1.drop i) → CT T1 used → Live T1 ρ1 → RtOf mg1 ρ1 → (∀ x, used ≤ x → mg1 x = x) → (∀ p ∈ E1, p.1 < used ∧ p.2 < used) → Md σ σ1 (op7 o) → ∀ y z, zW Γ mX0_mergeCoincidences 2 [some (vR (some o)), some (vI i), y, z] [] σ1 0 0 Q := by
    intro n
    induction n with
    | zero =>
      intro i σ1 T1 mg1 ρ1 E1 hn hi hb h1 hF1 hT1 hL1 hR1 hid1 hE1 m1 y z
      have := cntr_pos (ρ := ρ1) (by have := hR1.2.2.2.2 0; omega) used hu1
      omega
    | succ n ih =>
      intro i σ1 T1 mg1 ρ1 E1 hn hi hb h1 hF1 hT1 hL1 hR1 hid1 hE1 m1 y z
      obtain ⟨h0, -, -, h3, h4, -, -, -, -, k3, k4, -, -⟩ := id h1.1
      have hρ0 : ρ1 0 = 0 := by have := hR1.2.2.2.2 0; omega
      have hcp := cntr_pos hρ0 used hu1
      have hO := h1.2.2.1
      refine zW_iload_n dX0_mergeCoincidences_2 rfl ?_
      refine zW_aload_n dX0_mergeCoincidences_3 rfl ?_
      refine zgI dX0_mergeCoincidences_4 fX0_80 h0 rfl hO ?_
      have out : E1.length ≤ i → zW Γ mX0_mergeCoincidences 64 [some (vR (some o)), some (vI i), y, z] [] σ1 0 0 Q := by
        intro hl
        have m2 : Md σ1 (sO σ1 o 5 0) (op7 o) := Md.O (by unfold op7; omega)
        rw [List.drop_eq_nil_of_le hl] at hF1
        refine zW_aload_n dX0_mergeCoincidences_64 rfl ?_
        refine zW_iconst dX0_mergeCoincidences_65 ?_
        refine zpI dX0_mergeCoincidences_66 fX0_80 (by assumption) rfl (Or.inl rfl) (zst_int _) ?_
        refine zW_return dX0_mergeCoincidences_69 rfl (by first | decide | (show _ ≤ (0 : Nat); omega)) (by first | decide | (show _ ≤ (0 : Nat); omega)) ?_
        refine hQ _ T1 mg1 ρ1 ⟨h1.1, ?_, zO_sOs _ _ _ _, Nat.zero_le _, h1.2.2.2.2.1, h1.2.2.2.2.2.1, fun i p hp => by simp at hp⟩ hF1 hT1 hL1 hR1 hid1 (m1.tr m2 (fun _ z => z))
        rw [zO_sOk _ _ _ _ (by omega)]; exact h1.2.1
      refine zW_icmp_ge (tgt := 64) dX0_mergeCoincidences_7 (by decide) (by first | assumption | omega | (unfold InR; omega) | (unfold InL; omega) | (simp only [InR] at *; omega)) (by first | assumption | omega | (unfold InR; omega) | (unfold InL; omega) | (simp only [InR] at *; omega)) (fun q => ?_) (fun q => ?_)
      · exact out (by omega)
      · refine zW_iload_n dX0_mergeCoincidences_10 rfl ?_
        refine zW_sipush dX0_mergeCoincidences_11 (by decide) ?_
        refine zW_icmp_ge (tgt := 64) dX0_mergeCoincidences_14 (by decide) (by first | assumption | omega | (unfold InR; omega) | (unfold InL; omega) | (simp only [InR] at *; omega)) (by first | assumption | omega | (unfold InR; omega) | (unfold InL; omega) | (simp only [InR] at *; omega)) (fun q2 => ?_) (fun q2 => ?_)
        · exact absurd q2 (by omega)
        · have hi' : i < E1.length := by omega
          obtain ⟨l, r, hlr⟩ : ∃ l r, E1[i]? = some (l, r) := ⟨E1[i].1, E1[i].2, List.getElem?_eq_getElem hi'⟩
          have hdr : E1.drop i = (l, r) :: E1.drop (i + 1) := by
            rw [List.drop_eq_getElem_cons hi']
            congr 1
            exact Option.some.inj ((List.getElem?_eq_getElem hi').symm.trans hlr)
          obtain ⟨el, er⟩ := h1.2.2.2.2.2.2 i _ hlr
          obtain ⟨bl, br⟩ := hE1 _ (List.mem_of_getElem? hlr)
          change l < used at bl
          change r < used at br
          change zI σ1 (o + 3) i = (l : Int) at el
          change zI σ1 (o + 4) i = (r : Int) at er
          have rl := hR1.2.2.2.2 l
          have rr := hR1.2.2.2.2 r
          have idm := hR1.idem
          refine zW_aload_n dX0_mergeCoincidences_17 rfl ?_
          refine zW_aload_n dX0_mergeCoincidences_18 rfl ?_
          refine zgP dX0_mergeCoincidences_19 fX0_18 h0 rfl h3 ?_
          refine zW_iload_n dX0_mergeCoincidences_22 rfl ?_
          refine zrI dX0_mergeCoincidences_23 k3 (by first | assumption | omega | (unfold InR; omega) | (unfold InL; omega) | (simp only [InR] at *; omega)) (by first | assumption | omega | (unfold InR; omega) | (unfold InL; omega) | (simp only [InR] at *; omega)) (by first | assumption | omega | (unfold InR; omega) | (unfold InL; omega) | (simp only [InR] at *; omega)) el ?_
          refine zcV1 dX0_mergeCoincidences_24 rfl eX0_survivorOf b447 ⟨by decide, by decide, by decide, by decide⟩ rfl h0 rfl (by decide) (Nat.le_of_ble_eq_true rfl) (v_survivorOf h1 hR1 hid1 hu bl (fun σ2 mg2 h2 hR2 hid2 m2 => ?_))
          obtain ⟨h0, -, -, h3, h4, -, -, -, -, k3, k4, -, -⟩ := id h2.1
          have er2 : zI σ2 (o + 4) i = (r : Int) := (h2.2.2.2.2.2.2 i _ hlr).2
          refine zW_istore_n dX0_mergeCoincidences_27 (by decide) rfl rfl ?_
          refine zW_aload_n dX0_mergeCoincidences_28 rfl ?_
          refine zW_aload_n dX0_mergeCoincidences_29 rfl ?_
          refine zgP dX0_mergeCoincidences_30 fX0_21 h0 rfl h4 ?_
          refine zW_iload_n dX0_mergeCoincidences_33 rfl ?_
          refine zrI dX0_mergeCoincidences_34 k4 (by first | assumption | omega | (unfold InR; omega) | (unfold InL; omega) | (simp only [InR] at *; omega)) (by first | assumption | omega | (unfold InR; omega) | (unfold InL; omega) | (simp only [InR] at *; omega)) (by first | assumption | omega | (unfold InR; omega) | (unfold InL; omega) | (simp only [InR] at *; omega)) er2 ?_
          refine zcV1 dX0_mergeCoincidences_35 rfl eX0_survivorOf b447 ⟨by decide, by decide, by decide, by decide⟩ rfl h0 rfl (by decide) (Nat.le_of_ble_eq_true rfl) (v_survivorOf h2 hR2 hid2 hu br (fun σ3 mg3 h3' hR3 hid3 m3 => ?_))
          have m13 := (m1.tr m2 (fun _ z => z)).tr m3 (fun _ z => z)
          obtain ⟨h0, -, -, -, -, -, -, -, -, -, -, -, -⟩ := id h3'.1
          refine zW_istore_n dX0_mergeCoincidences_38 (by decide) rfl rfl ?_
          refine zW_iload_n dX0_mergeCoincidences_39 rfl ?_
          refine zW_iload_n dX0_mergeCoincidences_40 rfl ?_
          refine zW_icmp_eq (tgt := 58) dX0_mergeCoincidences_41 (by decide) (by first | assumption | omega | (unfold InR; omega) | (unfold InL; omega) | (simp only [InR] at *; omega)) (by first | assumption | omega | (unfold InR; omega) | (unfold InL; omega) | (simp only [InR] at *; omega)) (fun q3 => ?_) (fun q3 => ?_)
          · have eq3 : ρ1 l = ρ1 r := by omega
            refine zW_iinc dX0_mergeCoincidences_58 rfl (by decide) rfl rfl ?_
            refine zW_goto (tgt := 2) dX0_mergeCoincidences_61 (by decide) ?_
            refine ih (i + 1) σ3 T1 mg3 ρ1 E1 (by omega) (by omega) hb h3' ?_ hT1 hL1 hR3 hid3 hE1 m13 _ _
            refine hF1.sim ⟨fun u v q => q.mono (fun p hp => ?_), fun u c v q => ⟨u, v, q, Rl.rf, Rl.rf⟩⟩ (hT1.sym _ _) (fun H φ hH hr => ⟨hr.1, fun p hp => hr.2.1 p (by rw [hdr]; exact List.mem_cons_of_mem _ hp), hr.2.2⟩)
            rw [hdr] at hp
            rcases List.mem_cons.mp hp with e | e
            · rw [e]
              have t1 : Rl ρ1 (E1.drop (i + 1)) (ρ1 l) l := Rl.root
              have t2 : Rl ρ1 (E1.drop (i + 1)) (ρ1 r) r := Rl.root
              rw [← eq3] at t2
              exact t1.sy.tr t2
            · exact Rl.pair e
          · have step : ∀ a b : Nat, ((a = ρ1 l ∧ b = ρ1 r) ∨ (a = ρ1 r ∧ b = ρ1 l)) → a < b → zM Γ mX0_mergeVertices [vR (some o), vI a, vI b] σ3 (zk Γ mX0_mergeCoincidences 55 [some (vR (some o)), some (vI i), some (vI (ρ1 l)), some (vI (ρ1 r))] [] (0 + mC mX0_mergeVertices) (0 + mS mX0_mergeVertices) Q) := by
              intro a b hab9 hab
              have ha : ρ1 a = a := by rcases hab9 with ⟨e, -⟩ | ⟨e, -⟩ <;> rw [e, idm]
              have hb' : ρ1 b = b := by rcases hab9 with ⟨-, e⟩ | ⟨-, e⟩ <;> rw [e, idm]
              have hbu : b < used := by rcases hab9 with ⟨-, e⟩ | ⟨-, e⟩ <;> omega
              have hpair : ∀ X, Rl (rput ρ1 a b) X l r := fun X => by
                have s1 : ∀ x, (ρ1 x = a ∨ ρ1 x = b) → Rl (rput ρ1 a b) X a x := fun x hx => by
                  have t := Rl.root (ρ := rput ρ1 a b) (E := X) (u := x)
                  unfold rput at t
                  by_cases z : ρ1 x = b
                  · rw [if_pos z] at t; exact t
                  · rw [if_neg z] at t
                    rcases hx with e | e
                    · rw [e] at t; exact t
                    · exact absurd e z
                have s2 := s1 l (by omega)
                have s3 := s1 r (by omega)
                exact s2.sy.tr s3
              have hF2 : FInv ws (CE T1) (rput ρ1 a b) (E1.drop (i + 1)) := by
                refine hF1.sim ⟨fun u v q => q.put idm ha hb' (by omega) (fun p hp => ?_), fun u c v q => ⟨u, v, q, Rl.rf, Rl.rf⟩⟩ (hT1.sym _ _) (fun H φ hH hr => ⟨fun x => ?_, fun p hp => hr.2.1 p (by rw [hdr]; exact List.mem_cons_of_mem _ hp), hr.2.2⟩)
                · rw [hdr] at hp
                  rcases List.mem_cons.mp hp with e | e
                  · rw [e]; exact hpair _
                  · exact Rl.pair e
                · have e1 := hr.2.1 (l, r) (by rw [hdr]; exact List.mem_cons_self)
                  change φ l = φ r at e1
                  have e2 := hr.1 l
                  have e3 := hr.1 r
                  have e4 := hr.1 x
                  unfold rput
                  by_cases z : ρ1 x = b
                  · rw [if_pos z, ← e4, z]
                    rcases hab9 with ⟨u1, u2⟩ | ⟨u1, u2⟩
                    · rw [u1, u2, e2, e3, e1]
                    · rw [u1, u2, e2, e3, e1]
                  · rw [if_neg z]; exact e4
              have hcnt := cntr_put ha hb' (show a ≠ b by omega) used
              rw [if_pos hbu] at hcnt
              refine v_mergeVertices h3' hT1 hL1 hR3 hid3 hu ha hb' hab hbu (by omega) (fun σ4 T4 mg4 N h4 hN hNi hT4 hL4 hR4 hid4 hS m4 => ?_)
              refine zW_iinc dX0_mergeCoincidences_58 rfl (by decide) rfl rfl ?_
              refine zW_goto (tgt := 2) dX0_mergeCoincidences_61 (by decide) ?_
              refine ih (i + 1) σ4 T4 mg4 (rput ρ1 a b) (E1 ++ N) ?_ (by simp; omega) ?_ h4 ?_ hT4 hL4 hR4 hid4 (fun p hp => (List.mem_append.mp hp).elim (hE1 p) (hNi p)) (m13.tr m4 (fun _ z => z)) _ _
              · rw [List.length_append]; omega
              · rw [List.length_append]; omega
              · rw [List.drop_append_of_le_length (by omega)]
                exact hF2.sim (hS _).1 (hT4.sym _ _) (hS _).2
            rcases Nat.lt_or_ge (ρ1 l) (ρ1 r) with c9 | c9
            · have e1 : min (ρ1 l : Int) (ρ1 r : Int) = (ρ1 l : Int) := by omega
              have e2 : max (ρ1 l : Int) (ρ1 r : Int) = (ρ1 r : Int) := by omega
              refine zW_aload_n dX0_mergeCoincidences_44 rfl ?_
              refine zW_iload_n dX0_mergeCoincidences_45 rfl ?_
              refine zW_iload_n dX0_mergeCoincidences_46 rfl ?_
              refine zW_mmin dX0_mergeCoincidences_47 (by first | assumption | omega | (unfold InR; omega) | (unfold InL; omega) | (simp only [InR] at *; omega)) (by first | assumption | omega | (unfold InR; omega) | (unfold InL; omega) | (simp only [InR] at *; omega)) b451 b452 b4 b453 (Nat.le_of_ble_eq_true rfl) (Nat.le_of_ble_eq_true rfl) (Nat.le_of_ble_eq_true rfl) (Nat.le_of_ble_eq_true rfl) ?_
              refine zW_iload_n dX0_mergeCoincidences_50 rfl ?_
              refine zW_iload_n dX0_mergeCoincidences_51 rfl ?_
              refine zW_mmax dX0_mergeCoincidences_52 (by first | assumption | omega | (unfold InR; omega) | (unfold InL; omega) | (simp only [InR] at *; omega)) (by first | assumption | omega | (unfold InR; omega) | (unfold InL; omega) | (simp only [InR] at *; omega)) b454 b48 b4 b49 (Nat.le_of_ble_eq_true rfl) (Nat.le_of_ble_eq_true rfl) (Nat.le_of_ble_eq_true rfl) (Nat.le_of_ble_eq_true rfl) ?_
              rw [e1, e2]
              refine zcV2 dX0_mergeCoincidences_55 rfl eX0_mergeVertices b455 ⟨by decide, by decide, by decide, by decide⟩ rfl h0 rfl (by decide) (Nat.le_of_ble_eq_true rfl) (step _ _ (Or.inl ⟨rfl, rfl⟩) c9)
            · have e1 : min (ρ1 l : Int) (ρ1 r : Int) = (ρ1 r : Int) := by omega
              have e2 : max (ρ1 l : Int) (ρ1 r : Int) = (ρ1 l : Int) := by omega
              refine zW_aload_n dX0_mergeCoincidences_44 rfl ?_
              refine zW_iload_n dX0_mergeCoincidences_45 rfl ?_
              refine zW_iload_n dX0_mergeCoincidences_46 rfl ?_
              refine zW_mmin dX0_mergeCoincidences_47 (by first | assumption | omega | (unfold InR; omega) | (unfold InL; omega) | (simp only [InR] at *; omega)) (by first | assumption | omega | (unfold InR; omega) | (unfold InL; omega) | (simp only [InR] at *; omega)) b451 b452 b4 b453 (Nat.le_of_ble_eq_true rfl) (Nat.le_of_ble_eq_true rfl) (Nat.le_of_ble_eq_true rfl) (Nat.le_of_ble_eq_true rfl) ?_
              refine zW_iload_n dX0_mergeCoincidences_50 rfl ?_
              refine zW_iload_n dX0_mergeCoincidences_51 rfl ?_
              refine zW_mmax dX0_mergeCoincidences_52 (by first | assumption | omega | (unfold InR; omega) | (unfold InL; omega) | (simp only [InR] at *; omega)) (by first | assumption | omega | (unfold InR; omega) | (unfold InL; omega) | (simp only [InR] at *; omega)) b454 b48 b4 b49 (Nat.le_of_ble_eq_true rfl) (Nat.le_of_ble_eq_true rfl) (Nat.le_of_ble_eq_true rfl) (Nat.le_of_ble_eq_true rfl) ?_
              rw [e1, e2]
              refine zcV2 dX0_mergeCoincidences_55 rfl eX0_mergeVertices b455 ⟨by decide, by decide, by decide, by decide⟩ rfl h0 rfl (by decide) (Nat.le_of_ble_eq_true rfl) (step _ _ (Or.inr ⟨rfl, rfl⟩) (by omega))
  refine zW_iconst dX0_mergeCoincidences_0 ?_
  refine zW_istore_n dX0_mergeCoincidences_1 (by decide) rfl rfl ?_
  have := cntr_le ρ used
  exact loop _ 0 σ T mg ρ E (Nat.le_refl _) (Nat.zero_le _) (by omega) h (by rw [List.drop_zero]; exact hF) hT hL hR hid hE Md.rf _ _
set_option maxRecDepth 100000 in
/-- a new vertex behind a -/
theorem FPar.fresh {ws : List (List Nat)} {w : List Nat} {i a n : Nat} (h : FPar ws w i a (CE T) ρ []) (hi : i < w.length) (hT : CT T n) (hc : w.getD i 0 < 8) (ha : a < n) (h0 : T a (w.getD i 0) = -1) (hρ : ∀ x, ρ x ≤ x) (hid : ∀ x, n ≤ x → ρ x = x) : FPar ws w (i + 1) n (CE (cnT T a (w.getD i 0) n)) ρ [] ∧ CT (cnT T a (w.getD i 0) n) (n + 1) ∧ cnP T a (w.getD i 0) n = [] := by
  have hx := x1_lt hc
  have hT1 : CT T (n + 1) := ⟨fun u c hc => ⟨(hT.1 u c hc).1, by have := (hT.1 u c hc).2; omega⟩, fun u c hc hu => hT.2.1 u c hc (by omega), hT.2.2⟩
  have hn := hT.2.1 n _ hx (Nat.le_refl n)
  have hP : cnP T a (w.getD i 0) n = [] := by unfold cnP; rw [if_neg (fun z => z h0), if_neg (fun z => z hn)]
  have hE := cn_edge (a := a) (b := n) hT1 hc ρ []
  have hS := cn_sim (a := a) (b := n) hT1 hc ρ []
  rw [hP] at hE hS
  refine ⟨?_, cnT_ct hT1 hc (by omega) (by omega), hP⟩
  have e : w.take (i + 1) = w.take i ++ [w.getD i 0] := by
    rw [List.take_add_one, List.getD_eq_getElem?_getD, List.getElem?_eq_getElem hi]
    rfl
  refine ⟨(cnT_ct hT1 hc (by omega) (by omega)).sym _ _, fun w' q => Pth.sim hS (h.2.1 w' q), ?_, fun H h9 hH hw => ?_⟩
  · rw [e]
    obtain ⟨u, v, e1, e2, e3, e4⟩ := hE
    exact Pth.app (Pth.sim hS h.2.2.1) ⟨u, v, e3, e1, e4.sy⟩
  · obtain ⟨φ, p1, p2, p3⟩ := h.2.2.2 H h9 hH hw
    obtain ⟨y, y1, -⟩ := run_next (hw w (List.mem_append_right _ List.mem_cons_self)) hi p3
    have hφ : ∀ x, x ≠ n → (if x = n then y else φ x) = φ x := fun x hx => if_neg hx
    have hr : Resp H (fun x => if x = n then y else φ x) (CE T) ρ [] := by
      refine ⟨fun x => ?_, fun p hp => (by cases hp), fun u c v q => ?_⟩
      · show (if ρ x = n then y else φ (ρ x)) = if x = n then y else φ x
        by_cases q : x = n
        · rw [q, hid n (Nat.le_refl _), if_pos rfl]
        · have : ρ x ≠ n := by
            rcases Nat.lt_or_ge x n with z | z
            · have := hρ x; omega
            · rw [hid x z]; exact q
          rw [if_neg this, if_neg q]; exact p2.1 x
      · have v1 := hT.1 u c q.1
        have v2 := q.2
        have hu : u ≠ n := fun z => by
          have := hT.2.1 u c q.1 (by omega)
          omega
        show H (if u = n then y else φ u) c = some (if v = n then y else φ v)
        rw [if_neg hu, if_neg (show v ≠ n by omega)]
        exact p2.2.2 u c v q
    refine ⟨fun x => if x = n then y else φ x, ?_, ?_, ?_⟩
    · show (if 0 = n then y else φ 0) = h9
      rw [if_neg (by omega)]; exact p1
    · have := cn_resp (a := a) (b := n) hT1 hc hH hr (by
        show H (if a = n then y else φ a) _ = some (if n = n then y else φ n)
        rw [if_neg (by omega), if_pos rfl]
        exact y1)
      rw [hP] at this
      exact this
    · rw [e, run_app, p3]
      show (match H (φ a) (w.getD i 0) with | none => none | some y => run H y []) = some (if n = n then y else φ n)
      rw [y1, if_pos rfl]
      rfl
set_option maxRecDepth 100000 in
theorem v_addClosedPath {ws : List (List Nat)} {w b cap : Nat} {l : List Nat} (h : FH σ o T mg used []) (hF : FInv ws (CE T) ρ []) (hT : CT T used) (hL : Live T ρ) (hR : RtOf mg ρ) (hid : ∀ x, used ≤ x → mg x = x) (hu1 : 1 ≤ used) (hw : Wd σ w b cap l) (hd : ∀ a, op7 o a → a ≠ w ∧ a ≠ b) (hu : used + (l.length - 1) ≤ 355)
    (hQ : ∀ σ' T' mg' used' E', FH σ' o T' mg' used' E' → FInv (ws ++ [l]) (CE T') ρ E' → CT T' used' → Live T' ρ → RtOf mg' ρ → (∀ x, used' ≤ x → mg' x = x) → used ≤ used' → used' ≤ used + (l.length - 1) → (∀ p ∈ E', p.1 < used' ∧ p.2 < used') → E'.length ≤ 1 → Md σ σ' (op7 o) → Q (.inl none) σ') : zM Γ mX0_addClosedPath [vR (some o), vR (some w)] σ Q := by
  have hc9 := hw.1.2.2.2
  have hc8 := hw.cap
  refine zM_of (n := 5) (by decide +kernel) rfl rfl rfl ?_
  have loop : ∀ n i at_ σ1 T1 used1, i + n = l.length - 1 → at_ < used1 → ρ at_ = at_ → used ≤ used1 → used1 ≤ used + i → FH σ1 o T1 mg used1 [] → FPar ws l i at_ (CE T1) ρ [] → CT T1 used1 → Live T1 ρ → Md σ σ1 (op7 o) → ∀ y z, zW Γ mX0_addClosedPath 12 [some (vR (some o)), some (vR (some w)), some (vI at_), some (vI ((l.length : Int) - 1)), some (vI i), y, z] [] σ1 0 0 Q := by
    intro n
    induction n with
    | zero =>
      intro i at_ σ1 T1 used1 hi hat hρa hu2 hu3 h1 hP hT1 hL1 m1 y z
      obtain ⟨h0, -, -, -, -, -, -, -, -, -, -, -, -⟩ := id h1.1
      have hw1 := hw.md m1 (fun q => (hd _ q).1 rfl) (fun q => (hd _ q).2 rfl)
      have hid1 : ∀ x, used1 ≤ x → mg x = x := fun x hx => hid x (by omega)
      refine zW_iload dX0_addClosedPath_12 rfl ?_
      refine zW_iload_n dX0_addClosedPath_14 rfl ?_
      refine zW_icmp_ge (tgt := 71) dX0_addClosedPath_15 (by decide) (by first | assumption | omega | (unfold InR; omega) | (unfold InL; omega) | (simp only [InR] at *; omega)) (by first | assumption | omega | (unfold InR; omega) | (unfold InL; omega) | (simp only [InR] at *; omega)) (fun q => ?_) (fun q => ?_)
      · refine zW_iload_n dX0_addClosedPath_71 rfl ?_
        refine zW_if_lt (tgt := 87) dX0_addClosedPath_72 (by decide) (by first | assumption | omega | (unfold InR; omega) | (unfold InL; omega) | (simp only [InR] at *; omega)) (fun q2 => ?_) (fun q2 => ?_)
        · refine zW_return dX0_addClosedPath_87 rfl (by first | decide | (show _ ≤ (0 : Nat); omega)) (by first | decide | (show _ ≤ (0 : Nat); omega)) ?_
          have e : l = [] := List.eq_nil_of_length_eq_zero (by omega)
          have i0 : i = 0 := by rw [e] at hi; simp at hi; omega
          have hF9 : FInv (ws ++ [l]) (CE T1) ρ [] := by
            refine hP.fin (by rw [e]; exact Nat.zero_le _) ?_
            rw [FPar, e, List.take_nil] at hP
            exact Rl.sy hP.2.2.1
          exact hQ _ T1 mg used1 [] h1 hF9 hT1 hL1 hR hid1 hu2 (by omega) (fun p hp => by cases hp) (Nat.zero_le _) m1
        · have hil : i < l.length := by omega
          have hx := getD_lt hw.lt hil
          have hlast : (l.length : Int) - 1 = (i : Int) := by omega
          rw [hlast]
          have hsim := cn_sim (a := at_) (b := 0) hT1 hx ρ []
          refine zW_aload_n dX0_addClosedPath_75 rfl ?_
          refine zW_iload_n dX0_addClosedPath_76 rfl ?_
          refine zW_aload_n dX0_addClosedPath_77 rfl ?_
          refine zgP dX0_addClosedPath_78 fX0_69 hw1.1.1 rfl hw1.1.2.1 ?_
          refine zW_iload_n dX0_addClosedPath_81 rfl ?_
          refine zrI dX0_addClosedPath_82 hw1.1.2.2.1 (by first | assumption | omega | (unfold InR; omega) | (unfold InL; omega) | (simp only [InR] at *; omega)) (by first | assumption | omega | (unfold InR; omega) | (unfold InL; omega) | (simp only [InR] at *; omega)) (by first | assumption | omega | (unfold InR; omega) | (unfold InL; omega) | (simp only [InR] at *; omega)) (hw1.2.2.2.1 i hil) ?_
          refine zW_iconst dX0_addClosedPath_83 ?_
          refine zcV3 dX0_addClosedPath_84 rfl eX0_connect b435 ⟨by decide, by decide, by decide, by decide⟩ rfl h0 rfl (by decide) (Nat.le_of_ble_eq_true rfl) (v_connect (b := 0) h1 hT1 (by omega) hat (by omega) hx (by decide) (fun σ2 h2 m2 => ?_))
          refine zW_return dX0_addClosedPath_87 rfl (by first | decide | (show _ ≤ (0 : Nat); omega)) (by first | decide | (show _ ≤ (0 : Nat); omega)) ?_
          rw [List.nil_append] at h2 hsim
          have hct := cnT_ct hT1 hx hat (show 0 < used1 by omega)
          have hP2 : FPar ws l i at_ (CE (cnT T1 at_ (l.getD i 0) 0)) ρ (cnP T1 at_ (l.getD i 0) 0) := by
            refine hP.sim hsim (hct.sym _ _) (fun H φ hH hr h9 e9 hw9 r9 => ?_)
            obtain ⟨y9, z1, z2⟩ := run_next (hw9 l (List.mem_append_right _ List.mem_cons_self)) hil r9
            have := cn_resp (a := at_) (b := 0) hT1 hx hH hr (by rw [z1, z2 (by omega), e9])
            rw [List.nil_append] at this
            exact this
          have hP3 : FPar ws l (i + 1) 0 (CE (cnT T1 at_ (l.getD i 0) 0)) ρ (cnP T1 at_ (l.getD i 0) 0) := by
            refine hP2.step hil ?_
            have := cn_edge (a := at_) (b := 0) hT1 hx ρ []
            rw [List.nil_append] at this
            obtain ⟨u, v, e1, e2, e3, e4⟩ := this
            exact ⟨u, v, e3, e1, e4.sy⟩
          refine hQ _ _ mg used1 _ h2 (hP3.fin (by omega) Rl.rf) hct (fun u d hd9 hρ9 => ?_) hR hid1 hu2 (by omega) (cnP_in hT1 hx hat (by omega)) (cnP_len _ _ _ _) (m1.tr m2 (fun _ z => z))
          have hρ0 : ρ 0 = 0 := by have := hR.2.2.2.2 0; omega
          rw [cnT_off (fun z => hρ9 (by rw [z.1]; exact hρa)) (fun z => hρ9 (by rw [z.1]; exact hρ0))]
          exact hL1 u d hd9 hρ9
      · exact absurd q (by omega)
    | succ n ih =>
      intro i at_ σ1 T1 used1 hi hat hρa hu2 hu3 h1 hP hT1 hL1 m1 y z
      obtain ⟨h0, h1', -, -, -, -, -, k1, -, -, -, -, -⟩ := id h1.1
      have hw1 := hw.md m1 (fun q => (hd _ q).1 rfl) (fun q => (hd _ q).2 rfl)
      have hid1 : ∀ x, used1 ≤ x → mg x = x := fun x hx => hid x (by omega)
      have hil : i < l.length := by omega
      have hx := getD_lt hw.lt hil
      have g := h1.2.2.2.2.1 at_ _ (by omega) hx
      have b1 := hT1.1 at_ _ hx
      refine zW_iload dX0_addClosedPath_12 rfl ?_
      refine zW_iload_n dX0_addClosedPath_14 rfl ?_
      refine zW_icmp_ge (tgt := 71) dX0_addClosedPath_15 (by decide) (by first | assumption | omega | (unfold InR; omega) | (unfold InL; omega) | (simp only [InR] at *; omega)) (by first | assumption | omega | (unfold InR; omega) | (unfold InL; omega) | (simp only [InR] at *; omega)) (fun q => ?_) (fun q => ?_)
      · exact absurd q (by omega)
      · refine zW_aload_n dX0_addClosedPath_18 rfl ?_
        refine zgP dX0_addClosedPath_19 fX0_69 hw1.1.1 rfl hw1.1.2.1 ?_
        refine zW_iload dX0_addClosedPath_22 rfl ?_
        refine zrI dX0_addClosedPath_24 hw1.1.2.2.1 (by first | assumption | omega | (unfold InR; omega) | (unfold InL; omega) | (simp only [InR] at *; omega)) (by first | assumption | omega | (unfold InR; omega) | (unfold InL; omega) | (simp only [InR] at *; omega)) (by first | assumption | omega | (unfold InR; omega) | (unfold InL; omega) | (simp only [InR] at *; omega)) (hw1.2.2.2.1 i hil) ?_
        refine zW_istore dX0_addClosedPath_25 (by decide) rfl rfl ?_
        refine zW_aload_n dX0_addClosedPath_27 rfl ?_
        refine zgP dX0_addClosedPath_28 fX0_9 h0 rfl h1' ?_
        refine zW_iload_n dX0_addClosedPath_31 rfl ?_
        refine zW_bipush dX0_addClosedPath_32 (by decide) ?_
        refine zW_imul dX0_addClosedPath_34 ?_
        refine zW_iload dX0_addClosedPath_35 rfl ?_
        refine zW_iadd dX0_addClosedPath_37 ?_
        refine zrI dX0_addClosedPath_38 k1 (by first | assumption | omega | (unfold InR; omega) | (unfold InL; omega) | (simp only [InR] at *; omega)) (by first | assumption | omega | (unfold InR; omega) | (unfold InL; omega) | (simp only [InR] at *; omega)) (by first | assumption | omega | (unfold InR; omega) | (unfold InL; omega) | (simp only [InR] at *; omega)) (zix (f := zI σ1 (o + 1)) (j := 8 * at_ + l.getD i 0) (by omega) g) ?_
        refine zW_istore dX0_addClosedPath_39 (by decide) rfl rfl ?_
        refine zW_iload dX0_addClosedPath_41 rfl ?_
        refine zW_iconst dX0_addClosedPath_43 ?_
        refine zW_icmp_ne (tgt := 62) dX0_addClosedPath_44 (by decide) (by first | assumption | omega | (unfold InR; omega) | (unfold InL; omega) | (simp only [InR] at *; omega)) (by first | assumption | omega | (unfold InR; omega) | (unfold InL; omega) | (simp only [InR] at *; omega)) (fun q2 => ?_) (fun q2 => ?_)
        · obtain ⟨to, et⟩ : ∃ to : Nat, T1 at_ (l.getD i 0) = (to : Int) := ⟨(T1 at_ (l.getD i 0)).toNat, by omega⟩
          rw [et]
          refine zW_iload dX0_addClosedPath_62 rfl ?_
          refine zW_istore_n dX0_addClosedPath_64 (by decide) rfl rfl ?_
          refine zW_iinc dX0_addClosedPath_65 rfl (by decide) rfl rfl ?_
          refine zW_goto (tgt := 12) dX0_addClosedPath_68 (by decide) ?_
          refine ih (i + 1) to σ1 T1 used1 (by omega) (by omega) ?_ hu2 (by omega) h1 (hP.step hil ⟨at_, to, Rl.rf, ⟨hx, et⟩, Rl.rf⟩) hT1 hL1 m1 _ _
          have k := hT1.2.2 _ _ _ hx et
          apply Classical.byContradiction
          intro z
          have := hL1 to _ (x1_lt hx) z
          omega
        · rw [q2]
          obtain ⟨f1, f2, f3⟩ := hP.fresh (n := used1) hil hT1 hx hat q2 hR.2.2.2.2 (fun x hx => hR.2.2.1 x (hid1 x hx))
          refine zW_aload_n dX0_addClosedPath_47 rfl ?_
          refine zcV0 dX0_addClosedPath_48 rfl eX0_makeVertex b423 ⟨by decide, by decide, by decide, by decide⟩ rfl h0 rfl (by decide) (Nat.le_of_ble_eq_true rfl) (v_makeVertex h1 (by omega) (hid1 used1 (Nat.le_refl _)) (fun σ2 h2 m2 => ?_))
          refine zW_istore dX0_addClosedPath_51 (by decide) rfl rfl ?_
          obtain ⟨h0, -, -, -, -, -, -, -, -, -, -, -, -⟩ := id h2.1
          have hT2 : CT T1 (used1 + 1) := ⟨fun u c hc => ⟨(hT1.1 u c hc).1, by have := (hT1.1 u c hc).2; omega⟩, fun u c hc hu => hT1.2.1 u c hc (by omega), hT1.2.2⟩
          refine zW_aload_n dX0_addClosedPath_53 rfl ?_
          refine zW_iload_n dX0_addClosedPath_54 rfl ?_
          refine zW_iload dX0_addClosedPath_55 rfl ?_
          refine zW_iload dX0_addClosedPath_57 rfl ?_
          refine zcV3 dX0_addClosedPath_59 rfl eX0_connect b435 ⟨by decide, by decide, by decide, by decide⟩ rfl h0 rfl (by decide) (Nat.le_of_ble_eq_true rfl) (v_connect h2 hT2 (by omega) (by omega) (by omega : used1 < used1 + 1) hx (by decide) (fun σ3 h3 m3 => ?_))
          refine zW_iload dX0_addClosedPath_62 rfl ?_
          refine zW_istore_n dX0_addClosedPath_64 (by decide) rfl rfl ?_
          refine zW_iinc dX0_addClosedPath_65 rfl (by decide) rfl rfl ?_
          refine zW_goto (tgt := 12) dX0_addClosedPath_68 (by decide) ?_
          rw [f3, List.append_nil] at h3
          have hρn : ρ used1 = used1 := hR.2.2.1 _ (hid1 _ (Nat.le_refl _))
          refine ih (i + 1) used1 σ3 _ (used1 + 1) (by omega) (by omega) hρn (by omega) (by omega) h3 f1 f2 (fun u d hd9 hρ9 => ?_) ((m1.tr m2 (fun _ z => z)).tr m3 (fun _ z => z)) _ _
          rw [cnT_off (fun z => hρ9 (by rw [z.1]; exact hρa)) (fun z => hρ9 (by rw [z.1]; exact hρn))]
          exact hL1 u d hd9 hρ9
  refine zW_iconst dX0_addClosedPath_0 ?_
  refine zW_istore_n dX0_addClosedPath_1 (by decide) rfl rfl ?_
  refine zW_aload_n dX0_addClosedPath_2 rfl ?_
  refine zgI dX0_addClosedPath_3 fX0_64 hw.1.1 rfl hw.2.1 ?_
  refine zW_iconst dX0_addClosedPath_6 ?_
  refine zW_isub dX0_addClosedPath_7 ?_
  refine zW_istore_n dX0_addClosedPath_8 (by decide) rfl rfl ?_
  refine zW_iconst dX0_addClosedPath_9 ?_
  refine zW_istore dX0_addClosedPath_10 (by decide) rfl rfl ?_
  exact loop (l.length - 1) 0 0 σ T used (by omega) (by omega) (by have := hR.2.2.2.2 0; omega) (Nat.le_refl _) (by omega) h (hF.par l) hT hL Md.rf _ _
end FOLDING
