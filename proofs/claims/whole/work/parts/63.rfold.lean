/-! the reference: folding -/
def RF (σ : HS) (y : Nat) (T : TB) (mg : Nat → Nat) (n : Nat) : Prop := zO σ y 20 = (n : Int) ∧ n ≤ 361 ∧ (∀ u c, u < n → c < 8 → zI σ (y + 7) (8 * u + c) = T u c) ∧ ∀ u, u < n → zI σ (y + 8) u = (mg u : Int)
def RWt (σ : HS) (y : Nat) (E : List (Nat × Nat)) : Prop := zO σ y 21 = (E.length : Int) ∧ E.length ≤ 4000 ∧ ∀ (i : Nat) (p : Nat × Nat), E[i]? = some p → zI σ (y + 9) (2 * i) = (p.1 : Int) ∧ zI σ (y + 9) (2 * i + 1) = (p.2 : Int)
def FB (σ : HS) (y : Nat) (T : TB) (mg ρ : Nat → Nat) (n : Nat) : Prop := RF σ y T mg n ∧ RtOf mg ρ ∧ (∀ x, n ≤ x → mg x = x) ∧ MTb T n
section RFOLD
variable {Γ : GG} {σ σ' : HS} {Q : Res → HS → Prop} {y n : Nat} {T : TB} {mg ρ : Nat → Nat} {E : List (Nat × Nat)} {Ks Rs : List Nat}
set_option maxRecDepth 100000 in
theorem RF.mr (h : RF σ y T mg n) (m : Mr σ σ' y Ks Rs) (hk : 20 ∉ Ks := by decide) (h7 : 7 ∉ Rs := by decide) (h8 : 8 ∉ Rs := by decide) : RF σ' y T mg n :=
  ⟨by rw [m.o hk]; exact h.1, h.2.1, fun u c hu hc => by rw [m.i h7]; exact h.2.2.1 u c hu hc, fun u hu => by rw [m.i h8]; exact h.2.2.2 u hu⟩
set_option maxRecDepth 100000 in
theorem RWt.mr (h : RWt σ y E) (m : Mr σ σ' y Ks Rs) (hk : 21 ∉ Ks := by decide) (h9 : 9 ∉ Rs := by decide) : RWt σ' y E :=
  ⟨by rw [m.o hk]; exact h.1, h.2.1, fun i p hp => by rw [m.i h9]; exact h.2.2 i p hp⟩
set_option maxRecDepth 100000 in
theorem r_rootOf {v : Nat} (h : RK σ y) (hf : RF σ y T mg n) (hR : RtOf mg ρ) (hv : v < n) (hQ : Q (.inl (some (vI (ρ v : Nat)))) σ) : zM Γ mX10_rootOf [vR (some y), vI v] σ Q := by
  obtain ⟨f1, f2, f3, f4⟩ := hf
  refine zM_of (n := 1) (by decide +kernel) rfl rfl rfl ?_
  have loop : ∀ u, u < n → ρ u = ρ v → zW Γ mX10_rootOf 2 [some (vR (some y)), some (vI v), some (vI u)] [] σ 0 0 Q := by
    intro u
    induction u using Nat.strongRecOn with
    | ind u ih =>
      intro hu he
      have hm := hR.1 u
      refine zW_aload_n dX10_rootOf_2 rfl ?_
      refine zgP dX10_rootOf_3 fX10_34 h.1 rfl h.p_merged ?_
      refine zW_iload_n dX10_rootOf_6 rfl ?_
      refine zrI dX10_rootOf_7 h.k_merged (by first | assumption | omega | (unfold InR; omega) | (unfold InL; omega) | (simp only [InR] at *; omega)) (by first | assumption | omega | (unfold InR; omega) | (unfold InL; omega) | (simp only [InR] at *; omega)) (by first | assumption | omega | (unfold InR; omega) | (unfold InL; omega) | (simp only [InR] at *; omega)) (f4 u hu) ?_
      refine zW_iload_n dX10_rootOf_8 rfl ?_
      refine zW_icmp_eq (tgt := 22) dX10_rootOf_9 (by decide) (by first | assumption | omega | (unfold InR; omega) | (unfold InL; omega) | (simp only [InR] at *; omega)) (by first | assumption | omega | (unfold InR; omega) | (unfold InL; omega) | (simp only [InR] at *; omega)) (fun q => ?_) (fun q => ?_)
      · have e := hR.2.2.1 u (by omega)
        refine zW_iload_n dX10_rootOf_22 rfl ?_
        refine zW_ireturn dX10_rootOf_23 rfl rfl (by first | decide | (show _ ≤ (0 : Nat); omega)) (by first | decide | (show _ ≤ (0 : Nat); omega)) ?_
        rw [← he, e] at hQ
        exact hQ
      · refine zW_aload_n dX10_rootOf_12 rfl ?_
        refine zgP dX10_rootOf_13 fX10_34 h.1 rfl h.p_merged ?_
        refine zW_iload_n dX10_rootOf_16 rfl ?_
        refine zrI dX10_rootOf_17 h.k_merged (by first | assumption | omega | (unfold InR; omega) | (unfold InL; omega) | (simp only [InR] at *; omega)) (by first | assumption | omega | (unfold InR; omega) | (unfold InL; omega) | (simp only [InR] at *; omega)) (by first | assumption | omega | (unfold InR; omega) | (unfold InL; omega) | (simp only [InR] at *; omega)) (f4 u hu) ?_
        refine zW_istore_n dX10_rootOf_18 (by decide) rfl rfl ?_
        refine zW_goto (tgt := 2) dX10_rootOf_19 (by decide) ?_
        exact ih (mg u) (by omega) (by omega) (by rw [hR.2.1]; exact he)
  refine zW_iload_n dX10_rootOf_0 rfl ?_
  refine zW_istore_n dX10_rootOf_1 (by decide) rfl rfl ?_
  exact loop v hv rfl
set_option maxRecDepth 100000 in
theorem r_newVertex (h : RK σ y) (hf : RF σ y T mg n) (hn : n < 361) (hT : ∀ c, c < 8 → T n c = -1) (hm : mg n = n) (hQ : ∀ σ', RF σ' y T mg (n + 1) → Mr σ σ' y [20] [7, 8] → Q (.inl (some (vI n))) σ') : zM Γ mX10_newVertex [vR (some y)] σ Q := by
  obtain ⟨f1, f2, f3, f4⟩ := id hf
  refine zM_of (n := 1) (by decide +kernel) rfl rfl rfl ?_
  have loop : ∀ k c σ1, c + k = 8 → Mr σ σ1 y [] [7] → (∀ u d, u < n → d < 8 → zI σ1 (y + 7) (8 * u + d) = T u d) → (∀ d, d < c → zI σ1 (y + 7) (8 * n + d) = -1) → zW Γ mX10_newVertex 2 [some (vR (some y)), some (vI c)] [] σ1 0 0 Q := by
    intro k
    induction k with
    | zero =>
      intro c σ1 hc m1 g1 g2
      have k1 := h.mr m1
      have e1 : zO σ1 y 20 = (n : Int) := by rw [m1.o (by decide)]; exact f1
      refine zW_iload_n dX10_newVertex_2 rfl ?_
      refine zW_bipush dX10_newVertex_3 (by decide) ?_
      refine zW_icmp_ge (tgt := 29) dX10_newVertex_5 (by decide) (by first | assumption | omega | (unfold InR; omega) | (unfold InL; omega) | (simp only [InR] at *; omega)) (by first | assumption | omega | (unfold InR; omega) | (unfold InL; omega) | (simp only [InR] at *; omega)) (fun q => ?_) (fun q => ?_)
      · refine zW_aload_n dX10_newVertex_29 rfl ?_
        refine zgP dX10_newVertex_30 fX10_34 k1.1 rfl k1.p_merged ?_
        refine zW_aload_n dX10_newVertex_33 rfl ?_
        refine zgI dX10_newVertex_34 fX10_140 k1.1 rfl e1 ?_
        refine zW_aload_n dX10_newVertex_37 rfl ?_
        refine zgI dX10_newVertex_38 fX10_140 k1.1 rfl e1 ?_
        refine zW_iast dX10_newVertex_41 k1.k_merged (by first | assumption | omega | (unfold InR; omega) | (unfold InL; omega) | (simp only [InR] at *; omega)) (by first | assumption | omega | (unfold InR; omega) | (unfold InL; omega) | (simp only [InR] at *; omega)) (by first | assumption | omega | (unfold InR; omega) | (unfold InL; omega) | (simp only [InR] at *; omega)) ?_
        refine zW_aload_n dX10_newVertex_42 rfl ?_
        refine zW_dup dX10_newVertex_43 rfl ?_
        refine zgI dX10_newVertex_44 fX10_140 k1.1 rfl e1 ?_
        refine zW_iconst dX10_newVertex_47 ?_
        refine zW_iadd dX10_newVertex_48 ?_
        refine zpI dX10_newVertex_49 fX10_140 k1.1 rfl (Or.inl rfl) (zst_int _) ?_
        refine zW_aload_n dX10_newVertex_52 rfl ?_
        refine zgI dX10_newVertex_53 fX10_140 k1.1 rfl (zO_sOs _ _ _ _) ?_
        refine zW_iconst dX10_newVertex_56 ?_
        refine zW_isub dX10_newVertex_57 ?_
        refine zW_ireturn dX10_newVertex_58 rfl rfl (by first | decide | (show _ ≤ (0 : Nat); omega)) (by first | decide | (show _ ≤ (0 : Nat); omega)) ?_
        have e2 : (n : Int) + 1 - 1 = (n : Int) := by omega
        rw [e2]
        refine hQ _ ⟨zO_sOs _ _ _ _, by omega, fun u d hu hd => ?_, fun u hu => ?_⟩ (((m1.wk (Ks' := [20]) (Rs' := [7, 8]) (by decide) (by decide)).tr (Mr.I (by decide))).tr (Mr.O (by decide)))
        · rw [zI_sO, zI_sIa _ _ _ _ (by omega)]
          by_cases e : u = n
          · rw [e, g2 d (by omega), hT d hd]
          · exact g1 u d (by omega) hd
        · rw [zI_sO, zI_sI]
          by_cases e : u = n
          · rw [if_pos ⟨rfl, by omega⟩, e, hm]
          · rw [if_neg (fun z => e (by omega)), m1.i (by decide)]
            exact f4 u (by omega)
      · exact absurd q (by omega)
    | succ k ih =>
      intro c σ1 hc m1 g1 g2
      have k1 := h.mr m1
      have e1 : zO σ1 y 20 = (n : Int) := by rw [m1.o (by decide)]; exact f1
      refine zW_iload_n dX10_newVertex_2 rfl ?_
      refine zW_bipush dX10_newVertex_3 (by decide) ?_
      refine zW_icmp_ge (tgt := 29) dX10_newVertex_5 (by decide) (by first | assumption | omega | (unfold InR; omega) | (unfold InL; omega) | (simp only [InR] at *; omega)) (by first | assumption | omega | (unfold InR; omega) | (unfold InL; omega) | (simp only [InR] at *; omega)) (fun q => ?_) (fun q => ?_)
      · exact absurd q (by omega)
      · refine zW_aload_n dX10_newVertex_8 rfl ?_
        refine zgP dX10_newVertex_9 fX10_31 k1.1 rfl k1.p_edges ?_
        refine zW_bipush dX10_newVertex_12 (by decide) ?_
        refine zW_aload_n dX10_newVertex_14 rfl ?_
        refine zgI dX10_newVertex_15 fX10_140 k1.1 rfl e1 ?_
        refine zW_imul dX10_newVertex_18 ?_
        refine zW_iload_n dX10_newVertex_19 rfl ?_
        refine zW_iadd dX10_newVertex_20 ?_
        refine zW_iconst dX10_newVertex_21 ?_
        refine zW_iast dX10_newVertex_22 k1.k_edges (by first | assumption | omega | (unfold InR; omega) | (unfold InL; omega) | (simp only [InR] at *; omega)) (by first | assumption | omega | (unfold InR; omega) | (unfold InL; omega) | (simp only [InR] at *; omega)) (by first | assumption | omega | (unfold InR; omega) | (unfold InL; omega) | (simp only [InR] at *; omega)) ?_
        refine zW_iinc dX10_newVertex_23 rfl (by decide) rfl rfl ?_
        refine zW_goto (tgt := 2) dX10_newVertex_26 (by decide) ?_
        have e9 : ((8 : Int) * (n : Int) + (c : Int)).toNat = 8 * n + c := by omega
        rw [e9]
        refine ih (c + 1) _ (by omega) (m1.tr (Mr.I (by decide))) (fun u d hu hd => ?_) (fun d hd => ?_)
        · rw [zI_sIk _ _ _ _ (by omega)]; exact g1 u d hu hd
        · by_cases e : d = c
          · rw [e, zI_sIs]
          · rw [zI_sIk _ _ _ _ (by omega)]; exact g2 d (by omega)
  refine zW_iconst dX10_newVertex_0 ?_
  refine zW_istore_n dX10_newVertex_1 (by decide) rfl rfl ?_
  exact loop 8 0 σ rfl Mr.rf f3 (fun d hd => absurd hd (Nat.not_lt_zero d))
set_option maxRecDepth 100000 in
theorem r_waitsFor {a b : Nat} (h : RK σ y) (hw : RWt σ y E) (hE : E.length < 4000) (hQ : ∀ σ', RWt σ' y (E ++ [(a, b)]) → Mr σ σ' y [21] [9] → Q (.inl none) σ') : zM Γ mX10_waitsFor [vR (some y), vI a, vI b] σ Q := by
  obtain ⟨f1, f2, f3⟩ := id hw
  refine zM_of (n := 0) (by decide +kernel) rfl rfl rfl ?_
  refine zW_aload_n dX10_waitsFor_0 rfl ?_
  refine zgP dX10_waitsFor_1 fX10_38 h.1 rfl h.p_waiting ?_
  refine zW_iconst dX10_waitsFor_4 ?_
  refine zW_aload_n dX10_waitsFor_5 rfl ?_
  refine zgI dX10_waitsFor_6 fX10_143 h.1 rfl f1 ?_
  refine zW_imul dX10_waitsFor_9 ?_
  refine zW_iload_n dX10_waitsFor_10 rfl ?_
  refine zW_iast dX10_waitsFor_11 h.k_waiting (by first | assumption | omega | (unfold InR; omega) | (unfold InL; omega) | (simp only [InR] at *; omega)) (by first | assumption | omega | (unfold InR; omega) | (unfold InL; omega) | (simp only [InR] at *; omega)) (by first | assumption | omega | (unfold InR; omega) | (unfold InL; omega) | (simp only [InR] at *; omega)) ?_
  refine zW_aload_n dX10_waitsFor_12 rfl ?_
  refine zgP dX10_waitsFor_13 fX10_38 h.1 rfl h.p_waiting ?_
  refine zW_iconst dX10_waitsFor_16 ?_
  refine zW_aload_n dX10_waitsFor_17 rfl ?_
  refine zgI dX10_waitsFor_18 fX10_143 h.1 rfl f1 ?_
  refine zW_imul dX10_waitsFor_21 ?_
  refine zW_iconst dX10_waitsFor_22 ?_
  refine zW_iadd dX10_waitsFor_23 ?_
  refine zW_iload_n dX10_waitsFor_24 rfl ?_
  refine zW_iast dX10_waitsFor_25 h.k_waiting (by first | assumption | omega | (unfold InR; omega) | (unfold InL; omega) | (simp only [InR] at *; omega)) (by first | assumption | omega | (unfold InR; omega) | (unfold InL; omega) | (simp only [InR] at *; omega)) (by first | assumption | omega | (unfold InR; omega) | (unfold InL; omega) | (simp only [InR] at *; omega)) ?_
  refine zW_aload_n dX10_waitsFor_26 rfl ?_
  refine zW_dup dX10_waitsFor_27 rfl ?_
  refine zgI dX10_waitsFor_28 fX10_143 h.1 rfl f1 ?_
  refine zW_iconst dX10_waitsFor_31 ?_
  refine zW_iadd dX10_waitsFor_32 ?_
  refine zpI dX10_waitsFor_33 fX10_143 h.1 rfl (Or.inl rfl) (zst_int _) ?_
  refine zW_return dX10_waitsFor_36 rfl (by first | decide | (show _ ≤ (0 : Nat); omega)) (by first | decide | (show _ ≤ (0 : Nat); omega)) ?_
  have e9 : ((2 : Int) * (E.length : Int)).toNat = 2 * E.length := by omega
  have e8 : ((2 : Int) * (E.length : Int) + 1).toNat = 2 * E.length + 1 := by omega
  rw [e9, e8]
  refine hQ _ ⟨?_, by rw [List.length_append]; show _ + 1 ≤ _; omega, fun i p hp => ?_⟩ (((Mr.I (by decide)).tr (Mr.I (by decide))).tr (Mr.O (by decide)))
  · rw [zO_sOs, List.length_append]; rfl
  · have hi := (List.getElem?_eq_some_iff.mp hp).1
    rw [List.length_append] at hi
    change i < E.length + 1 at hi
    by_cases e : i = E.length
    · rw [e, List.getElem?_append_right (Nat.le_refl _), Nat.sub_self] at hp
      have e2 : (a, b) = p := Option.some.inj hp
      rw [← e2, e, zI_sO, zI_sIk _ _ _ _ (by omega), zI_sIs, zI_sIs]
      exact ⟨rfl, rfl⟩
    · rw [List.getElem?_append_left (by omega)] at hp
      rw [zI_sO, zI_sIk _ _ _ _ (by omega), zI_sIk _ _ _ _ (by omega), zI_sIk _ _ _ _ (by omega), zI_sIk _ _ _ _ (by omega)]
      exact f3 i p hp
set_option maxRecDepth 100000 in
theorem r_mergesInto {a b : Nat} (h : RK σ y) (hB : FB σ y T mg ρ n) (hw : RWt σ y E) (hE : E.length + 8 ≤ 4000) (ha : ρ a = a) (hb : ρ b = b) (hab : a < b) (hbn : b < n) (hQ : ∀ σ', FB σ' y (mgT T a b) (fun x => if x = b then a else mg x) (rput ρ a b) n → RWt σ' y (E ++ mgP T a b 8) → Mr σ σ' y [21] [7, 8, 9] → Q (.inl none) σ') : zM Γ mX10_mergesInto [vR (some y), vI a, vI b] σ Q := by
  obtain ⟨⟨f1, f2, f3, f4⟩, hR, hid, hT⟩ := id hB
  refine zM_of (n := 2) (by decide +kernel) rfl rfl rfl ?_
  have loop : ∀ k c σ1 z, c + k = 8 → Mr σ σ1 y [21] [7, 8, 9] → (∀ u, u < n → zI σ1 (y + 8) u = ((if u = b then a else mg u : Nat) : Int)) → (∀ u d, u < n → d < 8 → zI σ1 (y + 7) (8 * u + d) = if u = a ∧ d < c ∧ T a d = -1 then T b d else T u d) → RWt σ1 y (E ++ mgP T a b c) → zW Γ mX10_mergesInto 9 [some (vR (some y)), some (vI a), some (vI b), some (vI c), z] [] σ1 0 0 Q := by
    intro k
    induction k with
    | zero =>
      intro c σ1 z hc m1 g1 g2 g3
      have k1 := h.mr m1
      have ec : c = 8 := by omega
      subst ec
      refine zW_iload_n dX10_mergesInto_9 rfl ?_
      refine zW_bipush dX10_mergesInto_10 (by decide) ?_
      refine zW_icmp_ge (tgt := 91) dX10_mergesInto_12 (by decide) (by first | assumption | omega | (unfold InR; omega) | (unfold InL; omega) | (simp only [InR] at *; omega)) (by first | assumption | omega | (unfold InR; omega) | (unfold InL; omega) | (simp only [InR] at *; omega)) (fun q => ?_) (fun q => ?_)
      · refine zW_return dX10_mergesInto_91 rfl (by first | decide | (show _ ≤ (0 : Nat); omega)) (by first | decide | (show _ ≤ (0 : Nat); omega)) ?_
        refine hQ σ1 ⟨⟨by rw [m1.o (by decide)]; exact f1, f2, fun u d hu hd => ?_, g1⟩, hR.put ha hb hab, fun x hx => ?_, mgT_MT hT (by omega)⟩ g3 m1
        · rw [g2 u d hu hd]
          unfold mgT
          by_cases e : u = a ∧ T a d = -1
          · rw [if_pos ⟨e.1, hd, e.2⟩, if_pos e]
          · rw [if_neg (fun z => e ⟨z.1, z.2.2⟩), if_neg e]
        · show (if x = b then a else mg x) = x
          rw [if_neg (by omega)]
          exact hid x hx
      · exact absurd q (by omega)
    | succ k ih =>
      intro c σ1 z hc m1 g1 g2 g3
      have k1 := h.mr m1
      have tb := hT.1 b c (by omega)
      have ta := hT.1 a c (by omega)
      have vb := g2 b c hbn (by omega)
      rw [if_neg (by omega)] at vb
      have va := g2 a c (by omega) (by omega)
      rw [if_neg (by omega)] at va
      have hpl := mgP_len (T := T) (a := a) (b := b) c
      have hpe : mgP T a b (c + 1) = mgP T a b c ++ if T b c ≠ -1 ∧ T a c ≠ -1 then [((T a c).toNat, (T b c).toNat)] else [] := rfl
      have nxt : ∀ σ2 z2, Mr σ1 σ2 y [21] [7, 8, 9] → (∀ u, u < n → zI σ2 (y + 8) u = ((if u = b then a else mg u : Nat) : Int)) → (∀ u d, u < n → d < 8 → zI σ2 (y + 7) (8 * u + d) = if u = a ∧ d < c + 1 ∧ T a d = -1 then T b d else T u d) → RWt σ2 y (E ++ mgP T a b (c + 1)) → zW Γ mX10_mergesInto 85 [some (vR (some y)), some (vI a), some (vI b), some (vI c), z2] [] σ2 0 0 Q := by
        intro σ2 z2 m2 w1 w2 w3
        refine zW_iinc dX10_mergesInto_85 rfl (by decide) rfl rfl ?_
        refine zW_goto (tgt := 9) dX10_mergesInto_88 (by decide) ?_
        exact ih (c + 1) σ2 _ (by omega) (m1.tr m2) w1 w2 w3
      have same : (T a c = -1 → T b c = -1) → ∀ u d, u < n → d < 8 → zI σ1 (y + 7) (8 * u + d) = if u = a ∧ d < c + 1 ∧ T a d = -1 then T b d else T u d := by
        intro hh u d hu hd
        rw [g2 u d hu hd]
        by_cases e : u = a ∧ d < c ∧ T a d = -1
        · rw [if_pos e, if_pos ⟨e.1, by omega, e.2.2⟩]
        · rw [if_neg e]
          by_cases e2 : u = a ∧ d < c + 1 ∧ T a d = -1
          · rw [if_pos e2]
            have ed : d = c := by omega
            subst ed
            rw [e2.1, e2.2.2, hh e2.2.2]
          · rw [if_neg e2]
      refine zW_iload_n dX10_mergesInto_9 rfl ?_
      refine zW_bipush dX10_mergesInto_10 (by decide) ?_
      refine zW_icmp_ge (tgt := 91) dX10_mergesInto_12 (by decide) (by first | assumption | omega | (unfold InR; omega) | (unfold InL; omega) | (simp only [InR] at *; omega)) (by first | assumption | omega | (unfold InR; omega) | (unfold InL; omega) | (simp only [InR] at *; omega)) (fun q => ?_) (fun q => ?_)
      · exact absurd q (by omega)
      · refine zW_aload_n dX10_mergesInto_15 rfl ?_
        refine zgP dX10_mergesInto_16 fX10_31 k1.1 rfl k1.p_edges ?_
        refine zW_bipush dX10_mergesInto_19 (by decide) ?_
        refine zW_iload_n dX10_mergesInto_21 rfl ?_
        refine zW_imul dX10_mergesInto_22 ?_
        refine zW_iload_n dX10_mergesInto_23 rfl ?_
        refine zW_iadd dX10_mergesInto_24 ?_
        refine zrI dX10_mergesInto_25 k1.k_edges (by first | assumption | omega | (unfold InR; omega) | (unfold InL; omega) | (simp only [InR] at *; omega)) (by first | assumption | omega | (unfold InR; omega) | (unfold InL; omega) | (simp only [InR] at *; omega)) (by first | assumption | omega | (unfold InR; omega) | (unfold InL; omega) | (simp only [InR] at *; omega)) (zix (f := zI σ1 (y + 7)) (j := 8 * b + c) (by omega) vb) ?_
        refine zW_istore dX10_mergesInto_26 (by decide) rfl rfl ?_
        refine zW_iload dX10_mergesInto_28 rfl ?_
        refine zW_iconst dX10_mergesInto_30 ?_
        refine zW_icmp_ne (tgt := 37) dX10_mergesInto_31 (by decide) (by first | assumption | omega | (unfold InR; omega) | (unfold InL; omega) | (simp only [InR] at *; omega)) (by first | assumption | omega | (unfold InR; omega) | (unfold InL; omega) | (simp only [InR] at *; omega)) (fun q2 => ?_) (fun q2 => ?_)
        · refine zW_aload_n dX10_mergesInto_37 rfl ?_
          refine zgP dX10_mergesInto_38 fX10_31 k1.1 rfl k1.p_edges ?_
          refine zW_bipush dX10_mergesInto_41 (by decide) ?_
          refine zW_iload_n dX10_mergesInto_43 rfl ?_
          refine zW_imul dX10_mergesInto_44 ?_
          refine zW_iload_n dX10_mergesInto_45 rfl ?_
          refine zW_iadd dX10_mergesInto_46 ?_
          refine zrI dX10_mergesInto_47 k1.k_edges (by first | assumption | omega | (unfold InR; omega) | (unfold InL; omega) | (simp only [InR] at *; omega)) (by first | assumption | omega | (unfold InR; omega) | (unfold InL; omega) | (simp only [InR] at *; omega)) (by first | assumption | omega | (unfold InR; omega) | (unfold InL; omega) | (simp only [InR] at *; omega)) (zix (f := zI σ1 (y + 7)) (j := 8 * a + c) (by omega) va) ?_
          refine zW_iconst dX10_mergesInto_48 ?_
          refine zW_icmp_ne (tgt := 68) dX10_mergesInto_49 (by decide) (by first | assumption | omega | (unfold InR; omega) | (unfold InL; omega) | (simp only [InR] at *; omega)) (by first | assumption | omega | (unfold InR; omega) | (unfold InL; omega) | (simp only [InR] at *; omega)) (fun q3 => ?_) (fun q3 => ?_)
          · obtain ⟨tA, eA⟩ : ∃ t : Nat, T a c = (t : Int) := ⟨(T a c).toNat, by omega⟩
            obtain ⟨tB, eB⟩ : ∃ t : Nat, T b c = (t : Int) := ⟨(T b c).toNat, by omega⟩
            refine zW_aload_n dX10_mergesInto_68 rfl ?_
            refine zW_aload_n dX10_mergesInto_69 rfl ?_
            refine zgP dX10_mergesInto_70 fX10_31 k1.1 rfl k1.p_edges ?_
            refine zW_bipush dX10_mergesInto_73 (by decide) ?_
            refine zW_iload_n dX10_mergesInto_75 rfl ?_
            refine zW_imul dX10_mergesInto_76 ?_
            refine zW_iload_n dX10_mergesInto_77 rfl ?_
            refine zW_iadd dX10_mergesInto_78 ?_
            refine zrI dX10_mergesInto_79 k1.k_edges (by first | assumption | omega | (unfold InR; omega) | (unfold InL; omega) | (simp only [InR] at *; omega)) (by first | assumption | omega | (unfold InR; omega) | (unfold InL; omega) | (simp only [InR] at *; omega)) (by first | assumption | omega | (unfold InR; omega) | (unfold InL; omega) | (simp only [InR] at *; omega)) (zix (f := zI σ1 (y + 7)) (j := 8 * a + c) (by omega) va) ?_
            refine zW_iload dX10_mergesInto_80 rfl ?_
            rw [eA, eB]
            refine zcV2 dX10_mergesInto_82 rfl eX10_waitsFor b1668 ⟨by decide, by decide, by decide, by decide⟩ rfl k1.1 rfl (by decide) (Nat.le_of_ble_eq_true rfl) (r_waitsFor k1 g3 (by rw [List.length_append]; omega) (fun σ2 w2 m2 => ?_))
            rw [← eB]
            refine nxt σ2 _ (m2.wk (by decide) (by decide)) (fun u hu => by rw [m2.i (by decide)]; exact g1 u hu) (fun u d hu hd => by rw [m2.i (by decide)]; exact same (fun z => absurd z q3) u d hu hd) ?_
            rw [hpe, if_pos ⟨q2, q3⟩, ← List.append_assoc, eA, eB]
            exact w2
          · refine zW_aload_n dX10_mergesInto_52 rfl ?_
            refine zgP dX10_mergesInto_53 fX10_31 k1.1 rfl k1.p_edges ?_
            refine zW_bipush dX10_mergesInto_56 (by decide) ?_
            refine zW_iload_n dX10_mergesInto_58 rfl ?_
            refine zW_imul dX10_mergesInto_59 ?_
            refine zW_iload_n dX10_mergesInto_60 rfl ?_
            refine zW_iadd dX10_mergesInto_61 ?_
            refine zW_iload dX10_mergesInto_62 rfl ?_
            refine zW_iast dX10_mergesInto_64 k1.k_edges (by first | assumption | omega | (unfold InR; omega) | (unfold InL; omega) | (simp only [InR] at *; omega)) (by first | assumption | omega | (unfold InR; omega) | (unfold InL; omega) | (simp only [InR] at *; omega)) (by first | assumption | omega | (unfold InR; omega) | (unfold InL; omega) | (simp only [InR] at *; omega)) ?_
            refine zW_goto (tgt := 85) dX10_mergesInto_65 (by decide) ?_
            have e9 : ((8 : Int) * (a : Int) + (c : Int)).toNat = 8 * a + c := by omega
            rw [e9]
            refine nxt (sI σ1 (y + 7) (8 * a + c) (T b c)) _ (Mr.I (by decide)) (fun u hu => by rw [zI_sIa _ _ _ _ (by omega)]; exact g1 u hu) (fun u d hu hd => ?_) ?_
            · by_cases e : u = a ∧ d = c
              · rw [e.1, e.2, zI_sIs, if_pos ⟨rfl, by omega, q3⟩]
              · rw [zI_sIk _ _ _ _ (by omega), g2 u d hu hd]
                by_cases e2 : u = a ∧ d < c ∧ T a d = -1
                · rw [if_pos e2, if_pos ⟨e2.1, by omega, e2.2.2⟩]
                · rw [if_neg e2, if_neg (fun z => e2 ⟨z.1, by omega, z.2.2⟩)]
            · rw [hpe, if_neg (fun z => z.2 q3), List.append_nil]
              exact g3.mr (Mr.I (Ks := []) (Rs := [7]) (by decide))
        · refine zW_goto (tgt := 85) dX10_mergesInto_34 (by decide) ?_
          refine nxt σ1 _ Mr.rf g1 (same (fun _ => q2)) ?_
          rw [hpe, if_neg (fun z => z.1 q2), List.append_nil]
          exact g3
  refine zW_aload_n dX10_mergesInto_0 rfl ?_
  refine zgP dX10_mergesInto_1 fX10_34 h.1 rfl h.p_merged ?_
  refine zW_iload_n dX10_mergesInto_4 rfl ?_
  refine zW_iload_n dX10_mergesInto_5 rfl ?_
  refine zW_iast dX10_mergesInto_6 h.k_merged (by first | assumption | omega | (unfold InR; omega) | (unfold InL; omega) | (simp only [InR] at *; omega)) (by first | assumption | omega | (unfold InR; omega) | (unfold InL; omega) | (simp only [InR] at *; omega)) (by first | assumption | omega | (unfold InR; omega) | (unfold InL; omega) | (simp only [InR] at *; omega)) ?_
  refine zW_iconst dX10_mergesInto_7 ?_
  refine zW_istore_n dX10_mergesInto_8 (by decide) rfl rfl ?_
  refine loop 8 0 _ none rfl (Mr.I (by decide)) (fun u hu => ?_) (fun u d hu hd => ?_) ?_
  · rw [zI_sI]
    by_cases e : u = b
    · rw [if_pos ⟨rfl, by omega⟩, if_pos e]
    · rw [if_neg (fun z => e (by omega)), if_neg e]
      exact f4 u hu
  · rw [zI_sIa _ _ _ _ (by omega), if_neg (by omega)]
    exact f3 u d hu hd
  · show RWt _ y (E ++ [])
    rw [List.append_nil]
    exact hw.mr (Mr.I (Ks := []) (Rs := [8]) (by decide))
set_option maxRecDepth 100000 in
theorem r_merges {ws : List (List Nat)} {w : List Nat} {i x a b : Nat} (h : RK σ y) (hB : FB σ y T mg ρ n) (hP : FPar ws w i x (ME T ρ) ρ [(a, b)]) (ha : a < n) (hb : b < n) (hQ : ∀ σ' T' mg' ρ', FB σ' y T' mg' ρ' n → FPar ws w i x (ME T' ρ') ρ' [] → Mr σ σ' y [21] [7, 8, 9] → Q (.inl none) σ') : zM Γ mX10_merges [vR (some y), vI a, vI b] σ Q := by
  have hn := hB.1.2.1
  refine zM_of (n := 2) (by decide +kernel) rfl rfl rfl ?_
  have loop : ∀ M σ1 T1 mg1 ρ1 E1 z3 z4, 9 * cntr ρ1 n + E1.length ≤ M → E1.length + 8 * cntr ρ1 n ≤ 3000 → FB σ1 y T1 mg1 ρ1 n → RWt σ1 y E1 → (∀ p ∈ E1, p.1 < n ∧ p.2 < n) → FPar ws w i x (ME T1 ρ1) ρ1 E1 → Mr σ σ1 y [21] [7, 8, 9] → zW Γ mX10_merges 11 [some (vR (some y)), some (vI a), some (vI b), z3, z4] [] σ1 0 0 Q := by
    intro M
    induction M with
    | zero =>
      intro σ1 T1 mg1 ρ1 E1 z3 z4 hM hC hB1 hW hin hP1 m1
      have k1 := h.mr m1
      have e : E1 = [] := List.eq_nil_of_length_eq_zero (by omega)
      subst e
      have w0 : zO σ1 y 21 = 0 := hW.1
      refine zW_aload_n dX10_merges_11 rfl ?_
      refine zgI dX10_merges_12 fX10_143 k1.1 rfl w0 ?_
      refine zW_if_le (tgt := 88) dX10_merges_15 (by decide) (by first | assumption | omega | (unfold InR; omega) | (unfold InL; omega) | (simp only [InR] at *; omega)) (fun q => ?_) (fun q => ?_)
      · refine zW_return dX10_merges_88 rfl (by first | decide | (show _ ≤ (0 : Nat); omega)) (by first | decide | (show _ ≤ (0 : Nat); omega)) ?_
        exact hQ σ1 T1 mg1 ρ1 hB1 hP1 m1
      · exact absurd q (by decide)
    | succ M ih =>
      intro σ1 T1 mg1 ρ1 E1 z3 z4 hM hC hB1 hW hin hP1 m1
      have k1 := h.mr m1
      have hWl := hW.2.1
      rcases List.eq_nil_or_concat E1 with e | ⟨E0, p, e⟩
      · subst e
        have w0 : zO σ1 y 21 = 0 := hW.1
        refine zW_aload_n dX10_merges_11 rfl ?_
        refine zgI dX10_merges_12 fX10_143 k1.1 rfl w0 ?_
        refine zW_if_le (tgt := 88) dX10_merges_15 (by decide) (by first | assumption | omega | (unfold InR; omega) | (unfold InL; omega) | (simp only [InR] at *; omega)) (fun q => ?_) (fun q => ?_)
        · refine zW_return dX10_merges_88 rfl (by first | decide | (show _ ≤ (0 : Nat); omega)) (by first | decide | (show _ ≤ (0 : Nat); omega)) ?_
          exact hQ σ1 T1 mg1 ρ1 hB1 hP1 m1
        · exact absurd q (by decide)
      · rw [List.concat_eq_append] at e
        subst e
        rw [List.length_append] at hM hC hWl
        change 9 * cntr ρ1 n + (E0.length + 1) ≤ M + 1 at hM
        change E0.length + 1 + 8 * cntr ρ1 n ≤ 3000 at hC
        change E0.length + 1 ≤ 4000 at hWl
        have w0 : zO σ1 y 21 = ((E0.length + 1 : Nat) : Int) := by rw [hW.1, List.length_append]; rfl
        obtain ⟨p1, p2⟩ := hin p (List.mem_append_right _ List.mem_cons_self)
        obtain ⟨g1, g2⟩ := hW.2.2 E0.length p (by rw [List.getElem?_append_right (Nat.le_refl _), Nat.sub_self]; rfl)
        obtain ⟨hF, hR, hid, hT⟩ := id hB1
        have hρ := hR.idem
        refine zW_aload_n dX10_merges_11 rfl ?_
        refine zgI dX10_merges_12 fX10_143 k1.1 rfl w0 ?_
        refine zW_if_le (tgt := 88) dX10_merges_15 (by decide) (by first | assumption | omega | (unfold InR; omega) | (unfold InL; omega) | (simp only [InR] at *; omega)) (fun q => ?_) (fun q => ?_)
        · exact absurd q (by omega)
        · have e9 : ((E0.length + 1 : Nat) : Int) - 1 = (E0.length : Int) := by omega
          refine zW_aload_n dX10_merges_18 rfl ?_
          refine zW_dup dX10_merges_19 rfl ?_
          refine zgI dX10_merges_20 fX10_143 k1.1 rfl w0 ?_
          refine zW_iconst dX10_merges_23 ?_
          refine zW_isub dX10_merges_24 ?_
          refine zpI dX10_merges_25 fX10_143 k1.1 rfl (Or.inl rfl) (zst_int _) ?_
          rw [e9]
          have m2 : Mr σ1 (sO σ1 y 21 E0.length) y [21] [] := Mr.O (by decide)
          have k2 := k1.mr m2
          have v0 : zO (sO σ1 y 21 E0.length) y 21 = (E0.length : Int) := zO_sOs _ _ _ _
          have hF2 : RF (sO σ1 y 21 E0.length) y T1 mg1 n := hF.mr m2
          have hW2 : RWt (sO σ1 y 21 E0.length) y E0 := ⟨v0, by omega, fun j q hq => by
            rw [m2.i (by decide)]
            exact hW.2.2 j q (by rw [List.getElem?_append_left (List.getElem?_eq_some_iff.mp hq).1]; exact hq)⟩
          have g1' : zI (sO σ1 y 21 E0.length) (y + 9) (2 * E0.length) = (p.1 : Int) := g1
          have g2' : zI (sO σ1 y 21 E0.length) (y + 9) (2 * E0.length + 1) = (p.2 : Int) := g2
          generalize sO σ1 y 21 E0.length = σ2 at m2 k2 v0 hF2 hW2 g1' g2' ⊢
          have m12 : Mr σ σ2 y [21] [7, 8, 9] := m1.th m2 (by decide) (by decide)
          have hin0 : ∀ p ∈ E0, p.1 < n ∧ p.2 < n := fun q hq => hin q (List.mem_append_left _ hq)
          refine zW_aload_n dX10_merges_28 rfl ?_
          refine zW_aload_n dX10_merges_29 rfl ?_
          refine zgP dX10_merges_30 fX10_38 k2.1 rfl k2.p_waiting ?_
          refine zW_iconst dX10_merges_33 ?_
          refine zW_aload_n dX10_merges_34 rfl ?_
          refine zgI dX10_merges_35 fX10_143 k2.1 rfl v0 ?_
          refine zW_imul dX10_merges_38 ?_
          refine zrI dX10_merges_39 k2.k_waiting (by first | assumption | omega | (unfold InR; omega) | (unfold InL; omega) | (simp only [InR] at *; omega)) (by first | assumption | omega | (unfold InR; omega) | (unfold InL; omega) | (simp only [InR] at *; omega)) (by first | assumption | omega | (unfold InR; omega) | (unfold InL; omega) | (simp only [InR] at *; omega)) (zix (f := zI σ2 (y + 9)) (j := 2 * E0.length) (by omega) g1') ?_
          refine zcV1 dX10_merges_40 rfl eX10_rootOf b1660 ⟨by decide, by decide, by decide, by decide⟩ rfl k2.1 rfl (by decide) (Nat.le_of_ble_eq_true rfl) (r_rootOf k2 hF2 hR p1 ?_)
          refine zW_istore_n dX10_merges_43 (by decide) rfl rfl ?_
          refine zW_aload_n dX10_merges_44 rfl ?_
          refine zW_aload_n dX10_merges_45 rfl ?_
          refine zgP dX10_merges_46 fX10_38 k2.1 rfl k2.p_waiting ?_
          refine zW_iconst dX10_merges_49 ?_
          refine zW_aload_n dX10_merges_50 rfl ?_
          refine zgI dX10_merges_51 fX10_143 k2.1 rfl v0 ?_
          refine zW_imul dX10_merges_54 ?_
          refine zW_iconst dX10_merges_55 ?_
          refine zW_iadd dX10_merges_56 ?_
          refine zrI dX10_merges_57 k2.k_waiting (by first | assumption | omega | (unfold InR; omega) | (unfold InL; omega) | (simp only [InR] at *; omega)) (by first | assumption | omega | (unfold InR; omega) | (unfold InL; omega) | (simp only [InR] at *; omega)) (by first | assumption | omega | (unfold InR; omega) | (unfold InL; omega) | (simp only [InR] at *; omega)) (zix (f := zI σ2 (y + 9)) (j := 2 * E0.length + 1) (by omega) g2') ?_
          refine zcV1 dX10_merges_58 rfl eX10_rootOf b1660 ⟨by decide, by decide, by decide, by decide⟩ rfl k2.1 rfl (by decide) (Nat.le_of_ble_eq_true rfl) (r_rootOf k2 hF2 hR p2 ?_)
          have r1 := hR.2.2.2.2 p.1
          have r2 := hR.2.2.2.2 p.2
          refine zW_istore dX10_merges_61 (by decide) rfl rfl ?_
          refine zW_iload_n dX10_merges_63 rfl ?_
          refine zW_iload dX10_merges_64 rfl ?_
          refine zW_icmp_eq (tgt := 85) dX10_merges_66 (by decide) (by first | assumption | omega | (unfold InR; omega) | (unfold InL; omega) | (simp only [InR] at *; omega)) (by first | assumption | omega | (unfold InR; omega) | (unfold InL; omega) | (simp only [InR] at *; omega)) (fun q2 => ?_) (fun q2 => ?_)
          · refine zW_goto (tgt := 11) dX10_merges_85 (by decide) ?_
            exact ih σ2 T1 mg1 ρ1 E0 _ _ (by omega) (by omega) ⟨hF2, hR, hid, hT⟩ hW2 hin0 (hP1.pop (by omega)) m12
          · have emn : min (ρ1 p.1 : Int) (ρ1 p.2 : Int) = ((min (ρ1 p.1) (ρ1 p.2) : Nat) : Int) := by omega
            have emx : max (ρ1 p.1 : Int) (ρ1 p.2 : Int) = ((max (ρ1 p.1) (ρ1 p.2) : Nat) : Int) := by omega
            refine zW_aload_n dX10_merges_69 rfl ?_
            refine zW_iload_n dX10_merges_70 rfl ?_
            refine zW_iload dX10_merges_71 rfl ?_
            refine zW_mmin dX10_merges_73 (by first | assumption | omega | (unfold InR; omega) | (unfold InL; omega) | (simp only [InR] at *; omega)) (by first | assumption | omega | (unfold InR; omega) | (unfold InL; omega) | (simp only [InR] at *; omega)) b1545 b452 b4 b453 (Nat.le_of_ble_eq_true rfl) (Nat.le_of_ble_eq_true rfl) (Nat.le_of_ble_eq_true rfl) (Nat.le_of_ble_eq_true rfl) ?_
            refine zW_iload_n dX10_merges_76 rfl ?_
            refine zW_iload dX10_merges_77 rfl ?_
            refine zW_mmax dX10_merges_79 (by first | assumption | omega | (unfold InR; omega) | (unfold InL; omega) | (simp only [InR] at *; omega)) (by first | assumption | omega | (unfold InR; omega) | (unfold InL; omega) | (simp only [InR] at *; omega)) b1672 b48 b4 b49 (Nat.le_of_ble_eq_true rfl) (Nat.le_of_ble_eq_true rfl) (Nat.le_of_ble_eq_true rfl) (Nat.le_of_ble_eq_true rfl) ?_
            rw [emn, emx]
            have ra : ρ1 (min (ρ1 p.1) (ρ1 p.2)) = min (ρ1 p.1) (ρ1 p.2) := by
              rcases Nat.le_total (ρ1 p.1) (ρ1 p.2) with z | z
              · rw [Nat.min_eq_left z]; exact hρ _
              · rw [Nat.min_eq_right z]; exact hρ _
            have rb : ρ1 (max (ρ1 p.1) (ρ1 p.2)) = max (ρ1 p.1) (ρ1 p.2) := by
              rcases Nat.le_total (ρ1 p.1) (ρ1 p.2) with z | z
              · rw [Nat.max_eq_right z]; exact hρ _
              · rw [Nat.max_eq_left z]; exact hρ _
            have hab : min (ρ1 p.1) (ρ1 p.2) < max (ρ1 p.1) (ρ1 p.2) := by omega
            have hbn : max (ρ1 p.1) (ρ1 p.2) < n := by omega
            have hpp : (ρ1 p.1 = min (ρ1 p.1) (ρ1 p.2) ∧ ρ1 p.2 = max (ρ1 p.1) (ρ1 p.2)) ∨ (ρ1 p.1 = max (ρ1 p.1) (ρ1 p.2) ∧ ρ1 p.2 = min (ρ1 p.1) (ρ1 p.2)) := by omega
            generalize min (ρ1 p.1) (ρ1 p.2) = u at ra hab hpp ⊢
            generalize max (ρ1 p.1) (ρ1 p.2) = v at rb hab hbn hpp ⊢
            have hc := cntr_put ra rb (by omega) n
            rw [if_pos hbn] at hc
            have hpl := mgP_len (T := T1) (a := u) (b := v) 8
            refine zcV2 dX10_merges_82 rfl eX10_mergesInto b1673 ⟨by decide, by decide, by decide, by decide⟩ rfl k2.1 rfl (by decide) (Nat.le_of_ble_eq_true rfl) (r_mergesInto k2 ⟨hF2, hR, hid, hT⟩ hW2 (by omega) ra rb hab hbn (fun σ3 hB3 hW3 m3 => ?_))
            refine zW_goto (tgt := 11) dX10_merges_85 (by decide) ?_
            refine ih σ3 _ _ _ (E0 ++ mgP T1 u v 8) _ _ (by rw [List.length_append]; omega) (by rw [List.length_append]; omega) hB3 hW3 (fun q hq => ?_) (hP1.merge hT hρ ra rb (by omega) hpp) (m12.tr m3)
            rcases List.mem_append.mp hq with z | z
            · exact hin0 q z
            · obtain ⟨c, c8, ⟨z1, z2⟩, z3⟩ := (mgP_mem q 8).mp z
              have t1 := hT.1 u c c8
              have t2 := hT.1 v c c8
              rw [z3]
              exact ⟨by show (T1 u c).toNat < n; omega, by show (T1 v c).toNat < n; omega⟩
  refine zW_aload_n dX10_merges_0 rfl ?_
  refine zW_iconst dX10_merges_1 ?_
  refine zpI dX10_merges_2 fX10_143 h.1 rfl (Or.inl rfl) (zst_int _) ?_
  have m0 : Mr σ (sO σ y 21 0) y [21] [7, 8, 9] := Mr.O (by decide)
  have k0 := h.mr m0
  have w0 : RWt (sO σ y 21 0) y [] := ⟨zO_sOs _ _ _ _, Nat.zero_le _, fun j q hq => by cases hq⟩
  have hB0 : FB (sO σ y 21 0) y T mg ρ n := ⟨hB.1.mr (Mr.O (Ks := [21]) (Rs := []) (by decide)), hB.2⟩
  generalize sO σ y 21 0 = σ0 at m0 k0 w0 hB0 ⊢
  have hcl := cntr_le ρ n
  refine zW_aload_n dX10_merges_5 rfl ?_
  refine zW_iload_n dX10_merges_6 rfl ?_
  refine zW_iload_n dX10_merges_7 rfl ?_
  refine zcV2 dX10_merges_8 rfl eX10_waitsFor b1668 ⟨by decide, by decide, by decide, by decide⟩ rfl k0.1 rfl (by decide) (Nat.le_of_ble_eq_true rfl) (r_waitsFor k0 w0 (by decide) (fun σ1 w1 m1 => ?_))
  refine loop (9 * cntr ρ n + 1) σ1 T mg ρ [(a, b)] none none (Nat.le_refl _) (by show 1 + _ ≤ _; omega) ⟨hB0.1.mr m1, hB0.2⟩ w1 (fun p hp => ?_) hP (m0.th m1 (by decide) (by decide))
  rw [List.mem_singleton.mp hp]
  exact ⟨ha, hb⟩
set_option maxRecDepth 100000 in
theorem r_joins {ws : List (List Nat)} {w : List Nat} {i x u c v : Nat} (h : RK σ y) (hB : FB σ y T mg ρ n) (hs : ESym (ME T ρ) (Rl ρ [])) (hc : c < 8) (hu : u < n) (hv : v < n) (hP : FPar ws w i x (Edp (ME T ρ) (ρ u) c (ρ v)) ρ []) (hQ : ∀ σ' T' mg' ρ', FB σ' y T' mg' ρ' n → FPar ws w i x (ME T' ρ') ρ' [] → Mr σ σ' y [21] [7, 8, 9] → Q (.inl none) σ') : zM Γ mX10_joins [vR (some y), vI u, vI c, vI v] σ Q := by
  obtain ⟨hF, hR, hid, hT⟩ := id hB
  have hn := hF.2.1
  have f3 := hF.2.2.1
  have r1 := hR.2.2.2.2 u
  have r2 := hR.2.2.2.2 v
  have hc1 := x1_lt hc
  have ta := hT.1 (ρ u) c hc
  have tb := hT.1 (ρ v) (c ^^^ 1) hc1
  have va := f3 (ρ u) c (by omega) hc
  have vb := f3 (ρ v) (c ^^^ 1) (by omega) hc1
  have ra := hR.idem u
  have rb := hR.idem v
  refine zM_of (n := 4) (by decide +kernel) rfl rfl rfl ?_
  refine zW_aload_n dX10_joins_0 rfl ?_
  refine zW_iload_n dX10_joins_1 rfl ?_
  refine zcV1 dX10_joins_2 rfl eX10_rootOf b1660 ⟨by decide, by decide, by decide, by decide⟩ rfl h.1 rfl (by decide) (Nat.le_of_ble_eq_true rfl) (r_rootOf h hF hR hu ?_)
  refine zW_istore dX10_joins_5 (by decide) rfl rfl ?_
  refine zW_aload_n dX10_joins_7 rfl ?_
  refine zW_iload_n dX10_joins_8 rfl ?_
  refine zcV1 dX10_joins_9 rfl eX10_rootOf b1660 ⟨by decide, by decide, by decide, by decide⟩ rfl h.1 rfl (by decide) (Nat.le_of_ble_eq_true rfl) (r_rootOf h hF hR hv ?_)
  refine zW_istore dX10_joins_12 (by decide) rfl rfl ?_
  refine zW_aload_n dX10_joins_14 rfl ?_
  refine zgP dX10_joins_15 fX10_31 h.1 rfl h.p_edges ?_
  refine zW_bipush dX10_joins_18 (by decide) ?_
  refine zW_iload dX10_joins_20 rfl ?_
  refine zW_imul dX10_joins_22 ?_
  refine zW_iload_n dX10_joins_23 rfl ?_
  refine zW_iadd dX10_joins_24 ?_
  refine zrI dX10_joins_25 h.k_edges (by first | assumption | omega | (unfold InR; omega) | (unfold InL; omega) | (simp only [InR] at *; omega)) (by first | assumption | omega | (unfold InR; omega) | (unfold InL; omega) | (simp only [InR] at *; omega)) (by first | assumption | omega | (unfold InR; omega) | (unfold InL; omega) | (simp only [InR] at *; omega)) (zix (f := zI σ (y + 7)) (j := 8 * ρ u + c) (by omega) va) ?_
  refine zW_istore dX10_joins_26 (by decide) rfl rfl ?_
  refine zW_aload_n dX10_joins_28 rfl ?_
  refine zgP dX10_joins_29 fX10_31 h.1 rfl h.p_edges ?_
  refine zW_bipush dX10_joins_32 (by decide) ?_
  refine zW_iload dX10_joins_34 rfl ?_
  refine zW_imul dX10_joins_36 ?_
  refine zW_iload_n dX10_joins_37 rfl ?_
  refine zW_iconst dX10_joins_38 ?_
  refine zW_ixor1 dX10_joins_39 hc ?_
  refine zW_iadd dX10_joins_40 ?_
  refine zrI dX10_joins_41 h.k_edges (by first | assumption | omega | (unfold InR; omega) | (unfold InL; omega) | (simp only [InR] at *; omega)) (by first | assumption | omega | (unfold InR; omega) | (unfold InL; omega) | (simp only [InR] at *; omega)) (by first | assumption | omega | (unfold InR; omega) | (unfold InL; omega) | (simp only [InR] at *; omega)) (zix (f := zI σ (y + 7)) (j := 8 * ρ v + (c ^^^ 1)) (by omega) vb) ?_
  refine zW_istore dX10_joins_42 (by decide) rfl rfl ?_
  refine zW_iload dX10_joins_44 rfl ?_
  refine zW_iconst dX10_joins_46 ?_
  refine zW_icmp_eq (tgt := 59) dX10_joins_47 (by decide) (by first | assumption | omega | (unfold InR; omega) | (unfold InL; omega) | (simp only [InR] at *; omega)) (by first | assumption | omega | (unfold InR; omega) | (unfold InL; omega) | (simp only [InR] at *; omega)) (fun q => ?_) (fun q => ?_)
  · refine zW_iload dX10_joins_59 rfl ?_
    refine zW_iconst dX10_joins_61 ?_
    refine zW_icmp_eq (tgt := 74) dX10_joins_62 (by decide) (by first | assumption | omega | (unfold InR; omega) | (unfold InL; omega) | (simp only [InR] at *; omega)) (by first | assumption | omega | (unfold InR; omega) | (unfold InL; omega) | (simp only [InR] at *; omega)) (fun q2 => ?_) (fun q2 => ?_)
    · refine zW_aload_n dX10_joins_74 rfl ?_
      refine zgP dX10_joins_75 fX10_31 h.1 rfl h.p_edges ?_
      refine zW_bipush dX10_joins_78 (by decide) ?_
      refine zW_iload dX10_joins_80 rfl ?_
      refine zW_imul dX10_joins_82 ?_
      refine zW_iload_n dX10_joins_83 rfl ?_
      refine zW_iadd dX10_joins_84 ?_
      refine zW_iload dX10_joins_85 rfl ?_
      refine zW_iast dX10_joins_87 h.k_edges (by first | assumption | omega | (unfold InR; omega) | (unfold InL; omega) | (simp only [InR] at *; omega)) (by first | assumption | omega | (unfold InR; omega) | (unfold InL; omega) | (simp only [InR] at *; omega)) (by first | assumption | omega | (unfold InR; omega) | (unfold InL; omega) | (simp only [InR] at *; omega)) ?_
      refine zW_aload_n dX10_joins_88 rfl ?_
      refine zgP dX10_joins_89 fX10_31 h.1 rfl h.p_edges ?_
      refine zW_bipush dX10_joins_92 (by decide) ?_
      refine zW_iload dX10_joins_94 rfl ?_
      refine zW_imul dX10_joins_96 ?_
      refine zW_iload_n dX10_joins_97 rfl ?_
      refine zW_iconst dX10_joins_98 ?_
      refine zW_ixor1 dX10_joins_99 hc ?_
      refine zW_iadd dX10_joins_100 ?_
      refine zW_iload dX10_joins_101 rfl ?_
      refine zW_iast dX10_joins_103 h.k_edges (by first | assumption | omega | (unfold InR; omega) | (unfold InL; omega) | (simp only [InR] at *; omega)) (by first | assumption | omega | (unfold InR; omega) | (unfold InL; omega) | (simp only [InR] at *; omega)) (by first | assumption | omega | (unfold InR; omega) | (unfold InL; omega) | (simp only [InR] at *; omega)) ?_
      refine zW_return dX10_joins_104 rfl (by first | decide | (show _ ≤ (0 : Nat); omega)) (by first | decide | (show _ ≤ (0 : Nat); omega)) ?_
      have e9 : ((8 : Int) * ((ρ u : Nat) : Int) + (c : Int)).toNat = 8 * ρ u + c := by omega
      have e8 : ((8 : Int) * ((ρ v : Nat) : Int) + ((c ^^^ 1 : Nat) : Int)).toNat = 8 * ρ v + (c ^^^ 1) := by omega
      rw [e9, e8]
      refine hQ _ (jnT T (ρ u) c (ρ v)) mg ρ ⟨⟨hF.1, hn, fun p d hp hd => ?_, fun p hp => ?_⟩, hR, hid, jnT_MT hT hc (by omega) (by omega)⟩ (hP.join hc ra rb q q2) ((Mr.I (by decide)).tr (Mr.I (by decide)))
      · unfold jnT
        by_cases e1 : p = ρ v ∧ d = c ^^^ 1
        · rw [e1.1, e1.2, zI_sIs, tset_s]
        · rw [zI_sIk _ _ _ _ (by omega), tset_o e1]
          by_cases e2 : p = ρ u ∧ d = c
          · rw [e2.1, e2.2, zI_sIs, tset_s]
          · rw [zI_sIk _ _ _ _ (by omega), tset_o e2]
            exact f3 p d hp hd
      · rw [zI_sIa _ _ _ _ (by omega), zI_sIa _ _ _ _ (by omega)]
        exact hF.2.2.2 p hp
    · obtain ⟨t, et⟩ : ∃ t : Nat, T (ρ v) (c ^^^ 1) = (t : Int) := ⟨(T (ρ v) (c ^^^ 1)).toNat, by omega⟩
      refine zW_aload_n dX10_joins_65 rfl ?_
      refine zW_iload dX10_joins_66 rfl ?_
      refine zW_iload dX10_joins_68 rfl ?_
      rw [et]
      refine zcV2 dX10_joins_70 rfl eX10_merges b1664 ⟨by decide, by decide, by decide, by decide⟩ rfl h.1 rfl (by decide) (Nat.le_of_ble_eq_true rfl) (r_merges h hB (hP.behind hs hc rb et) (by omega) (by omega) (fun σ' T' mg' ρ' b1 b2 b3 => ?_))
      refine zW_return dX10_joins_73 rfl (by first | decide | (show _ ≤ (0 : Nat); omega)) (by first | decide | (show _ ≤ (0 : Nat); omega)) ?_
      exact hQ σ' T' mg' ρ' b1 b2 b3
  · obtain ⟨t, et⟩ : ∃ t : Nat, T (ρ u) c = (t : Int) := ⟨(T (ρ u) c).toNat, by omega⟩
    refine zW_aload_n dX10_joins_50 rfl ?_
    refine zW_iload dX10_joins_51 rfl ?_
    refine zW_iload dX10_joins_53 rfl ?_
    rw [et]
    refine zcV2 dX10_joins_55 rfl eX10_merges b1664 ⟨by decide, by decide, by decide, by decide⟩ rfl h.1 rfl (by decide) (Nat.le_of_ble_eq_true rfl) (r_merges h hB (hP.ahead hs hc ra et) (by omega) (by omega) (fun σ' T' mg' ρ' b1 b2 b3 => ?_))
    refine zW_return dX10_joins_58 rfl (by first | decide | (show _ ≤ (0 : Nat); omega)) (by first | decide | (show _ ≤ (0 : Nat); omega)) ?_
    exact hQ σ' T' mg' ρ' b1 b2 b3
set_option maxRecDepth 100000 in
theorem FB.root (hB : FB σ y T mg ρ n) : ∀ x, ρ x = n ↔ x = n := by
  obtain ⟨hF, hR, hid, hT⟩ := hB
  have hi : ∀ x, n ≤ x → ρ x = x := fun x hx => hR.2.2.1 x (hid x hx)
  intro x
  constructor
  · intro e
    rcases Nat.lt_or_ge x n with q | q
    · have := hR.2.2.2.2 x
      omega
    · rw [hi x q] at e; exact e
  · intro e
    rw [e]; exact hi n (Nat.le_refl _)
set_option maxRecDepth 100000 in
theorem r_addsPath {ws : List (List Nat)} {w : Nat} {l : List Nat} (h : RA σ y 0) (hw : Rw σ y (0 + w) l) (hb : 0 + w + 61 ≤ 13453) (hB : FB σ y T mg ρ n) (hn1 : 1 ≤ n) (hn : n + (l.length - 1) ≤ 355) (hI : FInv ws (ME T ρ) ρ []) (hQ : ∀ σ' T' mg' ρ' n', FB σ' y T' mg' ρ' n' → FInv (ws ++ [l]) (ME T' ρ') ρ' [] → n ≤ n' → n' ≤ n + (l.length - 1) → Mr σ σ' y [20, 21] [7, 8, 9] → Q (.inl none) σ') : zM Γ mX10_addsPath [vR (some y), vI w] σ Q := by
  have hl := hw.2.1
  refine zM_of (n := 3) (by decide +kernel) rfl rfl rfl ?_
  have loop : ∀ m k v σ1 T1 mg1 ρ1 n1 z, k + m = l.length → FB σ1 y T1 mg1 ρ1 n1 → FPar ws l k v (ME T1 ρ1) ρ1 [] → v < n1 → n ≤ n1 → n1 ≤ n + min k (l.length - 1) → (m = 0 → v = 0) → Mr σ σ1 y [20, 21] [7, 8, 9] → zW Γ mX10_addsPath 4 [some (vR (some y)), some (vI w), some (vI v), some (vI k), z] [] σ1 0 0 Q := by
    intro m
    induction m with
    | zero =>
      intro k v σ1 T1 mg1 ρ1 n1 z hk hB1 hP hv hn9 hn8 hv0 m1
      have a1 := h.mr m1
      have hw1 := hw.mr m1
      refine zW_iload_n dX10_addsPath_4 rfl ?_
      refine zW_aload_n dX10_addsPath_5 rfl ?_
      refine zW_iload_n dX10_addsPath_6 rfl ?_
      refine zcV1 dX10_addsPath_7 rfl eX10_get b1443 ⟨by decide, by decide, by decide, by decide⟩ rfl a1.1.1 rfl (by decide) (Nat.le_of_ble_eq_true rfl) (r_get a1 (by omega) hw1.1 ?_)
      refine zW_icmp_ge (tgt := 56) dX10_addsPath_10 (by decide) (by first | assumption | omega | (unfold InR; omega) | (unfold InL; omega) | (simp only [InR] at *; omega)) (by first | assumption | omega | (unfold InR; omega) | (unfold InL; omega) | (simp only [InR] at *; omega)) (fun q => ?_) (fun q => ?_)
      · refine zW_return dX10_addsPath_56 rfl (by first | decide | (show _ ≤ (0 : Nat); omega)) (by first | decide | (show _ ≤ (0 : Nat); omega)) ?_
        have e := hv0 rfl
        subst e
        exact hQ σ1 T1 mg1 ρ1 n1 hB1 (hP.fin (by omega) Rl.rf) hn9 (by omega) m1
      · exact absurd q (by omega)
    | succ m ih =>
      intro k v σ1 T1 mg1 ρ1 n1 z hk hB1 hP hv hn9 hn8 hv0 m1
      have a1 := h.mr m1
      have hw1 := hw.mr m1
      have hx := getD_lt hw.2.2.2 (i := k) (by omega)
      obtain ⟨hF, hR, hid, hT⟩ := id hB1
      have hroot := hB1.root
      refine zW_iload_n dX10_addsPath_4 rfl ?_
      refine zW_aload_n dX10_addsPath_5 rfl ?_
      refine zW_iload_n dX10_addsPath_6 rfl ?_
      refine zcV1 dX10_addsPath_7 rfl eX10_get b1443 ⟨by decide, by decide, by decide, by decide⟩ rfl a1.1.1 rfl (by decide) (Nat.le_of_ble_eq_true rfl) (r_get a1 (by omega) hw1.1 ?_)
      refine zW_icmp_ge (tgt := 56) dX10_addsPath_10 (by decide) (by first | assumption | omega | (unfold InR; omega) | (unfold InL; omega) | (simp only [InR] at *; omega)) (by first | assumption | omega | (unfold InR; omega) | (unfold InL; omega) | (simp only [InR] at *; omega)) (fun q => ?_) (fun q => ?_)
      · exact absurd q (by omega)
      · refine zW_iload_n dX10_addsPath_13 rfl ?_
        refine zW_aload_n dX10_addsPath_14 rfl ?_
        refine zW_iload_n dX10_addsPath_15 rfl ?_
        refine zcV1 dX10_addsPath_16 rfl eX10_get b1443 ⟨by decide, by decide, by decide, by decide⟩ rfl a1.1.1 rfl (by decide) (Nat.le_of_ble_eq_true rfl) (r_get a1 (by omega) hw1.1 ?_)
        refine zW_iconst dX10_addsPath_19 ?_
        refine zW_isub dX10_addsPath_20 ?_
        refine zW_icmp_ne (tgt := 28) dX10_addsPath_21 (by decide) (by first | assumption | omega | (unfold InR; omega) | (unfold InL; omega) | (simp only [InR] at *; omega)) (by first | assumption | omega | (unfold InR; omega) | (unfold InL; omega) | (simp only [InR] at *; omega)) (fun q2 => ?_) (fun q2 => ?_)
        · have hm1 : mg1 n1 = n1 := hid n1 (Nat.le_refl _)
          refine zW_aload_n dX10_addsPath_28 rfl ?_
          refine zcV0 dX10_addsPath_29 rfl eX10_newVertex b1648 ⟨by decide, by decide, by decide, by decide⟩ rfl a1.1.1 rfl (by decide) (Nat.le_of_ble_eq_true rfl) (r_newVertex a1.1 hF (by omega) (fun d hd => hT.2 n1 d hd (Nat.le_refl _)) hm1 (fun σ2 hF2 m2 => ?_))
          have a2 := a1.mr m2
          have hw2 := hw1.mr m2
          have hB2 : FB σ2 y T1 mg1 ρ1 (n1 + 1) := ⟨hF2, hR, fun x hx => hid x (by omega), ⟨fun p d hd => ⟨(hT.1 p d hd).1, by have := (hT.1 p d hd).2; omega⟩, fun p d hd hp => hT.2 p d hd (by omega)⟩⟩
          have hP2 := hP.addN (n := n1) (by omega) hx (fun p d t q => ⟨fun e => by rw [e] at q; have := hT.2 n1 d q.1 (Nat.le_refl _); have := q.2.2; omega, fun e => by have := (hT.1 p d q.1).2; have := q.2.2; omega⟩) hroot (by omega) (by omega)
          rw [show Edp (ME T1 ρ1) (ρ1 v) (l.getD k 0) n1 = Edp (ME T1 ρ1) (ρ1 v) (l.getD k 0) (ρ1 n1) by rw [(hroot n1).mpr rfl]] at hP2
          refine zW_istore dX10_addsPath_32 (by decide) rfl rfl ?_
          refine zW_aload_n dX10_addsPath_34 rfl ?_
          refine zW_iload_n dX10_addsPath_35 rfl ?_
          refine zW_aload_n dX10_addsPath_36 rfl ?_
          refine zW_iload_n dX10_addsPath_37 rfl ?_
          refine zW_iload_n dX10_addsPath_38 rfl ?_
          refine zcV2 dX10_addsPath_39 rfl eX10_codeAt b1499 ⟨by decide, by decide, by decide, by decide⟩ rfl a2.1.1 rfl (by decide) (Nat.le_of_ble_eq_true rfl) (r_codeAt a2 hw2 (by omega) hb ?_)
          refine zW_iload dX10_addsPath_42 rfl ?_
          refine zcV3 dX10_addsPath_44 rfl eX10_joins b1656 ⟨by decide, by decide, by decide, by decide⟩ rfl a2.1.1 rfl (by decide) (Nat.le_of_ble_eq_true rfl) (r_joins a2.1 hB2 hP.1 hx (by omega) (by omega) hP2 (fun σ3 T3 mg3 ρ3 hB3 hP3 m3 => ?_))
          refine zW_iload dX10_addsPath_47 rfl ?_
          refine zW_istore_n dX10_addsPath_49 (by decide) rfl rfl ?_
          refine zW_iinc dX10_addsPath_50 rfl (by decide) rfl rfl ?_
          refine zW_goto (tgt := 4) dX10_addsPath_53 (by decide) ?_
          exact ih (k + 1) n1 σ3 T3 mg3 ρ3 (n1 + 1) _ (by omega) hB3 hP3 (by omega) (by omega) (by omega) (by omega) ((m1.th m2 (by decide) (by decide)).th m3 (by decide) (by decide))
        · have r0 : ρ1 0 = 0 := by have := hR.2.2.2.2 0; omega
          have hP2 := hP.add0 (show k + 1 = l.length by omega) hx
          rw [show Edp (ME T1 ρ1) (ρ1 v) (l.getD k 0) 0 = Edp (ME T1 ρ1) (ρ1 v) (l.getD k 0) (ρ1 0) by rw [r0]] at hP2
          refine zW_iconst dX10_addsPath_24 ?_
          refine zW_goto (tgt := 32) dX10_addsPath_25 (by decide) ?_
          refine zW_istore dX10_addsPath_32 (by decide) rfl rfl ?_
          refine zW_aload_n dX10_addsPath_34 rfl ?_
          refine zW_iload_n dX10_addsPath_35 rfl ?_
          refine zW_aload_n dX10_addsPath_36 rfl ?_
          refine zW_iload_n dX10_addsPath_37 rfl ?_
          refine zW_iload_n dX10_addsPath_38 rfl ?_
          refine zcV2 dX10_addsPath_39 rfl eX10_codeAt b1499 ⟨by decide, by decide, by decide, by decide⟩ rfl a1.1.1 rfl (by decide) (Nat.le_of_ble_eq_true rfl) (r_codeAt a1 hw1 (by omega) hb ?_)
          refine zW_iload dX10_addsPath_42 rfl ?_
          refine zcV3 dX10_addsPath_44 rfl eX10_joins b1656 ⟨by decide, by decide, by decide, by decide⟩ rfl a1.1.1 rfl (by decide) (Nat.le_of_ble_eq_true rfl) (r_joins (v := 0) a1.1 hB1 hP.1 hx (by omega) (by omega) hP2 (fun σ3 T3 mg3 ρ3 hB3 hP3 m3 => ?_))
          refine zW_iload dX10_addsPath_47 rfl ?_
          refine zW_istore_n dX10_addsPath_49 (by decide) rfl rfl ?_
          refine zW_iinc dX10_addsPath_50 rfl (by decide) rfl rfl ?_
          refine zW_goto (tgt := 4) dX10_addsPath_53 (by decide) ?_
          exact ih (k + 1) 0 σ3 T3 mg3 ρ3 n1 _ (by omega) hB3 hP3 (by omega) (by omega) (by omega) (fun _ => rfl) (m1.th m3 (by decide) (by decide))
  refine zW_iconst dX10_addsPath_0 ?_
  refine zW_istore_n dX10_addsPath_1 (by decide) rfl rfl ?_
  refine zW_iconst dX10_addsPath_2 ?_
  refine zW_istore_n dX10_addsPath_3 (by decide) rfl rfl ?_
  exact loop l.length 0 0 σ T mg ρ n none (by omega) hB (hI.par l) (by omega) (Nat.le_refl _) (by omega) (fun _ => rfl) Mr.rf
end RFOLD
