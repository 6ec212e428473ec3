/-! the reference: questions about graphs -/
section RGRAPH
variable {Γ : GG} {σ : HS} {Q : Res → HS → Prop} {y g o : Nat} {A : AA} {G H : GT}
set_option maxRecDepth 100000 in
theorem gst_n (G : GT) (v c : Nat) : gst G (v : Int) c = gt G v c := by
  unfold gst
  rw [if_neg (by omega), Int.toNat_natCast]
set_option maxRecDepth 100000 in
theorem r_step {a : Int} {c : Nat} (h : RK σ y) (hG : RG σ y g G) (hg : g < 2) (ok : GOK G) (ha : gin G a) (hc : c < 8) (hQ : Q (.inl (some (vI (gst G a c)))) σ) : zM Γ mX10_step [vR (some y), vI g, vI a, vI c] σ Q := by
  have v9 := ok.2.1
  unfold gin at ha
  refine zM_of (n := 0) (by decide +kernel) rfl rfl rfl ?_
  refine zW_iload_n dX10_step_0 rfl ?_
  refine zW_iconst dX10_step_1 ?_
  refine zW_icmp_ne (tgt := 9) dX10_step_2 (by decide) (by first | assumption | omega | (unfold InR; omega) | (unfold InL; omega) | (simp only [InR] at *; omega)) (by first | assumption | omega | (unfold InR; omega) | (unfold InL; omega) | (simp only [InR] at *; omega)) (fun q => ?_) (fun q => ?_)
  · obtain ⟨v, rfl⟩ : ∃ v : Nat, a = (v : Int) := ⟨a.toNat, by omega⟩
    refine zW_aload_n dX10_step_9 rfl ?_
    refine zgP dX10_step_10 fX10_41 h.1 rfl h.p_graphs ?_
    refine zW_iload_n dX10_step_13 rfl ?_
    refine zW_iload_n dX10_step_14 rfl ?_
    refine zW_iload_n dX10_step_15 rfl ?_
    refine zcS3 dX10_step_16 rfl eX10_edgePlace b1677 ⟨by decide, by decide, by decide, by decide⟩ rfl (Nat.le_of_ble_eq_true rfl) (r_edgePlace ?_)
    refine zrI dX10_step_19 h.k_graphs (by first | assumption | omega | (unfold InR; omega) | (unfold InL; omega) | (simp only [InR] at *; omega)) (by first | assumption | omega | (unfold InR; omega) | (unfold InL; omega) | (simp only [InR] at *; omega)) (by first | assumption | omega | (unfold InR; omega) | (unfold InL; omega) | (simp only [InR] at *; omega)) (hG.2.1 v c (by omega) hc) ?_
    refine zW_ireturn dX10_step_20 rfl rfl (by first | decide | (show _ ≤ (0 : Nat); omega)) (by first | decide | (show _ ≤ (0 : Nat); omega)) ?_
    rw [gst_n] at hQ
    exact hQ
  · refine zW_iconst dX10_step_5 ?_
    refine zW_goto (tgt := 20) dX10_step_6 (by decide) ?_
    refine zW_ireturn dX10_step_20 rfl rfl (by first | decide | (show _ ≤ (0 : Nat); omega)) (by first | decide | (show _ ≤ (0 : Nat); omega)) ?_
    unfold gst at hQ
    rw [if_pos q] at hQ
    exact hQ
set_option maxRecDepth 100000 in
theorem r_follows {a : Int} {w from_ end_ : Nat} {l : List Nat} (h : RA σ y 0) (hG : RG σ y g G) (hg : g < 2) (ok : GOK G) (hw : Rw σ y (0 + w) l) (hb : 0 + w + 61 ≤ 13453) (ha : gin G a) (he : end_ ≤ l.length) (hf : from_ ≤ 100) (hQ : Q (.inl (some (vI (gtr G a ((l.take end_).drop from_))))) σ) : zM Γ mX10_follows [vR (some y), vI g, vI a, vI w, vI from_, vI end_] σ Q := by
  have hl := hw.2.1
  refine zM_of (n := 2) (by decide +kernel) rfl rfl rfl ?_
  have loop : ∀ n k (v : Int), k + n = max from_ end_ → from_ ≤ k → gin G v → gtr G v ((l.take end_).drop k) = gtr G a ((l.take end_).drop from_) → zW Γ mX10_follows 7 [some (vR (some y)), some (vI g), some (vI a), some (vI w), some (vI from_), some (vI end_), some (vI v), some (vI k)] [] σ 0 0 Q := by
    intro n
    induction n with
    | zero =>
      intro k v hk hfk hv e
      refine zW_iload dX10_follows_7 rfl ?_
      refine zW_iload dX10_follows_9 rfl ?_
      refine zW_icmp_ge (tgt := 36) dX10_follows_11 (by decide) (by first | assumption | omega | (unfold InR; omega) | (unfold InL; omega) | (simp only [InR] at *; omega)) (by first | assumption | omega | (unfold InR; omega) | (unfold InL; omega) | (simp only [InR] at *; omega)) (fun q => ?_) (fun q => ?_)
      · refine zW_iload dX10_follows_36 rfl ?_
        refine zW_ireturn dX10_follows_38 rfl rfl (by first | decide | (show _ ≤ (0 : Nat); omega)) (by first | decide | (show _ ≤ (0 : Nat); omega)) ?_
        have : (l.take end_).drop k = [] := by rw [List.drop_eq_nil_iff, List.length_take]; omega
        rw [this, gtr_nil] at e
        rw [← e] at hQ
        exact hQ
      · exact absurd q (by omega)
    | succ n ih =>
      intro k v hk hfk hv e
      refine zW_iload dX10_follows_7 rfl ?_
      refine zW_iload dX10_follows_9 rfl ?_
      refine zW_icmp_ge (tgt := 36) dX10_follows_11 (by decide) (by first | assumption | omega | (unfold InR; omega) | (unfold InL; omega) | (simp only [InR] at *; omega)) (by first | assumption | omega | (unfold InR; omega) | (unfold InL; omega) | (simp only [InR] at *; omega)) (fun q => ?_) (fun q => ?_)
      · exact absurd q (by omega)
      · have hx := getD_lt hw.2.2.2 (i := k) (by omega)
        refine zW_aload_n dX10_follows_14 rfl ?_
        refine zW_iload_n dX10_follows_15 rfl ?_
        refine zW_iload dX10_follows_16 rfl ?_
        refine zW_aload_n dX10_follows_18 rfl ?_
        refine zW_iload_n dX10_follows_19 rfl ?_
        refine zW_iload dX10_follows_20 rfl ?_
        refine zcV2 dX10_follows_22 rfl eX10_codeAt b1499 ⟨by decide, by decide, by decide, by decide⟩ rfl h.1.1 rfl (by decide) (Nat.le_of_ble_eq_true rfl) (r_codeAt h hw (by omega) hb ?_)
        refine zcV3 dX10_follows_25 rfl eX10_step b1688 ⟨by decide, by decide, by decide, by decide⟩ rfl h.1.1 rfl (by decide) (Nat.le_of_ble_eq_true rfl) (r_step h.1 hG hg ok hv hx ?_)
        refine zW_istore dX10_follows_28 (by decide) rfl rfl ?_
        refine zW_iinc dX10_follows_30 rfl (by decide) rfl rfl ?_
        refine zW_goto (tgt := 7) dX10_follows_33 (by decide) ?_
        refine ih (k + 1) _ (by omega) (by omega) (gst_in ok hv hx) ?_
        rw [← e, drop_cons (i := k) (by rw [List.length_take]; omega), gtr_cons, getD_take (by omega)]
  refine zW_iload_n dX10_follows_0 rfl ?_
  refine zW_istore dX10_follows_1 (by decide) rfl rfl ?_
  refine zW_iload dX10_follows_3 rfl ?_
  refine zW_istore dX10_follows_5 (by decide) rfl rfl ?_
  exact loop (max from_ end_ - from_) from_ a (by omega) (Nat.le_refl _) ha rfl
set_option maxRecDepth 100000 in
theorem r_followsAll {a : Int} {w : Nat} {l : List Nat} (h : RA σ y 0) (hG : RG σ y g G) (hg : g < 2) (ok : GOK G) (hw : Rw σ y (0 + w) l) (hb : 0 + w + 61 ≤ 13453) (ha : gin G a) (hQ : Q (.inl (some (vI (gtr G a l)))) σ) : zM Γ mX10_followsAll [vR (some y), vI g, vI a, vI w] σ Q := by
  refine zM_of (n := 0) (by decide +kernel) rfl rfl rfl ?_
  refine zW_aload_n dX10_followsAll_0 rfl ?_
  refine zW_iload_n dX10_followsAll_1 rfl ?_
  refine zW_iload_n dX10_followsAll_2 rfl ?_
  refine zW_iload_n dX10_followsAll_3 rfl ?_
  refine zW_iconst dX10_followsAll_4 ?_
  refine zW_aload_n dX10_followsAll_5 rfl ?_
  refine zW_iload_n dX10_followsAll_6 rfl ?_
  refine zcV1 dX10_followsAll_7 rfl eX10_get b1443 ⟨by decide, by decide, by decide, by decide⟩ rfl h.1.1 rfl (by decide) (Nat.le_of_ble_eq_true rfl) (r_get h (by omega) hw.1 ?_)
  refine zcV5 dX10_followsAll_10 rfl eX10_follows b1728 ⟨by decide, by decide, by decide, by decide⟩ rfl h.1.1 rfl (by decide) (Nat.le_of_ble_eq_true rfl) (r_follows (from_ := 0) (end_ := l.length) h hG hg ok hw hb ha (Nat.le_refl _) (by omega) ?_)
  rw [List.take_length, List.drop_zero]
  refine zW_ireturn dX10_followsAll_13 rfl rfl (by first | decide | (show _ ≤ (0 : Nat); omega)) (by first | decide | (show _ ≤ (0 : Nat); omega)) ?_
  exact hQ
set_option maxRecDepth 100000 in
theorem gin0 (ok : GOK G) : gin G 0 := ⟨by omega, by have := ok.1; omega⟩
set_option maxRecDepth 100000 in
theorem r_has {w : Nat} {l : List Nat} (h : RA σ y 0) (hG : RG σ y g G) (hg : g < 2) (ok : GOK G) (hw : Rw σ y (0 + w) l) (hb : 0 + w + 61 ≤ 13453) (h1 : gtr G 0 l = 0 → Q (.inl (some (vI 1))) σ) (h0 : gtr G 0 l ≠ 0 → Q (.inl (some (vI 0))) σ) : zM Γ mX10_has [vR (some y), vI g, vI w] σ Q := by
  have v9 := ok.2.1
  have hin := gtr_in ok (gin0 ok) hw.2.2.2
  unfold gin at hin
  refine zM_of (n := 0) (by decide +kernel) rfl rfl rfl ?_
  refine zW_aload_n dX10_has_0 rfl ?_
  refine zW_iload_n dX10_has_1 rfl ?_
  refine zW_iconst dX10_has_2 ?_
  refine zW_iload_n dX10_has_3 rfl ?_
  refine zcV3 dX10_has_4 rfl eX10_followsAll b1724 ⟨by decide, by decide, by decide, by decide⟩ rfl h.1.1 rfl (by decide) (Nat.le_of_ble_eq_true rfl) (r_followsAll h hG hg ok hw hb (gin0 ok) ?_)
  refine zW_if_ne (tgt := 14) dX10_has_7 (by decide) (by first | assumption | omega | (unfold InR; omega) | (unfold InL; omega) | (simp only [InR] at *; omega)) (fun q => ?_) (fun q => ?_)
  · refine zW_iconst dX10_has_14 ?_
    refine zW_ireturn dX10_has_15 rfl rfl (by first | decide | (show _ ≤ (0 : Nat); omega)) (by first | decide | (show _ ≤ (0 : Nat); omega)) ?_
    exact h0 q
  · refine zW_iconst dX10_has_10 ?_
    refine zW_goto (tgt := 15) dX10_has_11 (by decide) ?_
    refine zW_ireturn dX10_has_15 rfl rfl (by first | decide | (show _ ≤ (0 : Nat); omega)) (by first | decide | (show _ ≤ (0 : Nat); omega)) ?_
    exact h1 q
set_option maxRecDepth 100000 in
theorem r_manyEdges (h : RK σ y) (hG : RG σ y g G) (hg : g < 2) (ok : GOK G) (hQ : Q (.inl (some (vI (gE G : Nat)))) σ) : zM Γ mX10_manyEdges [vR (some y), vI g] σ Q := by
  have v9 := ok.2.1
  refine zM_of (n := 3) (by decide +kernel) rfl rfl rfl ?_
  have hcl : ∀ m, gEc G m ≤ m := fun m => by
    unfold gEc
    have := List.length_filter_le (fun e => decide (gt G (e / 4) (2 * (e % 4)) ≠ -1)) (List.range m)
    rw [List.length_range] at this
    exact this
  have outer : ∀ n v z, v + n = gV G → zW Γ mX10_manyEdges 4 [some (vR (some y)), some (vI g), some (vI (gEc G (4 * v) : Nat)), some (vI v), z] [] σ 0 0 Q := by
    intro n
    induction n with
    | zero =>
      intro v z hv
      refine zW_iload_n dX10_manyEdges_4 rfl ?_
      refine zW_aload_n dX10_manyEdges_5 rfl ?_
      refine zgP dX10_manyEdges_6 fX10_44 h.1 rfl h.p_sizes ?_
      refine zW_iload_n dX10_manyEdges_9 rfl ?_
      refine zrI dX10_manyEdges_10 h.k_sizes (by first | assumption | omega | (unfold InR; omega) | (unfold InL; omega) | (simp only [InR] at *; omega)) (by first | assumption | omega | (unfold InR; omega) | (unfold InL; omega) | (simp only [InR] at *; omega)) (by first | assumption | omega | (unfold InR; omega) | (unfold InL; omega) | (simp only [InR] at *; omega)) hG.1 ?_
      refine zW_icmp_ge (tgt := 51) dX10_manyEdges_11 (by decide) (by first | assumption | omega | (unfold InR; omega) | (unfold InL; omega) | (simp only [InR] at *; omega)) (by first | assumption | omega | (unfold InR; omega) | (unfold InL; omega) | (simp only [InR] at *; omega)) (fun q => ?_) (fun q => ?_)
      · refine zW_iload_n dX10_manyEdges_51 rfl ?_
        refine zW_ireturn dX10_manyEdges_52 rfl rfl (by first | decide | (show _ ≤ (0 : Nat); omega)) (by first | decide | (show _ ≤ (0 : Nat); omega)) ?_
        have e : v = gV G := by omega
        rw [e]
        exact hQ
      · exact absurd q (by omega)
    | succ n ih =>
      intro v z hv
      have inner : ∀ m j, j + m = 4 → zW Γ mX10_manyEdges 17 [some (vR (some y)), some (vI g), some (vI (gEc G (4 * v + j) : Nat)), some (vI v), some (vI ((2 * j : Nat) : Int))] [] σ 0 0 Q := by
        intro m
        induction m with
        | zero =>
          intro j hj
          refine zW_iload dX10_manyEdges_17 rfl ?_
          refine zW_bipush dX10_manyEdges_19 (by decide) ?_
          refine zW_icmp_ge (tgt := 45) dX10_manyEdges_21 (by decide) (by first | assumption | omega | (unfold InR; omega) | (unfold InL; omega) | (simp only [InR] at *; omega)) (by first | assumption | omega | (unfold InR; omega) | (unfold InL; omega) | (simp only [InR] at *; omega)) (fun q => ?_) (fun q => ?_)
          · refine zW_iinc dX10_manyEdges_45 rfl (by decide) rfl rfl ?_
            refine zW_goto (tgt := 4) dX10_manyEdges_48 (by decide) ?_
            have e : 4 * v + j = 4 * (v + 1) := by omega
            rw [e]
            exact ih (v + 1) _ (by omega)
          · exact absurd q (by omega)
        | succ m ih2 =>
          intro j hj
          have hs := gEc_s G (4 * v + j)
          rw [show (4 * v + j) / 4 = v by omega, show (4 * v + j) % 4 = j by omega] at hs
          have hb := ok.2.2.1 v (2 * j) (by omega) (by omega)
          have hc9 := hcl (4 * v + j)
          refine zW_iload dX10_manyEdges_17 rfl ?_
          refine zW_bipush dX10_manyEdges_19 (by decide) ?_
          refine zW_icmp_ge (tgt := 45) dX10_manyEdges_21 (by decide) (by first | assumption | omega | (unfold InR; omega) | (unfold InL; omega) | (simp only [InR] at *; omega)) (by first | assumption | omega | (unfold InR; omega) | (unfold InL; omega) | (simp only [InR] at *; omega)) (fun q => ?_) (fun q => ?_)
          · exact absurd q (by omega)
          · refine zW_aload_n dX10_manyEdges_24 rfl ?_
            refine zW_iload_n dX10_manyEdges_25 rfl ?_
            refine zW_iload_n dX10_manyEdges_26 rfl ?_
            refine zW_iload dX10_manyEdges_27 rfl ?_
            refine zcV3 dX10_manyEdges_29 rfl eX10_step b1688 ⟨by decide, by decide, by decide, by decide⟩ rfl h.1 rfl (by decide) (Nat.le_of_ble_eq_true rfl) (r_step (a := (v : Int)) h hG hg ok ⟨by omega, by omega⟩ (c := 2 * j) (by omega) ?_)
            rw [gst_n]
            refine zW_iconst dX10_manyEdges_32 ?_
            have e2 : ((2 * j : Nat) : Int) + 2 = ((2 * (j + 1) : Nat) : Int) := by omega
            refine zW_icmp_eq (tgt := 39) dX10_manyEdges_33 (by decide) (by first | assumption | omega | (unfold InR; omega) | (unfold InL; omega) | (simp only [InR] at *; omega)) (by first | assumption | omega | (unfold InR; omega) | (unfold InL; omega) | (simp only [InR] at *; omega)) (fun q2 => ?_) (fun q2 => ?_)
            · refine zW_iinc dX10_manyEdges_39 rfl (by decide) rfl rfl ?_
              refine zW_goto (tgt := 17) dX10_manyEdges_42 (by decide) ?_
              rw [e2]
              rw [if_neg (fun z => z q2)] at hs
              rw [← Nat.add_zero (gEc G (4 * v + j)), ← hs]
              exact ih2 (j + 1) (by omega)
            · refine zW_iinc dX10_manyEdges_36 rfl (by decide) rfl rfl ?_
              refine zW_iinc dX10_manyEdges_39 rfl (by decide) rfl rfl ?_
              refine zW_goto (tgt := 17) dX10_manyEdges_42 (by decide) ?_
              rw [e2]
              rw [if_pos q2] at hs
              have e3 : ((gEc G (4 * v + j) : Nat) : Int) + 1 = ((gEc G (4 * v + (j + 1)) : Nat) : Int) := by
                rw [show 4 * v + (j + 1) = 4 * v + j + 1 by omega, hs]; rfl
              rw [e3]
              exact ih2 (j + 1) (by omega)
      refine zW_iload_n dX10_manyEdges_4 rfl ?_
      refine zW_aload_n dX10_manyEdges_5 rfl ?_
      refine zgP dX10_manyEdges_6 fX10_44 h.1 rfl h.p_sizes ?_
      refine zW_iload_n dX10_manyEdges_9 rfl ?_
      refine zrI dX10_manyEdges_10 h.k_sizes (by first | assumption | omega | (unfold InR; omega) | (unfold InL; omega) | (simp only [InR] at *; omega)) (by first | assumption | omega | (unfold InR; omega) | (unfold InL; omega) | (simp only [InR] at *; omega)) (by first | assumption | omega | (unfold InR; omega) | (unfold InL; omega) | (simp only [InR] at *; omega)) hG.1 ?_
      refine zW_icmp_ge (tgt := 51) dX10_manyEdges_11 (by decide) (by first | assumption | omega | (unfold InR; omega) | (unfold InL; omega) | (simp only [InR] at *; omega)) (by first | assumption | omega | (unfold InR; omega) | (unfold InL; omega) | (simp only [InR] at *; omega)) (fun q => ?_) (fun q => ?_)
      · exact absurd q (by omega)
      · refine zW_iconst dX10_manyEdges_14 ?_
        refine zW_istore dX10_manyEdges_15 (by decide) rfl rfl ?_
        exact inner 4 0 rfl
  refine zW_iconst dX10_manyEdges_0 ?_
  refine zW_istore_n dX10_manyEdges_1 (by decide) rfl rfl ?_
  refine zW_iconst dX10_manyEdges_2 ?_
  refine zW_istore_n dX10_manyEdges_3 (by decide) rfl rfl ?_
  exact outer (gV G) 0 none (by omega)
set_option maxRecDepth 100000 in
theorem r_rankOf (h : RK σ y) (hG : RG σ y g G) (hg : g < 2) (ok : GOK G) (hQ : Q (.inl (some (vI ((gE G : Int) - gV G + 1)))) σ) : zM Γ mX10_rankOf [vR (some y), vI g] σ Q := by
  have v9 := ok.2.1
  refine zM_of (n := 0) (by decide +kernel) rfl rfl rfl ?_
  refine zW_aload_n dX10_rankOf_0 rfl ?_
  refine zW_iload_n dX10_rankOf_1 rfl ?_
  refine zcV1 dX10_rankOf_2 rfl eX10_manyEdges b1684 ⟨by decide, by decide, by decide, by decide⟩ rfl h.1 rfl (by decide) (Nat.le_of_ble_eq_true rfl) (r_manyEdges h hG hg ok ?_)
  refine zW_aload_n dX10_rankOf_5 rfl ?_
  refine zgP dX10_rankOf_6 fX10_44 h.1 rfl h.p_sizes ?_
  refine zW_iload_n dX10_rankOf_9 rfl ?_
  refine zrI dX10_rankOf_10 h.k_sizes (by first | assumption | omega | (unfold InR; omega) | (unfold InL; omega) | (simp only [InR] at *; omega)) (by first | assumption | omega | (unfold InR; omega) | (unfold InL; omega) | (simp only [InR] at *; omega)) (by first | assumption | omega | (unfold InR; omega) | (unfold InL; omega) | (simp only [InR] at *; omega)) hG.1 ?_
  refine zW_isub dX10_rankOf_11 ?_
  refine zW_iconst dX10_rankOf_12 ?_
  refine zW_iadd dX10_rankOf_13 ?_
  refine zW_ireturn dX10_rankOf_14 rfl rfl (by first | decide | (show _ ≤ (0 : Nat); omega)) (by first | decide | (show _ ≤ (0 : Nat); omega)) ?_
  exact hQ
set_option maxRecDepth 100000 in
theorem r_indexOf {k : Nat} (h : RA σ y 0) (hk : zI σ (y + 1) (0 + 0) = (k : Int)) (hk1 : 1 ≤ k) (hk4 : k ≤ 4) (hl : ∀ v c, v < gV G → c < 8 → 2 * k ≤ c → gt G v c = -1) (hG : RG σ y g G) (hg : g < 2) (ok : GOK G) (hQ : Q (.inl (some (vI (cif (gcomp G k) (gV G) (-1))))) σ) : zM Γ mX10_indexOf [vR (some y), vI g] σ Q := by
  have v9 := ok.2.1
  have e9 := gE_le G
  have hf := gE_full ok hk1 hk4 hl
  have hmb : (k : Int) * (gV G : Int) = ((k * gV G : Nat) : Int) := (Int.natCast_mul k (gV G)).symm
  have hmc : k * gV G ≤ 4 * 355 := Nat.mul_le_mul hk4 v9
  refine zM_of (n := 0) (by decide +kernel) rfl rfl rfl ?_
  refine zW_aload_n dX10_indexOf_0 rfl ?_
  refine zW_iload_n dX10_indexOf_1 rfl ?_
  refine zcV1 dX10_indexOf_2 rfl eX10_manyEdges b1684 ⟨by decide, by decide, by decide, by decide⟩ rfl h.1.1 rfl (by decide) (Nat.le_of_ble_eq_true rfl) (r_manyEdges h.1 hG hg ok ?_)
  refine zW_aload_n dX10_indexOf_5 rfl ?_
  refine zW_iconst dX10_indexOf_6 ?_
  refine zcV1 dX10_indexOf_7 rfl eX10_get b1443 ⟨by decide, by decide, by decide, by decide⟩ rfl h.1.1 rfl (by decide) (Nat.le_of_ble_eq_true rfl) (r_get (k := 0) h (by omega) hk ?_)
  refine zW_aload_n dX10_indexOf_10 rfl ?_
  refine zgP dX10_indexOf_11 fX10_44 h.1.1 rfl h.1.p_sizes ?_
  refine zW_iload_n dX10_indexOf_14 rfl ?_
  refine zrI dX10_indexOf_15 h.1.k_sizes (by first | assumption | omega | (unfold InR; omega) | (unfold InL; omega) | (simp only [InR] at *; omega)) (by first | assumption | omega | (unfold InR; omega) | (unfold InL; omega) | (simp only [InR] at *; omega)) (by first | assumption | omega | (unfold InR; omega) | (unfold InL; omega) | (simp only [InR] at *; omega)) hG.1 ?_
  refine zW_imul dX10_indexOf_16 ?_
  rw [hmb]
  refine zW_icmp_ne (tgt := 29) dX10_indexOf_17 (by decide) (by first | assumption | omega | (unfold InR; omega) | (unfold InL; omega) | (simp only [InR] at *; omega)) (by first | assumption | omega | (unfold InR; omega) | (unfold InL; omega) | (simp only [InR] at *; omega)) (fun q => ?_) (fun q => ?_)
  · refine zW_iconst dX10_indexOf_29 ?_
    refine zW_ireturn dX10_indexOf_30 rfl rfl (by first | decide | (show _ ≤ (0 : Nat); omega)) (by first | decide | (show _ ≤ (0 : Nat); omega)) ?_
    rw [cif_f (fun z => q (by rw [hf.mpr z]))] at hQ
    exact hQ
  · refine zW_aload_n dX10_indexOf_20 rfl ?_
    refine zgP dX10_indexOf_21 fX10_44 h.1.1 rfl h.1.p_sizes ?_
    refine zW_iload_n dX10_indexOf_24 rfl ?_
    refine zrI dX10_indexOf_25 h.1.k_sizes (by first | assumption | omega | (unfold InR; omega) | (unfold InL; omega) | (simp only [InR] at *; omega)) (by first | assumption | omega | (unfold InR; omega) | (unfold InL; omega) | (simp only [InR] at *; omega)) (by first | assumption | omega | (unfold InR; omega) | (unfold InL; omega) | (simp only [InR] at *; omega)) hG.1 ?_
    refine zW_goto (tgt := 30) dX10_indexOf_26 (by decide) ?_
    refine zW_ireturn dX10_indexOf_30 rfl rfl (by first | decide | (show _ ≤ (0 : Nat); omega)) (by first | decide | (show _ ≤ (0 : Nat); omega)) ?_
    rw [cif_t (hf.mp (by omega))] at hQ
    exact hQ
set_option maxRecDepth 100000 in
theorem r_isClosedEverywhere {w : Nat} {l : List Nat} (h : RA σ y 0) (hG : RG σ y g G) (hg : g < 2) (ok : GOK G) (hw : Rw σ y (0 + w) l) (hb : 0 + w + 61 ≤ 13453) (h1 : (∀ v : Nat, v < gV G → gtr G v l = v) → Q (.inl (some (vI 1))) σ) (h0 : ¬ (∀ v : Nat, v < gV G → gtr G v l = v) → Q (.inl (some (vI 0))) σ) : zM Γ mX10_isClosedEverywhere [vR (some y), vI g, vI w] σ Q := by
  have v9 := ok.2.1
  refine zM_of (n := 1) (by decide +kernel) rfl rfl rfl ?_
  have loop : ∀ n v, v + n = gV G → (∀ u : Nat, u < v → gtr G u l = u) → zW Γ mX10_isClosedEverywhere 2 [some (vR (some y)), some (vI g), some (vI w), some (vI v)] [] σ 0 0 Q := by
    intro n
    induction n with
    | zero =>
      intro v hv hall
      refine zW_iload_n dX10_isClosedEverywhere_2 rfl ?_
      refine zW_aload_n dX10_isClosedEverywhere_3 rfl ?_
      refine zgP dX10_isClosedEverywhere_4 fX10_44 h.1.1 rfl h.1.p_sizes ?_
      refine zW_iload_n dX10_isClosedEverywhere_7 rfl ?_
      refine zrI dX10_isClosedEverywhere_8 h.1.k_sizes (by first | assumption | omega | (unfold InR; omega) | (unfold InL; omega) | (simp only [InR] at *; omega)) (by first | assumption | omega | (unfold InR; omega) | (unfold InL; omega) | (simp only [InR] at *; omega)) (by first | assumption | omega | (unfold InR; omega) | (unfold InL; omega) | (simp only [InR] at *; omega)) hG.1 ?_
      refine zW_icmp_ge (tgt := 31) dX10_isClosedEverywhere_9 (by decide) (by first | assumption | omega | (unfold InR; omega) | (unfold InL; omega) | (simp only [InR] at *; omega)) (by first | assumption | omega | (unfold InR; omega) | (unfold InL; omega) | (simp only [InR] at *; omega)) (fun q => ?_) (fun q => ?_)
      · refine zW_iconst dX10_isClosedEverywhere_31 ?_
        refine zW_ireturn dX10_isClosedEverywhere_32 rfl rfl (by first | decide | (show _ ≤ (0 : Nat); omega)) (by first | decide | (show _ ≤ (0 : Nat); omega)) ?_
        exact h1 (fun u hu => hall u (by omega))
      · exact absurd q (by omega)
    | succ n ih =>
      intro v hv hall
      have hgi : gin G (v : Int) := ⟨by omega, by omega⟩
      have hin := gtr_in ok hgi hw.2.2.2
      unfold gin at hin
      refine zW_iload_n dX10_isClosedEverywhere_2 rfl ?_
      refine zW_aload_n dX10_isClosedEverywhere_3 rfl ?_
      refine zgP dX10_isClosedEverywhere_4 fX10_44 h.1.1 rfl h.1.p_sizes ?_
      refine zW_iload_n dX10_isClosedEverywhere_7 rfl ?_
      refine zrI dX10_isClosedEverywhere_8 h.1.k_sizes (by first | assumption | omega | (unfold InR; omega) | (unfold InL; omega) | (simp only [InR] at *; omega)) (by first | assumption | omega | (unfold InR; omega) | (unfold InL; omega) | (simp only [InR] at *; omega)) (by first | assumption | omega | (unfold InR; omega) | (unfold InL; omega) | (simp only [InR] at *; omega)) hG.1 ?_
      refine zW_icmp_ge (tgt := 31) dX10_isClosedEverywhere_9 (by decide) (by first | assumption | omega | (unfold InR; omega) | (unfold InL; omega) | (simp only [InR] at *; omega)) (by first | assumption | omega | (unfold InR; omega) | (unfold InL; omega) | (simp only [InR] at *; omega)) (fun q => ?_) (fun q => ?_)
      · exact absurd q (by omega)
      · refine zW_aload_n dX10_isClosedEverywhere_12 rfl ?_
        refine zW_iload_n dX10_isClosedEverywhere_13 rfl ?_
        refine zW_iload_n dX10_isClosedEverywhere_14 rfl ?_
        refine zW_iload_n dX10_isClosedEverywhere_15 rfl ?_
        refine zcV3 dX10_isClosedEverywhere_16 rfl eX10_followsAll b1724 ⟨by decide, by decide, by decide, by decide⟩ rfl h.1.1 rfl (by decide) (Nat.le_of_ble_eq_true rfl) (r_followsAll h hG hg ok hw hb hgi ?_)
        refine zW_iload_n dX10_isClosedEverywhere_19 rfl ?_
        refine zW_icmp_eq (tgt := 25) dX10_isClosedEverywhere_20 (by decide) (by first | assumption | omega | (unfold InR; omega) | (unfold InL; omega) | (simp only [InR] at *; omega)) (by first | assumption | omega | (unfold InR; omega) | (unfold InL; omega) | (simp only [InR] at *; omega)) (fun q2 => ?_) (fun q2 => ?_)
        · refine zW_iinc dX10_isClosedEverywhere_25 rfl (by decide) rfl rfl ?_
          refine zW_goto (tgt := 2) dX10_isClosedEverywhere_28 (by decide) ?_
          refine ih (v + 1) (by omega) (fun u hu => ?_)
          by_cases e : u = v
          · rw [e]; exact q2
          · exact hall u (by omega)
        · refine zW_iconst dX10_isClosedEverywhere_23 ?_
          refine zW_ireturn dX10_isClosedEverywhere_24 rfl rfl (by first | decide | (show _ ≤ (0 : Nat); omega)) (by first | decide | (show _ ≤ (0 : Nat); omega)) ?_
          exact h0 (fun z => q2 (z v (by omega)))
  refine zW_iconst dX10_isClosedEverywhere_0 ?_
  refine zW_istore_n dX10_isClosedEverywhere_1 (by decide) rfl rfl ?_
  exact loop (gV G) 0 (by omega) (fun u hu => absurd hu (Nat.not_lt_zero u))
set_option maxRecDepth 100000 in
theorem r_powerOf {w : Nat} {l : List Nat} (h : RA σ y 0) (hG : RG σ y g G) (hg : g < 2) (ok : GOK G) (hw : Rw σ y (0 + w) l) (hb : 0 + w + 61 ≤ 13453) (hQ : Q (.inl (some (vI (scp G l)))) σ) : zM Γ mX10_powerOf [vR (some y), vI g, vI w] σ Q := by
  have v9 := ok.2.1
  have hl := hw.2.1
  have hcs := cs_le l
  have l1 : lt8 (l.take (cs l)) := fun z hz => hw.2.2.2 z (List.mem_of_mem_take hz)
  have l2 : lt8 ((l.take (l.length - cs l)).drop (cs l)) := fun z hz => hw.2.2.2 z (List.mem_of_mem_take (List.mem_of_mem_drop hz))
  have hst := gtr_in ok (gin0 ok) l1
  have hst' := hst
  unfold gin at hst'
  refine zM_of (n := 4) (by decide +kernel) rfl rfl rfl ?_
  have loop : ∀ n k (a : Int), k + n = gV G + 1 → gin G a → scp G l = scpF G ((l.take (l.length - cs l)).drop (cs l)) (gtr G 0 (l.take (cs l))) n k a → zW Γ mX10_powerOf 24 [some (vR (some y)), some (vI g), some (vI w), some (vI (cs l : Nat)), some (vI (gtr G 0 (l.take (cs l)))), some (vI a), some (vI k)] [] σ 0 0 Q := by
    intro n
    induction n with
    | zero =>
      intro k a hk ha he
      refine zW_iload dX10_powerOf_24 rfl ?_
      refine zW_aload_n dX10_powerOf_26 rfl ?_
      refine zgP dX10_powerOf_27 fX10_44 h.1.1 rfl h.1.p_sizes ?_
      refine zW_iload_n dX10_powerOf_30 rfl ?_
      refine zrI dX10_powerOf_31 h.1.k_sizes (by first | assumption | omega | (unfold InR; omega) | (unfold InL; omega) | (simp only [InR] at *; omega)) (by first | assumption | omega | (unfold InR; omega) | (unfold InL; omega) | (simp only [InR] at *; omega)) (by first | assumption | omega | (unfold InR; omega) | (unfold InL; omega) | (simp only [InR] at *; omega)) hG.1 ?_
      refine zW_icmp_gt (tgt := 75) dX10_powerOf_32 (by decide) (by first | assumption | omega | (unfold InR; omega) | (unfold InL; omega) | (simp only [InR] at *; omega)) (by first | assumption | omega | (unfold InR; omega) | (unfold InL; omega) | (simp only [InR] at *; omega)) (fun q => ?_) (fun q => ?_)
      · refine zW_iconst dX10_powerOf_75 ?_
        refine zW_ireturn dX10_powerOf_76 rfl rfl (by first | decide | (show _ ≤ (0 : Nat); omega)) (by first | decide | (show _ ≤ (0 : Nat); omega)) ?_
        rw [he] at hQ
        exact hQ
      · exact absurd q (by omega)
    | succ n ih =>
      intro k a hk ha he
      have he' : scp G l = if a = -1 then -1 else if gtr G a ((l.take (l.length - cs l)).drop (cs l)) = gtr G 0 (l.take (cs l)) then (k : Int) else scpF G ((l.take (l.length - cs l)).drop (cs l)) (gtr G 0 (l.take (cs l))) n (k + 1) (gtr G a ((l.take (l.length - cs l)).drop (cs l))) := he
      have ha' := ha
      unfold gin at ha'
      have hn := gtr_in ok ha l2
      have hn' := hn
      unfold gin at hn'
      refine zW_iload dX10_powerOf_24 rfl ?_
      refine zW_aload_n dX10_powerOf_26 rfl ?_
      refine zgP dX10_powerOf_27 fX10_44 h.1.1 rfl h.1.p_sizes ?_
      refine zW_iload_n dX10_powerOf_30 rfl ?_
      refine zrI dX10_powerOf_31 h.1.k_sizes (by first | assumption | omega | (unfold InR; omega) | (unfold InL; omega) | (simp only [InR] at *; omega)) (by first | assumption | omega | (unfold InR; omega) | (unfold InL; omega) | (simp only [InR] at *; omega)) (by first | assumption | omega | (unfold InR; omega) | (unfold InL; omega) | (simp only [InR] at *; omega)) hG.1 ?_
      refine zW_icmp_gt (tgt := 75) dX10_powerOf_32 (by decide) (by first | assumption | omega | (unfold InR; omega) | (unfold InL; omega) | (simp only [InR] at *; omega)) (by first | assumption | omega | (unfold InR; omega) | (unfold InL; omega) | (simp only [InR] at *; omega)) (fun q => ?_) (fun q => ?_)
      · exact absurd q (by omega)
      · refine zW_iload dX10_powerOf_35 rfl ?_
        refine zW_iconst dX10_powerOf_37 ?_
        refine zW_icmp_eq (tgt := 75) dX10_powerOf_38 (by decide) (by first | assumption | omega | (unfold InR; omega) | (unfold InL; omega) | (simp only [InR] at *; omega)) (by first | assumption | omega | (unfold InR; omega) | (unfold InL; omega) | (simp only [InR] at *; omega)) (fun q2 => ?_) (fun q2 => ?_)
        · refine zW_iconst dX10_powerOf_75 ?_
          refine zW_ireturn dX10_powerOf_76 rfl rfl (by first | decide | (show _ ≤ (0 : Nat); omega)) (by first | decide | (show _ ≤ (0 : Nat); omega)) ?_
          rw [if_pos q2] at he'
          rw [he'] at hQ
          exact hQ
        · rw [if_neg q2] at he'
          have e9 : (l.length : Int) - (cs l : Nat) = ((l.length - cs l : Nat) : Int) := by omega
          refine zW_aload_n dX10_powerOf_41 rfl ?_
          refine zW_iload_n dX10_powerOf_42 rfl ?_
          refine zW_iload dX10_powerOf_43 rfl ?_
          refine zW_iload_n dX10_powerOf_45 rfl ?_
          refine zW_iload_n dX10_powerOf_46 rfl ?_
          refine zW_aload_n dX10_powerOf_47 rfl ?_
          refine zW_iload_n dX10_powerOf_48 rfl ?_
          refine zcV1 dX10_powerOf_49 rfl eX10_get b1443 ⟨by decide, by decide, by decide, by decide⟩ rfl h.1.1 rfl (by decide) (Nat.le_of_ble_eq_true rfl) (r_get h (by omega) hw.1 ?_)
          refine zW_iload_n dX10_powerOf_52 rfl ?_
          refine zW_isub dX10_powerOf_53 ?_
          rw [e9]
          refine zcV5 dX10_powerOf_54 rfl eX10_follows b1728 ⟨by decide, by decide, by decide, by decide⟩ rfl h.1.1 rfl (by decide) (Nat.le_of_ble_eq_true rfl) (r_follows (from_ := cs l) (end_ := l.length - cs l) h hG hg ok hw hb ha (by omega) (by omega) ?_)
          refine zW_istore dX10_powerOf_57 (by decide) rfl rfl ?_
          refine zW_iload dX10_powerOf_59 rfl ?_
          refine zW_iload dX10_powerOf_61 rfl ?_
          refine zW_icmp_ne (tgt := 69) dX10_powerOf_63 (by decide) (by first | assumption | omega | (unfold InR; omega) | (unfold InL; omega) | (simp only [InR] at *; omega)) (by first | assumption | omega | (unfold InR; omega) | (unfold InL; omega) | (simp only [InR] at *; omega)) (fun q3 => ?_) (fun q3 => ?_)
          · rw [if_neg q3] at he'
            refine zW_iinc dX10_powerOf_69 rfl (by decide) rfl rfl ?_
            refine zW_goto (tgt := 24) dX10_powerOf_72 (by decide) ?_
            exact ih (k + 1) _ (by omega) hn he'
          · rw [if_pos q3] at he'
            refine zW_iload dX10_powerOf_66 rfl ?_
            refine zW_ireturn dX10_powerOf_68 rfl rfl (by first | decide | (show _ ≤ (0 : Nat); omega)) (by first | decide | (show _ ≤ (0 : Nat); omega)) ?_
            rw [he'] at hQ
            exact hQ
  refine zW_aload_n dX10_powerOf_0 rfl ?_
  refine zW_iload_n dX10_powerOf_1 rfl ?_
  refine zcV1 dX10_powerOf_2 rfl eX10_strips b1562 ⟨by decide, by decide, by decide, by decide⟩ rfl h.1.1 rfl (by decide) (Nat.le_of_ble_eq_true rfl) (r_strips h hw hb ?_)
  refine zW_istore_n dX10_powerOf_5 (by decide) rfl rfl ?_
  refine zW_aload_n dX10_powerOf_6 rfl ?_
  refine zW_iload_n dX10_powerOf_7 rfl ?_
  refine zW_iconst dX10_powerOf_8 ?_
  refine zW_iload_n dX10_powerOf_9 rfl ?_
  refine zW_iconst dX10_powerOf_10 ?_
  refine zW_iload_n dX10_powerOf_11 rfl ?_
  refine zcV5 dX10_powerOf_12 rfl eX10_follows b1728 ⟨by decide, by decide, by decide, by decide⟩ rfl h.1.1 rfl (by decide) (Nat.le_of_ble_eq_true rfl) (r_follows (from_ := 0) (end_ := cs l) h hG hg ok hw hb (gin0 ok) (by omega) (by omega) ?_)
  rw [List.drop_zero]
  refine zW_istore dX10_powerOf_15 (by decide) rfl rfl ?_
  refine zW_iload dX10_powerOf_17 rfl ?_
  refine zW_istore dX10_powerOf_19 (by decide) rfl rfl ?_
  refine zW_iconst dX10_powerOf_21 ?_
  refine zW_istore dX10_powerOf_22 (by decide) rfl rfl ?_
  exact loop (gV G) 1 _ (by omega) hst rfl
set_option maxRecDepth 100000 in
theorem r_depthOf {v : Nat} (h : RK σ y) (hG : RG σ y g G) (hg : g < 2) (ok : GOK G) (hv : v < gV G) (hQ : Q (.inl (some (vI (gde G v : Nat)))) σ) : zM Γ mX10_depthOf [vR (some y), vI g, vI v] σ Q := by
  have v9 := ok.2.1
  refine zM_of (n := 2) (by decide +kernel) rfl rfl rfl ?_
  have loop : ∀ u n, u < gV G → n + gde G u = gde G v → zW Γ mX10_depthOf 5 [some (vR (some y)), some (vI g), some (vI v), some (vI n), some (vI u)] [] σ 0 0 Q := by
    intro u
    induction u using Nat.strongRecOn with
    | ind u ih =>
      intro n hu he
      refine zW_iload dX10_depthOf_5 rfl ?_
      refine zW_if_eq (tgt := 31) dX10_depthOf_7 (by decide) (by first | assumption | omega | (unfold InR; omega) | (unfold InL; omega) | (simp only [InR] at *; omega)) (fun q => ?_) (fun q => ?_)
      · refine zW_iload_n dX10_depthOf_31 rfl ?_
        refine zW_ireturn dX10_depthOf_32 rfl rfl (by first | decide | (show _ ≤ (0 : Nat); omega)) (by first | decide | (show _ ≤ (0 : Nat); omega)) ?_
        have e : u = 0 := by omega
        rw [e, ok.2.2.2.2.2, Nat.add_zero] at he
        rw [he]
        exact hQ
      · obtain ⟨k1, k2, k3, k4⟩ := ok.2.2.2.2.1 u (by omega) hu
        refine zW_iinc dX10_depthOf_10 rfl (by decide) rfl rfl ?_
        refine zW_aload_n dX10_depthOf_13 rfl ?_
        refine zgP dX10_depthOf_14 fX10_47 h.1 rfl h.p_cameFrom ?_
        refine zW_sipush dX10_depthOf_17 (by decide) ?_
        refine zW_iload_n dX10_depthOf_20 rfl ?_
        refine zW_imul dX10_depthOf_21 ?_
        refine zW_iload dX10_depthOf_22 rfl ?_
        refine zW_iadd dX10_depthOf_24 ?_
        refine zrI dX10_depthOf_25 h.k_cameFrom (by first | assumption | omega | (unfold InR; omega) | (unfold InL; omega) | (simp only [InR] at *; omega)) (by first | assumption | omega | (unfold InR; omega) | (unfold InL; omega) | (simp only [InR] at *; omega)) (by first | assumption | omega | (unfold InR; omega) | (unfold InL; omega) | (simp only [InR] at *; omega)) (zix (f := zI σ (y + 12)) (j := 361 * g + u) (by omega) (hG.2.2.2 u (by omega) hu).1) ?_
        refine zW_istore dX10_depthOf_26 (by decide) rfl rfl ?_
        refine zW_goto (tgt := 5) dX10_depthOf_28 (by decide) ?_
        exact ih (gpa G u) k1 (n + 1) (by omega) (by omega)
  refine zW_iconst dX10_depthOf_0 ?_
  refine zW_istore_n dX10_depthOf_1 (by decide) rfl rfl ?_
  refine zW_iload_n dX10_depthOf_2 rfl ?_
  refine zW_istore dX10_depthOf_3 (by decide) rfl rfl ?_
  exact loop v 0 hv (by omega)
set_option maxRecDepth 100000 in
/-- the graph of a subgroup is made -/
theorem q_makes {f : Int} (fk : inR2 f) (h : RI σ y A) (hQ : ∀ σ1, RG σ1 y f.toNat (gr A f) → IsGr (sGw (aSt A) f.toNat) (gr A f) → RI σ1 y A → Mr σ σ1 y [20, 21] [7, 8, 9, 10, 11, 12, 13, 14, 15] → (∀ e, e < 2 → e ≠ f.toNat → ∀ G, gV G ≤ 361 → RG σ y e G → RG σ1 y e G) → Q (.inl none) σ1) : zM Γ mX10_makes [vR (some y), vI f] σ Q := by
  have ef : f = ((f.toNat : Nat) : Int) := by unfold inR2 at fk; omega
  have hf2 : f.toNat < 2 := by unfold inR2 at fk; omega
  have := r_makes (Γ := Γ) (Q := Q) (g := f.toNat) h.ra h.2.2.1 hf2 (fun σ1 a1 a2 a3 a4 => hQ σ1 a1 a2 (h.mr a4) a4 a3)
  rw [← ef] at this
  exact this
set_option maxRecDepth 100000 in
theorem AO.gl (ao : AO A) {f : Int} (fk : inR2 f) (hI : IsGr (sGw (aSt A) f.toNat) (gr A f)) : ∀ v c, v < gV (gr A f) → c < 8 → 2 * sRk (aSt A) ≤ c → gt (gr A f) v c = -1 := fun v c hv hc h2 => by
  have hf2 : f.toNat < 2 := by unfold inR2 at fk; omega
  exact gr_let hI ao.1.1.2 (fun w hw => ((ao.1.2.2 f.toNat hf2).2 w hw).2.2) hv hc h2
set_option maxRecDepth 100000 in
theorem q_vertexCount {f : Int} (h : RI σ y A) (if_ : InR f) (hQ : RQ σ y (o_vertexCount A f) Q) : zM Γ mX10_vertexCount [vR (some y), vI f] σ Q := by
  refine zM_of (n := 0) (by decide +kernel) rfl rfl rfl ?_
  refine zW_aload_n dX10_vertexCount_0 rfl ?_
  refine zW_iconst dX10_vertexCount_1 ?_
  refine zpI dX10_vertexCount_2 fX10_75 h.1.1 rfl (Or.inl rfl) (zst_int _) ?_
  have m0 : Mr σ (sO σ y 0 0) y KS RS := Mr.O (by decide)
  have h0 := h.mr m0
  have t0 : zO (sO σ y 0 0) y 0 = 0 := zO_sOs _ _ _ _
  generalize sO σ y 0 0 = σ0 at m0 h0 t0 ⊢
  have a0 : RA σ0 y 0 := h0.ra
  refine zW_iload_n dX10_vertexCount_5 rfl ?_
  refine zcS1 dX10_vertexCount_6 rfl eX10_isSubgroup b1637 ⟨by decide, by decide, by decide, by decide⟩ rfl (Nat.le_of_ble_eq_true rfl) (r_isSubgroup if_ (fun fk => ?_) (fun fk => ?_))
  · refine zW_if_ne (tgt := 18) dX10_vertexCount_9 (by decide) (by first | assumption | omega | (unfold InR; omega) | (unfold InL; omega) | (simp only [InR] at *; omega)) (fun q => ?_) (fun q => ?_)
    · refine zW_aload_n dX10_vertexCount_18 rfl ?_
      refine zW_iload_n dX10_vertexCount_19 rfl ?_
      refine zcV1 dX10_vertexCount_20 rfl eX10_makes b1644 ⟨by decide, by decide, by decide, by decide⟩ rfl a0.1.1 rfl (by decide) (Nat.le_of_ble_eq_true rfl) (q_makes fk h0 (fun σ1 hG hIs h1 m1 hoth => ?_))
      have ok := hIs.ok
      have v9 := ok.2.1
      have hf2 : f.toNat < 2 := by unfold inR2 at fk; omega
      have ef : f = ((f.toNat : Nat) : Int) := by unfold inR2 at fk; omega
      have a1 := h1.ra
      have m01 : Mr σ σ1 y KS RS := m0.th m1 (by decide) (by decide)
      have t1 : zO σ1 y 0 = 0 := by rw [m1.o (by decide)]; exact t0
      refine zW_aload_n dX10_vertexCount_23 rfl ?_
      refine zgP dX10_vertexCount_24 fX10_44 a1.1.1 rfl a1.1.p_sizes ?_
      refine zW_iload_n dX10_vertexCount_27 rfl ?_
      refine zrI dX10_vertexCount_28 a1.1.k_sizes (by first | assumption | omega | (unfold InR; omega) | (unfold InL; omega) | (simp only [InR] at *; omega)) (by first | assumption | omega | (unfold InR; omega) | (unfold InL; omega) | (simp only [InR] at *; omega)) (by first | assumption | omega | (unfold InR; omega) | (unfold InL; omega) | (simp only [InR] at *; omega)) hG.1 ?_
      refine zW_ireturn dX10_vertexCount_29 rfl rfl (by first | decide | (show _ ≤ (0 : Nat); omega)) (by first | decide | (show _ ≤ (0 : Nat); omega)) ?_
      exact hQ.ask (if_pos fk) h m01 t1
    · exact absurd q (by decide)
  · refine zW_if_ne (tgt := 18) dX10_vertexCount_9 (by decide) (by first | assumption | omega | (unfold InR; omega) | (unfold InL; omega) | (simp only [InR] at *; omega)) (fun q => ?_) (fun q => ?_)
    · exact absurd rfl q
    · refine zW_aload_n dX10_vertexCount_12 rfl ?_
      refine zW_iconst dX10_vertexCount_13 ?_
      refine zcV1 dX10_vertexCount_14 rfl eX10_fails b1371 ⟨by decide, by decide, by decide, by decide⟩ rfl a0.1.1 rfl (by decide) (Nat.le_of_ble_eq_true rfl) (r_fails a0.1 ?_)
      refine zW_ireturn dX10_vertexCount_17 rfl rfl (by first | decide | (show _ ≤ (0 : Nat); omega)) (by first | decide | (show _ ≤ (0 : Nat); omega)) ?_
      exact hQ.bad (k := 0) (if_neg fk) h (m0.th (Mr.O (Ks := KS) (Rs := RS) (by decide)) (fun _ z => z) (fun _ z => z)) (zO_sOs _ _ _ _)
set_option maxRecDepth 100000 in
theorem q_edgeCount {f : Int} (h : RI σ y A) (if_ : InR f) (hQ : RQ σ y (o_edgeCount A f) Q) : zM Γ mX10_edgeCount [vR (some y), vI f] σ Q := by
  refine zM_of (n := 0) (by decide +kernel) rfl rfl rfl ?_
  refine zW_aload_n dX10_edgeCount_0 rfl ?_
  refine zW_iconst dX10_edgeCount_1 ?_
  refine zpI dX10_edgeCount_2 fX10_75 h.1.1 rfl (Or.inl rfl) (zst_int _) ?_
  have m0 : Mr σ (sO σ y 0 0) y KS RS := Mr.O (by decide)
  have h0 := h.mr m0
  have t0 : zO (sO σ y 0 0) y 0 = 0 := zO_sOs _ _ _ _
  generalize sO σ y 0 0 = σ0 at m0 h0 t0 ⊢
  have a0 : RA σ0 y 0 := h0.ra
  refine zW_iload_n dX10_edgeCount_5 rfl ?_
  refine zcS1 dX10_edgeCount_6 rfl eX10_isSubgroup b1637 ⟨by decide, by decide, by decide, by decide⟩ rfl (Nat.le_of_ble_eq_true rfl) (r_isSubgroup if_ (fun fk => ?_) (fun fk => ?_))
  · refine zW_if_ne (tgt := 18) dX10_edgeCount_9 (by decide) (by first | assumption | omega | (unfold InR; omega) | (unfold InL; omega) | (simp only [InR] at *; omega)) (fun q => ?_) (fun q => ?_)
    · refine zW_aload_n dX10_edgeCount_18 rfl ?_
      refine zW_iload_n dX10_edgeCount_19 rfl ?_
      refine zcV1 dX10_edgeCount_20 rfl eX10_makes b1644 ⟨by decide, by decide, by decide, by decide⟩ rfl a0.1.1 rfl (by decide) (Nat.le_of_ble_eq_true rfl) (q_makes fk h0 (fun σ1 hG hIs h1 m1 hoth => ?_))
      have ok := hIs.ok
      have v9 := ok.2.1
      have hf2 : f.toNat < 2 := by unfold inR2 at fk; omega
      have ef : f = ((f.toNat : Nat) : Int) := by unfold inR2 at fk; omega
      have a1 := h1.ra
      have m01 : Mr σ σ1 y KS RS := m0.th m1 (by decide) (by decide)
      have t1 : zO σ1 y 0 = 0 := by rw [m1.o (by decide)]; exact t0
      have hcall : ∀ R, R (.inl (some (vI ((gE (gr A f) : Nat))))) σ1 → zM Γ mX10_manyEdges [vR (some y), vI f] σ1 R := fun R hR => by
        have := r_manyEdges (Γ := Γ) (Q := R) a1.1 hG hf2 ok hR
        rw [← ef] at this
        exact this
      refine zW_aload_n dX10_edgeCount_23 rfl ?_
      refine zW_iload_n dX10_edgeCount_24 rfl ?_
      refine zcV1 dX10_edgeCount_25 rfl eX10_manyEdges b1684 ⟨by decide, by decide, by decide, by decide⟩ rfl a1.1.1 rfl (by decide) (Nat.le_of_ble_eq_true rfl) (hcall _ ?_)
      refine zW_ireturn dX10_edgeCount_28 rfl rfl (by first | decide | (show _ ≤ (0 : Nat); omega)) (by first | decide | (show _ ≤ (0 : Nat); omega)) ?_
      exact hQ.ask (if_pos fk) h m01 t1
    · exact absurd q (by decide)
  · refine zW_if_ne (tgt := 18) dX10_edgeCount_9 (by decide) (by first | assumption | omega | (unfold InR; omega) | (unfold InL; omega) | (simp only [InR] at *; omega)) (fun q => ?_) (fun q => ?_)
    · exact absurd rfl q
    · refine zW_aload_n dX10_edgeCount_12 rfl ?_
      refine zW_iconst dX10_edgeCount_13 ?_
      refine zcV1 dX10_edgeCount_14 rfl eX10_fails b1371 ⟨by decide, by decide, by decide, by decide⟩ rfl a0.1.1 rfl (by decide) (Nat.le_of_ble_eq_true rfl) (r_fails a0.1 ?_)
      refine zW_ireturn dX10_edgeCount_17 rfl rfl (by first | decide | (show _ ≤ (0 : Nat); omega)) (by first | decide | (show _ ≤ (0 : Nat); omega)) ?_
      exact hQ.bad (k := 0) (if_neg fk) h (m0.th (Mr.O (Ks := KS) (Rs := RS) (by decide)) (fun _ z => z) (fun _ z => z)) (zO_sOs _ _ _ _)
set_option maxRecDepth 100000 in
theorem q_subgroupRank {f : Int} (h : RI σ y A) (if_ : InR f) (hQ : RQ σ y (o_subgroupRank A f) Q) : zM Γ mX10_subgroupRank [vR (some y), vI f] σ Q := by
  refine zM_of (n := 0) (by decide +kernel) rfl rfl rfl ?_
  refine zW_aload_n dX10_subgroupRank_0 rfl ?_
  refine zW_iconst dX10_subgroupRank_1 ?_
  refine zpI dX10_subgroupRank_2 fX10_75 h.1.1 rfl (Or.inl rfl) (zst_int _) ?_
  have m0 : Mr σ (sO σ y 0 0) y KS RS := Mr.O (by decide)
  have h0 := h.mr m0
  have t0 : zO (sO σ y 0 0) y 0 = 0 := zO_sOs _ _ _ _
  generalize sO σ y 0 0 = σ0 at m0 h0 t0 ⊢
  have a0 : RA σ0 y 0 := h0.ra
  refine zW_iload_n dX10_subgroupRank_5 rfl ?_
  refine zcS1 dX10_subgroupRank_6 rfl eX10_isSubgroup b1637 ⟨by decide, by decide, by decide, by decide⟩ rfl (Nat.le_of_ble_eq_true rfl) (r_isSubgroup if_ (fun fk => ?_) (fun fk => ?_))
  · refine zW_if_ne (tgt := 18) dX10_subgroupRank_9 (by decide) (by first | assumption | omega | (unfold InR; omega) | (unfold InL; omega) | (simp only [InR] at *; omega)) (fun q => ?_) (fun q => ?_)
    · refine zW_aload_n dX10_subgroupRank_18 rfl ?_
      refine zW_iload_n dX10_subgroupRank_19 rfl ?_
      refine zcV1 dX10_subgroupRank_20 rfl eX10_makes b1644 ⟨by decide, by decide, by decide, by decide⟩ rfl a0.1.1 rfl (by decide) (Nat.le_of_ble_eq_true rfl) (q_makes fk h0 (fun σ1 hG hIs h1 m1 hoth => ?_))
      have ok := hIs.ok
      have v9 := ok.2.1
      have hf2 : f.toNat < 2 := by unfold inR2 at fk; omega
      have ef : f = ((f.toNat : Nat) : Int) := by unfold inR2 at fk; omega
      have a1 := h1.ra
      have m01 : Mr σ σ1 y KS RS := m0.th m1 (by decide) (by decide)
      have t1 : zO σ1 y 0 = 0 := by rw [m1.o (by decide)]; exact t0
      have hcall : ∀ R, R (.inl (some (vI ((gE (gr A f) : Int) - gV (gr A f) + 1)))) σ1 → zM Γ mX10_rankOf [vR (some y), vI f] σ1 R := fun R hR => by
        have := r_rankOf (Γ := Γ) (Q := R) a1.1 hG hf2 ok hR
        rw [← ef] at this
        exact this
      refine zW_aload_n dX10_subgroupRank_23 rfl ?_
      refine zW_iload_n dX10_subgroupRank_24 rfl ?_
      refine zcV1 dX10_subgroupRank_25 rfl eX10_rankOf b1704 ⟨by decide, by decide, by decide, by decide⟩ rfl a1.1.1 rfl (by decide) (Nat.le_of_ble_eq_true rfl) (hcall _ ?_)
      refine zW_ireturn dX10_subgroupRank_28 rfl rfl (by first | decide | (show _ ≤ (0 : Nat); omega)) (by first | decide | (show _ ≤ (0 : Nat); omega)) ?_
      exact hQ.ask (if_pos fk) h m01 t1
    · exact absurd q (by decide)
  · refine zW_if_ne (tgt := 18) dX10_subgroupRank_9 (by decide) (by first | assumption | omega | (unfold InR; omega) | (unfold InL; omega) | (simp only [InR] at *; omega)) (fun q => ?_) (fun q => ?_)
    · exact absurd rfl q
    · refine zW_aload_n dX10_subgroupRank_12 rfl ?_
      refine zW_iconst dX10_subgroupRank_13 ?_
      refine zcV1 dX10_subgroupRank_14 rfl eX10_fails b1371 ⟨by decide, by decide, by decide, by decide⟩ rfl a0.1.1 rfl (by decide) (Nat.le_of_ble_eq_true rfl) (r_fails a0.1 ?_)
      refine zW_ireturn dX10_subgroupRank_17 rfl rfl (by first | decide | (show _ ≤ (0 : Nat); omega)) (by first | decide | (show _ ≤ (0 : Nat); omega)) ?_
      exact hQ.bad (k := 0) (if_neg fk) h (m0.th (Mr.O (Ks := KS) (Rs := RS) (by decide)) (fun _ z => z) (fun _ z => z)) (zO_sOs _ _ _ _)
set_option maxRecDepth 100000 in
theorem q_index {f : Int} (h : RI σ y A) (if_ : InR f) (ao : AO A) (hQ : RQ σ y (o_index A f) Q) : zM Γ mX10_index [vR (some y), vI f] σ Q := by
  refine zM_of (n := 0) (by decide +kernel) rfl rfl rfl ?_
  refine zW_aload_n dX10_index_0 rfl ?_
  refine zW_iconst dX10_index_1 ?_
  refine zpI dX10_index_2 fX10_75 h.1.1 rfl (Or.inl rfl) (zst_int _) ?_
  have m0 : Mr σ (sO σ y 0 0) y KS RS := Mr.O (by decide)
  have h0 := h.mr m0
  have t0 : zO (sO σ y 0 0) y 0 = 0 := zO_sOs _ _ _ _
  generalize sO σ y 0 0 = σ0 at m0 h0 t0 ⊢
  have a0 : RA σ0 y 0 := h0.ra
  refine zW_iload_n dX10_index_5 rfl ?_
  refine zcS1 dX10_index_6 rfl eX10_isSubgroup b1637 ⟨by decide, by decide, by decide, by decide⟩ rfl (Nat.le_of_ble_eq_true rfl) (r_isSubgroup if_ (fun fk => ?_) (fun fk => ?_))
  · refine zW_if_ne (tgt := 18) dX10_index_9 (by decide) (by first | assumption | omega | (unfold InR; omega) | (unfold InL; omega) | (simp only [InR] at *; omega)) (fun q => ?_) (fun q => ?_)
    · refine zW_aload_n dX10_index_18 rfl ?_
      refine zW_iload_n dX10_index_19 rfl ?_
      refine zcV1 dX10_index_20 rfl eX10_makes b1644 ⟨by decide, by decide, by decide, by decide⟩ rfl a0.1.1 rfl (by decide) (Nat.le_of_ble_eq_true rfl) (q_makes fk h0 (fun σ1 hG hIs h1 m1 hoth => ?_))
      have ok := hIs.ok
      have v9 := ok.2.1
      have hf2 : f.toNat < 2 := by unfold inR2 at fk; omega
      have ef : f = ((f.toNat : Nat) : Int) := by unfold inR2 at fk; omega
      have a1 := h1.ra
      have m01 : Mr σ σ1 y KS RS := m0.th m1 (by decide) (by decide)
      have t1 : zO σ1 y 0 = 0 := by rw [m1.o (by decide)]; exact t0
      have hcall : ∀ R, R (.inl (some (vI (cif (gcomp (gr A f) (sRk (aSt A))) (gV (gr A f)) (-1))))) σ1 → zM Γ mX10_indexOf [vR (some y), vI f] σ1 R := fun R hR => by
        have := r_indexOf (Γ := Γ) (Q := R) a1 h1.rk ao.1.1.1 ao.1.1.2 (ao.gl fk hIs) hG hf2 ok hR
        rw [← ef] at this
        exact this
      refine zW_aload_n dX10_index_23 rfl ?_
      refine zW_iload_n dX10_index_24 rfl ?_
      refine zcV1 dX10_index_25 rfl eX10_indexOf b1712 ⟨by decide, by decide, by decide, by decide⟩ rfl a1.1.1 rfl (by decide) (Nat.le_of_ble_eq_true rfl) (hcall _ ?_)
      refine zW_ireturn dX10_index_28 rfl rfl (by first | decide | (show _ ≤ (0 : Nat); omega)) (by first | decide | (show _ ≤ (0 : Nat); omega)) ?_
      exact hQ.ask (if_pos fk) h m01 t1
    · exact absurd q (by decide)
  · refine zW_if_ne (tgt := 18) dX10_index_9 (by decide) (by first | assumption | omega | (unfold InR; omega) | (unfold InL; omega) | (simp only [InR] at *; omega)) (fun q => ?_) (fun q => ?_)
    · exact absurd rfl q
    · refine zW_aload_n dX10_index_12 rfl ?_
      refine zW_iconst dX10_index_13 ?_
      refine zcV1 dX10_index_14 rfl eX10_fails b1371 ⟨by decide, by decide, by decide, by decide⟩ rfl a0.1.1 rfl (by decide) (Nat.le_of_ble_eq_true rfl) (r_fails a0.1 ?_)
      refine zW_ireturn dX10_index_17 rfl rfl (by first | decide | (show _ ≤ (0 : Nat); omega)) (by first | decide | (show _ ≤ (0 : Nat); omega)) ?_
      exact hQ.bad (k := 0) (if_neg fk) h (m0.th (Mr.O (Ks := KS) (Rs := RS) (by decide)) (fun _ z => z) (fun _ z => z)) (zO_sOs _ _ _ _)
set_option maxRecDepth 100000 in
theorem q_isNormal {f : Int} (h : RI σ y A) (if_ : InR f) (ao : AO A) (hQ : RQ σ y (o_isNormal A f) Q) : zM Γ mX10_isNormal [vR (some y), vI f] σ Q := by
  refine zM_of (n := 2) (by decide +kernel) rfl rfl rfl ?_
  refine zW_aload_n dX10_isNormal_0 rfl ?_
  refine zW_iconst dX10_isNormal_1 ?_
  refine zpI dX10_isNormal_2 fX10_75 h.1.1 rfl (Or.inl rfl) (zst_int _) ?_
  have m0 : Mr σ (sO σ y 0 0) y KS RS := Mr.O (by decide)
  have h0 := h.mr m0
  have t0 : zO (sO σ y 0 0) y 0 = 0 := zO_sOs _ _ _ _
  generalize sO σ y 0 0 = σ0 at m0 h0 t0 ⊢
  have a0 : RA σ0 y 0 := h0.ra
  refine zW_iload_n dX10_isNormal_5 rfl ?_
  refine zcS1 dX10_isNormal_6 rfl eX10_isSubgroup b1637 ⟨by decide, by decide, by decide, by decide⟩ rfl (Nat.le_of_ble_eq_true rfl) (r_isSubgroup if_ (fun fk => ?_) (fun fk => ?_))
  · refine zW_if_ne (tgt := 27) dX10_isNormal_9 (by decide) (by first | assumption | omega | (unfold InR; omega) | (unfold InL; omega) | (simp only [InR] at *; omega)) (fun q => ?_) (fun q => ?_)
    · refine zW_aload_n dX10_isNormal_27 rfl ?_
      refine zW_iload_n dX10_isNormal_28 rfl ?_
      refine zcV1 dX10_isNormal_29 rfl eX10_makes b1644 ⟨by decide, by decide, by decide, by decide⟩ rfl a0.1.1 rfl (by decide) (Nat.le_of_ble_eq_true rfl) (q_makes fk h0 (fun σ1 hG hIs h1 m1 hoth => ?_))
      have ok := hIs.ok
      have v9 := ok.2.1
      have hf2 : f.toNat < 2 := by unfold inR2 at fk; omega
      have ef : f = ((f.toNat : Nat) : Int) := by unfold inR2 at fk; omega
      have a1 := h1.ra
      have m01 : Mr σ σ1 y KS RS := m0.th m1 (by decide) (by decide)
      have t1 : zO σ1 y 0 = 0 := by rw [m1.o (by decide)]; exact t0
      have hidx : ∀ R, R (.inl (some (vI (cif (gcomp (gr A f) (sRk (aSt A))) (gV (gr A f)) (-1))))) σ1 → zM Γ mX10_indexOf [vR (some y), vI f] σ1 R := fun R hR => by
        have := r_indexOf (Γ := Γ) (Q := R) a1 h1.rk ao.1.1.1 ao.1.1.2 (ao.gl fk hIs) hG hf2 ok hR
        rw [← ef] at this
        exact this
      have hcall : ∀ R, R (.inl (some (vI ((gE (gr A f) : Int) - gV (gr A f) + 1)))) σ1 → zM Γ mX10_rankOf [vR (some y), vI f] σ1 R := fun R hR => by
        have := r_rankOf (Γ := Γ) (Q := R) a1.1 hG hf2 ok hR
        rw [← ef] at this
        exact this
      have hE9 := gE_le (gr A f)
      have hS1 := h1.2.2.1
      have h6 := (hS1.2.2 f.toNat hf2).2.1
      refine zW_aload_n dX10_isNormal_32 rfl ?_
      refine zW_iload_n dX10_isNormal_33 rfl ?_
      refine zcV1 dX10_isNormal_34 rfl eX10_rankOf b1704 ⟨by decide, by decide, by decide, by decide⟩ rfl a1.1.1 rfl (by decide) (Nat.le_of_ble_eq_true rfl) (hcall _ ?_)
      refine zW_if_ne (tgt := 42) dX10_isNormal_37 (by decide) (by first | assumption | omega | (unfold InR; omega) | (unfold InL; omega) | (simp only [InR] at *; omega)) (fun q2 => ?_) (fun q2 => ?_)
      · have yes : (gcomp (gr A f) (sRk (aSt A)) ∧ ∀ w ∈ sGw (aSt A) f.toNat, ∀ v : Nat, v < gV (gr A f) → gtr (gr A f) v w = v) → Q (.inl (some (vI 1))) σ1 := fun z => hQ.ask (by unfold o_isNormal gg1; rw [if_pos fk, cif_t (Or.inr z)]) h m01 t1
        have no : ¬ (gcomp (gr A f) (sRk (aSt A)) ∧ ∀ w ∈ sGw (aSt A) f.toNat, ∀ v : Nat, v < gV (gr A f) → gtr (gr A f) v w = v) → Q (.inl (some (vI 0))) σ1 := fun z => hQ.ask (by unfold o_isNormal gg1; rw [if_pos fk, cif_f (fun u => u.elim q2 z)]) h m01 t1
        have out0 : ∀ k : Nat, k ≤ (sGw (aSt A) f.toNat).length → ¬ (gcomp (gr A f) (sRk (aSt A)) ∧ ∀ w ∈ sGw (aSt A) f.toNat, ∀ v : Nat, v < gV (gr A f) → gtr (gr A f) v w = v) → zW Γ mX10_isNormal 59 [some (vR (some y)), some (vI f), some (vI 0), some (vI k)] [] σ1 0 0 Q := by
          intro k hk hno
          refine zW_iload_n dX10_isNormal_59 rfl ?_
          refine zW_aload_n dX10_isNormal_60 rfl ?_
          refine zW_iload_n dX10_isNormal_61 rfl ?_
          refine zcS1 dX10_isNormal_62 rfl eX10_wordsOf b1462 ⟨by decide, by decide, by decide, by decide⟩ rfl (Nat.le_of_ble_eq_true rfl) (r_wordsOf fk ?_)
          refine zcV1 dX10_isNormal_65 rfl eX10_get b1443 ⟨by decide, by decide, by decide, by decide⟩ rfl a1.1.1 rfl (by decide) (Nat.le_of_ble_eq_true rfl) (r_get a1 (by omega) (hS1.gc hf2) ?_)
          refine zW_icmp_ge (tgt := 92) dX10_isNormal_68 (by decide) (by first | assumption | omega | (unfold InR; omega) | (unfold InL; omega) | (simp only [InR] at *; omega)) (by first | assumption | omega | (unfold InR; omega) | (unfold InL; omega) | (simp only [InR] at *; omega)) (fun z => ?_) (fun z => ?_)
          · refine zW_iload_n dX10_isNormal_92 rfl ?_
            refine zW_ireturn dX10_isNormal_93 rfl rfl (by first | decide | (show _ ≤ (0 : Nat); omega)) (by first | decide | (show _ ≤ (0 : Nat); omega)) ?_
            exact no hno
          · refine zW_iload_n dX10_isNormal_71 rfl ?_
            refine zW_if_eq (tgt := 92) dX10_isNormal_72 (by decide) (by first | assumption | omega | (unfold InR; omega) | (unfold InL; omega) | (simp only [InR] at *; omega)) (fun z2 => ?_) (fun z2 => ?_)
            · refine zW_iload_n dX10_isNormal_92 rfl ?_
              refine zW_ireturn dX10_isNormal_93 rfl rfl (by first | decide | (show _ ≤ (0 : Nat); omega)) (by first | decide | (show _ ≤ (0 : Nat); omega)) ?_
              exact no hno
            · exact absurd rfl z2
        have loop : gcomp (gr A f) (sRk (aSt A)) → ∀ n k, k + n = (sGw (aSt A) f.toNat).length → (∀ j, j < k → ∀ v : Nat, v < gV (gr A f) → gtr (gr A f) v ((sGw (aSt A) f.toNat).getD j []) = v) → zW Γ mX10_isNormal 59 [some (vR (some y)), some (vI f), some (vI 1), some (vI k)] [] σ1 0 0 Q := by
          intro hgc n
          induction n with
          | zero =>
            intro k hk hall
            refine zW_iload_n dX10_isNormal_59 rfl ?_
            refine zW_aload_n dX10_isNormal_60 rfl ?_
            refine zW_iload_n dX10_isNormal_61 rfl ?_
            refine zcS1 dX10_isNormal_62 rfl eX10_wordsOf b1462 ⟨by decide, by decide, by decide, by decide⟩ rfl (Nat.le_of_ble_eq_true rfl) (r_wordsOf fk ?_)
            refine zcV1 dX10_isNormal_65 rfl eX10_get b1443 ⟨by decide, by decide, by decide, by decide⟩ rfl a1.1.1 rfl (by decide) (Nat.le_of_ble_eq_true rfl) (r_get a1 (by omega) (hS1.gc hf2) ?_)
            refine zW_icmp_ge (tgt := 92) dX10_isNormal_68 (by decide) (by first | assumption | omega | (unfold InR; omega) | (unfold InL; omega) | (simp only [InR] at *; omega)) (by first | assumption | omega | (unfold InR; omega) | (unfold InL; omega) | (simp only [InR] at *; omega)) (fun z => ?_) (fun z => ?_)
            · refine zW_iload_n dX10_isNormal_92 rfl ?_
              refine zW_ireturn dX10_isNormal_93 rfl rfl (by first | decide | (show _ ≤ (0 : Nat); omega)) (by first | decide | (show _ ≤ (0 : Nat); omega)) ?_
              refine yes ⟨hgc, fun w hw => ?_⟩
              obtain ⟨j, j1, j2⟩ := mem_getD hw
              rw [← j2]
              exact hall j (by omega)
            · exact absurd z (by omega)
          | succ n ih =>
            intro k hk hall
            have hw := hS1.gw hf2 (k := k) (by omega)
            have hcl : ∀ R, ((∀ v : Nat, v < gV (gr A f) → gtr (gr A f) v ((sGw (aSt A) f.toNat).getD k []) = v) → R (.inl (some (vI 1))) σ1) → (¬ (∀ v : Nat, v < gV (gr A f) → gtr (gr A f) v ((sGw (aSt A) f.toNat).getD k []) = v) → R (.inl (some (vI 0))) σ1) → zM Γ mX10_isClosedEverywhere [vR (some y), vI f, vI ((490 + 367 * f.toNat + 61 * k : Nat) : Int)] σ1 R := fun R hR1 hR0 => by
              have := r_isClosedEverywhere (Γ := Γ) (Q := R) a1 hG hf2 ok hw (by omega) hR1 hR0
              rw [← ef] at this
              exact this
            refine zW_iload_n dX10_isNormal_59 rfl ?_
            refine zW_aload_n dX10_isNormal_60 rfl ?_
            refine zW_iload_n dX10_isNormal_61 rfl ?_
            refine zcS1 dX10_isNormal_62 rfl eX10_wordsOf b1462 ⟨by decide, by decide, by decide, by decide⟩ rfl (Nat.le_of_ble_eq_true rfl) (r_wordsOf fk ?_)
            refine zcV1 dX10_isNormal_65 rfl eX10_get b1443 ⟨by decide, by decide, by decide, by decide⟩ rfl a1.1.1 rfl (by decide) (Nat.le_of_ble_eq_true rfl) (r_get a1 (by omega) (hS1.gc hf2) ?_)
            refine zW_icmp_ge (tgt := 92) dX10_isNormal_68 (by decide) (by first | assumption | omega | (unfold InR; omega) | (unfold InL; omega) | (simp only [InR] at *; omega)) (by first | assumption | omega | (unfold InR; omega) | (unfold InL; omega) | (simp only [InR] at *; omega)) (fun z => ?_) (fun z => ?_)
            · exact absurd z (by omega)
            · refine zW_iload_n dX10_isNormal_71 rfl ?_
              refine zW_if_eq (tgt := 92) dX10_isNormal_72 (by decide) (by first | assumption | omega | (unfold InR; omega) | (unfold InL; omega) | (simp only [InR] at *; omega)) (fun z2 => ?_) (fun z2 => ?_)
              · exact absurd z2 (by decide)
              · refine zW_aload_n dX10_isNormal_75 rfl ?_
                refine zW_iload_n dX10_isNormal_76 rfl ?_
                refine zW_iload_n dX10_isNormal_77 rfl ?_
                refine zW_iload_n dX10_isNormal_78 rfl ?_
                refine zcS2 dX10_isNormal_79 rfl eX10_generating b1469 ⟨by decide, by decide, by decide, by decide⟩ rfl (Nat.le_of_ble_eq_true rfl) (r_generating fk ?_)
                refine zcV2 dX10_isNormal_82 rfl eX10_isClosedEverywhere b1748 ⟨by decide, by decide, by decide, by decide⟩ rfl a1.1.1 rfl (by decide) (Nat.le_of_ble_eq_true rfl) (hcl _ (fun u => ?_) (fun u => ?_))
                · refine zW_istore_n dX10_isNormal_85 (by decide) rfl rfl ?_
                  refine zW_iinc dX10_isNormal_86 rfl (by decide) rfl rfl ?_
                  refine zW_goto (tgt := 59) dX10_isNormal_89 (by decide) ?_
                  refine ih (k + 1) (by omega) (fun j hj => ?_)
                  by_cases e : j = k
                  · rw [e]; exact u
                  · exact hall j (by omega)
                · refine zW_istore_n dX10_isNormal_85 (by decide) rfl rfl ?_
                  refine zW_iinc dX10_isNormal_86 rfl (by decide) rfl rfl ?_
                  refine zW_goto (tgt := 59) dX10_isNormal_89 (by decide) ?_
                  refine out0 (k + 1) (by omega) (fun z3 => u (z3.2 _ (getD_mem (k := k) (by omega))))
        refine zW_aload_n dX10_isNormal_42 rfl ?_
        refine zW_iload_n dX10_isNormal_43 rfl ?_
        refine zcV1 dX10_isNormal_44 rfl eX10_indexOf b1712 ⟨by decide, by decide, by decide, by decide⟩ rfl a1.1.1 rfl (by decide) (Nat.le_of_ble_eq_true rfl) (hidx _ ?_)
        by_cases hgc : gcomp (gr A f) (sRk (aSt A))
        · rw [cif_t hgc]
          refine zW_iconst dX10_isNormal_47 ?_
          refine zW_icmp_eq (tgt := 55) dX10_isNormal_48 (by decide) (by first | assumption | omega | (unfold InR; omega) | (unfold InL; omega) | (simp only [InR] at *; omega)) (by first | assumption | omega | (unfold InR; omega) | (unfold InL; omega) | (simp only [InR] at *; omega)) (fun q3 => ?_) (fun q3 => ?_)
          · exact absurd q3 (by omega)
          · refine zW_iconst dX10_isNormal_51 ?_
            refine zW_goto (tgt := 56) dX10_isNormal_52 (by decide) ?_
            refine zW_istore_n dX10_isNormal_56 (by decide) rfl rfl ?_
            refine zW_iconst dX10_isNormal_57 ?_
            refine zW_istore_n dX10_isNormal_58 (by decide) rfl rfl ?_
            exact loop hgc _ 0 (Nat.zero_add _) (fun j hj => absurd hj (Nat.not_lt_zero j))
        · rw [cif_f hgc]
          refine zW_iconst dX10_isNormal_47 ?_
          refine zW_icmp_eq (tgt := 55) dX10_isNormal_48 (by decide) (by first | assumption | omega | (unfold InR; omega) | (unfold InL; omega) | (simp only [InR] at *; omega)) (by first | assumption | omega | (unfold InR; omega) | (unfold InL; omega) | (simp only [InR] at *; omega)) (fun q3 => ?_) (fun q3 => ?_)
          · refine zW_iconst dX10_isNormal_55 ?_
            refine zW_istore_n dX10_isNormal_56 (by decide) rfl rfl ?_
            refine zW_iconst dX10_isNormal_57 ?_
            refine zW_istore_n dX10_isNormal_58 (by decide) rfl rfl ?_
            exact out0 0 (Nat.zero_le _) (fun z => hgc z.1)
          · exact absurd rfl q3
      · refine zW_iconst dX10_isNormal_40 ?_
        refine zW_ireturn dX10_isNormal_41 rfl rfl (by first | decide | (show _ ≤ (0 : Nat); omega)) (by first | decide | (show _ ≤ (0 : Nat); omega)) ?_
        exact hQ.ask (by unfold o_isNormal gg1; rw [if_pos fk, cif_t (Or.inl q2)]) h m01 t1
    · exact absurd q (by decide)
  · refine zW_if_ne (tgt := 27) dX10_isNormal_9 (by decide) (by first | assumption | omega | (unfold InR; omega) | (unfold InL; omega) | (simp only [InR] at *; omega)) (fun q => ?_) (fun q => ?_)
    · exact absurd rfl q
    · refine zW_aload_n dX10_isNormal_12 rfl ?_
      refine zW_iconst dX10_isNormal_13 ?_
      refine zcV1 dX10_isNormal_14 rfl eX10_fails b1371 ⟨by decide, by decide, by decide, by decide⟩ rfl a0.1.1 rfl (by decide) (Nat.le_of_ble_eq_true rfl) (r_fails a0.1 ?_)
      refine zW_iconst dX10_isNormal_17 ?_
      refine zW_icmp_ne (tgt := 25) dX10_isNormal_18 (by decide) (by first | assumption | omega | (unfold InR; omega) | (unfold InL; omega) | (simp only [InR] at *; omega)) (by first | assumption | omega | (unfold InR; omega) | (unfold InL; omega) | (simp only [InR] at *; omega)) (fun b1 => ?_) (fun b1 => ?_)
      · refine zW_iconst dX10_isNormal_25 ?_
        refine zW_ireturn dX10_isNormal_26 rfl rfl (by first | decide | (show _ ≤ (0 : Nat); omega)) (by first | decide | (show _ ≤ (0 : Nat); omega)) ?_
        exact hQ.bad (k := 0) (if_neg fk) h (m0.th (Mr.O (Ks := KS) (Rs := RS) (by decide)) (fun _ z => z) (fun _ z => z)) (zO_sOs _ _ _ _)
      · exact absurd b1 (by decide)
set_option maxRecDepth 100000 in
theorem gg2_no {f r v : Int} (h : ¬ (inR2 f ∧ inR8 r)) : gg2 A f r v = (1, 0, A) := by
  unfold gg2
  by_cases g : inR2 f
  · rw [if_pos g, if_neg (fun z => h ⟨g, z⟩)]
  · rw [if_neg g]
set_option maxRecDepth 100000 in
theorem gg2_yes {f r v : Int} (h : inR2 f) (h' : inR8 r) : gg2 A f r v = (0, v, A) := by
  unfold gg2
  rw [if_pos h, if_pos h']
set_option maxRecDepth 100000 in
theorem q_contains {f r : Int} (h : RI σ y A) (if_ : InR f) (ir : InR r) (hQ : RQ σ y (o_contains A f r) Q) : zM Γ mX10_contains [vR (some y), vI f, vI r] σ Q := by
  refine zM_of (n := 0) (by decide +kernel) rfl rfl rfl ?_
  refine zW_aload_n dX10_contains_0 rfl ?_
  refine zW_iconst dX10_contains_1 ?_
  refine zpI dX10_contains_2 fX10_75 h.1.1 rfl (Or.inl rfl) (zst_int _) ?_
  have m0 : Mr σ (sO σ y 0 0) y KS RS := Mr.O (by decide)
  have h0 := h.mr m0
  have t0 : zO (sO σ y 0 0) y 0 = 0 := zO_sOs _ _ _ _
  generalize sO σ y 0 0 = σ0 at m0 h0 t0 ⊢
  have a0 : RA σ0 y 0 := h0.ra
  have bd : ¬ (inR2 f ∧ inR8 r) → zW Γ mX10_contains 19 [some (vR (some y)), some (vI f), some (vI r)] [] σ0 0 0 Q := by
    intro hno
    refine zW_aload_n dX10_contains_19 rfl ?_
    refine zW_iconst dX10_contains_20 ?_
    refine zcV1 dX10_contains_21 rfl eX10_fails b1371 ⟨by decide, by decide, by decide, by decide⟩ rfl a0.1.1 rfl (by decide) (Nat.le_of_ble_eq_true rfl) (r_fails a0.1 ?_)
    refine zW_iconst dX10_contains_24 ?_
    refine zW_icmp_ne (tgt := 32) dX10_contains_25 (by decide) (by first | assumption | omega | (unfold InR; omega) | (unfold InL; omega) | (simp only [InR] at *; omega)) (by first | assumption | omega | (unfold InR; omega) | (unfold InL; omega) | (simp only [InR] at *; omega)) (fun b1 => ?_) (fun b1 => ?_)
    · refine zW_iconst dX10_contains_32 ?_
      refine zW_ireturn dX10_contains_33 rfl rfl (by first | decide | (show _ ≤ (0 : Nat); omega)) (by first | decide | (show _ ≤ (0 : Nat); omega)) ?_
      exact hQ.bad (k := 0) (gg2_no hno) h (m0.th (Mr.O (Ks := KS) (Rs := RS) (by decide)) (fun _ z => z) (fun _ z => z)) (zO_sOs _ _ _ _)
    · exact absurd b1 (by decide)
  refine zW_iload_n dX10_contains_5 rfl ?_
  refine zcS1 dX10_contains_6 rfl eX10_isSubgroup b1637 ⟨by decide, by decide, by decide, by decide⟩ rfl (Nat.le_of_ble_eq_true rfl) (r_isSubgroup if_ (fun fk => ?_) (fun fk => ?_))
  · refine zW_if_eq (tgt := 19) dX10_contains_9 (by decide) (by first | assumption | omega | (unfold InR; omega) | (unfold InL; omega) | (simp only [InR] at *; omega)) (fun q => ?_) (fun q => ?_)
    · exact absurd q (by decide)
    · refine zW_iload_n dX10_contains_12 rfl ?_
      refine zcS1 dX10_contains_13 rfl eX10_isRegister b1492 ⟨by decide, by decide, by decide, by decide⟩ rfl (Nat.le_of_ble_eq_true rfl) (r_isRegister ir (fun rk => ?_) (fun rk => ?_))
      · refine zW_if_ne (tgt := 34) dX10_contains_16 (by decide) (by first | assumption | omega | (unfold InR; omega) | (unfold InL; omega) | (simp only [InR] at *; omega)) (fun q2 => ?_) (fun q2 => ?_)
        · refine zW_aload_n dX10_contains_34 rfl ?_
          refine zW_iload_n dX10_contains_35 rfl ?_
          refine zcV1 dX10_contains_36 rfl eX10_makes b1644 ⟨by decide, by decide, by decide, by decide⟩ rfl a0.1.1 rfl (by decide) (Nat.le_of_ble_eq_true rfl) (q_makes fk h0 (fun σ1 hG hIs h1 m1 hoth => ?_))
          have ok := hIs.ok
          have v9 := ok.2.1
          have hf2 : f.toNat < 2 := by unfold inR2 at fk; omega
          have ef : f = ((f.toNat : Nat) : Int) := by unfold inR2 at fk; omega
          have a1 := h1.ra
          have m01 : Mr σ σ1 y KS RS := m0.th m1 (by decide) (by decide)
          have t1 : zO σ1 y 0 = 0 := by rw [m1.o (by decide)]; exact t0
          have hw := h1.rw rk
          have hb := r8b rk
          have hl := hw.2.1
          have hcall : ∀ R, (gtr (gr A f) 0 (reg A r) = 0 → R (.inl (some (vI 1))) σ1) → (gtr (gr A f) 0 (reg A r) ≠ 0 → R (.inl (some (vI 0))) σ1) → zM Γ mX10_has [vR (some y), vI f, vI ((1 + 61 * r.toNat : Nat) : Int)] σ1 R := fun R hR1 hR0 => by
            have := r_has (Γ := Γ) (Q := R) a1 hG hf2 ok hw hb hR1 hR0
            rw [← ef] at this
            exact this
          refine zW_aload_n dX10_contains_39 rfl ?_
          refine zW_iload_n dX10_contains_40 rfl ?_
          refine zW_iload_n dX10_contains_41 rfl ?_
          refine zcS1 dX10_contains_42 rfl eX10_register b1455 ⟨by decide, by decide, by decide, by decide⟩ rfl (Nat.le_of_ble_eq_true rfl) (r_register rk ?_)
          refine zcV2 dX10_contains_45 rfl eX10_has b1720 ⟨by decide, by decide, by decide, by decide⟩ rfl a1.1.1 rfl (by decide) (Nat.le_of_ble_eq_true rfl) (hcall _ (fun u => ?_) (fun u => ?_))
          · refine zW_ireturn dX10_contains_48 rfl rfl (by first | decide | (show _ ≤ (0 : Nat); omega)) (by first | decide | (show _ ≤ (0 : Nat); omega)) ?_
            exact hQ.ask ((gg2_yes fk rk).trans (by rw [if_pos u])) h m01 t1
          · refine zW_ireturn dX10_contains_48 rfl rfl (by first | decide | (show _ ≤ (0 : Nat); omega)) (by first | decide | (show _ ≤ (0 : Nat); omega)) ?_
            exact hQ.ask ((gg2_yes fk rk).trans (by rw [if_neg u])) h m01 t1
        · exact absurd q2 (by decide)
      · refine zW_if_ne (tgt := 34) dX10_contains_16 (by decide) (by first | assumption | omega | (unfold InR; omega) | (unfold InL; omega) | (simp only [InR] at *; omega)) (fun q2 => ?_) (fun q2 => ?_)
        · exact absurd rfl q2
        · exact bd (fun z => rk z.2)
  · refine zW_if_eq (tgt := 19) dX10_contains_9 (by decide) (by first | assumption | omega | (unfold InR; omega) | (unfold InL; omega) | (simp only [InR] at *; omega)) (fun q => ?_) (fun q => ?_)
    · exact bd (fun z => fk z.1)
    · exact absurd rfl q
set_option maxRecDepth 100000 in
theorem q_reachedVertex {f r : Int} (h : RI σ y A) (if_ : InR f) (ir : InR r) (hQ : RQ σ y (o_reachedVertex A f r) Q) : zM Γ mX10_reachedVertex [vR (some y), vI f, vI r] σ Q := by
  refine zM_of (n := 0) (by decide +kernel) rfl rfl rfl ?_
  refine zW_aload_n dX10_reachedVertex_0 rfl ?_
  refine zW_iconst dX10_reachedVertex_1 ?_
  refine zpI dX10_reachedVertex_2 fX10_75 h.1.1 rfl (Or.inl rfl) (zst_int _) ?_
  have m0 : Mr σ (sO σ y 0 0) y KS RS := Mr.O (by decide)
  have h0 := h.mr m0
  have t0 : zO (sO σ y 0 0) y 0 = 0 := zO_sOs _ _ _ _
  generalize sO σ y 0 0 = σ0 at m0 h0 t0 ⊢
  have a0 : RA σ0 y 0 := h0.ra
  have bd : ¬ (inR2 f ∧ inR8 r) → zW Γ mX10_reachedVertex 19 [some (vR (some y)), some (vI f), some (vI r)] [] σ0 0 0 Q := by
    intro hno
    refine zW_aload_n dX10_reachedVertex_19 rfl ?_
    refine zW_iconst dX10_reachedVertex_20 ?_
    refine zcV1 dX10_reachedVertex_21 rfl eX10_fails b1371 ⟨by decide, by decide, by decide, by decide⟩ rfl a0.1.1 rfl (by decide) (Nat.le_of_ble_eq_true rfl) (r_fails a0.1 ?_)
    refine zW_ireturn dX10_reachedVertex_24 rfl rfl (by first | decide | (show _ ≤ (0 : Nat); omega)) (by first | decide | (show _ ≤ (0 : Nat); omega)) ?_
    exact hQ.bad (k := 0) (gg2_no hno) h (m0.th (Mr.O (Ks := KS) (Rs := RS) (by decide)) (fun _ z => z) (fun _ z => z)) (zO_sOs _ _ _ _)
  refine zW_iload_n dX10_reachedVertex_5 rfl ?_
  refine zcS1 dX10_reachedVertex_6 rfl eX10_isSubgroup b1637 ⟨by decide, by decide, by decide, by decide⟩ rfl (Nat.le_of_ble_eq_true rfl) (r_isSubgroup if_ (fun fk => ?_) (fun fk => ?_))
  · refine zW_if_eq (tgt := 19) dX10_reachedVertex_9 (by decide) (by first | assumption | omega | (unfold InR; omega) | (unfold InL; omega) | (simp only [InR] at *; omega)) (fun q => ?_) (fun q => ?_)
    · exact absurd q (by decide)
    · refine zW_iload_n dX10_reachedVertex_12 rfl ?_
      refine zcS1 dX10_reachedVertex_13 rfl eX10_isRegister b1492 ⟨by decide, by decide, by decide, by decide⟩ rfl (Nat.le_of_ble_eq_true rfl) (r_isRegister ir (fun rk => ?_) (fun rk => ?_))
      · refine zW_if_ne (tgt := 25) dX10_reachedVertex_16 (by decide) (by first | assumption | omega | (unfold InR; omega) | (unfold InL; omega) | (simp only [InR] at *; omega)) (fun q2 => ?_) (fun q2 => ?_)
        · refine zW_aload_n dX10_reachedVertex_25 rfl ?_
          refine zW_iload_n dX10_reachedVertex_26 rfl ?_
          refine zcV1 dX10_reachedVertex_27 rfl eX10_makes b1644 ⟨by decide, by decide, by decide, by decide⟩ rfl a0.1.1 rfl (by decide) (Nat.le_of_ble_eq_true rfl) (q_makes fk h0 (fun σ1 hG hIs h1 m1 hoth => ?_))
          have ok := hIs.ok
          have v9 := ok.2.1
          have hf2 : f.toNat < 2 := by unfold inR2 at fk; omega
          have ef : f = ((f.toNat : Nat) : Int) := by unfold inR2 at fk; omega
          have a1 := h1.ra
          have m01 : Mr σ σ1 y KS RS := m0.th m1 (by decide) (by decide)
          have t1 : zO σ1 y 0 = 0 := by rw [m1.o (by decide)]; exact t0
          have hw := h1.rw rk
          have hb := r8b rk
          have hl := hw.2.1
          have hcall : ∀ R, R (.inl (some (vI (gtr (gr A f) 0 (reg A r))))) σ1 → zM Γ mX10_followsAll [vR (some y), vI f, vI 0, vI ((1 + 61 * r.toNat : Nat) : Int)] σ1 R := fun R hR => by
            have := r_followsAll (Γ := Γ) (Q := R) a1 hG hf2 ok hw hb (gin0 ok) hR
            rw [← ef] at this
            exact this
          refine zW_aload_n dX10_reachedVertex_30 rfl ?_
          refine zW_iload_n dX10_reachedVertex_31 rfl ?_
          refine zW_iconst dX10_reachedVertex_32 ?_
          refine zW_iload_n dX10_reachedVertex_33 rfl ?_
          refine zcS1 dX10_reachedVertex_34 rfl eX10_register b1455 ⟨by decide, by decide, by decide, by decide⟩ rfl (Nat.le_of_ble_eq_true rfl) (r_register rk ?_)
          refine zcV3 dX10_reachedVertex_37 rfl eX10_followsAll b1724 ⟨by decide, by decide, by decide, by decide⟩ rfl a1.1.1 rfl (by decide) (Nat.le_of_ble_eq_true rfl) (hcall _ ?_)
          refine zW_ireturn dX10_reachedVertex_40 rfl rfl (by first | decide | (show _ ≤ (0 : Nat); omega)) (by first | decide | (show _ ≤ (0 : Nat); omega)) ?_
          exact hQ.ask (gg2_yes fk rk) h m01 t1
        · exact absurd q2 (by decide)
      · refine zW_if_ne (tgt := 25) dX10_reachedVertex_16 (by decide) (by first | assumption | omega | (unfold InR; omega) | (unfold InL; omega) | (simp only [InR] at *; omega)) (fun q2 => ?_) (fun q2 => ?_)
        · exact absurd rfl q2
        · exact bd (fun z => rk z.2)
  · refine zW_if_eq (tgt := 19) dX10_reachedVertex_9 (by decide) (by first | assumption | omega | (unfold InR; omega) | (unfold InL; omega) | (simp only [InR] at *; omega)) (fun q => ?_) (fun q => ?_)
    · exact bd (fun z => fk z.1)
    · exact absurd rfl q
set_option maxRecDepth 100000 in
theorem q_smallestPower {f r : Int} (h : RI σ y A) (if_ : InR f) (ir : InR r) (hQ : RQ σ y (o_smallestPower A f r) Q) : zM Γ mX10_smallestPower [vR (some y), vI f, vI r] σ Q := by
  refine zM_of (n := 0) (by decide +kernel) rfl rfl rfl ?_
  refine zW_aload_n dX10_smallestPower_0 rfl ?_
  refine zW_iconst dX10_smallestPower_1 ?_
  refine zpI dX10_smallestPower_2 fX10_75 h.1.1 rfl (Or.inl rfl) (zst_int _) ?_
  have m0 : Mr σ (sO σ y 0 0) y KS RS := Mr.O (by decide)
  have h0 := h.mr m0
  have t0 : zO (sO σ y 0 0) y 0 = 0 := zO_sOs _ _ _ _
  generalize sO σ y 0 0 = σ0 at m0 h0 t0 ⊢
  have a0 : RA σ0 y 0 := h0.ra
  have bd : ¬ (inR2 f ∧ inR8 r) → zW Γ mX10_smallestPower 19 [some (vR (some y)), some (vI f), some (vI r)] [] σ0 0 0 Q := by
    intro hno
    refine zW_aload_n dX10_smallestPower_19 rfl ?_
    refine zW_iconst dX10_smallestPower_20 ?_
    refine zcV1 dX10_smallestPower_21 rfl eX10_fails b1371 ⟨by decide, by decide, by decide, by decide⟩ rfl a0.1.1 rfl (by decide) (Nat.le_of_ble_eq_true rfl) (r_fails a0.1 ?_)
    refine zW_ireturn dX10_smallestPower_24 rfl rfl (by first | decide | (show _ ≤ (0 : Nat); omega)) (by first | decide | (show _ ≤ (0 : Nat); omega)) ?_
    exact hQ.bad (k := 0) (gg2_no hno) h (m0.th (Mr.O (Ks := KS) (Rs := RS) (by decide)) (fun _ z => z) (fun _ z => z)) (zO_sOs _ _ _ _)
  refine zW_iload_n dX10_smallestPower_5 rfl ?_
  refine zcS1 dX10_smallestPower_6 rfl eX10_isSubgroup b1637 ⟨by decide, by decide, by decide, by decide⟩ rfl (Nat.le_of_ble_eq_true rfl) (r_isSubgroup if_ (fun fk => ?_) (fun fk => ?_))
  · refine zW_if_eq (tgt := 19) dX10_smallestPower_9 (by decide) (by first | assumption | omega | (unfold InR; omega) | (unfold InL; omega) | (simp only [InR] at *; omega)) (fun q => ?_) (fun q => ?_)
    · exact absurd q (by decide)
    · refine zW_iload_n dX10_smallestPower_12 rfl ?_
      refine zcS1 dX10_smallestPower_13 rfl eX10_isRegister b1492 ⟨by decide, by decide, by decide, by decide⟩ rfl (Nat.le_of_ble_eq_true rfl) (r_isRegister ir (fun rk => ?_) (fun rk => ?_))
      · refine zW_if_ne (tgt := 25) dX10_smallestPower_16 (by decide) (by first | assumption | omega | (unfold InR; omega) | (unfold InL; omega) | (simp only [InR] at *; omega)) (fun q2 => ?_) (fun q2 => ?_)
        · refine zW_aload_n dX10_smallestPower_25 rfl ?_
          refine zW_iload_n dX10_smallestPower_26 rfl ?_
          refine zcV1 dX10_smallestPower_27 rfl eX10_makes b1644 ⟨by decide, by decide, by decide, by decide⟩ rfl a0.1.1 rfl (by decide) (Nat.le_of_ble_eq_true rfl) (q_makes fk h0 (fun σ1 hG hIs h1 m1 hoth => ?_))
          have ok := hIs.ok
          have v9 := ok.2.1
          have hf2 : f.toNat < 2 := by unfold inR2 at fk; omega
          have ef : f = ((f.toNat : Nat) : Int) := by unfold inR2 at fk; omega
          have a1 := h1.ra
          have m01 : Mr σ σ1 y KS RS := m0.th m1 (by decide) (by decide)
          have t1 : zO σ1 y 0 = 0 := by rw [m1.o (by decide)]; exact t0
          have hw := h1.rw rk
          have hb := r8b rk
          have hl := hw.2.1
          have hcall : ∀ R, R (.inl (some (vI (scp (gr A f) (reg A r))))) σ1 → zM Γ mX10_powerOf [vR (some y), vI f, vI ((1 + 61 * r.toNat : Nat) : Int)] σ1 R := fun R hR => by
            have := r_powerOf (Γ := Γ) (Q := R) a1 hG hf2 ok hw hb hR
            rw [← ef] at this
            exact this
          refine zW_aload_n dX10_smallestPower_30 rfl ?_
          refine zW_iload_n dX10_smallestPower_31 rfl ?_
          refine zW_iload_n dX10_smallestPower_32 rfl ?_
          refine zcS1 dX10_smallestPower_33 rfl eX10_register b1455 ⟨by decide, by decide, by decide, by decide⟩ rfl (Nat.le_of_ble_eq_true rfl) (r_register rk ?_)
          refine zcV2 dX10_smallestPower_36 rfl eX10_powerOf b1740 ⟨by decide, by decide, by decide, by decide⟩ rfl a1.1.1 rfl (by decide) (Nat.le_of_ble_eq_true rfl) (hcall _ ?_)
          refine zW_ireturn dX10_smallestPower_39 rfl rfl (by first | decide | (show _ ≤ (0 : Nat); omega)) (by first | decide | (show _ ≤ (0 : Nat); omega)) ?_
          exact hQ.ask (gg2_yes fk rk) h m01 t1
        · exact absurd q2 (by decide)
      · refine zW_if_ne (tgt := 25) dX10_smallestPower_16 (by decide) (by first | assumption | omega | (unfold InR; omega) | (unfold InL; omega) | (simp only [InR] at *; omega)) (fun q2 => ?_) (fun q2 => ?_)
        · exact absurd rfl q2
        · exact bd (fun z => rk z.2)
  · refine zW_if_eq (tgt := 19) dX10_smallestPower_9 (by decide) (by first | assumption | omega | (unfold InR; omega) | (unfold InL; omega) | (simp only [InR] at *; omega)) (fun q => ?_) (fun q => ?_)
    · exact bd (fun z => fk z.1)
    · exact absurd rfl q
set_option maxRecDepth 100000 in
theorem o_containsSubgroup_no {f e : Int} (h : ¬ (inR2 f ∧ inR2 e)) : o_containsSubgroup A f e = (1, 0, A) := by
  unfold o_containsSubgroup
  by_cases g : inR2 f
  · rw [if_pos g, if_neg (fun z => h ⟨g, z⟩)]
  · rw [if_neg g]
set_option maxRecDepth 100000 in
theorem q_containsSubgroup {f e : Int} (h : RI σ y A) (if_ : InR f) (ie : InR e) (hQ : RQ σ y (o_containsSubgroup A f e) Q) : zM Γ mX10_containsSubgroup [vR (some y), vI f, vI e] σ Q := by
  refine zM_of (n := 2) (by decide +kernel) rfl rfl rfl ?_
  refine zW_aload_n dX10_containsSubgroup_0 rfl ?_
  refine zW_iconst dX10_containsSubgroup_1 ?_
  refine zpI dX10_containsSubgroup_2 fX10_75 h.1.1 rfl (Or.inl rfl) (zst_int _) ?_
  have m0 : Mr σ (sO σ y 0 0) y KS RS := Mr.O (by decide)
  have h0 := h.mr m0
  have t0 : zO (sO σ y 0 0) y 0 = 0 := zO_sOs _ _ _ _
  generalize sO σ y 0 0 = σ0 at m0 h0 t0 ⊢
  have a0 : RA σ0 y 0 := h0.ra
  have bd : ¬ (inR2 f ∧ inR2 e) → zW Γ mX10_containsSubgroup 19 [some (vR (some y)), some (vI f), some (vI e), none, none] [] σ0 0 0 Q := by
    intro hno
    refine zW_aload_n dX10_containsSubgroup_19 rfl ?_
    refine zW_iconst dX10_containsSubgroup_20 ?_
    refine zcV1 dX10_containsSubgroup_21 rfl eX10_fails b1371 ⟨by decide, by decide, by decide, by decide⟩ rfl a0.1.1 rfl (by decide) (Nat.le_of_ble_eq_true rfl) (r_fails a0.1 ?_)
    refine zW_iconst dX10_containsSubgroup_24 ?_
    refine zW_icmp_ne (tgt := 32) dX10_containsSubgroup_25 (by decide) (by first | assumption | omega | (unfold InR; omega) | (unfold InL; omega) | (simp only [InR] at *; omega)) (by first | assumption | omega | (unfold InR; omega) | (unfold InL; omega) | (simp only [InR] at *; omega)) (fun b1 => ?_) (fun b1 => ?_)
    · refine zW_iconst dX10_containsSubgroup_32 ?_
      refine zW_ireturn dX10_containsSubgroup_33 rfl rfl (by first | decide | (show _ ≤ (0 : Nat); omega)) (by first | decide | (show _ ≤ (0 : Nat); omega)) ?_
      exact hQ.bad (k := 0) (o_containsSubgroup_no hno) h (m0.th (Mr.O (Ks := KS) (Rs := RS) (by decide)) (fun _ z => z) (fun _ z => z)) (zO_sOs _ _ _ _)
    · exact absurd b1 (by decide)
  refine zW_iload_n dX10_containsSubgroup_5 rfl ?_
  refine zcS1 dX10_containsSubgroup_6 rfl eX10_isSubgroup b1637 ⟨by decide, by decide, by decide, by decide⟩ rfl (Nat.le_of_ble_eq_true rfl) (r_isSubgroup if_ (fun fk => ?_) (fun fk => ?_))
  · refine zW_if_eq (tgt := 19) dX10_containsSubgroup_9 (by decide) (by first | assumption | omega | (unfold InR; omega) | (unfold InL; omega) | (simp only [InR] at *; omega)) (fun q => ?_) (fun q => ?_)
    · exact absurd q (by decide)
    · refine zW_iload_n dX10_containsSubgroup_12 rfl ?_
      refine zcS1 dX10_containsSubgroup_13 rfl eX10_isSubgroup b1637 ⟨by decide, by decide, by decide, by decide⟩ rfl (Nat.le_of_ble_eq_true rfl) (r_isSubgroup ie (fun ek => ?_) (fun ek => ?_))
      · refine zW_if_ne (tgt := 34) dX10_containsSubgroup_16 (by decide) (by first | assumption | omega | (unfold InR; omega) | (unfold InL; omega) | (simp only [InR] at *; omega)) (fun q2 => ?_) (fun q2 => ?_)
        · refine zW_aload_n dX10_containsSubgroup_34 rfl ?_
          refine zW_iload_n dX10_containsSubgroup_35 rfl ?_
          refine zcV1 dX10_containsSubgroup_36 rfl eX10_makes b1644 ⟨by decide, by decide, by decide, by decide⟩ rfl a0.1.1 rfl (by decide) (Nat.le_of_ble_eq_true rfl) (q_makes fk h0 (fun σ1 hG hIs h1 m1 hoth => ?_))
          have ok := hIs.ok
          have v9 := ok.2.1
          have hf2 : f.toNat < 2 := by unfold inR2 at fk; omega
          have ef : f = ((f.toNat : Nat) : Int) := by unfold inR2 at fk; omega
          have a1 := h1.ra
          have m01 : Mr σ σ1 y KS RS := m0.th m1 (by decide) (by decide)
          have t1 : zO σ1 y 0 = 0 := by rw [m1.o (by decide)]; exact t0
          have he2 : e.toNat < 2 := by unfold inR2 at ek; omega
          have hS1 := h1.2.2.1
          have h6 := (hS1.2.2 e.toNat he2).2.1
          have ek' : 0 ≤ e ∧ e < 2 := ek
          have yes : (∀ w ∈ sGw (aSt A) e.toNat, gtr (gr A f) 0 w = 0) → Q (.inl (some (vI 1))) σ1 := fun z => hQ.ask (by unfold o_containsSubgroup; rw [if_pos fk, if_pos ek', cif_t z]) h m01 t1
          have no : ¬ (∀ w ∈ sGw (aSt A) e.toNat, gtr (gr A f) 0 w = 0) → Q (.inl (some (vI 0))) σ1 := fun z => hQ.ask (by unfold o_containsSubgroup; rw [if_pos fk, if_pos ek', cif_f z]) h m01 t1
          have out0 : ∀ k : Nat, k ≤ (sGw (aSt A) e.toNat).length → ¬ (∀ w ∈ sGw (aSt A) e.toNat, gtr (gr A f) 0 w = 0) → zW Γ mX10_containsSubgroup 44 [some (vR (some y)), some (vI f), some (vI e), some (vI 0), some (vI k)] [] σ1 0 0 Q := by
            intro k hk hno
            refine zW_iload dX10_containsSubgroup_44 rfl ?_
            refine zW_aload_n dX10_containsSubgroup_46 rfl ?_
            refine zW_iload_n dX10_containsSubgroup_47 rfl ?_
            refine zcS1 dX10_containsSubgroup_48 rfl eX10_wordsOf b1462 ⟨by decide, by decide, by decide, by decide⟩ rfl (Nat.le_of_ble_eq_true rfl) (r_wordsOf ek ?_)
            refine zcV1 dX10_containsSubgroup_51 rfl eX10_get b1443 ⟨by decide, by decide, by decide, by decide⟩ rfl a1.1.1 rfl (by decide) (Nat.le_of_ble_eq_true rfl) (r_get a1 (by omega) (hS1.gc he2) ?_)
            refine zW_icmp_ge (tgt := 79) dX10_containsSubgroup_54 (by decide) (by first | assumption | omega | (unfold InR; omega) | (unfold InL; omega) | (simp only [InR] at *; omega)) (by first | assumption | omega | (unfold InR; omega) | (unfold InL; omega) | (simp only [InR] at *; omega)) (fun z => ?_) (fun z => ?_)
            · refine zW_iload_n dX10_containsSubgroup_79 rfl ?_
              refine zW_ireturn dX10_containsSubgroup_80 rfl rfl (by first | decide | (show _ ≤ (0 : Nat); omega)) (by first | decide | (show _ ≤ (0 : Nat); omega)) ?_
              exact no hno
            · refine zW_iload_n dX10_containsSubgroup_57 rfl ?_
              refine zW_if_eq (tgt := 79) dX10_containsSubgroup_58 (by decide) (by first | assumption | omega | (unfold InR; omega) | (unfold InL; omega) | (simp only [InR] at *; omega)) (fun z2 => ?_) (fun z2 => ?_)
              · refine zW_iload_n dX10_containsSubgroup_79 rfl ?_
                refine zW_ireturn dX10_containsSubgroup_80 rfl rfl (by first | decide | (show _ ≤ (0 : Nat); omega)) (by first | decide | (show _ ≤ (0 : Nat); omega)) ?_
                exact no hno
              · exact absurd rfl z2
          have loop : ∀ n k, k + n = (sGw (aSt A) e.toNat).length → (∀ j, j < k → gtr (gr A f) 0 ((sGw (aSt A) e.toNat).getD j []) = 0) → zW Γ mX10_containsSubgroup 44 [some (vR (some y)), some (vI f), some (vI e), some (vI 1), some (vI k)] [] σ1 0 0 Q := by
            intro n
            induction n with
            | zero =>
              intro k hk hall
              refine zW_iload dX10_containsSubgroup_44 rfl ?_
              refine zW_aload_n dX10_containsSubgroup_46 rfl ?_
              refine zW_iload_n dX10_containsSubgroup_47 rfl ?_
              refine zcS1 dX10_containsSubgroup_48 rfl eX10_wordsOf b1462 ⟨by decide, by decide, by decide, by decide⟩ rfl (Nat.le_of_ble_eq_true rfl) (r_wordsOf ek ?_)
              refine zcV1 dX10_containsSubgroup_51 rfl eX10_get b1443 ⟨by decide, by decide, by decide, by decide⟩ rfl a1.1.1 rfl (by decide) (Nat.le_of_ble_eq_true rfl) (r_get a1 (by omega) (hS1.gc he2) ?_)
              refine zW_icmp_ge (tgt := 79) dX10_containsSubgroup_54 (by decide) (by first | assumption | omega | (unfold InR; omega) | (unfold InL; omega) | (simp only [InR] at *; omega)) (by first | assumption | omega | (unfold InR; omega) | (unfold InL; omega) | (simp only [InR] at *; omega)) (fun z => ?_) (fun z => ?_)
              · refine zW_iload_n dX10_containsSubgroup_79 rfl ?_
                refine zW_ireturn dX10_containsSubgroup_80 rfl rfl (by first | decide | (show _ ≤ (0 : Nat); omega)) (by first | decide | (show _ ≤ (0 : Nat); omega)) ?_
                refine yes (fun w hw => ?_)
                obtain ⟨j, j1, j2⟩ := mem_getD hw
                rw [← j2]
                exact hall j (by omega)
              · exact absurd z (by omega)
            | succ n ih =>
              intro k hk hall
              have hw := hS1.gw he2 (k := k) (by omega)
              have hcl : ∀ R, (gtr (gr A f) 0 ((sGw (aSt A) e.toNat).getD k []) = 0 → R (.inl (some (vI 1))) σ1) → (gtr (gr A f) 0 ((sGw (aSt A) e.toNat).getD k []) ≠ 0 → R (.inl (some (vI 0))) σ1) → zM Γ mX10_has [vR (some y), vI f, vI ((490 + 367 * e.toNat + 61 * k : Nat) : Int)] σ1 R := fun R hR1 hR0 => by
                have := r_has (Γ := Γ) (Q := R) a1 hG hf2 ok hw (by omega) hR1 hR0
                rw [← ef] at this
                exact this
              refine zW_iload dX10_containsSubgroup_44 rfl ?_
              refine zW_aload_n dX10_containsSubgroup_46 rfl ?_
              refine zW_iload_n dX10_containsSubgroup_47 rfl ?_
              refine zcS1 dX10_containsSubgroup_48 rfl eX10_wordsOf b1462 ⟨by decide, by decide, by decide, by decide⟩ rfl (Nat.le_of_ble_eq_true rfl) (r_wordsOf ek ?_)
              refine zcV1 dX10_containsSubgroup_51 rfl eX10_get b1443 ⟨by decide, by decide, by decide, by decide⟩ rfl a1.1.1 rfl (by decide) (Nat.le_of_ble_eq_true rfl) (r_get a1 (by omega) (hS1.gc he2) ?_)
              refine zW_icmp_ge (tgt := 79) dX10_containsSubgroup_54 (by decide) (by first | assumption | omega | (unfold InR; omega) | (unfold InL; omega) | (simp only [InR] at *; omega)) (by first | assumption | omega | (unfold InR; omega) | (unfold InL; omega) | (simp only [InR] at *; omega)) (fun z => ?_) (fun z => ?_)
              · exact absurd z (by omega)
              · refine zW_iload_n dX10_containsSubgroup_57 rfl ?_
                refine zW_if_eq (tgt := 79) dX10_containsSubgroup_58 (by decide) (by first | assumption | omega | (unfold InR; omega) | (unfold InL; omega) | (simp only [InR] at *; omega)) (fun z2 => ?_) (fun z2 => ?_)
                · exact absurd z2 (by decide)
                · refine zW_aload_n dX10_containsSubgroup_61 rfl ?_
                  refine zW_iload_n dX10_containsSubgroup_62 rfl ?_
                  refine zW_iload_n dX10_containsSubgroup_63 rfl ?_
                  refine zW_iload dX10_containsSubgroup_64 rfl ?_
                  refine zcS2 dX10_containsSubgroup_66 rfl eX10_generating b1469 ⟨by decide, by decide, by decide, by decide⟩ rfl (Nat.le_of_ble_eq_true rfl) (r_generating ek ?_)
                  refine zcV2 dX10_containsSubgroup_69 rfl eX10_has b1720 ⟨by decide, by decide, by decide, by decide⟩ rfl a1.1.1 rfl (by decide) (Nat.le_of_ble_eq_true rfl) (hcl _ (fun u => ?_) (fun u => ?_))
                  · refine zW_istore_n dX10_containsSubgroup_72 (by decide) rfl rfl ?_
                    refine zW_iinc dX10_containsSubgroup_73 rfl (by decide) rfl rfl ?_
                    refine zW_goto (tgt := 44) dX10_containsSubgroup_76 (by decide) ?_
                    refine ih (k + 1) (by omega) (fun j hj => ?_)
                    by_cases e9 : j = k
                    · rw [e9]; exact u
                    · exact hall j (by omega)
                  · refine zW_istore_n dX10_containsSubgroup_72 (by decide) rfl rfl ?_
                    refine zW_iinc dX10_containsSubgroup_73 rfl (by decide) rfl rfl ?_
                    refine zW_goto (tgt := 44) dX10_containsSubgroup_76 (by decide) ?_
                    refine out0 (k + 1) (by omega) (fun z3 => u (z3 _ (getD_mem (k := k) (by omega))))
          refine zW_iconst dX10_containsSubgroup_39 ?_
          refine zW_istore_n dX10_containsSubgroup_40 (by decide) rfl rfl ?_
          refine zW_iconst dX10_containsSubgroup_41 ?_
          refine zW_istore dX10_containsSubgroup_42 (by decide) rfl rfl ?_
          exact loop _ 0 (Nat.zero_add _) (fun j hj => absurd hj (Nat.not_lt_zero j))
        · exact absurd q2 (by decide)
      · refine zW_if_ne (tgt := 34) dX10_containsSubgroup_16 (by decide) (by first | assumption | omega | (unfold InR; omega) | (unfold InL; omega) | (simp only [InR] at *; omega)) (fun q2 => ?_) (fun q2 => ?_)
        · exact absurd rfl q2
        · exact bd (fun z => ek z.2)
  · refine zW_if_eq (tgt := 19) dX10_containsSubgroup_9 (by decide) (by first | assumption | omega | (unfold InR; omega) | (unfold InL; omega) | (simp only [InR] at *; omega)) (fun q => ?_) (fun q => ?_)
    · exact bd (fun z => fk z.1)
    · exact absurd rfl q
set_option maxRecDepth 100000 in
theorem q_isVertex {f v : Int} (h : RI σ y A) (if_ : InR f) (iv : InR v) (h1 : inR2 f → 0 ≤ v ∧ v < gV (gr A f) → ∀ σ1, RG σ1 y f.toNat (gr A f) → IsGr (sGw (aSt A) f.toNat) (gr A f) → RI σ1 y A → Mr σ σ1 y [20, 21] [7, 8, 9, 10, 11, 12, 13, 14, 15] → Q (.inl (some (vI 1))) σ1) (h0 : ∀ σ1, ¬ (inR2 f ∧ (0 ≤ v ∧ v < gV (gr A f))) → Mr σ σ1 y [20, 21] [7, 8, 9, 10, 11, 12, 13, 14, 15] → Q (.inl (some (vI 0))) σ1) : zM Γ mX10_isVertex [vR (some y), vI f, vI v] σ Q := by
  refine zM_of (n := 0) (by decide +kernel) rfl rfl rfl ?_
  refine zW_iload_n dX10_isVertex_0 rfl ?_
  refine zcS1 dX10_isVertex_1 rfl eX10_isSubgroup b1637 ⟨by decide, by decide, by decide, by decide⟩ rfl (Nat.le_of_ble_eq_true rfl) (r_isSubgroup if_ (fun fk => ?_) (fun fk => ?_))
  · refine zW_if_ne (tgt := 9) dX10_isVertex_4 (by decide) (by first | assumption | omega | (unfold InR; omega) | (unfold InL; omega) | (simp only [InR] at *; omega)) (fun q => ?_) (fun q => ?_)
    · refine zW_aload_n dX10_isVertex_9 rfl ?_
      refine zW_iload_n dX10_isVertex_10 rfl ?_
      refine zcV1 dX10_isVertex_11 rfl eX10_makes b1644 ⟨by decide, by decide, by decide, by decide⟩ rfl h.1.1 rfl (by decide) (Nat.le_of_ble_eq_true rfl) (q_makes fk h (fun σ1 hG hIs hI m1 hoth => ?_))
      have v9 := hIs.ok.2.1
      have hf2 : f.toNat < 2 := by unfold inR2 at fk; omega
      have fk' := fk
      unfold inR2 at fk'
      have k1 := hI.1
      refine zW_iload_n dX10_isVertex_14 rfl ?_
      refine zW_if_lt (tgt := 32) dX10_isVertex_15 (by decide) (by first | assumption | omega | (unfold InR; omega) | (unfold InL; omega) | (simp only [InR] at *; omega)) (fun q2 => ?_) (fun q2 => ?_)
      · refine zW_iconst dX10_isVertex_32 ?_
        refine zW_ireturn dX10_isVertex_33 rfl rfl (by first | decide | (show _ ≤ (0 : Nat); omega)) (by first | decide | (show _ ≤ (0 : Nat); omega)) ?_
        exact h0 σ1 (fun z => by omega) m1
      · refine zW_iload_n dX10_isVertex_18 rfl ?_
        refine zW_aload_n dX10_isVertex_19 rfl ?_
        refine zgP dX10_isVertex_20 fX10_44 k1.1 rfl k1.p_sizes ?_
        refine zW_iload_n dX10_isVertex_23 rfl ?_
        refine zrI dX10_isVertex_24 k1.k_sizes (by first | assumption | omega | (unfold InR; omega) | (unfold InL; omega) | (simp only [InR] at *; omega)) (by first | assumption | omega | (unfold InR; omega) | (unfold InL; omega) | (simp only [InR] at *; omega)) (by first | assumption | omega | (unfold InR; omega) | (unfold InL; omega) | (simp only [InR] at *; omega)) hG.1 ?_
        refine zW_icmp_ge (tgt := 32) dX10_isVertex_25 (by decide) (by first | assumption | omega | (unfold InR; omega) | (unfold InL; omega) | (simp only [InR] at *; omega)) (by first | assumption | omega | (unfold InR; omega) | (unfold InL; omega) | (simp only [InR] at *; omega)) (fun q3 => ?_) (fun q3 => ?_)
        · refine zW_iconst dX10_isVertex_32 ?_
          refine zW_ireturn dX10_isVertex_33 rfl rfl (by first | decide | (show _ ≤ (0 : Nat); omega)) (by first | decide | (show _ ≤ (0 : Nat); omega)) ?_
          exact h0 σ1 (fun z => by omega) m1
        · refine zW_iconst dX10_isVertex_28 ?_
          refine zW_goto (tgt := 33) dX10_isVertex_29 (by decide) ?_
          refine zW_ireturn dX10_isVertex_33 rfl rfl (by first | decide | (show _ ≤ (0 : Nat); omega)) (by first | decide | (show _ ≤ (0 : Nat); omega)) ?_
          exact h1 fk ⟨by omega, by omega⟩ σ1 hG hIs hI m1
    · exact absurd q (by decide)
  · refine zW_if_ne (tgt := 9) dX10_isVertex_4 (by decide) (by first | assumption | omega | (unfold InR; omega) | (unfold InL; omega) | (simp only [InR] at *; omega)) (fun q => ?_) (fun q => ?_)
    · exact absurd rfl q
    · refine zW_iconst dX10_isVertex_7 ?_
      refine zW_ireturn dX10_isVertex_8 rfl rfl (by first | decide | (show _ ≤ (0 : Nat); omega)) (by first | decide | (show _ ≤ (0 : Nat); omega)) ?_
      exact h0 σ (fun z => fk z.1) Mr.rf
set_option maxRecDepth 100000 in
theorem q_neighbour {f v c : Int} (h : RI σ y A) (if_ : InR f) (iv : InR v) (ic : InR c) (ao : AO A) (hQ : RQ σ y (o_neighbour A f v c) Q) : zM Γ mX10_neighbour [vR (some y), vI f, vI v, vI c] σ Q := by
  refine zM_of (n := 1) (by decide +kernel) rfl rfl rfl ?_
  refine zW_aload_n dX10_neighbour_0 rfl ?_
  refine zW_iconst dX10_neighbour_1 ?_
  refine zpI dX10_neighbour_2 fX10_75 h.1.1 rfl (Or.inl rfl) (zst_int _) ?_
  have m0 : Mr σ (sO σ y 0 0) y KS RS := Mr.O (by decide)
  have h0 := h.mr m0
  have t0 : zO (sO σ y 0 0) y 0 = 0 := zO_sOs _ _ _ _
  generalize sO σ y 0 0 = σ0 at m0 h0 t0 ⊢
  have a0 : RA σ0 y 0 := h0.ra
  have bd : ∀ σ1, Mr σ0 σ1 y [20, 21] [7, 8, 9, 10, 11, 12, 13, 14, 15] → o_neighbour A f v c = (1, 0, A) → zW Γ mX10_neighbour 33 [some (vR (some y)), some (vI f), some (vI v), some (vI c), none] [] σ1 0 0 Q := by
    intro σ1 m1 ho
    have m01 : Mr σ σ1 y KS RS := m0.th m1 (by decide) (by decide)
    have a1 := a0.mr m1
    refine zW_iconst dX10_neighbour_33 ?_
    refine zW_istore dX10_neighbour_34 (by decide) rfl rfl ?_
    refine zW_iload dX10_neighbour_36 rfl ?_
    refine zW_if_eq (tgt := 51) dX10_neighbour_38 (by decide) (by first | assumption | omega | (unfold InR; omega) | (unfold InL; omega) | (simp only [InR] at *; omega)) (fun z => ?_) (fun z => ?_)
    · refine zW_aload_n dX10_neighbour_51 rfl ?_
      refine zW_iconst dX10_neighbour_52 ?_
      refine zcV1 dX10_neighbour_53 rfl eX10_fails b1371 ⟨by decide, by decide, by decide, by decide⟩ rfl a1.1.1 rfl (by decide) (Nat.le_of_ble_eq_true rfl) (r_fails a1.1 ?_)
      refine zW_ireturn dX10_neighbour_56 rfl rfl (by first | decide | (show _ ≤ (0 : Nat); omega)) (by first | decide | (show _ ≤ (0 : Nat); omega)) ?_
      exact hQ.bad (k := 0) ho h (m01.th (Mr.O (Ks := KS) (Rs := RS) (by decide)) (fun _ z => z) (fun _ z => z)) (zO_sOs _ _ _ _)
    · exact absurd rfl z
  refine zW_aload_n dX10_neighbour_5 rfl ?_
  refine zW_iload_n dX10_neighbour_6 rfl ?_
  refine zW_iload_n dX10_neighbour_7 rfl ?_
  refine zcV2 dX10_neighbour_8 rfl eX10_isVertex b1696 ⟨by decide, by decide, by decide, by decide⟩ rfl a0.1.1 rfl (by decide) (Nat.le_of_ble_eq_true rfl) (q_isVertex h0 if_ iv (fun fk vk σ1 hG hIs h1 m1 => ?_) (fun σ1 hno m1 => ?_))
  · have ok := hIs.ok
    have v9 := ok.2.1
    have hf2 : f.toNat < 2 := by unfold inR2 at fk; omega
    have ef : f = ((f.toNat : Nat) : Int) := by unfold inR2 at fk; omega
    have a1 := h1.ra
    have rk4 := ao.1.1.2
    have m01 : Mr σ σ1 y KS RS := m0.th m1 (by decide) (by decide)
    have t1 : zO σ1 y 0 = 0 := by rw [m1.o (by decide)]; exact t0
    refine zW_if_eq (tgt := 33) dX10_neighbour_11 (by decide) (by first | assumption | omega | (unfold InR; omega) | (unfold InL; omega) | (simp only [InR] at *; omega)) (fun q => ?_) (fun q => ?_)
    · exact absurd q (by decide)
    · refine zW_iload_n dX10_neighbour_14 rfl ?_
      refine zW_if_lt (tgt := 33) dX10_neighbour_15 (by decide) (by first | assumption | omega | (unfold InR; omega) | (unfold InL; omega) | (simp only [InR] at *; omega)) (fun q2 => ?_) (fun q2 => ?_)
      · exact bd σ1 m1 (by unfold o_neighbour; rw [if_pos fk, if_pos vk, if_neg (by omega)])
      · refine zW_iload_n dX10_neighbour_18 rfl ?_
        refine zW_iconst dX10_neighbour_19 ?_
        refine zW_aload_n dX10_neighbour_20 rfl ?_
        refine zW_iconst dX10_neighbour_21 ?_
        refine zcV1 dX10_neighbour_22 rfl eX10_get b1443 ⟨by decide, by decide, by decide, by decide⟩ rfl a1.1.1 rfl (by decide) (Nat.le_of_ble_eq_true rfl) (r_get (k := 0) a1 (by omega) h1.rk ?_)
        refine zW_imul dX10_neighbour_25 ?_
        refine zW_icmp_ge (tgt := 33) dX10_neighbour_26 (by decide) (by first | assumption | omega | (unfold InR; omega) | (unfold InL; omega) | (simp only [InR] at *; omega)) (by first | assumption | omega | (unfold InR; omega) | (unfold InL; omega) | (simp only [InR] at *; omega)) (fun q3 => ?_) (fun q3 => ?_)
        · exact bd σ1 m1 (by unfold o_neighbour; rw [if_pos fk, if_pos vk, if_neg (by omega)])
        · have ck : 0 ≤ c ∧ c < 2 * (sRk (aSt A) : Nat) := by omega
          have ho : o_neighbour A f v c = (0, gt (gr A f) v.toNat c.toNat, A) := by unfold o_neighbour; rw [if_pos fk, if_pos vk, if_pos ck]
          have hcall : ∀ R, R (.inl (some (vI (gt (gr A f) v.toNat c.toNat)))) σ1 → zM Γ mX10_step [vR (some y), vI f, vI v, vI c] σ1 R := fun R hR => by
            have := r_step (Γ := Γ) (Q := R) (a := v) (c := c.toNat) a1.1 hG hf2 ok ⟨by omega, by omega⟩ (by omega) (by rw [show v = ((v.toNat : Nat) : Int) by omega, gst_n]; exact hR)
            rw [← ef, show ((c.toNat : Nat) : Int) = c by omega] at this
            exact this
          refine zW_iconst dX10_neighbour_29 ?_
          refine zW_goto (tgt := 34) dX10_neighbour_30 (by decide) ?_
          refine zW_istore dX10_neighbour_34 (by decide) rfl rfl ?_
          refine zW_iload dX10_neighbour_36 rfl ?_
          refine zW_if_eq (tgt := 51) dX10_neighbour_38 (by decide) (by first | assumption | omega | (unfold InR; omega) | (unfold InL; omega) | (simp only [InR] at *; omega)) (fun z => ?_) (fun z => ?_)
          · exact absurd z (by decide)
          · refine zW_aload_n dX10_neighbour_41 rfl ?_
            refine zW_iload_n dX10_neighbour_42 rfl ?_
            refine zW_iload_n dX10_neighbour_43 rfl ?_
            refine zW_iload_n dX10_neighbour_44 rfl ?_
            refine zcV3 dX10_neighbour_45 rfl eX10_step b1688 ⟨by decide, by decide, by decide, by decide⟩ rfl a1.1.1 rfl (by decide) (Nat.le_of_ble_eq_true rfl) (hcall _ ?_)
            refine zW_goto (tgt := 56) dX10_neighbour_48 (by decide) ?_
            refine zW_ireturn dX10_neighbour_56 rfl rfl (by first | decide | (show _ ≤ (0 : Nat); omega)) (by first | decide | (show _ ≤ (0 : Nat); omega)) ?_
            exact hQ.ask ho h m01 t1
  · refine zW_if_eq (tgt := 33) dX10_neighbour_11 (by decide) (by first | assumption | omega | (unfold InR; omega) | (unfold InL; omega) | (simp only [InR] at *; omega)) (fun q => ?_) (fun q => ?_)
    · refine bd σ1 m1 ?_
      unfold o_neighbour
      by_cases fk : inR2 f
      · rw [if_pos fk, if_neg (fun z => hno ⟨fk, z⟩)]
      · rw [if_neg fk]
    · exact absurd rfl q
set_option maxRecDepth 100000 in
theorem q_representativeLength {f v : Int} (h : RI σ y A) (if_ : InR f) (iv : InR v) (hQ : RQ σ y (o_representativeLength A f v) Q) : zM Γ mX10_representativeLength [vR (some y), vI f, vI v] σ Q := by
  refine zM_of (n := 0) (by decide +kernel) rfl rfl rfl ?_
  refine zW_aload_n dX10_representativeLength_0 rfl ?_
  refine zW_iconst dX10_representativeLength_1 ?_
  refine zpI dX10_representativeLength_2 fX10_75 h.1.1 rfl (Or.inl rfl) (zst_int _) ?_
  have m0 : Mr σ (sO σ y 0 0) y KS RS := Mr.O (by decide)
  have h0 := h.mr m0
  have t0 : zO (sO σ y 0 0) y 0 = 0 := zO_sOs _ _ _ _
  generalize sO σ y 0 0 = σ0 at m0 h0 t0 ⊢
  have a0 : RA σ0 y 0 := h0.ra
  refine zW_aload_n dX10_representativeLength_5 rfl ?_
  refine zW_iload_n dX10_representativeLength_6 rfl ?_
  refine zW_iload_n dX10_representativeLength_7 rfl ?_
  refine zcV2 dX10_representativeLength_8 rfl eX10_isVertex b1696 ⟨by decide, by decide, by decide, by decide⟩ rfl a0.1.1 rfl (by decide) (Nat.le_of_ble_eq_true rfl) (q_isVertex h0 if_ iv (fun fk vk σ1 hG hIs h1 m1 => ?_) (fun σ1 hno m1 => ?_))
  · have ok := hIs.ok
    have hf2 : f.toNat < 2 := by unfold inR2 at fk; omega
    have ef : f = ((f.toNat : Nat) : Int) := by unfold inR2 at fk; omega
    have a1 := h1.ra
    have m01 : Mr σ σ1 y KS RS := m0.th m1 (by decide) (by decide)
    have t1 : zO σ1 y 0 = 0 := by rw [m1.o (by decide)]; exact t0
    have hcall : ∀ R, R (.inl (some (vI (gde (gr A f) v.toNat : Nat)))) σ1 → zM Γ mX10_depthOf [vR (some y), vI f, vI v] σ1 R := fun R hR => by
      have := r_depthOf (Γ := Γ) (Q := R) (v := v.toNat) a1.1 hG hf2 ok (by omega) hR
      rw [← ef, show ((v.toNat : Nat) : Int) = v by omega] at this
      exact this
    refine zW_if_eq (tgt := 23) dX10_representativeLength_11 (by decide) (by first | assumption | omega | (unfold InR; omega) | (unfold InL; omega) | (simp only [InR] at *; omega)) (fun q => ?_) (fun q => ?_)
    · exact absurd q (by decide)
    · refine zW_aload_n dX10_representativeLength_14 rfl ?_
      refine zW_iload_n dX10_representativeLength_15 rfl ?_
      refine zW_iload_n dX10_representativeLength_16 rfl ?_
      refine zcV2 dX10_representativeLength_17 rfl eX10_depthOf b1772 ⟨by decide, by decide, by decide, by decide⟩ rfl a1.1.1 rfl (by decide) (Nat.le_of_ble_eq_true rfl) (hcall _ ?_)
      refine zW_goto (tgt := 28) dX10_representativeLength_20 (by decide) ?_
      refine zW_ireturn dX10_representativeLength_28 rfl rfl (by first | decide | (show _ ≤ (0 : Nat); omega)) (by first | decide | (show _ ≤ (0 : Nat); omega)) ?_
      exact hQ.ask (by unfold o_representativeLength; rw [if_pos fk, if_pos vk]) h m01 t1
  · have m01 : Mr σ σ1 y KS RS := m0.th m1 (by decide) (by decide)
    have a1 := a0.mr m1
    have ho : o_representativeLength A f v = (1, 0, A) := by
      unfold o_representativeLength
      by_cases fk : inR2 f
      · rw [if_pos fk, if_neg (fun z => hno ⟨fk, z⟩)]
      · rw [if_neg fk]
    refine zW_if_eq (tgt := 23) dX10_representativeLength_11 (by decide) (by first | assumption | omega | (unfold InR; omega) | (unfold InL; omega) | (simp only [InR] at *; omega)) (fun q => ?_) (fun q => ?_)
    · refine zW_aload_n dX10_representativeLength_23 rfl ?_
      refine zW_iconst dX10_representativeLength_24 ?_
      refine zcV1 dX10_representativeLength_25 rfl eX10_fails b1371 ⟨by decide, by decide, by decide, by decide⟩ rfl a1.1.1 rfl (by decide) (Nat.le_of_ble_eq_true rfl) (r_fails a1.1 ?_)
      refine zW_ireturn dX10_representativeLength_28 rfl rfl (by first | decide | (show _ ≤ (0 : Nat); omega)) (by first | decide | (show _ ≤ (0 : Nat); omega)) ?_
      exact hQ.bad (k := 0) ho h (m01.th (Mr.O (Ks := KS) (Rs := RS) (by decide)) (fun _ z => z) (fun _ z => z)) (zO_sOs _ _ _ _)
    · exact absurd rfl q
end RGRAPH
