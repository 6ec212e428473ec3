/-! the reference: basis words -/
section RBAS
variable {Γ : GG} {σ σ' : HS} {Q : Res → HS → Prop} {y g : Nat} {A : AA} {t w : List Nat} {G : GT}
set_option maxRecDepth 100000 in
theorem r_isUsed {v c : Nat} (h : RK σ y) (hG : RG σ y g G) (hg : g < 2) (ok : GOK G) (hv : v < gV G) (hc : c < 8) (h1 : gtree G v c = true → Q (.inl (some (vI 1))) σ) (h0 : gtree G v c = false → Q (.inl (some (vI 0))) σ) : zM Γ mX10_isUsed [vR (some y), vI g, vI v, vI c] σ Q := by
  have v9 := ok.2.1
  have hb := ok.2.2.1 v c hv hc
  have h0' : ¬ gtree G v c = true → Q (.inl (some (vI 0))) σ := fun z => h0 (Bool.eq_false_iff.mpr z)
  rw [gtree_iff] at h1 h0'
  refine zM_of (n := 3) (by decide +kernel) rfl rfl rfl ?_
  refine zW_aload_n dX10_isUsed_0 rfl ?_
  refine zW_iload_n dX10_isUsed_1 rfl ?_
  refine zW_iload_n dX10_isUsed_2 rfl ?_
  refine zW_iload_n dX10_isUsed_3 rfl ?_
  refine zcV3 dX10_isUsed_4 rfl eX10_step b1688 ⟨by decide, by decide, by decide, by decide⟩ rfl h.1 rfl (by decide) (Nat.le_of_ble_eq_true rfl) (r_step h hG hg ok (a := (v : Int)) ⟨by omega, by omega⟩ hc ?_)
  rw [gst_n]
  generalize gt G v c = s at hb h1 h0'
  have yes : ((0 < s ∧ gpa G s.toNat = v ∧ gpc G s.toNat = c) ∨ (0 < v ∧ (gpa G v : Int) = s ∧ gpc G v = c ^^^ 1)) → zW Γ mX10_isUsed 84 [some (vR (some y)), some (vI g), some (vI v), some (vI c), some (vI s), some (vI ((361 : Int) * g + v)), some (vI ((361 : Int) * g + s))] [] σ 0 0 Q := fun z => by
    refine zW_iconst dX10_isUsed_84 ?_
    refine zW_goto (tgt := 89) dX10_isUsed_85 (by decide) ?_
    refine zW_ireturn dX10_isUsed_89 rfl rfl (by first | decide | (show _ ≤ (0 : Nat); omega)) (by first | decide | (show _ ≤ (0 : Nat); omega)) ?_
    exact h1 z
  have two : ¬ (0 < s ∧ gpa G s.toNat = v ∧ gpc G s.toNat = c) → zW Γ mX10_isUsed 55 [some (vR (some y)), some (vI g), some (vI v), some (vI c), some (vI s), some (vI ((361 : Int) * g + v)), some (vI ((361 : Int) * g + s))] [] σ 0 0 Q := fun z => by
    have no : ¬ (0 < v ∧ (gpa G v : Int) = s ∧ gpc G v = c ^^^ 1) → zW Γ mX10_isUsed 88 [some (vR (some y)), some (vI g), some (vI v), some (vI c), some (vI s), some (vI ((361 : Int) * g + v)), some (vI ((361 : Int) * g + s))] [] σ 0 0 Q := fun z2 => by
      refine zW_iconst dX10_isUsed_88 ?_
      refine zW_ireturn dX10_isUsed_89 rfl rfl (by first | decide | (show _ ≤ (0 : Nat); omega)) (by first | decide | (show _ ≤ (0 : Nat); omega)) ?_
      exact h0' (fun z3 => z3.elim z z2)
    refine zW_iload_n dX10_isUsed_55 rfl ?_
    refine zW_if_le (tgt := 88) dX10_isUsed_56 (by decide) (by first | assumption | omega | (unfold InR; omega) | (unfold InL; omega) | (simp only [InR] at *; omega)) (fun q => ?_) (fun q => ?_)
    · exact no (fun z2 => by omega)
    · obtain ⟨e1, e2⟩ := hG.2.2.2 v (by omega) hv
      obtain ⟨k1, k2, k3, k4⟩ := ok.2.2.2.2.1 v (by omega) hv
      refine zW_aload_n dX10_isUsed_59 rfl ?_
      refine zgP dX10_isUsed_60 fX10_47 h.1 rfl h.p_cameFrom ?_
      refine zW_iload dX10_isUsed_63 rfl ?_
      refine zrI dX10_isUsed_65 h.k_cameFrom (by first | assumption | omega | (unfold InR; omega) | (unfold InL; omega) | (simp only [InR] at *; omega)) (by first | assumption | omega | (unfold InR; omega) | (unfold InL; omega) | (simp only [InR] at *; omega)) (by first | assumption | omega | (unfold InR; omega) | (unfold InL; omega) | (simp only [InR] at *; omega)) (zix (f := zI σ (y + 12)) (j := 361 * g + v) (by omega) e1) ?_
      refine zW_iload dX10_isUsed_66 rfl ?_
      refine zW_icmp_ne (tgt := 88) dX10_isUsed_68 (by decide) (by first | assumption | omega | (unfold InR; omega) | (unfold InL; omega) | (simp only [InR] at *; omega)) (by first | assumption | omega | (unfold InR; omega) | (unfold InL; omega) | (simp only [InR] at *; omega)) (fun q2 => ?_) (fun q2 => ?_)
      · exact no (fun z2 => by omega)
      · have hx := x1_lt hc
        refine zW_aload_n dX10_isUsed_71 rfl ?_
        refine zgP dX10_isUsed_72 fX10_50 h.1 rfl h.p_cameBy ?_
        refine zW_iload dX10_isUsed_75 rfl ?_
        refine zrI dX10_isUsed_77 h.k_cameBy (by first | assumption | omega | (unfold InR; omega) | (unfold InL; omega) | (simp only [InR] at *; omega)) (by first | assumption | omega | (unfold InR; omega) | (unfold InL; omega) | (simp only [InR] at *; omega)) (by first | assumption | omega | (unfold InR; omega) | (unfold InL; omega) | (simp only [InR] at *; omega)) (zix (f := zI σ (y + 13)) (j := 361 * g + v) (by omega) e2) ?_
        refine zW_iload_n dX10_isUsed_78 rfl ?_
        refine zW_iconst dX10_isUsed_79 ?_
        refine zW_ixor1 dX10_isUsed_80 hc ?_
        refine zW_icmp_ne (tgt := 88) dX10_isUsed_81 (by decide) (by first | assumption | omega | (unfold InR; omega) | (unfold InL; omega) | (simp only [InR] at *; omega)) (by first | assumption | omega | (unfold InR; omega) | (unfold InL; omega) | (simp only [InR] at *; omega)) (fun q3 => ?_) (fun q3 => ?_)
        · exact no (fun z2 => by omega)
        · exact yes (Or.inr ⟨by omega, by omega, by omega⟩)
  refine zW_istore dX10_isUsed_7 (by decide) rfl rfl ?_
  refine zW_sipush dX10_isUsed_9 (by decide) ?_
  refine zW_iload_n dX10_isUsed_12 rfl ?_
  refine zW_imul dX10_isUsed_13 ?_
  refine zW_iload_n dX10_isUsed_14 rfl ?_
  refine zW_iadd dX10_isUsed_15 ?_
  refine zW_istore dX10_isUsed_16 (by decide) rfl rfl ?_
  refine zW_sipush dX10_isUsed_18 (by decide) ?_
  refine zW_iload_n dX10_isUsed_21 rfl ?_
  refine zW_imul dX10_isUsed_22 ?_
  refine zW_iload dX10_isUsed_23 rfl ?_
  refine zW_iadd dX10_isUsed_25 ?_
  refine zW_istore dX10_isUsed_26 (by decide) rfl rfl ?_
  refine zW_iload dX10_isUsed_28 rfl ?_
  refine zW_if_le (tgt := 55) dX10_isUsed_30 (by decide) (by first | assumption | omega | (unfold InR; omega) | (unfold InL; omega) | (simp only [InR] at *; omega)) (fun q => ?_) (fun q => ?_)
  · exact two (fun z => by omega)
  · obtain ⟨S, rfl⟩ : ∃ S : Nat, s = (S : Int) := ⟨s.toNat, by omega⟩
    rw [Int.toNat_natCast] at two yes
    obtain ⟨e1, e2⟩ := hG.2.2.2 S (by omega) (by omega)
    obtain ⟨k1, k2, k3, k4⟩ := ok.2.2.2.2.1 S (by omega) (by omega)
    refine zW_aload_n dX10_isUsed_33 rfl ?_
    refine zgP dX10_isUsed_34 fX10_47 h.1 rfl h.p_cameFrom ?_
    refine zW_iload dX10_isUsed_37 rfl ?_
    refine zrI dX10_isUsed_39 h.k_cameFrom (by first | assumption | omega | (unfold InR; omega) | (unfold InL; omega) | (simp only [InR] at *; omega)) (by first | assumption | omega | (unfold InR; omega) | (unfold InL; omega) | (simp only [InR] at *; omega)) (by first | assumption | omega | (unfold InR; omega) | (unfold InL; omega) | (simp only [InR] at *; omega)) (zix (f := zI σ (y + 12)) (j := 361 * g + S) (by omega) e1) ?_
    refine zW_iload_n dX10_isUsed_40 rfl ?_
    refine zW_icmp_ne (tgt := 55) dX10_isUsed_41 (by decide) (by first | assumption | omega | (unfold InR; omega) | (unfold InL; omega) | (simp only [InR] at *; omega)) (by first | assumption | omega | (unfold InR; omega) | (unfold InL; omega) | (simp only [InR] at *; omega)) (fun q2 => ?_) (fun q2 => ?_)
    · exact two (fun z => by omega)
    · refine zW_aload_n dX10_isUsed_44 rfl ?_
      refine zgP dX10_isUsed_45 fX10_50 h.1 rfl h.p_cameBy ?_
      refine zW_iload dX10_isUsed_48 rfl ?_
      refine zrI dX10_isUsed_50 h.k_cameBy (by first | assumption | omega | (unfold InR; omega) | (unfold InL; omega) | (simp only [InR] at *; omega)) (by first | assumption | omega | (unfold InR; omega) | (unfold InL; omega) | (simp only [InR] at *; omega)) (by first | assumption | omega | (unfold InR; omega) | (unfold InL; omega) | (simp only [InR] at *; omega)) (zix (f := zI σ (y + 13)) (j := 361 * g + S) (by omega) e2) ?_
      refine zW_iload_n dX10_isUsed_51 rfl ?_
      refine zW_icmp_eq (tgt := 84) dX10_isUsed_52 (by decide) (by first | assumption | omega | (unfold InR; omega) | (unfold InL; omega) | (simp only [InR] at *; omega)) (by first | assumption | omega | (unfold InR; omega) | (unfold InL; omega) | (simp only [InR] at *; omega)) (fun q3 => ?_) (fun q3 => ?_)
      · exact yes (Or.inl ⟨by omega, by omega, by omega⟩)
      · exact two (fun z => by omega)
set_option maxRecDepth 100000 in
theorem r_writesBasisWord {v c e : Nat} (h : RK σ y) (hG : RG σ y g G) (hg : g < 2) (ok : GOK G) (hd60 : ∀ m, m < gV G → gde G m ≤ 60) (hv : v < gV G) (hc : c < 8) (hne : gt G v c ≠ -1) (he : v = e / 4 ∧ c = 2 * (e % 4)) (hQ : ∀ σ', rFm σ' y ((bwd G e).map lco) → Mr σ σ' y [11, 13] [3, 4] → Q (.inl (some (vI (((bwd G e).map lco).length : Nat)))) σ') : zM Γ mX10_writesBasisWord [vR (some y), vI g, vI v, vI c] σ Q := by
  have v9 := ok.2.1
  have hb := ok.2.2.1 v c hv hc
  have hrl := rpw_len G v
  have hdv := hd60 v hv
  have hpl := pw_len (rpw G v) c
  have ebw : bwd G e = pws (pw (rpw G v) c) (wayb G (gde G (gt G v c).toNat) (gt G v c).toNat) := by
    unfold bwd
    rw [← he.1, ← he.2]
  refine zM_of (n := 1) (by decide +kernel) rfl rfl rfl ?_
  refine zW_aload_n dX10_writesBasisWord_0 rfl ?_
  refine zcV0 dX10_writesBasisWord_1 rfl eX10_begins b1431 ⟨by decide, by decide, by decide, by decide⟩ rfl h.1 rfl (by decide) (Nat.le_of_ble_eq_true rfl) (r_begins h (fun σ1 p1 m1 => ?_))
  have k1 := h.mr m1
  refine zW_aload_n dX10_writesBasisWord_4 rfl ?_
  refine zW_iload_n dX10_writesBasisWord_5 rfl ?_
  refine zW_iload_n dX10_writesBasisWord_6 rfl ?_
  refine zcV2 dX10_writesBasisWord_7 rfl eX10_pushesRepresentative b1871 ⟨by decide, by decide, by decide, by decide⟩ rfl k1.1 rfl (by decide) (Nat.le_of_ble_eq_true rfl) (r_pushesRepresentative k1 (hG.mr m1) hg ok hv hdv p1 (fun σ2 p2 n2 => ?_))
  have m2 := m1.tr n2
  have k2 := h.mr m2
  refine zW_aload_n dX10_writesBasisWord_10 rfl ?_
  refine zW_iload_n dX10_writesBasisWord_11 rfl ?_
  refine zcV1 dX10_writesBasisWord_12 rfl eX10_pushes b1447 ⟨by decide, by decide, by decide, by decide⟩ rfl k2.1 rfl (by decide) (Nat.le_of_ble_eq_true rfl) (r_pushes k2 p2 hc (by omega) (fun σ3 p3 n3 => ?_))
  have m3 := m2.tr n3
  have k3 := h.mr m3
  have hG3 := hG.mr m3
  refine zW_aload_n dX10_writesBasisWord_15 rfl ?_
  refine zW_iload_n dX10_writesBasisWord_16 rfl ?_
  refine zW_iload_n dX10_writesBasisWord_17 rfl ?_
  refine zW_iload_n dX10_writesBasisWord_18 rfl ?_
  refine zcV3 dX10_writesBasisWord_19 rfl eX10_step b1688 ⟨by decide, by decide, by decide, by decide⟩ rfl k3.1 rfl (by decide) (Nat.le_of_ble_eq_true rfl) (r_step k3 hG3 hg ok (a := (v : Int)) ⟨by omega, by omega⟩ hc ?_)
  rw [gst_n]
  obtain ⟨s, hs⟩ : ∃ s : Nat, gt G v c = (s : Int) := ⟨(gt G v c).toNat, by omega⟩
  rw [hs] at hb ebw ⊢
  rw [Int.toNat_natCast] at ebw
  have hsv : s < gV G := by omega
  have loop : ∀ n u l σ4, gde G u = n → u < gV G → l.length + n ≤ 200 → pws l (wayb G n u) = bwd G e → RP σ4 y l → Mr σ σ4 y [13] [4] → zW Γ mX10_writesBasisWord 24 [some (vR (some y)), some (vI g), some (vI v), some (vI c), some (vI u)] [] σ4 0 0 Q := by
    intro n
    induction n with
    | zero =>
      intro u l σ4 hn hu hl hw p4 m4
      have k4 := h.mr m4
      have u0 : u = 0 := by
        rcases Nat.eq_zero_or_pos u with z | z
        · exact z
        · have := (ok.2.2.2.2.1 u z hu).2.2.2
          omega
      have ew : l = bwd G e := hw
      refine zW_iload dX10_writesBasisWord_24 rfl ?_
      refine zW_if_eq (tgt := 66) dX10_writesBasisWord_26 (by decide) (by first | assumption | omega | (unfold InR; omega) | (unfold InL; omega) | (simp only [InR] at *; omega)) (fun b => ?_) (fun b => ?_)
      · refine zW_aload_n dX10_writesBasisWord_66 rfl ?_
        refine zcV0 dX10_writesBasisWord_67 rfl eX10_writesWork b1875 ⟨by decide, by decide, by decide, by decide⟩ rfl k4.1 rfl (by decide) (Nat.le_of_ble_eq_true rfl) (r_writesWork k4 p4 (by omega) (fun σ5 F5 m5 => ?_))
        refine zW_ireturn dX10_writesBasisWord_70 rfl rfl (by first | decide | (show _ ≤ (0 : Nat); omega)) (by first | decide | (show _ ≤ (0 : Nat); omega)) ?_
        rw [← ew] at hQ
        exact hQ σ5 F5 ((m4.wk (by decide) (by decide)).th m5 (by decide) (by decide))
      · exact absurd b (by omega)
    | succ n ih =>
      intro u l σ4 hn hu hl hw p4 m4
      have k4 := h.mr m4
      have hG4 := hG.mr m4
      have u1 := gde_pos ok hu (by omega)
      obtain ⟨e1, e2⟩ := hG4.2.2.2 u u1 hu
      obtain ⟨q1, q2, q3, q4⟩ := ok.2.2.2.2.1 u u1 hu
      have hx := x1_lt q2
      refine zW_iload dX10_writesBasisWord_24 rfl ?_
      refine zW_if_eq (tgt := 66) dX10_writesBasisWord_26 (by decide) (by first | assumption | omega | (unfold InR; omega) | (unfold InL; omega) | (simp only [InR] at *; omega)) (fun b => ?_) (fun b => ?_)
      · exact absurd b (by omega)
      · refine zW_aload_n dX10_writesBasisWord_29 rfl ?_
        refine zW_aload_n dX10_writesBasisWord_30 rfl ?_
        refine zgP dX10_writesBasisWord_31 fX10_50 k4.1 rfl k4.p_cameBy ?_
        refine zW_sipush dX10_writesBasisWord_34 (by decide) ?_
        refine zW_iload_n dX10_writesBasisWord_37 rfl ?_
        refine zW_imul dX10_writesBasisWord_38 ?_
        refine zW_iload dX10_writesBasisWord_39 rfl ?_
        refine zW_iadd dX10_writesBasisWord_41 ?_
        refine zrI dX10_writesBasisWord_42 k4.k_cameBy (by first | assumption | omega | (unfold InR; omega) | (unfold InL; omega) | (simp only [InR] at *; omega)) (by first | assumption | omega | (unfold InR; omega) | (unfold InL; omega) | (simp only [InR] at *; omega)) (by first | assumption | omega | (unfold InR; omega) | (unfold InL; omega) | (simp only [InR] at *; omega)) (zix (f := zI σ4 (y + 13)) (j := 361 * g + u) (by omega) e2) ?_
        refine zW_iconst dX10_writesBasisWord_43 ?_
        refine zW_ixor1 dX10_writesBasisWord_44 q2 ?_
        have hpl2 := pw_len l (gpc G u ^^^ 1)
        refine zcV1 dX10_writesBasisWord_45 rfl eX10_pushes b1447 ⟨by decide, by decide, by decide, by decide⟩ rfl k4.1 rfl (by decide) (Nat.le_of_ble_eq_true rfl) (r_pushes k4 p4 hx (by omega) (fun σ5 p5 m5 => ?_))
        have k5 := k4.mr m5
        have e1' := ((hG4.mr m5).2.2.2 u u1 hu).1
        refine zW_aload_n dX10_writesBasisWord_48 rfl ?_
        refine zgP dX10_writesBasisWord_49 fX10_47 k5.1 rfl k5.p_cameFrom ?_
        refine zW_sipush dX10_writesBasisWord_52 (by decide) ?_
        refine zW_iload_n dX10_writesBasisWord_55 rfl ?_
        refine zW_imul dX10_writesBasisWord_56 ?_
        refine zW_iload dX10_writesBasisWord_57 rfl ?_
        refine zW_iadd dX10_writesBasisWord_59 ?_
        refine zrI dX10_writesBasisWord_60 k5.k_cameFrom (by first | assumption | omega | (unfold InR; omega) | (unfold InL; omega) | (simp only [InR] at *; omega)) (by first | assumption | omega | (unfold InR; omega) | (unfold InL; omega) | (simp only [InR] at *; omega)) (by first | assumption | omega | (unfold InR; omega) | (unfold InL; omega) | (simp only [InR] at *; omega)) (zix (f := zI σ5 (y + 12)) (j := 361 * g + u) (by omega) e1') ?_
        refine zW_istore dX10_writesBasisWord_61 (by decide) rfl rfl ?_
        refine zW_goto (tgt := 24) dX10_writesBasisWord_63 (by decide) ?_
        exact ih (gpa G u) _ σ5 (by omega) (by omega) (by omega) hw p5 (m4.tr m5)
  have hds := hd60 s hsv
  refine zW_istore dX10_writesBasisWord_22 (by decide) rfl rfl ?_
  exact loop (gde G s) s _ σ3 rfl hsv (by omega) ebw.symm p3 m3
set_option maxRecDepth 100000 in
theorem reml_at {k e : Nat} (hk : (reml G e).length = k) (h : gt G (e / 4) (2 * (e % 4)) ≠ -1 ∧ gtree G (e / 4) (2 * (e % 4)) = false) (he : e < 4 * gV G) : (reml G (4 * gV G)).getD k 0 = e ∧ k < (reml G (4 * gV G)).length := by
  have hpre : ∀ m, ∃ r, reml G (e + 1 + m) = reml G (e + 1) ++ r := by
    intro m
    induction m with
    | zero => exact ⟨[], by rw [List.append_nil, Nat.add_zero]⟩
    | succ m ihm =>
      obtain ⟨r, hr⟩ := ihm
      exact ⟨_, by rw [show e + 1 + (m + 1) = (e + 1 + m) + 1 from rfl, reml_succ, hr, List.append_assoc]⟩
  obtain ⟨r, hr⟩ := hpre (4 * gV G - (e + 1))
  rw [show e + 1 + (4 * gV G - (e + 1)) = 4 * gV G by omega, reml_succ, if_pos h, List.append_assoc] at hr
  constructor
  · rw [hr, List.getD_eq_getElem?_getD, ← hk, List.getElem?_append_right (Nat.le_refl _), Nat.sub_self]
    rfl
  · rw [hr, List.length_append, List.length_append]
    show k < (reml G e).length + ([e].length + r.length)
    have : [e].length = 1 := rfl
    omega
set_option maxRecDepth 100000 in
theorem reml_le : ∀ e, (reml G e).length ≤ e := by
  intro e
  unfold reml
  have := List.length_filter_le (fun e => decide (gt G (e / 4) (2 * (e % 4)) ≠ -1 ∧ gtree G (e / 4) (2 * (e % 4)) = false)) (List.range e)
  rw [List.length_range] at this
  exact this
end RBAS
