/-! the reference: the basis word that is asked for -/
section RBAST
variable {Γ : GG} {σ σ' : HS} {Q : Res → HS → Prop} {y g : Nat} {A : AA} {t w : List Nat} {G : GT}
set_option maxRecDepth 100000 in
theorem o_formatBasisWord_no {f k : Int} (h : ¬ (inR2 f ∧ (0 ≤ k ∧ k < (gE (gr A f) : Int) - gV (gr A f) + 1))) : o_formatBasisWord A f k = (1, 0, A) := by
  unfold o_formatBasisWord
  by_cases fk : inR2 f
  · rw [if_pos fk, if_neg (fun z => h ⟨fk, z⟩)]
  · rw [if_neg fk]
set_option maxRecDepth 100000 in
theorem q_formatBasisWord {f k : Int} (h : RI σ y A) (if_ : InR f) (ik : InR k) (hQ : RQ σ y (o_formatBasisWord A f k) Q) : zM Γ mX10_formatBasisWord [vR (some y), vI f, vI k] σ Q := by
  refine zM_of (n := 3) (by decide +kernel) rfl rfl rfl ?_
  refine zW_aload_n dX10_formatBasisWord_0 rfl ?_
  refine zW_iconst dX10_formatBasisWord_1 ?_
  refine zpI dX10_formatBasisWord_2 fX10_75 h.1.1 rfl (Or.inl rfl) (zst_int _) ?_
  have m0 : Mr σ (sO σ y 0 0) y KS RS := Mr.O (by decide)
  have h0 := h.mr m0
  have t0 : zO (sO σ y 0 0) y 0 = 0 := zO_sOs _ _ _ _
  generalize sO σ y 0 0 = σ0 at m0 h0 t0 ⊢
  have a0 : RA σ0 y 0 := h0.ra
  have bd : ¬ (inR2 f ∧ (0 ≤ k ∧ k < (gE (gr A f) : Int) - gV (gr A f) + 1)) → zW Γ mX10_formatBasisWord 16 [some (vR (some y)), some (vI f), some (vI k), none, none, none] [] σ0 0 0 Q := by
    intro hno
    have ho := o_formatBasisWord_no hno
    refine zW_aload_n dX10_formatBasisWord_16 rfl ?_
    refine zW_iconst dX10_formatBasisWord_17 ?_
    refine zcV1 dX10_formatBasisWord_18 rfl eX10_fails b1371 ⟨by decide, by decide, by decide, by decide⟩ rfl a0.1.1 rfl (by decide) (Nat.le_of_ble_eq_true rfl) (r_fails a0.1 ?_)
    refine zW_ireturn dX10_formatBasisWord_21 rfl rfl (by first | decide | (show _ ≤ (0 : Nat); omega)) (by first | decide | (show _ ≤ (0 : Nat); omega)) ?_
    exact hQ.bad (k := 0) ho h (m0.th (Mr.O (Ks := KS) (Rs := RS) (by decide)) (fun _ z => z) (fun _ z => z)) (zO_sOs _ _ _ _)
  refine zW_iload_n dX10_formatBasisWord_5 rfl ?_
  refine zcS1 dX10_formatBasisWord_6 rfl eX10_isSubgroup b1637 ⟨by decide, by decide, by decide, by decide⟩ rfl (Nat.le_of_ble_eq_true rfl) (r_isSubgroup if_ (fun fk => ?_) (fun fk => ?_))
  · refine zW_if_eq (tgt := 16) dX10_formatBasisWord_9 (by decide) (by first | assumption | omega | (unfold InR; omega) | (unfold InL; omega) | (simp only [InR] at *; omega)) (fun q => ?_) (fun q => ?_)
    · exact absurd q (by decide)
    · refine zW_iload_n dX10_formatBasisWord_12 rfl ?_
      refine zW_if_ge (tgt := 22) dX10_formatBasisWord_13 (by decide) (by first | assumption | omega | (unfold InR; omega) | (unfold InL; omega) | (simp only [InR] at *; omega)) (fun q2 => ?_) (fun q2 => ?_)
      · refine zW_aload_n dX10_formatBasisWord_22 rfl ?_
        refine zW_iload_n dX10_formatBasisWord_23 rfl ?_
        refine zcV1 dX10_formatBasisWord_24 rfl eX10_makes b1644 ⟨by decide, by decide, by decide, by decide⟩ rfl a0.1.1 rfl (by decide) (Nat.le_of_ble_eq_true rfl) (q_makes fk h0 (fun σ1 hG hIs h1 m1 hoth => ?_))
        have hf2 : f.toNat < 2 := by unfold inR2 at fk; omega
        have hw60 := wl60r h hf2
        obtain ⟨g, rfl⟩ : ∃ g : Nat, f = (g : Int) := ⟨f.toNat, by unfold inR2 at fk; omega⟩
        obtain ⟨k, rfl⟩ : ∃ j : Nat, k = (j : Int) := ⟨k.toNat, by omega⟩
        rw [Int.toNat_natCast] at hf2
        change RG σ1 y g (gr A (g : Int)) at hG
        have ok := hIs.ok
        have v9 := ok.2.1
        have hrl := reml_len ok
        have v8 := ok.1
        have k1 := h1.1
        have m01 : Mr σ σ1 y KS RS := m0.th m1 (by decide) (by decide)
        have t1 : zO σ1 y 0 = 0 := by rw [m1.o (by decide)]; exact t0
        have hd60 : ∀ m, m < gV (gr A (g : Int)) → gde (gr A (g : Int)) m ≤ 60 := fun m hm => gde_60 hIs hw60 hm
        have hoy : (0 ≤ ((k : Nat) : Int) ∧ ((k : Nat) : Int) < (gE (gr A (g : Int)) : Int) - gV (gr A (g : Int)) + 1) → o_formatBasisWord A (g : Int) (k : Int) = (0, ((((bwd (gr A (g : Int)) ((reml (gr A (g : Int)) (4 * gV (gr A (g : Int)))).getD k 0)).map lco).length : Nat) : Int), aWfm A ((bwd (gr A (g : Int)) ((reml (gr A (g : Int)) (4 * gV (gr A (g : Int)))).getD k 0)).map lco)) := fun z => by
          unfold o_formatBasisWord
          rw [if_pos fk, if_pos z]
          rfl
        have hon := o_formatBasisWord_no (A := A) (f := (g : Int)) (k := (k : Int))
        generalize gr A (g : Int) = G at hG ok v9 hrl v8 hd60 hoy hon
        have outer : ∀ n v z5, v + n = gV G → (reml G (4 * v)).length ≤ k → zW Γ mX10_formatBasisWord 32 [some (vR (some y)), some (vI g), some (vI k), some (vI ((k - (reml G (4 * v)).length : Nat) : Int)), some (vI v), z5] [] σ1 0 0 Q := by
          intro n
          induction n with
          | zero =>
            intro v z5 hv hle
            have ev : v = gV G := by omega
            subst ev
            have ho := hon (fun z => by omega)
            refine zW_iload dX10_formatBasisWord_32 rfl ?_
            refine zW_aload_n dX10_formatBasisWord_34 rfl ?_
            refine zgP dX10_formatBasisWord_35 fX10_44 k1.1 rfl k1.p_sizes ?_
            refine zW_iload_n dX10_formatBasisWord_38 rfl ?_
            refine zrI dX10_formatBasisWord_39 k1.k_sizes (by first | assumption | omega | (unfold InR; omega) | (unfold InL; omega) | (simp only [InR] at *; omega)) (by first | assumption | omega | (unfold InR; omega) | (unfold InL; omega) | (simp only [InR] at *; omega)) (by first | assumption | omega | (unfold InR; omega) | (unfold InL; omega) | (simp only [InR] at *; omega)) hG.1 ?_
            refine zW_icmp_ge (tgt := 110) dX10_formatBasisWord_40 (by decide) (by first | assumption | omega | (unfold InR; omega) | (unfold InL; omega) | (simp only [InR] at *; omega)) (by first | assumption | omega | (unfold InR; omega) | (unfold InL; omega) | (simp only [InR] at *; omega)) (fun b => ?_) (fun b => ?_)
            · refine zW_aload_n dX10_formatBasisWord_110 rfl ?_
              refine zW_iconst dX10_formatBasisWord_111 ?_
              refine zcV1 dX10_formatBasisWord_112 rfl eX10_fails b1371 ⟨by decide, by decide, by decide, by decide⟩ rfl k1.1 rfl (by decide) (Nat.le_of_ble_eq_true rfl) (r_fails k1 ?_)
              refine zW_ireturn dX10_formatBasisWord_115 rfl rfl (by first | decide | (show _ ≤ (0 : Nat); omega)) (by first | decide | (show _ ≤ (0 : Nat); omega)) ?_
              exact hQ.bad (k := 0) ho h (m01.th (Mr.O (Ks := KS) (Rs := RS) (by decide)) (fun _ z => z) (fun _ z => z)) (zO_sOs _ _ _ _)
            · exact absurd b (by omega)
          | succ n ih =>
            intro v z5 hv hle
            have hvv : v < gV G := by omega
            have inner : ∀ m c, c + m = 4 → (reml G (4 * v + c)).length ≤ k → zW Γ mX10_formatBasisWord 46 [some (vR (some y)), some (vI g), some (vI k), some (vI ((k - (reml G (4 * v + c)).length : Nat) : Int)), some (vI v), some (vI ((2 * c : Nat) : Int))] [] σ1 0 0 Q := by
              intro m
              induction m with
              | zero =>
                intro c hc hle2
                have ec : c = 4 := by omega
                subst ec
                refine zW_iload dX10_formatBasisWord_46 rfl ?_
                refine zW_bipush dX10_formatBasisWord_48 (by decide) ?_
                refine zW_icmp_ge (tgt := 104) dX10_formatBasisWord_50 (by decide) (by first | assumption | omega | (unfold InR; omega) | (unfold InL; omega) | (simp only [InR] at *; omega)) (by first | assumption | omega | (unfold InR; omega) | (unfold InL; omega) | (simp only [InR] at *; omega)) (fun b => ?_) (fun b => ?_)
                · refine zW_iinc dX10_formatBasisWord_104 rfl (by decide) rfl rfl ?_
                  refine zW_goto (tgt := 32) dX10_formatBasisWord_107 (by decide) ?_
                  have := ih (v + 1) (some (vI ((2 * 4 : Nat) : Int))) (by omega)
                  rw [show 4 * (v + 1) = 4 * v + 4 by omega] at this
                  exact this hle2
                · exact absurd b (by decide)
              | succ m ih2 =>
                intro c hc hle2
                have e1 : (4 * v + c) / 4 = v := by omega
                have e2 : 2 * ((4 * v + c) % 4) = 2 * c := by omega
                have hb := ok.2.2.1 v (2 * c) hvv (by omega)
                have rs := reml_succ G (4 * v + c)
                rw [e1, e2] at rs
                have nxt : ¬ (gt G v (2 * c) ≠ -1 ∧ gtree G v (2 * c) = false) → zW Γ mX10_formatBasisWord 98 [some (vR (some y)), some (vI g), some (vI k), some (vI ((k - (reml G (4 * v + c)).length : Nat) : Int)), some (vI v), some (vI ((2 * c : Nat) : Int))] [] σ1 0 0 Q := by
                  intro hn
                  rw [if_neg hn, List.append_nil] at rs
                  refine zW_iinc dX10_formatBasisWord_98 rfl (by decide) rfl rfl ?_
                  refine zW_goto (tgt := 46) dX10_formatBasisWord_101 (by decide) ?_
                  have := ih2 (c + 1) (by omega)
                  rw [show 4 * v + (c + 1) = 4 * v + c + 1 from rfl, rs] at this
                  exact this hle2
                refine zW_iload dX10_formatBasisWord_46 rfl ?_
                refine zW_bipush dX10_formatBasisWord_48 (by decide) ?_
                refine zW_icmp_ge (tgt := 104) dX10_formatBasisWord_50 (by decide) (by first | assumption | omega | (unfold InR; omega) | (unfold InL; omega) | (simp only [InR] at *; omega)) (by first | assumption | omega | (unfold InR; omega) | (unfold InL; omega) | (simp only [InR] at *; omega)) (fun b => ?_) (fun b => ?_)
                · exact absurd b (by omega)
                · refine zW_aload_n dX10_formatBasisWord_53 rfl ?_
                  refine zW_iload_n dX10_formatBasisWord_54 rfl ?_
                  refine zW_iload dX10_formatBasisWord_55 rfl ?_
                  refine zW_iload dX10_formatBasisWord_57 rfl ?_
                  refine zcV3 dX10_formatBasisWord_59 rfl eX10_step b1688 ⟨by decide, by decide, by decide, by decide⟩ rfl k1.1 rfl (by decide) (Nat.le_of_ble_eq_true rfl) (r_step k1 hG hf2 ok (a := (v : Int)) ⟨by omega, by omega⟩ (c := 2 * c) (by omega) ?_)
                  rw [gst_n]
                  refine zW_iconst dX10_formatBasisWord_62 ?_
                  refine zW_icmp_eq (tgt := 98) dX10_formatBasisWord_63 (by decide) (by first | assumption | omega | (unfold InR; omega) | (unfold InL; omega) | (simp only [InR] at *; omega)) (by first | assumption | omega | (unfold InR; omega) | (unfold InL; omega) | (simp only [InR] at *; omega)) (fun b2 => ?_) (fun b2 => ?_)
                  · exact nxt (fun z => z.1 b2)
                  · refine zW_aload_n dX10_formatBasisWord_66 rfl ?_
                    refine zW_iload_n dX10_formatBasisWord_67 rfl ?_
                    refine zW_iload dX10_formatBasisWord_68 rfl ?_
                    refine zW_iload dX10_formatBasisWord_70 rfl ?_
                    refine zcV3 dX10_formatBasisWord_72 rfl eX10_isUsed b1863 ⟨by decide, by decide, by decide, by decide⟩ rfl k1.1 rfl (by decide) (Nat.le_of_ble_eq_true rfl) (r_isUsed k1 hG hf2 ok hvv (c := 2 * c) (by omega) (fun hu => ?_) (fun hu => ?_))
                    · refine zW_if_eq (tgt := 81) dX10_formatBasisWord_75 (by decide) (by first | assumption | omega | (unfold InR; omega) | (unfold InL; omega) | (simp only [InR] at *; omega)) (fun b3 => ?_) (fun b3 => ?_)
                      · exact absurd b3 (by decide)
                      · refine zW_goto (tgt := 98) dX10_formatBasisWord_78 (by decide) ?_
                        exact nxt (fun z => by rw [hu] at z; exact absurd z.2 (by decide))
                    · refine zW_if_eq (tgt := 81) dX10_formatBasisWord_75 (by decide) (by first | assumption | omega | (unfold InR; omega) | (unfold InL; omega) | (simp only [InR] at *; omega)) (fun b3 => ?_) (fun b3 => ?_)
                      · refine zW_iload_n dX10_formatBasisWord_81 rfl ?_
                        refine zW_if_ne (tgt := 95) dX10_formatBasisWord_82 (by decide) (by first | assumption | omega | (unfold InR; omega) | (unfold InL; omega) | (simp only [InR] at *; omega)) (fun b4 => ?_) (fun b4 => ?_)
                        · rw [if_pos ⟨b2, hu⟩] at rs
                          have ek : ((k - (reml G (4 * v + c)).length : Nat) : Int) + -1 = ((k - (reml G (4 * v + c + 1)).length : Nat) : Int) := by
                            rw [rs, List.length_append]
                            have : [4 * v + c].length = 1 := rfl
                            omega
                          refine zW_iinc dX10_formatBasisWord_95 rfl (by decide) rfl rfl ?_
                          refine zW_iinc dX10_formatBasisWord_98 rfl (by decide) rfl rfl ?_
                          refine zW_goto (tgt := 46) dX10_formatBasisWord_101 (by decide) ?_
                          rw [ek]
                          exact ih2 (c + 1) (by omega) (by
                            rw [show 4 * v + (c + 1) = 4 * v + c + 1 from rfl, rs, List.length_append]
                            have : [4 * v + c].length = 1 := rfl
                            omega)
                        · obtain ⟨g1, g2⟩ := reml_at (G := G) (k := k) (e := 4 * v + c) (by omega) (by rw [e1, e2]; exact ⟨b2, hu⟩) (by omega)
                          have ho := hoy ⟨by omega, by omega⟩
                          rw [g1] at ho
                          refine zW_aload_n dX10_formatBasisWord_85 rfl ?_
                          refine zW_iload_n dX10_formatBasisWord_86 rfl ?_
                          refine zW_iload dX10_formatBasisWord_87 rfl ?_
                          refine zW_iload dX10_formatBasisWord_89 rfl ?_
                          refine zcV3 dX10_formatBasisWord_91 rfl eX10_writesBasisWord b1867 ⟨by decide, by decide, by decide, by decide⟩ rfl k1.1 rfl (by decide) (Nat.le_of_ble_eq_true rfl) (r_writesBasisWord k1 hG hf2 ok hd60 hvv (c := 2 * c) (e := 4 * v + c) (by omega) b2 ⟨e1.symm, e2.symm⟩ (fun σ2 F2 m2 => ?_))
                          refine zW_ireturn dX10_formatBasisWord_94 rfl rfl (by first | decide | (show _ ≤ (0 : Nat); omega)) (by first | decide | (show _ ≤ (0 : Nat); omega)) ?_
                          have m12 : Mr σ σ2 y KF RSF := (m01.wk (by decide) (by decide)).th m2 (by decide) (by decide)
                          unfold RQ at hQ
                          rw [ho] at hQ
                          exact hQ σ2 _ (h.fm m12 F2) (by rw [m2.o (by decide)]; exact t1) (m12.md (by decide)) (fun _ => rfl)
                      · exact absurd rfl b3
            refine zW_iload dX10_formatBasisWord_32 rfl ?_
            refine zW_aload_n dX10_formatBasisWord_34 rfl ?_
            refine zgP dX10_formatBasisWord_35 fX10_44 k1.1 rfl k1.p_sizes ?_
            refine zW_iload_n dX10_formatBasisWord_38 rfl ?_
            refine zrI dX10_formatBasisWord_39 k1.k_sizes (by first | assumption | omega | (unfold InR; omega) | (unfold InL; omega) | (simp only [InR] at *; omega)) (by first | assumption | omega | (unfold InR; omega) | (unfold InL; omega) | (simp only [InR] at *; omega)) (by first | assumption | omega | (unfold InR; omega) | (unfold InL; omega) | (simp only [InR] at *; omega)) hG.1 ?_
            refine zW_icmp_ge (tgt := 110) dX10_formatBasisWord_40 (by decide) (by first | assumption | omega | (unfold InR; omega) | (unfold InL; omega) | (simp only [InR] at *; omega)) (by first | assumption | omega | (unfold InR; omega) | (unfold InL; omega) | (simp only [InR] at *; omega)) (fun b => ?_) (fun b => ?_)
            · exact absurd b (by omega)
            · refine zW_iconst dX10_formatBasisWord_43 ?_
              refine zW_istore dX10_formatBasisWord_44 (by decide) rfl rfl ?_
              exact inner 4 0 rfl hle
        refine zW_iload_n dX10_formatBasisWord_27 rfl ?_
        refine zW_istore_n dX10_formatBasisWord_28 (by decide) rfl rfl ?_
        refine zW_iconst dX10_formatBasisWord_29 ?_
        refine zW_istore dX10_formatBasisWord_30 (by decide) rfl rfl ?_
        have := outer (gV G) 0 none (by omega) (Nat.zero_le _)
        exact this
      · exact bd (fun z => by omega)
  · refine zW_if_eq (tgt := 16) dX10_formatBasisWord_9 (by decide) (by first | assumption | omega | (unfold InR; omega) | (unfold InL; omega) | (simp only [InR] at *; omega)) (fun q => ?_) (fun q => ?_)
    · exact bd (fun z => fk z.1)
    · exact absurd rfl q
end RBAST
