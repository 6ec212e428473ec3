/-! the reference: statements, all, load -/
section RLOAD
variable {Γ : GG} {σ σ' : HS} {Q : Res → HS → Prop} {y o p : Nat} {l w : List Nat} {t : Nat × Nat × Nat} {x : ST} {A : AA}
set_option maxRecDepth 100000 in
theorem RA.outs (m : Mr σ σ' y KU [4]) : OutS σ σ' y 12230 := fun k _ => by rw [m.i (i := 1) (by decide)]
set_option maxRecDepth 100000 in
theorem r_readsStatement (h : RA σ y 12230) (hI : rIn σ y l) (hx : SR σ y 12230 x) (hr4 : sRk x ≤ 4) (hP : PR σ y l t) (ht : ∃ q, q ≤ l.length ∧ t = tok (tl l) l.length q)
    (h0 : ∀ σ' e, stm (tl l) l.length x t = .inl e → PF σ' y e → Mr σ σ' y KU [1, 4] → OutS σ σ' y 12230 → Q (.inl (some (vI 0))) σ')
    (h1 : ∀ σ' x' q, stm (tl l) l.length x t = .inr (x', tok (tl l) l.length q) → sRk x' = sRk x → t.2.2 < q → q ≤ l.length → zO σ' y 32 = (q : Int) → SR σ' y 12230 x' → Mr σ σ' y KU [1, 4] → OutS σ σ' y 12230 → Q (.inl (some (vI 1))) σ') : zM Γ mX10_readsStatement [vR (some y)] σ Q := by
  obtain ⟨q, hq, et⟩ := ht
  have tl9 := tok_le (tx := tl l) hq
  rw [← et] at tl9
  have hl6 := hI.2.1
  have hle : t.2.1 ≤ t.2.2 ∧ t.2.2 ≤ l.length := ⟨tl9.2.1, tl9.2.2.1⟩
  unfold stm at h0 h1
  have cS : kw kwS (tl l) t = true ↔ IW (tl l) t 115 101 116 0 := kw_iff3 (by decide) (by decide) (by decide) hle.1
  have cJ : kw kwJ (tl l) t = true ↔ IW (tl l) t 106 111 105 110 := kw_iff4 (by decide) (by decide) (by decide) (by decide) hle.1
  refine zM_of (n := 2) (by decide +kernel) rfl rfl rfl ?_
  refine zW_aload_n dX10_readsStatement_0 rfl ?_
  refine zW_bipush dX10_readsStatement_1 (by decide) ?_
  refine zW_bipush dX10_readsStatement_3 (by decide) ?_
  refine zW_bipush dX10_readsStatement_5 (by decide) ?_
  refine zW_iconst dX10_readsStatement_7 ?_
  refine zcV4 dX10_readsStatement_8 rfl eX10_isWord b1407 ⟨by decide, by decide, by decide, by decide⟩ rfl h.1.1 rfl (by decide) (Nat.le_of_ble_eq_true rfl) (r_isWord (a := 115) (b := 101) (c := 116) (d := 0) h.1 hI hP hle tl9.2.2.2.1 (by decide) (by decide) (by decide) (by decide) (fun z => ?_) (fun z => ?_))
  · rw [if_pos (cS.mpr z)] at h0 h1
    refine zW_if_eq (tgt := 19) dX10_readsStatement_11 (by decide) (by first | assumption | omega | (unfold InR; omega) | (unfold InL; omega) | (simp only [InR] at *; omega)) (fun b => ?_) (fun b => ?_)
    · exact absurd b (by decide)
    · refine zW_aload_n dX10_readsStatement_14 rfl ?_
      refine zcV0 dX10_readsStatement_15 rfl eX10_readsSet b1427 ⟨by decide, by decide, by decide, by decide⟩ rfl h.1.1 rfl (by decide) (Nat.le_of_ble_eq_true rfl) (r_readsSet h hI hx hr4 hP.2.2.1 hle.2 (fun σ1 e he hf m1 o1 => ?_) (fun σ1 x' q he hr hpq hqn h32 hS m1 o1 => ?_))
      · refine zW_ireturn dX10_readsStatement_18 rfl rfl (by first | decide | (show _ ≤ (0 : Nat); omega)) (by first | decide | (show _ ≤ (0 : Nat); omega)) ?_
        exact h0 σ1 e he hf m1 o1
      · refine zW_ireturn dX10_readsStatement_18 rfl rfl (by first | decide | (show _ ≤ (0 : Nat); omega)) (by first | decide | (show _ ≤ (0 : Nat); omega)) ?_
        exact h1 σ1 x' q he hr hpq hqn h32 hS m1 o1
  · rw [if_neg (fun w => z (cS.mp w))] at h0 h1
    refine zW_if_eq (tgt := 19) dX10_readsStatement_11 (by decide) (by first | assumption | omega | (unfold InR; omega) | (unfold InL; omega) | (simp only [InR] at *; omega)) (fun b => ?_) (fun b => ?_)
    · refine zW_aload_n dX10_readsStatement_19 rfl ?_
      refine zW_bipush dX10_readsStatement_20 (by decide) ?_
      refine zW_bipush dX10_readsStatement_22 (by decide) ?_
      refine zW_bipush dX10_readsStatement_24 (by decide) ?_
      refine zW_bipush dX10_readsStatement_26 (by decide) ?_
      refine zcV4 dX10_readsStatement_28 rfl eX10_isWord b1407 ⟨by decide, by decide, by decide, by decide⟩ rfl h.1.1 rfl (by decide) (Nat.le_of_ble_eq_true rfl) (r_isWord (a := 106) (b := 111) (c := 105) (d := 110) h.1 hI hP hle tl9.2.2.2.1 (by decide) (by decide) (by decide) (by decide) (fun z2 => ?_) (fun z2 => ?_))
      · rw [if_pos (cJ.mpr z2)] at h0 h1
        unfold stmJ at h0 h1
        have t1l := tok_le (tx := tl l) hle.2
        generalize hT : tok (tl l) l.length t.2.2 = t1 at h0 h1 t1l
        refine zW_if_ne (tgt := 40) dX10_readsStatement_31 (by decide) (by first | assumption | omega | (unfold InR; omega) | (unfold InL; omega) | (simp only [InR] at *; omega)) (fun b2 => ?_) (fun b2 => ?_)
        · refine zW_aload_n dX10_readsStatement_40 rfl ?_
          refine zW_iconst dX10_readsStatement_41 ?_
          refine zW_iconst dX10_readsStatement_42 ?_
          refine zcV2 dX10_readsStatement_43 rfl eX10_isNumber b1415 ⟨by decide, by decide, by decide, by decide⟩ rfl h.1.1 rfl (by decide) (Nat.le_of_ble_eq_true rfl) (r_isNumber (lo := 0) (hi := 1) h.1 hI hP.2.2.1 hle.2 (by decide) (by decide) (fun σ1 e1 f1 m1 => ?_) (fun σ1 e1 e2 f1 m1 => ?_) (fun σ1 e1 e2 e3 f1 n1 m1 => ?_))
          · rw [hT] at e1 f1
            rw [if_pos e1] at h0
            refine zW_if_ne (tgt := 51) dX10_readsStatement_46 (by decide) (by first | assumption | omega | (unfold InR; omega) | (unfold InL; omega) | (simp only [InR] at *; omega)) (fun b3 => ?_) (fun b3 => ?_)
            · exact absurd rfl b3
            · refine zW_iconst dX10_readsStatement_49 ?_
              refine zW_ireturn dX10_readsStatement_50 rfl rfl (by first | decide | (show _ ≤ (0 : Nat); omega)) (by first | decide | (show _ ≤ (0 : Nat); omega)) ?_
              exact h0 σ1 _ rfl f1 (m1.wk (by decide) (by decide)) (RA.outs (m1.wk (by decide) (by decide)))
          · rw [hT] at e1 e2 f1
            rw [if_neg (by omega), if_pos (by omega)] at h0
            refine zW_if_ne (tgt := 51) dX10_readsStatement_46 (by decide) (by first | assumption | omega | (unfold InR; omega) | (unfold InL; omega) | (simp only [InR] at *; omega)) (fun b3 => ?_) (fun b3 => ?_)
            · exact absurd rfl b3
            · refine zW_iconst dX10_readsStatement_49 ?_
              refine zW_ireturn dX10_readsStatement_50 rfl rfl (by first | decide | (show _ ≤ (0 : Nat); omega)) (by first | decide | (show _ ≤ (0 : Nat); omega)) ?_
              exact h0 σ1 _ rfl f1 (m1.wk (by decide) (by decide)) (RA.outs (m1.wk (by decide) (by decide)))
          · rw [hT] at e1 e2 e3 f1 n1
            generalize hN : tnum (tl l) t1 = N at e2 e3 n1 h0 h1
            have fg : inR2 (N : Int) := by unfold inR2; omega
            rw [if_neg (by omega), if_neg (by omega)] at h0 h1
            have a1 := h.mr m1
            have x1 : SR σ1 y 12230 x := hx.mr m1
            obtain ⟨c1, c2, c3⟩ := x1.2.2 N (by omega)
            have ew : zI σ1 (y + 1) (12230 + (489 + 367 * ((N : Int)).toNat)) = ((sGw x N).length : Int) := by rw [← c1]; congr 1; omega
            refine zW_if_ne (tgt := 51) dX10_readsStatement_46 (by decide) (by first | assumption | omega | (unfold InR; omega) | (unfold InL; omega) | (simp only [InR] at *; omega)) (fun b3 => ?_) (fun b3 => ?_)
            · refine zW_aload_n dX10_readsStatement_51 rfl ?_
              refine zgI dX10_readsStatement_52 fX10_230 a1.1.1 rfl n1 ?_
              refine zW_istore_n dX10_readsStatement_55 (by decide) rfl rfl ?_
              refine zW_aload_n dX10_readsStatement_56 rfl ?_
              refine zW_iload_n dX10_readsStatement_57 rfl ?_
              refine zcS1 dX10_readsStatement_58 rfl eX10_wordsOf b1462 ⟨by decide, by decide, by decide, by decide⟩ rfl (Nat.le_of_ble_eq_true rfl) (r_wordsOf fg ?_)
              refine zcV1 dX10_readsStatement_61 rfl eX10_get b1443 ⟨by decide, by decide, by decide, by decide⟩ rfl a1.1.1 rfl (by decide) (Nat.le_of_ble_eq_true rfl) (r_get a1 (by omega) ew ?_)
              refine zW_bipush dX10_readsStatement_64 (by decide) ?_
              refine zW_icmp_ne (tgt := 75) dX10_readsStatement_66 (by decide) (by first | assumption | omega | (unfold InR; omega) | (unfold InL; omega) | (simp only [InR] at *; omega)) (by first | assumption | omega | (unfold InR; omega) | (unfold InL; omega) | (simp only [InR] at *; omega)) (fun b4 => ?_) (fun b4 => ?_)
              · rw [if_neg (by omega)] at h0 h1
                have hl5 : (sGw x N).length < 6 := by omega
                have t2l := tok_le (tx := tl l) t1l.2.2.1
                generalize hT2 : tok (tl l) l.length t1.2.2 = t2 at h0 h1 t2l
                have ge1 := t1l.2.2.2.2.1 (by omega)
                refine zW_aload_n dX10_readsStatement_75 rfl ?_
                refine zW_iconst dX10_readsStatement_76 ?_
                refine zW_bipush dX10_readsStatement_77 (by decide) ?_
                refine zcV2 dX10_readsStatement_79 rfl eX10_isNumber b1415 ⟨by decide, by decide, by decide, by decide⟩ rfl a1.1.1 rfl (by decide) (Nat.le_of_ble_eq_true rfl) (r_isNumber (lo := 0) (hi := 7) a1.1 (hI.mr m1) f1.2.2.1 t1l.2.2.1 (by decide) (by decide) (fun σ2 e4 f2 m2 => ?_) (fun σ2 e4 e5 f2 m2 => ?_) (fun σ2 e4 e5 e6 f2 n2 m2 => ?_))
                · rw [hT2] at e4 f2
                  rw [if_pos e4] at h0
                  have m12 : Mr σ σ2 y KU [4] := (m1.tr m2).wk (by decide) (by decide)
                  refine zW_if_ne (tgt := 87) dX10_readsStatement_82 (by decide) (by first | assumption | omega | (unfold InR; omega) | (unfold InL; omega) | (simp only [InR] at *; omega)) (fun b5 => ?_) (fun b5 => ?_)
                  · exact absurd rfl b5
                  · refine zW_iconst dX10_readsStatement_85 ?_
                    refine zW_ireturn dX10_readsStatement_86 rfl rfl (by first | decide | (show _ ≤ (0 : Nat); omega)) (by first | decide | (show _ ≤ (0 : Nat); omega)) ?_
                    exact h0 σ2 _ rfl f2 (m12.wk (by decide) (by decide)) (RA.outs m12)
                · rw [hT2] at e4 e5 f2
                  rw [if_neg (by omega), if_pos (by omega)] at h0
                  have m12 : Mr σ σ2 y KU [4] := (m1.tr m2).wk (by decide) (by decide)
                  refine zW_if_ne (tgt := 87) dX10_readsStatement_82 (by decide) (by first | assumption | omega | (unfold InR; omega) | (unfold InL; omega) | (simp only [InR] at *; omega)) (fun b5 => ?_) (fun b5 => ?_)
                  · exact absurd rfl b5
                  · refine zW_iconst dX10_readsStatement_85 ?_
                    refine zW_ireturn dX10_readsStatement_86 rfl rfl (by first | decide | (show _ ≤ (0 : Nat); omega)) (by first | decide | (show _ ≤ (0 : Nat); omega)) ?_
                    exact h0 σ2 _ rfl f2 (m12.wk (by decide) (by decide)) (RA.outs m12)
                · rw [hT2] at e4 e5 e6 f2 n2
                  generalize hN2 : tnum (tl l) t2 = N2 at e5 e6 n2 h0 h1
                  have fr : inR8 (N2 : Int) := by unfold inR8; omega
                  have ge2 := t2l.2.2.2.2.1 (by omega)
                  rw [if_neg (by omega), if_neg (by omega)] at h0 h1
                  have m12 := m1.tr m2
                  have a2 := h.mr m12
                  have t3l := tok_le (tx := tl l) t2l.2.2.1
                  generalize hT3 : tok (tl l) l.length t2.2.2 = t3 at h0 h1 t3l
                  refine zW_if_ne (tgt := 87) dX10_readsStatement_82 (by decide) (by first | assumption | omega | (unfold InR; omega) | (unfold InL; omega) | (simp only [InR] at *; omega)) (fun b5 => ?_) (fun b5 => ?_)
                  · refine zW_aload_n dX10_readsStatement_87 rfl ?_
                    refine zgI dX10_readsStatement_88 fX10_230 a2.1.1 rfl n2 ?_
                    refine zW_istore_n dX10_readsStatement_91 (by decide) rfl rfl ?_
                    refine zW_aload_n dX10_readsStatement_92 rfl ?_
                    refine zW_iconst dX10_readsStatement_93 ?_
                    refine zcV1 dX10_readsStatement_94 rfl eX10_is b1419 ⟨by decide, by decide, by decide, by decide⟩ rfl a2.1.1 rfl (by decide) (Nat.le_of_ble_eq_true rfl) (r_is (k := 3) a2.1 (hI.mr m12) f2.2.2.1 t2l.2.2.1 (by decide) (fun σ3 e7 f3 m3 => ?_) (fun σ3 e7 f3 m3 => ?_))
                    · rw [hT3] at e7 f3
                      rw [if_pos e7] at h0
                      have m13 : Mr σ σ3 y KU [4] := (m12.tr m3).wk (by decide) (by decide)
                      refine zW_if_ne (tgt := 102) dX10_readsStatement_97 (by decide) (by first | assumption | omega | (unfold InR; omega) | (unfold InL; omega) | (simp only [InR] at *; omega)) (fun b6 => ?_) (fun b6 => ?_)
                      · exact absurd rfl b6
                      · refine zW_iconst dX10_readsStatement_100 ?_
                        refine zW_ireturn dX10_readsStatement_101 rfl rfl (by first | decide | (show _ ≤ (0 : Nat); omega)) (by first | decide | (show _ ≤ (0 : Nat); omega)) ?_
                        exact h0 σ3 _ rfl f3 (m13.wk (by decide) (by decide)) (RA.outs m13)
                    · rw [hT3] at e7 f3
                      rw [if_neg (by omega)] at h1
                      have m13 := m12.tr m3
                      have a3 := h.mr m13
                      have x3 : SR σ3 y 12230 x := hx.mr m13
                      have ge3 := t3l.2.2.2.2.1 (by omega)
                      refine zW_if_ne (tgt := 102) dX10_readsStatement_97 (by decide) (by first | assumption | omega | (unfold InR; omega) | (unfold InL; omega) | (simp only [InR] at *; omega)) (fun b6 => ?_) (fun b6 => ?_)
                      · refine zW_aload_n dX10_readsStatement_102 rfl ?_
                        refine zW_iload_n dX10_readsStatement_103 rfl ?_
                        refine zW_iload_n dX10_readsStatement_104 rfl ?_
                        refine zcV2 dX10_readsStatement_105 rfl eX10_appendsWord b1465 ⟨by decide, by decide, by decide, by decide⟩ rfl a3.1.1 rfl (by decide) (Nat.le_of_ble_eq_true rfl) (r_appendsWord a3 x3 fg fr hl5 (fun σ4 x4 m4 o4 => ?_))
                        refine zW_iconst dX10_readsStatement_108 ?_
                        refine zW_ireturn dX10_readsStatement_109 rfl rfl (by first | decide | (show _ ≤ (0 : Nat); omega)) (by first | decide | (show _ ≤ (0 : Nat); omega)) ?_
                        have m14 : Mr σ σ4 y KU [1, 4] := (m13.wk (Ks' := KU) (Rs' := [1, 4]) (by decide) (by decide)).th m4 (by decide) (by decide)
                        refine h1 σ4 _ t3.2.2 rfl rfl (by omega) t3l.2.2.1 (by rw [m4.o (by decide)]; exact f3.2.2.1) x4 m14 (fun k hk => ?_)
                        rw [o4 k hk, m13.i (i := 1) (by decide)]
                      · exact absurd b6 (by decide)
                  · exact absurd b5 (by decide)
              · rw [if_pos (by omega)] at h0
                refine zW_aload_n dX10_readsStatement_69 rfl ?_
                refine zW_iconst dX10_readsStatement_70 ?_
                refine zcV1 dX10_readsStatement_71 rfl eX10_faults b1403 ⟨by decide, by decide, by decide, by decide⟩ rfl a1.1.1 rfl (by decide) (Nat.le_of_ble_eq_true rfl) (r_faults a1.1 ?_)
                refine zW_ireturn dX10_readsStatement_74 rfl rfl (by first | decide | (show _ ≤ (0 : Nat); omega)) (by first | decide | (show _ ≤ (0 : Nat); omega)) ?_
                have m2 : Mr σ (sO σ1 y 36 5) y KU [4] := (m1.wk (Ks' := KU) (Rs' := [4]) (by decide) (by decide)).tr (Mr.O (by decide))
                exact h0 _ _ rfl ⟨zO_sOs _ _ _ _, f1.f⟩ (m2.wk (by decide) (by decide)) (RA.outs m2)
            · exact absurd b3 (by decide)
        · exact absurd b2 (by decide)
      · rw [if_neg (fun w => z2 (cJ.mp w))] at h0
        refine zW_if_ne (tgt := 40) dX10_readsStatement_31 (by decide) (by first | assumption | omega | (unfold InR; omega) | (unfold InL; omega) | (simp only [InR] at *; omega)) (fun b2 => ?_) (fun b2 => ?_)
        · exact absurd rfl b2
        · refine zW_aload_n dX10_readsStatement_34 rfl ?_
          refine zW_iconst dX10_readsStatement_35 ?_
          refine zcV1 dX10_readsStatement_36 rfl eX10_faults b1403 ⟨by decide, by decide, by decide, by decide⟩ rfl h.1.1 rfl (by decide) (Nat.le_of_ble_eq_true rfl) (r_faults h.1 ?_)
          refine zW_ireturn dX10_readsStatement_39 rfl rfl (by first | decide | (show _ ≤ (0 : Nat); omega)) (by first | decide | (show _ ≤ (0 : Nat); omega)) ?_
          exact h0 _ _ rfl ⟨zO_sOs _ _ _ _, hP.f⟩ (Mr.O (by decide)) (RA.outs (Mr.O (by decide)))
    · exact absurd rfl b
set_option maxRecDepth 100000 in
theorem kw_no {tx : Nat → Nat} {u : List Nat} (h : t.1 ≠ 1) : kw u tx t = false := by
  unfold kw
  rw [decide_eq_false h]
  rfl
set_option maxRecDepth 100000 in
theorem Rw.nil {b : Nat} (h : zI σ (y + 1) b = 0) : Rw σ y b [] := ⟨h, Nat.zero_le _, fun j hj => absurd hj (Nat.not_lt_zero j), fun c hc => by cases hc⟩
set_option maxRecDepth 100000 in
theorem SR.new {B r : Nat} (h : zI σ (y + 1) B = (r : Int)) (h0 : ∀ j, B < j → j < B + 1223 → zI σ (y + 1) j = 0) : SR σ y B (r, fun _ => [], fun _ => []) :=
  ⟨h, fun r hr => Rw.nil (h0 _ (by omega) (by omega)), fun g hg => ⟨h0 _ (by omega) (by omega), Nat.zero_le _, fun k hk => absurd hk (Nat.not_lt_zero k)⟩⟩
set_option maxRecDepth 100000 in
theorem r_reads (h : RA σ y 12230) (hI : rIn σ y l)
    (h0 : ∀ σ' e, prAll (tl l) l.length = .inl e → PF σ' y e → Mr σ σ' y KU [1, 4] → OutS σ σ' y 12230 → Q (.inl (some (vI 0))) σ')
    (h1 : ∀ σ' x, prAll (tl l) l.length = .inr x → sRk x ≤ 4 → SR σ' y 12230 x → Mr σ σ' y KU [1, 4] → OutS σ σ' y 12230 → Q (.inl (some (vI 1))) σ') : zM Γ mX10_reads [vR (some y)] σ Q := by
  have hl6 := hI.2.1
  refine zM_of (n := 1) (by decide +kernel) rfl rfl rfl ?_
  have loop : ∀ m i σ1, i + m = 1223 → (∀ j, j < i → zI σ1 (y + 1) (12230 + j) = 0) → Mr σ σ1 y [] [1] → OutS σ σ1 y 12230 → (∀ σ2 z, (∀ j, j < 1223 → zI σ2 (y + 1) (12230 + j) = 0) → Mr σ σ2 y [] [1] → OutS σ σ2 y 12230 → zW Γ mX10_reads 21 [some (vR (some y)), z] [] σ2 0 0 Q) → zW Γ mX10_reads 2 [some (vR (some y)), some (vI i)] [] σ1 0 0 Q := by
    intro m
    induction m with
    | zero =>
      intro i σ1 hi hz m1 o1 kk
      refine zW_iload_n dX10_reads_2 rfl ?_
      refine zW_sipush dX10_reads_3 (by decide) ?_
      refine zW_icmp_ge (tgt := 21) dX10_reads_6 (by decide) (by first | assumption | omega | (unfold InR; omega) | (unfold InL; omega) | (simp only [InR] at *; omega)) (by first | assumption | omega | (unfold InR; omega) | (unfold InL; omega) | (simp only [InR] at *; omega)) (fun b => ?_) (fun b => ?_)
      · exact kk σ1 _ (fun j hj => hz j (by omega)) m1 o1
      · exact absurd b (by omega)
    | succ m ih =>
      intro i σ1 hi hz m1 o1 kk
      have a1 := h.mr m1
      refine zW_iload_n dX10_reads_2 rfl ?_
      refine zW_sipush dX10_reads_3 (by decide) ?_
      refine zW_icmp_ge (tgt := 21) dX10_reads_6 (by decide) (by first | assumption | omega | (unfold InR; omega) | (unfold InL; omega) | (simp only [InR] at *; omega)) (by first | assumption | omega | (unfold InR; omega) | (unfold InL; omega) | (simp only [InR] at *; omega)) (fun b => ?_) (fun b => ?_)
      · exact absurd b (by omega)
      · refine zW_aload_n dX10_reads_9 rfl ?_
        refine zW_iload_n dX10_reads_10 rfl ?_
        refine zW_iconst dX10_reads_11 ?_
        refine zcV2 dX10_reads_12 rfl eX10_set b1247 ⟨by decide, by decide, by decide, by decide⟩ rfl a1.1.1 rfl (by decide) (Nat.le_of_ble_eq_true rfl) (r_set a1 (by omega) ?_)
        refine zW_iinc dX10_reads_15 rfl (by decide) rfl rfl ?_
        refine zW_goto (tgt := 2) dX10_reads_18 (by decide) ?_
        refine ih (i + 1) _ (by omega) (fun j hj => ?_) (m1.tr (Mr.I (by decide))) (fun k hk => ?_) kk
        · by_cases e : j = i
          · rw [e, zI_sIs]
          · rw [zI_sIk _ _ _ _ (by omega)]; exact hz j (by omega)
        · rw [zI_sIk _ _ _ _ (by omega)]; exact o1 k hk
  refine zW_iconst dX10_reads_0 ?_
  refine zW_istore_n dX10_reads_1 (by decide) rfl rfl ?_
  refine loop 1223 0 σ (by omega) (fun j hj => absurd hj (Nat.not_lt_zero j)) Mr.rf (fun k _ => rfl) (fun σ1 z hz m1 o1 => ?_)
  have n1 : Mr σ σ1 y KU [1, 4] := m1.wk (by decide) (by decide)
  have a1 := h.mr m1
  refine zW_aload_n dX10_reads_21 rfl ?_
  refine zW_iconst dX10_reads_22 ?_
  refine zpI dX10_reads_23 fX10_215 a1.1.1 rfl (Or.inl rfl) (zst_int _) ?_
  have n2 : Mr σ (sO σ1 y 32 0) y KU [1, 4] := n1.tr (Mr.O (by decide))
  have hp2 : zO (sO σ1 y 32 0) y 32 = ((0 : Nat) : Int) := zO_sOs _ _ _ _
  have i2 : zI (sO σ1 y 32 0) = zI σ1 := rfl
  generalize sO σ1 y 32 0 = σ2 at n2 hp2 i2 ⊢
  rw [← i2] at hz
  have o2 : OutS σ σ2 y 12230 := fun k hk => by rw [i2]; exact o1 k hk
  have a2 := h.mr n2
  have hI2 := hI.mr n2
  have t0l := tok_le (tx := tl l) (Nat.zero_le l.length)
  unfold prAll prRank at h0 h1
  have two : ∀ {σ3}, Mr σ2 σ3 y KU [4] → Mr σ σ3 y KU [1, 4] := fun m => n2.th m (by decide) (by decide)
  have out : ∀ {σ3}, Mr σ2 σ3 y KU [4] → OutS σ σ3 y 12230 := fun m k hk => by rw [m.i (i := 1) (by decide)]; exact o2 k hk
  refine zW_aload_n dX10_reads_26 rfl ?_
  refine zcV0 dX10_reads_27 rfl eX10_token b1391 ⟨by decide, by decide, by decide, by decide⟩ rfl a2.1.1 rfl (by decide) (Nat.le_of_ble_eq_true rfl) (r_token a2.1 hI2 hp2 (Nat.zero_le _) (fun σ3 e3 f3 m3 => ?_) (fun σ3 e3 f3 m3 => ?_))
  · have m23 : Mr σ2 σ3 y KU [4] := m3.wk (by decide) (by decide)
    rw [if_pos (kw_no (by omega))] at h0
    refine zW_if_ne (tgt := 35) dX10_reads_30 (by decide) (by first | assumption | omega | (unfold InR; omega) | (unfold InL; omega) | (simp only [InR] at *; omega)) (fun b => ?_) (fun b => ?_)
    · exact absurd rfl b
    · refine zW_iconst dX10_reads_33 ?_
      refine zW_ireturn dX10_reads_34 rfl rfl (by first | decide | (show _ ≤ (0 : Nat); omega)) (by first | decide | (show _ ≤ (0 : Nat); omega)) ?_
      exact h0 σ3 _ rfl f3 (two m23) (out m23)
  · have m23 : Mr σ2 σ3 y KU [4] := m3.wk (by decide) (by decide)
    have a3 := a2.mr m23
    have hI3 := hI2.mr m23
    generalize hT : tok (tl l) l.length 0 = t0 at h0 h1 t0l e3 f3
    have cR : kw kwR (tl l) t0 = true ↔ IW (tl l) t0 114 97 110 107 := kw_iff4 (by decide) (by decide) (by decide) (by decide) t0l.2.1
    refine zW_if_ne (tgt := 35) dX10_reads_30 (by decide) (by first | assumption | omega | (unfold InR; omega) | (unfold InL; omega) | (simp only [InR] at *; omega)) (fun b => ?_) (fun b => ?_)
    · refine zW_aload_n dX10_reads_35 rfl ?_
      refine zW_bipush dX10_reads_36 (by decide) ?_
      refine zW_bipush dX10_reads_38 (by decide) ?_
      refine zW_bipush dX10_reads_40 (by decide) ?_
      refine zW_bipush dX10_reads_42 (by decide) ?_
      refine zcV4 dX10_reads_44 rfl eX10_isWord b1407 ⟨by decide, by decide, by decide, by decide⟩ rfl a3.1.1 rfl (by decide) (Nat.le_of_ble_eq_true rfl) (r_isWord (a := 114) (b := 97) (c := 110) (d := 107) a3.1 hI3 f3 ⟨t0l.2.1, t0l.2.2.1⟩ t0l.2.2.2.1 (by decide) (by decide) (by decide) (by decide) (fun z => ?_) (fun z => ?_))
      · have kt := cR.mpr z
        rw [if_neg (fun z2 => by rw [kt] at z2; cases z2)] at h0 h1
        have ge0 := t0l.2.2.2.2.1 (by have := z.1; omega)
        have t1l := tok_le (tx := tl l) t0l.2.2.1
        generalize hT1 : tok (tl l) l.length t0.2.2 = t1 at h0 h1 t1l
        refine zW_if_ne (tgt := 56) dX10_reads_47 (by decide) (by first | assumption | omega | (unfold InR; omega) | (unfold InL; omega) | (simp only [InR] at *; omega)) (fun b2 => ?_) (fun b2 => ?_)
        · refine zW_aload_n dX10_reads_56 rfl ?_
          refine zW_iconst dX10_reads_57 ?_
          refine zW_iconst dX10_reads_58 ?_
          refine zcV2 dX10_reads_59 rfl eX10_isNumber b1415 ⟨by decide, by decide, by decide, by decide⟩ rfl a3.1.1 rfl (by decide) (Nat.le_of_ble_eq_true rfl) (r_isNumber (lo := 1) (hi := 4) a3.1 hI3 f3.2.2.1 t0l.2.2.1 (by decide) (by decide) (fun σ4 e4 f4 m4 => ?_) (fun σ4 e4 e5 f4 m4 => ?_) (fun σ4 e4 e5 e6 f4 n4 m4 => ?_))
          · rw [hT1] at e4 f4
            rw [if_pos e4] at h0
            have m24 : Mr σ2 σ4 y KU [4] := m23.th m4 (by decide) (by decide)
            refine zW_if_ne (tgt := 67) dX10_reads_62 (by decide) (by first | assumption | omega | (unfold InR; omega) | (unfold InL; omega) | (simp only [InR] at *; omega)) (fun b3 => ?_) (fun b3 => ?_)
            · exact absurd rfl b3
            · refine zW_iconst dX10_reads_65 ?_
              refine zW_ireturn dX10_reads_66 rfl rfl (by first | decide | (show _ ≤ (0 : Nat); omega)) (by first | decide | (show _ ≤ (0 : Nat); omega)) ?_
              exact h0 σ4 _ rfl f4 (two m24) (out m24)
          · rw [hT1] at e4 e5 f4
            rw [if_neg (by omega), if_pos (by omega)] at h0
            have m24 : Mr σ2 σ4 y KU [4] := m23.th m4 (by decide) (by decide)
            refine zW_if_ne (tgt := 67) dX10_reads_62 (by decide) (by first | assumption | omega | (unfold InR; omega) | (unfold InL; omega) | (simp only [InR] at *; omega)) (fun b3 => ?_) (fun b3 => ?_)
            · exact absurd rfl b3
            · refine zW_iconst dX10_reads_65 ?_
              refine zW_ireturn dX10_reads_66 rfl rfl (by first | decide | (show _ ≤ (0 : Nat); omega)) (by first | decide | (show _ ≤ (0 : Nat); omega)) ?_
              exact h0 σ4 _ rfl f4 (two m24) (out m24)
          · rw [hT1] at e4 e5 e6 f4 n4
            have m24 : Mr σ2 σ4 y KU [4] := m23.th m4 (by decide) (by decide)
            generalize hN : tnum (tl l) t1 = N at e5 e6 n4 h0 h1
            rw [if_neg (by omega), if_neg (by omega)] at h0 h1
            have ge1 := t1l.2.2.2.2.1 (by omega)
            have a4 := a2.mr m24
            refine zW_if_ne (tgt := 67) dX10_reads_62 (by decide) (by first | assumption | omega | (unfold InR; omega) | (unfold InL; omega) | (simp only [InR] at *; omega)) (fun b3 => ?_) (fun b3 => ?_)
            · refine zW_aload_n dX10_reads_67 rfl ?_
              refine zW_iconst dX10_reads_68 ?_
              refine zW_aload_n dX10_reads_69 rfl ?_
              refine zgI dX10_reads_70 fX10_230 a4.1.1 rfl n4 ?_
              refine zcV2 dX10_reads_73 rfl eX10_set b1247 ⟨by decide, by decide, by decide, by decide⟩ rfl a4.1.1 rfl (by decide) (Nat.le_of_ble_eq_true rfl) (r_set (k := 0) a4 (by omega) ?_)
              have m5 : Mr σ4 (sI σ4 (y + 1) (12230 + 0) (N : Int)) y [] [1] := Mr.I (by decide)
              have g5 : zI (sI σ4 (y + 1) (12230 + 0) (N : Int)) (y + 1) 12230 = (N : Int) := zI_sIs _ _ _ _
              have r5 : ∀ j, j ≠ 12230 → zI (sI σ4 (y + 1) (12230 + 0) (N : Int)) (y + 1) j = zI σ4 (y + 1) j := fun j hj => zI_sIk _ _ _ _ hj
              generalize sI σ4 (y + 1) (12230 + 0) (N : Int) = σ5 at m5 g5 r5 ⊢
              have f5 : PR σ5 y l t1 := f4.mr m5
              have m25 : Mr σ2 σ5 y KU [1, 4] := (m24.wk (Ks' := KU) (Rs' := [1, 4]) (by decide) (by decide)).th m5 (by decide) (by decide)
              have a5 := a2.mr m25
              have hI5 := hI2.mr m25
              have x5 : SR σ5 y 12230 (N, fun _ => [], fun _ => []) := SR.new g5 (fun j j1 j2 => by
                rw [r5 j (by omega), m24.i (i := 1) (by decide)]
                have := hz (j - 12230) (by omega)
                rw [show 12230 + (j - 12230) = j by omega] at this
                exact this)
              have o5 : OutS σ σ5 y 12230 := fun k hk => by rw [r5 k (by omega)]; exact out m24 k hk
              have n5 : Mr σ σ5 y KU [1, 4] := n2.tr m25
              have two5 : ∀ {σ6}, Mr σ5 σ6 y KT [] → Mr σ σ6 y KU [1, 4] := fun m => n5.th m (by decide) (by decide)
              have out5 : ∀ {σ6}, Mr σ5 σ6 y KT [] → OutS σ σ6 y 12230 := fun m k hk => by rw [m.i (i := 1) (by decide)]; exact o5 k hk
              have t2l := tok_le (tx := tl l) t1l.2.2.1
              generalize hT2 : tok (tl l) l.length t1.2.2 = t2 at h0 h1 t2l
              refine zW_aload_n dX10_reads_76 rfl ?_
              refine zW_iconst dX10_reads_77 ?_
              refine zcV1 dX10_reads_78 rfl eX10_is b1419 ⟨by decide, by decide, by decide, by decide⟩ rfl a5.1.1 rfl (by decide) (Nat.le_of_ble_eq_true rfl) (r_is (k := 3) a5.1 hI5 f5.2.2.1 t1l.2.2.1 (by decide) (fun σ6 e7 f6 m6 => ?_) (fun σ6 e7 f6 m6 => ?_))
              · rw [hT2] at e7 f6
                rw [if_pos e7] at h0
                refine zW_if_ne (tgt := 86) dX10_reads_81 (by decide) (by first | assumption | omega | (unfold InR; omega) | (unfold InL; omega) | (simp only [InR] at *; omega)) (fun b4 => ?_) (fun b4 => ?_)
                · exact absurd rfl b4
                · refine zW_iconst dX10_reads_84 ?_
                  refine zW_ireturn dX10_reads_85 rfl rfl (by first | decide | (show _ ≤ (0 : Nat); omega)) (by first | decide | (show _ ≤ (0 : Nat); omega)) ?_
                  exact h0 σ6 _ rfl f6 (two5 m6) (out5 m6)
              · rw [hT2] at e7 f6
                rw [if_neg (by omega)] at h0 h1
                have rest : ∀ f q u σ7 z, l.length + 1 ≤ f + q → q ≤ l.length → zO σ7 y 32 = (q : Int) → sRk u ≤ 4 → SR σ7 y 12230 u → Mr σ σ7 y KU [1, 4] → OutS σ σ7 y 12230 → (∀ σ' e, prs (tl l) l.length f (tok (tl l) l.length q) u = .inl e → PF σ' y e → Mr σ σ' y KU [1, 4] → OutS σ σ' y 12230 → Q (.inl (some (vI 0))) σ') → (∀ σ' x, prs (tl l) l.length f (tok (tl l) l.length q) u = .inr x → sRk x ≤ 4 → SR σ' y 12230 x → Mr σ σ' y KU [1, 4] → OutS σ σ' y 12230 → Q (.inl (some (vI 1))) σ') → zW Γ mX10_reads 86 [some (vR (some y)), z] [] σ7 0 0 Q := by
                  intro f
                  induction f with
                  | zero => intro q u σ7 z hf hq; omega
                  | succ f ih =>
                    intro q u σ7 z hf hq hp7 hr7 x7 n7 o7 g0 g1
                    have a7 := h.mr n7
                    have hI7 := hI.mr n7
                    have tl9 := tok_le (tx := tl l) hq
                    have hex : ∃ q', q' ≤ l.length ∧ tok (tl l) l.length q = tok (tl l) l.length q' := ⟨q, hq, rfl⟩
                    change ∀ σ' e, (if (tok (tl l) l.length q).1 = 0 then .inr u else match stm (tl l) l.length u (tok (tl l) l.length q) with
                      | .inl e => .inl e
                      | .inr (x', t') => prs (tl l) l.length f t' x' : PEr ⊕ ST) = .inl e → _ at g0
                    change ∀ σ' x, (if (tok (tl l) l.length q).1 = 0 then .inr u else match stm (tl l) l.length u (tok (tl l) l.length q) with
                      | .inl e => .inl e
                      | .inr (x', t') => prs (tl l) l.length f t' x' : PEr ⊕ ST) = .inr x → _ at g1
                    generalize hT7 : tok (tl l) l.length q = t7 at g0 g1 tl9 hex
                    refine zW_aload_n dX10_reads_86 rfl ?_
                    refine zcV0 dX10_reads_87 rfl eX10_token b1391 ⟨by decide, by decide, by decide, by decide⟩ rfl a7.1.1 rfl (by decide) (Nat.le_of_ble_eq_true rfl) (r_token a7.1 hI7 hp7 hq (fun σ8 e8 f8 m8 => ?_) (fun σ8 e8 f8 m8 => ?_))
                    · rw [hT7] at e8 f8
                      rw [if_neg (by omega)] at g0
                      refine zW_if_ne (tgt := 95) dX10_reads_90 (by decide) (by first | assumption | omega | (unfold InR; omega) | (unfold InL; omega) | (simp only [InR] at *; omega)) (fun b5 => ?_) (fun b5 => ?_)
                      · exact absurd rfl b5
                      · refine zW_iconst dX10_reads_93 ?_
                        refine zW_ireturn dX10_reads_94 rfl rfl (by first | decide | (show _ ≤ (0 : Nat); omega)) (by first | decide | (show _ ≤ (0 : Nat); omega)) ?_
                        refine g0 σ8 _ ?_ f8 (n7.th m8 (by decide) (by decide)) (fun k hk => by rw [m8.i (i := 1) (by decide)]; exact o7 k hk)
                        unfold stm
                        rw [if_neg (by rw [kw_no (by omega)]; decide), if_neg (by rw [kw_no (by omega)]; decide)]
                    · rw [hT7] at e8 f8
                      have n8 : Mr σ σ8 y KU [1, 4] := n7.th m8 (by decide) (by decide)
                      have a8 := h.mr n8
                      have x8 : SR σ8 y 12230 u := x7.mr m8
                      have o8 : OutS σ σ8 y 12230 := fun k hk => by rw [m8.i (i := 1) (by decide)]; exact o7 k hk
                      refine zW_if_ne (tgt := 95) dX10_reads_90 (by decide) (by first | assumption | omega | (unfold InR; omega) | (unfold InL; omega) | (simp only [InR] at *; omega)) (fun b5 => ?_) (fun b5 => ?_)
                      · refine zW_aload_n dX10_reads_95 rfl ?_
                        refine zgI dX10_reads_96 fX10_221 a8.1.1 rfl f8.1 ?_
                        refine zW_if_ne (tgt := 104) dX10_reads_99 (by decide) (by first | assumption | omega | (unfold InR; omega) | (unfold InL; omega) | (simp only [InR] at *; omega)) (fun b6 => ?_) (fun b6 => ?_)
                        · have ne0 : t7.1 ≠ 0 := by omega
                          have ge7 := tl9.2.2.2.2.1 ne0
                          rw [if_neg ne0] at g0 g1
                          refine zW_aload_n dX10_reads_104 rfl ?_
                          refine zcV0 dX10_reads_105 rfl eX10_readsStatement b1423 ⟨by decide, by decide, by decide, by decide⟩ rfl a8.1.1 rfl (by decide) (Nat.le_of_ble_eq_true rfl) (r_readsStatement a8 (hI.mr n8) x8 hr7 f8 hex (fun σ9 e he hf9 m9 o9 => ?_) (fun σ9 x' q' he hr hpq hqn h32 hS m9 o9 => ?_))
                          · rw [he] at g0
                            refine zW_if_ne (tgt := 86) dX10_reads_108 (by decide) (by first | assumption | omega | (unfold InR; omega) | (unfold InL; omega) | (simp only [InR] at *; omega)) (fun b7 => ?_) (fun b7 => ?_)
                            · exact absurd rfl b7
                            · refine zW_iconst dX10_reads_111 ?_
                              refine zW_ireturn dX10_reads_112 rfl rfl (by first | decide | (show _ ≤ (0 : Nat); omega)) (by first | decide | (show _ ≤ (0 : Nat); omega)) ?_
                              exact g0 σ9 e rfl hf9 (n8.tr m9) (fun k hk => by rw [o9 k hk]; exact o8 k hk)
                          · rw [he] at g0 g1
                            refine zW_if_ne (tgt := 86) dX10_reads_108 (by decide) (by first | assumption | omega | (unfold InR; omega) | (unfold InL; omega) | (simp only [InR] at *; omega)) (fun b7 => ?_) (fun b7 => ?_)
                            · exact ih q' x' σ9 z (by omega) hqn h32 (by rw [hr]; exact hr7) hS (n8.tr m9) (fun k hk => by rw [o9 k hk]; exact o8 k hk) g0 g1
                            · exact absurd b7 (by decide)
                        · rw [if_pos (by omega)] at g1
                          refine zW_iconst dX10_reads_102 ?_
                          refine zW_ireturn dX10_reads_103 rfl rfl (by first | decide | (show _ ≤ (0 : Nat); omega)) (by first | decide | (show _ ≤ (0 : Nat); omega)) ?_
                          exact g1 σ8 u rfl hr7 x8 n8 o8
                      · exact absurd b5 (by decide)
                refine zW_if_ne (tgt := 86) dX10_reads_81 (by decide) (by first | assumption | omega | (unfold InR; omega) | (unfold InL; omega) | (simp only [InR] at *; omega)) (fun b4 => ?_) (fun b4 => ?_)
                · exact rest 700 t2.2.2 (N, fun _ => [], fun _ => []) σ6 _ (by omega) t2l.2.2.1 f6.2.2.1 (show N ≤ 4 by omega) (x5.mr m6) (two5 m6) (out5 m6) h0 h1
                · exact absurd b4 (by decide)
            · exact absurd b3 (by decide)
        · exact absurd b2 (by decide)
      · rw [if_pos (show kw kwR (tl l) t0 = false from Bool.eq_false_iff.mpr (fun z2 => z (cR.mp z2)))] at h0
        refine zW_if_ne (tgt := 56) dX10_reads_47 (by decide) (by first | assumption | omega | (unfold InR; omega) | (unfold InL; omega) | (simp only [InR] at *; omega)) (fun b2 => ?_) (fun b2 => ?_)
        · exact absurd rfl b2
        · refine zW_aload_n dX10_reads_50 rfl ?_
          refine zW_iconst dX10_reads_51 ?_
          refine zcV1 dX10_reads_52 rfl eX10_faults b1403 ⟨by decide, by decide, by decide, by decide⟩ rfl a3.1.1 rfl (by decide) (Nat.le_of_ble_eq_true rfl) (r_faults a3.1 ?_)
          refine zW_ireturn dX10_reads_55 rfl rfl (by first | decide | (show _ ≤ (0 : Nat); omega)) (by first | decide | (show _ ≤ (0 : Nat); omega)) ?_
          have m4 : Mr σ2 (sO σ3 y 36 1) y KU [4] := m23.tr (Mr.O (by decide))
          exact h0 _ _ rfl ⟨zO_sOs _ _ _ _, f3.f⟩ (two m4) (out m4)
    · exact absurd b (by decide)
def KL : List Nat := [0, 2, 3, 4, 5, 7, 8, 9, 13, 32, 33, 34, 35, 36]
set_option maxRecDepth 100000 in
theorem rIn.nil (h : zO σ y 7 = 0) : rIn σ y [] := ⟨h, Nat.zero_le _, fun i hi => absurd hi (Nat.not_lt_zero i), fun b hb => by cases hb⟩
set_option maxRecDepth 100000 in
theorem RI.ld {ek : Nat} {ep : Int} (h : RI σ y A) (m : Mr σ σ' y KL [1, 4]) (o : OutS σ σ' y 12230) (h2 : zO σ' y 2 = 0) (h3 : zO σ' y 3 = zO σ y 3) (h4 : zO σ' y 4 = zO σ y 4) (h5 : zO σ' y 5 = zO σ y 5) (h7 : zO σ' y 7 = 0) (h8 : zO σ' y 8 = (ek : Int)) (h9 : zO σ' y 9 = ep) : RI σ' y (aSt A, aHi A, aSv A, [], ek, ep, aFm A) := by
  obtain ⟨a1, a2, a3, a4, a5, a6, a7, a8⟩ := h
  have es : ∀ {B t}, B + 1223 ≤ 12230 → SR σ y B t → SR σ' y B t := fun hB h => h.same (fun k _ _ => o k (by omega))
  refine ⟨a1.mr m, h2, es (by omega) a3, ⟨a4.1, by rw [h3]; exact a4.2.1, ?_⟩, ⟨by rw [h5]; exact a5.1, fun t ht => es (by omega) (a5.2 t ht)⟩, rIn.nil h7, ⟨h8, h9⟩, ⟨by rw [m.o (by decide)]; exact a8.1, a8.2.1, fun i hi => by rw [m.i (by decide)]; exact a8.2.2.1 i hi, a8.2.2.2⟩⟩
  obtain ⟨f, f1, f2, f3⟩ := a4.2.2
  refine ⟨f, f1, by rw [h4]; exact f2, fun i t ht => es ?_ (f3 i t ht)⟩
  have : (f + (aHi A).length - 1 - i) % 8 < 8 := Nat.mod_lt _ (by decide)
  show 1223 * (1 + (f + (aHi A).length - 1 - i) % 8) + 1223 ≤ 12230
  omega
set_option maxRecDepth 100000 in
theorem RI.nw {ek : Nat} {ep : Int} (h : RI σ y A) (m : Mr σ σ' y KL [1, 4]) (hS : SR σ' y 0 x) (h2 : zO σ' y 2 = 0) (h3 : zO σ' y 3 = 0) (h4 : zO σ' y 4 = 0) (h5 : zO σ' y 5 = 0) (h7 : zO σ' y 7 = 0) (h8 : zO σ' y 8 = (ek : Int)) (h9 : zO σ' y 9 = ep) : RI σ' y (x, [], none, [], ek, ep, aFm A) := by
  obtain ⟨a1, a2, a3, a4, a5, a6, a7, a8⟩ := h
  exact ⟨a1.mr m, h2, hS, ⟨Nat.zero_le _, h3, 0, by decide, h4, fun i t ht => absurd (show ([] : List ST)[i]? = some t from ht) (by simp)⟩, ⟨h5, fun t ht => absurd (show (none : Option ST) = some t from ht) (by simp)⟩, rIn.nil h7, ⟨h8, h9⟩, ⟨by rw [m.o (by decide)]; exact a8.1, a8.2.1, fun i hi => by rw [m.i (by decide)]; exact a8.2.2.1 i hi, a8.2.2.2⟩⟩
set_option maxRecDepth 100000 in
theorem q_load (h : RI σ y A) (hQ : RQ σ y (o_load A) Q) : zM Γ mX10_load [vR (some y)] σ Q := by
  refine zM_of (n := 1) (by decide +kernel) rfl rfl rfl ?_
  refine zW_aload_n dX10_load_0 rfl ?_
  refine zW_iconst dX10_load_1 ?_
  refine zpI dX10_load_2 fX10_75 h.1.1 rfl (Or.inl rfl) (zst_int _) ?_
  have m0 : Mr σ (sO σ y 0 0) y KL [1, 4] := Mr.O (by decide)
  have k0 : ∀ k, k ≠ 0 → zO (sO σ y 0 0) y k = zO σ y k := fun k hk => zO_sOk _ _ _ _ hk
  have i0 : zI (sO σ y 0 0) = zI σ := rfl
  have t0 : zO (sO σ y 0 0) y 0 = 0 := zO_sOs _ _ _ _
  generalize sO σ y 0 0 = σ0 at m0 t0 k0 i0 ⊢
  have c0 := h.1.mr m0
  refine zW_aload_n dX10_load_5 rfl ?_
  refine zW_sipush dX10_load_6 (by decide) ?_
  refine zpI dX10_load_9 fX10_78 c0.1 rfl (Or.inl rfl) (zst_int _) ?_
  have m1 : Mr σ (sO σ0 y 2 12230) y KL [1, 4] := m0.tr (Mr.O (by decide))
  have k1 : ∀ k, k ≠ 0 → k ≠ 2 → zO (sO σ0 y 2 12230) y k = zO σ y k := fun k hk h2 => by rw [zO_sOk _ _ _ _ h2]; exact k0 k hk
  have i1 : zI (sO σ0 y 2 12230) = zI σ := i0
  have at1 : zO (sO σ0 y 2 12230) y 2 = ((12230 : Nat) : Int) := zO_sOs _ _ _ _
  have t1 : zO (sO σ0 y 2 12230) y 0 = 0 := by rw [zO_sOk _ _ _ _ (by omega)]; exact t0
  generalize sO σ0 y 2 12230 = σ1 at m1 t1 k1 i1 at1 ⊢
  have c1 := h.1.mr m1
  have hI1 : rIn σ1 y (aIn A) := by
    obtain ⟨b1, b2, b3, b4⟩ := h.2.2.2.2.2.1
    exact ⟨by rw [k1 7 (by decide) (by decide)]; exact b1, b2, fun i hi => by rw [i1]; exact b3 i hi, b4⟩
  refine zW_aload_n dX10_load_12 rfl ?_
  refine zcV0 dX10_load_13 rfl eX10_reads b1387 ⟨by decide, by decide, by decide, by decide⟩ rfl c1.1 rfl (by decide) (Nat.le_of_ble_eq_true rfl) (r_reads ⟨c1, at1, Or.inr rfl⟩ hI1 (fun σ2 e he hf m2 o2 => ?_) (fun σ2 x he hr hS m2 o2 => ?_))
  · have ho : o_load A = (1, 0, (aSt A, aHi A, aSv A, [], e.1, (e.2 : Int), aFm A)) := by
      unfold o_load
      have : prAll (tyx A) (aIn A).length = .inl e := he
      rw [this]
    have c2 := c1.mr m2
    refine zW_istore_n dX10_load_16 (by decide) rfl rfl ?_
    refine zW_aload_n dX10_load_17 rfl ?_
    refine zW_iconst dX10_load_18 ?_
    refine zpI dX10_load_19 fX10_78 c2.1 rfl (Or.inl rfl) (zst_int _) ?_
    have d3 : ∀ k, k ≠ 2 → zO (sO σ2 y 2 0) y k = zO σ2 y k := fun k hk => zO_sOk _ _ _ _ hk
    have e3 : zO (sO σ2 y 2 0) y 2 = 0 := zO_sOs _ _ _ _
    have m3 : Mr σ1 (sO σ2 y 2 0) y KL [1, 4] := (m2.wk (by decide) (by decide)).tr (Mr.O (by decide))
    have i3 : zI (sO σ2 y 2 0) = zI σ2 := rfl
    generalize sO σ2 y 2 0 = σ3 at d3 e3 m3 i3 ⊢
    have c3 := c1.mr m3
    refine zW_aload_n dX10_load_22 rfl ?_
    refine zW_iconst dX10_load_23 ?_
    refine zpI dX10_load_24 fX10_206 c3.1 rfl (Or.inl rfl) (zst_int _) ?_
    have d4 : ∀ k, k ≠ 2 → k ≠ 7 → zO (sO σ3 y 7 0) y k = zO σ2 y k := fun k hk h7 => by rw [zO_sOk _ _ _ _ h7]; exact d3 k hk
    have e4 : zO (sO σ3 y 7 0) y 2 = 0 := by rw [zO_sOk _ _ _ _ (by omega)]; exact e3
    have f4 : zO (sO σ3 y 7 0) y 7 = 0 := zO_sOs _ _ _ _
    have m4 : Mr σ1 (sO σ3 y 7 0) y KL [1, 4] := m3.tr (Mr.O (by decide))
    have i4 : zI (sO σ3 y 7 0) = zI σ2 := i3
    generalize sO σ3 y 7 0 = σ4 at d4 e4 f4 m4 i4 ⊢
    have c4 := c1.mr m4
    refine zW_aload_n dX10_load_27 rfl ?_
    refine zW_iload_n dX10_load_28 rfl ?_
    refine zW_if_eq (tgt := 36) dX10_load_29 (by decide) (by first | assumption | omega | (unfold InR; omega) | (unfold InL; omega) | (simp only [InR] at *; omega)) (fun b => ?_) (fun b => ?_)
    · have g36 : zO σ4 y 36 = (e.1 : Int) := by rw [d4 _ (by omega) (by omega)]; exact hf.1
      have g33 : zO σ4 y 33 = (e.2 : Int) := by rw [d4 _ (by omega) (by omega)]; exact hf.2
      refine zW_aload_n dX10_load_36 rfl ?_
      refine zgI dX10_load_37 fX10_212 c4.1 rfl g36 ?_
      refine zpI dX10_load_40 fX10_284 c4.1 rfl (Or.inl rfl) (zst_int _) ?_
      have d5 : ∀ k, k ≠ 8 → zO (sO σ4 y 8 (e.1 : Int)) y k = zO σ4 y k := fun k hk => zO_sOk _ _ _ _ hk
      have e5 : zO (sO σ4 y 8 (e.1 : Int)) y 8 = (e.1 : Int) := zO_sOs _ _ _ _
      have m5 : Mr σ1 (sO σ4 y 8 (e.1 : Int)) y KL [1, 4] := m4.tr (Mr.O (by decide))
      have i5 : zI (sO σ4 y 8 (e.1 : Int)) = zI σ2 := i4
      generalize sO σ4 y 8 (e.1 : Int) = σ5 at d5 e5 m5 i5 ⊢
      have c5 := c1.mr m5
      refine zW_aload_n dX10_load_43 rfl ?_
      refine zW_iload_n dX10_load_44 rfl ?_
      refine zW_if_eq (tgt := 52) dX10_load_45 (by decide) (by first | assumption | omega | (unfold InR; omega) | (unfold InL; omega) | (simp only [InR] at *; omega)) (fun b2 => ?_) (fun b2 => ?_)
      · have h33 : zO σ5 y 33 = (e.2 : Int) := by rw [d5 _ (by omega)]; exact g33
        refine zW_aload_n dX10_load_52 rfl ?_
        refine zgI dX10_load_53 fX10_218 c5.1 rfl h33 ?_
        refine zpI dX10_load_56 fX10_67 c5.1 rfl (Or.inl rfl) (zst_int _) ?_
        have d6 : ∀ k, k ≠ 9 → zO (sO σ5 y 9 (e.2 : Int)) y k = zO σ5 y k := fun k hk => zO_sOk _ _ _ _ hk
        have e6 : zO (sO σ5 y 9 (e.2 : Int)) y 9 = (e.2 : Int) := zO_sOs _ _ _ _
        have m6 : Mr σ1 (sO σ5 y 9 (e.2 : Int)) y KL [1, 4] := m5.tr (Mr.O (by decide))
        have i6 : zI (sO σ5 y 9 (e.2 : Int)) = zI σ2 := i5
        generalize sO σ5 y 9 (e.2 : Int) = σ6 at d6 e6 m6 i6 ⊢
        have c6 := c1.mr m6
        refine zW_iload_n dX10_load_59 rfl ?_
        refine zW_if_ne (tgt := 69) dX10_load_60 (by decide) (by first | assumption | omega | (unfold InR; omega) | (unfold InL; omega) | (simp only [InR] at *; omega)) (fun b3 => ?_) (fun b3 => ?_)
        · exact absurd rfl b3
        · refine zW_aload_n dX10_load_63 rfl ?_
          refine zW_iconst dX10_load_64 ?_
          refine zcV1 dX10_load_65 rfl eX10_fails b1371 ⟨by decide, by decide, by decide, by decide⟩ rfl c6.1 rfl (by decide) (Nat.le_of_ble_eq_true rfl) (r_fails c6 ?_)
          refine zW_ireturn dX10_load_68 rfl rfl (by first | decide | (show _ ≤ (0 : Nat); omega)) (by first | decide | (show _ ≤ (0 : Nat); omega)) ?_
          have m7 : Mr σ1 (sO σ6 y 0 1) y KL [1, 4] := m6.tr (Mr.O (by decide))
          have z : ∀ k, k ≠ 0 → k ≠ 2 → k ≠ 7 → k ≠ 8 → k ≠ 9 → zO (sO σ6 y 0 1) y k = zO σ2 y k := fun k z0 z2 z7 z8 z9 => by rw [zO_sOk _ _ _ _ z0, d6 k z9, d5 k z8]; exact d4 k z2 z7
          have u : ∀ k, k = 3 ∨ k = 4 ∨ k = 5 → zO (sO σ6 y 0 1) y k = zO σ y k := fun k hk => by
            rw [z k (by omega) (by omega) (by omega) (by omega) (by omega), m2.o (by rcases hk with e | e | e <;> subst e <;> decide)]
            exact k1 k (by omega) (by omega)
          unfold RQ at hQ
          rw [ho] at hQ
          refine hQ _ 0 (h.ld (m1.tr m7) (fun k hk => ?_) ?_ (u 3 (by omega)) (u 4 (by omega)) (u 5 (by omega)) ?_ ?_ ?_) (zO_sOs _ _ _ _) ((m1.tr m7).md (by decide)) (fun z => absurd (show (1 : Nat) = 0 from z) (by decide))
          · show zI σ6 (y + 1) k = _
            rw [i6, o2 k hk, i1]
          · rw [zO_sOk _ _ _ _ (by omega), d6 _ (by omega), d5 _ (by omega)]; exact e4
          · rw [zO_sOk _ _ _ _ (by omega), d6 _ (by omega), d5 _ (by omega)]; exact f4
          · rw [zO_sOk _ _ _ _ (by omega), d6 _ (by omega)]; exact e5
          · rw [zO_sOk _ _ _ _ (by omega)]; exact e6
      · exact absurd rfl b2
    · exact absurd rfl b
  · have ho : o_load A = (0, ((sRk x : Nat) : Int), (x, [], none, [], 0, -1, aFm A)) := by
      unfold o_load
      have : prAll (tyx A) (aIn A).length = .inr x := he
      rw [this]
    have c2 := c1.mr m2
    refine zW_istore_n dX10_load_16 (by decide) rfl rfl ?_
    refine zW_aload_n dX10_load_17 rfl ?_
    refine zW_iconst dX10_load_18 ?_
    refine zpI dX10_load_19 fX10_78 c2.1 rfl (Or.inl rfl) (zst_int _) ?_
    refine zW_aload_n dX10_load_22 rfl ?_
    refine zW_iconst dX10_load_23 ?_
    refine zpI dX10_load_24 fX10_206 c2.1 rfl (Or.inl rfl) (zst_int _) ?_
    refine zW_aload_n dX10_load_27 rfl ?_
    refine zW_iload_n dX10_load_28 rfl ?_
    refine zW_if_eq (tgt := 36) dX10_load_29 (by decide) (by first | assumption | omega | (unfold InR; omega) | (unfold InL; omega) | (simp only [InR] at *; omega)) (fun b => ?_) (fun b => ?_)
    · exact absurd b (by decide)
    · refine zW_iconst dX10_load_32 ?_
      refine zW_goto (tgt := 40) dX10_load_33 (by decide) ?_
      refine zpI dX10_load_40 fX10_284 c2.1 rfl (Or.inl rfl) (zst_int _) ?_
      refine zW_aload_n dX10_load_43 rfl ?_
      refine zW_iload_n dX10_load_44 rfl ?_
      refine zW_if_eq (tgt := 52) dX10_load_45 (by decide) (by first | assumption | omega | (unfold InR; omega) | (unfold InL; omega) | (simp only [InR] at *; omega)) (fun b2 => ?_) (fun b2 => ?_)
      · exact absurd b2 (by decide)
      · refine zW_iconst dX10_load_48 ?_
        refine zW_goto (tgt := 56) dX10_load_49 (by decide) ?_
        refine zpI dX10_load_56 fX10_67 c2.1 rfl (Or.inl rfl) (zst_int _) ?_
        have e2 : zO (sO (sO (sO (sO σ2 y 2 0) y 7 0) y 8 0) y 9 (-1)) y 2 = ((0 : Nat) : Int) := by rw [zO_sOk _ _ _ _ (by omega), zO_sOk _ _ _ _ (by omega), zO_sOk _ _ _ _ (by omega)]; exact zO_sOs _ _ _ _
        have e7 : zO (sO (sO (sO (sO σ2 y 2 0) y 7 0) y 8 0) y 9 (-1)) y 7 = 0 := by rw [zO_sOk _ _ _ _ (by omega), zO_sOk _ _ _ _ (by omega)]; exact zO_sOs _ _ _ _
        have e8 : zO (sO (sO (sO (sO σ2 y 2 0) y 7 0) y 8 0) y 9 (-1)) y 8 = ((0 : Nat) : Int) := by rw [zO_sOk _ _ _ _ (by omega)]; exact zO_sOs _ _ _ _
        have e9 : zO (sO (sO (sO (sO σ2 y 2 0) y 7 0) y 8 0) y 9 (-1)) y 9 = -1 := zO_sOs _ _ _ _
        have e0 : zO (sO (sO (sO (sO σ2 y 2 0) y 7 0) y 8 0) y 9 (-1)) y 0 = 0 := by rw [zO_sOk _ _ _ _ (by omega), zO_sOk _ _ _ _ (by omega), zO_sOk _ _ _ _ (by omega), zO_sOk _ _ _ _ (by omega), m2.o (by decide)]; exact t1
        have m3 : Mr σ1 (sO (sO (sO (sO σ2 y 2 0) y 7 0) y 8 0) y 9 (-1)) y KL [1, 4] := ((((m2.wk (Ks' := KL) (Rs' := [1, 4]) (by decide) (by decide)).tr (Mr.O (by decide))).tr (Mr.O (by decide))).tr (Mr.O (by decide))).tr (Mr.O (by decide))
        have i3 : zI (sO (sO (sO (sO σ2 y 2 0) y 7 0) y 8 0) y 9 (-1)) = zI σ2 := rfl
        generalize sO (sO (sO (sO σ2 y 2 0) y 7 0) y 8 0) y 9 (-1) = σ3 at e0 e2 e7 e8 e9 m3 i3 ⊢
        have c3 := c1.mr m3
        have S3 : SR σ3 y 12230 x := hS.same (fun k _ _ => by rw [i3])
        refine zW_iload_n dX10_load_59 rfl ?_
        refine zW_if_ne (tgt := 69) dX10_load_60 (by decide) (by first | assumption | omega | (unfold InR; omega) | (unfold InL; omega) | (simp only [InR] at *; omega)) (fun b3 => ?_) (fun b3 => ?_)
        · refine zW_aload_n dX10_load_69 rfl ?_
          refine zW_bipush dX10_load_70 (by decide) ?_
          refine zW_iconst dX10_load_72 ?_
          refine zcV2 dX10_load_73 rfl eX10_copies b1472 ⟨by decide, by decide, by decide, by decide⟩ rfl c3.1 rfl (by decide) (Nat.le_of_ble_eq_true rfl) (r_copies (f := 10) (t := 0) c3 (by omega) (by omega) (by omega) (fun σ4 d1 d2 m4 => ?_))
          have c4 := c3.mr m4
          have S4 : SR σ4 y 0 x := S3.move (fun k hk => by have := d1 k hk; rw [Nat.mul_zero] at this; exact this)
          refine zW_aload_n dX10_load_76 rfl ?_
          refine zW_iconst dX10_load_77 ?_
          refine zpI dX10_load_78 fX10_84 c4.1 rfl (Or.inl rfl) (zst_int _) ?_
          refine zW_aload_n dX10_load_81 rfl ?_
          refine zW_iconst dX10_load_82 ?_
          refine zpI dX10_load_83 fX10_81 c4.1 rfl (Or.inl rfl) (zst_int _) ?_
          refine zW_aload_n dX10_load_86 rfl ?_
          refine zW_iconst dX10_load_87 ?_
          refine zpI dX10_load_88 fX10_287 c4.1 rfl (Or.inl rfl) zst_0 ?_
          have q2 : ∀ k, k ≠ 3 → k ≠ 4 → k ≠ 5 → zO (sO (sO (sO σ4 y 3 0) y 4 0) y 5 0) y k = zO σ3 y k := fun k n3 n4 n5 => by rw [zO_sOk _ _ _ _ n5, zO_sOk _ _ _ _ n4, zO_sOk _ _ _ _ n3, m4.o List.not_mem_nil]
          have q3 : zO (sO (sO (sO σ4 y 3 0) y 4 0) y 5 0) y 3 = 0 := by rw [zO_sOk _ _ _ _ (by omega), zO_sOk _ _ _ _ (by omega)]; exact zO_sOs _ _ _ _
          have q4 : zO (sO (sO (sO σ4 y 3 0) y 4 0) y 5 0) y 4 = 0 := by rw [zO_sOk _ _ _ _ (by omega)]; exact zO_sOs _ _ _ _
          have q5 : zO (sO (sO (sO σ4 y 3 0) y 4 0) y 5 0) y 5 = 0 := zO_sOs _ _ _ _
          have m5 : Mr σ1 (sO (sO (sO σ4 y 3 0) y 4 0) y 5 0) y KL [1, 4] := (((m3.th m4 (by decide) (by decide)).tr (Mr.O (by decide))).tr (Mr.O (by decide))).tr (Mr.O (by decide))
          have S5 : SR (sO (sO (sO σ4 y 3 0) y 4 0) y 5 0) y 0 x := S4.same (fun k _ _ => rfl)
          generalize sO (sO (sO σ4 y 3 0) y 4 0) y 5 0 = σ5 at q2 q3 q4 q5 m5 S5 ⊢
          have h5 : RI σ5 y (x, [], none, [], 0, -1, aFm A) := h.nw (m1.tr m5) S5 (by rw [q2 2 (by omega) (by omega) (by omega)]; exact e2) q3 q4 q5 (by rw [q2 7 (by omega) (by omega) (by omega)]; exact e7) (by rw [q2 8 (by omega) (by omega) (by omega)]; exact e8) (by rw [q2 9 (by omega) (by omega) (by omega)]; exact e9)
          refine zW_aload_n dX10_load_91 rfl ?_
          refine zW_iconst dX10_load_92 ?_
          refine zcV1 dX10_load_93 rfl eX10_get b1443 ⟨by decide, by decide, by decide, by decide⟩ rfl h5.1.1 rfl (by decide) (Nat.le_of_ble_eq_true rfl) (r_get (k := 0) h5.ra (by omega) h5.rk ?_)
          refine zW_ireturn dX10_load_96 rfl rfl (by first | decide | (show _ ≤ (0 : Nat); omega)) (by first | decide | (show _ ≤ (0 : Nat); omega)) ?_
          unfold RQ at hQ
          rw [ho] at hQ
          exact hQ _ _ h5 (by rw [q2 0 (by omega) (by omega) (by omega)]; exact e0) ((m1.tr m5).md (by decide)) (fun _ => rfl)
        · exact absurd b3 (by decide)
end RLOAD
