/-! the reference: statements, all, load -/
section RLOAD
variable {Γ : GG} {σ σ' : HS} {Q : Res → HS → Prop} {y o p : Nat} {l w : List Nat} {t : Nat × Nat × Nat} {x : ST} {A : AA}
set_option maxRecDepth 100000 in
theorem RA.outs (m : Mr σ σ' y KU [4]) : OutS σ σ' y 12230 := fun k _ => by rw [m.i (i := 1) (by decide)]
set_option maxRecDepth 100000 in
theorem r_readsStatement (h : RA σ y 12230) (hI : rIn σ y l) (hx : SR σ y 12230 x) (hr4 : sRk x ≤ 4) (hP : PR σ y l t) (ht : ∃ q, q ≤ l.length ∧ t = tok (tl l) l.length q)
    (h0 : ∀ σ' e, stm (tl l) l.length x t = .inl e → PF σ' y e → Mr σ σ' y KU [1, 4] → OutS σ σ' y 12230 → Q (.inl (some (vI 0))) σ')
    (h1 : ∀ σ' x' q, stm (tl l) l.length x t = .inr (x', tok (tl l) l.length q) → sRk x' = sRk x → t.2.2 < q → q ≤ l.length → zO σ' y 32 = (q : Int) → SR σ' y 12230 x' → Mr σ σ' y KU [1, 4] → OutS σ σ' y 12230 → Q (.inl (some (vI 1))) σ') : zM Γ mX10_readsStatement [vR (some y)] σ Q := by
  obtain ⟨q, hq, et⟩ := ht
  have tl9 := tok_le (tx := tl l) hq
  rw [← et] at tl9
  have hl6 := hI.2.1
  have hle : t.2.1 ≤ t.2.2 ∧ t.2.2 ≤ l.length := ⟨tl9.2.1, tl9.2.2.1⟩
  unfold stm at h0 h1
  have cS : kw kwS (tl l) t = true ↔ IW (tl l) t 115 101 116 0 := kw_iff3 (by decide) (by decide) (by decide) hle.1
  have cJ : kw kwJ (tl l) t = true ↔ IW (tl l) t 106 111 105 110 := kw_iff4 (by decide) (by decide) (by decide) (by decide) hle.1
  refine zM_of (n := 2) (by decide +kernel) rfl rfl rfl ?_
  refine zW_aload_n dX10_readsStatement_0 rfl ?_
  refine zW_bipush dX10_readsStatement_1 (by decide) ?_
  refine zW_bipush dX10_readsStatement_3 (by decide) ?_
  refine zW_bipush dX10_readsStatement_5 (by decide) ?_
  refine zW_iconst dX10_readsStatement_7 ?_
  refine zcV4 dX10_readsStatement_8 rfl eX10_isWord b1407 ⟨by decide, by decide, by decide, by decide⟩ rfl h.1.1 rfl (by decide) (Nat.le_of_ble_eq_true rfl) (r_isWord (a := 115) (b := 101) (c := 116) (d := 0) h.1 hI hP hle tl9.2.2.2.1 (by decide) (by decide) (by decide) (by decide) (fun z => ?_) (fun z => ?_))
  · rw [if_pos (cS.mpr z)] at h0 h1
    refine zW_if_eq (tgt := 19) dX10_readsStatement_11 (by decide) (by first | assumption | omega | (unfold InR; omega) | (unfold InL; omega) | (simp only [InR] at *; omega)) (fun b => ?_) (fun b => ?_)
    · exact absurd b (by decide)
    · refine zW_aload_n dX10_readsStatement_14 rfl ?_
      refine zcV0 dX10_readsStatement_15 rfl eX10_readsSet b1427 ⟨by decide, by decide, by decide, by decide⟩ rfl h.1.1 rfl (by decide) (Nat.le_of_ble_eq_true rfl) (r_readsSet h hI hx hr4 hP.2.2.1 hle.2 (fun σ1 e he hf m1 o1 => ?_) (fun σ1 x' q he hr hpq hqn h32 hS m1 o1 => ?_))
      · refine zW_ireturn dX10_readsStatement_18 rfl rfl (by first | decide | (show _ ≤ (0 : Nat); omega)) (by first | decide | (show _ ≤ (0 : Nat); omega)) ?_
        exact h0 σ1 e he hf m1 o1
      · refine zW_ireturn dX10_readsStatement_18 rfl rfl (by first | decide | (show _ ≤ (0 : Nat); omega)) (by first | decide | (show _ ≤ (0 : Nat); omega)) ?_
        exact h1 σ1 x' q he hr hpq hqn h32 hS m1 o1
  · rw [if_neg (fun w => z (cS.mp w))] at h0 h1
    refine zW_if_eq (tgt := 19) dX10_readsStatement_11 (by decide) (by first | assumption | omega | (unfold InR; omega) | (unfold InL; omega) | (simp only [InR] at *; omega)) (fun b => ?_) (fun b => ?_)
    · refine zW_aload_n dX10_readsStatement_19 rfl ?_
      refine zW_bipush dX10_readsStatement_20 (by decide) ?_
      refine zW_bipush dX10_readsStatement_22 (by decide) ?_
      refine zW_bipush dX10_readsStatement_24 (by decide) ?_
      refine zW_bipush dX10_readsStatement_26 (by decide) ?_
      refine zcV4 dX10_readsStatement_28 rfl eX10_isWord b1407 ⟨by decide, by decide, by decide, by decide⟩ rfl h.1.1 rfl (by decide) (Nat.le_of_ble_eq_true rfl) (r_isWord (a := 106) (b := 111) (c := 105) (d := 110) h.1 hI hP hle tl9.2.2.2.1 (by decide) (by decide) (by decide) (by decide) (fun z2 => ?_) (fun z2 => ?_))
      · rw [if_pos (cJ.mpr z2)] at h0 h1
        unfold stmJ at h0 h1
        have t1l := tok_le (tx := tl l) hle.2
        generalize hT : tok (tl l) l.length t.2.2 = t1 at h0 h1 t1l
        refine zW_if_ne (tgt := 40) dX10_readsStatement_31 (by decide) (by first | assumption | omega | (unfold InR; omega) | (unfold InL; omega) | (simp only [InR] at *; omega)) (fun b2 => ?_) (fun b2 => ?_)
        · refine zW_aload_n dX10_readsStatement_40 rfl ?_
          refine zW_iconst dX10_readsStatement_41 ?_
          refine zW_iconst dX10_readsStatement_42 ?_
          refine zcV2 dX10_readsStatement_43 rfl eX10_isNumber b1415 ⟨by decide, by decide, by decide, by decide⟩ rfl h.1.1 rfl (by decide) (Nat.le_of_ble_eq_true rfl) (r_isNumber (lo := 0) (hi := 1) h.1 hI hP.2.2.1 hle.2 (by decide) (by decide) (fun σ1 e1 f1 m1 => ?_) (fun σ1 e1 e2 f1 m1 => ?_) (fun σ1 e1 e2 e3 f1 n1 m1 => ?_))
          · rw [hT] at e1 f1
            rw [if_pos e1] at h0
            refine zW_if_ne (tgt := 51) dX10_readsStatement_46 (by decide) (by first | assumption | omega | (unfold InR; omega) | (unfold InL; omega) | (simp only [InR] at *; omega)) (fun b3 => ?_) (fun b3 => ?_)
            · exact absurd rfl b3
            · refine zW_iconst dX10_readsStatement_49 ?_
              refine zW_ireturn dX10_readsStatement_50 rfl rfl (by first | decide | (show _ ≤ (0 : Nat); omega)) (by first | decide | (show _ ≤ (0 : Nat); omega)) ?_
              exact h0 σ1 _ rfl f1 (m1.wk (by decide) (by decide)) (RA.outs (m1.wk (by decide) (by decide)))
          · rw [hT] at e1 e2 f1
            rw [if_neg (by omega), if_pos (by omega)] at h0
            refine zW_if_ne (tgt := 51) dX10_readsStatement_46 (by decide) (by first | assumption | omega | (unfold InR; omega) | (unfold InL; omega) | (simp only [InR] at *; omega)) (fun b3 => ?_) (fun b3 => ?_)
            · exact absurd rfl b3
            · refine zW_iconst dX10_readsStatement_49 ?_
              refine zW_ireturn dX10_readsStatement_50 rfl rfl (by first | decide | (show _ ≤ (0 : Nat); omega)) (by first | decide | (show _ ≤ (0 : Nat); omega)) ?_
              exact h0 σ1 _ rfl f1 (m1.wk (by decide) (by decide)) (RA.outs (m1.wk (by decide) (by decide)))
          · rw [hT] at e1 e2 e3 f1 n1
            generalize hN : tnum (tl l) t1 = N at e2 e3 n1 h0 h1
            have fg : inR2 (N : Int) := by unfold inR2; omega
            rw [if_neg (by omega), if_neg (by omega)] at h0 h1
            have a1 := h.mr m1
            have x1 : SR σ1 y 12230 x := hx.mr m1
            obtain ⟨c1, c2, c3⟩ := x1.2.2 N (by omega)
            have ew : zI σ1 (y + 1) (12230 + (489 + 367 * ((N : Int)).toNat)) = ((sGw x N).length : Int) := by rw [← c1]; congr 1
            refine zW_if_ne (tgt := 51) dX10_readsStatement_46 (by decide) (by first | assumption | omega | (unfold InR; omega) | (unfold InL; omega) | (simp only [InR] at *; omega)) (fun b3 => ?_) (fun b3 => ?_)
            · refine zW_aload_n dX10_readsStatement_51 rfl ?_
              refine zgI dX10_readsStatement_52 fX10_230 a1.1.1 rfl n1 ?_
              refine zW_istore_n dX10_readsStatement_55 (by decide) rfl rfl ?_
              refine zW_aload_n dX10_readsStatement_56 rfl ?_
              refine zW_iload_n dX10_readsStatement_57 rfl ?_
              refine zcS1 dX10_readsStatement_58 rfl eX10_wordsOf b1462 ⟨by decide, by decide, by decide, by decide⟩ rfl (Nat.le_of_ble_eq_true rfl) (r_wordsOf fg ?_)
              refine zcV1 dX10_readsStatement_61 rfl eX10_get b1443 ⟨by decide, by decide, by decide, by decide⟩ rfl a1.1.1 rfl (by decide) (Nat.le_of_ble_eq_true rfl) (r_get a1 (by omega) ew ?_)
              refine zW_bipush dX10_readsStatement_64 (by decide) ?_
              refine zW_icmp_ne (tgt := 75) dX10_readsStatement_66 (by decide) (by first | assumption | omega | (unfold InR; omega) | (unfold InL; omega) | (simp only [InR] at *; omega)) (by first | assumption | omega | (unfold InR; omega) | (unfold InL; omega) | (simp only [InR] at *; omega)) (fun b4 => ?_) (fun b4 => ?_)
              · rw [if_neg (by omega)] at h0 h1
                have hl5 : (sGw x N).length < 6 := by omega
                have t2l := tok_le (tx := tl l) t1l.2.2.1
                generalize hT2 : tok (tl l) l.length t1.2.2 = t2 at h0 h1 t2l
                have ge1 := t1l.2.2.2.2.1 (by omega)
                refine zW_aload_n dX10_readsStatement_75 rfl ?_
                refine zW_iconst dX10_readsStatement_76 ?_
                refine zW_bipush dX10_readsStatement_77 (by decide) ?_
                refine zcV2 dX10_readsStatement_79 rfl eX10_isNumber b1415 ⟨by decide, by decide, by decide, by decide⟩ rfl a1.1.1 rfl (by decide) (Nat.le_of_ble_eq_true rfl) (r_isNumber (lo := 0) (hi := 7) a1.1 (hI.mr m1) f1.2.2.1 t1l.2.2.1 (by decide) (by decide) (fun σ2 e4 f2 m2 => ?_) (fun σ2 e4 e5 f2 m2 => ?_) (fun σ2 e4 e5 e6 f2 n2 m2 => ?_))
                · rw [hT2] at e4 f2
                  rw [if_pos e4] at h0
                  have m12 : Mr σ σ2 y KU [4] := (m1.tr m2).wk (by decide) (by decide)
                  refine zW_if_ne (tgt := 87) dX10_readsStatement_82 (by decide) (by first | assumption | omega | (unfold InR; omega) | (unfold InL; omega) | (simp only [InR] at *; omega)) (fun b5 => ?_) (fun b5 => ?_)
                  · exact absurd rfl b5
                  · refine zW_iconst dX10_readsStatement_85 ?_
                    refine zW_ireturn dX10_readsStatement_86 rfl rfl (by first | decide | (show _ ≤ (0 : Nat); omega)) (by first | decide | (show _ ≤ (0 : Nat); omega)) ?_
                    exact h0 σ2 _ rfl f2 (m12.wk (by decide) (by decide)) (RA.outs m12)
                · rw [hT2] at e4 e5 f2
                  rw [if_neg (by omega), if_pos (by omega)] at h0
                  have m12 : Mr σ σ2 y KU [4] := (m1.tr m2).wk (by decide) (by decide)
                  refine zW_if_ne (tgt := 87) dX10_readsStatement_82 (by decide) (by first | assumption | omega | (unfold InR; omega) | (unfold InL; omega) | (simp only [InR] at *; omega)) (fun b5 => ?_) (fun b5 => ?_)
                  · exact absurd rfl b5
                  · refine zW_iconst dX10_readsStatement_85 ?_
                    refine zW_ireturn dX10_readsStatement_86 rfl rfl (by first | decide | (show _ ≤ (0 : Nat); omega)) (by first | decide | (show _ ≤ (0 : Nat); omega)) ?_
                    exact h0 σ2 _ rfl f2 (m12.wk (by decide) (by decide)) (RA.outs m12)
                · rw [hT2] at e4 e5 e6 f2 n2
                  generalize hN2 : tnum (tl l) t2 = N2 at e5 e6 n2 h0 h1
                  have fr : inR8 (N2 : Int) := by unfold inR8; omega
                  have ge2 := t2l.2.2.2.2.1 (by omega)
                  rw [if_neg (by omega), if_neg (by omega)] at h0 h1
                  have m12 := m1.tr m2
                  have a2 := h.mr m12
                  have t3l := tok_le (tx := tl l) t2l.2.2.1
                  generalize hT3 : tok (tl l) l.length t2.2.2 = t3 at h0 h1 t3l
                  refine zW_if_ne (tgt := 87) dX10_readsStatement_82 (by decide) (by first | assumption | omega | (unfold InR; omega) | (unfold InL; omega) | (simp only [InR] at *; omega)) (fun b5 => ?_) (fun b5 => ?_)
                  · refine zW_aload_n dX10_readsStatement_87 rfl ?_
                    refine zgI dX10_readsStatement_88 fX10_230 a2.1.1 rfl n2 ?_
                    refine zW_istore_n dX10_readsStatement_91 (by decide) rfl rfl ?_
                    refine zW_aload_n dX10_readsStatement_92 rfl ?_
                    refine zW_iconst dX10_readsStatement_93 ?_
                    refine zcV1 dX10_readsStatement_94 rfl eX10_is b1419 ⟨by decide, by decide, by decide, by decide⟩ rfl a2.1.1 rfl (by decide) (Nat.le_of_ble_eq_true rfl) (r_is (k := 3) a2.1 (hI.mr m12) f2.2.2.1 t2l.2.2.1 (by decide) (fun σ3 e7 f3 m3 => ?_) (fun σ3 e7 f3 m3 => ?_))
                    · rw [hT3] at e7 f3
                      rw [if_pos e7] at h0
                      have m13 : Mr σ σ3 y KU [4] := (m12.tr m3).wk (by decide) (by decide)
                      refine zW_if_ne (tgt := 102) dX10_readsStatement_97 (by decide) (by first | assumption | omega | (unfold InR; omega) | (unfold InL; omega) | (simp only [InR] at *; omega)) (fun b6 => ?_) (fun b6 => ?_)
                      · exact absurd rfl b6
                      · refine zW_iconst dX10_readsStatement_100 ?_
                        refine zW_ireturn dX10_readsStatement_101 rfl rfl (by first | decide | (show _ ≤ (0 : Nat); omega)) (by first | decide | (show _ ≤ (0 : Nat); omega)) ?_
                        exact h0 σ3 _ rfl f3 (m13.wk (by decide) (by decide)) (RA.outs m13)
                    · rw [hT3] at e7 f3
                      rw [if_neg (by omega)] at h1
                      have m13 := m12.tr m3
                      have a3 := h.mr m13
                      have x3 : SR σ3 y 12230 x := hx.mr m13
                      have ge3 := t3l.2.2.2.2.1 (by omega)
                      refine zW_if_ne (tgt := 102) dX10_readsStatement_97 (by decide) (by first | assumption | omega | (unfold InR; omega) | (unfold InL; omega) | (simp only [InR] at *; omega)) (fun b6 => ?_) (fun b6 => ?_)
                      · refine zW_aload_n dX10_readsStatement_102 rfl ?_
                        refine zW_iload_n dX10_readsStatement_103 rfl ?_
                        refine zW_iload_n dX10_readsStatement_104 rfl ?_
                        refine zcV2 dX10_readsStatement_105 rfl eX10_appendsWord b1465 ⟨by decide, by decide, by decide, by decide⟩ rfl a3.1.1 rfl (by decide) (Nat.le_of_ble_eq_true rfl) (r_appendsWord a3 x3 fg fr hl5 (fun σ4 x4 m4 o4 => ?_))
                        refine zW_iconst dX10_readsStatement_108 ?_
                        refine zW_ireturn dX10_readsStatement_109 rfl rfl (by first | decide | (show _ ≤ (0 : Nat); omega)) (by first | decide | (show _ ≤ (0 : Nat); omega)) ?_
                        have m14 : Mr σ σ4 y KU [1, 4] := (m13.wk (Ks' := KU) (Rs' := [1, 4]) (by decide) (by decide)).th m4 (by decide) (by decide)
                        refine h1 σ4 _ t3.2.2 rfl rfl (by omega) t3l.2.2.1 (by rw [m4.o (by decide)]; exact f3.2.2.1) x4 m14 (fun k hk => ?_)
                        rw [o4 k hk, m13.i (i := 1) (by decide)]
                      · exact absurd b6 (by decide)
                  · exact absurd b5 (by decide)
              · rw [if_pos (by omega)] at h0
                refine zW_aload_n dX10_readsStatement_69 rfl ?_
                refine zW_iconst dX10_readsStatement_70 ?_
                refine zcV1 dX10_readsStatement_71 rfl eX10_faults b1403 ⟨by decide, by decide, by decide, by decide⟩ rfl a1.1.1 rfl (by decide) (Nat.le_of_ble_eq_true rfl) (r_faults a1.1 ?_)
                refine zW_ireturn dX10_readsStatement_74 rfl rfl (by first | decide | (show _ ≤ (0 : Nat); omega)) (by first | decide | (show _ ≤ (0 : Nat); omega)) ?_
                have m2 : Mr σ (sO σ1 y 36 5) y KU [4] := (m1.wk (Ks' := KU) (Rs' := [4]) (by decide) (by decide)).tr (Mr.O (by decide))
                exact h0 _ _ rfl ⟨zO_sOs _ _ _ _, f1.f⟩ (m2.wk (by decide) (by decide)) (RA.outs m2)
            · exact absurd b3 (by decide)
        · exact absurd b2 (by decide)
      · rw [if_neg (fun w => z2 (cJ.mp w))] at h0
        refine zW_if_ne (tgt := 40) dX10_readsStatement_31 (by decide) (by first | assumption | omega | (unfold InR; omega) | (unfold InL; omega) | (simp only [InR] at *; omega)) (fun b2 => ?_) (fun b2 => ?_)
        · exact absurd rfl b2
        · refine zW_aload_n dX10_readsStatement_34 rfl ?_
          refine zW_iconst dX10_readsStatement_35 ?_
          refine zcV1 dX10_readsStatement_36 rfl eX10_faults b1403 ⟨by decide, by decide, by decide, by decide⟩ rfl h.1.1 rfl (by decide) (Nat.le_of_ble_eq_true rfl) (r_faults h.1 ?_)
          refine zW_ireturn dX10_readsStatement_39 rfl rfl (by first | decide | (show _ ≤ (0 : Nat); omega)) (by first | decide | (show _ ≤ (0 : Nat); omega)) ?_
          exact h0 _ _ rfl ⟨zO_sOs _ _ _ _, hP.f⟩ (Mr.O (by decide)) (RA.outs (Mr.O (by decide)))
    · exact absurd rfl b
end RLOAD
