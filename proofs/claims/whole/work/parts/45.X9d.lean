/-! the calculator: more edits -/
section CALCM
variable {Γ : GG} {σ σ' : HS} {Q : Res → HS → Prop} {x : Nat} {A : AA} {P : Nat → Prop}
/-- w put n times -/
def pwn (w : List Nat) : Nat → List Nat
  | 0 => []
  | n + 1 => pws (pwn w n) w
set_option maxRecDepth 100000 in
theorem pwn_len (w : List Nat) (hw : w.length ≤ 60) : ∀ n, (pwn w n).length ≤ 60 * n := by
  intro n
  induction n with
  | zero => exact Nat.le_refl _
  | succ n ih =>
    have := pws_len w (pwn w n)
    show (pws (pwn w n) w).length ≤ _
    omega
def powL (l : List Nat) (e : Int) : List Nat := if 0 ≤ e then pwn l e.toNat else pwn (invw l) (-e).toNat
def e5 : Nat → String := fun k => if k = 1 then eI else if k = 2 then eA else eS
def o_setPower (A : AA) (p r e : Int) : Out := if inR8 p then (if inR8 r then (if -20 ≤ e ∧ e ≤ 20 then o_store A p (powL (reg A r) e) 3 else (2, 0, A)) else (1, 0, A)) else (1, 0, A)
set_option maxRecDepth 100000 in
theorem c_setPower {p r e : Int} (h : CI σ x A) (ip : InR p) (ir : InR r) (ie : InR e) (hQ : ∀ σ', CI σ' x (o_setPower A p r e).2.2 → Mx σ σ' (xr x) → Q (rs e5 (o_setPower A p r e)) σ') : zM Γ mX9_setPower [vR (some x), vI p, vI r, vI e] σ Q := by
  obtain ⟨z0, z1, z2, z3, z4, z5, z6, z7, z8, z9, z10, z11, z12, k1, k2, k3, k4⟩ := h.xk
  have hP := h.1.2.2.2.2.2.2.1
  refine zM_of (n := 2) (by decide +kernel) rfl rfl rfl ?_
  unfold o_setPower o_store at hQ
  refine zW_iload_n dX9_setPower_0 rfl ?_
  refine zW_bipush dX9_setPower_1 (by decide) ?_
  refine zcS2 dX9_setPower_3 rfl eX9_checkIndex b344 ⟨by decide, by decide, by decide, by decide⟩ rfl (Nat.le_of_ble_eq_true rfl) (c_checkIndex ip (by unfold InR; omega) (fun y1 y2 => ?_) (fun y m => ?_))
  · have gr9 : inR8 p := ⟨y1, y2⟩
    rw [if_pos gr9] at hQ
    refine zW_aload_n dX9_setPower_6 rfl ?_
    refine zW_iload_n dX9_setPower_7 rfl ?_
    refine zcV1 dX9_setPower_8 rfl eX9_wordOf b724 ⟨by decide, by decide, by decide, by decide⟩ rfl z0 rfl (by decide) (Nat.le_of_ble_eq_true rfl) (c_wordOf h ir (fun kr => ?_) (fun kr m => ?_))
    · rw [if_pos kr] at hQ
      have wr := h.rw kr
      have cr := wr.cap
      have tr : r.toNat < 8 := by unfold inR8 at kr; omega
      have bad : ¬ (-20 ≤ e ∧ e ≤ 20) → zW Γ mX9_setPower 25 [some (vR (some x)), some (vI p), some (vI r), some (vI e), some (vR (some (x + 6 + 2 * r.toNat))), none] [] σ 2 12 Q := by
        intro hb
        rw [if_neg hb] at hQ
        refine zW_throwW (k := 12) zTok_1 (by decide) rfl rfl rfl dX9_setPower_25 dX9_setPower_28 dX9_setPower_29 dX9_setPower_32 dX9_setPower_35 (by decide) (Nat.le_of_ble_eq_true rfl) (by decide) (by decide) (fun m => ?_)
        exact hQ _ h.sn Mx.sn
      have good : -20 ≤ e ∧ e ≤ 20 → zW Γ mX9_setPower 36 [some (vR (some x)), some (vI p), some (vI r), some (vI e), some (vR (some (x + 6 + 2 * r.toNat))), none] [] σ 2 12 Q := by
        intro hb
        rw [if_pos hb] at hQ
        have kx : ∀ {σ1}, Md σ σ1 (wp (x + 505) (x + 506)) → zK σ1 x = (9, 0) ∧ zP σ1 x 11 = some (x + 505) := fun m => ⟨by rw [m.K]; exact z0, by rw [m.P]; exact z10⟩
        have qr : ∀ {σ1}, Md σ σ1 (wp (x + 505) (x + 506)) → Wd σ1 (x + 6 + 2 * r.toNat) (x + 7 + 2 * r.toNat) 60 (reg A r) := fun m => wr.md m (by unfold wp; omega) (by unfold wp; omega)
        have fin : ∀ σ1 (i : Int), Wd σ1 (x + 505) (x + 506) 3600 (powL (reg A r) e) → Md σ σ1 (wp (x + 505) (x + 506)) → zW Γ mX9_setPower 91 [some (vR (some x)), some (vI p), some (vI r), some (vI e), some (vR (some (x + 6 + 2 * r.toNat))), some (vI i)] [] σ1 2 12 Q := by
          intro σ1 i h1 m1
          have hC : CI σ1 x A := h.md m1 (fun a z => by unfold wp at z; unfold scr; omega)
          have mx : Mx σ σ1 (xr x) := Md.mx m1 (fun a z => by unfold wp at z; unfold xr; omega)
          obtain ⟨z0, z1, z2, z3, z4, z5, z6, z7, z8, z9, z10, z11, z12, k1, k2, k3, k4⟩ := hC.xk
          refine zW_aload_n dX9_setPower_91 rfl ?_
          refine zW_iload_n dX9_setPower_92 rfl ?_
          refine zcV1 dX9_setPower_93 rfl eX9_storeProduct b1068 ⟨by decide, by decide, by decide, by decide⟩ rfl z0 rfl (by decide) (Nat.le_of_ble_eq_true rfl) (c_storeProduct hC h1 gr9 (fun hl σ9 h9 m9 => ?_) (fun hl m => ?_))
          · rw [if_pos hl] at hQ
            refine zW_ireturn dX9_setPower_96 rfl rfl (by first | decide | (show _ ≤ (4 : Nat); omega)) (by first | decide | (show _ ≤ (24 : Nat); omega)) ?_
            exact hQ σ9 h9 (mx.tr m9)
          · rw [if_neg hl] at hQ
            exact hQ _ hC.sn (mx.tr Mx.sn)
        have loop2 : ∀ n i σ1, e < 0 → i + n = (-e).toNat → Wd σ1 (x + 505) (x + 506) 3600 (pwn (invw (reg A r)) i) → Md σ σ1 (wp (x + 505) (x + 506)) → zW Γ mX9_setPower 70 [some (vR (some x)), some (vI p), some (vI r), some (vI e), some (vR (some (x + 6 + 2 * r.toNat))), some (vI (-(i : Int)))] [] σ1 2 12 Q := by
          intro n
          induction n with
          | zero =>
            intro i σ1 he hi h1 m1
            refine zW_iload dX9_setPower_70 rfl ?_
            refine zW_iload_n dX9_setPower_72 rfl ?_
            refine zW_icmp_le (tgt := 91) dX9_setPower_73 (by decide) (by first | assumption | omega | (unfold InR; omega) | (unfold InL; omega) | (simp only [InR] at *; omega)) (by first | assumption | omega | (unfold InR; omega) | (unfold InL; omega) | (simp only [InR] at *; omega)) (fun q => ?_) (fun q => ?_)
            · refine fin σ1 _ ?_ m1
              unfold powL
              rw [if_neg (by omega), ← hi]
              exact h1
            · exact absurd q (by omega)
          | succ n ih =>
            intro i σ1 he hi h1 m1
            obtain ⟨y0, y1⟩ := kx m1
            have L := pwn_len (invw (reg A r)) (by rw [invw_len]; exact cr) i
            refine zW_iload dX9_setPower_70 rfl ?_
            refine zW_iload_n dX9_setPower_72 rfl ?_
            refine zW_icmp_le (tgt := 91) dX9_setPower_73 (by decide) (by first | assumption | omega | (unfold InR; omega) | (unfold InL; omega) | (simp only [InR] at *; omega)) (by first | assumption | omega | (unfold InR; omega) | (unfold InL; omega) | (simp only [InR] at *; omega)) (fun q => ?_) (fun q => ?_)
            · exact absurd q (by omega)
            · refine zW_aload_n dX9_setPower_76 rfl ?_
              refine zgP dX9_setPower_77 fX9_69 y0 rfl y1 ?_
              refine zW_aload dX9_setPower_80 rfl ?_
              refine zcV1 dX9_setPower_82 rfl eX8_putInverse b803 ⟨by decide, by decide, by decide, by decide⟩ rfl h1.1.1 rfl (by decide) (Nat.le_of_ble_eq_true rfl) (w_putInverse h1 (qr m1) (by omega) (by omega) (by omega) (by omega) (by omega) (fun σ2 h2 n2 => ?_))
              refine zW_iinc dX9_setPower_85 rfl (by decide) rfl rfl ?_
              refine zW_goto (tgt := 70) dX9_setPower_88 (by decide) ?_
              have e9 : -(i : Int) + -1 = -((i + 1 : Nat) : Int) := by omega
              rw [e9]
              exact ih (i + 1) σ2 he (by omega) h2 (m1.tr n2 (fun _ z => z))
        have loop1 : ∀ n i σ1, 0 ≤ e → i + n = e.toNat → Wd σ1 (x + 505) (x + 506) 3600 (pwn (reg A r) i) → Md σ σ1 (wp (x + 505) (x + 506)) → zW Γ mX9_setPower 46 [some (vR (some x)), some (vI p), some (vI r), some (vI e), some (vR (some (x + 6 + 2 * r.toNat))), some (vI i)] [] σ1 2 12 Q := by
          intro n
          induction n with
          | zero =>
            intro i σ1 he hi h1 m1
            refine zW_iload dX9_setPower_46 rfl ?_
            refine zW_iload_n dX9_setPower_48 rfl ?_
            refine zW_icmp_ge (tgt := 67) dX9_setPower_49 (by decide) (by first | assumption | omega | (unfold InR; omega) | (unfold InL; omega) | (simp only [InR] at *; omega)) (by first | assumption | omega | (unfold InR; omega) | (unfold InL; omega) | (simp only [InR] at *; omega)) (fun q => ?_) (fun q => ?_)
            · refine zW_iconst dX9_setPower_67 ?_
              refine zW_istore dX9_setPower_68 (by decide) rfl rfl ?_
              refine zW_iload dX9_setPower_70 rfl ?_
              refine zW_iload_n dX9_setPower_72 rfl ?_
              refine zW_icmp_le (tgt := 91) dX9_setPower_73 (by decide) (by first | assumption | omega | (unfold InR; omega) | (unfold InL; omega) | (simp only [InR] at *; omega)) (by first | assumption | omega | (unfold InR; omega) | (unfold InL; omega) | (simp only [InR] at *; omega)) (fun q2 => ?_) (fun q2 => ?_)
              · refine fin σ1 _ ?_ m1
                unfold powL
                rw [if_pos he, ← hi]
                exact h1
              · exact absurd q2 (by omega)
            · exact absurd q (by omega)
          | succ n ih =>
            intro i σ1 he hi h1 m1
            obtain ⟨y0, y1⟩ := kx m1
            have L := pwn_len (reg A r) cr i
            refine zW_iload dX9_setPower_46 rfl ?_
            refine zW_iload_n dX9_setPower_48 rfl ?_
            refine zW_icmp_ge (tgt := 67) dX9_setPower_49 (by decide) (by first | assumption | omega | (unfold InR; omega) | (unfold InL; omega) | (simp only [InR] at *; omega)) (by first | assumption | omega | (unfold InR; omega) | (unfold InL; omega) | (simp only [InR] at *; omega)) (fun q => ?_) (fun q => ?_)
            · exact absurd q (by omega)
            · refine zW_aload_n dX9_setPower_52 rfl ?_
              refine zgP dX9_setPower_53 fX9_69 y0 rfl y1 ?_
              refine zW_aload dX9_setPower_56 rfl ?_
              refine zcV1 dX9_setPower_58 rfl eX8_putWord b808 ⟨by decide, by decide, by decide, by decide⟩ rfl h1.1.1 rfl (by decide) (Nat.le_of_ble_eq_true rfl) (w_putWord h1 (qr m1) (by omega) (by omega) (by omega) (by omega) (by omega) (fun σ2 h2 n2 => ?_))
              refine zW_iinc dX9_setPower_61 rfl (by decide) rfl rfl ?_
              refine zW_goto (tgt := 46) dX9_setPower_64 (by decide) ?_
              exact ih (i + 1) σ2 he (by omega) h2 (m1.tr n2 (fun _ z => z))
        refine zW_aload_n dX9_setPower_36 rfl ?_
        refine zgP dX9_setPower_37 fX9_69 z0 rfl z10 ?_
        refine zcV0 dX9_setPower_40 rfl eX8_clear b802 ⟨by decide, by decide, by decide, by decide⟩ rfl hP.1 rfl (by decide) (Nat.le_of_ble_eq_true rfl) (w_clear hP (fun σ1 h1 m1 => ?_))
        refine zW_iconst dX9_setPower_43 ?_
        refine zW_istore dX9_setPower_44 (by decide) rfl rfl ?_
        by_cases he : 0 ≤ e
        · exact loop1 e.toNat 0 σ1 he (by omega) h1 m1
        · refine zW_iload dX9_setPower_46 rfl ?_
          refine zW_iload_n dX9_setPower_48 rfl ?_
          refine zW_icmp_ge (tgt := 67) dX9_setPower_49 (by decide) (by first | assumption | omega | (unfold InR; omega) | (unfold InL; omega) | (simp only [InR] at *; omega)) (by first | assumption | omega | (unfold InR; omega) | (unfold InL; omega) | (simp only [InR] at *; omega)) (fun q => ?_) (fun q => ?_)
          · refine zW_iconst dX9_setPower_67 ?_
            refine zW_istore dX9_setPower_68 (by decide) rfl rfl ?_
            exact loop2 (-e).toNat 0 σ1 (by omega) (by omega) h1 m1
          · exact absurd q (by omega)
      refine zW_astore dX9_setPower_11 (by decide) rfl rfl ?_
      refine zW_iload_n dX9_setPower_13 rfl ?_
      refine zW_bipush dX9_setPower_14 (by decide) ?_
      refine zW_icmp_lt (tgt := 25) dX9_setPower_16 (by decide) (by first | assumption | omega | (unfold InR; omega) | (unfold InL; omega) | (simp only [InR] at *; omega)) (by first | assumption | omega | (unfold InR; omega) | (unfold InL; omega) | (simp only [InR] at *; omega)) (fun q => ?_) (fun q => ?_)
      · exact bad (by omega)
      · refine zW_iload_n dX9_setPower_19 rfl ?_
        refine zW_bipush dX9_setPower_20 (by decide) ?_
        refine zW_icmp_le (tgt := 36) dX9_setPower_22 (by decide) (by first | assumption | omega | (unfold InR; omega) | (unfold InL; omega) | (simp only [InR] at *; omega)) (by first | assumption | omega | (unfold InR; omega) | (unfold InL; omega) | (simp only [InR] at *; omega)) (fun q2 => ?_) (fun q2 => ?_)
        · exact good (by omega)
        · exact bad (by omega)
    · rw [if_neg kr] at hQ
      exact hQ _ h.sn Mx.sn
  · rw [if_neg y] at hQ
    exact hQ _ h.sn Mx.sn
noncomputable def rootW (l : List Nat) : List Nat := pws (pws [] (l.take (cs l + rootL l))) (l.drop (l.length - cs l))
set_option maxRecDepth 100000 in
theorem rootL_le {l : List Nat} (h : ∃ r, RootIs l r) : rootL l ≤ crl l := by
  obtain ⟨r, hr⟩ := h
  rw [← hr.eq]
  exact hr.1
noncomputable def o_setRoot (A : AA) (p r : Int) : Out := @ite Out (inR8 p) _ (@ite Out (inR8 r) _ (@ite Out (reg A r = []) _ (2, 0, A) (0, ((rootW (reg A r)).length : Nat), aSet A p (rootW (reg A r)))) (1, 0, A)) (1, 0, A)
set_option maxRecDepth 100000 in
theorem c_setRoot {p r : Int} (h : CI σ x A) (ip : InR p) (ir : InR r) (hQ : ∀ σ', CI σ' x (o_setRoot A p r).2.2 → Mx σ σ' (xr x) → Q (rs e2 (o_setRoot A p r)) σ') : zM Γ mX9_setRoot [vR (some x), vI p, vI r] σ Q := by
  obtain ⟨z0, z1, z2, z3, z4, z5, z6, z7, z8, z9, z10, z11, z12, k1, k2, k3, k4⟩ := h.xk
  have hP := h.1.2.2.2.2.2.2.1
  refine zM_of (n := 2) (by decide +kernel) rfl rfl rfl ?_
  unfold o_setRoot at hQ
  refine zW_iload_n dX9_setRoot_0 rfl ?_
  refine zW_bipush dX9_setRoot_1 (by decide) ?_
  refine zcS2 dX9_setRoot_3 rfl eX9_checkIndex b344 ⟨by decide, by decide, by decide, by decide⟩ rfl (Nat.le_of_ble_eq_true rfl) (c_checkIndex ip (by unfold InR; omega) (fun y1 y2 => ?_) (fun y m => ?_))
  · have gr9 : inR8 p := ⟨y1, y2⟩
    rw [if_pos gr9] at hQ
    refine zW_aload_n dX9_setRoot_6 rfl ?_
    refine zW_iload_n dX9_setRoot_7 rfl ?_
    refine zcV1 dX9_setRoot_8 rfl eX9_wordOf b724 ⟨by decide, by decide, by decide, by decide⟩ rfl z0 rfl (by decide) (Nat.le_of_ble_eq_true rfl) (c_wordOf h ir (fun kr => ?_) (fun kr m => ?_))
    · rw [if_pos kr] at hQ
      have wr := h.rw kr
      have cr := wr.cap
      have tr : r.toNat < 8 := by unfold inR8 at kr; omega
      refine zW_astore_n dX9_setRoot_11 (by decide) rfl rfl ?_
      refine zW_aload_n dX9_setRoot_12 rfl ?_
      refine zcS1 dX9_setRoot_13 rfl eX9_checkNotEmpty b883 ⟨by decide, by decide, by decide, by decide⟩ rfl (Nat.le_of_ble_eq_true rfl) (c_checkNotEmpty wr (fun g2 => ?_) (fun g2 m => ?_))
      · rw [if_neg g2] at hQ
        have hcs := cs_le (reg A r)
        have hcr : crl (reg A r) = (reg A r).length - 2 * cs (reg A r) := rfl
        have kx : ∀ {σ1}, Md σ σ1 (wp (x + 505) (x + 506)) → zK σ1 x = (9, 0) ∧ zP σ1 x 11 = some (x + 505) := fun m => ⟨by rw [m.K]; exact z0, by rw [m.P]; exact z10⟩
        have qr : ∀ {σ1}, Md σ σ1 (wp (x + 505) (x + 506)) → Wd σ1 (x + 6 + 2 * r.toNat) (x + 7 + 2 * r.toNat) 60 (reg A r) := fun m => wr.md m (by unfold wp; omega) (by unfold wp; omega)
        refine zW_aload_n dX9_setRoot_16 rfl ?_
        refine zcV0 dX9_setRoot_17 rfl eX8_coreStart b838 ⟨by decide, by decide, by decide, by decide⟩ rfl wr.1.1 rfl (by decide) (Nat.le_of_ble_eq_true rfl) (w_coreStart wr ?_)
        refine zW_istore dX9_setRoot_20 (by decide) rfl rfl ?_
        refine zW_aload_n dX9_setRoot_22 rfl ?_
        refine zgP dX9_setRoot_23 fX9_69 z0 rfl z10 ?_
        refine zcV0 dX9_setRoot_26 rfl eX8_clear b802 ⟨by decide, by decide, by decide, by decide⟩ rfl hP.1 rfl (by decide) (Nat.le_of_ble_eq_true rfl) (w_clear hP (fun σ1 h1 m1 => ?_))
        obtain ⟨y0, y1⟩ := kx m1
        have w1 := qr m1
        refine zW_aload_n dX9_setRoot_29 rfl ?_
        refine zgP dX9_setRoot_30 fX9_69 y0 rfl y1 ?_
        refine zW_aload_n dX9_setRoot_33 rfl ?_
        refine zW_iconst dX9_setRoot_34 ?_
        refine zW_iload dX9_setRoot_35 rfl ?_
        refine zW_aload_n dX9_setRoot_37 rfl ?_
        refine zcV0 dX9_setRoot_38 rfl eX8_rootLength b1123 ⟨by decide, by decide, by decide, by decide⟩ rfl w1.1.1 rfl (by decide) (Nat.le_of_ble_eq_true rfl) (w_rootLength w1 (fun t ht => ?_))
        have ht1 := ht.1
        have hte := ht.eq
        refine zW_iadd dX9_setRoot_41 ?_
        have L1 := pws_len (((reg A r).take (cs (reg A r) + t)).drop 0) []
        have L0 : ([] : List Nat).length = 0 := rfl
        rw [List.length_drop, List.length_take] at L1
        refine zcV3 dX9_setRoot_42 rfl eX8_putPart b1124 ⟨by decide, by decide, by decide, by decide⟩ rfl h1.1.1 rfl (by decide) (Nat.le_of_ble_eq_true rfl) (w_putPart (from_ := 0) (end_ := cs (reg A r) + t) h1 w1 (by omega) (by omega) (by omega) (by omega) (by omega) (by omega) (by omega) (fun σ2 h2 n2 => ?_))
        have m2 := m1.tr n2 (fun _ z => z)
        obtain ⟨y0, y1⟩ := kx m2
        have w2 := qr m2
        refine zW_aload_n dX9_setRoot_45 rfl ?_
        refine zgP dX9_setRoot_46 fX9_69 y0 rfl y1 ?_
        refine zW_aload_n dX9_setRoot_49 rfl ?_
        refine zW_aload_n dX9_setRoot_50 rfl ?_
        refine zgI dX9_setRoot_51 fX9_139 w2.1.1 rfl w2.2.1 ?_
        refine zW_iload dX9_setRoot_54 rfl ?_
        refine zW_isub dX9_setRoot_56 ?_
        refine zW_aload_n dX9_setRoot_57 rfl ?_
        refine zgI dX9_setRoot_58 fX9_139 w2.1.1 rfl w2.2.1 ?_
        have e9 : ((reg A r).length : Int) - (cs (reg A r) : Nat) = (((reg A r).length - cs (reg A r) : Nat) : Int) := by omega
        rw [e9]
        have L2 := pws_len (((reg A r).take (reg A r).length).drop ((reg A r).length - cs (reg A r))) (pws [] (((reg A r).take (cs (reg A r) + t)).drop 0))
        rw [List.length_drop, List.length_take] at L2
        refine zcV3 dX9_setRoot_61 rfl eX8_putPart b1124 ⟨by decide, by decide, by decide, by decide⟩ rfl h2.1.1 rfl (by decide) (Nat.le_of_ble_eq_true rfl) (w_putPart (from_ := (reg A r).length - cs (reg A r)) (end_ := (reg A r).length) h2 w2 (by omega) (by omega) (by omega) (by omega) (by omega) (by omega) (by omega) (fun σ3 h3 n3 => ?_))
        have m3 := m2.tr n3 (fun _ z => z)
        rw [List.drop_zero, List.take_length, hte] at h3
        rw [List.drop_zero, List.take_length, hte] at L2
        have hrw : pws (pws [] ((reg A r).take (cs (reg A r) + rootL (reg A r)))) ((reg A r).drop ((reg A r).length - cs (reg A r))) = rootW (reg A r) := rfl
        rw [hrw] at h3 L2
        rw [List.drop_zero, hte] at L1
        rw [hte] at ht1
        have hC : CI σ3 x A := h.md m3 (fun a z => by unfold wp at z; unfold scr; omega)
        have mx : Mx σ σ3 (xr x) := Md.mx m3 (fun a z => by unfold wp at z; unfold xr; omega)
        obtain ⟨z0, z1, z2, z3, z4, z5, z6, z7, z8, z9, z10, z11, z12, k1, k2, k3, k4⟩ := hC.xk
        refine zW_aload_n dX9_setRoot_64 rfl ?_
        refine zW_iload_n dX9_setRoot_65 rfl ?_
        refine zcV1 dX9_setRoot_66 rfl eX9_storeProduct b1068 ⟨by decide, by decide, by decide, by decide⟩ rfl z0 rfl (by decide) (Nat.le_of_ble_eq_true rfl) (c_storeProduct hC h3 gr9 (fun hl σ9 h9 m9 => ?_) (fun hl m => absurd (by omega) hl))
        refine zW_ireturn dX9_setRoot_69 rfl rfl (by first | decide | (show _ ≤ (4 : Nat); omega)) (by first | decide | (show _ ≤ (24 : Nat); omega)) ?_
        exact hQ σ9 h9 (mx.tr m9)
      · rw [if_pos g2] at hQ
        exact hQ _ h.sn Mx.sn
    · rw [if_neg kr] at hQ
      exact hQ _ h.sn Mx.sn
  · rw [if_neg y] at hQ
    exact hQ _ h.sn Mx.sn
/-- what stands for a letter when the generator g is replaced by v -/
def sbx (g : Nat) (v : List Nat) (c : Nat) : List Nat := if c / 2 = g then (if c % 2 = 1 then invw v else v) else [c]
def sbw (g : Nat) (v l : List Nat) : List Nat := l.foldl (fun a c => pws a (sbx g v c)) []
set_option maxRecDepth 100000 in
theorem sbw_take {g : Nat} {v l : List Nat} {i : Nat} (hi : i < l.length) : sbw g v (l.take (i + 1)) = pws (sbw g v (l.take i)) (sbx g v (l.getD i 0)) := by
  have e : l.take (i + 1) = l.take i ++ [l.getD i 0] := by
    rw [List.take_add_one, List.getD_eq_getElem?_getD, List.getElem?_eq_getElem hi]
    rfl
  unfold sbw
  rw [e, List.foldl_append]
  rfl
set_option maxRecDepth 100000 in
theorem sbx_len (g : Nat) {v : List Nat} (hv : v.length ≤ 60) (c : Nat) : (sbx g v c).length ≤ 60 := by
  unfold sbx
  split
  · split
    · rw [invw_len]; exact hv
    · exact hv
  · show 1 ≤ 60; omega
set_option maxRecDepth 100000 in
theorem sbw_len (g : Nat) {v : List Nat} (hv : v.length ≤ 60) (l : List Nat) : ∀ i, i ≤ l.length → (sbw g v (l.take i)).length ≤ 60 * i := by
  intro i
  induction i with
  | zero => intro _; rw [List.take_zero]; exact Nat.le_refl _
  | succ i ih =>
    intro hi
    rw [sbw_take (by omega)]
    have h1 := pws_len (sbx g v (l.getD i 0)) (sbw g v (l.take i))
    have h2 := sbx_len g hv (l.getD i 0)
    have h3 := ih (by omega)
    omega
def o_substitute (A : AA) (p r t s : Int) : Out := if inR8 p then (if inR8 r then (if 0 ≤ t ∧ t < (sRk (aSt A) : Nat) then (if inR8 s then o_store A p (sbw t.toNat (reg A s) (reg A r)) 2 else (1, 0, A)) else (1, 0, A)) else (1, 0, A)) else (1, 0, A)
set_option maxRecDepth 100000 in
theorem c_substitute {p r t s : Int} (h : CI σ x A) (ip : InR p) (ir : InR r) (it : InR t) (is : InR s) (hr9 : sRk (aSt A) ≤ 4) (hQ : ∀ σ', CI σ' x (o_substitute A p r t s).2.2 → Mx σ σ' (xr x) → Q (rs e4 (o_substitute A p r t s)) σ') : zM Γ mX9_substitute [vR (some x), vI p, vI r, vI t, vI s] σ Q := by
  obtain ⟨z0, z1, z2, z3, z4, z5, z6, z7, z8, z9, z10, z11, z12, k1, k2, k3, k4⟩ := h.xk
  have hP := h.1.2.2.2.2.2.2.1
  have hS := h.st
  refine zM_of (n := 4) (by decide +kernel) rfl rfl rfl ?_
  unfold o_substitute o_store at hQ
  refine zW_iload_n dX9_substitute_0 rfl ?_
  refine zW_bipush dX9_substitute_1 (by decide) ?_
  refine zcS2 dX9_substitute_3 rfl eX9_checkIndex b344 ⟨by decide, by decide, by decide, by decide⟩ rfl (Nat.le_of_ble_eq_true rfl) (c_checkIndex ip (by unfold InR; omega) (fun y1 y2 => ?_) (fun y m => ?_))
  · have gr9 : inR8 p := ⟨y1, y2⟩
    rw [if_pos gr9] at hQ
    refine zW_aload_n dX9_substitute_6 rfl ?_
    refine zW_iload_n dX9_substitute_7 rfl ?_
    refine zcV1 dX9_substitute_8 rfl eX9_wordOf b724 ⟨by decide, by decide, by decide, by decide⟩ rfl z0 rfl (by decide) (Nat.le_of_ble_eq_true rfl) (c_wordOf h ir (fun kr => ?_) (fun kr m => ?_))
    · rw [if_pos kr] at hQ
      have wr := h.rw kr
      have cr := wr.cap
      have tr : r.toNat < 8 := by unfold inR8 at kr; omega
      refine zW_astore dX9_substitute_11 (by decide) rfl rfl ?_
      refine zW_iload_n dX9_substitute_13 rfl ?_
      refine zW_aload_n dX9_substitute_14 rfl ?_
      refine zgP dX9_substitute_15 fX9_16 z0 rfl z2 ?_
      refine zgI dX9_substitute_18 fX9_126 hS.1.1 rfl hS.2.1 ?_
      refine zcS2 dX9_substitute_21 rfl eX9_checkIndex b344 ⟨by decide, by decide, by decide, by decide⟩ rfl (Nat.le_of_ble_eq_true rfl) (c_checkIndex it (by unfold InR; omega) (fun g1 g2 => ?_) (fun y m => ?_))
      · rw [if_pos ⟨g1, g2⟩] at hQ
        refine zW_aload_n dX9_substitute_24 rfl ?_
        refine zW_iload dX9_substitute_25 rfl ?_
        refine zcV1 dX9_substitute_27 rfl eX9_wordOf b724 ⟨by decide, by decide, by decide, by decide⟩ rfl z0 rfl (by decide) (Nat.le_of_ble_eq_true rfl) (c_wordOf h is (fun ks => ?_) (fun ks m => ?_))
        · rw [if_pos ks] at hQ
          have ws := h.rw ks
          have cs9 := ws.cap
          have ts : s.toNat < 8 := by unfold inR8 at ks; omega
          have kx : ∀ {σ1}, Md σ σ1 (wp (x + 505) (x + 506)) → zK σ1 x = (9, 0) ∧ zP σ1 x 11 = some (x + 505) := fun m => ⟨by rw [m.K]; exact z0, by rw [m.P]; exact z10⟩
          have qr : ∀ {σ1}, Md σ σ1 (wp (x + 505) (x + 506)) → Wd σ1 (x + 6 + 2 * r.toNat) (x + 7 + 2 * r.toNat) 60 (reg A r) := fun m => wr.md m (by unfold wp; omega) (by unfold wp; omega)
          have qs : ∀ {σ1}, Md σ σ1 (wp (x + 505) (x + 506)) → Wd σ1 (x + 6 + 2 * s.toNat) (x + 7 + 2 * s.toNat) 60 (reg A s) := fun m => ws.md m (by unfold wp; omega) (by unfold wp; omega)
          have loop : ∀ n i σ1 z, i + n = (reg A r).length → Wd σ1 (x + 505) (x + 506) 3600 (sbw t.toNat (reg A s) ((reg A r).take i)) → Md σ σ1 (wp (x + 505) (x + 506)) → zW Γ mX9_substitute 42 [some (vR (some x)), some (vI p), some (vI r), some (vI t), some (vI s), some (vR (some (x + 6 + 2 * r.toNat))), some (vR (some (x + 6 + 2 * s.toNat))), some (vI i), z] [] σ1 4 24 Q := by
            intro n
            induction n with
            | zero =>
              intro i σ1 z hi h1 m1
              have w1 := qr m1
              rw [List.take_of_length_le (by omega)] at h1
              refine zW_iload dX9_substitute_42 rfl ?_
              refine zW_aload dX9_substitute_44 rfl ?_
              refine zgI dX9_substitute_46 fX9_139 w1.1.1 rfl w1.2.1 ?_
              refine zW_icmp_ge (tgt := 117) dX9_substitute_49 (by decide) (by first | assumption | omega | (unfold InR; omega) | (unfold InL; omega) | (simp only [InR] at *; omega)) (by first | assumption | omega | (unfold InR; omega) | (unfold InL; omega) | (simp only [InR] at *; omega)) (fun q => ?_) (fun q => ?_)
              · have hC : CI σ1 x A := h.md m1 (fun a z => by unfold wp at z; unfold scr; omega)
                have mx : Mx σ σ1 (xr x) := Md.mx m1 (fun a z => by unfold wp at z; unfold xr; omega)
                obtain ⟨z0, z1, z2, z3, z4, z5, z6, z7, z8, z9, z10, z11, z12, k1, k2, k3, k4⟩ := hC.xk
                refine zW_aload_n dX9_substitute_117 rfl ?_
                refine zW_iload_n dX9_substitute_118 rfl ?_
                refine zcV1 dX9_substitute_119 rfl eX9_storeProduct b1068 ⟨by decide, by decide, by decide, by decide⟩ rfl z0 rfl (by decide) (Nat.le_of_ble_eq_true rfl) (c_storeProduct hC h1 gr9 (fun hl σ9 h9 m9 => ?_) (fun hl m => ?_))
                · rw [if_pos hl] at hQ
                  refine zW_ireturn dX9_substitute_122 rfl rfl (by first | decide | (show _ ≤ (5 : Nat); omega)) (by first | decide | (show _ ≤ (30 : Nat); omega)) ?_
                  exact hQ σ9 h9 (mx.tr m9)
                · rw [if_neg hl] at hQ
                  exact hQ _ hC.sn (mx.tr Mx.sn)
              · exact absurd q (by omega)
            | succ n ih =>
              intro i σ1 z hi h1 m1
              obtain ⟨y0, y1⟩ := kx m1
              have w1 := qr m1
              have v1 := qs m1
              have c1 := h1.cap
              have L := sbw_len t.toNat cs9 (reg A r) i (by omega)
              have hx := getD_lt wr.lt (i := i) (by omega)
              have nxt : ∀ σ2 z2, Wd σ2 (x + 505) (x + 506) 3600 (pws (sbw t.toNat (reg A s) ((reg A r).take i)) (sbx t.toNat (reg A s) ((reg A r).getD i 0))) → Md σ1 σ2 (wp (x + 505) (x + 506)) → zW Γ mX9_substitute 111 [some (vR (some x)), some (vI p), some (vI r), some (vI t), some (vI s), some (vR (some (x + 6 + 2 * r.toNat))), some (vR (some (x + 6 + 2 * s.toNat))), some (vI i), z2] [] σ2 4 24 Q := by
                intro σ2 z2 h2 n2
                refine zW_iinc dX9_substitute_111 rfl (by decide) rfl rfl ?_
                refine zW_goto (tgt := 42) dX9_substitute_114 (by decide) ?_
                exact ih (i + 1) σ2 _ (by omega) (by rw [sbw_take (by omega)]; exact h2) (m1.tr n2 (fun _ z => z))
              refine zW_iload dX9_substitute_42 rfl ?_
              refine zW_aload dX9_substitute_44 rfl ?_
              refine zgI dX9_substitute_46 fX9_139 w1.1.1 rfl w1.2.1 ?_
              refine zW_icmp_ge (tgt := 117) dX9_substitute_49 (by decide) (by first | assumption | omega | (unfold InR; omega) | (unfold InL; omega) | (simp only [InR] at *; omega)) (by first | assumption | omega | (unfold InR; omega) | (unfold InL; omega) | (simp only [InR] at *; omega)) (fun q => ?_) (fun q => ?_)
              · exact absurd q (by omega)
              · refine zW_aload dX9_substitute_52 rfl ?_
                refine zgP dX9_substitute_54 fX9_146 w1.1.1 rfl w1.1.2.1 ?_
                refine zW_iload dX9_substitute_57 rfl ?_
                refine zrI dX9_substitute_59 w1.1.2.2.1 (by first | assumption | omega | (unfold InR; omega) | (unfold InL; omega) | (simp only [InR] at *; omega)) (by first | assumption | omega | (unfold InR; omega) | (unfold InL; omega) | (simp only [InR] at *; omega)) (by first | assumption | omega | (unfold InR; omega) | (unfold InL; omega) | (simp only [InR] at *; omega)) (w1.2.2.2.1 i (by omega)) ?_
                refine zW_istore dX9_substitute_60 (by decide) rfl rfl ?_
                refine zW_iload dX9_substitute_62 rfl ?_
                refine zW_iconst dX9_substitute_64 ?_
                refine zW_idiv dX9_substitute_65 (by first | assumption | omega | (unfold InR; omega) | (unfold InL; omega) | (simp only [InR] at *; omega)) (by first | assumption | omega | (unfold InR; omega) | (unfold InL; omega) | (simp only [InR] at *; omega)) (by first | assumption | omega | (unfold InR; omega) | (unfold InL; omega) | (simp only [InR] at *; omega)) (by first | assumption | omega | (unfold InR; omega) | (unfold InL; omega) | (simp only [InR] at *; omega)) ?_
                refine zW_iload_n dX9_substitute_66 rfl ?_
                refine zW_icmp_eq (tgt := 82) dX9_substitute_67 (by decide) (by first | assumption | omega | (unfold InR; omega) | (unfold InL; omega) | (simp only [InR] at *; omega)) (by first | assumption | omega | (unfold InR; omega) | (unfold InL; omega) | (simp only [InR] at *; omega)) (fun q2 => ?_) (fun q2 => ?_)
                · refine zW_iload dX9_substitute_82 rfl ?_
                  refine zcS1 dX9_substitute_84 rfl eX9_isInverse b738 ⟨by decide, by decide, by decide, by decide⟩ rfl (Nat.le_of_ble_eq_true rfl) (x_isInverse (by omega) ?_)
                  refine zW_if_eq (tgt := 102) dX9_substitute_87 (by decide) (by first | assumption | omega | (unfold InR; omega) | (unfold InL; omega) | (simp only [InR] at *; omega)) (fun q3 => ?_) (fun q3 => ?_)
                  · refine zW_aload_n dX9_substitute_102 rfl ?_
                    refine zgP dX9_substitute_103 fX9_69 y0 rfl y1 ?_
                    refine zW_aload dX9_substitute_106 rfl ?_
                    refine zcV1 dX9_substitute_108 rfl eX8_putWord b808 ⟨by decide, by decide, by decide, by decide⟩ rfl h1.1.1 rfl (by decide) (Nat.le_of_ble_eq_true rfl) (w_putWord h1 v1 (by omega) (by omega) (by omega) (by omega) (by omega) (fun σ2 h2 n2 => ?_))
                    refine nxt σ2 _ ?_ n2
                    unfold sbx
                    rw [if_pos (by omega), if_neg (by omega)]
                    exact h2
                  · refine zW_aload_n dX9_substitute_90 rfl ?_
                    refine zgP dX9_substitute_91 fX9_69 y0 rfl y1 ?_
                    refine zW_aload dX9_substitute_94 rfl ?_
                    refine zcV1 dX9_substitute_96 rfl eX8_putInverse b803 ⟨by decide, by decide, by decide, by decide⟩ rfl h1.1.1 rfl (by decide) (Nat.le_of_ble_eq_true rfl) (w_putInverse h1 v1 (by omega) (by omega) (by omega) (by omega) (by omega) (fun σ2 h2 n2 => ?_))
                    refine zW_goto (tgt := 111) dX9_substitute_99 (by decide) ?_
                    refine nxt σ2 _ ?_ n2
                    unfold sbx
                    rw [if_pos (by omega), if_pos (by omega)]
                    exact h2
                · refine zW_aload_n dX9_substitute_70 rfl ?_
                  refine zgP dX9_substitute_71 fX9_69 y0 rfl y1 ?_
                  refine zW_iload dX9_substitute_74 rfl ?_
                  refine zcV1 dX9_substitute_76 rfl eX8_put b1067 ⟨by decide, by decide, by decide, by decide⟩ rfl h1.1.1 rfl (by decide) (Nat.le_of_ble_eq_true rfl) (w_put h1 hx (by omega) (fun σ2 h2 n2 => ?_))
                  refine zW_goto (tgt := 111) dX9_substitute_79 (by decide) ?_
                  refine nxt σ2 _ ?_ n2
                  unfold sbx
                  rw [if_neg (by omega)]
                  exact h2
          refine zW_astore dX9_substitute_30 (by decide) rfl rfl ?_
          refine zW_aload_n dX9_substitute_32 rfl ?_
          refine zgP dX9_substitute_33 fX9_69 z0 rfl z10 ?_
          refine zcV0 dX9_substitute_36 rfl eX8_clear b802 ⟨by decide, by decide, by decide, by decide⟩ rfl hP.1 rfl (by decide) (Nat.le_of_ble_eq_true rfl) (w_clear hP (fun σ1 h1 m1 => ?_))
          refine zW_iconst dX9_substitute_39 ?_
          refine zW_istore dX9_substitute_40 (by decide) rfl rfl ?_
          exact loop (reg A r).length 0 σ1 none (by omega) h1 m1
        · rw [if_neg ks] at hQ
          exact hQ _ h.sn Mx.sn
      · rw [if_neg y] at hQ
        exact hQ _ h.sn Mx.sn
    · rw [if_neg kr] at hQ
      exact hQ _ h.sn Mx.sn
  · rw [if_neg y] at hQ
    exact hQ _ h.sn Mx.sn
def aHist (A : AA) : List ST := (aSt A :: aHi A).take 8
set_option maxRecDepth 100000 in
/-- the registers, subgroups and the kept edits may have changed -/
theorem CJ.both {st : ST} {hi : List ST} (h : CJ σ x A) (m : Md σ σ' P) (hp9 : ∀ a, P a → hp (x + 90) a ∨ sp (x + 2) a) (H : HD σ' (x + 90) hi) (S : SD σ' (x + 2) st) : CJ σ' x (aWith A st hi) := by
  obtain ⟨a1, a2, a3, a4, a5, a6, a7, a8, a9⟩ := h
  have no : ∀ a, (a < x + 2 ∨ (x + 46 ≤ a ∧ a < x + 90) ∨ x + 444 ≤ a) → ¬ P a := fun a z z' => by have := hp9 a z'; unfold hp sp at this; omega
  refine ⟨a1.md m, a2.md m (no _ (by omega)) (no _ (by omega)), S, a4.md m (no _ (by omega)) (fun a z => no a (by unfold sp at z; omega)), H, ?_, a7.md m (no _ (by omega)) (no _ (by omega)), a8.md m (no _ (by omega)) (no _ (by omega)), fun g hg => ?_⟩
  · rw [m.o (no _ (by omega))]; exact a6
  · rw [m.i (no _ (by omega))]; exact a9 g hg
def hps (x : Nat) : Nat → Prop := fun a => hp (x + 90) a ∨ sp (x + 2) a
set_option maxRecDepth 100000 in
theorem hps_xr {a : Nat} (h : hps x a) : xr x a := by
  unfold hps hp sp at h
  unfold xr
  omega
set_option maxRecDepth 100000 in
theorem mk3_xr {a : Nat} (h : mk3 x a) : xr x a := by
  unfold mk3 at h
  unfold xr
  omega
def o_addGeneratingWord (A : AA) (g r : Int) : Out := if 0 ≤ g ∧ g < 2 then (if inR8 r then (if (sGw (aSt A) g.toNat).length < 6 then (0, ((sGw (aSt A) g.toNat).length + 1 : Nat), aGen A g (sGw (aSt A) g.toNat ++ [reg A r])) else (2, 0, A)) else (1, 0, A)) else (1, 0, A)
set_option maxRecDepth 100000 in
theorem c_addGeneratingWord {g r : Int} (h : CI σ x A) (ig : InR g) (ir : InR r) (hQ : ∀ σ', CI σ' x (o_addGeneratingWord A g r).2.2 → Mx σ σ' (xr x) → Q (rs e4 (o_addGeneratingWord A g r)) σ') : zM Γ mX9_addGeneratingWord [vR (some x), vI g, vI r] σ Q := by
  obtain ⟨z0, z1, z2, z3, z4, z5, z6, z7, z8, z9, z10, z11, z12, k1, k2, k3, k4⟩ := h.xk
  have hS := h.st
  have hH := h.2.2.2.2.1
  obtain ⟨s0, s1, s2, s3, s4, s5, s6, s7, s8, s9⟩ := id hS.1
  refine zM_of (n := 1) (by decide +kernel) rfl rfl rfl ?_
  unfold o_addGeneratingWord at hQ
  refine zW_iload_n dX9_addGeneratingWord_0 rfl ?_
  refine zW_iconst dX9_addGeneratingWord_1 ?_
  refine zcS2 dX9_addGeneratingWord_2 rfl eX9_checkIndex b344 ⟨by decide, by decide, by decide, by decide⟩ rfl (Nat.le_of_ble_eq_true rfl) (c_checkIndex ig (by unfold InR; omega) (fun y1 y2 => ?_) (fun y m => ?_))
  · rw [if_pos ⟨y1, y2⟩] at hQ
    have hg2 : g.toNat < 2 := by omega
    have hcn := (hS.2.2.2 g.toNat hg2).1
    have hgn := hS.gn hg2
    refine zW_aload_n dX9_addGeneratingWord_5 rfl ?_
    refine zW_iload_n dX9_addGeneratingWord_6 rfl ?_
    refine zcV1 dX9_addGeneratingWord_7 rfl eX9_wordOf b724 ⟨by decide, by decide, by decide, by decide⟩ rfl z0 rfl (by decide) (Nat.le_of_ble_eq_true rfl) (c_wordOf h ir (fun kr => ?_) (fun kr m => ?_))
    · rw [if_pos kr] at hQ
      have wr := h.rw kr
      have cr := wr.cap
      have tr : r.toNat < 8 := by unfold inR8 at kr; omega
      have eg : g = ((g.toNat : Nat) : Int) := by omega
      refine zW_astore_n dX9_addGeneratingWord_10 (by decide) rfl rfl ?_
      refine zW_aload_n dX9_addGeneratingWord_11 rfl ?_
      refine zgP dX9_addGeneratingWord_12 fX9_16 z0 rfl z2 ?_
      refine zgP dX9_addGeneratingWord_15 fX9_206 s0 rfl s3 ?_
      refine zW_iload_n dX9_addGeneratingWord_18 rfl ?_
      refine zrI dX9_addGeneratingWord_19 s6 (by first | assumption | omega | (unfold InR; omega) | (unfold InL; omega) | (simp only [InR] at *; omega)) (by first | assumption | omega | (unfold InR; omega) | (unfold InL; omega) | (simp only [InR] at *; omega)) (by first | assumption | omega | (unfold InR; omega) | (unfold InL; omega) | (simp only [InR] at *; omega)) hcn ?_
      refine zW_bipush dX9_addGeneratingWord_20 (by decide) ?_
      refine zW_icmp_lt (tgt := 36) dX9_addGeneratingWord_22 (by decide) (by first | assumption | omega | (unfold InR; omega) | (unfold InL; omega) | (simp only [InR] at *; omega)) (by first | assumption | omega | (unfold InR; omega) | (unfold InL; omega) | (simp only [InR] at *; omega)) (fun q => ?_) (fun q => ?_)
      · rw [if_pos (by omega)] at hQ
        refine zW_aload_n dX9_addGeneratingWord_36 rfl ?_
        refine zgP dX9_addGeneratingWord_37 fX9_26 z0 rfl z4 ?_
        refine zW_aload_n dX9_addGeneratingWord_40 rfl ?_
        refine zgP dX9_addGeneratingWord_41 fX9_16 z0 rfl z2 ?_
        refine zcV1 dX9_addGeneratingWord_44 rfl eX3_record b1073 ⟨by decide, by decide, by decide, by decide⟩ rfl hH.1.1 rfl (by decide) (Nat.le_of_ble_eq_true rfl) (h_record hH hS (by omega) (fun σ1 H1 m1 => ?_))
        have hj1 := h.cj.hist m1 H1
        have S1 : SD σ1 (x + 2) (aSt A) := hj1.2.2.1
        obtain ⟨z0, z1, z2, z3, z4, z5, z6, z7, z8, z9, z10, z11, z12, k1, k2, k3, k4⟩ := id hj1.1.1
        have w1 : Wd σ1 (x + 6 + 2 * r.toNat) (x + 7 + 2 * r.toNat) 60 (reg A r) := wr.md m1 (by unfold hp; omega) (by unfold hp; omega)
        have ha : ∀ R, (∀ σ', SD σ' (x + 2) (sSet (aSt A) g.toNat (sGw (aSt A) g.toNat ++ [reg A r])) → Md σ1 σ' (sp (x + 2)) → R (.inl none) σ') → zM Γ mX7_addWord [vR (some (x + 2)), vI g, vR (some (x + 6 + 2 * r.toNat))] σ1 R := fun R hR => by
          have := st_addWord (Γ := Γ) (Q := R) S1 hg2 w1 cr (by omega) (fun k _ _ => by omega) hR
          rw [← eg] at this
          exact this
        refine zW_aload_n dX9_addGeneratingWord_47 rfl ?_
        refine zgP dX9_addGeneratingWord_48 fX9_16 z0 rfl z2 ?_
        refine zW_iload_n dX9_addGeneratingWord_51 rfl ?_
        refine zW_aload_n dX9_addGeneratingWord_52 rfl ?_
        refine zcV2 dX9_addGeneratingWord_53 rfl eX7_addWord b1140 ⟨by decide, by decide, by decide, by decide⟩ rfl S1.1.1 rfl (by decide) (Nat.le_of_ble_eq_true rfl) (ha _ (fun σ2 S2 m2 => ?_))
        have hj2 := hj1.state m2 S2
        obtain ⟨z0, z1, z2, z3, z4, z5, z6, z7, z8, z9, z10, z11, z12, k1, k2, k3, k4⟩ := id hj2.1.1
        refine zW_aload_n dX9_addGeneratingWord_56 rfl ?_
        refine zcV0 dX9_addGeneratingWord_57 rfl eX9_markGraphsStale b712 ⟨by decide, by decide, by decide, by decide⟩ rfl z0 rfl (by decide) (Nat.le_of_ble_eq_true rfl) (c_markGraphsStale (A := aGen A g (sGw (aSt A) g.toNat ++ [reg A r])) hj2 (fun σ3 h3 m3 => ?_))
        obtain ⟨z0, z1, z2, z3, z4, z5, z6, z7, z8, z9, z10, z11, z12, k1, k2, k3, k4⟩ := h3.xk
        have hS3 := h3.st
        have hcn3 : zI σ3 (x + 2 + 3) g.toNat = (((sGw (aSt A) g.toNat).length + 1 : Nat) : Int) := by
          have := (hS3.2.2.2 g.toNat hg2).1
          rw [this]
          show (((if g.toNat = g.toNat then sGw (aSt A) g.toNat ++ [reg A r] else _ : List (List Nat)).length : Nat) : Int) = _
          rw [if_pos rfl, List.length_append]
          rfl
        refine zW_aload_n dX9_addGeneratingWord_60 rfl ?_
        refine zgP dX9_addGeneratingWord_61 fX9_16 z0 rfl z2 ?_
        refine zgP dX9_addGeneratingWord_64 fX9_206 hS3.1.1 rfl hS3.1.2.2.2.1 ?_
        refine zW_iload_n dX9_addGeneratingWord_67 rfl ?_
        refine zrI dX9_addGeneratingWord_68 hS3.1.2.2.2.2.2.2.1 (by first | assumption | omega | (unfold InR; omega) | (unfold InL; omega) | (simp only [InR] at *; omega)) (by first | assumption | omega | (unfold InR; omega) | (unfold InL; omega) | (simp only [InR] at *; omega)) (by first | assumption | omega | (unfold InR; omega) | (unfold InL; omega) | (simp only [InR] at *; omega)) hcn3 ?_
        refine zW_ireturn dX9_addGeneratingWord_69 rfl rfl (by first | decide | (show _ ≤ (3 : Nat); omega)) (by first | decide | (show _ ≤ (18 : Nat); omega)) ?_
        refine hQ σ3 h3 (((m1.mx (fun a z => hps_xr (Or.inl z))).tr (m2.mx (fun a z => hps_xr (Or.inr z)))).tr (m3.mx (fun a z => mk3_xr z)))
      · rw [if_neg (by omega)] at hQ
        refine zW_throwW (k := 13) zTok_0 (by decide) rfl rfl rfl dX9_addGeneratingWord_25 dX9_addGeneratingWord_28 dX9_addGeneratingWord_29 dX9_addGeneratingWord_32 dX9_addGeneratingWord_35 (by decide) (Nat.le_of_ble_eq_true rfl) (by decide) (by decide) (fun m => ?_)
        exact hQ _ h.sn Mx.sn
    · rw [if_neg kr] at hQ
      exact hQ _ h.sn Mx.sn
  · rw [if_neg y] at hQ
    exact hQ _ h.sn Mx.sn
def o_removeGeneratingWord (A : AA) (g k : Int) : Out := if 0 ≤ g ∧ g < 2 then (if 0 ≤ k ∧ k < ((sGw (aSt A) g.toNat).length : Nat) then (0, ((sGw (aSt A) g.toNat).length - 1 : Nat), aGen A g ((sGw (aSt A) g.toNat).eraseIdx k.toNat)) else (1, 0, A)) else (1, 0, A)
set_option maxRecDepth 100000 in
theorem c_removeGeneratingWord {g k : Int} (h : CI σ x A) (ig : InR g) (ik : InR k) (hQ : ∀ σ', CI σ' x (o_removeGeneratingWord A g k).2.2 → Mx σ σ' (xr x) → Q (rs e1 (o_removeGeneratingWord A g k)) σ') : zM Γ mX9_removeGeneratingWord [vR (some x), vI g, vI k] σ Q := by
  obtain ⟨z0, z1, z2, z3, z4, z5, z6, z7, z8, z9, z10, z11, z12, k1, k2, k3, k4⟩ := h.xk
  have hS := h.st
  have hH := h.2.2.2.2.1
  obtain ⟨s0, s1, s2, s3, s4, s5, s6, s7, s8, s9⟩ := id hS.1
  refine zM_of (n := 0) (by decide +kernel) rfl rfl rfl ?_
  unfold o_removeGeneratingWord at hQ
  refine zW_iload_n dX9_removeGeneratingWord_0 rfl ?_
  refine zW_iconst dX9_removeGeneratingWord_1 ?_
  refine zcS2 dX9_removeGeneratingWord_2 rfl eX9_checkIndex b344 ⟨by decide, by decide, by decide, by decide⟩ rfl (Nat.le_of_ble_eq_true rfl) (c_checkIndex ig (by unfold InR; omega) (fun y1 y2 => ?_) (fun y m => ?_))
  · rw [if_pos ⟨y1, y2⟩] at hQ
    have hg2 : g.toNat < 2 := by omega
    have hcn := (hS.2.2.2 g.toNat hg2).1
    have hgn := hS.gn hg2
    refine zW_iload_n dX9_removeGeneratingWord_5 rfl ?_
    refine zW_aload_n dX9_removeGeneratingWord_6 rfl ?_
    refine zgP dX9_removeGeneratingWord_7 fX9_16 z0 rfl z2 ?_
    refine zgP dX9_removeGeneratingWord_10 fX9_206 s0 rfl s3 ?_
    refine zW_iload_n dX9_removeGeneratingWord_13 rfl ?_
    refine zrI dX9_removeGeneratingWord_14 s6 (by first | assumption | omega | (unfold InR; omega) | (unfold InL; omega) | (simp only [InR] at *; omega)) (by first | assumption | omega | (unfold InR; omega) | (unfold InL; omega) | (simp only [InR] at *; omega)) (by first | assumption | omega | (unfold InR; omega) | (unfold InL; omega) | (simp only [InR] at *; omega)) hcn ?_
    refine zcS2 dX9_removeGeneratingWord_15 rfl eX9_checkIndex b344 ⟨by decide, by decide, by decide, by decide⟩ rfl (Nat.le_of_ble_eq_true rfl) (c_checkIndex ik (by unfold InR; omega) (fun g1 g2 => ?_) (fun y m => ?_))
    · rw [if_pos ⟨g1, g2⟩] at hQ
      have eg : g = ((g.toNat : Nat) : Int) := by omega
      have ek : k = ((k.toNat : Nat) : Int) := by omega
      refine zW_aload_n dX9_removeGeneratingWord_18 rfl ?_
      refine zgP dX9_removeGeneratingWord_19 fX9_26 z0 rfl z4 ?_
      refine zW_aload_n dX9_removeGeneratingWord_22 rfl ?_
      refine zgP dX9_removeGeneratingWord_23 fX9_16 z0 rfl z2 ?_
      refine zcV1 dX9_removeGeneratingWord_26 rfl eX3_record b1073 ⟨by decide, by decide, by decide, by decide⟩ rfl hH.1.1 rfl (by decide) (Nat.le_of_ble_eq_true rfl) (h_record hH hS (by omega) (fun σ1 H1 m1 => ?_))
      have hj1 := h.cj.hist m1 H1
      have S1 : SD σ1 (x + 2) (aSt A) := hj1.2.2.1
      obtain ⟨z0, z1, z2, z3, z4, z5, z6, z7, z8, z9, z10, z11, z12, k1, k2, k3, k4⟩ := id hj1.1.1
      have ha : ∀ R, (∀ σ', SD σ' (x + 2) (sSet (aSt A) g.toNat ((sGw (aSt A) g.toNat).eraseIdx k.toNat)) → Md σ1 σ' (sp (x + 2)) → R (.inl none) σ') → zM Γ mX7_removeWord [vR (some (x + 2)), vI g, vI k] σ1 R := fun R hR => by
        have := st_removeWord (Γ := Γ) (Q := R) S1 hg2 (k := k.toNat) (by omega) hR
        rw [← eg, ← ek] at this
        exact this
      refine zW_aload_n dX9_removeGeneratingWord_29 rfl ?_
      refine zgP dX9_removeGeneratingWord_30 fX9_16 z0 rfl z2 ?_
      refine zW_iload_n dX9_removeGeneratingWord_33 rfl ?_
      refine zW_iload_n dX9_removeGeneratingWord_34 rfl ?_
      refine zcV2 dX9_removeGeneratingWord_35 rfl eX7_removeWord b1148 ⟨by decide, by decide, by decide, by decide⟩ rfl S1.1.1 rfl (by decide) (Nat.le_of_ble_eq_true rfl) (ha _ (fun σ2 S2 m2 => ?_))
      have hj2 := hj1.state m2 S2
      obtain ⟨z0, z1, z2, z3, z4, z5, z6, z7, z8, z9, z10, z11, z12, k1, k2, k3, k4⟩ := id hj2.1.1
      refine zW_aload_n dX9_removeGeneratingWord_38 rfl ?_
      refine zcV0 dX9_removeGeneratingWord_39 rfl eX9_markGraphsStale b712 ⟨by decide, by decide, by decide, by decide⟩ rfl z0 rfl (by decide) (Nat.le_of_ble_eq_true rfl) (c_markGraphsStale (A := aGen A g ((sGw (aSt A) g.toNat).eraseIdx k.toNat)) hj2 (fun σ3 h3 m3 => ?_))
      obtain ⟨z0, z1, z2, z3, z4, z5, z6, z7, z8, z9, z10, z11, z12, k1, k2, k3, k4⟩ := h3.xk
      have hS3 := h3.st
      have hcn3 : zI σ3 (x + 2 + 3) g.toNat = (((sGw (aSt A) g.toNat).length - 1 : Nat) : Int) := by
        have := (hS3.2.2.2 g.toNat hg2).1
        rw [this]
        show (((if g.toNat = g.toNat then (sGw (aSt A) g.toNat).eraseIdx k.toNat else _ : List (List Nat)).length : Nat) : Int) = _
        rw [if_pos rfl, List.length_eraseIdx_of_lt (by omega)]
      refine zW_aload_n dX9_removeGeneratingWord_42 rfl ?_
      refine zgP dX9_removeGeneratingWord_43 fX9_16 z0 rfl z2 ?_
      refine zgP dX9_removeGeneratingWord_46 fX9_206 hS3.1.1 rfl hS3.1.2.2.2.1 ?_
      refine zW_iload_n dX9_removeGeneratingWord_49 rfl ?_
      refine zrI dX9_removeGeneratingWord_50 hS3.1.2.2.2.2.2.2.1 (by first | assumption | omega | (unfold InR; omega) | (unfold InL; omega) | (simp only [InR] at *; omega)) (by first | assumption | omega | (unfold InR; omega) | (unfold InL; omega) | (simp only [InR] at *; omega)) (by first | assumption | omega | (unfold InR; omega) | (unfold InL; omega) | (simp only [InR] at *; omega)) hcn3 ?_
      refine zW_ireturn dX9_removeGeneratingWord_51 rfl rfl (by first | decide | (show _ ≤ (2 : Nat); omega)) (by first | decide | (show _ ≤ (12 : Nat); omega)) ?_
      refine hQ σ3 h3 (((m1.mx (fun a z => hps_xr (Or.inl z))).tr (m2.mx (fun a z => hps_xr (Or.inr z)))).tr (m3.mx (fun a z => mk3_xr z)))
    · rw [if_neg y] at hQ
      exact hQ _ h.sn Mx.sn
  · rw [if_neg y] at hQ
    exact hQ _ h.sn Mx.sn
def e6 : Nat → String := fun _ => eS
def o_undo (A : AA) : Out := match aHi A with
  | [] => (1, 0, A)
  | y :: hi => (0, (hi.length : Nat), aWith A y hi)
set_option maxRecDepth 100000 in
theorem c_undo (h : CI σ x A) (hQ : ∀ σ', CI σ' x (o_undo A).2.2 → Mx σ σ' (xr x) → Q (rs e6 (o_undo A)) σ') : zM Γ mX9_undo [vR (some x)] σ Q := by
  obtain ⟨z0, z1, z2, z3, z4, z5, z6, z7, z8, z9, z10, z11, z12, k1, k2, k3, k4⟩ := h.xk
  have hS := h.st
  have hH := h.2.2.2.2.1
  refine zM_of (n := 0) (by decide +kernel) rfl rfl rfl ?_
  have hhl := hH.2.1
  unfold o_undo at hQ
  refine zW_aload_n dX9_undo_0 rfl ?_
  refine zgP dX9_undo_1 fX9_26 z0 rfl z4 ?_
  refine zgI dX9_undo_4 fX9_300 hH.1.1 rfl hH.2.2.1 ?_
  cases hA : aHi A with
  | nil =>
    rw [hA] at hQ
    have hl0 : ([] : List ST).length = 0 := rfl
    refine zW_if_ne (tgt := 21) dX9_undo_7 (by decide) (by first | assumption | omega | (unfold InR; omega) | (unfold InL; omega) | (simp only [InR] at *; omega)) (fun q => ?_) (fun q => ?_)
    · exact absurd rfl q
    · refine zW_throwW (k := 14) zTok_0 (by decide) rfl rfl rfl dX9_undo_10 dX9_undo_13 dX9_undo_14 dX9_undo_17 dX9_undo_20 (by decide) (Nat.le_of_ble_eq_true rfl) (by decide) (by decide) (fun m => ?_)
      exact hQ _ h.sn Mx.sn
  | cons y hi =>
    rw [hA] at hQ hH hhl
    have hl : (y :: hi).length = hi.length + 1 := rfl
    refine zW_if_ne (tgt := 21) dX9_undo_7 (by decide) (by first | assumption | omega | (unfold InR; omega) | (unfold InL; omega) | (simp only [InR] at *; omega)) (fun q => ?_) (fun q => ?_)
    · refine zW_aload_n dX9_undo_21 rfl ?_
      refine zgP dX9_undo_22 fX9_26 z0 rfl z4 ?_
      refine zW_aload_n dX9_undo_25 rfl ?_
      refine zgP dX9_undo_26 fX9_16 z0 rfl z2 ?_
      refine zcV1 dX9_undo_29 rfl eX3_takeBack b1160 ⟨by decide, by decide, by decide, by decide⟩ rfl hH.1.1 rfl (by decide) (Nat.le_of_ble_eq_true rfl) (h_takeBack hH hS (by omega) (fun σ1 H1 S1 m1 => ?_))
      have hj := h.cj.both m1 (fun a z => z.elim (fun z => Or.inl (by rw [z]; unfold hp; omega)) Or.inr) H1 S1
      obtain ⟨z0, z1, z2, z3, z4, z5, z6, z7, z8, z9, z10, z11, z12, k1, k2, k3, k4⟩ := id hj.1.1
      refine zW_aload_n dX9_undo_32 rfl ?_
      refine zcV0 dX9_undo_33 rfl eX9_markGraphsStale b712 ⟨by decide, by decide, by decide, by decide⟩ rfl z0 rfl (by decide) (Nat.le_of_ble_eq_true rfl) (c_markGraphsStale hj (fun σ3 h3 m3 => ?_))
      obtain ⟨z0, z1, z2, z3, z4, z5, z6, z7, z8, z9, z10, z11, z12, k1, k2, k3, k4⟩ := h3.xk
      have hH3 := h3.2.2.2.2.1
      refine zW_aload_n dX9_undo_36 rfl ?_
      refine zgP dX9_undo_37 fX9_26 z0 rfl z4 ?_
      refine zgI dX9_undo_40 fX9_300 hH3.1.1 rfl hH3.2.2.1 ?_
      refine zW_ireturn dX9_undo_43 rfl rfl (by first | decide | (show _ ≤ (1 : Nat); omega)) (by first | decide | (show _ ≤ (6 : Nat); omega)) ?_
      refine hQ σ3 h3 ((m1.mx (fun a z => ?_)).tr (m3.mx (fun a z => mk3_xr z)))
      unfold sp at z
      unfold xr
      omega
    · exact absurd q (by omega)
def sumR (t : ST) : Nat := ((List.range 8).map (fun r => (sRg t r).length)).sum
def o_save (A : AA) : Out := (0, (sumR (aSt A) : Nat), aWsv A (some (aSt A)))
set_option maxRecDepth 100000 in
theorem c_save (h : CI σ x A) (hQ : ∀ σ', CI σ' x (o_save A).2.2 → Mx σ σ' (xr x) → Q (rs e6 (o_save A)) σ') : zM Γ mX9_save [vR (some x)] σ Q := by
  obtain ⟨z0, z1, z2, z3, z4, z5, z6, z7, z8, z9, z10, z11, z12, k1, k2, k3, k4⟩ := h.xk
  have hS := h.st
  have hV := h.1.2.1
  refine zM_of (n := 0) (by decide +kernel) rfl rfl rfl ?_
  unfold o_save at hQ
  refine zW_aload_n dX9_save_0 rfl ?_
  refine zgP dX9_save_1 fX9_20 z0 rfl z3 ?_
  refine zW_aload_n dX9_save_4 rfl ?_
  refine zgP dX9_save_5 fX9_16 z0 rfl z2 ?_
  refine zcV1 dX9_save_8 rfl eX7_copyFrom b500 ⟨by decide, by decide, by decide, by decide⟩ rfl hV.1 rfl (by decide) (Nat.le_of_ble_eq_true rfl) (st_copyFrom hV hS (by omega) (fun σ1 S1 m1 => ?_))
  have y0 : zK σ1 x = (9, 0) := by rw [m1.K]; exact z0
  refine zW_aload_n dX9_save_11 rfl ?_
  refine zW_iconst dX9_save_12 ?_
  refine zpI dX9_save_13 fX9_119 y0 rfl (Or.inl rfl) zst_1 ?_
  have m2 : Md σ1 (sO σ1 x 4 1) (fun a => a = x) := Md.O rfl
  have m12 : Md σ (sO σ1 x 4 1) (fun a => a = x ∨ sp (x + 46) a) := (m1.wk (fun a z => Or.inr z)).tr m2 (fun a z => Or.inl z)
  have hj : CJ (sO σ1 x 4 1) x (aWsv A (some (aSt A))) := by
    obtain ⟨a1, a2, a3, a4, a5, a6, a7, a8, a9⟩ := h.cj
    have no : ∀ a, (a ≠ x ∧ (a < x + 46 ∨ x + 90 ≤ a)) → ¬ (a = x ∨ sp (x + 46) a) := fun a z => by unfold sp; omega
    refine ⟨a1.md m12, ?_, a3.md m12 (fun a z => no a (by unfold sp at z; omega)), ⟨zO_sOs _ _ _ _, fun t ht => ?_⟩, a5.md m12 (fun a z => no a (by unfold hp at z; omega)), ?_, a7.md m12 (no _ (by omega)) (no _ (by omega)), a8.md m12 (no _ (by omega)) (no _ (by omega)), fun g hg => ?_⟩
    · obtain ⟨b1, b2, b3, b4⟩ := a2
      refine ⟨?_, b2, fun i hi => ?_, b4⟩
      · rw [zO_sOk _ _ _ _ (by omega), m1.o (by unfold sp; omega)]; exact b1
      · rw [zI_sO, m1.i (by unfold sp; omega)]; exact b3 i hi
    · rw [← Option.some.inj ht]
      exact S1.md m2 (fun a z => by unfold sp at z; omega)
    · rw [m12.o (no _ (by omega))]; exact a6
    · rw [m12.i (no _ (by omega))]; exact a9 g hg
  have h3 : CI (sO σ1 x 4 1) x (aWsv A (some (aSt A))) := h.keep hj rfl m12 (fun a z => by unfold bp at z; unfold sp; omega)
  obtain ⟨z0, z1, z2, z3, z4, z5, z6, z7, z8, z9, z10, z11, z12, k1, k2, k3, k4⟩ := h3.xk
  have hS3 := h3.st
  refine zW_aload_n dX9_save_16 rfl ?_
  refine zgP dX9_save_17 fX9_16 z0 rfl z2 ?_
  refine zcV0 dX9_save_20 rfl eX7_lettersInRegisters b513 ⟨by decide, by decide, by decide, by decide⟩ rfl hS3.1.1 rfl (by decide) (Nat.le_of_ble_eq_true rfl) (st_letters hS3 ?_)
  refine zW_ireturn dX9_save_23 rfl rfl (by first | decide | (show _ ≤ (0 : Nat); omega)) (by first | decide | (show _ ≤ (0 : Nat); omega)) ?_
  refine hQ _ h3 (m12.mx (fun a z => ?_))
  unfold sp at z
  unfold xr
  omega
def o_restore (A : AA) : Out := match aSv A with
  | none => (1, 0, A)
  | some t => (0, (sumR t : Nat), aWith A t ((aSt A :: aHi A).take 8))
set_option maxRecDepth 100000 in
theorem c_restore (h : CI σ x A) (hQ : ∀ σ', CI σ' x (o_restore A).2.2 → Mx σ σ' (xr x) → Q (rs e6 (o_restore A)) σ') : zM Γ mX9_restore [vR (some x)] σ Q := by
  obtain ⟨z0, z1, z2, z3, z4, z5, z6, z7, z8, z9, z10, z11, z12, k1, k2, k3, k4⟩ := h.xk
  have hS := h.st
  have hH := h.2.2.2.2.1
  have hV := h.2.2.2.1
  refine zM_of (n := 0) (by decide +kernel) rfl rfl rfl ?_
  unfold o_restore at hQ
  cases hA : aSv A with
  | none =>
    rw [hA] at hQ hV
    have hv : zO σ x 4 = 0 := hV.1
    refine zW_aload_n dX9_restore_0 rfl ?_
    refine zgI dX9_restore_1 fX9_119 z0 rfl hv ?_
    refine zW_if_ne (tgt := 18) dX9_restore_4 (by decide) (by first | assumption | omega | (unfold InR; omega) | (unfold InL; omega) | (simp only [InR] at *; omega)) (fun q => ?_) (fun q => ?_)
    · exact absurd rfl q
    · refine zW_throwW (k := 15) zTok_0 (by decide) rfl rfl rfl dX9_restore_7 dX9_restore_10 dX9_restore_11 dX9_restore_14 dX9_restore_17 (by decide) (Nat.le_of_ble_eq_true rfl) (by decide) (by decide) (fun m => ?_)
      exact hQ _ h.sn Mx.sn
  | some t =>
    rw [hA] at hQ hV
    have hv : zO σ x 4 = 1 := hV.1
    have hT := hV.2 t rfl
    refine zW_aload_n dX9_restore_0 rfl ?_
    refine zgI dX9_restore_1 fX9_119 z0 rfl hv ?_
    refine zW_if_ne (tgt := 18) dX9_restore_4 (by decide) (by first | assumption | omega | (unfold InR; omega) | (unfold InL; omega) | (simp only [InR] at *; omega)) (fun q => ?_) (fun q => ?_)
    · refine zW_aload_n dX9_restore_18 rfl ?_
      refine zgP dX9_restore_19 fX9_26 z0 rfl z4 ?_
      refine zW_aload_n dX9_restore_22 rfl ?_
      refine zgP dX9_restore_23 fX9_16 z0 rfl z2 ?_
      refine zcV1 dX9_restore_26 rfl eX3_record b1073 ⟨by decide, by decide, by decide, by decide⟩ rfl hH.1.1 rfl (by decide) (Nat.le_of_ble_eq_true rfl) (h_record hH hS (by omega) (fun σ1 H1 m1 => ?_))
      have hj1 := h.cj.hist m1 H1
      have S1 : SD σ1 (x + 2) (aSt A) := hj1.2.2.1
      have T1 : SD σ1 (x + 46) t := hT.md m1 (fun a z => by unfold sp at z; unfold hp; omega)
      obtain ⟨z0, z1, z2, z3, z4, z5, z6, z7, z8, z9, z10, z11, z12, k1, k2, k3, k4⟩ := id hj1.1.1
      refine zW_aload_n dX9_restore_29 rfl ?_
      refine zgP dX9_restore_30 fX9_16 z0 rfl z2 ?_
      refine zW_aload_n dX9_restore_33 rfl ?_
      refine zgP dX9_restore_34 fX9_20 z0 rfl z3 ?_
      refine zcV1 dX9_restore_37 rfl eX7_copyFrom b500 ⟨by decide, by decide, by decide, by decide⟩ rfl S1.1.1 rfl (by decide) (Nat.le_of_ble_eq_true rfl) (st_copyFrom S1.1 T1 (by omega) (fun σ2 S2 m2 => ?_))
      have hj2 := hj1.state m2 S2
      obtain ⟨z0, z1, z2, z3, z4, z5, z6, z7, z8, z9, z10, z11, z12, k1, k2, k3, k4⟩ := id hj2.1.1
      refine zW_aload_n dX9_restore_40 rfl ?_
      refine zcV0 dX9_restore_41 rfl eX9_markGraphsStale b712 ⟨by decide, by decide, by decide, by decide⟩ rfl z0 rfl (by decide) (Nat.le_of_ble_eq_true rfl) (c_markGraphsStale (A := aWith A t ((aSt A :: aHi A).take 8)) hj2 (fun σ3 h3 m3 => ?_))
      obtain ⟨z0, z1, z2, z3, z4, z5, z6, z7, z8, z9, z10, z11, z12, k1, k2, k3, k4⟩ := h3.xk
      have hS3 := h3.st
      refine zW_aload_n dX9_restore_44 rfl ?_
      refine zgP dX9_restore_45 fX9_16 z0 rfl z2 ?_
      refine zcV0 dX9_restore_48 rfl eX7_lettersInRegisters b513 ⟨by decide, by decide, by decide, by decide⟩ rfl hS3.1.1 rfl (by decide) (Nat.le_of_ble_eq_true rfl) (st_letters hS3 ?_)
      refine zW_ireturn dX9_restore_51 rfl rfl (by first | decide | (show _ ≤ (1 : Nat); omega)) (by first | decide | (show _ ≤ (6 : Nat); omega)) ?_
      exact hQ _ h3 (((m1.mx (fun a z => hps_xr (Or.inl z))).tr (m2.mx (fun a z => hps_xr (Or.inr z)))).tr (m3.mx (fun a z => mk3_xr z)))
    · exact absurd q (by decide)
end CALCM
