/-! the reference: texts -/
def KF : List Nat := [0, 11, 13, 15, 20, 21, 30, 31, 32, 33, 34, 35, 36]
def RSF : List Nat := [3, 4, 5, 6, 7, 8, 9, 10, 11, 12, 13, 14, 15, 16, 17]
section RFMT
variable {Γ : GG} {σ σ' : HS} {Q : Res → HS → Prop} {y g : Nat} {A : AA} {t w : List Nat} {G : GT}
set_option maxRecDepth 100000 in
theorem RI.fm (h : RI σ y A) (m : Mr σ σ' y KF RSF) (H : rFm σ' y t) : RI σ' y (aWfm A t) := by
  obtain ⟨a1, a2, a3, a4, a5, a6, a7, a8⟩ := h
  have e1 := m.i (i := 1) (by decide)
  have es : ∀ {B t}, SR σ y B t → SR σ' y B t := fun h => h.same (fun k _ _ => by rw [e1])
  refine ⟨a1.mr m, by rw [m.o (by decide)]; exact a2, es a3, ⟨a4.1, by rw [m.o (by decide)]; exact a4.2.1, ?_⟩, ⟨by rw [m.o (by decide)]; exact a5.1, fun t ht => es (a5.2 t ht)⟩, ⟨by rw [m.o (by decide)]; exact a6.1, a6.2.1, fun i hi => by rw [m.i (by decide)]; exact a6.2.2.1 i hi, a6.2.2.2⟩, ⟨by rw [m.o (by decide)]; exact a7.1, by rw [m.o (by decide)]; exact a7.2⟩, H⟩
  obtain ⟨f, f1, f2, f3⟩ := a4.2.2
  exact ⟨f, f1, by rw [m.o (by decide)]; exact f2, fun i t ht => es (f3 i t ht)⟩
set_option maxRecDepth 100000 in
theorem rFm.mr {Ks Rs : List Nat} (h : rFm σ y t) (m : Mr σ σ' y Ks Rs) (hk : 11 ∉ Ks := by decide) (hr : 3 ∉ Rs := by decide) : rFm σ' y t := ⟨by rw [m.o hk]; exact h.1, h.2.1, fun i hi => by rw [m.i hr]; exact h.2.2.1 i hi, h.2.2.2⟩
set_option maxRecDepth 100000 in
theorem rFm.nil (h : zO σ y 11 = 0) : rFm σ y [] := ⟨h, Nat.zero_le _, fun i hi => absurd hi (Nat.not_lt_zero i), fun b hb => by cases hb⟩
set_option maxRecDepth 100000 in
theorem r_writes {b : Nat} (h : RK σ y) (hF : rFm σ y t) (hn : t.length < 1000) (hb : b < 256) (hQ : ∀ σ', rFm σ' y (t ++ [b]) → Mr σ σ' y [11] [3] → Q (.inl none) σ') : zM Γ mX10_writes [vR (some y), vI b] σ Q := by
  obtain ⟨c1, c2, c3, c4⟩ := id hF
  refine zM_of (n := 0) (by decide +kernel) rfl rfl rfl ?_
  refine zW_aload_n dX10_writes_0 rfl ?_
  refine zgP dX10_writes_1 fX10_17 h.1 rfl h.p_formatted ?_
  refine zW_aload_n dX10_writes_4 rfl ?_
  refine zgI dX10_writes_5 fX10_371 h.1 rfl c1 ?_
  refine zW_iload_n dX10_writes_8 rfl ?_
  refine zW_i2cN dX10_writes_9 rfl (by omega) ?_
  refine zW_cast dX10_writes_10 h.k_formatted (by first | assumption | omega | (unfold InR; omega) | (unfold InL; omega) | (simp only [InR] at *; omega)) (by first | assumption | omega | (unfold InR; omega) | (unfold InL; omega) | (simp only [InR] at *; omega)) (by first | assumption | omega | (unfold InR; omega) | (unfold InL; omega) | (simp only [InR] at *; omega)) (znc _ hb) ?_
  refine zW_aload_n dX10_writes_11 rfl ?_
  refine zW_dup dX10_writes_12 rfl ?_
  refine zgI dX10_writes_13 fX10_371 h.1 rfl c1 ?_
  refine zW_iconst dX10_writes_16 ?_
  refine zW_iadd dX10_writes_17 ?_
  refine zpI dX10_writes_18 fX10_371 h.1 rfl (Or.inl rfl) (zst_int _) ?_
  refine zW_return dX10_writes_21 rfl (by first | decide | (show _ ≤ (0 : Nat); omega)) (by first | decide | (show _ ≤ (0 : Nat); omega)) ?_
  refine hQ _ ⟨?_, by rw [List.length_append]; show _ + 1 ≤ _; omega, fun j hj => ?_, fun z hz => ?_⟩ ((Mr.I (by decide)).tr (Mr.O (by decide)))
  · rw [zO_sOs, List.length_append]
    rfl
  · rw [getD_append_last _ _ _ hj]
    rw [zI_sO, zI_sI]
    rw [List.length_append] at hj
    change j < t.length + 1 at hj
    by_cases e : j = t.length
    · rw [if_pos ⟨rfl, by omega⟩, if_pos e]
    · rw [if_neg (fun z => e (by omega)), if_neg e]
      exact c3 j (by omega)
  · rcases List.mem_append.mp hz with z9 | z9
    · exact c4 z z9
    · rw [List.mem_singleton.mp z9]; exact hb
set_option maxRecDepth 100000 in
theorem r_writesNumber {n : Nat} (h : RK σ y) (hF : rFm σ y t) (hn : n < 100) (hl : t.length + 2 ≤ 1000) (hQ : ∀ σ', rFm σ' y (t ++ dgs n) → Mr σ σ' y [11] [3] → Q (.inl none) σ') : zM Γ mX10_writesNumber [vR (some y), vI n] σ Q := by
  refine zM_of (n := 0) (by decide +kernel) rfl rfl rfl ?_
  have snd : ∀ σ1 t1, rFm σ1 y t1 → Mr σ σ1 y [11] [3] → t1.length < 1000 → t ++ dgs n = t1 ++ [48 + n % 10] → zW Γ mX10_writesNumber 17 [some (vR (some y)), some (vI n)] [] σ1 0 0 Q := by
    intro σ1 t1 hF m1 ht he
    have k1 := h.mr m1
    have e : ((48 : Int) + ((n : Int) % 10)) = ((48 + n % 10 : Nat) : Int) := by omega
    refine zW_aload_n dX10_writesNumber_17 rfl ?_
    refine zW_bipush dX10_writesNumber_18 (by decide) ?_
    refine zW_iload_n dX10_writesNumber_20 rfl ?_
    refine zW_bipush dX10_writesNumber_21 (by decide) ?_
    refine zW_irem dX10_writesNumber_23 (by first | assumption | omega | (unfold InR; omega) | (unfold InL; omega) | (simp only [InR] at *; omega)) (by first | assumption | omega | (unfold InR; omega) | (unfold InL; omega) | (simp only [InR] at *; omega)) (by first | assumption | omega | (unfold InR; omega) | (unfold InL; omega) | (simp only [InR] at *; omega)) (by first | assumption | omega | (unfold InR; omega) | (unfold InL; omega) | (simp only [InR] at *; omega)) ?_
    refine zW_iadd dX10_writesNumber_24 ?_
    rw [e]
    refine zcV1 dX10_writesNumber_25 rfl eX10_writes b1851 ⟨by decide, by decide, by decide, by decide⟩ rfl k1.1 rfl (by decide) (Nat.le_of_ble_eq_true rfl) (r_writes k1 hF ht (by omega) (fun σ2 hF2 m2 => ?_))
    refine zW_return dX10_writesNumber_28 rfl (by first | decide | (show _ ≤ (0 : Nat); omega)) (by first | decide | (show _ ≤ (0 : Nat); omega)) ?_
    rw [← he] at hF2
    exact hQ _ hF2 (m1.tr m2)
  refine zW_iload_n dX10_writesNumber_0 rfl ?_
  refine zW_bipush dX10_writesNumber_1 (by decide) ?_
  refine zW_icmp_lt (tgt := 17) dX10_writesNumber_3 (by decide) (by first | assumption | omega | (unfold InR; omega) | (unfold InL; omega) | (simp only [InR] at *; omega)) (by first | assumption | omega | (unfold InR; omega) | (unfold InL; omega) | (simp only [InR] at *; omega)) (fun q => ?_) (fun q => ?_)
  · have e : dgs n = [48 + n % 10] := by unfold dgs; rw [if_neg (by omega)]; rfl
    exact snd σ t hF Mr.rf (by omega) (by rw [e])
  · have e2 : dgs n = [48 + n / 10] ++ [48 + n % 10] := by unfold dgs; rw [if_pos (by omega)]
    have e : ((48 : Int) + ((n : Int) / 10)) = ((48 + n / 10 : Nat) : Int) := by omega
    refine zW_aload_n dX10_writesNumber_6 rfl ?_
    refine zW_bipush dX10_writesNumber_7 (by decide) ?_
    refine zW_iload_n dX10_writesNumber_9 rfl ?_
    refine zW_bipush dX10_writesNumber_10 (by decide) ?_
    refine zW_idiv dX10_writesNumber_12 (by first | assumption | omega | (unfold InR; omega) | (unfold InL; omega) | (simp only [InR] at *; omega)) (by first | assumption | omega | (unfold InR; omega) | (unfold InL; omega) | (simp only [InR] at *; omega)) (by first | assumption | omega | (unfold InR; omega) | (unfold InL; omega) | (simp only [InR] at *; omega)) (by first | assumption | omega | (unfold InR; omega) | (unfold InL; omega) | (simp only [InR] at *; omega)) ?_
    refine zW_iadd dX10_writesNumber_13 ?_
    rw [e]
    refine zcV1 dX10_writesNumber_14 rfl eX10_writes b1851 ⟨by decide, by decide, by decide, by decide⟩ rfl h.1 rfl (by decide) (Nat.le_of_ble_eq_true rfl) (r_writes h hF (by omega) (by omega) (fun σ2 hF2 m2 => ?_))
    refine snd σ2 _ hF2 m2 (by rw [List.length_append]; show _ + 1 < _; omega) ?_
    rw [e2, List.append_assoc]
set_option maxRecDepth 100000 in
theorem r_writesWork (h : RK σ y) (hp : RP σ y w) (hl : w.length ≤ 1000) (hQ : ∀ σ', rFm σ' y (w.map lco) → Mr σ σ' y [11] [3] → Q (.inl (some (vI ((w.map lco).length : Nat)))) σ') : zM Γ mX10_writesWork [vR (some y)] σ Q := by
  refine zM_of (n := 1) (by decide +kernel) rfl rfl rfl ?_
  have loop : ∀ n i σ1, i + n = w.length → rFm σ1 y ((w.take i).map lco) → Mr σ σ1 y [11] [3] → zW Γ mX10_writesWork 7 [some (vR (some y)), some (vI i)] [] σ1 0 0 Q := by
    intro n
    induction n with
    | zero =>
      intro i σ1 hi hF m1
      have k1 := h.mr m1
      have hp1 := hp.mr m1
      refine zW_iload_n dX10_writesWork_7 rfl ?_
      refine zW_aload_n dX10_writesWork_8 rfl ?_
      refine zgI dX10_writesWork_9 fX10_101 k1.1 rfl hp1.1 ?_
      refine zW_icmp_ge (tgt := 34) dX10_writesWork_12 (by decide) (by first | assumption | omega | (unfold InR; omega) | (unfold InL; omega) | (simp only [InR] at *; omega)) (by first | assumption | omega | (unfold InR; omega) | (unfold InL; omega) | (simp only [InR] at *; omega)) (fun q => ?_) (fun q => ?_)
      · have e : w.take i = w := List.take_of_length_le (by omega)
        rw [e] at hF
        refine zW_aload_n dX10_writesWork_34 rfl ?_
        refine zgI dX10_writesWork_35 fX10_371 k1.1 rfl hF.1 ?_
        refine zW_ireturn dX10_writesWork_38 rfl rfl (by first | decide | (show _ ≤ (0 : Nat); omega)) (by first | decide | (show _ ≤ (0 : Nat); omega)) ?_
        exact hQ _ hF m1
      · exact absurd q (by omega)
    | succ n ih =>
      intro i σ1 hi hF m1
      have k1 := h.mr m1
      have hp1 := hp.mr m1
      have hx := getD_lt hp.2.2.2 (i := i) (by omega)
      have hx2 := lco_lt hx
      refine zW_iload_n dX10_writesWork_7 rfl ?_
      refine zW_aload_n dX10_writesWork_8 rfl ?_
      refine zgI dX10_writesWork_9 fX10_101 k1.1 rfl hp1.1 ?_
      refine zW_icmp_ge (tgt := 34) dX10_writesWork_12 (by decide) (by first | assumption | omega | (unfold InR; omega) | (unfold InL; omega) | (simp only [InR] at *; omega)) (by first | assumption | omega | (unfold InR; omega) | (unfold InL; omega) | (simp only [InR] at *; omega)) (fun q => ?_) (fun q => ?_)
      · exact absurd q (by omega)
      · refine zW_aload_n dX10_writesWork_15 rfl ?_
        refine zW_aload_n dX10_writesWork_16 rfl ?_
        refine zgP dX10_writesWork_17 fX10_21 k1.1 rfl k1.p_work ?_
        refine zW_iload_n dX10_writesWork_20 rfl ?_
        refine zrI dX10_writesWork_21 k1.k_work (by first | assumption | omega | (unfold InR; omega) | (unfold InL; omega) | (simp only [InR] at *; omega)) (by first | assumption | omega | (unfold InR; omega) | (unfold InL; omega) | (simp only [InR] at *; omega)) (by first | assumption | omega | (unfold InR; omega) | (unfold InL; omega) | (simp only [InR] at *; omega)) (hp1.2.2.1 i (by omega)) ?_
        refine zcS1 dX10_writesWork_22 rfl eX10_letterOf b1503 ⟨by decide, by decide, by decide, by decide⟩ rfl (Nat.le_of_ble_eq_true rfl) (r_letterOf hx ?_)
        refine zcV1 dX10_writesWork_25 rfl eX10_writes b1851 ⟨by decide, by decide, by decide, by decide⟩ rfl k1.1 rfl (by decide) (Nat.le_of_ble_eq_true rfl) (r_writes k1 hF (by rw [List.length_map, List.length_take]; omega) (by omega) (fun σ2 hF2 m2 => ?_))
        refine zW_iinc dX10_writesWork_28 rfl (by decide) rfl rfl ?_
        refine zW_goto (tgt := 7) dX10_writesWork_31 (by decide) ?_
        refine ih (i + 1) σ2 (by omega) ?_ (m1.tr m2)
        rw [take_s (by omega), List.map_append]
        exact hF2
  refine zW_aload_n dX10_writesWork_0 rfl ?_
  refine zW_iconst dX10_writesWork_1 ?_
  refine zpI dX10_writesWork_2 fX10_371 h.1 rfl (Or.inl rfl) (zst_int _) ?_
  refine zW_iconst dX10_writesWork_5 ?_
  refine zW_istore_n dX10_writesWork_6 (by decide) rfl rfl ?_
  exact loop w.length 0 _ (by omega) (rFm.nil (zO_sOs _ _ _ _)) (Mr.O (by decide))
set_option maxRecDepth 100000 in
theorem q_formatWord {r : Int} (h : RI σ y A) (ir : InR r) (hQ : RQ σ y (o_formatWord A r) Q) : zM Γ mX10_formatWord [vR (some y), vI r] σ Q := by
  refine zM_of (n := 4) (by decide +kernel) rfl rfl rfl ?_
  refine zW_aload_n dX10_formatWord_0 rfl ?_
  refine zW_iconst dX10_formatWord_1 ?_
  refine zpI dX10_formatWord_2 fX10_75 h.1.1 rfl (Or.inl rfl) (zst_int _) ?_
  have m0 : Mr σ (sO σ y 0 0) y KS RS := Mr.O (by decide)
  have h0 := h.mr m0
  have t0 : zO (sO σ y 0 0) y 0 = 0 := zO_sOs _ _ _ _
  generalize sO σ y 0 0 = σ0 at m0 h0 t0 ⊢
  have a0 : RA σ0 y 0 := h0.ra
  refine zW_iload_n dX10_formatWord_5 rfl ?_
  refine zcS1 dX10_formatWord_6 rfl eX10_isRegister b1492 ⟨by decide, by decide, by decide, by decide⟩ rfl (Nat.le_of_ble_eq_true rfl) (r_isRegister ir (fun fr => ?_) (fun fr => ?_))
  · have hw0 := h0.rw fr
    have hb := r8b fr
    have ho : o_formatWord A r = (0, (((wtx (reg A r)).length : Nat) : Int), aWfm A (wtx (reg A r))) := if_pos fr
    generalize hl : reg A r = l at hw0 ho
    have hl6 := hw0.2.1
    have hT := rnF_len l 0
    refine zW_if_ne (tgt := 18) dX10_formatWord_9 (by decide) (by first | assumption | omega | (unfold InR; omega) | (unfold InL; omega) | (simp only [InR] at *; omega)) (fun q => ?_) (fun q => ?_)
    · refine zW_iload_n dX10_formatWord_18 rfl ?_
      refine zcS1 dX10_formatWord_19 rfl eX10_register b1455 ⟨by decide, by decide, by decide, by decide⟩ rfl (Nat.le_of_ble_eq_true rfl) (r_register fr ?_)
      generalize hwv : 1 + 61 * r.toNat = wv at hw0 hb ⊢
      refine zW_istore_n dX10_formatWord_22 (by decide) rfl rfl ?_
      refine zW_aload_n dX10_formatWord_23 rfl ?_
      refine zW_iconst dX10_formatWord_24 ?_
      refine zpI dX10_formatWord_25 fX10_371 a0.1.1 rfl (Or.inl rfl) (zst_int _) ?_
      have fin : ∀ i σ1 t1 z4 z5, l.length ≤ i → i ≤ l.length → rFm σ1 y t1 → Mr σ0 σ1 y [11] [3] → t1 ++ rnF (l.drop i) 0 = rnF l 0 → zW Γ mX10_formatWord 30 [some (vR (some y)), some (vI r), some (vI wv), some (vI i), z4, z5] [] σ1 0 0 Q := by
        intro i σ1 t1 z4 z5 hi hi2 hF m1 he
        have a1 := a0.mr m1
        have hw1 := hw0.mr m1
        have e : l.drop i = [] := by rw [List.drop_eq_nil_iff]; omega
        rw [e] at he
        have e2 : t1 = rnF l 0 := by rw [← he]; exact (List.append_nil t1).symm
        have dn : ∀ σ2, rFm σ2 y (wtx l) → Mr σ0 σ2 y [11] [3] → Q (.inl (some (vI ((wtx l).length : Nat)))) σ2 := fun σ2 F2 m2 => by
          unfold RQ at hQ
          rw [ho] at hQ
          exact hQ σ2 _ (h0.fm (m2.wk (by decide) (by decide)) F2) (by rw [m2.o (by decide)]; exact t0) ((m0.wk (Ks' := KA) (Rs' := RSA) (by decide) (by decide)).th m2 (by decide) (by decide) |>.md (by decide)) (fun _ => rfl)
        have hF9 := hF.2.1
        refine zW_iload_n dX10_formatWord_30 rfl ?_
        refine zW_aload_n dX10_formatWord_31 rfl ?_
        refine zW_iload_n dX10_formatWord_32 rfl ?_
        refine zcV1 dX10_formatWord_33 rfl eX10_get b1443 ⟨by decide, by decide, by decide, by decide⟩ rfl a1.1.1 rfl (by decide) (Nat.le_of_ble_eq_true rfl) (r_get a1 (by omega) hw1.1 ?_)
        refine zW_icmp_ge (tgt := 127) dX10_formatWord_36 (by decide) (by first | assumption | omega | (unfold InR; omega) | (unfold InL; omega) | (simp only [InR] at *; omega)) (by first | assumption | omega | (unfold InR; omega) | (unfold InL; omega) | (simp only [InR] at *; omega)) (fun b => ?_) (fun b => ?_)
        · refine zW_aload_n dX10_formatWord_127 rfl ?_
          refine zgI dX10_formatWord_128 fX10_371 a1.1.1 rfl hF.1 ?_
          refine zW_if_ne (tgt := 140) dX10_formatWord_131 (by decide) (by first | assumption | omega | (unfold InR; omega) | (unfold InL; omega) | (simp only [InR] at *; omega)) (fun b2 => ?_) (fun b2 => ?_)
          · refine zW_aload_n dX10_formatWord_140 rfl ?_
            refine zgI dX10_formatWord_141 fX10_371 a1.1.1 rfl hF.1 ?_
            refine zW_ireturn dX10_formatWord_144 rfl rfl (by first | decide | (show _ ≤ (0 : Nat); omega)) (by first | decide | (show _ ≤ (0 : Nat); omega)) ?_
            have ew : wtx l = t1 := by unfold wtx; rw [if_neg (fun z => b2 (by rw [e2, z]; rfl)), e2]
            rw [ew] at dn
            exact dn σ1 hF m1
          · have e3 : t1 = [] := List.eq_nil_of_length_eq_zero (by omega)
            rw [e3] at hF
            refine zW_aload_n dX10_formatWord_134 rfl ?_
            refine zW_bipush dX10_formatWord_135 (by decide) ?_
            refine zcV1 dX10_formatWord_137 rfl eX10_writes b1851 ⟨by decide, by decide, by decide, by decide⟩ rfl a1.1.1 rfl (by decide) (Nat.le_of_ble_eq_true rfl) (r_writes (b := 49) a1.1 hF (by decide) (by decide) (fun σ2 F2 m2 => ?_))
            have a2 := a1.mr m2
            refine zW_aload_n dX10_formatWord_140 rfl ?_
            refine zgI dX10_formatWord_141 fX10_371 a2.1.1 rfl F2.1 ?_
            refine zW_ireturn dX10_formatWord_144 rfl rfl (by first | decide | (show _ ≤ (0 : Nat); omega)) (by first | decide | (show _ ≤ (0 : Nat); omega)) ?_
            have ew : wtx l = [49] := by unfold wtx; rw [if_pos (e2.symm.trans e3)]
            rw [ew] at dn
            exact dn σ2 F2 (m1.tr m2)
        · exact absurd b (by omega)
      have loop : ∀ n i σ1 t1 z4 z5, l.length ≤ i + n → i ≤ l.length → rFm σ1 y t1 → Mr σ0 σ1 y [11] [3] → t1 ++ rnF (l.drop i) 0 = rnF l 0 → zW Γ mX10_formatWord 30 [some (vR (some y)), some (vI r), some (vI wv), some (vI i), z4, z5] [] σ1 0 0 Q := by
        intro n
        induction n with
        | zero =>
          intro i σ1 t1 z4 z5 hi hi2 hF m1 he
          exact fin i σ1 t1 z4 z5 (by omega) hi2 hF m1 he
        | succ n ih =>
          intro i σ1 t1 z4 z5 hi hi2 hF m1 he
          by_cases hfin : l.length ≤ i
          · exact fin i σ1 t1 z4 z5 hfin hi2 hF m1 he
          have hil : i < l.length := by omega
          have a1 := a0.mr m1
          have hw1 := hw0.mr m1
          have hc := getD_lt hw0.2.2.2 hil
          have hdi := drop_cons hil
          generalize hcc : l.getD i 0 = c at hc hdi
          have hlen : t1.length + (rnF (l.drop i) 0).length ≤ 180 := by
            have := congrArg List.length he
            rw [List.length_append] at this
            omega
          have exit : ∀ (j k : Nat), i ≤ j → j ≤ l.length → k ≤ 60 → (l.drop j).head? ≠ some c → rtx c k ++ rnF (l.drop j) 0 = rnF (l.drop i) 0 → zW Γ mX10_formatWord 79 [some (vR (some y)), some (vI r), some (vI wv), some (vI j), some (vI c), some (vI k)] [] σ1 0 0 Q := by
            intro j k hij hjl hk hh hr
            have hne : i ≠ j := fun z => hh (by rw [← z, hdi]; rfl)
            have hrl := (rtx_len c k).1
            have go : ∀ σ2 t2, rFm σ2 y t2 → Mr σ0 σ2 y [11] [3] → t2 = t1 ++ rtx c k → zW Γ mX10_formatWord 124 [some (vR (some y)), some (vI r), some (vI wv), some (vI j), some (vI c), some (vI k)] [] σ2 0 0 Q := by
              intro σ2 t2 F2 m2 e2
              refine zW_goto (tgt := 30) dX10_formatWord_124 (by decide) ?_
              refine ih j σ2 t2 _ _ (by omega) hjl F2 m2 ?_
              rw [e2, List.append_assoc, hr]
              exact he
            have fin2 : ∀ σ2 t2, rFm σ2 y t2 → Mr σ0 σ2 y [11] [3] → t2.length ≤ 200 → t1 ++ rtx c k = t2 ++ (if c % 2 = 1 ∨ 1 < k then dgs k else []) → zW Γ mX10_formatWord 104 [some (vR (some y)), some (vI r), some (vI wv), some (vI j), some (vI c), some (vI k)] [] σ2 0 0 Q := by
              intro σ2 t2 F2 m2 l2 e2
              have k2 := a0.1.mr m2
              have num : (c % 2 = 1 ∨ 1 < k) → zW Γ mX10_formatWord 118 [some (vR (some y)), some (vI r), some (vI wv), some (vI j), some (vI c), some (vI k)] [] σ2 0 0 Q := by
                intro h9
                rw [if_pos h9] at e2
                refine zW_aload_n dX10_formatWord_118 rfl ?_
                refine zW_iload dX10_formatWord_119 rfl ?_
                refine zcV1 dX10_formatWord_121 rfl eX10_writesNumber b1855 ⟨by decide, by decide, by decide, by decide⟩ rfl k2.1 rfl (by decide) (Nat.le_of_ble_eq_true rfl) (r_writesNumber k2 F2 (by omega) (by omega) (fun σ3 F3 m3 => ?_))
                exact go σ3 _ F3 (m2.tr m3) e2.symm
              refine zW_iload dX10_formatWord_104 rfl ?_
              refine zW_iconst dX10_formatWord_106 ?_
              refine zW_icmp_gt (tgt := 118) dX10_formatWord_107 (by decide) (by first | assumption | omega | (unfold InR; omega) | (unfold InL; omega) | (simp only [InR] at *; omega)) (by first | assumption | omega | (unfold InR; omega) | (unfold InL; omega) | (simp only [InR] at *; omega)) (fun b => ?_) (fun b => ?_)
              · exact num (Or.inr (by omega))
              · refine zW_iload dX10_formatWord_110 rfl ?_
                refine zW_iconst dX10_formatWord_112 ?_
                refine zW_irem dX10_formatWord_113 (by first | assumption | omega | (unfold InR; omega) | (unfold InL; omega) | (simp only [InR] at *; omega)) (by first | assumption | omega | (unfold InR; omega) | (unfold InL; omega) | (simp only [InR] at *; omega)) (by first | assumption | omega | (unfold InR; omega) | (unfold InL; omega) | (simp only [InR] at *; omega)) (by first | assumption | omega | (unfold InR; omega) | (unfold InL; omega) | (simp only [InR] at *; omega)) ?_
                refine zW_iconst dX10_formatWord_114 ?_
                refine zW_icmp_ne (tgt := 124) dX10_formatWord_115 (by decide) (by first | assumption | omega | (unfold InR; omega) | (unfold InL; omega) | (simp only [InR] at *; omega)) (by first | assumption | omega | (unfold InR; omega) | (unfold InL; omega) | (simp only [InR] at *; omega)) (fun b2 => ?_) (fun b2 => ?_)
                · rw [if_neg (by omega), List.append_nil] at e2
                  exact go σ2 t2 F2 m2 e2.symm
                · exact num (Or.inl (by omega))
            have e1 : (97 : Int) + (c : Int) / 2 = ((97 + c / 2 : Nat) : Int) := by omega
            have hrr : rtx c k = [97 + c / 2] ++ ((if c % 2 = 1 then [45] else []) ++ if c % 2 = 1 ∨ 1 < k then dgs k else []) := rfl
            refine zW_aload_n dX10_formatWord_79 rfl ?_
            refine zW_bipush dX10_formatWord_80 (by decide) ?_
            refine zW_iload dX10_formatWord_82 rfl ?_
            refine zW_iconst dX10_formatWord_84 ?_
            refine zW_idiv dX10_formatWord_85 (by first | assumption | omega | (unfold InR; omega) | (unfold InL; omega) | (simp only [InR] at *; omega)) (by first | assumption | omega | (unfold InR; omega) | (unfold InL; omega) | (simp only [InR] at *; omega)) (by first | assumption | omega | (unfold InR; omega) | (unfold InL; omega) | (simp only [InR] at *; omega)) (by first | assumption | omega | (unfold InR; omega) | (unfold InL; omega) | (simp only [InR] at *; omega)) ?_
            refine zW_iadd dX10_formatWord_86 ?_
            rw [e1]
            refine zcV1 dX10_formatWord_87 rfl eX10_writes b1851 ⟨by decide, by decide, by decide, by decide⟩ rfl a1.1.1 rfl (by decide) (Nat.le_of_ble_eq_true rfl) (r_writes a1.1 hF (by omega) (by omega) (fun σ2 F2 m2 => ?_))
            have a2 := a1.mr m2
            refine zW_iload dX10_formatWord_90 rfl ?_
            refine zW_iconst dX10_formatWord_92 ?_
            refine zW_irem dX10_formatWord_93 (by first | assumption | omega | (unfold InR; omega) | (unfold InL; omega) | (simp only [InR] at *; omega)) (by first | assumption | omega | (unfold InR; omega) | (unfold InL; omega) | (simp only [InR] at *; omega)) (by first | assumption | omega | (unfold InR; omega) | (unfold InL; omega) | (simp only [InR] at *; omega)) (by first | assumption | omega | (unfold InR; omega) | (unfold InL; omega) | (simp only [InR] at *; omega)) ?_
            refine zW_iconst dX10_formatWord_94 ?_
            refine zW_icmp_ne (tgt := 104) dX10_formatWord_95 (by decide) (by first | assumption | omega | (unfold InR; omega) | (unfold InL; omega) | (simp only [InR] at *; omega)) (by first | assumption | omega | (unfold InR; omega) | (unfold InL; omega) | (simp only [InR] at *; omega)) (fun b => ?_) (fun b => ?_)
            · rw [if_neg (show ¬ c % 2 = 1 by omega), List.nil_append] at hrr
              exact fin2 σ2 _ F2 (m1.tr m2) (by rw [List.length_append]; show _ + 1 ≤ _; omega) (by rw [hrr, List.append_assoc])
            · rw [if_pos (show c % 2 = 1 by omega)] at hrr
              refine zW_aload_n dX10_formatWord_98 rfl ?_
              refine zW_bipush dX10_formatWord_99 (by decide) ?_
              refine zcV1 dX10_formatWord_101 rfl eX10_writes b1851 ⟨by decide, by decide, by decide, by decide⟩ rfl a2.1.1 rfl (by decide) (Nat.le_of_ble_eq_true rfl) (r_writes (b := 45) a2.1 F2 (by rw [List.length_append]; show _ + 1 < _; omega) (by decide) (fun σ3 F3 m3 => ?_))
              exact fin2 σ3 _ F3 ((m1.tr m2).tr m3) (by rw [List.length_append, List.length_append]; show _ + 1 + 1 ≤ _; omega) (by rw [hrr, List.append_assoc, List.append_assoc])
          have inner : ∀ m j (k : Nat), j + m = l.length → i ≤ j → k ≤ j → (if (l.drop j).head? = some c then rnF (l.drop j) k else rtx c k ++ rnF (l.drop j) 0) = rnF (l.drop i) 0 → zW Γ mX10_formatWord 50 [some (vR (some y)), some (vI r), some (vI wv), some (vI j), some (vI c), some (vI k)] [] σ1 0 0 Q := by
            intro m
            induction m with
            | zero =>
              intro j k hj hij hkj hv
              have e : l.drop j = [] := by rw [List.drop_eq_nil_iff]; omega
              have hh : (l.drop j).head? ≠ some c := by rw [e]; exact fun z => by cases z
              rw [if_neg hh] at hv
              refine zW_iload_n dX10_formatWord_50 rfl ?_
              refine zW_aload_n dX10_formatWord_51 rfl ?_
              refine zW_iload_n dX10_formatWord_52 rfl ?_
              refine zcV1 dX10_formatWord_53 rfl eX10_get b1443 ⟨by decide, by decide, by decide, by decide⟩ rfl a1.1.1 rfl (by decide) (Nat.le_of_ble_eq_true rfl) (r_get a1 (by omega) hw1.1 ?_)
              refine zW_icmp_ge (tgt := 79) dX10_formatWord_56 (by decide) (by first | assumption | omega | (unfold InR; omega) | (unfold InL; omega) | (simp only [InR] at *; omega)) (by first | assumption | omega | (unfold InR; omega) | (unfold InL; omega) | (simp only [InR] at *; omega)) (fun b => ?_) (fun b => ?_)
              · exact exit j k hij (by omega) (by omega) hh hv
              · exact absurd b (by omega)
            | succ m ih2 =>
              intro j k hj hij hkj hv
              have hd := drop_cons (l := l) (i := j) (by omega)
              have hcj := getD_lt hw0.2.2.2 (i := j) (by omega)
              refine zW_iload_n dX10_formatWord_50 rfl ?_
              refine zW_aload_n dX10_formatWord_51 rfl ?_
              refine zW_iload_n dX10_formatWord_52 rfl ?_
              refine zcV1 dX10_formatWord_53 rfl eX10_get b1443 ⟨by decide, by decide, by decide, by decide⟩ rfl a1.1.1 rfl (by decide) (Nat.le_of_ble_eq_true rfl) (r_get a1 (by omega) hw1.1 ?_)
              refine zW_icmp_ge (tgt := 79) dX10_formatWord_56 (by decide) (by first | assumption | omega | (unfold InR; omega) | (unfold InL; omega) | (simp only [InR] at *; omega)) (by first | assumption | omega | (unfold InR; omega) | (unfold InL; omega) | (simp only [InR] at *; omega)) (fun b => ?_) (fun b => ?_)
              · exact absurd b (by omega)
              · refine zW_aload_n dX10_formatWord_59 rfl ?_
                refine zW_iload_n dX10_formatWord_60 rfl ?_
                refine zW_iload_n dX10_formatWord_61 rfl ?_
                refine zcV2 dX10_formatWord_62 rfl eX10_codeAt b1499 ⟨by decide, by decide, by decide, by decide⟩ rfl a1.1.1 rfl (by decide) (Nat.le_of_ble_eq_true rfl) (r_codeAt a1 hw1 (i := j) (by omega) hb ?_)
                refine zW_iload dX10_formatWord_65 rfl ?_
                refine zW_icmp_ne (tgt := 79) dX10_formatWord_67 (by decide) (by first | assumption | omega | (unfold InR; omega) | (unfold InL; omega) | (simp only [InR] at *; omega)) (by first | assumption | omega | (unfold InR; omega) | (unfold InL; omega) | (simp only [InR] at *; omega)) (fun b2 => ?_) (fun b2 => ?_)
                · have hh : (l.drop j).head? ≠ some c := by
                    rw [hd]
                    intro z
                    have := Option.some.inj z
                    omega
                  rw [if_neg hh] at hv
                  exact exit j k hij (by omega) (by omega) hh hv
                · have ec : l.getD j 0 = c := by omega
                  rw [ec] at hd
                  rw [if_pos (by rw [hd]; rfl), hd] at hv
                  refine zW_iinc dX10_formatWord_70 rfl (by decide) rfl rfl ?_
                  refine zW_iinc dX10_formatWord_73 rfl (by decide) rfl rfl ?_
                  refine zW_goto (tgt := 50) dX10_formatWord_76 (by decide) ?_
                  exact ih2 (j + 1) (k + 1) (by omega) (by omega) (by omega) hv
          refine zW_iload_n dX10_formatWord_30 rfl ?_
          refine zW_aload_n dX10_formatWord_31 rfl ?_
          refine zW_iload_n dX10_formatWord_32 rfl ?_
          refine zcV1 dX10_formatWord_33 rfl eX10_get b1443 ⟨by decide, by decide, by decide, by decide⟩ rfl a1.1.1 rfl (by decide) (Nat.le_of_ble_eq_true rfl) (r_get a1 (by omega) hw1.1 ?_)
          refine zW_icmp_ge (tgt := 127) dX10_formatWord_36 (by decide) (by first | assumption | omega | (unfold InR; omega) | (unfold InL; omega) | (simp only [InR] at *; omega)) (by first | assumption | omega | (unfold InR; omega) | (unfold InL; omega) | (simp only [InR] at *; omega)) (fun b => ?_) (fun b => ?_)
          · exact absurd b (by omega)
          · refine zW_aload_n dX10_formatWord_39 rfl ?_
            refine zW_iload_n dX10_formatWord_40 rfl ?_
            refine zW_iload_n dX10_formatWord_41 rfl ?_
            refine zcV2 dX10_formatWord_42 rfl eX10_codeAt b1499 ⟨by decide, by decide, by decide, by decide⟩ rfl a1.1.1 rfl (by decide) (Nat.le_of_ble_eq_true rfl) (r_codeAt a1 hw1 hil hb ?_)
            rw [hcc]
            refine zW_istore dX10_formatWord_45 (by decide) rfl rfl ?_
            refine zW_iconst dX10_formatWord_47 ?_
            refine zW_istore dX10_formatWord_48 (by decide) rfl rfl ?_
            exact inner (l.length - i) i 0 (by omega) (Nat.le_refl _) (Nat.zero_le _) (by rw [if_pos (by rw [hdi]; rfl)])
      refine zW_iconst dX10_formatWord_28 ?_
      refine zW_istore_n dX10_formatWord_29 (by decide) rfl rfl ?_
      exact loop l.length 0 _ [] _ _ (by omega) (Nat.zero_le _) (rFm.nil (zO_sOs _ _ _ _)) (Mr.O (by decide)) rfl
    · exact absurd q (by decide)
  · refine zW_if_ne (tgt := 18) dX10_formatWord_9 (by decide) (by first | assumption | omega | (unfold InR; omega) | (unfold InL; omega) | (simp only [InR] at *; omega)) (fun q => ?_) (fun q => ?_)
    · exact absurd rfl q
    · have ho : o_formatWord A r = (1, 0, A) := if_neg fr
      refine zW_aload_n dX10_formatWord_12 rfl ?_
      refine zW_iconst dX10_formatWord_13 ?_
      refine zcV1 dX10_formatWord_14 rfl eX10_fails b1371 ⟨by decide, by decide, by decide, by decide⟩ rfl a0.1.1 rfl (by decide) (Nat.le_of_ble_eq_true rfl) (r_fails a0.1 ?_)
      refine zW_ireturn dX10_formatWord_17 rfl rfl (by first | decide | (show _ ≤ (0 : Nat); omega)) (by first | decide | (show _ ≤ (0 : Nat); omega)) ?_
      exact hQ.bad (k := 0) ho h (m0.th (Mr.O (Ks := KS) (Rs := RS) (by decide)) (fun _ z => z) (fun _ z => z)) (zO_sOs _ _ _ _)
end RFMT
