/-! the reference: bytes, kept edits -/
def KA : List Nat := [0, 2, 3, 4, 5, 7, 8, 9, 11, 13, 15, 20, 21, 30, 31, 32, 33, 34, 35, 36]
def RSA : List Nat := [1, 2, 3, 4, 5, 6, 7, 8, 9, 10, 11, 12, 13, 14, 15, 16, 17]
section REDIT
variable {Γ : GG} {σ σ' : HS} {Q : Res → HS → Prop} {y : Nat} {A A' : AA} {w : List Nat}
set_option maxRecDepth 100000 in
theorem RQ.done {v : Int} {o : Out} (hQ : RQ σ y o Q) (ho : o = (0, v, A')) (h : RI σ' y A') (m : Mr σ σ' y KA RSA) (ht : zO σ' y 0 = 0) : Q (.inl (some (vI v))) σ' := by
  subst ho
  exact hQ σ' v h ht (m.md (by decide)) (fun _ => rfl)
set_option maxRecDepth 100000 in
theorem RI.inp {l : List Nat} (h : RI σ y A) (m : Mr σ σ' y [7] [2]) (H : rIn σ' y l) : RI σ' y (aWin A l) := by
  obtain ⟨a1, a2, a3, a4, a5, a6, a7, a8⟩ := h
  have e1 := m.i (i := 1) (by decide)
  have es : ∀ {B t}, SR σ y B t → SR σ' y B t := fun h => h.same (fun k _ _ => by rw [e1])
  refine ⟨a1.mr m, by rw [m.o (by decide)]; exact a2, es a3, ⟨a4.1, by rw [m.o (by decide)]; exact a4.2.1, ?_⟩, ⟨by rw [m.o (by decide)]; exact a5.1, fun t ht => es (a5.2 t ht)⟩, H, ⟨by rw [m.o (by decide)]; exact a7.1, by rw [m.o (by decide)]; exact a7.2⟩, ⟨by rw [m.o (by decide)]; exact a8.1, a8.2.1, fun i hi => by rw [m.i (by decide)]; exact a8.2.2.1 i hi, a8.2.2.2⟩⟩
  obtain ⟨f, f1, f2, f3⟩ := a4.2.2
  exact ⟨f, f1, by rw [m.o (by decide)]; exact f2, fun i t ht => es (f3 i t ht)⟩
set_option maxRecDepth 100000 in
theorem r_feeds {v : Int} {l : List Nat} (h : RK σ y) (hI : rIn σ y l) (hn : l.length + 4 ≤ 600) (hQ : ∀ σ', rIn σ' y (l ++ byts v) → Mr σ σ' y [7] [2] → Q (.inl none) σ') : zM Γ mX10_feeds [vR (some y), vI v] σ Q := by
  refine zM_of (n := 1) (by decide +kernel) rfl rfl rfl ?_
  have step : ∀ (s : Int) (σ1 : HS) (l1 : List Nat), (s = 24 ∨ s = 16 ∨ s = 8 ∨ s = 0) → rIn σ1 y l1 → l1.length < 600 → Mr σ σ1 y [7] [2] → (∀ σ2, rIn σ2 y (l1 ++ [byt v s]) → Mr σ σ2 y [7] [2] → zW Γ mX10_feeds 3 [some (vR (some y)), some (vI v), some (vI (s + -8))] [] σ2 0 0 Q) → zW Γ mX10_feeds 3 [some (vR (some y)), some (vI v), some (vI s)] [] σ1 0 0 Q := by
    intro s σ1 l1 hs hc hl m1 kk
    have k1 := h.mr m1
    have hb := byt_lt v s
    have hi2 : (iI ((iI v >>> (iI s &&& 31)).toInt)).toInt8.toInt32 = iI (sgn (byt v s)) := by rw [iI_of]; exact byt_s v s hs
    refine zW_iload_n dX10_feeds_3 rfl ?_
    refine zW_if_lt (tgt := 36) dX10_feeds_4 (by decide) (by first | assumption | omega | (unfold InR; omega) | (unfold InL; omega) | (simp only [InR] at *; omega)) (fun q => ?_) (fun q => ?_)
    · exact absurd q (by omega)
    · refine zW_aload_n dX10_feeds_7 rfl ?_
      refine zgP dX10_feeds_8 fX10_13 k1.1 rfl k1.p_buffer ?_
      refine zW_aload_n dX10_feeds_11 rfl ?_
      refine zgI dX10_feeds_12 fX10_206 k1.1 rfl hc.1 ?_
      refine zW_iload_n dX10_feeds_15 rfl ?_
      refine zW_iload_n dX10_feeds_16 rfl ?_
      refine zW_ishr dX10_feeds_17 ?_
      refine zW_i2b dX10_feeds_18 hi2 ?_
      refine zW_bast dX10_feeds_19 k1.k_buffer (by first | assumption | omega | (unfold InR; omega) | (unfold InL; omega) | (simp only [InR] at *; omega)) (by first | assumption | omega | (unfold InR; omega) | (unfold InL; omega) | (simp only [InR] at *; omega)) (by first | assumption | omega | (unfold InR; omega) | (unfold InL; omega) | (simp only [InR] at *; omega)) (nb8 _ hb) ?_
      refine zW_aload_n dX10_feeds_20 rfl ?_
      refine zW_dup dX10_feeds_21 rfl ?_
      refine zgI dX10_feeds_22 fX10_206 k1.1 rfl hc.1 ?_
      refine zW_iconst dX10_feeds_25 ?_
      refine zW_iadd dX10_feeds_26 ?_
      refine zpI dX10_feeds_27 fX10_206 k1.1 rfl (Or.inl rfl) (zst_int _) ?_
      refine zW_iinc dX10_feeds_30 rfl (by decide) rfl rfl ?_
      refine zW_goto (tgt := 3) dX10_feeds_33 (by decide) ?_
      refine kk _ ?_ (m1.tr ((Mr.I (by decide)).tr (Mr.O (by decide))))
      obtain ⟨c1, c2, c3, c4⟩ := hc
      refine ⟨?_, by rw [List.length_append]; show _ + 1 ≤ _; omega, fun i hi => ?_, fun z hz => ?_⟩
      · rw [zO_sOs, List.length_append]
        rfl
      · rw [List.length_append] at hi
        change i < l1.length + 1 at hi
        rw [zI_sO, zI_sI]
        by_cases e : i = l1.length
        · rw [if_pos ⟨rfl, by omega⟩, e]
          have : ((l1 ++ [byt v s]).getD l1.length 0) = byt v s := by simp
          rw [this]
        · rw [if_neg (fun z => e (by omega)), c3 i (by omega)]
          simp [List.getD_eq_getElem?_getD, List.getElem?_append_left (show i < l1.length by omega)]
      · rcases List.mem_append.mp hz with z9 | z9
        · exact c4 z z9
        · rw [List.mem_singleton.mp z9]; exact hb
  refine zW_bipush dX10_feeds_0 (by decide) ?_
  refine zW_istore_n dX10_feeds_2 (by decide) rfl rfl ?_
  refine step 24 σ l (by omega) hI (by omega) Mr.rf (fun σ1 h1 m1 => ?_)
  refine step 16 σ1 _ (by omega) h1 (by rw [List.length_append]; show _ + 1 < _; omega) m1 (fun σ2 h2 m2 => ?_)
  refine step 8 σ2 _ (by omega) h2 (by rw [List.length_append, List.length_append]; show _ + 1 + 1 < _; omega) m2 (fun σ3 h3 m3 => ?_)
  refine step 0 σ3 _ (by omega) h3 (by rw [List.length_append, List.length_append, List.length_append]; show _ + 1 + 1 + 1 < _; omega) m3 (fun σ4 h4 m4 => ?_)
  refine zW_iload_n dX10_feeds_3 rfl ?_
  refine zW_if_lt (tgt := 36) dX10_feeds_4 (by decide) (by first | assumption | omega | (unfold InR; omega) | (unfold InL; omega) | (simp only [InR] at *; omega)) (fun q => ?_) (fun q => ?_)
  · refine zW_return dX10_feeds_36 rfl (by first | decide | (show _ ≤ (0 : Nat); omega)) (by first | decide | (show _ ≤ (0 : Nat); omega)) ?_
    refine hQ σ4 ?_ m4
    have e : l ++ [byt v 24] ++ [byt v 16] ++ [byt v 8] ++ [byt v 0] = l ++ byts v := by simp [byts]
    rw [← e]
    exact h4
  · exact absurd q (by decide)
set_option maxRecDepth 100000 in
theorem q_append {v0 v1 v2 v3 v4 : Int} (h : RI σ y A) (hQ : RQ σ y (o_append A v0 v1 v2 v3 v4) Q) : zM Γ mX10_append [vR (some y), vI v0, vI v1, vI v2, vI v3, vI v4] σ Q := by
  refine zM_of (n := 0) (by decide +kernel) rfl rfl rfl ?_
  refine zW_aload_n dX10_append_0 rfl ?_
  refine zW_iconst dX10_append_1 ?_
  refine zpI dX10_append_2 fX10_75 h.1.1 rfl (Or.inl rfl) (zst_int _) ?_
  have m0 : Mr σ (sO σ y 0 0) y KS RS := Mr.O (by decide)
  have h0 := h.mr m0
  have t0 : zO (sO σ y 0 0) y 0 = 0 := zO_sOs _ _ _ _
  generalize sO σ y 0 0 = σ0 at m0 h0 t0 ⊢
  have a0 : RA σ0 y 0 := h0.ra
  have hI := h0.2.2.2.2.2.1
  have hI9 := hI.2.1
  have bl : ∀ v, (byts v).length = 4 := fun v => rfl
  refine zW_aload_n dX10_append_5 rfl ?_
  refine zgI dX10_append_6 fX10_206 a0.1.1 rfl hI.1 ?_
  refine zW_bipush dX10_append_9 (by decide) ?_
  refine zW_iadd dX10_append_11 ?_
  refine zW_sipush dX10_append_12 (by decide) ?_
  refine zW_icmp_le (tgt := 24) dX10_append_15 (by decide) (by first | assumption | omega | (unfold InR; omega) | (unfold InL; omega) | (simp only [InR] at *; omega)) (by first | assumption | omega | (unfold InR; omega) | (unfold InL; omega) | (simp only [InR] at *; omega)) (fun q => ?_) (fun q => ?_)
  · refine zW_aload_n dX10_append_24 rfl ?_
    refine zW_iload_n dX10_append_25 rfl ?_
    refine zcV1 dX10_append_26 rfl eX10_feeds b1375 ⟨by decide, by decide, by decide, by decide⟩ rfl a0.1.1 rfl (by decide) (Nat.le_of_ble_eq_true rfl) (r_feeds a0.1 hI (by omega) (fun σ1 h1 m1 => ?_))
    have k1 := a0.1.mr m1
    refine zW_aload_n dX10_append_29 rfl ?_
    refine zW_iload_n dX10_append_30 rfl ?_
    refine zcV1 dX10_append_31 rfl eX10_feeds b1375 ⟨by decide, by decide, by decide, by decide⟩ rfl k1.1 rfl (by decide) (Nat.le_of_ble_eq_true rfl) (r_feeds k1 h1 (by rw [List.length_append, bl]; omega) (fun σ2 h2 n2 => ?_))
    have m2 := m1.tr n2
    have k2 := a0.1.mr m2
    refine zW_aload_n dX10_append_34 rfl ?_
    refine zW_iload_n dX10_append_35 rfl ?_
    refine zcV1 dX10_append_36 rfl eX10_feeds b1375 ⟨by decide, by decide, by decide, by decide⟩ rfl k2.1 rfl (by decide) (Nat.le_of_ble_eq_true rfl) (r_feeds k2 h2 (by rw [List.length_append, List.length_append, bl, bl]; omega) (fun σ3 h3 n3 => ?_))
    have m3 := m2.tr n3
    have k3 := a0.1.mr m3
    refine zW_aload_n dX10_append_39 rfl ?_
    refine zW_iload dX10_append_40 rfl ?_
    refine zcV1 dX10_append_42 rfl eX10_feeds b1375 ⟨by decide, by decide, by decide, by decide⟩ rfl k3.1 rfl (by decide) (Nat.le_of_ble_eq_true rfl) (r_feeds k3 h3 (by rw [List.length_append, List.length_append, List.length_append, bl, bl, bl]; omega) (fun σ4 h4 n4 => ?_))
    have m4 := m3.tr n4
    have k4 := a0.1.mr m4
    refine zW_aload_n dX10_append_45 rfl ?_
    refine zW_iload dX10_append_46 rfl ?_
    refine zcV1 dX10_append_48 rfl eX10_feeds b1375 ⟨by decide, by decide, by decide, by decide⟩ rfl k4.1 rfl (by decide) (Nat.le_of_ble_eq_true rfl) (r_feeds k4 h4 (by rw [List.length_append, List.length_append, List.length_append, List.length_append, bl, bl, bl, bl]; omega) (fun σ5 h5 n5 => ?_))
    have m5 := m4.tr n5
    have k5 := a0.1.mr m5
    have hl : zO σ5 y 7 = (((aIn A).length + 20 : Nat) : Int) := by
      rw [h5.1, List.length_append, List.length_append, List.length_append, List.length_append, List.length_append, bl, bl, bl, bl, bl]
    refine zW_aload_n dX10_append_51 rfl ?_
    refine zgI dX10_append_52 fX10_206 k5.1 rfl hl ?_
    refine zW_ireturn dX10_append_55 rfl rfl (by first | decide | (show _ ≤ (0 : Nat); omega)) (by first | decide | (show _ ≤ (0 : Nat); omega)) ?_
    exact hQ.done (if_pos (by omega)) (h0.inp m5 h5) ((m0.wk (Ks' := KA) (Rs' := RSA) (by decide) (by decide)).th m5 (by decide) (by decide)) (by rw [m5.o (by decide)]; exact t0)
  · refine zW_aload_n dX10_append_18 rfl ?_
    refine zW_iconst dX10_append_19 ?_
    refine zcV1 dX10_append_20 rfl eX10_fails b1371 ⟨by decide, by decide, by decide, by decide⟩ rfl a0.1.1 rfl (by decide) (Nat.le_of_ble_eq_true rfl) (r_fails a0.1 ?_)
    refine zW_ireturn dX10_append_23 rfl rfl (by first | decide | (show _ ≤ (0 : Nat); omega)) (by first | decide | (show _ ≤ (0 : Nat); omega)) ?_
    exact hQ.bad (k := 0) (if_neg (by omega)) h (m0.th (Mr.O (Ks := KS) (Rs := RS) (by decide)) (fun _ z => z) (fun _ z => z)) (zO_sOs _ _ _ _)
/-- as RQ, for a call that answers nothing -/
def RQV (σ : HS) (y : Nat) (o : Out) (Q : Res → HS → Prop) : Prop := ∀ σ', RI σ' y o.2.2 → zO σ' y 0 = (o.1 : Int) → Md σ σ' (yr y) → Q (.inl none) σ'
set_option maxRecDepth 100000 in
theorem q_truncate {n : Int} (h : RI σ y A) (inn : InR n) (hQ : RQV σ y (o_truncate A n) Q) : zM Γ mX10_truncate [vR (some y), vI n] σ Q := by
  refine zM_of (n := 0) (by decide +kernel) rfl rfl rfl ?_
  refine zW_aload_n dX10_truncate_0 rfl ?_
  refine zW_iconst dX10_truncate_1 ?_
  refine zpI dX10_truncate_2 fX10_75 h.1.1 rfl (Or.inl rfl) (zst_int _) ?_
  have m0 : Mr σ (sO σ y 0 0) y KS RS := Mr.O (by decide)
  have h0 := h.mr m0
  have t0 : zO (sO σ y 0 0) y 0 = 0 := zO_sOs _ _ _ _
  generalize sO σ y 0 0 = σ0 at m0 h0 t0 ⊢
  have a0 : RA σ0 y 0 := h0.ra
  have hI := h0.2.2.2.2.2.1
  have hI9 := hI.2.1
  have bd : ¬ (0 ≤ n ∧ n ≤ ((aIn A).length : Nat)) → zW Γ mX10_truncate 17 [some (vR (some y)), some (vI n)] [] σ0 0 0 Q := by
    intro hno
    have ho : o_truncate A n = (1, 0, A) := if_neg hno
    unfold RQV at hQ
    rw [ho] at hQ
    refine zW_aload_n dX10_truncate_17 rfl ?_
    refine zW_iconst dX10_truncate_18 ?_
    refine zpI dX10_truncate_19 fX10_75 a0.1.1 rfl (Or.inl rfl) (zst_int _) ?_
    refine zW_goto (tgt := 30) dX10_truncate_22 (by decide) ?_
    refine zW_return dX10_truncate_30 rfl (by first | decide | (show _ ≤ (0 : Nat); omega)) (by first | decide | (show _ ≤ (0 : Nat); omega)) ?_
    have m1 : Mr σ (sO σ0 y 0 1) y KS RS := m0.th (Mr.O (Ks := KS) (Rs := RS) (by decide)) (fun _ z => z) (fun _ z => z)
    exact hQ _ (h.mr m1) (zO_sOs _ _ _ _) (m1.md (by decide))
  refine zW_iload_n dX10_truncate_5 rfl ?_
  refine zW_if_lt (tgt := 17) dX10_truncate_6 (by decide) (by first | assumption | omega | (unfold InR; omega) | (unfold InL; omega) | (simp only [InR] at *; omega)) (fun q => ?_) (fun q => ?_)
  · exact bd (by omega)
  · refine zW_iload_n dX10_truncate_9 rfl ?_
    refine zW_aload_n dX10_truncate_10 rfl ?_
    refine zgI dX10_truncate_11 fX10_206 a0.1.1 rfl hI.1 ?_
    refine zW_icmp_le (tgt := 25) dX10_truncate_14 (by decide) (by first | assumption | omega | (unfold InR; omega) | (unfold InL; omega) | (simp only [InR] at *; omega)) (by first | assumption | omega | (unfold InR; omega) | (unfold InL; omega) | (simp only [InR] at *; omega)) (fun q2 => ?_) (fun q2 => ?_)
    · have ho : o_truncate A n = (0, 0, aWin A ((aIn A).take n.toNat)) := if_pos ⟨by omega, by omega⟩
      unfold RQV at hQ
      rw [ho] at hQ
      refine zW_aload_n dX10_truncate_25 rfl ?_
      refine zW_iload_n dX10_truncate_26 rfl ?_
      refine zpI dX10_truncate_27 fX10_206 a0.1.1 rfl (Or.inl rfl) (zst_int _) ?_
      refine zW_return dX10_truncate_30 rfl (by first | decide | (show _ ≤ (0 : Nat); omega)) (by first | decide | (show _ ≤ (0 : Nat); omega)) ?_
      have m1 : Mr σ0 (sO σ0 y 7 n) y [7] [2] := Mr.O (by decide)
      obtain ⟨c1, c2, c3, c4⟩ := hI
      refine hQ _ (h0.inp m1 ⟨?_, by rw [List.length_take]; omega, fun i hi => ?_, fun z hz => c4 z (List.mem_of_mem_take hz)⟩) (by rw [m1.o (by decide)]; exact t0) (Mr.md (Ks := KA) (Rs := RSA) ((m0.wk (by decide) (by decide)).th m1 (by decide) (by decide)) (by decide))
      · rw [zO_sOs, List.length_take]; omega
      · rw [List.length_take] at hi
        rw [zI_sO, c3 i (by omega), getD_take (by omega)]
    · exact bd (by omega)
set_option maxRecDepth 100000 in
theorem r_copies {f t : Nat} (h : RK σ y) (hf : f ≤ 10) (ht : t ≤ 10) (hd : f ≠ t) (hQ : ∀ σ', (∀ k, k < 1223 → zI σ' (y + 1) (1223 * t + k) = zI σ (y + 1) (1223 * f + k)) → (∀ k, (k < 1223 * t ∨ 1223 * t + 1223 ≤ k) → zI σ' (y + 1) k = zI σ (y + 1) k) → Mr σ σ' y [] [1] → Q (.inl none) σ') : zM Γ mX10_copies [vR (some y), vI f, vI t] σ Q := by
  refine zM_of (n := 1) (by decide +kernel) rfl rfl rfl ?_
  have loop : ∀ n k σ1, k + n = 1223 → (∀ j, j < k → zI σ1 (y + 1) (1223 * t + j) = zI σ (y + 1) (1223 * f + j)) → (∀ j, (j < 1223 * t ∨ 1223 * t + k ≤ j) → zI σ1 (y + 1) j = zI σ (y + 1) j) → Mr σ σ1 y [] [1] → zW Γ mX10_copies 2 [some (vR (some y)), some (vI f), some (vI t), some (vI k)] [] σ1 0 0 Q := by
    intro n
    induction n with
    | zero =>
      intro k σ1 hk h1 h2 m1
      refine zW_iload_n dX10_copies_2 rfl ?_
      refine zW_sipush dX10_copies_3 (by decide) ?_
      refine zW_icmp_ge (tgt := 39) dX10_copies_6 (by decide) (by first | assumption | omega | (unfold InR; omega) | (unfold InL; omega) | (simp only [InR] at *; omega)) (by first | assumption | omega | (unfold InR; omega) | (unfold InL; omega) | (simp only [InR] at *; omega)) (fun q => ?_) (fun q => ?_)
      · refine zW_return dX10_copies_39 rfl (by first | decide | (show _ ≤ (0 : Nat); omega)) (by first | decide | (show _ ≤ (0 : Nat); omega)) ?_
        exact hQ σ1 (fun j hj => h1 j (by omega)) (fun j hj => h2 j (by omega)) m1
      · exact absurd q (by omega)
    | succ n ih =>
      intro k σ1 hk h1 h2 m1
      have k1 := h.mr m1
      refine zW_iload_n dX10_copies_2 rfl ?_
      refine zW_sipush dX10_copies_3 (by decide) ?_
      refine zW_icmp_ge (tgt := 39) dX10_copies_6 (by decide) (by first | assumption | omega | (unfold InR; omega) | (unfold InL; omega) | (simp only [InR] at *; omega)) (by first | assumption | omega | (unfold InR; omega) | (unfold InL; omega) | (simp only [InR] at *; omega)) (fun q => ?_) (fun q => ?_)
      · exact absurd q (by omega)
      · refine zW_aload_n dX10_copies_9 rfl ?_
        refine zgP dX10_copies_10 fX10_7 k1.1 rfl k1.p_states ?_
        refine zW_sipush dX10_copies_13 (by decide) ?_
        refine zW_iload_n dX10_copies_16 rfl ?_
        refine zW_imul dX10_copies_17 ?_
        refine zW_iload_n dX10_copies_18 rfl ?_
        refine zW_iadd dX10_copies_19 ?_
        refine zW_aload_n dX10_copies_20 rfl ?_
        refine zgP dX10_copies_21 fX10_7 k1.1 rfl k1.p_states ?_
        refine zW_sipush dX10_copies_24 (by decide) ?_
        refine zW_iload_n dX10_copies_27 rfl ?_
        refine zW_imul dX10_copies_28 ?_
        refine zW_iload_n dX10_copies_29 rfl ?_
        refine zW_iadd dX10_copies_30 ?_
        refine zrI dX10_copies_31 k1.k_states (by first | assumption | omega | (unfold InR; omega) | (unfold InL; omega) | (simp only [InR] at *; omega)) (by first | assumption | omega | (unfold InR; omega) | (unfold InL; omega) | (simp only [InR] at *; omega)) (by first | assumption | omega | (unfold InR; omega) | (unfold InL; omega) | (simp only [InR] at *; omega)) (zix (f := zI σ1 (y + 1)) (j := 1223 * f + k) (by omega) (h2 _ (by omega))) ?_
        refine zW_iast dX10_copies_32 k1.k_states (by first | assumption | omega | (unfold InR; omega) | (unfold InL; omega) | (simp only [InR] at *; omega)) (by first | assumption | omega | (unfold InR; omega) | (unfold InL; omega) | (simp only [InR] at *; omega)) (by first | assumption | omega | (unfold InR; omega) | (unfold InL; omega) | (simp only [InR] at *; omega)) ?_
        refine zW_iinc dX10_copies_33 rfl (by decide) rfl rfl ?_
        refine zW_goto (tgt := 2) dX10_copies_36 (by decide) ?_
        have e9 : ((1223 : Int) * (t : Int) + (k : Int)).toNat = 1223 * t + k := by omega
        rw [e9]
        refine ih (k + 1) _ (by omega) (fun j hj => ?_) (fun j hj => ?_) (m1.tr (Mr.I (by decide)))
        · by_cases e : j = k
          · rw [e, zI_sIs]
          · rw [zI_sIk _ _ _ _ (by omega)]; exact h1 j (by omega)
        · rw [zI_sIk _ _ _ _ (by omega)]; exact h2 j (by omega)
  refine zW_iconst dX10_copies_0 ?_
  refine zW_istore_n dX10_copies_1 (by decide) rfl rfl ?_
  exact loop 1223 0 σ (by omega) (fun j hj => absurd hj (Nat.not_lt_zero j)) (fun j _ => rfl) Mr.rf
set_option maxRecDepth 100000 in
theorem getE_take {l : List ST} {i n : Nat} {t : ST} (h : (l.take n)[i]? = some t) : l[i]? = some t ∧ i < n := by
  have hl := (List.getElem?_eq_some_iff.mp h).1
  rw [List.length_take] at hl
  rw [List.getElem?_take_of_lt (by omega)] at h
  exact ⟨h, by omega⟩
set_option maxRecDepth 100000 in
/-- the rows of states: what an edit may touch -/
theorem RI.st {hi : List ST} {t : ST} (h : RI σ y A) (m : Mr σ σ' y [3, 4] [1]) (hS : SR σ' y 0 t) (hH : rHi σ' y hi) (h9 : ∀ k, 11007 ≤ k → k < 12230 → zI σ' (y + 1) k = zI σ (y + 1) k) : RI σ' y (aWith A t hi) := by
  obtain ⟨a1, a2, a3, a4, a5, a6, a7, a8⟩ := h
  exact ⟨a1.mr m, by rw [m.o (by decide)]; exact a2, hS, hH, ⟨by rw [m.o (by decide)]; exact a5.1, fun t ht => (a5.2 t ht).same (fun k k1 k2 => h9 k k1 (by omega))⟩, ⟨by rw [m.o (by decide)]; exact a6.1, a6.2.1, fun i hi => by rw [m.i (by decide)]; exact a6.2.2.1 i hi, a6.2.2.2⟩, ⟨by rw [m.o (by decide)]; exact a7.1, by rw [m.o (by decide)]; exact a7.2⟩, ⟨by rw [m.o (by decide)]; exact a8.1, a8.2.1, fun i hi => by rw [m.i (by decide)]; exact a8.2.2.1 i hi, a8.2.2.2⟩⟩
set_option maxRecDepth 100000 in
theorem rHi.same {hi : List ST} (h : rHi σ y hi) (m : Mr σ σ' y [] [1]) (e : ∀ k, 1223 ≤ k → k < 11007 → zI σ' (y + 1) k = zI σ (y + 1) k) : rHi σ' y hi := by
  obtain ⟨a1, a2, f, f1, f2, f3⟩ := h
  refine ⟨a1, by rw [m.o (by decide)]; exact a2, f, f1, by rw [m.o (by decide)]; exact f2, fun i t ht => (f3 i t ht).same (fun k k1 k2 => e k (by omega) ?_)⟩
  have : (f + hi.length - 1 - i) % 8 < 8 := Nat.mod_lt _ (by decide)
  omega
set_option maxRecDepth 100000 in
theorem r_records (h : RI σ y A) (hQ : ∀ σ', RI σ' y (aWith A (aSt A) (aHist A)) → Mr σ σ' y [3, 4] [1] → Q (.inl none) σ') : zM Γ mX10_records [vR (some y)] σ Q := by
  obtain ⟨hl, hc, f, f1, f2, f3⟩ := id h.2.2.2.1
  have k0 := h.1
  have hS := h.2.2.1
  have tk : ∀ i t, (aHist A)[i]? = some t → (i = 0 ∧ t = aSt A) ∨ (1 ≤ i ∧ i < 8 ∧ (aHi A)[i - 1]? = some t) := by
    intro i t ht
    obtain ⟨h1, h2⟩ := getE_take ht
    rcases Nat.eq_zero_or_pos i with e | e
    · subst e
      exact Or.inl ⟨rfl, (Option.some.inj h1).symm⟩
    · obtain ⟨j, rfl⟩ : ∃ j, i = j + 1 := ⟨i - 1, by omega⟩
      exact Or.inr ⟨by omega, h2, h1⟩
  refine zM_of (n := 1) (by decide +kernel) rfl rfl rfl ?_
  -- behind the numbers: the state is laid down at the place s
  have go : ∀ (s f' : Nat) (σ1 : HS), s < 8 → f' < 8 → Mr σ σ1 y [3, 4] [] → zO σ1 y 3 = ((aHist A).length : Int) → zO σ1 y 4 = (f' : Int) → (f' + (aHist A).length - 1) % 8 = s → (∀ (i : Nat) (t : ST), 1 ≤ i → (aHist A)[i]? = some t → SR σ y (1223 * (1 + (f' + (aHist A).length - 1 - i) % 8)) t ∧ (f' + (aHist A).length - 1 - i) % 8 ≠ s) → zW Γ mX10_records 48 [some (vR (some y)), some (vI s)] [] σ1 0 0 Q := by
    intro s f' σ1 hs hf' m1 e3 e4 e5 e6
    have k1 := k0.mr m1
    have x1 := m1.i (i := 1) (by decide)
    refine zW_aload_n dX10_records_48 rfl ?_
    refine zW_iconst dX10_records_49 ?_
    refine zW_iconst dX10_records_50 ?_
    refine zW_iload_n dX10_records_51 rfl ?_
    refine zW_iadd dX10_records_52 ?_
    refine zcV2 dX10_records_53 rfl eX10_copies b1472 ⟨by decide, by decide, by decide, by decide⟩ rfl k1.1 rfl (by decide) (Nat.le_of_ble_eq_true rfl) (r_copies (f := 0) (t := 1 + s) k1 (by omega) (by omega) (by omega) (fun σ2 c1 c2 m2 => ?_))
    refine zW_return dX10_records_56 rfl (by first | decide | (show _ ≤ (0 : Nat); omega)) (by first | decide | (show _ ≤ (0 : Nat); omega)) ?_
    have m12 : Mr σ σ2 y [3, 4] [1] := (m1.wk (Ks' := [3, 4]) (Rs' := [1]) (by decide) (by decide)).th m2 (by decide) (by decide)
    rw [x1] at c1 c2
    have hS2 : SR σ2 y (1223 * (1 + s)) (aSt A) := hS.move (fun k hk => by rw [c1 k hk, Nat.mul_zero])
    have hS0 : SR σ2 y 0 (aSt A) := hS.same (fun k _ k2 => c2 k (by omega))
    refine hQ σ2 (h.st m12 hS0 ⟨by unfold aHist; rw [List.length_take]; omega, by rw [m2.o (by decide)]; exact e3, f', hf', by rw [m2.o (by decide)]; exact e4, fun i t ht => ?_⟩ (fun k k1 k2 => c2 k (by omega))) m12
    rcases tk i t ht with ⟨z1, z2⟩ | ⟨z1, z2, z3⟩
    · rw [z1, z2, Nat.sub_zero, e5]
      exact hS2
    · obtain ⟨w1, w2⟩ := e6 i t z1 ht
      have : (f' + (aHist A).length - 1 - i) % 8 < 8 := Nat.mod_lt _ (by decide)
      exact w1.same (fun k k1 k2 => c2 k (by omega))
  have em : ((f : Int) + ((aHi A).length : Int)) % 8 = (((f + (aHi A).length) % 8 : Nat) : Int) := by omega
  have hsl : (f + (aHi A).length) % 8 < 8 := Nat.mod_lt _ (by decide)
  refine zW_aload_n dX10_records_0 rfl ?_
  refine zgI dX10_records_1 fX10_81 k0.1 rfl f2 ?_
  refine zW_aload_n dX10_records_4 rfl ?_
  refine zgI dX10_records_5 fX10_84 k0.1 rfl hc ?_
  refine zW_iadd dX10_records_8 ?_
  refine zW_bipush dX10_records_9 (by decide) ?_
  refine zW_irem dX10_records_11 (by first | assumption | omega | (unfold InR; omega) | (unfold InL; omega) | (simp only [InR] at *; omega)) (by first | assumption | omega | (unfold InR; omega) | (unfold InL; omega) | (simp only [InR] at *; omega)) (by first | assumption | omega | (unfold InR; omega) | (unfold InL; omega) | (simp only [InR] at *; omega)) (by first | assumption | omega | (unfold InR; omega) | (unfold InL; omega) | (simp only [InR] at *; omega)) ?_
  rw [em]
  refine zW_istore_n dX10_records_12 (by decide) rfl rfl ?_
  refine zW_aload_n dX10_records_13 rfl ?_
  refine zgI dX10_records_14 fX10_84 k0.1 rfl hc ?_
  refine zW_bipush dX10_records_17 (by decide) ?_
  refine zW_icmp_ne (tgt := 38) dX10_records_19 (by decide) (by first | assumption | omega | (unfold InR; omega) | (unfold InL; omega) | (simp only [InR] at *; omega)) (by first | assumption | omega | (unfold InR; omega) | (unfold InL; omega) | (simp only [InR] at *; omega)) (fun q => ?_) (fun q => ?_)
  · refine zW_aload_n dX10_records_38 rfl ?_
    refine zW_dup dX10_records_39 rfl ?_
    refine zgI dX10_records_40 fX10_84 k0.1 rfl hc ?_
    refine zW_iconst dX10_records_43 ?_
    refine zW_iadd dX10_records_44 ?_
    refine zpI dX10_records_45 fX10_84 k0.1 rfl (Or.inl rfl) (zst_int _) ?_
    have hlen : (aHist A).length = (aHi A).length + 1 := by unfold aHist; rw [List.length_take, List.length_cons]; omega
    refine go _ f _ hsl f1 (Mr.O (by decide)) (by rw [zO_sOs, hlen]; rfl) (by rw [zO_sOk _ _ _ _ (by omega)]; exact f2) (by rw [hlen]; congr 1) (fun i t hi ht => ?_)
    rcases tk i t ht with ⟨z1, z2⟩ | ⟨z1, z2, z3⟩
    · omega
    · have hil := (List.getElem?_eq_some_iff.mp z3).1
      have := f3 (i - 1) t z3
      rw [hlen]
      rw [show f + (aHi A).length - 1 - (i - 1) = f + ((aHi A).length + 1) - 1 - i by omega] at this
      exact ⟨this, by omega⟩
  · have e8 : (aHi A).length = 8 := by omega
    have em2 : ((f : Int) + 1) % 8 = (((f + 1) % 8 : Nat) : Int) := by omega
    refine zW_aload_n dX10_records_22 rfl ?_
    refine zW_aload_n dX10_records_23 rfl ?_
    refine zgI dX10_records_24 fX10_81 k0.1 rfl f2 ?_
    refine zW_iconst dX10_records_27 ?_
    refine zW_iadd dX10_records_28 ?_
    refine zW_bipush dX10_records_29 (by decide) ?_
    refine zW_irem dX10_records_31 (by first | assumption | omega | (unfold InR; omega) | (unfold InL; omega) | (simp only [InR] at *; omega)) (by first | assumption | omega | (unfold InR; omega) | (unfold InL; omega) | (simp only [InR] at *; omega)) (by first | assumption | omega | (unfold InR; omega) | (unfold InL; omega) | (simp only [InR] at *; omega)) (by first | assumption | omega | (unfold InR; omega) | (unfold InL; omega) | (simp only [InR] at *; omega)) ?_
    refine zpI dX10_records_32 fX10_81 k0.1 rfl (Or.inl rfl) (zst_int _) ?_
    rw [em2]
    refine zW_goto (tgt := 48) dX10_records_35 (by decide) ?_
    have hlen : (aHist A).length = 8 := by unfold aHist; rw [List.length_take, List.length_cons]; omega
    refine go _ ((f + 1) % 8) _ hsl (Nat.mod_lt _ (by decide)) (Mr.O (by decide)) (by rw [zO_sOk _ _ _ _ (by omega), hlen, hc, e8]) (zO_sOs _ _ _ _) (by rw [hlen, e8]; omega) (fun i t hi ht => ?_)
    rcases tk i t ht with ⟨z1, z2⟩ | ⟨z1, z2, z3⟩
    · omega
    · have := f3 (i - 1) t z3
      rw [e8] at this
      rw [hlen, e8]
      have e : ((f + 1) % 8 + 8 - 1 - i) % 8 = (f + 8 - 1 - (i - 1)) % 8 := by omega
      rw [e]
      exact ⟨this, by omega⟩
set_option maxRecDepth 100000 in
theorem r_keeps {r : Int} (h : RI σ y A) (hr : inR8 r) (hp : RP σ y w) (hl : w.length ≤ 60) (hQ : ∀ σ', RI σ' y (aSet A r w) → Mr σ σ' y [3, 4] [1] → Q (.inl (some (vI w.length))) σ') : zM Γ mX10_keeps [vR (some y), vI r] σ Q := by
  refine zM_of (n := 0) (by decide +kernel) rfl rfl rfl ?_
  refine zW_aload_n dX10_keeps_0 rfl ?_
  refine zcV0 dX10_keeps_1 rfl eX10_records b1784 ⟨by decide, by decide, by decide, by decide⟩ rfl h.1.1 rfl (by decide) (Nat.le_of_ble_eq_true rfl) (r_records h (fun σ1 h1 m1 => ?_))
  have a1 := h1.ra
  have hr8 : r.toNat < 8 := by unfold inR8 at hr; omega
  refine zW_aload_n dX10_keeps_4 rfl ?_
  refine zW_iload_n dX10_keeps_5 rfl ?_
  refine zcS1 dX10_keeps_6 rfl eX10_register b1455 ⟨by decide, by decide, by decide, by decide⟩ rfl (Nat.le_of_ble_eq_true rfl) (r_register hr ?_)
  refine zcV1 dX10_keeps_9 rfl eX10_lays b1458 ⟨by decide, by decide, by decide, by decide⟩ rfl a1.1.1 rfl (by decide) (Nat.le_of_ble_eq_true rfl) (r_lays a1 (hp.mr m1) hl (by omega) (fun σ2 hw m2 hout => ?_))
  refine zW_ireturn dX10_keeps_12 rfl rfl (by first | decide | (show _ ≤ (0 : Nat); omega)) (by first | decide | (show _ ≤ (0 : Nat); omega)) ?_
  have hS1 := h1.2.2.1
  have hw' : Rw σ2 y (0 + 1 + 61 * r.toNat) w := by rw [show 0 + 1 + 61 * r.toNat = 0 + (1 + 61 * r.toNat) by omega]; exact hw
  have hS2 : SR σ2 y 0 (sReg (aSt A) r.toNat w) := by
    refine ⟨by rw [hout 0 (by omega)]; exact hS1.1, fun k hk => ?_, fun g hg => ?_⟩
    · show Rw σ2 y (0 + 1 + 61 * k) (if k = r.toNat then w else sRg (aSt A) k)
      by_cases e : k = r.toNat
      · rw [if_pos e, e]; exact hw'
      · rw [if_neg e]; exact (hS1.2.1 k hk).same (fun j j1 j2 => hout j (by omega))
    · obtain ⟨b1, b2, b3⟩ := hS1.2.2 g hg
      exact ⟨by rw [hout _ (by omega)]; exact b1, b2, fun k hk => (b3 k hk).same (fun j j1 j2 => hout j (by omega))⟩
  exact hQ σ2 (h1.st (m2.wk (by decide) (by decide)) hS2 (h1.2.2.2.1.same m2 (fun k k1 k2 => hout k (by omega))) (fun k k1 k2 => hout k (by omega))) (m1.th m2 (by decide) (by decide))
set_option maxRecDepth 100000 in
theorem o3_no {p r s : Int} {o : Out} (h : ¬ (inR8 p ∧ inR8 r ∧ inR8 s)) : (if inR8 p then (if inR8 r then (if inR8 s then o else (1, 0, A)) else (1, 0, A)) else (1, 0, A)) = ((1, 0, A) : Out) := by
  by_cases g : inR8 p
  · rw [if_pos g]
    by_cases g2 : inR8 r
    · rw [if_pos g2, if_neg (fun z => h ⟨g, g2, z⟩)]
    · rw [if_neg g2]
  · rw [if_neg g]
set_option maxRecDepth 100000 in
theorem o3_yes {p r s : Int} {o : Out} (g : inR8 p) (g2 : inR8 r) (g3 : inR8 s) : (if inR8 p then (if inR8 r then (if inR8 s then o else (1, 0, A)) else (1, 0, A)) else (1, 0, A)) = o := by
  rw [if_pos g, if_pos g2, if_pos g3]
set_option maxRecDepth 100000 in
theorem o2_no {p r : Int} {o : Out} (h : ¬ (inR8 p ∧ inR8 r)) : (if inR8 p then (if inR8 r then o else (1, 0, A)) else (1, 0, A)) = ((1, 0, A) : Out) := by
  by_cases g : inR8 p
  · rw [if_pos g, if_neg (fun z => h ⟨g, z⟩)]
  · rw [if_neg g]
set_option maxRecDepth 100000 in
theorem o2_yes {p r : Int} {o : Out} (g : inR8 p) (g2 : inR8 r) : (if inR8 p then (if inR8 r then o else (1, 0, A)) else (1, 0, A)) = o := by
  rw [if_pos g, if_pos g2]
set_option maxRecDepth 100000 in
theorem q_setProduct {p r s : Int} (h : RI σ y A) (ip : InR p) (ir : InR r) (is : InR s) (hQ : RQ σ y (o_setProduct A p r s) Q) : zM Γ mX10_setProduct [vR (some y), vI p, vI r, vI s] σ Q := by
  refine zM_of (n := 0) (by decide +kernel) rfl rfl rfl ?_
  refine zW_aload_n dX10_setProduct_0 rfl ?_
  refine zW_iconst dX10_setProduct_1 ?_
  refine zpI dX10_setProduct_2 fX10_75 h.1.1 rfl (Or.inl rfl) (zst_int _) ?_
  have m0 : Mr σ (sO σ y 0 0) y KS RS := Mr.O (by decide)
  have h0 := h.mr m0
  have t0 : zO (sO σ y 0 0) y 0 = 0 := zO_sOs _ _ _ _
  generalize sO σ y 0 0 = σ0 at m0 h0 t0 ⊢
  have a0 : RA σ0 y 0 := h0.ra
  have bd : ¬ (inR8 p ∧ inR8 r ∧ inR8 s) → zW Γ mX10_setProduct 20 [some (vR (some y)), some (vI p), some (vI r), some (vI s)] [] σ0 0 0 Q := by
    intro hno
    refine zW_aload_n dX10_setProduct_20 rfl ?_
    refine zW_iconst dX10_setProduct_21 ?_
    refine zcV1 dX10_setProduct_22 rfl eX10_fails b1371 ⟨by decide, by decide, by decide, by decide⟩ rfl a0.1.1 rfl (by decide) (Nat.le_of_ble_eq_true rfl) (r_fails a0.1 ?_)
    refine zW_ireturn dX10_setProduct_25 rfl rfl (by first | decide | (show _ ≤ (0 : Nat); omega)) (by first | decide | (show _ ≤ (0 : Nat); omega)) ?_
    exact hQ.bad (k := 0) (o3_no hno) h (m0.th (Mr.O (Ks := KS) (Rs := RS) (by decide)) (fun _ z => z) (fun _ z => z)) (zO_sOs _ _ _ _)
  refine zW_iload_n dX10_setProduct_5 rfl ?_
  refine zcS1 dX10_setProduct_6 rfl eX10_isRegister b1492 ⟨by decide, by decide, by decide, by decide⟩ rfl (Nat.le_of_ble_eq_true rfl) (r_isRegister ip (fun gp => ?_) (fun gp => ?_))
  · refine zW_if_eq (tgt := 20) dX10_setProduct_9 (by decide) (by first | assumption | omega | (unfold InR; omega) | (unfold InL; omega) | (simp only [InR] at *; omega)) (fun q => ?_) (fun q => ?_)
    · exact absurd q (by decide)
    · refine zW_iload_n dX10_setProduct_12 rfl ?_
      refine zW_iload_n dX10_setProduct_13 rfl ?_
      refine zcS2 dX10_setProduct_14 rfl eX10_areRegisters b1510 ⟨by decide, by decide, by decide, by decide⟩ rfl (Nat.le_of_ble_eq_true rfl) (r_areRegisters ir is (fun gr gs => ?_) (fun g => ?_))
      · refine zW_if_ne (tgt := 26) dX10_setProduct_17 (by decide) (by first | assumption | omega | (unfold InR; omega) | (unfold InL; omega) | (simp only [InR] at *; omega)) (fun q2 => ?_) (fun q2 => ?_)
        · have wr := h0.rw gr
          have ws := h0.rw gs
          have br := r8b gr
          have bs := r8b gs
          have lr := wr.2.1
          have ls := ws.2.1
          refine zW_aload_n dX10_setProduct_26 rfl ?_
          refine zW_iload_n dX10_setProduct_27 rfl ?_
          refine zcS1 dX10_setProduct_28 rfl eX10_register b1455 ⟨by decide, by decide, by decide, by decide⟩ rfl (Nat.le_of_ble_eq_true rfl) (r_register gr ?_)
          refine zW_iload_n dX10_setProduct_31 rfl ?_
          refine zcS1 dX10_setProduct_32 rfl eX10_register b1455 ⟨by decide, by decide, by decide, by decide⟩ rfl (Nat.le_of_ble_eq_true rfl) (r_register gs ?_)
          refine zcV2 dX10_setProduct_35 rfl eX10_products b1521 ⟨by decide, by decide, by decide, by decide⟩ rfl a0.1.1 rfl (by decide) (Nat.le_of_ble_eq_true rfl) (r_products a0 wr ws br bs (fun σ1 hp m1 => ?_))
          have m0σ1 : Mr σ σ1 y KS RS := m0.th m1 (by decide) (by decide)
          have hIσ1 := h.mr m0σ1
          have tσ1 : zO σ1 y 0 = 0 := by rw [Mr.o m1 (by decide)]; exact t0
          have ho9 : o_setProduct A p r s = o_store A p (pws (pws ([]) (reg A r)) (reg A s)) 2 := o3_yes gp gr gs
          refine zW_aload_n dX10_setProduct_38 rfl ?_
          refine zcV0 dX10_setProduct_39 rfl eX10_isTooLong b1451 ⟨by decide, by decide, by decide, by decide⟩ rfl hIσ1.1.1 rfl (by decide) (Nat.le_of_ble_eq_true rfl) (r_isTooLong hIσ1.1 hp ?_)
          by_cases hl9 : (pws (pws [] (reg A r)) (reg A s)).length ≤ 60
          · rw [if_pos hl9]
            refine zW_if_eq (tgt := 53) dX10_setProduct_42 (by decide) (by first | assumption | omega | (unfold InR; omega) | (unfold InL; omega) | (simp only [InR] at *; omega)) (fun b9 => ?_) (fun b9 => ?_)
            · refine zW_aload_n dX10_setProduct_53 rfl ?_
              refine zW_iload_n dX10_setProduct_54 rfl ?_
              refine zcV1 dX10_setProduct_55 rfl eX10_keeps b1780 ⟨by decide, by decide, by decide, by decide⟩ rfl hIσ1.1.1 rfl (by decide) (Nat.le_of_ble_eq_true rfl) (r_keeps hIσ1 gp hp hl9 (fun σ9 h9 m9 => ?_))
              refine zW_ireturn dX10_setProduct_58 rfl rfl (by first | decide | (show _ ≤ (0 : Nat); omega)) (by first | decide | (show _ ≤ (0 : Nat); omega)) ?_
              exact hQ.done (ho9.trans (if_pos hl9)) h9 (Mr.th (Mr.wk m0σ1 (Ks' := KA) (Rs' := RSA) (by decide) (by decide)) m9 (by decide) (by decide)) (by rw [m9.o (by decide)]; exact tσ1)
            · exact absurd rfl b9
          · rw [if_neg hl9]
            refine zW_if_eq (tgt := 53) dX10_setProduct_42 (by decide) (by first | assumption | omega | (unfold InR; omega) | (unfold InL; omega) | (simp only [InR] at *; omega)) (fun b9 => ?_) (fun b9 => ?_)
            · exact absurd b9 (by decide)
            · refine zW_aload_n dX10_setProduct_45 rfl ?_
              refine zW_iconst dX10_setProduct_46 ?_
              refine zcV1 dX10_setProduct_47 rfl eX10_fails b1371 ⟨by decide, by decide, by decide, by decide⟩ rfl hIσ1.1.1 rfl (by decide) (Nat.le_of_ble_eq_true rfl) (r_fails hIσ1.1 ?_)
              refine zW_goto (tgt := 58) dX10_setProduct_50 (by decide) ?_
              refine zW_ireturn dX10_setProduct_58 rfl rfl (by first | decide | (show _ ≤ (0 : Nat); omega)) (by first | decide | (show _ ≤ (0 : Nat); omega)) ?_
              exact hQ.bad (k := 1) (ho9.trans (if_neg hl9)) h (m0σ1.th (Mr.O (Ks := KS) (Rs := RS) (by decide)) (fun _ z => z) (fun _ z => z)) (zO_sOs _ _ _ _)
        · exact absurd q2 (by decide)
      · refine zW_if_ne (tgt := 26) dX10_setProduct_17 (by decide) (by first | assumption | omega | (unfold InR; omega) | (unfold InL; omega) | (simp only [InR] at *; omega)) (fun q2 => ?_) (fun q2 => ?_)
        · exact absurd rfl q2
        · exact bd (fun z => g z.2)
  · refine zW_if_eq (tgt := 20) dX10_setProduct_9 (by decide) (by first | assumption | omega | (unfold InR; omega) | (unfold InL; omega) | (simp only [InR] at *; omega)) (fun q => ?_) (fun q => ?_)
    · exact bd (fun z => gp z.1)
    · exact absurd rfl q
set_option maxRecDepth 100000 in
theorem q_setConjugate {p r s : Int} (h : RI σ y A) (ip : InR p) (ir : InR r) (is : InR s) (hQ : RQ σ y (o_setConjugate A p r s) Q) : zM Γ mX10_setConjugate [vR (some y), vI p, vI r, vI s] σ Q := by
  refine zM_of (n := 0) (by decide +kernel) rfl rfl rfl ?_
  refine zW_aload_n dX10_setConjugate_0 rfl ?_
  refine zW_iconst dX10_setConjugate_1 ?_
  refine zpI dX10_setConjugate_2 fX10_75 h.1.1 rfl (Or.inl rfl) (zst_int _) ?_
  have m0 : Mr σ (sO σ y 0 0) y KS RS := Mr.O (by decide)
  have h0 := h.mr m0
  have t0 : zO (sO σ y 0 0) y 0 = 0 := zO_sOs _ _ _ _
  generalize sO σ y 0 0 = σ0 at m0 h0 t0 ⊢
  have a0 : RA σ0 y 0 := h0.ra
  have bd : ¬ (inR8 p ∧ inR8 r ∧ inR8 s) → zW Γ mX10_setConjugate 20 [some (vR (some y)), some (vI p), some (vI r), some (vI s)] [] σ0 0 0 Q := by
    intro hno
    refine zW_aload_n dX10_setConjugate_20 rfl ?_
    refine zW_iconst dX10_setConjugate_21 ?_
    refine zcV1 dX10_setConjugate_22 rfl eX10_fails b1371 ⟨by decide, by decide, by decide, by decide⟩ rfl a0.1.1 rfl (by decide) (Nat.le_of_ble_eq_true rfl) (r_fails a0.1 ?_)
    refine zW_ireturn dX10_setConjugate_25 rfl rfl (by first | decide | (show _ ≤ (0 : Nat); omega)) (by first | decide | (show _ ≤ (0 : Nat); omega)) ?_
    exact hQ.bad (k := 0) (o3_no hno) h (m0.th (Mr.O (Ks := KS) (Rs := RS) (by decide)) (fun _ z => z) (fun _ z => z)) (zO_sOs _ _ _ _)
  refine zW_iload_n dX10_setConjugate_5 rfl ?_
  refine zcS1 dX10_setConjugate_6 rfl eX10_isRegister b1492 ⟨by decide, by decide, by decide, by decide⟩ rfl (Nat.le_of_ble_eq_true rfl) (r_isRegister ip (fun gp => ?_) (fun gp => ?_))
  · refine zW_if_eq (tgt := 20) dX10_setConjugate_9 (by decide) (by first | assumption | omega | (unfold InR; omega) | (unfold InL; omega) | (simp only [InR] at *; omega)) (fun q => ?_) (fun q => ?_)
    · exact absurd q (by decide)
    · refine zW_iload_n dX10_setConjugate_12 rfl ?_
      refine zW_iload_n dX10_setConjugate_13 rfl ?_
      refine zcS2 dX10_setConjugate_14 rfl eX10_areRegisters b1510 ⟨by decide, by decide, by decide, by decide⟩ rfl (Nat.le_of_ble_eq_true rfl) (r_areRegisters ir is (fun gr gs => ?_) (fun g => ?_))
      · refine zW_if_ne (tgt := 26) dX10_setConjugate_17 (by decide) (by first | assumption | omega | (unfold InR; omega) | (unfold InL; omega) | (simp only [InR] at *; omega)) (fun q2 => ?_) (fun q2 => ?_)
        · have wr := h0.rw gr
          have ws := h0.rw gs
          have br := r8b gr
          have bs := r8b gs
          have lr := wr.2.1
          have ls := ws.2.1
          refine zW_aload_n dX10_setConjugate_26 rfl ?_
          refine zcV0 dX10_setConjugate_27 rfl eX10_begins b1431 ⟨by decide, by decide, by decide, by decide⟩ rfl a0.1.1 rfl (by decide) (Nat.le_of_ble_eq_true rfl) (r_begins a0.1 (fun σ1 h1 m1 => ?_))
          have L1 : ([] : List Nat).length = 0 := rfl
          have A1 := a0.mr m1
          have L2 := pws_len (invw (reg A s)) ([])
          rw [invw_len] at L2
          refine zW_aload_n dX10_setConjugate_30 rfl ?_
          refine zW_iload_n dX10_setConjugate_31 rfl ?_
          refine zcS1 dX10_setConjugate_32 rfl eX10_register b1455 ⟨by decide, by decide, by decide, by decide⟩ rfl (Nat.le_of_ble_eq_true rfl) (r_register gs ?_)
          refine zcV1 dX10_setConjugate_35 rfl eX10_pushesInverse b1796 ⟨by decide, by decide, by decide, by decide⟩ rfl A1.1.1 rfl (by decide) (Nat.le_of_ble_eq_true rfl) (r_pushesInverse A1 (ws.mr m1) bs h1 (by omega) (fun σ2 h2 n2 => ?_))
          have m2 := m1.tr n2
          have A2 := a0.mr m2
          have L3 := pws_len (reg A r) (pws ([]) (invw (reg A s)))
          refine zW_aload_n dX10_setConjugate_38 rfl ?_
          refine zW_iload_n dX10_setConjugate_39 rfl ?_
          refine zcS1 dX10_setConjugate_40 rfl eX10_register b1455 ⟨by decide, by decide, by decide, by decide⟩ rfl (Nat.le_of_ble_eq_true rfl) (r_register gr ?_)
          refine zcV1 dX10_setConjugate_43 rfl eX10_pushesWord b1525 ⟨by decide, by decide, by decide, by decide⟩ rfl A2.1.1 rfl (by decide) (Nat.le_of_ble_eq_true rfl) (r_pushesWord A2 (wr.mr m2) br h2 (by omega) (fun σ3 h3 n3 => ?_))
          have m3 := m2.tr n3
          have A3 := a0.mr m3
          have L4 := pws_len (reg A s) (pws (pws ([]) (invw (reg A s))) (reg A r))
          refine zW_aload_n dX10_setConjugate_46 rfl ?_
          refine zW_iload_n dX10_setConjugate_47 rfl ?_
          refine zcS1 dX10_setConjugate_48 rfl eX10_register b1455 ⟨by decide, by decide, by decide, by decide⟩ rfl (Nat.le_of_ble_eq_true rfl) (r_register gs ?_)
          refine zcV1 dX10_setConjugate_51 rfl eX10_pushesWord b1525 ⟨by decide, by decide, by decide, by decide⟩ rfl A3.1.1 rfl (by decide) (Nat.le_of_ble_eq_true rfl) (r_pushesWord A3 (ws.mr m3) bs h3 (by omega) (fun σ4 h4 n4 => ?_))
          have m4 := m3.tr n4
          have m0σ4 : Mr σ σ4 y KS RS := m0.th m4 (by decide) (by decide)
          have hIσ4 := h.mr m0σ4
          have tσ4 : zO σ4 y 0 = 0 := by rw [Mr.o m4 (by decide)]; exact t0
          have ho9 : o_setConjugate A p r s = o_store A p (pws (pws (pws ([]) (invw (reg A s))) (reg A r)) (reg A s)) 2 := o3_yes gp gr gs
          refine zW_aload_n dX10_setConjugate_54 rfl ?_
          refine zcV0 dX10_setConjugate_55 rfl eX10_isTooLong b1451 ⟨by decide, by decide, by decide, by decide⟩ rfl hIσ4.1.1 rfl (by decide) (Nat.le_of_ble_eq_true rfl) (r_isTooLong hIσ4.1 h4 ?_)
          by_cases hl9 : (pws (pws (pws ([]) (invw (reg A s))) (reg A r)) (reg A s)).length ≤ 60
          · rw [if_pos hl9]
            refine zW_if_eq (tgt := 69) dX10_setConjugate_58 (by decide) (by first | assumption | omega | (unfold InR; omega) | (unfold InL; omega) | (simp only [InR] at *; omega)) (fun b9 => ?_) (fun b9 => ?_)
            · refine zW_aload_n dX10_setConjugate_69 rfl ?_
              refine zW_iload_n dX10_setConjugate_70 rfl ?_
              refine zcV1 dX10_setConjugate_71 rfl eX10_keeps b1780 ⟨by decide, by decide, by decide, by decide⟩ rfl hIσ4.1.1 rfl (by decide) (Nat.le_of_ble_eq_true rfl) (r_keeps hIσ4 gp h4 hl9 (fun σ9 h9 m9 => ?_))
              refine zW_ireturn dX10_setConjugate_74 rfl rfl (by first | decide | (show _ ≤ (0 : Nat); omega)) (by first | decide | (show _ ≤ (0 : Nat); omega)) ?_
              exact hQ.done (ho9.trans (if_pos hl9)) h9 (Mr.th (Mr.wk m0σ4 (Ks' := KA) (Rs' := RSA) (by decide) (by decide)) m9 (by decide) (by decide)) (by rw [m9.o (by decide)]; exact tσ4)
            · exact absurd rfl b9
          · rw [if_neg hl9]
            refine zW_if_eq (tgt := 69) dX10_setConjugate_58 (by decide) (by first | assumption | omega | (unfold InR; omega) | (unfold InL; omega) | (simp only [InR] at *; omega)) (fun b9 => ?_) (fun b9 => ?_)
            · exact absurd b9 (by decide)
            · refine zW_aload_n dX10_setConjugate_61 rfl ?_
              refine zW_iconst dX10_setConjugate_62 ?_
              refine zcV1 dX10_setConjugate_63 rfl eX10_fails b1371 ⟨by decide, by decide, by decide, by decide⟩ rfl hIσ4.1.1 rfl (by decide) (Nat.le_of_ble_eq_true rfl) (r_fails hIσ4.1 ?_)
              refine zW_goto (tgt := 74) dX10_setConjugate_66 (by decide) ?_
              refine zW_ireturn dX10_setConjugate_74 rfl rfl (by first | decide | (show _ ≤ (0 : Nat); omega)) (by first | decide | (show _ ≤ (0 : Nat); omega)) ?_
              exact hQ.bad (k := 1) (ho9.trans (if_neg hl9)) h (m0σ4.th (Mr.O (Ks := KS) (Rs := RS) (by decide)) (fun _ z => z) (fun _ z => z)) (zO_sOs _ _ _ _)
        · exact absurd q2 (by decide)
      · refine zW_if_ne (tgt := 26) dX10_setConjugate_17 (by decide) (by first | assumption | omega | (unfold InR; omega) | (unfold InL; omega) | (simp only [InR] at *; omega)) (fun q2 => ?_) (fun q2 => ?_)
        · exact absurd rfl q2
        · exact bd (fun z => g z.2)
  · refine zW_if_eq (tgt := 20) dX10_setConjugate_9 (by decide) (by first | assumption | omega | (unfold InR; omega) | (unfold InL; omega) | (simp only [InR] at *; omega)) (fun q => ?_) (fun q => ?_)
    · exact bd (fun z => gp z.1)
    · exact absurd rfl q
set_option maxRecDepth 100000 in
theorem q_setCommutator {p r s : Int} (h : RI σ y A) (ip : InR p) (ir : InR r) (is : InR s) (hQ : RQ σ y (o_setCommutator A p r s) Q) : zM Γ mX10_setCommutator [vR (some y), vI p, vI r, vI s] σ Q := by
  refine zM_of (n := 0) (by decide +kernel) rfl rfl rfl ?_
  refine zW_aload_n dX10_setCommutator_0 rfl ?_
  refine zW_iconst dX10_setCommutator_1 ?_
  refine zpI dX10_setCommutator_2 fX10_75 h.1.1 rfl (Or.inl rfl) (zst_int _) ?_
  have m0 : Mr σ (sO σ y 0 0) y KS RS := Mr.O (by decide)
  have h0 := h.mr m0
  have t0 : zO (sO σ y 0 0) y 0 = 0 := zO_sOs _ _ _ _
  generalize sO σ y 0 0 = σ0 at m0 h0 t0 ⊢
  have a0 : RA σ0 y 0 := h0.ra
  have bd : ¬ (inR8 p ∧ inR8 r ∧ inR8 s) → zW Γ mX10_setCommutator 20 [some (vR (some y)), some (vI p), some (vI r), some (vI s)] [] σ0 0 0 Q := by
    intro hno
    refine zW_aload_n dX10_setCommutator_20 rfl ?_
    refine zW_iconst dX10_setCommutator_21 ?_
    refine zcV1 dX10_setCommutator_22 rfl eX10_fails b1371 ⟨by decide, by decide, by decide, by decide⟩ rfl a0.1.1 rfl (by decide) (Nat.le_of_ble_eq_true rfl) (r_fails a0.1 ?_)
    refine zW_ireturn dX10_setCommutator_25 rfl rfl (by first | decide | (show _ ≤ (0 : Nat); omega)) (by first | decide | (show _ ≤ (0 : Nat); omega)) ?_
    exact hQ.bad (k := 0) (o3_no hno) h (m0.th (Mr.O (Ks := KS) (Rs := RS) (by decide)) (fun _ z => z) (fun _ z => z)) (zO_sOs _ _ _ _)
  refine zW_iload_n dX10_setCommutator_5 rfl ?_
  refine zcS1 dX10_setCommutator_6 rfl eX10_isRegister b1492 ⟨by decide, by decide, by decide, by decide⟩ rfl (Nat.le_of_ble_eq_true rfl) (r_isRegister ip (fun gp => ?_) (fun gp => ?_))
  · refine zW_if_eq (tgt := 20) dX10_setCommutator_9 (by decide) (by first | assumption | omega | (unfold InR; omega) | (unfold InL; omega) | (simp only [InR] at *; omega)) (fun q => ?_) (fun q => ?_)
    · exact absurd q (by decide)
    · refine zW_iload_n dX10_setCommutator_12 rfl ?_
      refine zW_iload_n dX10_setCommutator_13 rfl ?_
      refine zcS2 dX10_setCommutator_14 rfl eX10_areRegisters b1510 ⟨by decide, by decide, by decide, by decide⟩ rfl (Nat.le_of_ble_eq_true rfl) (r_areRegisters ir is (fun gr gs => ?_) (fun g => ?_))
      · refine zW_if_ne (tgt := 26) dX10_setCommutator_17 (by decide) (by first | assumption | omega | (unfold InR; omega) | (unfold InL; omega) | (simp only [InR] at *; omega)) (fun q2 => ?_) (fun q2 => ?_)
        · have wr := h0.rw gr
          have ws := h0.rw gs
          have br := r8b gr
          have bs := r8b gs
          have lr := wr.2.1
          have ls := ws.2.1
          refine zW_aload_n dX10_setCommutator_26 rfl ?_
          refine zcV0 dX10_setCommutator_27 rfl eX10_begins b1431 ⟨by decide, by decide, by decide, by decide⟩ rfl a0.1.1 rfl (by decide) (Nat.le_of_ble_eq_true rfl) (r_begins a0.1 (fun σ1 h1 m1 => ?_))
          have L1 : ([] : List Nat).length = 0 := rfl
          have A1 := a0.mr m1
          have L2 := pws_len (invw (reg A r)) ([])
          rw [invw_len] at L2
          refine zW_aload_n dX10_setCommutator_30 rfl ?_
          refine zW_iload_n dX10_setCommutator_31 rfl ?_
          refine zcS1 dX10_setCommutator_32 rfl eX10_register b1455 ⟨by decide, by decide, by decide, by decide⟩ rfl (Nat.le_of_ble_eq_true rfl) (r_register gr ?_)
          refine zcV1 dX10_setCommutator_35 rfl eX10_pushesInverse b1796 ⟨by decide, by decide, by decide, by decide⟩ rfl A1.1.1 rfl (by decide) (Nat.le_of_ble_eq_true rfl) (r_pushesInverse A1 (wr.mr m1) br h1 (by omega) (fun σ2 h2 n2 => ?_))
          have m2 := m1.tr n2
          have A2 := a0.mr m2
          have L3 := pws_len (invw (reg A s)) (pws ([]) (invw (reg A r)))
          rw [invw_len] at L3
          refine zW_aload_n dX10_setCommutator_38 rfl ?_
          refine zW_iload_n dX10_setCommutator_39 rfl ?_
          refine zcS1 dX10_setCommutator_40 rfl eX10_register b1455 ⟨by decide, by decide, by decide, by decide⟩ rfl (Nat.le_of_ble_eq_true rfl) (r_register gs ?_)
          refine zcV1 dX10_setCommutator_43 rfl eX10_pushesInverse b1796 ⟨by decide, by decide, by decide, by decide⟩ rfl A2.1.1 rfl (by decide) (Nat.le_of_ble_eq_true rfl) (r_pushesInverse A2 (ws.mr m2) bs h2 (by omega) (fun σ3 h3 n3 => ?_))
          have m3 := m2.tr n3
          have A3 := a0.mr m3
          have L4 := pws_len (reg A r) (pws (pws ([]) (invw (reg A r))) (invw (reg A s)))
          refine zW_aload_n dX10_setCommutator_46 rfl ?_
          refine zW_iload_n dX10_setCommutator_47 rfl ?_
          refine zcS1 dX10_setCommutator_48 rfl eX10_register b1455 ⟨by decide, by decide, by decide, by decide⟩ rfl (Nat.le_of_ble_eq_true rfl) (r_register gr ?_)
          refine zcV1 dX10_setCommutator_51 rfl eX10_pushesWord b1525 ⟨by decide, by decide, by decide, by decide⟩ rfl A3.1.1 rfl (by decide) (Nat.le_of_ble_eq_true rfl) (r_pushesWord A3 (wr.mr m3) br h3 (by omega) (fun σ4 h4 n4 => ?_))
          have m4 := m3.tr n4
          have A4 := a0.mr m4
          have L5 := pws_len (reg A s) (pws (pws (pws ([]) (invw (reg A r))) (invw (reg A s))) (reg A r))
          refine zW_aload_n dX10_setCommutator_54 rfl ?_
          refine zW_iload_n dX10_setCommutator_55 rfl ?_
          refine zcS1 dX10_setCommutator_56 rfl eX10_register b1455 ⟨by decide, by decide, by decide, by decide⟩ rfl (Nat.le_of_ble_eq_true rfl) (r_register gs ?_)
          refine zcV1 dX10_setCommutator_59 rfl eX10_pushesWord b1525 ⟨by decide, by decide, by decide, by decide⟩ rfl A4.1.1 rfl (by decide) (Nat.le_of_ble_eq_true rfl) (r_pushesWord A4 (ws.mr m4) bs h4 (by omega) (fun σ5 h5 n5 => ?_))
          have m5 := m4.tr n5
          have m0σ5 : Mr σ σ5 y KS RS := m0.th m5 (by decide) (by decide)
          have hIσ5 := h.mr m0σ5
          have tσ5 : zO σ5 y 0 = 0 := by rw [Mr.o m5 (by decide)]; exact t0
          have ho9 : o_setCommutator A p r s = o_store A p (pws (pws (pws (pws ([]) (invw (reg A r))) (invw (reg A s))) (reg A r)) (reg A s)) 2 := o3_yes gp gr gs
          refine zW_aload_n dX10_setCommutator_62 rfl ?_
          refine zcV0 dX10_setCommutator_63 rfl eX10_isTooLong b1451 ⟨by decide, by decide, by decide, by decide⟩ rfl hIσ5.1.1 rfl (by decide) (Nat.le_of_ble_eq_true rfl) (r_isTooLong hIσ5.1 h5 ?_)
          by_cases hl9 : (pws (pws (pws (pws ([]) (invw (reg A r))) (invw (reg A s))) (reg A r)) (reg A s)).length ≤ 60
          · rw [if_pos hl9]
            refine zW_if_eq (tgt := 77) dX10_setCommutator_66 (by decide) (by first | assumption | omega | (unfold InR; omega) | (unfold InL; omega) | (simp only [InR] at *; omega)) (fun b9 => ?_) (fun b9 => ?_)
            · refine zW_aload_n dX10_setCommutator_77 rfl ?_
              refine zW_iload_n dX10_setCommutator_78 rfl ?_
              refine zcV1 dX10_setCommutator_79 rfl eX10_keeps b1780 ⟨by decide, by decide, by decide, by decide⟩ rfl hIσ5.1.1 rfl (by decide) (Nat.le_of_ble_eq_true rfl) (r_keeps hIσ5 gp h5 hl9 (fun σ9 h9 m9 => ?_))
              refine zW_ireturn dX10_setCommutator_82 rfl rfl (by first | decide | (show _ ≤ (0 : Nat); omega)) (by first | decide | (show _ ≤ (0 : Nat); omega)) ?_
              exact hQ.done (ho9.trans (if_pos hl9)) h9 (Mr.th (Mr.wk m0σ5 (Ks' := KA) (Rs' := RSA) (by decide) (by decide)) m9 (by decide) (by decide)) (by rw [m9.o (by decide)]; exact tσ5)
            · exact absurd rfl b9
          · rw [if_neg hl9]
            refine zW_if_eq (tgt := 77) dX10_setCommutator_66 (by decide) (by first | assumption | omega | (unfold InR; omega) | (unfold InL; omega) | (simp only [InR] at *; omega)) (fun b9 => ?_) (fun b9 => ?_)
            · exact absurd b9 (by decide)
            · refine zW_aload_n dX10_setCommutator_69 rfl ?_
              refine zW_iconst dX10_setCommutator_70 ?_
              refine zcV1 dX10_setCommutator_71 rfl eX10_fails b1371 ⟨by decide, by decide, by decide, by decide⟩ rfl hIσ5.1.1 rfl (by decide) (Nat.le_of_ble_eq_true rfl) (r_fails hIσ5.1 ?_)
              refine zW_goto (tgt := 82) dX10_setCommutator_74 (by decide) ?_
              refine zW_ireturn dX10_setCommutator_82 rfl rfl (by first | decide | (show _ ≤ (0 : Nat); omega)) (by first | decide | (show _ ≤ (0 : Nat); omega)) ?_
              exact hQ.bad (k := 1) (ho9.trans (if_neg hl9)) h (m0σ5.th (Mr.O (Ks := KS) (Rs := RS) (by decide)) (fun _ z => z) (fun _ z => z)) (zO_sOs _ _ _ _)
        · exact absurd q2 (by decide)
      · refine zW_if_ne (tgt := 26) dX10_setCommutator_17 (by decide) (by first | assumption | omega | (unfold InR; omega) | (unfold InL; omega) | (simp only [InR] at *; omega)) (fun q2 => ?_) (fun q2 => ?_)
        · exact absurd rfl q2
        · exact bd (fun z => g z.2)
  · refine zW_if_eq (tgt := 20) dX10_setCommutator_9 (by decide) (by first | assumption | omega | (unfold InR; omega) | (unfold InL; omega) | (simp only [InR] at *; omega)) (fun q => ?_) (fun q => ?_)
    · exact bd (fun z => gp z.1)
    · exact absurd rfl q
set_option maxRecDepth 100000 in
theorem q_setInverse {p r : Int} (h : RI σ y A) (ip : InR p) (ir : InR r) (hQ : RQ σ y (o_setInverse A p r) Q) : zM Γ mX10_setInverse [vR (some y), vI p, vI r] σ Q := by
  refine zM_of (n := 0) (by decide +kernel) rfl rfl rfl ?_
  refine zW_aload_n dX10_setInverse_0 rfl ?_
  refine zW_iconst dX10_setInverse_1 ?_
  refine zpI dX10_setInverse_2 fX10_75 h.1.1 rfl (Or.inl rfl) (zst_int _) ?_
  have m0 : Mr σ (sO σ y 0 0) y KS RS := Mr.O (by decide)
  have h0 := h.mr m0
  have t0 : zO (sO σ y 0 0) y 0 = 0 := zO_sOs _ _ _ _
  generalize sO σ y 0 0 = σ0 at m0 h0 t0 ⊢
  have a0 : RA σ0 y 0 := h0.ra
  refine zW_iload_n dX10_setInverse_5 rfl ?_
  refine zW_iload_n dX10_setInverse_6 rfl ?_
  refine zcS2 dX10_setInverse_7 rfl eX10_areRegisters b1510 ⟨by decide, by decide, by decide, by decide⟩ rfl (Nat.le_of_ble_eq_true rfl) (r_areRegisters ip ir (fun gp gr => ?_) (fun g => ?_))
  · refine zW_if_ne (tgt := 19) dX10_setInverse_10 (by decide) (by first | assumption | omega | (unfold InR; omega) | (unfold InL; omega) | (simp only [InR] at *; omega)) (fun q => ?_) (fun q => ?_)
    · have wr := h0.rw gr
      have br := r8b gr
      have lr := wr.2.1
      refine zW_aload_n dX10_setInverse_19 rfl ?_
      refine zcV0 dX10_setInverse_20 rfl eX10_begins b1431 ⟨by decide, by decide, by decide, by decide⟩ rfl a0.1.1 rfl (by decide) (Nat.le_of_ble_eq_true rfl) (r_begins a0.1 (fun σ1 h1 m1 => ?_))
      have L1 : ([] : List Nat).length = 0 := rfl
      have A1 := a0.mr m1
      have L2 := pws_len (invw (reg A r)) ([])
      rw [invw_len] at L2
      refine zW_aload_n dX10_setInverse_23 rfl ?_
      refine zW_iload_n dX10_setInverse_24 rfl ?_
      refine zcS1 dX10_setInverse_25 rfl eX10_register b1455 ⟨by decide, by decide, by decide, by decide⟩ rfl (Nat.le_of_ble_eq_true rfl) (r_register gr ?_)
      refine zcV1 dX10_setInverse_28 rfl eX10_pushesInverse b1796 ⟨by decide, by decide, by decide, by decide⟩ rfl A1.1.1 rfl (by decide) (Nat.le_of_ble_eq_true rfl) (r_pushesInverse A1 (wr.mr m1) br h1 (by omega) (fun σ2 h2 n2 => ?_))
      have m2 := m1.tr n2
      have m02 : Mr σ σ2 y KS RS := m0.th m2 (by decide) (by decide)
      have hI2 := h.mr m02
      have t2 : zO σ2 y 0 = 0 := by rw [Mr.o m2 (by decide)]; exact t0
      have hl9 : (pws [] (invw (reg A r))).length ≤ 60 := by omega
      refine zW_aload_n dX10_setInverse_31 rfl ?_
      refine zW_iload_n dX10_setInverse_32 rfl ?_
      refine zcV1 dX10_setInverse_33 rfl eX10_keeps b1780 ⟨by decide, by decide, by decide, by decide⟩ rfl hI2.1.1 rfl (by decide) (Nat.le_of_ble_eq_true rfl) (r_keeps hI2 gp h2 hl9 (fun σ9 h9 m9 => ?_))
      refine zW_ireturn dX10_setInverse_36 rfl rfl (by first | decide | (show _ ≤ (0 : Nat); omega)) (by first | decide | (show _ ≤ (0 : Nat); omega)) ?_
      have ho9 : o_setInverse A p r = o_store A p (pws [] (invw (reg A r))) 2 := o2_yes gp gr
      exact hQ.done (ho9.trans (if_pos hl9)) h9 (Mr.th (Mr.wk m02 (Ks' := KA) (Rs' := RSA) (by decide) (by decide)) m9 (by decide) (by decide)) (by rw [m9.o (by decide)]; exact t2)
    · exact absurd q (by decide)
  · refine zW_if_ne (tgt := 19) dX10_setInverse_10 (by decide) (by first | assumption | omega | (unfold InR; omega) | (unfold InL; omega) | (simp only [InR] at *; omega)) (fun q => ?_) (fun q => ?_)
    · exact absurd rfl q
    · refine zW_aload_n dX10_setInverse_13 rfl ?_
      refine zW_iconst dX10_setInverse_14 ?_
      refine zcV1 dX10_setInverse_15 rfl eX10_fails b1371 ⟨by decide, by decide, by decide, by decide⟩ rfl a0.1.1 rfl (by decide) (Nat.le_of_ble_eq_true rfl) (r_fails a0.1 ?_)
      refine zW_ireturn dX10_setInverse_18 rfl rfl (by first | decide | (show _ ≤ (0 : Nat); omega)) (by first | decide | (show _ ≤ (0 : Nat); omega)) ?_
      exact hQ.bad (k := 0) (o2_no g) h (m0.th (Mr.O (Ks := KS) (Rs := RS) (by decide)) (fun _ z => z) (fun _ z => z)) (zO_sOs _ _ _ _)
set_option maxRecDepth 100000 in
theorem q_setPower {p r e : Int} (h : RI σ y A) (ip : InR p) (ir : InR r) (ie : InR e) (hQ : RQ σ y (o_setPower A p r e) Q) : zM Γ mX10_setPower [vR (some y), vI p, vI r, vI e] σ Q := by
  refine zM_of (n := 1) (by decide +kernel) rfl rfl rfl ?_
  refine zW_aload_n dX10_setPower_0 rfl ?_
  refine zW_iconst dX10_setPower_1 ?_
  refine zpI dX10_setPower_2 fX10_75 h.1.1 rfl (Or.inl rfl) (zst_int _) ?_
  have m0 : Mr σ (sO σ y 0 0) y KS RS := Mr.O (by decide)
  have h0 := h.mr m0
  have t0 : zO (sO σ y 0 0) y 0 = 0 := zO_sOs _ _ _ _
  generalize sO σ y 0 0 = σ0 at m0 h0 t0 ⊢
  have a0 : RA σ0 y 0 := h0.ra
  refine zW_iload_n dX10_setPower_5 rfl ?_
  refine zW_iload_n dX10_setPower_6 rfl ?_
  refine zcS2 dX10_setPower_7 rfl eX10_areRegisters b1510 ⟨by decide, by decide, by decide, by decide⟩ rfl (Nat.le_of_ble_eq_true rfl) (r_areRegisters ip ir (fun gp gr => ?_) (fun g => ?_))
  · have bd : ¬ (-20 ≤ e ∧ e ≤ 20) → zW Γ mX10_setPower 31 [some (vR (some y)), some (vI p), some (vI r), some (vI e), none] [] σ0 0 0 Q := by
      intro hno
      refine zW_aload_n dX10_setPower_31 rfl ?_
      refine zW_iconst dX10_setPower_32 ?_
      refine zcV1 dX10_setPower_33 rfl eX10_fails b1371 ⟨by decide, by decide, by decide, by decide⟩ rfl a0.1.1 rfl (by decide) (Nat.le_of_ble_eq_true rfl) (r_fails a0.1 ?_)
      refine zW_ireturn dX10_setPower_36 rfl rfl (by first | decide | (show _ ≤ (0 : Nat); omega)) (by first | decide | (show _ ≤ (0 : Nat); omega)) ?_
      exact hQ.bad (k := 1) ((o2_yes gp gr).trans (if_neg hno)) h (m0.th (Mr.O (Ks := KS) (Rs := RS) (by decide)) (fun _ z => z) (fun _ z => z)) (zO_sOs _ _ _ _)
    refine zW_if_ne (tgt := 19) dX10_setPower_10 (by decide) (by first | assumption | omega | (unfold InR; omega) | (unfold InL; omega) | (simp only [InR] at *; omega)) (fun q => ?_) (fun q => ?_)
    · have wr := h0.rw gr
      have br := r8b gr
      have lr := wr.2.1
      refine zW_iload_n dX10_setPower_19 rfl ?_
      refine zW_bipush dX10_setPower_20 (by decide) ?_
      refine zW_icmp_lt (tgt := 31) dX10_setPower_22 (by decide) (by first | assumption | omega | (unfold InR; omega) | (unfold InL; omega) | (simp only [InR] at *; omega)) (by first | assumption | omega | (unfold InR; omega) | (unfold InL; omega) | (simp only [InR] at *; omega)) (fun q2 => ?_) (fun q2 => ?_)
      · exact bd (by omega)
      · refine zW_iload_n dX10_setPower_25 rfl ?_
        refine zW_bipush dX10_setPower_26 (by decide) ?_
        refine zW_icmp_le (tgt := 37) dX10_setPower_28 (by decide) (by first | assumption | omega | (unfold InR; omega) | (unfold InL; omega) | (simp only [InR] at *; omega)) (by first | assumption | omega | (unfold InR; omega) | (unfold InL; omega) | (simp only [InR] at *; omega)) (fun q3 => ?_) (fun q3 => ?_)
        · have he : -20 ≤ e ∧ e ≤ 20 := by omega
          have loop : ∀ n k σ1, k + n = e.natAbs → RP σ1 y (pwn (if 0 < e then reg A r else invw (reg A r)) k) → Mr σ0 σ1 y [13] [4] → zW Γ mX10_setPower 44 [some (vR (some y)), some (vI p), some (vI r), some (vI e), some (vI k)] [] σ1 0 0 Q := by
            intro n
            induction n with
            | zero =>
              intro k σ1 hk hp m1
              have hpw : pwn (if 0 < e then reg A r else invw (reg A r)) k = powL (reg A r) e := by
                unfold powL
                by_cases z : 0 < e
                · rw [if_pos z, if_pos (by omega)]; congr 1; omega
                · rw [if_neg z]
                  by_cases z2 : 0 ≤ e
                  · rw [if_pos z2, show k = 0 by omega, show e.toNat = 0 by omega]; rfl
                  · rw [if_neg z2]; congr 1; omega
              rw [hpw] at hp
              refine zW_iload dX10_setPower_44 rfl ?_
              refine zW_iload_n dX10_setPower_46 rfl ?_
              refine zW_mabs dX10_setPower_47 (by first | assumption | omega | (unfold InR; omega) | (unfold InL; omega) | (simp only [InR] at *; omega)) b1812 b1813 b4 b1814 (Nat.le_of_ble_eq_true rfl) (Nat.le_of_ble_eq_true rfl) (Nat.le_of_ble_eq_true rfl) (Nat.le_of_ble_eq_true rfl) ?_
              refine zW_icmp_ge (tgt := 82) dX10_setPower_50 (by decide) (by first | assumption | omega | (unfold InR; omega) | (unfold InL; omega) | (simp only [InR] at *; omega)) (by first | assumption | omega | (unfold InR; omega) | (unfold InL; omega) | (simp only [InR] at *; omega)) (fun z => ?_) (fun z => ?_)
              · have m0σ1 : Mr σ σ1 y KS RS := m0.th m1 (by decide) (by decide)
                have hIσ1 := h.mr m0σ1
                have tσ1 : zO σ1 y 0 = 0 := by rw [Mr.o m1 (by decide)]; exact t0
                have ho9 : o_setPower A p r e = o_store A p (powL (reg A r) e) 3 := (o2_yes gp gr).trans (if_pos he)
                refine zW_aload_n dX10_setPower_82 rfl ?_
                refine zcV0 dX10_setPower_83 rfl eX10_isTooLong b1451 ⟨by decide, by decide, by decide, by decide⟩ rfl hIσ1.1.1 rfl (by decide) (Nat.le_of_ble_eq_true rfl) (r_isTooLong hIσ1.1 hp ?_)
                by_cases hl9 : (powL (reg A r) e).length ≤ 60
                · rw [if_pos hl9]
                  refine zW_if_eq (tgt := 97) dX10_setPower_86 (by decide) (by first | assumption | omega | (unfold InR; omega) | (unfold InL; omega) | (simp only [InR] at *; omega)) (fun b9 => ?_) (fun b9 => ?_)
                  · refine zW_aload_n dX10_setPower_97 rfl ?_
                    refine zW_iload_n dX10_setPower_98 rfl ?_
                    refine zcV1 dX10_setPower_99 rfl eX10_keeps b1780 ⟨by decide, by decide, by decide, by decide⟩ rfl hIσ1.1.1 rfl (by decide) (Nat.le_of_ble_eq_true rfl) (r_keeps hIσ1 gp hp hl9 (fun σ9 h9 m9 => ?_))
                    refine zW_ireturn dX10_setPower_102 rfl rfl (by first | decide | (show _ ≤ (0 : Nat); omega)) (by first | decide | (show _ ≤ (0 : Nat); omega)) ?_
                    exact hQ.done (ho9.trans (if_pos hl9)) h9 (Mr.th (Mr.wk m0σ1 (Ks' := KA) (Rs' := RSA) (by decide) (by decide)) m9 (by decide) (by decide)) (by rw [m9.o (by decide)]; exact tσ1)
                  · exact absurd rfl b9
                · rw [if_neg hl9]
                  refine zW_if_eq (tgt := 97) dX10_setPower_86 (by decide) (by first | assumption | omega | (unfold InR; omega) | (unfold InL; omega) | (simp only [InR] at *; omega)) (fun b9 => ?_) (fun b9 => ?_)
                  · exact absurd b9 (by decide)
                  · refine zW_aload_n dX10_setPower_89 rfl ?_
                    refine zW_iconst dX10_setPower_90 ?_
                    refine zcV1 dX10_setPower_91 rfl eX10_fails b1371 ⟨by decide, by decide, by decide, by decide⟩ rfl hIσ1.1.1 rfl (by decide) (Nat.le_of_ble_eq_true rfl) (r_fails hIσ1.1 ?_)
                    refine zW_goto (tgt := 102) dX10_setPower_94 (by decide) ?_
                    refine zW_ireturn dX10_setPower_102 rfl rfl (by first | decide | (show _ ≤ (0 : Nat); omega)) (by first | decide | (show _ ≤ (0 : Nat); omega)) ?_
                    exact hQ.bad (k := 2) (ho9.trans (if_neg hl9)) h (m0σ1.th (Mr.O (Ks := KS) (Rs := RS) (by decide)) (fun _ z => z) (fun _ z => z)) (zO_sOs _ _ _ _)
              · refine absurd z ?_
                split <;> omega
            | succ n ih =>
              intro k σ1 hk hp m1
              have a1 := a0.mr m1
              have hlen : (pwn (if 0 < e then reg A r else invw (reg A r)) k).length ≤ 60 * k := pwn_len _ (by split; exact lr; rw [invw_len]; exact lr) k
              refine zW_iload dX10_setPower_44 rfl ?_
              refine zW_iload_n dX10_setPower_46 rfl ?_
              refine zW_mabs dX10_setPower_47 (by first | assumption | omega | (unfold InR; omega) | (unfold InL; omega) | (simp only [InR] at *; omega)) b1812 b1813 b4 b1814 (Nat.le_of_ble_eq_true rfl) (Nat.le_of_ble_eq_true rfl) (Nat.le_of_ble_eq_true rfl) (Nat.le_of_ble_eq_true rfl) ?_
              refine zW_icmp_ge (tgt := 82) dX10_setPower_50 (by decide) (by first | assumption | omega | (unfold InR; omega) | (unfold InL; omega) | (simp only [InR] at *; omega)) (by first | assumption | omega | (unfold InR; omega) | (unfold InL; omega) | (simp only [InR] at *; omega)) (fun z => ?_) (fun z => ?_)
              · refine absurd z ?_
                split <;> omega
              · refine zW_iload_n dX10_setPower_53 rfl ?_
                refine zW_if_le (tgt := 68) dX10_setPower_54 (by decide) (by first | assumption | omega | (unfold InR; omega) | (unfold InL; omega) | (simp only [InR] at *; omega)) (fun z2 => ?_) (fun z2 => ?_)
                · have z3 : ¬ (0 < e) := by omega
                  rw [if_neg z3] at hp hlen ih
                  have hl2 : (invw (reg A r)).length = (reg A r).length := invw_len _
                  refine zW_aload_n dX10_setPower_68 rfl ?_
                  refine zW_iload_n dX10_setPower_69 rfl ?_
                  refine zcS1 dX10_setPower_70 rfl eX10_register b1455 ⟨by decide, by decide, by decide, by decide⟩ rfl (Nat.le_of_ble_eq_true rfl) (r_register gr ?_)
                  refine zcV1 dX10_setPower_73 rfl eX10_pushesInverse b1796 ⟨by decide, by decide, by decide, by decide⟩ rfl a1.1.1 rfl (by decide) (Nat.le_of_ble_eq_true rfl) (r_pushesInverse a1 (wr.mr m1) br hp (by omega) (fun σ2 hp2 m2 => ?_))
                  refine zW_iinc dX10_setPower_76 rfl (by decide) rfl rfl ?_
                  refine zW_goto (tgt := 44) dX10_setPower_79 (by decide) ?_
                  exact ih (k + 1) σ2 (by omega) hp2 (m1.tr m2)
                · have z3 : 0 < e := by omega
                  rw [if_pos z3] at hp hlen ih
                  refine zW_aload_n dX10_setPower_57 rfl ?_
                  refine zW_iload_n dX10_setPower_58 rfl ?_
                  refine zcS1 dX10_setPower_59 rfl eX10_register b1455 ⟨by decide, by decide, by decide, by decide⟩ rfl (Nat.le_of_ble_eq_true rfl) (r_register gr ?_)
                  refine zcV1 dX10_setPower_62 rfl eX10_pushesWord b1525 ⟨by decide, by decide, by decide, by decide⟩ rfl a1.1.1 rfl (by decide) (Nat.le_of_ble_eq_true rfl) (r_pushesWord a1 (wr.mr m1) br hp (by omega) (fun σ2 hp2 m2 => ?_))
                  refine zW_goto (tgt := 76) dX10_setPower_65 (by decide) ?_
                  refine zW_iinc dX10_setPower_76 rfl (by decide) rfl rfl ?_
                  refine zW_goto (tgt := 44) dX10_setPower_79 (by decide) ?_
                  exact ih (k + 1) σ2 (by omega) hp2 (m1.tr m2)
          refine zW_aload_n dX10_setPower_37 rfl ?_
          refine zcV0 dX10_setPower_38 rfl eX10_begins b1431 ⟨by decide, by decide, by decide, by decide⟩ rfl a0.1.1 rfl (by decide) (Nat.le_of_ble_eq_true rfl) (r_begins a0.1 (fun σ1 h1 m1 => ?_))
          refine zW_iconst dX10_setPower_41 ?_
          refine zW_istore dX10_setPower_42 (by decide) rfl rfl ?_
          exact loop e.natAbs 0 σ1 (Nat.zero_add _) h1 m1
        · exact bd (by omega)
    · exact absurd q (by decide)
  · refine zW_if_ne (tgt := 19) dX10_setPower_10 (by decide) (by first | assumption | omega | (unfold InR; omega) | (unfold InL; omega) | (simp only [InR] at *; omega)) (fun q => ?_) (fun q => ?_)
    · exact absurd rfl q
    · refine zW_aload_n dX10_setPower_13 rfl ?_
      refine zW_iconst dX10_setPower_14 ?_
      refine zcV1 dX10_setPower_15 rfl eX10_fails b1371 ⟨by decide, by decide, by decide, by decide⟩ rfl a0.1.1 rfl (by decide) (Nat.le_of_ble_eq_true rfl) (r_fails a0.1 ?_)
      refine zW_ireturn dX10_setPower_18 rfl rfl (by first | decide | (show _ ≤ (0 : Nat); omega)) (by first | decide | (show _ ≤ (0 : Nat); omega)) ?_
      exact hQ.bad (k := 0) (o2_no g) h (m0.th (Mr.O (Ks := KS) (Rs := RS) (by decide)) (fun _ z => z) (fun _ z => z)) (zO_sOs _ _ _ _)
set_option maxRecDepth 100000 in
theorem o_setRoot_no {p r : Int} (h : ¬ (inR8 p ∧ inR8 r)) : o_setRoot A p r = (1, 0, A) := by
  unfold o_setRoot
  by_cases g : inR8 p
  · rw [if_pos g, if_neg (fun z => h ⟨g, z⟩)]
  · rw [if_neg g]
set_option maxRecDepth 100000 in
theorem q_setRoot {p r : Int} (h : RI σ y A) (ip : InR p) (ir : InR r) (ao : AO A) (hQ : RQ σ y (o_setRoot A p r) Q) : zM Γ mX10_setRoot [vR (some y), vI p, vI r] σ Q := by
  refine zM_of (n := 4) (by decide +kernel) rfl rfl rfl ?_
  refine zW_aload_n dX10_setRoot_0 rfl ?_
  refine zW_iconst dX10_setRoot_1 ?_
  refine zpI dX10_setRoot_2 fX10_75 h.1.1 rfl (Or.inl rfl) (zst_int _) ?_
  have m0 : Mr σ (sO σ y 0 0) y KS RS := Mr.O (by decide)
  have h0 := h.mr m0
  have t0 : zO (sO σ y 0 0) y 0 = 0 := zO_sOs _ _ _ _
  generalize sO σ y 0 0 = σ0 at m0 h0 t0 ⊢
  have a0 : RA σ0 y 0 := h0.ra
  refine zW_iload_n dX10_setRoot_5 rfl ?_
  refine zW_iload_n dX10_setRoot_6 rfl ?_
  refine zcS2 dX10_setRoot_7 rfl eX10_areRegisters b1510 ⟨by decide, by decide, by decide, by decide⟩ rfl (Nat.le_of_ble_eq_true rfl) (r_areRegisters ip ir (fun gp gr => ?_) (fun g => ?_))
  · refine zW_if_ne (tgt := 19) dX10_setRoot_10 (by decide) (by first | assumption | omega | (unfold InR; omega) | (unfold InL; omega) | (simp only [InR] at *; omega)) (fun q => ?_) (fun q => ?_)
    · have wr := h0.rw gr
      have br := r8b gr
      have lr := wr.2.1
      have a3 := cs_le (reg A r)
      have hcr : crl (reg A r) = (reg A r).length - 2 * cs (reg A r) := rfl
      refine zW_iload_n dX10_setRoot_19 rfl ?_
      refine zcS1 dX10_setRoot_20 rfl eX10_register b1455 ⟨by decide, by decide, by decide, by decide⟩ rfl (Nat.le_of_ble_eq_true rfl) (r_register gr ?_)
      refine zW_istore_n dX10_setRoot_23 (by decide) rfl rfl ?_
      refine zW_aload_n dX10_setRoot_24 rfl ?_
      refine zW_iload_n dX10_setRoot_25 rfl ?_
      refine zcV1 dX10_setRoot_26 rfl eX10_get b1443 ⟨by decide, by decide, by decide, by decide⟩ rfl a0.1.1 rfl (by decide) (Nat.le_of_ble_eq_true rfl) (r_get a0 (by omega) wr.1 ?_)
      refine zW_if_ne (tgt := 38) dX10_setRoot_29 (by decide) (by first | assumption | omega | (unfold InR; omega) | (unfold InL; omega) | (simp only [InR] at *; omega)) (fun q2 => ?_) (fun q2 => ?_)
      · have hne : reg A r ≠ [] := fun e => q2 (by rw [e]; rfl)
        have hcp := crl_pos (ao.rr gr).1 hne
        refine zW_aload_n dX10_setRoot_38 rfl ?_
        refine zW_iload_n dX10_setRoot_39 rfl ?_
        refine zcV1 dX10_setRoot_40 rfl eX10_strips b1562 ⟨by decide, by decide, by decide, by decide⟩ rfl a0.1.1 rfl (by decide) (Nat.le_of_ble_eq_true rfl) (r_strips a0 wr br ?_)
        refine zW_istore dX10_setRoot_43 (by decide) rfl rfl ?_
        refine zW_aload_n dX10_setRoot_45 rfl ?_
        refine zW_iload_n dX10_setRoot_46 rfl ?_
        refine zcV1 dX10_setRoot_47 rfl eX10_period b1594 ⟨by decide, by decide, by decide, by decide⟩ rfl a0.1.1 rfl (by decide) (Nat.le_of_ble_eq_true rfl) (r_period a0 wr br hcp (fun t ht => ?_))
        have ht1 := ht.1
        have hte := ht.eq
        have loop2 : ∀ n k σ1 l1, k + n = (reg A r).length → (reg A r).length - cs (reg A r) ≤ k → RP σ1 y l1 → l1.length + n ≤ 60 → pws l1 ((reg A r).drop k) = rootW (reg A r) → Mr σ0 σ1 y [13] [4] → zW Γ mX10_setRoot 96 [some (vR (some y)), some (vI p), some (vI r), some (vI ((1 + 61 * r.toNat : Nat) : Int)), some (vI (cs (reg A r) : Nat)), some (vI (t : Nat)), some (vI k)] [] σ1 0 0 Q := by
          intro n
          induction n with
          | zero =>
            intro k σ1 l1 hk hk2 hp hl1 he m1
            have a1 := a0.mr m1
            have wr1 := wr.mr m1
            rw [List.drop_eq_nil_of_le (by omega), pws_nil] at he
            refine zW_iload dX10_setRoot_96 rfl ?_
            refine zW_aload_n dX10_setRoot_98 rfl ?_
            refine zW_iload_n dX10_setRoot_99 rfl ?_
            refine zcV1 dX10_setRoot_100 rfl eX10_get b1443 ⟨by decide, by decide, by decide, by decide⟩ rfl a1.1.1 rfl (by decide) (Nat.le_of_ble_eq_true rfl) (r_get a1 (by omega) wr1.1 ?_)
            refine zW_icmp_ge (tgt := 123) dX10_setRoot_103 (by decide) (by first | assumption | omega | (unfold InR; omega) | (unfold InL; omega) | (simp only [InR] at *; omega)) (by first | assumption | omega | (unfold InR; omega) | (unfold InL; omega) | (simp only [InR] at *; omega)) (fun z => ?_) (fun z => ?_)
            · have m01 : Mr σ σ1 y KS RS := m0.th m1 (by decide) (by decide)
              have hI1 := h.mr m01
              have t1 : zO σ1 y 0 = 0 := by rw [Mr.o m1 (by decide)]; exact t0
              refine zW_aload_n dX10_setRoot_123 rfl ?_
              refine zW_iload_n dX10_setRoot_124 rfl ?_
              refine zcV1 dX10_setRoot_125 rfl eX10_keeps b1780 ⟨by decide, by decide, by decide, by decide⟩ rfl hI1.1.1 rfl (by decide) (Nat.le_of_ble_eq_true rfl) (r_keeps hI1 gp hp (by omega) (fun σ9 h9 m9 => ?_))
              refine zW_ireturn dX10_setRoot_128 rfl rfl (by first | decide | (show _ ≤ (0 : Nat); omega)) (by first | decide | (show _ ≤ (0 : Nat); omega)) ?_
              rw [he] at h9 ⊢
              exact hQ.done (by unfold o_setRoot; rw [if_pos gp, if_pos gr, if_neg hne]) h9 (Mr.th (Mr.wk m01 (Ks' := KA) (Rs' := RSA) (by decide) (by decide)) m9 (by decide) (by decide)) (by rw [m9.o (by decide)]; exact t1)
            · exact absurd z (by omega)
          | succ n ih =>
            intro k σ1 l1 hk hk2 hp hl1 he m1
            have a1 := a0.mr m1
            have wr1 := wr.mr m1
            have hx := getD_lt wr.2.2.2 (i := k) (by omega)
            have hpl := pw_len l1 ((reg A r).getD k 0)
            refine zW_iload dX10_setRoot_96 rfl ?_
            refine zW_aload_n dX10_setRoot_98 rfl ?_
            refine zW_iload_n dX10_setRoot_99 rfl ?_
            refine zcV1 dX10_setRoot_100 rfl eX10_get b1443 ⟨by decide, by decide, by decide, by decide⟩ rfl a1.1.1 rfl (by decide) (Nat.le_of_ble_eq_true rfl) (r_get a1 (by omega) wr1.1 ?_)
            refine zW_icmp_ge (tgt := 123) dX10_setRoot_103 (by decide) (by first | assumption | omega | (unfold InR; omega) | (unfold InL; omega) | (simp only [InR] at *; omega)) (by first | assumption | omega | (unfold InR; omega) | (unfold InL; omega) | (simp only [InR] at *; omega)) (fun z => ?_) (fun z => ?_)
            · exact absurd z (by omega)
            · refine zW_aload_n dX10_setRoot_106 rfl ?_
              refine zW_aload_n dX10_setRoot_107 rfl ?_
              refine zW_iload_n dX10_setRoot_108 rfl ?_
              refine zW_iload dX10_setRoot_109 rfl ?_
              refine zcV2 dX10_setRoot_111 rfl eX10_codeAt b1499 ⟨by decide, by decide, by decide, by decide⟩ rfl a1.1.1 rfl (by decide) (Nat.le_of_ble_eq_true rfl) (r_codeAt a1 wr1 (by omega) br ?_)
              refine zcV1 dX10_setRoot_114 rfl eX10_pushes b1447 ⟨by decide, by decide, by decide, by decide⟩ rfl a1.1.1 rfl (by decide) (Nat.le_of_ble_eq_true rfl) (r_pushes a1.1 hp hx (by omega) (fun σ2 hp2 m2 => ?_))
              refine zW_iinc dX10_setRoot_117 rfl (by decide) rfl rfl ?_
              refine zW_goto (tgt := 96) dX10_setRoot_120 (by decide) ?_
              refine ih (k + 1) σ2 _ (by omega) (by omega) hp2 (by omega) ?_ (m1.tr m2)
              rw [← he, drop_cons (i := k) (by omega), pws_cons]
        have loop1 : ∀ n k σ1, k + n = cs (reg A r) + t → RP σ1 y (pws [] ((reg A r).take k)) → Mr σ0 σ1 y [13] [4] → zW Γ mX10_setRoot 59 [some (vR (some y)), some (vI p), some (vI r), some (vI ((1 + 61 * r.toNat : Nat) : Int)), some (vI (cs (reg A r) : Nat)), some (vI (t : Nat)), some (vI k)] [] σ1 0 0 Q := by
          intro n
          induction n with
          | zero =>
            intro k σ1 hk hp m1
            have a1 := a0.mr m1
            have wr1 := wr.mr m1
            have e9 : ((reg A r).length : Int) - (cs (reg A r) : Nat) = (((reg A r).length - cs (reg A r) : Nat) : Int) := by omega
            have L := pws_len ((reg A r).take k) []
            rw [List.length_take] at L
            have L0 : ([] : List Nat).length = 0 := rfl
            refine zW_iload dX10_setRoot_59 rfl ?_
            refine zW_iload dX10_setRoot_61 rfl ?_
            refine zW_iload dX10_setRoot_63 rfl ?_
            refine zW_iadd dX10_setRoot_65 ?_
            refine zW_icmp_ge (tgt := 86) dX10_setRoot_66 (by decide) (by first | assumption | omega | (unfold InR; omega) | (unfold InL; omega) | (simp only [InR] at *; omega)) (by first | assumption | omega | (unfold InR; omega) | (unfold InL; omega) | (simp only [InR] at *; omega)) (fun z => ?_) (fun z => ?_)
            · refine zW_aload_n dX10_setRoot_86 rfl ?_
              refine zW_iload_n dX10_setRoot_87 rfl ?_
              refine zcV1 dX10_setRoot_88 rfl eX10_get b1443 ⟨by decide, by decide, by decide, by decide⟩ rfl a1.1.1 rfl (by decide) (Nat.le_of_ble_eq_true rfl) (r_get a1 (by omega) wr1.1 ?_)
              refine zW_iload dX10_setRoot_91 rfl ?_
              refine zW_isub dX10_setRoot_93 ?_
              rw [e9]
              refine zW_istore dX10_setRoot_94 (by decide) rfl rfl ?_
              refine loop2 (cs (reg A r)) _ σ1 _ (by omega) (Nat.le_refl _) hp (by omega) ?_ m1
              unfold rootW
              rw [← hte, show k = cs (reg A r) + t by omega]
            · exact absurd z (by omega)
          | succ n ih =>
            intro k σ1 hk hp m1
            have a1 := a0.mr m1
            have wr1 := wr.mr m1
            have hx := getD_lt wr.2.2.2 (i := k) (by omega)
            have L := pws_len ((reg A r).take k) []
            rw [List.length_take] at L
            have L0 : ([] : List Nat).length = 0 := rfl
            refine zW_iload dX10_setRoot_59 rfl ?_
            refine zW_iload dX10_setRoot_61 rfl ?_
            refine zW_iload dX10_setRoot_63 rfl ?_
            refine zW_iadd dX10_setRoot_65 ?_
            refine zW_icmp_ge (tgt := 86) dX10_setRoot_66 (by decide) (by first | assumption | omega | (unfold InR; omega) | (unfold InL; omega) | (simp only [InR] at *; omega)) (by first | assumption | omega | (unfold InR; omega) | (unfold InL; omega) | (simp only [InR] at *; omega)) (fun z => ?_) (fun z => ?_)
            · exact absurd z (by omega)
            · refine zW_aload_n dX10_setRoot_69 rfl ?_
              refine zW_aload_n dX10_setRoot_70 rfl ?_
              refine zW_iload_n dX10_setRoot_71 rfl ?_
              refine zW_iload dX10_setRoot_72 rfl ?_
              refine zcV2 dX10_setRoot_74 rfl eX10_codeAt b1499 ⟨by decide, by decide, by decide, by decide⟩ rfl a1.1.1 rfl (by decide) (Nat.le_of_ble_eq_true rfl) (r_codeAt a1 wr1 (by omega) br ?_)
              refine zcV1 dX10_setRoot_77 rfl eX10_pushes b1447 ⟨by decide, by decide, by decide, by decide⟩ rfl a1.1.1 rfl (by decide) (Nat.le_of_ble_eq_true rfl) (r_pushes a1.1 hp hx (by omega) (fun σ2 hp2 m2 => ?_))
              refine zW_iinc dX10_setRoot_80 rfl (by decide) rfl rfl ?_
              refine zW_goto (tgt := 59) dX10_setRoot_83 (by decide) ?_
              refine ih (k + 1) σ2 (by omega) ?_ (m1.tr m2)
              rw [take_s (by omega), pws_app]
              exact hp2
        refine zW_istore dX10_setRoot_50 (by decide) rfl rfl ?_
        refine zW_aload_n dX10_setRoot_52 rfl ?_
        refine zcV0 dX10_setRoot_53 rfl eX10_begins b1431 ⟨by decide, by decide, by decide, by decide⟩ rfl a0.1.1 rfl (by decide) (Nat.le_of_ble_eq_true rfl) (r_begins a0.1 (fun σ1 h1 m1 => ?_))
        refine zW_iconst dX10_setRoot_56 ?_
        refine zW_istore dX10_setRoot_57 (by decide) rfl rfl ?_
        exact loop1 _ 0 σ1 (Nat.zero_add _) h1 m1
      · have he : reg A r = [] := List.eq_nil_of_length_eq_zero (by omega)
        refine zW_aload_n dX10_setRoot_32 rfl ?_
        refine zW_iconst dX10_setRoot_33 ?_
        refine zcV1 dX10_setRoot_34 rfl eX10_fails b1371 ⟨by decide, by decide, by decide, by decide⟩ rfl a0.1.1 rfl (by decide) (Nat.le_of_ble_eq_true rfl) (r_fails a0.1 ?_)
        refine zW_ireturn dX10_setRoot_37 rfl rfl (by first | decide | (show _ ≤ (0 : Nat); omega)) (by first | decide | (show _ ≤ (0 : Nat); omega)) ?_
        exact hQ.bad (k := 1) (by unfold o_setRoot; rw [if_pos gp, if_pos gr, if_pos he]) h (m0.th (Mr.O (Ks := KS) (Rs := RS) (by decide)) (fun _ z => z) (fun _ z => z)) (zO_sOs _ _ _ _)
    · exact absurd q (by decide)
  · refine zW_if_ne (tgt := 19) dX10_setRoot_10 (by decide) (by first | assumption | omega | (unfold InR; omega) | (unfold InL; omega) | (simp only [InR] at *; omega)) (fun q => ?_) (fun q => ?_)
    · exact absurd rfl q
    · refine zW_aload_n dX10_setRoot_13 rfl ?_
      refine zW_iconst dX10_setRoot_14 ?_
      refine zcV1 dX10_setRoot_15 rfl eX10_fails b1371 ⟨by decide, by decide, by decide, by decide⟩ rfl a0.1.1 rfl (by decide) (Nat.le_of_ble_eq_true rfl) (r_fails a0.1 ?_)
      refine zW_ireturn dX10_setRoot_18 rfl rfl (by first | decide | (show _ ≤ (0 : Nat); omega)) (by first | decide | (show _ ≤ (0 : Nat); omega)) ?_
      exact hQ.bad (k := 0) (o_setRoot_no g) h (m0.th (Mr.O (Ks := KS) (Rs := RS) (by decide)) (fun _ z => z) (fun _ z => z)) (zO_sOs _ _ _ _)
set_option maxRecDepth 100000 in
theorem o_substitute_no {p r t s : Int} (h : ¬ (inR8 p ∧ inR8 r ∧ (0 ≤ t ∧ t < (sRk (aSt A) : Nat)) ∧ inR8 s)) : o_substitute A p r t s = (1, 0, A) := by
  unfold o_substitute
  by_cases g : inR8 p
  · rw [if_pos g]
    by_cases g2 : inR8 r
    · rw [if_pos g2]
      by_cases g3 : 0 ≤ t ∧ t < (sRk (aSt A) : Nat)
      · rw [if_pos g3, if_neg (fun z => h ⟨g, g2, g3, z⟩)]
      · rw [if_neg g3]
    · rw [if_neg g2]
  · rw [if_neg g]
set_option maxRecDepth 100000 in
theorem q_substitute {p r t s : Int} (h : RI σ y A) (ip : InR p) (ir : InR r) (it : InR t) (is : InR s) (ao : AO A) (hQ : RQ σ y (o_substitute A p r t s) Q) : zM Γ mX10_substitute [vR (some y), vI p, vI r, vI t, vI s] σ Q := by
  refine zM_of (n := 2) (by decide +kernel) rfl rfl rfl ?_
  refine zW_aload_n dX10_substitute_0 rfl ?_
  refine zW_iconst dX10_substitute_1 ?_
  refine zpI dX10_substitute_2 fX10_75 h.1.1 rfl (Or.inl rfl) (zst_int _) ?_
  have m0 : Mr σ (sO σ y 0 0) y KS RS := Mr.O (by decide)
  have h0 := h.mr m0
  have t0 : zO (sO σ y 0 0) y 0 = 0 := zO_sOs _ _ _ _
  generalize sO σ y 0 0 = σ0 at m0 h0 t0 ⊢
  have a0 : RA σ0 y 0 := h0.ra
  have bd : ¬ (inR8 p ∧ inR8 r ∧ (0 ≤ t ∧ t < (sRk (aSt A) : Nat)) ∧ inR8 s) → zW Γ mX10_substitute 29 [some (vR (some y)), some (vI p), some (vI r), some (vI t), some (vI s), none, none] [] σ0 0 0 Q := by
    intro hno
    refine zW_aload_n dX10_substitute_29 rfl ?_
    refine zW_iconst dX10_substitute_30 ?_
    refine zcV1 dX10_substitute_31 rfl eX10_fails b1371 ⟨by decide, by decide, by decide, by decide⟩ rfl a0.1.1 rfl (by decide) (Nat.le_of_ble_eq_true rfl) (r_fails a0.1 ?_)
    refine zW_ireturn dX10_substitute_34 rfl rfl (by first | decide | (show _ ≤ (0 : Nat); omega)) (by first | decide | (show _ ≤ (0 : Nat); omega)) ?_
    exact hQ.bad (k := 0) (o_substitute_no hno) h (m0.th (Mr.O (Ks := KS) (Rs := RS) (by decide)) (fun _ z => z) (fun _ z => z)) (zO_sOs _ _ _ _)
  refine zW_iload_n dX10_substitute_5 rfl ?_
  refine zcS1 dX10_substitute_6 rfl eX10_isRegister b1492 ⟨by decide, by decide, by decide, by decide⟩ rfl (Nat.le_of_ble_eq_true rfl) (r_isRegister ip (fun gp => ?_) (fun gp => ?_))
  · refine zW_if_eq (tgt := 29) dX10_substitute_9 (by decide) (by first | assumption | omega | (unfold InR; omega) | (unfold InL; omega) | (simp only [InR] at *; omega)) (fun q => ?_) (fun q => ?_)
    · exact absurd q (by decide)
    · refine zW_iload_n dX10_substitute_12 rfl ?_
      refine zW_iload dX10_substitute_13 rfl ?_
      refine zcS2 dX10_substitute_15 rfl eX10_areRegisters b1510 ⟨by decide, by decide, by decide, by decide⟩ rfl (Nat.le_of_ble_eq_true rfl) (r_areRegisters ir is (fun gr gs => ?_) (fun g => ?_))
      · refine zW_if_eq (tgt := 29) dX10_substitute_18 (by decide) (by first | assumption | omega | (unfold InR; omega) | (unfold InL; omega) | (simp only [InR] at *; omega)) (fun q2 => ?_) (fun q2 => ?_)
        · exact absurd q2 (by decide)
        · refine zW_aload_n dX10_substitute_21 rfl ?_
          refine zW_iload_n dX10_substitute_22 rfl ?_
          refine zcV1 dX10_substitute_23 rfl eX10_isGenerator b1537 ⟨by decide, by decide, by decide, by decide⟩ rfl a0.1.1 rfl (by decide) (Nat.le_of_ble_eq_true rfl) (r_isGenerator a0 it h0.rk ao.1.1.2 (fun gt9 => ?_) (fun gt9 => ?_))
          · refine zW_if_ne (tgt := 35) dX10_substitute_26 (by decide) (by first | assumption | omega | (unfold InR; omega) | (unfold InL; omega) | (simp only [InR] at *; omega)) (fun q3 => ?_) (fun q3 => ?_)
            · have wr := h0.rw gr
              have ws := h0.rw gs
              have br := r8b gr
              have bs := r8b gs
              have lr := wr.2.1
              have ls := ws.2.1
              have rk4 := ao.1.1.2
              have loop : ∀ n i σ1 z, i + n = (reg A r).length → RP σ1 y (sbw t.toNat (reg A s) ((reg A r).take i)) → Mr σ0 σ1 y [13] [4] → zW Γ mX10_substitute 42 [some (vR (some y)), some (vI p), some (vI r), some (vI t), some (vI s), some (vI i), z] [] σ1 0 0 Q := by
                intro n
                induction n with
                | zero =>
                  intro i σ1 z hi hp m1
                  have a1 := a0.mr m1
                  rw [List.take_of_length_le (by omega)] at hp
                  refine zW_iload dX10_substitute_42 rfl ?_
                  refine zW_aload_n dX10_substitute_44 rfl ?_
                  refine zW_iload_n dX10_substitute_45 rfl ?_
                  refine zcS1 dX10_substitute_46 rfl eX10_register b1455 ⟨by decide, by decide, by decide, by decide⟩ rfl (Nat.le_of_ble_eq_true rfl) (r_register gr ?_)
                  refine zcV1 dX10_substitute_49 rfl eX10_get b1443 ⟨by decide, by decide, by decide, by decide⟩ rfl a1.1.1 rfl (by decide) (Nat.le_of_ble_eq_true rfl) (r_get a1 (by omega) (wr.mr m1).1 ?_)
                  refine zW_icmp_ge (tgt := 118) dX10_substitute_52 (by decide) (by first | assumption | omega | (unfold InR; omega) | (unfold InL; omega) | (simp only [InR] at *; omega)) (by first | assumption | omega | (unfold InR; omega) | (unfold InL; omega) | (simp only [InR] at *; omega)) (fun q => ?_) (fun q => ?_)
                  · have m0σ1 : Mr σ σ1 y KS RS := m0.th m1 (by decide) (by decide)
                    have hIσ1 := h.mr m0σ1
                    have tσ1 : zO σ1 y 0 = 0 := by rw [Mr.o m1 (by decide)]; exact t0
                    have ho9 : o_substitute A p r t s = o_store A p (sbw t.toNat (reg A s) (reg A r)) 2 := by unfold o_substitute; rw [if_pos gp, if_pos gr, if_pos gt9, if_pos gs]
                    refine zW_aload_n dX10_substitute_118 rfl ?_
                    refine zcV0 dX10_substitute_119 rfl eX10_isTooLong b1451 ⟨by decide, by decide, by decide, by decide⟩ rfl hIσ1.1.1 rfl (by decide) (Nat.le_of_ble_eq_true rfl) (r_isTooLong hIσ1.1 hp ?_)
                    by_cases hl9 : (sbw t.toNat (reg A s) (reg A r)).length ≤ 60
                    · rw [if_pos hl9]
                      refine zW_if_eq (tgt := 133) dX10_substitute_122 (by decide) (by first | assumption | omega | (unfold InR; omega) | (unfold InL; omega) | (simp only [InR] at *; omega)) (fun b9 => ?_) (fun b9 => ?_)
                      · refine zW_aload_n dX10_substitute_133 rfl ?_
                        refine zW_iload_n dX10_substitute_134 rfl ?_
                        refine zcV1 dX10_substitute_135 rfl eX10_keeps b1780 ⟨by decide, by decide, by decide, by decide⟩ rfl hIσ1.1.1 rfl (by decide) (Nat.le_of_ble_eq_true rfl) (r_keeps hIσ1 gp hp hl9 (fun σ9 h9 m9 => ?_))
                        refine zW_ireturn dX10_substitute_138 rfl rfl (by first | decide | (show _ ≤ (0 : Nat); omega)) (by first | decide | (show _ ≤ (0 : Nat); omega)) ?_
                        exact hQ.done (ho9.trans (if_pos hl9)) h9 (Mr.th (Mr.wk m0σ1 (Ks' := KA) (Rs' := RSA) (by decide) (by decide)) m9 (by decide) (by decide)) (by rw [m9.o (by decide)]; exact tσ1)
                      · exact absurd rfl b9
                    · rw [if_neg hl9]
                      refine zW_if_eq (tgt := 133) dX10_substitute_122 (by decide) (by first | assumption | omega | (unfold InR; omega) | (unfold InL; omega) | (simp only [InR] at *; omega)) (fun b9 => ?_) (fun b9 => ?_)
                      · exact absurd b9 (by decide)
                      · refine zW_aload_n dX10_substitute_125 rfl ?_
                        refine zW_iconst dX10_substitute_126 ?_
                        refine zcV1 dX10_substitute_127 rfl eX10_fails b1371 ⟨by decide, by decide, by decide, by decide⟩ rfl hIσ1.1.1 rfl (by decide) (Nat.le_of_ble_eq_true rfl) (r_fails hIσ1.1 ?_)
                        refine zW_goto (tgt := 138) dX10_substitute_130 (by decide) ?_
                        refine zW_ireturn dX10_substitute_138 rfl rfl (by first | decide | (show _ ≤ (0 : Nat); omega)) (by first | decide | (show _ ≤ (0 : Nat); omega)) ?_
                        exact hQ.bad (k := 1) (ho9.trans (if_neg hl9)) h (m0σ1.th (Mr.O (Ks := KS) (Rs := RS) (by decide)) (fun _ z => z) (fun _ z => z)) (zO_sOs _ _ _ _)
                  · exact absurd q (by omega)
                | succ n ih =>
                  intro i σ1 z hi hp m1
                  have a1 := a0.mr m1
                  have L := sbw_len t.toNat ls (reg A r) i (by omega)
                  have hx := getD_lt wr.2.2.2 (i := i) (by omega)
                  have nxt : ∀ σ2 z2, RP σ2 y (pws (sbw t.toNat (reg A s) ((reg A r).take i)) (sbx t.toNat (reg A s) ((reg A r).getD i 0))) → Mr σ1 σ2 y [13] [4] → zW Γ mX10_substitute 112 [some (vR (some y)), some (vI p), some (vI r), some (vI t), some (vI s), some (vI i), z2] [] σ2 0 0 Q := by
                    intro σ2 z2 hp2 m2
                    refine zW_iinc dX10_substitute_112 rfl (by decide) rfl rfl ?_
                    refine zW_goto (tgt := 42) dX10_substitute_115 (by decide) ?_
                    exact ih (i + 1) σ2 _ (by omega) (by rw [sbw_take (by omega)]; exact hp2) (m1.tr m2)
                  refine zW_iload dX10_substitute_42 rfl ?_
                  refine zW_aload_n dX10_substitute_44 rfl ?_
                  refine zW_iload_n dX10_substitute_45 rfl ?_
                  refine zcS1 dX10_substitute_46 rfl eX10_register b1455 ⟨by decide, by decide, by decide, by decide⟩ rfl (Nat.le_of_ble_eq_true rfl) (r_register gr ?_)
                  refine zcV1 dX10_substitute_49 rfl eX10_get b1443 ⟨by decide, by decide, by decide, by decide⟩ rfl a1.1.1 rfl (by decide) (Nat.le_of_ble_eq_true rfl) (r_get a1 (by omega) (wr.mr m1).1 ?_)
                  refine zW_icmp_ge (tgt := 118) dX10_substitute_52 (by decide) (by first | assumption | omega | (unfold InR; omega) | (unfold InL; omega) | (simp only [InR] at *; omega)) (by first | assumption | omega | (unfold InR; omega) | (unfold InL; omega) | (simp only [InR] at *; omega)) (fun q => ?_) (fun q => ?_)
                  · exact absurd q (by omega)
                  · refine zW_aload_n dX10_substitute_55 rfl ?_
                    refine zW_iload_n dX10_substitute_56 rfl ?_
                    refine zcS1 dX10_substitute_57 rfl eX10_register b1455 ⟨by decide, by decide, by decide, by decide⟩ rfl (Nat.le_of_ble_eq_true rfl) (r_register gr ?_)
                    refine zW_iload dX10_substitute_60 rfl ?_
                    refine zcV2 dX10_substitute_62 rfl eX10_codeAt b1499 ⟨by decide, by decide, by decide, by decide⟩ rfl a1.1.1 rfl (by decide) (Nat.le_of_ble_eq_true rfl) (r_codeAt a1 (wr.mr m1) (by omega) br ?_)
                    refine zW_istore dX10_substitute_65 (by decide) rfl rfl ?_
                    refine zW_iload dX10_substitute_67 rfl ?_
                    refine zW_iconst dX10_substitute_69 ?_
                    refine zW_idiv dX10_substitute_70 (by first | assumption | omega | (unfold InR; omega) | (unfold InL; omega) | (simp only [InR] at *; omega)) (by first | assumption | omega | (unfold InR; omega) | (unfold InL; omega) | (simp only [InR] at *; omega)) (by first | assumption | omega | (unfold InR; omega) | (unfold InL; omega) | (simp only [InR] at *; omega)) (by first | assumption | omega | (unfold InR; omega) | (unfold InL; omega) | (simp only [InR] at *; omega)) ?_
                    refine zW_iload_n dX10_substitute_71 rfl ?_
                    refine zW_icmp_eq (tgt := 84) dX10_substitute_72 (by decide) (by first | assumption | omega | (unfold InR; omega) | (unfold InL; omega) | (simp only [InR] at *; omega)) (by first | assumption | omega | (unfold InR; omega) | (unfold InL; omega) | (simp only [InR] at *; omega)) (fun q4 => ?_) (fun q4 => ?_)
                    · refine zW_iload dX10_substitute_84 rfl ?_
                      refine zW_iconst dX10_substitute_86 ?_
                      refine zW_irem dX10_substitute_87 (by first | assumption | omega | (unfold InR; omega) | (unfold InL; omega) | (simp only [InR] at *; omega)) (by first | assumption | omega | (unfold InR; omega) | (unfold InL; omega) | (simp only [InR] at *; omega)) (by first | assumption | omega | (unfold InR; omega) | (unfold InL; omega) | (simp only [InR] at *; omega)) (by first | assumption | omega | (unfold InR; omega) | (unfold InL; omega) | (simp only [InR] at *; omega)) ?_
                      refine zW_if_ne (tgt := 103) dX10_substitute_88 (by decide) (by first | assumption | omega | (unfold InR; omega) | (unfold InL; omega) | (simp only [InR] at *; omega)) (fun q5 => ?_) (fun q5 => ?_)
                      · refine zW_aload_n dX10_substitute_103 rfl ?_
                        refine zW_iload dX10_substitute_104 rfl ?_
                        refine zcS1 dX10_substitute_106 rfl eX10_register b1455 ⟨by decide, by decide, by decide, by decide⟩ rfl (Nat.le_of_ble_eq_true rfl) (r_register gs ?_)
                        refine zcV1 dX10_substitute_109 rfl eX10_pushesInverse b1796 ⟨by decide, by decide, by decide, by decide⟩ rfl a1.1.1 rfl (by decide) (Nat.le_of_ble_eq_true rfl) (r_pushesInverse a1 (ws.mr m1) bs hp (by omega) (fun σ2 hp2 m2 => ?_))
                        refine nxt σ2 _ ?_ m2
                        unfold sbx
                        rw [if_pos (by omega), if_pos (by omega)]
                        exact hp2
                      · refine zW_aload_n dX10_substitute_91 rfl ?_
                        refine zW_iload dX10_substitute_92 rfl ?_
                        refine zcS1 dX10_substitute_94 rfl eX10_register b1455 ⟨by decide, by decide, by decide, by decide⟩ rfl (Nat.le_of_ble_eq_true rfl) (r_register gs ?_)
                        refine zcV1 dX10_substitute_97 rfl eX10_pushesWord b1525 ⟨by decide, by decide, by decide, by decide⟩ rfl a1.1.1 rfl (by decide) (Nat.le_of_ble_eq_true rfl) (r_pushesWord a1 (ws.mr m1) bs hp (by omega) (fun σ2 hp2 m2 => ?_))
                        refine zW_goto (tgt := 112) dX10_substitute_100 (by decide) ?_
                        refine nxt σ2 _ ?_ m2
                        unfold sbx
                        rw [if_pos (by omega), if_neg (by omega)]
                        exact hp2
                    · refine zW_aload_n dX10_substitute_75 rfl ?_
                      refine zW_iload dX10_substitute_76 rfl ?_
                      refine zcV1 dX10_substitute_78 rfl eX10_pushes b1447 ⟨by decide, by decide, by decide, by decide⟩ rfl a1.1.1 rfl (by decide) (Nat.le_of_ble_eq_true rfl) (r_pushes a1.1 hp hx (by omega) (fun σ2 hp2 m2 => ?_))
                      refine zW_goto (tgt := 112) dX10_substitute_81 (by decide) ?_
                      refine nxt σ2 _ ?_ m2
                      unfold sbx
                      rw [if_neg (by omega)]
                      exact hp2
              refine zW_aload_n dX10_substitute_35 rfl ?_
              refine zcV0 dX10_substitute_36 rfl eX10_begins b1431 ⟨by decide, by decide, by decide, by decide⟩ rfl a0.1.1 rfl (by decide) (Nat.le_of_ble_eq_true rfl) (r_begins a0.1 (fun σ1 h1 m1 => ?_))
              refine zW_iconst dX10_substitute_39 ?_
              refine zW_istore dX10_substitute_40 (by decide) rfl rfl ?_
              exact loop (reg A r).length 0 σ1 none (Nat.zero_add _) h1 m1
            · exact absurd q3 (by decide)
          · refine zW_if_ne (tgt := 35) dX10_substitute_26 (by decide) (by first | assumption | omega | (unfold InR; omega) | (unfold InL; omega) | (simp only [InR] at *; omega)) (fun q3 => ?_) (fun q3 => ?_)
            · exact absurd rfl q3
            · exact bd (fun z => gt9 z.2.2.1)
      · refine zW_if_eq (tgt := 29) dX10_substitute_18 (by decide) (by first | assumption | omega | (unfold InR; omega) | (unfold InL; omega) | (simp only [InR] at *; omega)) (fun q2 => ?_) (fun q2 => ?_)
        · exact bd (fun z => g ⟨z.2.1, z.2.2.2⟩)
        · exact absurd rfl q2
  · refine zW_if_eq (tgt := 29) dX10_substitute_9 (by decide) (by first | assumption | omega | (unfold InR; omega) | (unfold InL; omega) | (simp only [InR] at *; omega)) (fun q => ?_) (fun q => ?_)
    · exact bd (fun z => gp z.1)
    · exact absurd rfl q
set_option maxRecDepth 100000 in
theorem cob_in {b k : Nat} (h : cob b k ≠ -1) (hk : k ≤ 4) : (cob b k).toNat < 8 ∧ cob b k = (((cob b k).toNat : Nat) : Int) := by
  have := @cob_lt b k
  omega
set_option maxRecDepth 100000 in
theorem q_setRegister {p : Int} (h : RI σ y A) (ip : InR p) (ao : AO A) (hQ : RQ σ y (o_setRegister A p) Q) : zM Γ mX10_setRegister [vR (some y), vI p] σ Q := by
  refine zM_of (n := 2) (by decide +kernel) rfl rfl rfl ?_
  refine zW_aload_n dX10_setRegister_0 rfl ?_
  refine zW_iconst dX10_setRegister_1 ?_
  refine zpI dX10_setRegister_2 fX10_75 h.1.1 rfl (Or.inl rfl) (zst_int _) ?_
  have m0 : Mr σ (sO σ y 0 0) y KS RS := Mr.O (by decide)
  have h0 := h.mr m0
  have t0 : zO (sO σ y 0 0) y 0 = 0 := zO_sOs _ _ _ _
  generalize sO σ y 0 0 = σ0 at m0 h0 t0 ⊢
  have a0 : RA σ0 y 0 := h0.ra
  have hI := h0.2.2.2.2.2.1
  have hI9 := hI.2.1
  have rk4 := ao.1.1.2
  refine zW_iload_n dX10_setRegister_5 rfl ?_
  refine zcS1 dX10_setRegister_6 rfl eX10_isRegister b1492 ⟨by decide, by decide, by decide, by decide⟩ rfl (Nat.le_of_ble_eq_true rfl) (r_isRegister ip (fun gp => ?_) (fun gp => ?_))
  · refine zW_if_ne (tgt := 18) dX10_setRegister_9 (by decide) (by first | assumption | omega | (unfold InR; omega) | (unfold InL; omega) | (simp only [InR] at *; omega)) (fun q => ?_) (fun q => ?_)
    · have loop : ∀ n i σ1 z, i + n = (aIn A).length → (∀ j, j < i → cob ((aIn A).getD j 0) (sRk (aSt A)) ≠ -1) → RP σ1 y (pws [] (((aIn A).take i).map (fun y => (cob y (sRk (aSt A))).toNat))) → Mr σ0 σ1 y [13] [4] → zW Γ mX10_setRegister 24 [some (vR (some y)), some (vI p), some (vI i), z] [] σ1 0 0 Q := by
        intro n
        induction n with
        | zero =>
          intro i σ1 z hi hall hp m1
          have a1 := a0.mr m1
          have eI : zO σ1 y 7 = ((aIn A).length : Int) := by rw [m1.o (by decide)]; exact hI.1
          have ok : inOK A := by
            intro b hb
            obtain ⟨j, hj⟩ := List.getElem?_of_mem hb
            have hjl := (List.getElem?_eq_some_iff.mp hj).1
            have := hall j (by omega)
            rw [List.getD_eq_getElem?_getD, hj] at this
            exact this
          rw [List.take_of_length_le (by omega)] at hp
          have hw : pws [] ((aIn A).map (fun y => (cob y (sRk (aSt A))).toNat)) = inw A := rfl
          rw [hw] at hp
          have ho : o_setRegister A p = @ite Out ((inw A).length ≤ 60) _ (0, ((inw A).length : Nat), aWin (aSet A p (inw A)) []) (3, 0, A) := by
            unfold o_setRegister
            rw [if_pos gp, @if_pos _ (Classical.propDecidable _) ok]
          have m01 : Mr σ σ1 y KS RS := m0.th m1 (by decide) (by decide)
          have hI1 := h.mr m01
          have t1 : zO σ1 y 0 = 0 := by rw [m1.o (by decide)]; exact t0
          refine zW_iload_n dX10_setRegister_24 rfl ?_
          refine zW_aload_n dX10_setRegister_25 rfl ?_
          refine zgI dX10_setRegister_26 fX10_206 a1.1.1 rfl eI ?_
          refine zW_icmp_ge (tgt := 65) dX10_setRegister_29 (by decide) (by first | assumption | omega | (unfold InR; omega) | (unfold InL; omega) | (simp only [InR] at *; omega)) (by first | assumption | omega | (unfold InR; omega) | (unfold InL; omega) | (simp only [InR] at *; omega)) (fun q => ?_) (fun q => ?_)
          · refine zW_aload_n dX10_setRegister_65 rfl ?_
            refine zcV0 dX10_setRegister_66 rfl eX10_isTooLong b1451 ⟨by decide, by decide, by decide, by decide⟩ rfl a1.1.1 rfl (by decide) (Nat.le_of_ble_eq_true rfl) (r_isTooLong a1.1 hp ?_)
            by_cases hl9 : (inw A).length ≤ 60
            · rw [if_pos hl9]
              refine zW_if_eq (tgt := 78) dX10_setRegister_69 (by decide) (by first | assumption | omega | (unfold InR; omega) | (unfold InL; omega) | (simp only [InR] at *; omega)) (fun b9 => ?_) (fun b9 => ?_)
              · refine zW_aload_n dX10_setRegister_78 rfl ?_
                refine zW_iconst dX10_setRegister_79 ?_
                refine zpI dX10_setRegister_80 fX10_206 a1.1.1 rfl (Or.inl rfl) (zst_int _) ?_
                have m2 : Mr σ1 (sO σ1 y 7 0) y [7] [2] := Mr.O (by decide)
                have hI2 : RI (sO σ1 y 7 0) y (aWin A []) := hI1.inp m2 ⟨zO_sOs _ _ _ _, Nat.zero_le _, fun j hj => absurd hj (Nat.not_lt_zero j), fun b hb => by cases hb⟩
                refine zW_aload_n dX10_setRegister_83 rfl ?_
                refine zW_iload_n dX10_setRegister_84 rfl ?_
                refine zcV1 dX10_setRegister_85 rfl eX10_keeps b1780 ⟨by decide, by decide, by decide, by decide⟩ rfl hI2.1.1 rfl (by decide) (Nat.le_of_ble_eq_true rfl) (r_keeps hI2 gp (hp.mr m2) hl9 (fun σ9 h9 m9 => ?_))
                refine zW_ireturn dX10_setRegister_88 rfl rfl (by first | decide | (show _ ≤ (0 : Nat); omega)) (by first | decide | (show _ ≤ (0 : Nat); omega)) ?_
                exact hQ.done (ho.trans (if_pos hl9)) h9 (Mr.th (Mr.th (Mr.wk m01 (Ks' := KA) (Rs' := RSA) (by decide) (by decide)) m2 (by decide) (by decide)) m9 (by decide) (by decide)) (by rw [m9.o (by decide), m2.o (by decide)]; exact t1)
              · exact absurd rfl b9
            · rw [if_neg hl9]
              refine zW_if_eq (tgt := 78) dX10_setRegister_69 (by decide) (by first | assumption | omega | (unfold InR; omega) | (unfold InL; omega) | (simp only [InR] at *; omega)) (fun b9 => ?_) (fun b9 => ?_)
              · exact absurd b9 (by decide)
              · refine zW_aload_n dX10_setRegister_72 rfl ?_
                refine zW_iconst dX10_setRegister_73 ?_
                refine zcV1 dX10_setRegister_74 rfl eX10_fails b1371 ⟨by decide, by decide, by decide, by decide⟩ rfl a1.1.1 rfl (by decide) (Nat.le_of_ble_eq_true rfl) (r_fails a1.1 ?_)
                refine zW_ireturn dX10_setRegister_77 rfl rfl (by first | decide | (show _ ≤ (0 : Nat); omega)) (by first | decide | (show _ ≤ (0 : Nat); omega)) ?_
                exact hQ.bad (k := 2) (ho.trans (if_neg hl9)) h (m01.th (Mr.O (Ks := KS) (Rs := RS) (by decide)) (fun _ z => z) (fun _ z => z)) (zO_sOs _ _ _ _)
          · exact absurd q (by omega)
        | succ n ih =>
          intro i σ1 z hi hall hp m1
          have a1 := a0.mr m1
          have eI : zO σ1 y 7 = ((aIn A).length : Int) := by rw [m1.o (by decide)]; exact hI.1
          have eb : zI σ1 (y + 2) i = sgn ((aIn A).getD i 0) := by rw [m1.i (by decide)]; exact hI.2.2.1 i (by omega)
          have hby : (aIn A).getD i 0 < 256 := by
            apply hI.2.2.2
            rw [List.getD_eq_getElem?_getD, List.getElem?_eq_getElem (by omega)]
            exact List.getElem_mem _
          have hrk1 : zI σ1 (y + 1) (0 + 0) = (sRk (aSt A) : Int) := by rw [m1.i (by decide)]; exact h0.rk
          have hcb := @cob_lt ((aIn A).getD i 0) (sRk (aSt A))
          have hlen := pws_len (((aIn A).take i).map (fun y => (cob y (sRk (aSt A))).toNat)) []
          rw [List.length_map, List.length_take] at hlen
          have e0 : ([] : List Nat).length = 0 := rfl
          refine zW_iload_n dX10_setRegister_24 rfl ?_
          refine zW_aload_n dX10_setRegister_25 rfl ?_
          refine zgI dX10_setRegister_26 fX10_206 a1.1.1 rfl eI ?_
          refine zW_icmp_ge (tgt := 65) dX10_setRegister_29 (by decide) (by first | assumption | omega | (unfold InR; omega) | (unfold InL; omega) | (simp only [InR] at *; omega)) (by first | assumption | omega | (unfold InR; omega) | (unfold InL; omega) | (simp only [InR] at *; omega)) (fun q => ?_) (fun q => ?_)
          · exact absurd q (by omega)
          · refine zW_aload_n dX10_setRegister_32 rfl ?_
            refine zW_aload_n dX10_setRegister_33 rfl ?_
            refine zgP dX10_setRegister_34 fX10_13 a1.1.1 rfl a1.1.p_buffer ?_
            refine zW_iload_n dX10_setRegister_37 rfl ?_
            refine zrB dX10_setRegister_38 a1.1.k_buffer (by first | assumption | omega | (unfold InR; omega) | (unfold InL; omega) | (simp only [InR] at *; omega)) (by first | assumption | omega | (unfold InR; omega) | (unfold InL; omega) | (simp only [InR] at *; omega)) (by first | assumption | omega | (unfold InR; omega) | (unfold InL; omega) | (simp only [InR] at *; omega)) eb ?_
            refine zcV1 dX10_setRegister_39 rfl eX10_codeOf b1439 ⟨by decide, by decide, by decide, by decide⟩ rfl a1.1.1 rfl (by decide) (Nat.le_of_ble_eq_true rfl) (r_codeOf a1 hrk1 rk4 hby ?_)
            refine zW_istore_n dX10_setRegister_42 (by decide) rfl rfl ?_
            refine zW_iload_n dX10_setRegister_43 rfl ?_
            refine zW_iconst dX10_setRegister_44 ?_
            refine zW_icmp_ne (tgt := 54) dX10_setRegister_45 (by decide) (by first | assumption | omega | (unfold InR; omega) | (unfold InL; omega) | (simp only [InR] at *; omega)) (by first | assumption | omega | (unfold InR; omega) | (unfold InL; omega) | (simp only [InR] at *; omega)) (fun q2 => ?_) (fun q2 => ?_)
            · obtain ⟨c1, c2⟩ := cob_in q2 rk4
              rw [c2]
              refine zW_aload_n dX10_setRegister_54 rfl ?_
              refine zW_iload_n dX10_setRegister_55 rfl ?_
              refine zcV1 dX10_setRegister_56 rfl eX10_pushes b1447 ⟨by decide, by decide, by decide, by decide⟩ rfl a1.1.1 rfl (by decide) (Nat.le_of_ble_eq_true rfl) (r_pushes a1.1 hp c1 (by omega) (fun σ2 hp2 m2 => ?_))
              refine zW_iinc dX10_setRegister_59 rfl (by decide) rfl rfl ?_
              refine zW_goto (tgt := 24) dX10_setRegister_62 (by decide) ?_
              refine ih (i + 1) σ2 _ (by omega) (fun j hj => ?_) ?_ (m1.tr m2)
              · by_cases e : j = i
                · rw [e]; exact q2
                · exact hall j (by omega)
              · rw [take_s (show i < (aIn A).length by omega), List.map_append, pws_app]
                exact hp2
            · have m01 : Mr σ σ1 y KS RS := m0.th m1 (by decide) (by decide)
              have bad9 : ¬ inOK A := fun z => by
                refine z ((aIn A).getD i 0) ?_ q2
                rw [List.getD_eq_getElem?_getD, List.getElem?_eq_getElem (by omega)]
                exact List.getElem_mem _
              refine zW_aload_n dX10_setRegister_48 rfl ?_
              refine zW_iconst dX10_setRegister_49 ?_
              refine zcV1 dX10_setRegister_50 rfl eX10_fails b1371 ⟨by decide, by decide, by decide, by decide⟩ rfl a1.1.1 rfl (by decide) (Nat.le_of_ble_eq_true rfl) (r_fails a1.1 ?_)
              refine zW_ireturn dX10_setRegister_53 rfl rfl (by first | decide | (show _ ≤ (0 : Nat); omega)) (by first | decide | (show _ ≤ (0 : Nat); omega)) ?_
              exact hQ.bad (k := 1) (by unfold o_setRegister; rw [if_pos gp, @if_neg _ (Classical.propDecidable _) bad9]) h (m01.th (Mr.O (Ks := KS) (Rs := RS) (by decide)) (fun _ z => z) (fun _ z => z)) (zO_sOs _ _ _ _)
      refine zW_aload_n dX10_setRegister_18 rfl ?_
      refine zcV0 dX10_setRegister_19 rfl eX10_begins b1431 ⟨by decide, by decide, by decide, by decide⟩ rfl a0.1.1 rfl (by decide) (Nat.le_of_ble_eq_true rfl) (r_begins a0.1 (fun σ1 h1 m1 => ?_))
      refine zW_iconst dX10_setRegister_22 ?_
      refine zW_istore_n dX10_setRegister_23 (by decide) rfl rfl ?_
      exact loop (aIn A).length 0 σ1 none (Nat.zero_add _) (fun j hj => absurd hj (Nat.not_lt_zero j)) h1 m1
    · exact absurd q (by decide)
  · refine zW_if_ne (tgt := 18) dX10_setRegister_9 (by decide) (by first | assumption | omega | (unfold InR; omega) | (unfold InL; omega) | (simp only [InR] at *; omega)) (fun q => ?_) (fun q => ?_)
    · exact absurd rfl q
    · refine zW_aload_n dX10_setRegister_12 rfl ?_
      refine zW_iconst dX10_setRegister_13 ?_
      refine zcV1 dX10_setRegister_14 rfl eX10_fails b1371 ⟨by decide, by decide, by decide, by decide⟩ rfl a0.1.1 rfl (by decide) (Nat.le_of_ble_eq_true rfl) (r_fails a0.1 ?_)
      refine zW_ireturn dX10_setRegister_17 rfl rfl (by first | decide | (show _ ≤ (0 : Nat); omega)) (by first | decide | (show _ ≤ (0 : Nat); omega)) ?_
      exact hQ.bad (k := 0) (if_neg gp) h (m0.th (Mr.O (Ks := KS) (Rs := RS) (by decide)) (fun _ z => z) (fun _ z => z)) (zO_sOs _ _ _ _)
end REDIT
