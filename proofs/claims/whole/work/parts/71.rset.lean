/-! the reference: items, statements, all -/
def KU : List Nat := [13, 32, 33, 34, 35, 36]
section RSETS
variable {Γ : GG} {σ σ' : HS} {Q : Res → HS → Prop} {y o p : Nat} {l w : List Nat} {t : Nat × Nat × Nat} {x : ST}
set_option maxRecDepth 100000 in
theorem itm1_in {tx : Nat → Nat} {r : Nat} {w' : List Nat} (h : itm1 tx r t w = .inr w') : t.1 = 1 ∨ t.1 = 2 := by
  unfold itm1 at h
  split at h
  · exact Or.inr (by assumption)
  · split at h
    · cases h
    · omega
set_option maxRecDepth 100000 in
theorem itm1_no {tx : Nat → Nat} {r : Nat} (h : t.1 ≠ 1) (h2 : t.1 ≠ 2) : itm1 tx r t w = .inl (1, t.2.1) := by
  unfold itm1
  rw [if_neg h2, if_pos h]
set_option maxRecDepth 100000 in
theorem SR.set {B r : Nat} (h : SR σ y B x) (hr : r < 8) (hw : Rw σ' y (B + 1 + 61 * r) w) (e : ∀ k, (k < B + 1 + 61 * r ∨ B + 1 + 61 * r + 61 ≤ k) → zI σ' (y + 1) k = zI σ (y + 1) k) : SR σ' y B (sReg x r w) := by
  refine ⟨by rw [e B (by omega)]; exact h.1, fun k hk => ?_, fun g hg => ?_⟩
  · show Rw σ' y (B + 1 + 61 * k) (if k = r then w else sRg x k)
    by_cases q : k = r
    · rw [if_pos q, q]; exact hw
    · rw [if_neg q]; exact (h.2.1 k hk).same (fun j j1 j2 => e j (by omega))
  · obtain ⟨b1, b2, b3⟩ := h.2.2 g hg
    exact ⟨by rw [e _ (by omega)]; exact b1, b2, fun k hk => (b3 k hk).same (fun j j1 j2 => e j (by omega))⟩
set_option maxRecDepth 100000 in
theorem r_readsItem {k : Nat} (h : RA σ y o) (hI : rIn σ y l) (hk : zI σ (y + 1) (o + 0) = (k : Int)) (hk4 : k ≤ 4) (hP : PR σ y l t) (hle : t.2.1 ≤ t.2.2 ∧ t.2.2 ≤ l.length) (h4 : t.1 ≤ 4) (ht1 : t.1 = 1 → t.2.2 - t.2.1 ≤ 60) (ht2 : t.1 = 2 → tnum (tl l) t ≤ 99) (hw : RP σ y w) (hw6 : w.length ≤ 60)
    (h0 : ∀ σ' e, itm1 (tl l) k t w = .inl e → PF σ' y e → Mr σ σ' y KU [4] → Q (.inl (some (vI 0))) σ')
    (h1 : ∀ σ' w', itm1 (tl l) k t w = .inr w' → w'.length ≤ 60 → RP σ' y w' → PR σ' y l t → Mr σ σ' y KU [4] → Q (.inl (some (vI 1))) σ') : zM Γ mX10_readsItem [vR (some y)] σ Q := by
  have hl6 := hI.2.1
  obtain ⟨a1, a2, a3, a4⟩ := id hP
  unfold itm1 at h0 h1
  refine zM_of (n := 1) (by decide +kernel) rfl rfl rfl ?_
  refine zW_aload_n dX10_readsItem_0 rfl ?_
  refine zgI dX10_readsItem_1 fX10_221 h.1.1 rfl a1 ?_
  refine zW_iconst dX10_readsItem_4 ?_
  refine zW_icmp_ne (tgt := 43) dX10_readsItem_5 (by decide) (by first | assumption | omega | (unfold InR; omega) | (unfold InL; omega) | (simp only [InR] at *; omega)) (by first | assumption | omega | (unfold InR; omega) | (unfold InL; omega) | (simp only [InR] at *; omega)) (fun q => ?_) (fun q => ?_)
  · have n2 : ¬ t.1 = 2 := by omega
    rw [if_neg n2] at h0 h1
    refine zW_aload_n dX10_readsItem_43 rfl ?_
    refine zgI dX10_readsItem_44 fX10_221 h.1.1 rfl a1 ?_
    refine zW_iconst dX10_readsItem_47 ?_
    refine zW_icmp_eq (tgt := 57) dX10_readsItem_48 (by decide) (by first | assumption | omega | (unfold InR; omega) | (unfold InL; omega) | (simp only [InR] at *; omega)) (by first | assumption | omega | (unfold InR; omega) | (unfold InL; omega) | (simp only [InR] at *; omega)) (fun q2 => ?_) (fun q2 => ?_)
    · have n1 : ¬ t.1 ≠ 1 := by omega
      have ht60 := ht1 (by omega)
      rw [if_neg n1] at h0 h1
      have cin : ∀ i, i < t.2.2 → tl l i < 256 ∧ (zI σ (y + 2) i = sgn (tl l i)) := fun i hi => ⟨tl_lt hI i, hI.2.2.1 i (by omega)⟩
      have loop2 : (∀ i, t.2.1 ≤ i → i < t.2.2 → cob (tl l i) k ≠ -1) → ∀ m i u σ1, i + m = t.2.2 - t.2.1 → u = pws w ((List.range i).map (fun i => (cob (tl l (t.2.1 + i)) k).toNat)) → RP σ1 y u → Mr σ σ1 y [13] [4] → zW Γ mX10_readsItem 101 [some (vR (some y)), some (vI ((t.2.1 + i : Nat) : Int))] [] σ1 0 0 Q := by
        intro hall m
        induction m with
        | zero =>
          intro i u σ1 hi hu hp m1
          have i1 := h.mr m1
          have P1 : PR σ1 y l t := hP.mr m1
          have et : tokl (tl l) k t = true := by
            unfold tokl
            rw [List.all_eq_true]
            intro j hj
            have := List.mem_range.mp hj
            exact decide_eq_true (hall _ (by omega) (by omega))
          have eu : pws w (tcds (tl l) k t) = u := by
            rw [hu, show i = t.2.2 - t.2.1 by omega]
            rfl
          rw [et, if_neg (by decide), eu] at h0 h1
          refine zW_iload_n dX10_readsItem_101 rfl ?_
          refine zW_aload_n dX10_readsItem_102 rfl ?_
          refine zgI dX10_readsItem_103 fX10_215 i1.1.1 rfl P1.2.2.1 ?_
          refine zW_icmp_ge (tgt := 129) dX10_readsItem_106 (by decide) (by first | assumption | omega | (unfold InR; omega) | (unfold InL; omega) | (simp only [InR] at *; omega)) (by first | assumption | omega | (unfold InR; omega) | (unfold InL; omega) | (simp only [InR] at *; omega)) (fun b => ?_) (fun b => ?_)
          · refine zW_aload_n dX10_readsItem_129 rfl ?_
            refine zcV0 dX10_readsItem_130 rfl eX10_isTooLong b1451 ⟨by decide, by decide, by decide, by decide⟩ rfl i1.1.1 rfl (by decide) (Nat.le_of_ble_eq_true rfl) (r_isTooLong i1.1 hp ?_)
            by_cases hl9 : u.length ≤ 60
            · rw [if_pos hl9]
              rw [if_neg (by omega)] at h0 h1
              refine zW_if_eq (tgt := 144) dX10_readsItem_133 (by decide) (by first | assumption | omega | (unfold InR; omega) | (unfold InL; omega) | (simp only [InR] at *; omega)) (fun b2 => ?_) (fun b2 => ?_)
              · refine zW_iconst dX10_readsItem_144 ?_
                refine zW_goto (tgt := 149) dX10_readsItem_145 (by decide) ?_
                refine zW_ireturn dX10_readsItem_149 rfl rfl (by first | decide | (show _ ≤ (0 : Nat); omega)) (by first | decide | (show _ ≤ (0 : Nat); omega)) ?_
                exact h1 σ1 u rfl hl9 hp P1 (m1.wk (by decide) (by decide))
              · exact absurd rfl b2
            · rw [if_neg hl9]
              rw [if_pos (by omega)] at h0 h1
              refine zW_if_eq (tgt := 144) dX10_readsItem_133 (by decide) (by first | assumption | omega | (unfold InR; omega) | (unfold InL; omega) | (simp only [InR] at *; omega)) (fun b2 => ?_) (fun b2 => ?_)
              · exact absurd b2 (by decide)
              · refine zW_aload_n dX10_readsItem_136 rfl ?_
                refine zW_iconst dX10_readsItem_137 ?_
                refine zcV1 dX10_readsItem_138 rfl eX10_faults b1403 ⟨by decide, by decide, by decide, by decide⟩ rfl i1.1.1 rfl (by decide) (Nat.le_of_ble_eq_true rfl) (r_faults i1.1 ?_)
                refine zW_if_eq (tgt := 148) dX10_readsItem_141 (by decide) (by first | assumption | omega | (unfold InR; omega) | (unfold InL; omega) | (simp only [InR] at *; omega)) (fun b3 => ?_) (fun b3 => ?_)
                · refine zW_iconst dX10_readsItem_148 ?_
                  refine zW_ireturn dX10_readsItem_149 rfl rfl (by first | decide | (show _ ≤ (0 : Nat); omega)) (by first | decide | (show _ ≤ (0 : Nat); omega)) ?_
                  exact h0 _ _ rfl ⟨zO_sOs _ _ _ _, P1.f⟩ ((m1.wk (by decide) (by decide)).tr (Mr.O (by decide)))
                · exact absurd rfl b3
          · exact absurd b (by omega)
        | succ m ih =>
          intro i u σ1 hi hu hp m1
          have i1 := h.mr m1
          have P1 : PR σ1 y l t := hP.mr m1
          have hI1 := hI.mr m1
          obtain ⟨c1, c2⟩ := cin (t.2.1 + i) (by omega)
          have c3 : zI σ1 (y + 2) (t.2.1 + i) = sgn (tl l (t.2.1 + i)) := by rw [m1.i (by decide)]; exact c2
          obtain ⟨d1, d2⟩ := cob_in (hall (t.2.1 + i) (by omega) (by omega)) hk4
          have hk1 : zI σ1 (y + 1) (o + 0) = (k : Int) := by rw [m1.i (by decide)]; exact hk
          have hul : u.length ≤ 60 + i := by
            have := pws_len ((List.range i).map (fun i => (cob (tl l (t.2.1 + i)) k).toNat)) w
            rw [List.length_map, List.length_range] at this
            rw [hu]
            omega
          refine zW_iload_n dX10_readsItem_101 rfl ?_
          refine zW_aload_n dX10_readsItem_102 rfl ?_
          refine zgI dX10_readsItem_103 fX10_215 i1.1.1 rfl P1.2.2.1 ?_
          refine zW_icmp_ge (tgt := 129) dX10_readsItem_106 (by decide) (by first | assumption | omega | (unfold InR; omega) | (unfold InL; omega) | (simp only [InR] at *; omega)) (by first | assumption | omega | (unfold InR; omega) | (unfold InL; omega) | (simp only [InR] at *; omega)) (fun b => ?_) (fun b => ?_)
          · exact absurd b (by omega)
          · refine zW_aload_n dX10_readsItem_109 rfl ?_
            refine zW_aload_n dX10_readsItem_110 rfl ?_
            refine zW_aload_n dX10_readsItem_111 rfl ?_
            refine zgP dX10_readsItem_112 fX10_13 i1.1.1 rfl i1.1.p_buffer ?_
            refine zW_iload_n dX10_readsItem_115 rfl ?_
            refine zrB dX10_readsItem_116 i1.1.k_buffer (by first | assumption | omega | (unfold InR; omega) | (unfold InL; omega) | (simp only [InR] at *; omega)) (by first | assumption | omega | (unfold InR; omega) | (unfold InL; omega) | (simp only [InR] at *; omega)) (by first | assumption | omega | (unfold InR; omega) | (unfold InL; omega) | (simp only [InR] at *; omega)) c3 ?_
            refine zcV1 dX10_readsItem_117 rfl eX10_codeOf b1439 ⟨by decide, by decide, by decide, by decide⟩ rfl i1.1.1 rfl (by decide) (Nat.le_of_ble_eq_true rfl) (r_codeOf i1 hk1 hk4 c1 ?_)
            rw [d2]
            refine zcV1 dX10_readsItem_120 rfl eX10_pushes b1447 ⟨by decide, by decide, by decide, by decide⟩ rfl i1.1.1 rfl (by decide) (Nat.le_of_ble_eq_true rfl) (r_pushes i1.1 hp d1 (by omega) (fun σ2 hp2 m2 => ?_))
            refine zW_iinc dX10_readsItem_123 rfl (by decide) rfl rfl ?_
            refine zW_goto (tgt := 101) dX10_readsItem_126 (by decide) ?_
            refine ih (i + 1) _ σ2 (by omega) ?_ hp2 (m1.tr m2)
            rw [List.range_succ, List.map_append, pws_app, ← hu]
            rfl
      have loop1 : ∀ m i, i + m = t.2.2 → t.2.1 ≤ i → (∀ j, t.2.1 ≤ j → j < i → cob (tl l j) k ≠ -1) → zW Γ mX10_readsItem 62 [some (vR (some y)), some (vI i)] [] σ 0 0 Q := by
        intro m
        induction m with
        | zero =>
          intro i hi hi2 hall
          refine zW_iload_n dX10_readsItem_62 rfl ?_
          refine zW_aload_n dX10_readsItem_63 rfl ?_
          refine zgI dX10_readsItem_64 fX10_215 h.1.1 rfl a3 ?_
          refine zW_icmp_ge (tgt := 96) dX10_readsItem_67 (by decide) (by first | assumption | omega | (unfold InR; omega) | (unfold InL; omega) | (simp only [InR] at *; omega)) (by first | assumption | omega | (unfold InR; omega) | (unfold InL; omega) | (simp only [InR] at *; omega)) (fun b => ?_) (fun b => ?_)
          · refine zW_aload_n dX10_readsItem_96 rfl ?_
            refine zgI dX10_readsItem_97 fX10_218 h.1.1 rfl a2 ?_
            refine zW_istore_n dX10_readsItem_100 (by decide) rfl rfl ?_
            exact loop2 (fun j j1 j2 => hall j j1 (by omega)) (t.2.2 - t.2.1) 0 w σ (by omega) rfl hw Mr.rf
          · exact absurd b (by omega)
        | succ m ih =>
          intro i hi hi2 hall
          obtain ⟨c1, c2⟩ := cin i (by omega)
          refine zW_iload_n dX10_readsItem_62 rfl ?_
          refine zW_aload_n dX10_readsItem_63 rfl ?_
          refine zgI dX10_readsItem_64 fX10_215 h.1.1 rfl a3 ?_
          refine zW_icmp_ge (tgt := 96) dX10_readsItem_67 (by decide) (by first | assumption | omega | (unfold InR; omega) | (unfold InL; omega) | (simp only [InR] at *; omega)) (by first | assumption | omega | (unfold InR; omega) | (unfold InL; omega) | (simp only [InR] at *; omega)) (fun b => ?_) (fun b => ?_)
          · exact absurd b (by omega)
          · refine zW_aload_n dX10_readsItem_70 rfl ?_
            refine zW_aload_n dX10_readsItem_71 rfl ?_
            refine zgP dX10_readsItem_72 fX10_13 h.1.1 rfl h.1.p_buffer ?_
            refine zW_iload_n dX10_readsItem_75 rfl ?_
            refine zrB dX10_readsItem_76 h.1.k_buffer (by first | assumption | omega | (unfold InR; omega) | (unfold InL; omega) | (simp only [InR] at *; omega)) (by first | assumption | omega | (unfold InR; omega) | (unfold InL; omega) | (simp only [InR] at *; omega)) (by first | assumption | omega | (unfold InR; omega) | (unfold InL; omega) | (simp only [InR] at *; omega)) c2 ?_
            refine zcV1 dX10_readsItem_77 rfl eX10_codeOf b1439 ⟨by decide, by decide, by decide, by decide⟩ rfl h.1.1 rfl (by decide) (Nat.le_of_ble_eq_true rfl) (r_codeOf h hk hk4 c1 ?_)
            have hcl := @cob_lt (tl l i) k
            refine zW_iconst dX10_readsItem_80 ?_
            refine zW_icmp_ne (tgt := 90) dX10_readsItem_81 (by decide) (by first | assumption | omega | (unfold InR; omega) | (unfold InL; omega) | (simp only [InR] at *; omega)) (by first | assumption | omega | (unfold InR; omega) | (unfold InL; omega) | (simp only [InR] at *; omega)) (fun b2 => ?_) (fun b2 => ?_)
            · refine zW_iinc dX10_readsItem_90 rfl (by decide) rfl rfl ?_
              refine zW_goto (tgt := 62) dX10_readsItem_93 (by decide) ?_
              refine ih (i + 1) (by omega) (by omega) (fun j j1 j2 => ?_)
              by_cases e : j = i
              · rw [e]; exact b2
              · exact hall j j1 (by omega)
            · have et : tokl (tl l) k t = false := by
                unfold tokl
                rw [List.all_eq_false]
                refine ⟨i - t.2.1, List.mem_range.mpr (by omega), ?_⟩
                rw [show t.2.1 + (i - t.2.1) = i by omega]
                intro z
                exact (of_decide_eq_true z) (by omega)
              rw [et, if_pos rfl] at h0
              refine zW_aload_n dX10_readsItem_84 rfl ?_
              refine zW_iconst dX10_readsItem_85 ?_
              refine zcV1 dX10_readsItem_86 rfl eX10_faults b1403 ⟨by decide, by decide, by decide, by decide⟩ rfl h.1.1 rfl (by decide) (Nat.le_of_ble_eq_true rfl) (r_faults h.1 ?_)
              refine zW_ireturn dX10_readsItem_89 rfl rfl (by first | decide | (show _ ≤ (0 : Nat); omega)) (by first | decide | (show _ ≤ (0 : Nat); omega)) ?_
              exact h0 _ _ rfl ⟨zO_sOs _ _ _ _, hP.f⟩ (Mr.O (by decide))
      refine zW_aload_n dX10_readsItem_57 rfl ?_
      refine zgI dX10_readsItem_58 fX10_218 h.1.1 rfl a2 ?_
      refine zW_istore_n dX10_readsItem_61 (by decide) rfl rfl ?_
      exact loop1 (t.2.2 - t.2.1) t.2.1 (by omega) (Nat.le_refl _) (fun j j1 j2 => absurd j1 (by omega))
    · have n1 : t.1 ≠ 1 := by omega
      rw [if_pos n1] at h0
      refine zW_aload_n dX10_readsItem_51 rfl ?_
      refine zW_iconst dX10_readsItem_52 ?_
      refine zcV1 dX10_readsItem_53 rfl eX10_faults b1403 ⟨by decide, by decide, by decide, by decide⟩ rfl h.1.1 rfl (by decide) (Nat.le_of_ble_eq_true rfl) (r_faults h.1 ?_)
      refine zW_ireturn dX10_readsItem_56 rfl rfl (by first | decide | (show _ ≤ (0 : Nat); omega)) (by first | decide | (show _ ≤ (0 : Nat); omega)) ?_
      exact h0 _ _ rfl ⟨zO_sOs _ _ _ _, hP.f⟩ (Mr.O (by decide))
  · have y2 : t.1 = 2 := by omega
    have hn := a4 y2
    have h99 := ht2 y2
    rw [if_pos y2] at h0 h1
    have bd : ¬ (t.2.2 - t.2.1 = 1 ∧ tl l t.2.1 = 49) → zW Γ mX10_readsItem 29 [some (vR (some y)), none] [] σ 0 0 Q := fun z => by
      rw [if_neg z] at h0
      refine zW_aload_n dX10_readsItem_29 rfl ?_
      refine zW_iconst dX10_readsItem_30 ?_
      refine zcV1 dX10_readsItem_31 rfl eX10_faults b1403 ⟨by decide, by decide, by decide, by decide⟩ rfl h.1.1 rfl (by decide) (Nat.le_of_ble_eq_true rfl) (r_faults h.1 ?_)
      refine zW_if_eq (tgt := 41) dX10_readsItem_34 (by decide) (by first | assumption | omega | (unfold InR; omega) | (unfold InL; omega) | (simp only [InR] at *; omega)) (fun b3 => ?_) (fun b3 => ?_)
      · refine zW_iconst dX10_readsItem_41 ?_
        refine zW_ireturn dX10_readsItem_42 rfl rfl (by first | decide | (show _ ≤ (0 : Nat); omega)) (by first | decide | (show _ ≤ (0 : Nat); omega)) ?_
        exact h0 _ _ rfl ⟨zO_sOs _ _ _ _, hP.f⟩ (Mr.O (by decide))
      · exact absurd rfl b3
    have one : t.2.2 - t.2.1 = 1 → tnum (tl l) t = tl l t.2.1 - 48 := fun z => by
      unfold tnum
      rw [z]
      show 10 * 0 + (tl l (t.2.1 + 0) - 48) = _
      rw [Nat.add_zero]
      omega
    refine zW_aload_n dX10_readsItem_8 rfl ?_
    refine zgI dX10_readsItem_9 fX10_230 h.1.1 rfl hn ?_
    refine zW_iconst dX10_readsItem_12 ?_
    refine zW_icmp_ne (tgt := 29) dX10_readsItem_13 (by decide) (by first | assumption | omega | (unfold InR; omega) | (unfold InL; omega) | (simp only [InR] at *; omega)) (by first | assumption | omega | (unfold InR; omega) | (unfold InL; omega) | (simp only [InR] at *; omega)) (fun b => ?_) (fun b => ?_)
    · exact bd (fun z => by have := one z.1; omega)
    · refine zW_aload_n dX10_readsItem_16 rfl ?_
      refine zgI dX10_readsItem_17 fX10_215 h.1.1 rfl a3 ?_
      refine zW_aload_n dX10_readsItem_20 rfl ?_
      refine zgI dX10_readsItem_21 fX10_218 h.1.1 rfl a2 ?_
      refine zW_isub dX10_readsItem_24 ?_
      refine zW_iconst dX10_readsItem_25 ?_
      refine zW_icmp_eq (tgt := 37) dX10_readsItem_26 (by decide) (by first | assumption | omega | (unfold InR; omega) | (unfold InL; omega) | (simp only [InR] at *; omega)) (by first | assumption | omega | (unfold InR; omega) | (unfold InL; omega) | (simp only [InR] at *; omega)) (fun b2 => ?_) (fun b2 => ?_)
      · have hl1 : t.2.2 - t.2.1 = 1 := by omega
        have := one hl1
        rw [if_pos ⟨hl1, by omega⟩] at h1
        refine zW_iconst dX10_readsItem_37 ?_
        refine zW_goto (tgt := 42) dX10_readsItem_38 (by decide) ?_
        refine zW_ireturn dX10_readsItem_42 rfl rfl (by first | decide | (show _ ≤ (0 : Nat); omega)) (by first | decide | (show _ ≤ (0 : Nat); omega)) ?_
        exact h1 σ w rfl hw6 hw hP Mr.rf
      · exact bd (fun z => by omega)
set_option maxRecDepth 100000 in
theorem tok_99 (hp : p ≤ l.length) : (tok (tl l) l.length p).1 = 2 → tnum (tl l) (tok (tl l) l.length p) ≤ 99 := fun e => by
  have ht := tok_le (tx := tl l) hp
  obtain ⟨hd1, hd2⟩ := ht.2.2.2.2.2.2 e
  exact nmF_99 hd1 (fun i i1 i2 => hd2 i i1 (by omega))
/-- an item and what comes behind it, in a set statement -/
def setR (tx : Nat → Nat) (n : Nat) (x : ST) (N f : Nat) (t : Nat × Nat × Nat) (w : List Nat) : PEr ⊕ (ST × (Nat × Nat × Nat)) := match itm1 tx (sRk x) t w with
  | .inl e => .inl e
  | .inr w => match itm tx n (sRk x) f (tok tx n t.2.2) w with
    | .inl e => .inl e
    | .inr (w', t') => .inr (sReg x N w', tok tx n t'.2.2)
set_option maxRecDepth 100000 in
theorem setR_l {tx : Nat → Nat} {n N f : Nat} {e : PEr} (h : itm1 tx (sRk x) t w = .inl e) : setR tx n x N f t w = .inl e := by
  unfold setR
  rw [h]
set_option maxRecDepth 100000 in
theorem setR_r {tx : Nat → Nat} {n N f : Nat} {w' : List Nat} (h : itm1 tx (sRk x) t w = .inr w') : setR tx n x N (f + 1) t w = if (tok tx n t.2.2).1 = 3 then .inr (sReg x N w', tok tx n (tok tx n t.2.2).2.2) else setR tx n x N f (tok tx n t.2.2) w' := by
  unfold setR
  rw [h]
  generalize tok tx n t.2.2 = t'
  show (match (if t'.1 = 3 then .inr (w', t') else match itm1 tx (sRk x) t' w' with
    | .inl e => .inl e
    | .inr w' => itm tx n (sRk x) f (tok tx n t'.2.2) w' : PEr ⊕ (List Nat × (Nat × Nat × Nat))) with
    | .inl e => .inl e
    | .inr (w', t') => .inr (sReg x N w', tok tx n t'.2.2) : PEr ⊕ (ST × (Nat × Nat × Nat))) = _
  by_cases e : t'.1 = 3
  · rw [if_pos e, if_pos e]
  · rw [if_neg e, if_neg e]
    cases itm1 tx (sRk x) t' w' with
    | inl e => rfl
    | inr w2 => rfl
set_option maxRecDepth 100000 in
theorem r_readsSet (h : RA σ y 12230) (hI : rIn σ y l) (hx : SR σ y 12230 x) (hr4 : sRk x ≤ 4) (hp : zO σ y 32 = (p : Int)) (hp9 : p ≤ l.length)
    (h0 : ∀ σ' e, stmS (tl l) l.length x (tok (tl l) l.length p) = .inl e → PF σ' y e → Mr σ σ' y KU [1, 4] → OutS σ σ' y 12230 → Q (.inl (some (vI 0))) σ')
    (h1 : ∀ σ' x' q, stmS (tl l) l.length x (tok (tl l) l.length p) = .inr (x', tok (tl l) l.length q) → sRk x' = sRk x → p < q → q ≤ l.length → zO σ' y 32 = (q : Int) → SR σ' y 12230 x' → Mr σ σ' y KU [1, 4] → OutS σ σ' y 12230 → Q (.inl (some (vI 1))) σ') : zM Γ mX10_readsSet [vR (some y)] σ Q := by
  have ht := tok_le (tx := tl l) hp9
  have hl6 := hI.2.1
  unfold stmS at h0 h1
  generalize hT : tok (tl l) l.length p = t1 at h0 h1 ht
  refine zM_of (n := 1) (by decide +kernel) rfl rfl rfl ?_
  have OK : ∀ {σ1}, Mr σ σ1 y KU [4] → OutS σ σ1 y 12230 := fun m k _ => by rw [m.i (i := 1) (by decide)]
  refine zW_aload_n dX10_readsSet_0 rfl ?_
  refine zW_iconst dX10_readsSet_1 ?_
  refine zW_bipush dX10_readsSet_2 (by decide) ?_
  refine zcV2 dX10_readsSet_4 rfl eX10_isNumber b1415 ⟨by decide, by decide, by decide, by decide⟩ rfl h.1.1 rfl (by decide) (Nat.le_of_ble_eq_true rfl) (r_isNumber (lo := 0) (hi := 7) h.1 hI hp hp9 (by decide) (by decide) (fun σ1 e1 f1 m1 => ?_) (fun σ1 e1 e2 f1 m1 => ?_) (fun σ1 e1 e2 e3 f1 n1 m1 => ?_))
  · rw [hT] at e1 f1
    rw [if_pos e1] at h0
    refine zW_if_ne (tgt := 12) dX10_readsSet_7 (by decide) (by first | assumption | omega | (unfold InR; omega) | (unfold InL; omega) | (simp only [InR] at *; omega)) (fun b => ?_) (fun b => ?_)
    · exact absurd rfl b
    · refine zW_iconst dX10_readsSet_10 ?_
      refine zW_ireturn dX10_readsSet_11 rfl rfl (by first | decide | (show _ ≤ (0 : Nat); omega)) (by first | decide | (show _ ≤ (0 : Nat); omega)) ?_
      exact h0 σ1 _ rfl f1 (m1.wk (by decide) (by decide)) (OK (m1.wk (by decide) (by decide)))
  · rw [hT] at e1 e2 f1
    rw [if_neg (by omega), if_pos (by omega)] at h0
    refine zW_if_ne (tgt := 12) dX10_readsSet_7 (by decide) (by first | assumption | omega | (unfold InR; omega) | (unfold InL; omega) | (simp only [InR] at *; omega)) (fun b => ?_) (fun b => ?_)
    · exact absurd rfl b
    · refine zW_iconst dX10_readsSet_10 ?_
      refine zW_ireturn dX10_readsSet_11 rfl rfl (by first | decide | (show _ ≤ (0 : Nat); omega)) (by first | decide | (show _ ≤ (0 : Nat); omega)) ?_
      exact h0 σ1 _ rfl f1 (m1.wk (by decide) (by decide)) (OK (m1.wk (by decide) (by decide)))
  · rw [hT] at e1 e2 e3 f1 n1
    generalize hN : tnum (tl l) t1 = N at e2 e3 n1 h0 h1
    have fr : inR8 (N : Int) := by unfold inR8; omega
    have e0 : t1.1 ≠ 0 := by omega
    rw [if_neg (by omega), if_neg (by omega)] at h0 h1
    have k1 := h.1.mr m1
    refine zW_if_ne (tgt := 12) dX10_readsSet_7 (by decide) (by first | assumption | omega | (unfold InR; omega) | (unfold InL; omega) | (simp only [InR] at *; omega)) (fun b => ?_) (fun b => ?_)
    · refine zW_aload_n dX10_readsSet_12 rfl ?_
      refine zgI dX10_readsSet_13 fX10_230 k1.1 rfl n1 ?_
      refine zW_istore_n dX10_readsSet_16 (by decide) rfl rfl ?_
      refine zW_aload_n dX10_readsSet_17 rfl ?_
      refine zcV0 dX10_readsSet_18 rfl eX10_begins b1431 ⟨by decide, by decide, by decide, by decide⟩ rfl k1.1 rfl (by decide) (Nat.le_of_ble_eq_true rfl) (r_begins k1 (fun σ2 p2 m2 => ?_))
      have m12 : Mr σ σ2 y KU [4] := (m1.wk (Ks' := KU) (Rs' := [4]) (by decide) (by decide)).th m2 (by decide) (by decide)
      have k2 := h.1.mr m12
      have hI2 := hI.mr m12
      have f2 : PR σ2 y l t1 := f1.mr m2
      have ib : ∀ σ3 σ4 t w f e, itm1 (tl l) (sRk x) t w = .inl e → PF σ4 y e → Mr σ σ3 y KU [4] → Mr σ3 σ4 y KU [4] → (∀ σ' e, setR (tl l) l.length x N f t w = .inl e → PF σ' y e → Mr σ σ' y KU [1, 4] → OutS σ σ' y 12230 → Q (.inl (some (vI 0))) σ') → Q (.inl (some (vI 0))) σ4 := fun σ3 σ4 t w f e he hf m3 m4 hh => hh σ4 e (setR_l he) hf ((m3.tr m4).wk (by decide) (by decide)) (OK (m3.tr m4))
      have loop : ∀ f t w σ3, (t.1 ≠ 0 → l.length + 1 ≤ f + t.2.2) → p < t.2.2 → (∃ q, q ≤ l.length ∧ t = tok (tl l) l.length q) → PR σ3 y l t → RP σ3 y w → w.length ≤ 60 → Mr σ σ3 y KU [4] →
          (∀ σ' e, setR (tl l) l.length x N f t w = .inl e → PF σ' y e → Mr σ σ' y KU [1, 4] → OutS σ σ' y 12230 → Q (.inl (some (vI 0))) σ') →
          (∀ σ' x' q, setR (tl l) l.length x N f t w = .inr (x', tok (tl l) l.length q) → sRk x' = sRk x → p < q → q ≤ l.length → zO σ' y 32 = (q : Int) → SR σ' y 12230 x' → Mr σ σ' y KU [1, 4] → OutS σ σ' y 12230 → Q (.inl (some (vI 1))) σ') →
          zW Γ mX10_readsSet 30 [some (vR (some y)), some (vI N)] [] σ3 0 0 Q := by
        intro f
        induction f with
        | zero =>
          intro t w σ3 hf hpt ⟨q, hq, et⟩ hP hw hw6 m3 g0 g1
          have a3 := h.mr m3
          have tl9 := tok_le (tx := tl l) hq
          rw [← et] at tl9
          have t99 := tok_99 (l := l) hq
          rw [← et] at t99
          have hk3 : zI σ3 (y + 1) (12230 + 0) = (sRk x : Int) := by rw [m3.i (i := 1) (by decide)]; exact hx.1
          refine zW_aload_n dX10_readsSet_30 rfl ?_
          refine zcV0 dX10_readsSet_31 rfl eX10_readsItem b1435 ⟨by decide, by decide, by decide, by decide⟩ rfl a3.1.1 rfl (by decide) (Nat.le_of_ble_eq_true rfl) (r_readsItem (k := sRk x) a3 (hI.mr m3) hk3 hr4 hP ⟨tl9.2.1, tl9.2.2.1⟩ tl9.2.2.2.1 tl9.2.2.2.2.2.1 t99 hw hw6 (fun σ4 e he hf4 m4 => ?_) (fun σ4 w4 hw4 hl4 hp4 hP4 m4 => ?_))
          · refine zW_if_eq (tgt := 44) dX10_readsSet_34 (by decide) (by first | assumption | omega | (unfold InR; omega) | (unfold InL; omega) | (simp only [InR] at *; omega)) (fun b2 => ?_) (fun b2 => ?_)
            · refine zW_iconst dX10_readsSet_44 ?_
              refine zW_ireturn dX10_readsSet_45 rfl rfl (by first | decide | (show _ ≤ (0 : Nat); omega)) (by first | decide | (show _ ≤ (0 : Nat); omega)) ?_
              exact ib σ3 σ4 t w 0 e he hf4 m3 m4 g0
            · exact absurd rfl b2
          · have := hf (by have := itm1_in hw4; omega)
            exact absurd this (by omega)
        | succ f ih =>
          intro t w σ3 hf hpt ⟨q, hq, et⟩ hP hw hw6 m3 g0 g1
          have a3 := h.mr m3
          have tl9 := tok_le (tx := tl l) hq
          rw [← et] at tl9
          have t99 := tok_99 (l := l) hq
          rw [← et] at t99
          have hk3 : zI σ3 (y + 1) (12230 + 0) = (sRk x : Int) := by rw [m3.i (i := 1) (by decide)]; exact hx.1
          refine zW_aload_n dX10_readsSet_30 rfl ?_
          refine zcV0 dX10_readsSet_31 rfl eX10_readsItem b1435 ⟨by decide, by decide, by decide, by decide⟩ rfl a3.1.1 rfl (by decide) (Nat.le_of_ble_eq_true rfl) (r_readsItem (k := sRk x) a3 (hI.mr m3) hk3 hr4 hP ⟨tl9.2.1, tl9.2.2.1⟩ tl9.2.2.2.1 tl9.2.2.2.2.2.1 t99 hw hw6 (fun σ4 e he hf4 m4 => ?_) (fun σ4 w4 hw4 hl4 hp4 hP4 m4 => ?_))
          · refine zW_if_eq (tgt := 44) dX10_readsSet_34 (by decide) (by first | assumption | omega | (unfold InR; omega) | (unfold InL; omega) | (simp only [InR] at *; omega)) (fun b2 => ?_) (fun b2 => ?_)
            · refine zW_iconst dX10_readsSet_44 ?_
              refine zW_ireturn dX10_readsSet_45 rfl rfl (by first | decide | (show _ ≤ (0 : Nat); omega)) (by first | decide | (show _ ≤ (0 : Nat); omega)) ?_
              exact ib σ3 σ4 t w (f + 1) e he hf4 m3 m4 g0
            · exact absurd rfl b2
          · have hf9 := hf (by have := itm1_in hw4; omega)
            have m34 := m3.tr m4
            have a4 := h.mr m34
            have n9 := tok_le (tx := tl l) tl9.2.2.1
            rw [setR_r hw4] at g0 g1
            refine zW_if_eq (tgt := 44) dX10_readsSet_34 (by decide) (by first | assumption | omega | (unfold InR; omega) | (unfold InL; omega) | (simp only [InR] at *; omega)) (fun b2 => ?_) (fun b2 => ?_)
            · exact absurd b2 (by decide)
            · refine zW_aload_n dX10_readsSet_37 rfl ?_
              refine zcV0 dX10_readsSet_38 rfl eX10_token b1391 ⟨by decide, by decide, by decide, by decide⟩ rfl a4.1.1 rfl (by decide) (Nat.le_of_ble_eq_true rfl) (r_token a4.1 (hI.mr m34) hP4.2.2.1 tl9.2.2.1 (fun σ5 e5 f5 m5 => ?_) (fun σ5 e5 f5 m5 => ?_))
              · have m6 : Mr σ σ5 y KU [4] := m34.th m5 (by decide) (by decide)
                rw [if_neg (by omega)] at g0
                refine zW_if_ne (tgt := 46) dX10_readsSet_41 (by decide) (by first | assumption | omega | (unfold InR; omega) | (unfold InL; omega) | (simp only [InR] at *; omega)) (fun b3 => ?_) (fun b3 => ?_)
                · exact absurd rfl b3
                · refine zW_iconst dX10_readsSet_44 ?_
                  refine zW_ireturn dX10_readsSet_45 rfl rfl (by first | decide | (show _ ≤ (0 : Nat); omega)) (by first | decide | (show _ ≤ (0 : Nat); omega)) ?_
                  exact g0 σ5 _ (setR_l (itm1_no (by omega) (by omega))) f5 (m6.wk (by decide) (by decide)) (OK m6)
              · have m6 : Mr σ σ5 y KU [4] := m34.th m5 (by decide) (by decide)
                have a5 := h.mr m6
                have hp5 := hp4.mr m5
                generalize hT2 : tok (tl l) l.length t.2.2 = t2 at e5 f5 n9 g0 g1
                refine zW_if_ne (tgt := 46) dX10_readsSet_41 (by decide) (by first | assumption | omega | (unfold InR; omega) | (unfold InL; omega) | (simp only [InR] at *; omega)) (fun b3 => ?_) (fun b3 => ?_)
                · refine zW_aload_n dX10_readsSet_46 rfl ?_
                  refine zgI dX10_readsSet_47 fX10_221 a5.1.1 rfl f5.1 ?_
                  refine zW_iconst dX10_readsSet_50 ?_
                  refine zW_icmp_ne (tgt := 30) dX10_readsSet_51 (by decide) (by first | assumption | omega | (unfold InR; omega) | (unfold InL; omega) | (simp only [InR] at *; omega)) (by first | assumption | omega | (unfold InR; omega) | (unfold InL; omega) | (simp only [InR] at *; omega)) (fun b4 => ?_) (fun b4 => ?_)
                  · rw [if_neg (by omega)] at g0 g1
                    refine ih t2 w4 σ5 (fun z => ?_) (by omega) ⟨t.2.2, tl9.2.2.1, hT2.symm⟩ f5 hp5 hl4 m6 g0 g1
                    have := n9.2.2.2.2.1 z
                    omega
                  · rw [if_pos (by omega)] at g1
                    have := n9.2.2.2.2.1 (by omega)
                    refine zW_aload_n dX10_readsSet_54 rfl ?_
                    refine zW_iload_n dX10_readsSet_55 rfl ?_
                    refine zcS1 dX10_readsSet_56 rfl eX10_register b1455 ⟨by decide, by decide, by decide, by decide⟩ rfl (Nat.le_of_ble_eq_true rfl) (r_register fr ?_)
                    refine zcV1 dX10_readsSet_59 rfl eX10_lays b1458 ⟨by decide, by decide, by decide, by decide⟩ rfl a5.1.1 rfl (by decide) (Nat.le_of_ble_eq_true rfl) (r_lays a5 hp5 hl4 (by omega) (fun σ7 w7 m7 o7 => ?_))
                    refine zW_pop dX10_readsSet_62 rfl ?_
                    refine zW_iconst dX10_readsSet_63 ?_
                    refine zW_ireturn dX10_readsSet_64 rfl rfl (by first | decide | (show _ ≤ (0 : Nat); omega)) (by first | decide | (show _ ≤ (0 : Nat); omega)) ?_
                    have hx5 : SR σ5 y 12230 x := hx.same (fun k _ _ => by rw [m6.i (i := 1) (by decide)])
                    refine g1 σ7 _ t2.2.2 rfl rfl (by omega) (by omega) (by rw [m7.o (by decide)]; exact f5.2.2.1) (hx5.set (r := N) (by omega) (by rw [show 12230 + 1 + 61 * N = 12230 + (1 + 61 * ((N : Int)).toNat) by omega]; exact w7) (fun k k1 => o7 k (by omega))) ((m6.wk (Ks' := KU) (Rs' := [1, 4]) (by decide) (by decide)).th m7 (by decide) (by decide)) (fun k k1 => ?_)
                    rw [o7 k (by omega), m6.i (i := 1) (by decide)]
                · exact absurd b3 (by decide)
      refine zW_aload_n dX10_readsSet_21 rfl ?_
      refine zcV0 dX10_readsSet_22 rfl eX10_token b1391 ⟨by decide, by decide, by decide, by decide⟩ rfl k2.1 rfl (by decide) (Nat.le_of_ble_eq_true rfl) (r_token k2 hI2 f2.2.2.1 ht.2.2.1 (fun σ3 e3 f3 m3 => ?_) (fun σ3 e3 f3 m3 => ?_))
      · have m13 : Mr σ σ3 y KU [4] := m12.th m3 (by decide) (by decide)
        refine zW_if_ne (tgt := 30) dX10_readsSet_25 (by decide) (by first | assumption | omega | (unfold InR; omega) | (unfold InL; omega) | (simp only [InR] at *; omega)) (fun b3 => ?_) (fun b3 => ?_)
        · exact absurd rfl b3
        · refine zW_iconst dX10_readsSet_28 ?_
          refine zW_ireturn dX10_readsSet_29 rfl rfl (by first | decide | (show _ ≤ (0 : Nat); omega)) (by first | decide | (show _ ≤ (0 : Nat); omega)) ?_
          exact h0 σ3 _ (setR_l (x := x) (f := 700) (n := l.length) (N := N) (itm1_no (by omega) (by omega))) f3 (m13.wk (by decide) (by decide)) (OK m13)
      · have m13 : Mr σ σ3 y KU [4] := m12.th m3 (by decide) (by decide)
        have n9 := tok_le (tx := tl l) ht.2.2.1
        have := ht.2.2.2.2.1 e0
        refine zW_if_ne (tgt := 30) dX10_readsSet_25 (by decide) (by first | assumption | omega | (unfold InR; omega) | (unfold InL; omega) | (simp only [InR] at *; omega)) (fun b3 => ?_) (fun b3 => ?_)
        · exact loop 700 _ [] σ3 (fun _ => by omega) (by omega) ⟨t1.2.2, ht.2.2.1, rfl⟩ f3 (p2.mr m3) (Nat.zero_le _) m13 h0 h1
        · exact absurd b3 (by decide)
    · exact absurd b (by decide)
end RSETS
