/-! Graph -/
def bp (b : Nat) : Nat → Prop := fun a => b ≤ a ∧ a < b + 5
def GK (σ : HS) (b : Nat) : Prop := zK σ b = (2, 0) ∧ zP σ b 0 = some (b + 1) ∧ zP σ b 1 = some (b + 2) ∧ zP σ b 2 = some (b + 3) ∧ zP σ b 3 = some (b + 4) ∧ zK σ (b + 1) = (13, 2840) ∧ zK σ (b + 2) = (13, 355) ∧ zK σ (b + 3) = (13, 355) ∧ zK σ (b + 4) = (13, 355)
def GD (σ : HS) (b : Nat) (G : GT) : Prop := GK σ b ∧ GOK G ∧ zO σ b 4 = (gV G : Int) ∧ zO σ b 5 = (gE G : Int) ∧ (∀ v c, v < gV G → c < 8 → zI σ (b + 1) (8 * v + c) = gt G v c) ∧ (∀ v, 1 ≤ v → v < gV G → zI σ (b + 2) v = (gpa G v : Int) ∧ zI σ (b + 3) v = (gpc G v : Int)) ∧ ∀ v, v < gV G → zI σ (b + 4) v = (gde G v : Int)
set_option maxRecDepth 100000 in
theorem GK.md {σ σ' : HS} {b : Nat} {P : Nat → Prop} (m : Md σ σ' P) (h : GK σ b) : GK σ' b := by
  unfold GK at *
  rw [m.K, m.P]
  exact h
set_option maxRecDepth 100000 in
theorem GD.md {σ σ' : HS} {b : Nat} {G : GT} {P : Nat → Prop} (m : Md σ σ' P) (h : GD σ b G) (hp : ∀ a, bp b a → ¬ P a) : GD σ' b G := by
  have hs : ∀ k, k < 5 → ¬ P (b + k) := fun k hk => hp _ (by unfold bp; omega)
  refine ⟨h.1.md m, h.2.1, ?_, ?_, ?_, ?_, ?_⟩
  · rw [m.o (hp b (by unfold bp; omega))]; exact h.2.2.1
  · rw [m.o (hp b (by unfold bp; omega))]; exact h.2.2.2.1
  · rw [m.i (hs 1 (by omega))]; exact h.2.2.2.2.1
  · rw [m.i (hs 2 (by omega)), m.i (hs 3 (by omega))]; exact h.2.2.2.2.2.1
  · rw [m.i (hs 4 (by omega))]; exact h.2.2.2.2.2.2
section GRAPH
variable {Γ : GG} {σ : HS} {Q : Res → HS → Prop} {b : Nat} {G : GT}
set_option maxRecDepth 100000 in
theorem g_follow {v c : Nat} (h : GD σ b G) (hv : v < gV G) (hc : c < 8) (hQ : Q (.inl (some (vI (gt G v c)))) σ) : zM Γ mX2_follow [vR (some b), vI v, vI c] σ Q := by
  obtain ⟨⟨h0, h1, h2, h3, h4, h5, h6, h7, h8⟩, hG, hV, hE, ht, hpc, hde⟩ := id h
  have hV9 := hG.2.1
  refine zM_of (n := 0) (by decide +kernel) rfl rfl rfl ?_
  refine zW_aload_n dX2_follow_0 rfl ?_
  refine zgP dX2_follow_1 fX2_9 (by assumption) rfl (by assumption) ?_
  refine zW_iload_n dX2_follow_4 rfl ?_
  refine zW_bipush dX2_follow_5 (by decide) ?_
  refine zW_imul dX2_follow_7 ?_
  refine zW_iload_n dX2_follow_8 rfl ?_
  refine zW_iadd dX2_follow_9 ?_
  refine zrI dX2_follow_10 (by assumption) (by first | assumption | omega | (unfold InR; omega) | (unfold InL; omega) | (simp only [InR] at *; omega)) (by first | assumption | omega | (unfold InR; omega) | (unfold InL; omega) | (simp only [InR] at *; omega)) (by first | assumption | omega | (unfold InR; omega) | (unfold InL; omega) | (simp only [InR] at *; omega)) (zix (f := zI σ (b + 1)) (j := 8 * v + c) (by omega) (ht v c hv hc)) ?_
  refine zW_ireturn dX2_follow_11 rfl rfl (by first | decide | (show _ ≤ (0 : Nat); omega)) (by first | decide | (show _ ≤ (0 : Nat); omega)) ?_
  exact hQ
set_option maxRecDepth 100000 in
theorem g_followI {a : Int} {c : Nat} (h : GD σ b G) (ha : gin G a) (ha2 : a ≠ -1) (hc : c < 8) (hQ : Q (.inl (some (vI (gst G a c)))) σ) : zM Γ mX2_follow [vR (some b), vI a, vI c] σ Q := by
  unfold gin at ha
  have e : a = ((a.toNat : Nat) : Int) := by omega
  have h2 : gst G a c = gt G a.toNat c := by unfold gst; rw [if_neg ha2]
  rw [h2] at hQ
  have := g_follow (Γ := Γ) (v := a.toNat) h (by omega) hc hQ
  rw [← e] at this
  exact this
set_option maxRecDepth 100000 in
theorem g_cycleRank (h : GD σ b G) (hQ : Q (.inl (some (vI ((gE G : Int) - gV G + 1)))) σ) : zM Γ mX2_cycleRank [vR (some b)] σ Q := by
  obtain ⟨⟨h0, h1, h2, h3, h4, h5, h6, h7, h8⟩, hG, hV, hE, ht, hpc, hde⟩ := id h
  refine zM_of (n := 0) (by decide +kernel) rfl rfl rfl ?_
  refine zW_aload_n dX2_cycleRank_0 rfl ?_
  refine zgI dX2_cycleRank_1 fX2_32 (by assumption) rfl (by assumption) ?_
  refine zW_aload_n dX2_cycleRank_4 rfl ?_
  refine zgI dX2_cycleRank_5 fX2_24 (by assumption) rfl (by assumption) ?_
  refine zW_isub dX2_cycleRank_8 ?_
  refine zW_iconst dX2_cycleRank_9 ?_
  refine zW_iadd dX2_cycleRank_10 ?_
  refine zW_ireturn dX2_cycleRank_11 rfl rfl (by first | decide | (show _ ≤ (0 : Nat); omega)) (by first | decide | (show _ ≤ (0 : Nat); omega)) ?_
  exact hQ
set_option maxRecDepth 100000 in
theorem g_isComplete {r : Nat} (h : GD σ b G) (hr : r ≤ 4) (h1' : gcomp G r → Q (.inl (some (vI 1))) σ) (h0' : ¬ gcomp G r → Q (.inl (some (vI 0))) σ) : zM Γ mX2_isComplete [vR (some b), vI r] σ Q := by
  obtain ⟨⟨h0, h1, h2, h3, h4, h5, h6, h7, h8⟩, hG, hV, hE, ht, hpc, hde⟩ := id h
  have hV9 := hG.2.1
  refine zM_of (n := 2) (by decide +kernel) rfl rfl rfl ?_
  have loop : ∀ n v, v + n = gV G → (∀ u c, u < v → c < 2 * r → gt G u c ≠ -1) → ∀ z, zW Γ mX2_isComplete 2 [some (vR (some b)), some (vI r), some (vI v), z] [] σ 0 0 Q := by
    intro n
    induction n with
    | zero =>
      intro v hv hall z
      refine zW_iload_n dX2_isComplete_2 rfl ?_
      refine zW_aload_n dX2_isComplete_3 rfl ?_
      refine zgI dX2_isComplete_4 fX2_24 (by assumption) rfl (by assumption) ?_
      refine zW_icmp_ge (tgt := 43) dX2_isComplete_7 (by decide) (by first | assumption | omega | (unfold InR; omega) | (unfold InL; omega) | (simp only [InR] at *; omega)) (by first | assumption | omega | (unfold InR; omega) | (unfold InL; omega) | (simp only [InR] at *; omega)) (fun q => ?_) (fun q => ?_)
      · refine zW_iconst dX2_isComplete_43 ?_
        refine zW_ireturn dX2_isComplete_44 rfl rfl (by first | decide | (show _ ≤ (0 : Nat); omega)) (by first | decide | (show _ ≤ (0 : Nat); omega)) ?_
        exact h1' (fun u c hu hc => hall u c (by omega) hc)
      · exact absurd q (by omega)
    | succ n ih =>
      intro v hv hall z
      refine zW_iload_n dX2_isComplete_2 rfl ?_
      refine zW_aload_n dX2_isComplete_3 rfl ?_
      refine zgI dX2_isComplete_4 fX2_24 (by assumption) rfl (by assumption) ?_
      refine zW_icmp_ge (tgt := 43) dX2_isComplete_7 (by decide) (by first | assumption | omega | (unfold InR; omega) | (unfold InL; omega) | (simp only [InR] at *; omega)) (by first | assumption | omega | (unfold InR; omega) | (unfold InL; omega) | (simp only [InR] at *; omega)) (fun q => ?_) (fun q => ?_)
      · exact absurd q (by omega)
      · refine zW_iconst dX2_isComplete_10 ?_
        refine zW_istore_n dX2_isComplete_11 (by decide) rfl rfl ?_
        have loop2 : ∀ n c, c + n = 2 * r → (∀ d, d < c → gt G v d ≠ -1) → zW Γ mX2_isComplete 12 [some (vR (some b)), some (vI r), some (vI v), some (vI c)] [] σ 0 0 Q := by
          intro n
          induction n with
          | zero =>
            intro c hc hall2
            refine zW_iload_n dX2_isComplete_12 rfl ?_
            refine zW_iconst dX2_isComplete_13 ?_
            refine zW_iload_n dX2_isComplete_14 rfl ?_
            refine zW_imul dX2_isComplete_15 ?_
            refine zW_icmp_ge (tgt := 37) dX2_isComplete_16 (by decide) (by first | assumption | omega | (unfold InR; omega) | (unfold InL; omega) | (simp only [InR] at *; omega)) (by first | assumption | omega | (unfold InR; omega) | (unfold InL; omega) | (simp only [InR] at *; omega)) (fun q2 => ?_) (fun q2 => ?_)
            · refine zW_iinc dX2_isComplete_37 rfl (by decide) rfl rfl ?_
              refine zW_goto (tgt := 2) dX2_isComplete_40 (by decide) ?_
              refine ih (v + 1) (by omega) (fun u d hu hd => ?_) _
              by_cases e : u = v
              · subst e; exact hall2 d (by omega)
              · exact hall u d (by omega) hd
            · exact absurd q2 (by omega)
          | succ n ih2 =>
            intro c hc hall2
            have hin := hG.2.2.1 v c (by omega) (by omega)
            refine zW_iload_n dX2_isComplete_12 rfl ?_
            refine zW_iconst dX2_isComplete_13 ?_
            refine zW_iload_n dX2_isComplete_14 rfl ?_
            refine zW_imul dX2_isComplete_15 ?_
            refine zW_icmp_ge (tgt := 37) dX2_isComplete_16 (by decide) (by first | assumption | omega | (unfold InR; omega) | (unfold InL; omega) | (simp only [InR] at *; omega)) (by first | assumption | omega | (unfold InR; omega) | (unfold InL; omega) | (simp only [InR] at *; omega)) (fun q2 => ?_) (fun q2 => ?_)
            · exact absurd q2 (by omega)
            · refine zW_aload_n dX2_isComplete_19 rfl ?_
              refine zW_iload_n dX2_isComplete_20 rfl ?_
              refine zW_iload_n dX2_isComplete_21 rfl ?_
              refine zcV2 dX2_isComplete_22 rfl eX2_follow b495 ⟨by decide, by decide, by decide, by decide⟩ rfl h0 rfl (by decide) (Nat.le_of_ble_eq_true rfl) (g_follow h (by omega) (by omega) ?_)
              refine zW_iconst dX2_isComplete_25 ?_
              refine zW_icmp_ne (tgt := 31) dX2_isComplete_26 (by decide) (by first | assumption | omega | (unfold InR; omega) | (unfold InL; omega) | (simp only [InR] at *; omega)) (by first | assumption | omega | (unfold InR; omega) | (unfold InL; omega) | (simp only [InR] at *; omega)) (fun q3 => ?_) (fun q3 => ?_)
              · refine zW_iinc dX2_isComplete_31 rfl (by decide) rfl rfl ?_
                refine zW_goto (tgt := 12) dX2_isComplete_34 (by decide) ?_
                refine ih2 (c + 1) (by omega) (fun d hd => ?_)
                by_cases e : d = c
                · subst e; exact q3
                · exact hall2 d (by omega)
              · refine zW_iconst dX2_isComplete_29 ?_
                refine zW_ireturn dX2_isComplete_30 rfl rfl (by first | decide | (show _ ≤ (0 : Nat); omega)) (by first | decide | (show _ ≤ (0 : Nat); omega)) ?_
                exact h0' (fun w => w v c (by omega) (by omega) q3)
        exact loop2 (2 * r) 0 (by omega) (fun d hd => absurd hd (by omega))
  refine zW_iconst dX2_isComplete_0 ?_
  refine zW_istore_n dX2_isComplete_1 (by decide) rfl rfl ?_
  exact loop (gV G) 0 (by omega) (fun u c hu _ => absurd hu (by omega)) _
set_option maxRecDepth 100000 in
theorem g_trace {w c cap from_ end_ : Nat} {l : List Nat} {a : Int} (h : GD σ b G) (hw : Wd σ w c cap l) (ha : gin G a) (he : end_ ≤ l.length) (hf : from_ ≤ 4000) (hQ : Q (.inl (some (vI (gtr G a ((l.take end_).drop from_))))) σ) : zM Γ mX2_trace [vR (some b), vI a, vR (some w), vI from_, vI end_] σ Q := by
  obtain ⟨⟨h0, h1, h2, h3, h4, h5, h6, h7, h8⟩, hG, hV, hE, ht, hpc, hde⟩ := id h
  have hV9 := hG.2.1
  have hc7 := hw.1.2.2.2
  have hc8 := hw.cap
  refine zM_of (n := 2) (by decide +kernel) rfl rfl rfl ?_
  have loop : ∀ n i (d : Int), i + n = max from_ end_ → from_ ≤ i → gin G d → gtr G d ((l.take end_).drop i) = gtr G a ((l.take end_).drop from_) → zW Γ mX2_trace 6 [some (vR (some b)), some (vI a), some (vR (some w)), some (vI from_), some (vI end_), some (vI d), some (vI i)] [] σ 0 0 Q := by
    intro n
    induction n with
    | zero =>
      intro i d hi hfi hd hg
      refine zW_iload dX2_trace_6 rfl ?_
      refine zW_iload dX2_trace_8 rfl ?_
      refine zW_icmp_ge (tgt := 40) dX2_trace_10 (by decide) (by first | assumption | omega | (unfold InR; omega) | (unfold InL; omega) | (simp only [InR] at *; omega)) (by first | assumption | omega | (unfold InR; omega) | (unfold InL; omega) | (simp only [InR] at *; omega)) (fun q => ?_) (fun q => ?_)
      · refine zW_iload dX2_trace_40 rfl ?_
        refine zW_ireturn dX2_trace_42 rfl rfl (by first | decide | (show _ ≤ (0 : Nat); omega)) (by first | decide | (show _ ≤ (0 : Nat); omega)) ?_
        have : (l.take end_).drop i = [] := by rw [List.drop_eq_nil_iff, List.length_take]; omega
        rw [this, gtr_nil] at hg
        rw [hg]
        exact hQ
      · exact absurd q (by omega)
    | succ n ih =>
      intro i d hi hfi hd hg
      have hd' := id hd
      unfold gin at hd'
      refine zW_iload dX2_trace_6 rfl ?_
      refine zW_iload dX2_trace_8 rfl ?_
      refine zW_icmp_ge (tgt := 40) dX2_trace_10 (by decide) (by first | assumption | omega | (unfold InR; omega) | (unfold InL; omega) | (simp only [InR] at *; omega)) (by first | assumption | omega | (unfold InR; omega) | (unfold InL; omega) | (simp only [InR] at *; omega)) (fun q => ?_) (fun q => ?_)
      · exact absurd q (by omega)
      · refine zW_iload dX2_trace_13 rfl ?_
        refine zW_iconst dX2_trace_15 ?_
        refine zW_icmp_eq (tgt := 40) dX2_trace_16 (by decide) (by first | assumption | omega | (unfold InR; omega) | (unfold InL; omega) | (simp only [InR] at *; omega)) (by first | assumption | omega | (unfold InR; omega) | (unfold InL; omega) | (simp only [InR] at *; omega)) (fun q2 => ?_) (fun q2 => ?_)
        · refine zW_iload dX2_trace_40 rfl ?_
          refine zW_ireturn dX2_trace_42 rfl rfl (by first | decide | (show _ ≤ (0 : Nat); omega)) (by first | decide | (show _ ≤ (0 : Nat); omega)) ?_
          rw [q2, gtr_none] at hg
          rw [q2, hg]
          exact hQ
        · have hx := getD_lt hw.lt (i := i) (by omega)
          refine zW_aload_n dX2_trace_19 rfl ?_
          refine zW_iload dX2_trace_20 rfl ?_
          refine zW_aload_n dX2_trace_22 rfl ?_
          refine zgP dX2_trace_23 fX2_39 hw.1.1 rfl hw.1.2.1 ?_
          refine zW_iload dX2_trace_26 rfl ?_
          refine zrI dX2_trace_28 hw.1.2.2.1 (by first | assumption | omega | (unfold InR; omega) | (unfold InL; omega) | (simp only [InR] at *; omega)) (by first | assumption | omega | (unfold InR; omega) | (unfold InL; omega) | (simp only [InR] at *; omega)) (by first | assumption | omega | (unfold InR; omega) | (unfold InL; omega) | (simp only [InR] at *; omega)) (hw.2.2.2.1 i (by omega)) ?_
          refine zcV2 dX2_trace_29 rfl eX2_follow b495 ⟨by decide, by decide, by decide, by decide⟩ rfl h0 rfl (by decide) (Nat.le_of_ble_eq_true rfl) (g_followI h hd q2 hx ?_)
          refine zW_istore dX2_trace_32 (by decide) rfl rfl ?_
          refine zW_iinc dX2_trace_34 rfl (by decide) rfl rfl ?_
          refine zW_goto (tgt := 6) dX2_trace_37 (by decide) ?_
          refine ih (i + 1) _ (by omega) (by omega) (gst_in hG hd hx) ?_
          rw [← hg, drop_cons (i := i) (by rw [List.length_take]; omega), gtr_cons, getD_take (by omega)]
  refine zW_iload_n dX2_trace_0 rfl ?_
  refine zW_istore dX2_trace_1 (by decide) rfl rfl ?_
  refine zW_iload_n dX2_trace_3 rfl ?_
  refine zW_istore dX2_trace_4 (by decide) rfl rfl ?_
  exact loop (max from_ end_ - from_) from_ a (by omega) (Nat.le_refl _) ha rfl
set_option maxRecDepth 100000 in
theorem g_isClosedPath {w c cap v : Nat} {l : List Nat} (h : GD σ b G) (hw : Wd σ w c cap l) (hv : v < gV G) (h1' : gtr G v l = v → Q (.inl (some (vI 1))) σ) (h0' : gtr G v l ≠ v → Q (.inl (some (vI 0))) σ) : zM Γ mX2_isClosedPath [vR (some b), vI v, vR (some w)] σ Q := by
  obtain ⟨⟨h0, h1, h2, h3, h4, h5, h6, h7, h8⟩, hG, hV, hE, ht, hpc, hde⟩ := id h
  have hV9 := hG.2.1
  have hin : gin G (gtr G v l) := gtr_in hG ⟨by omega, by omega⟩ hw.lt
  unfold gin at hin
  refine zM_of (n := 0) (by decide +kernel) rfl rfl rfl ?_
  refine zW_aload_n dX2_isClosedPath_0 rfl ?_
  refine zW_iload_n dX2_isClosedPath_1 rfl ?_
  refine zW_aload_n dX2_isClosedPath_2 rfl ?_
  refine zW_iconst dX2_isClosedPath_3 ?_
  refine zW_aload_n dX2_isClosedPath_4 rfl ?_
  refine zgI dX2_isClosedPath_5 fX2_44 hw.1.1 rfl hw.2.1 ?_
  refine zcV4 dX2_isClosedPath_8 rfl eX2_trace b1007 ⟨by decide, by decide, by decide, by decide⟩ rfl h0 rfl (by decide) (Nat.le_of_ble_eq_true rfl) (g_trace (from_ := 0) h hw (show gin G (v : Int) from ⟨by omega, by omega⟩) (Nat.le_refl _) (by omega) ?_)
  refine zW_iload_n dX2_isClosedPath_11 rfl ?_
  rw [List.take_length, List.drop_zero]
  refine zW_icmp_ne (tgt := 19) dX2_isClosedPath_12 (by decide) (by first | assumption | omega | (unfold InR; omega) | (unfold InL; omega) | (simp only [InR] at *; omega)) (by first | assumption | omega | (unfold InR; omega) | (unfold InL; omega) | (simp only [InR] at *; omega)) (fun q => ?_) (fun q => ?_)
  · refine zW_iconst dX2_isClosedPath_19 ?_
    refine zW_ireturn dX2_isClosedPath_20 rfl rfl (by first | decide | (show _ ≤ (0 : Nat); omega)) (by first | decide | (show _ ≤ (0 : Nat); omega)) ?_
    exact h0' q
  · refine zW_iconst dX2_isClosedPath_15 ?_
    refine zW_goto (tgt := 20) dX2_isClosedPath_16 (by decide) ?_
    refine zW_ireturn dX2_isClosedPath_20 rfl rfl (by first | decide | (show _ ≤ (0 : Nat); omega)) (by first | decide | (show _ ≤ (0 : Nat); omega)) ?_
    exact h1' q
set_option maxRecDepth 100000 in
theorem g_isClosedEverywhere {w c cap : Nat} {l : List Nat} (h : GD σ b G) (hw : Wd σ w c cap l) (h1' : (∀ v : Nat, v < gV G → gtr G v l = v) → Q (.inl (some (vI 1))) σ) (h0' : ¬ (∀ v : Nat, v < gV G → gtr G v l = v) → Q (.inl (some (vI 0))) σ) : zM Γ mX2_isClosedEverywhere [vR (some b), vR (some w)] σ Q := by
  obtain ⟨⟨h0, h1, h2, h3, h4, h5, h6, h7, h8⟩, hG, hV, hE, ht, hpc, hde⟩ := id h
  have hV9 := hG.2.1
  refine zM_of (n := 1) (by decide +kernel) rfl rfl rfl ?_
  have loop : ∀ n v, v + n = gV G → (∀ u : Nat, u < v → gtr G u l = u) → zW Γ mX2_isClosedEverywhere 2 [some (vR (some b)), some (vR (some w)), some (vI v)] [] σ 0 0 Q := by
    intro n
    induction n with
    | zero =>
      intro v hv hall
      refine zW_iload_n dX2_isClosedEverywhere_2 rfl ?_
      refine zW_aload_n dX2_isClosedEverywhere_3 rfl ?_
      refine zgI dX2_isClosedEverywhere_4 fX2_24 (by assumption) rfl (by assumption) ?_
      refine zW_icmp_ge (tgt := 27) dX2_isClosedEverywhere_7 (by decide) (by first | assumption | omega | (unfold InR; omega) | (unfold InL; omega) | (simp only [InR] at *; omega)) (by first | assumption | omega | (unfold InR; omega) | (unfold InL; omega) | (simp only [InR] at *; omega)) (fun q => ?_) (fun q => ?_)
      · refine zW_iconst dX2_isClosedEverywhere_27 ?_
        refine zW_ireturn dX2_isClosedEverywhere_28 rfl rfl (by first | decide | (show _ ≤ (0 : Nat); omega)) (by first | decide | (show _ ≤ (0 : Nat); omega)) ?_
        exact h1' (fun u hu => hall u (by omega))
      · exact absurd q (by omega)
    | succ n ih =>
      intro v hv hall
      refine zW_iload_n dX2_isClosedEverywhere_2 rfl ?_
      refine zW_aload_n dX2_isClosedEverywhere_3 rfl ?_
      refine zgI dX2_isClosedEverywhere_4 fX2_24 (by assumption) rfl (by assumption) ?_
      refine zW_icmp_ge (tgt := 27) dX2_isClosedEverywhere_7 (by decide) (by first | assumption | omega | (unfold InR; omega) | (unfold InL; omega) | (simp only [InR] at *; omega)) (by first | assumption | omega | (unfold InR; omega) | (unfold InL; omega) | (simp only [InR] at *; omega)) (fun q => ?_) (fun q => ?_)
      · exact absurd q (by omega)
      · refine zW_aload_n dX2_isClosedEverywhere_10 rfl ?_
        refine zW_iload_n dX2_isClosedEverywhere_11 rfl ?_
        refine zW_aload_n dX2_isClosedEverywhere_12 rfl ?_
        refine zcV2 dX2_isClosedEverywhere_13 rfl eX2_isClosedPath b1043 ⟨by decide, by decide, by decide, by decide⟩ rfl h0 rfl (by decide) (Nat.le_of_ble_eq_true rfl) (g_isClosedPath h hw (by omega) (fun k => ?_) (fun k => ?_))
        · refine zW_if_ne (tgt := 21) dX2_isClosedEverywhere_16 (by decide) (by first | assumption | omega | (unfold InR; omega) | (unfold InL; omega) | (simp only [InR] at *; omega)) (fun q2 => ?_) (fun q2 => ?_)
          · refine zW_iinc dX2_isClosedEverywhere_21 rfl (by decide) rfl rfl ?_
            refine zW_goto (tgt := 2) dX2_isClosedEverywhere_24 (by decide) ?_
            refine ih (v + 1) (by omega) (fun u hu => ?_)
            by_cases e : u = v
            · subst e; exact k
            · exact hall u (by omega)
          · exact absurd q2 (by omega)
        · refine zW_if_ne (tgt := 21) dX2_isClosedEverywhere_16 (by decide) (by first | assumption | omega | (unfold InR; omega) | (unfold InL; omega) | (simp only [InR] at *; omega)) (fun q2 => ?_) (fun q2 => ?_)
          · exact absurd rfl q2
          · refine zW_iconst dX2_isClosedEverywhere_19 ?_
            refine zW_ireturn dX2_isClosedEverywhere_20 rfl rfl (by first | decide | (show _ ≤ (0 : Nat); omega)) (by first | decide | (show _ ≤ (0 : Nat); omega)) ?_
            exact h0' (fun z => k (z v (by omega)))
  refine zW_iconst dX2_isClosedEverywhere_0 ?_
  refine zW_istore_n dX2_isClosedEverywhere_1 (by decide) rfl rfl ?_
  exact loop (gV G) 0 (by omega) (fun u hu => absurd hu (by omega))
set_option maxRecDepth 100000 in
theorem g_smallestClosedPower {w c cap : Nat} {l : List Nat} (h : GD σ b G) (hw : Wd σ w c cap l) (hQ : Q (.inl (some (vI (scp G l)))) σ) : zM Γ mX2_smallestClosedPower [vR (some b), vR (some w)] σ Q := by
  obtain ⟨⟨h0, h1, h2, h3, h4, h5, h6, h7, h8⟩, hG, hV, hE, ht, hpc, hde⟩ := id h
  have hV9 := hG.2.1
  have hcs := cs_le l
  have hc7 := hw.1.2.2.2
  have hc8 := hw.cap
  have hsub : ∀ i j, lt8 ((l.take i).drop j) := fun i j y hy => hw.lt y (List.mem_of_mem_take (List.mem_of_mem_drop hy))
  have hin0 : gin G (gtr G 0 (l.take (cs l))) := gtr_in hG ⟨by omega, by have := hG.1; omega⟩ (by have := hsub (cs l) 0; rwa [List.drop_zero] at this)
  have hin0' := id hin0
  unfold gin at hin0'
  refine zM_of (n := 4) (by decide +kernel) rfl rfl rfl ?_
  have loop : ∀ n k (a : Int), k + n = gV G + 1 → 1 ≤ k → gin G a → (a ≠ -1 → gtr G 0 (l.take (cs l)) ≠ -1) → scpF G ((l.take (l.length - cs l)).drop (cs l)) (gtr G 0 (l.take (cs l))) n k a = scp G l → zW Γ mX2_smallestClosedPower 20 [some (vR (some b)), some (vR (some w)), some (vI (cs l)), some (vI (gtr G 0 (l.take (cs l)))), some (vI a), some (vI k)] [] σ 0 0 Q := by
    intro n
    induction n with
    | zero =>
      intro k a hk hk1 ha hne hs
      refine zW_iload dX2_smallestClosedPower_20 rfl ?_
      refine zW_aload_n dX2_smallestClosedPower_22 rfl ?_
      refine zgI dX2_smallestClosedPower_23 fX2_24 (by assumption) rfl (by assumption) ?_
      refine zW_icmp_gt (tgt := 72) dX2_smallestClosedPower_26 (by decide) (by first | assumption | omega | (unfold InR; omega) | (unfold InL; omega) | (simp only [InR] at *; omega)) (by first | assumption | omega | (unfold InR; omega) | (unfold InL; omega) | (simp only [InR] at *; omega)) (fun q => ?_) (fun q => ?_)
      · refine zW_iconst dX2_smallestClosedPower_72 ?_
        refine zW_ireturn dX2_smallestClosedPower_73 rfl rfl (by first | decide | (show _ ≤ (0 : Nat); omega)) (by first | decide | (show _ ≤ (0 : Nat); omega)) ?_
        rw [← hs] at hQ
        exact hQ
      · exact absurd q (by omega)
    | succ n ih =>
      intro k a hk hk1 ha hne hs
      have ha' := id ha
      unfold gin at ha'
      have hs' : (if a = -1 then -1 else if gtr G a ((l.take (l.length - cs l)).drop (cs l)) = gtr G 0 (l.take (cs l)) then (k : Int) else scpF G ((l.take (l.length - cs l)).drop (cs l)) (gtr G 0 (l.take (cs l))) n (k + 1) (gtr G a ((l.take (l.length - cs l)).drop (cs l)))) = scp G l := hs
      refine zW_iload dX2_smallestClosedPower_20 rfl ?_
      refine zW_aload_n dX2_smallestClosedPower_22 rfl ?_
      refine zgI dX2_smallestClosedPower_23 fX2_24 (by assumption) rfl (by assumption) ?_
      refine zW_icmp_gt (tgt := 72) dX2_smallestClosedPower_26 (by decide) (by first | assumption | omega | (unfold InR; omega) | (unfold InL; omega) | (simp only [InR] at *; omega)) (by first | assumption | omega | (unfold InR; omega) | (unfold InL; omega) | (simp only [InR] at *; omega)) (fun q => ?_) (fun q => ?_)
      · exact absurd q (by omega)
      · refine zW_iload dX2_smallestClosedPower_29 rfl ?_
        refine zW_iconst dX2_smallestClosedPower_31 ?_
        refine zW_icmp_eq (tgt := 72) dX2_smallestClosedPower_32 (by decide) (by first | assumption | omega | (unfold InR; omega) | (unfold InL; omega) | (simp only [InR] at *; omega)) (by first | assumption | omega | (unfold InR; omega) | (unfold InL; omega) | (simp only [InR] at *; omega)) (fun q2 => ?_) (fun q2 => ?_)
        · refine zW_iconst dX2_smallestClosedPower_72 ?_
          refine zW_ireturn dX2_smallestClosedPower_73 rfl rfl (by first | decide | (show _ ≤ (0 : Nat); omega)) (by first | decide | (show _ ≤ (0 : Nat); omega)) ?_
          rw [if_pos q2] at hs'
          rw [← hs'] at hQ
          exact hQ
        · rw [if_neg q2] at hs'
          have hst := hne q2
          have e9 : (l.length : Int) - (cs l : Nat) = ((l.length - cs l : Nat) : Int) := by omega
          have hin1 := gtr_in hG ha (hsub (l.length - cs l) (cs l))
          have hin1' := id hin1
          unfold gin at hin1'
          refine zW_aload_n dX2_smallestClosedPower_35 rfl ?_
          refine zW_iload dX2_smallestClosedPower_36 rfl ?_
          refine zW_aload_n dX2_smallestClosedPower_38 rfl ?_
          refine zW_iload_n dX2_smallestClosedPower_39 rfl ?_
          refine zW_aload_n dX2_smallestClosedPower_40 rfl ?_
          refine zgI dX2_smallestClosedPower_41 fX2_44 hw.1.1 rfl hw.2.1 ?_
          refine zW_iload_n dX2_smallestClosedPower_44 rfl ?_
          refine zW_isub dX2_smallestClosedPower_45 ?_
          rw [e9]
          refine zcV4 dX2_smallestClosedPower_46 rfl eX2_trace b1007 ⟨by decide, by decide, by decide, by decide⟩ rfl h0 rfl (by decide) (Nat.le_of_ble_eq_true rfl) (g_trace (from_ := cs l) (end_ := l.length - cs l) h hw ha (by omega) (by omega) ?_)
          refine zW_istore dX2_smallestClosedPower_49 (by decide) rfl rfl ?_
          refine zW_iload dX2_smallestClosedPower_51 rfl ?_
          refine zW_iconst dX2_smallestClosedPower_53 ?_
          refine zW_icmp_eq (tgt := 66) dX2_smallestClosedPower_54 (by decide) (by first | assumption | omega | (unfold InR; omega) | (unfold InL; omega) | (simp only [InR] at *; omega)) (by first | assumption | omega | (unfold InR; omega) | (unfold InL; omega) | (simp only [InR] at *; omega)) (fun q3 => ?_) (fun q3 => ?_)
          · refine zW_iinc dX2_smallestClosedPower_66 rfl (by decide) rfl rfl ?_
            refine zW_goto (tgt := 20) dX2_smallestClosedPower_69 (by decide) ?_
            rw [if_neg (fun z => hst (z.symm.trans q3))] at hs'
            exact ih (k + 1) _ (by omega) (by omega) hin1 (fun _ => hst) hs'
          · refine zW_iload dX2_smallestClosedPower_57 rfl ?_
            refine zW_iload_n dX2_smallestClosedPower_59 rfl ?_
            refine zW_icmp_ne (tgt := 66) dX2_smallestClosedPower_60 (by decide) (by first | assumption | omega | (unfold InR; omega) | (unfold InL; omega) | (simp only [InR] at *; omega)) (by first | assumption | omega | (unfold InR; omega) | (unfold InL; omega) | (simp only [InR] at *; omega)) (fun q4 => ?_) (fun q4 => ?_)
            · refine zW_iinc dX2_smallestClosedPower_66 rfl (by decide) rfl rfl ?_
              refine zW_goto (tgt := 20) dX2_smallestClosedPower_69 (by decide) ?_
              rw [if_neg q4] at hs'
              exact ih (k + 1) _ (by omega) (by omega) hin1 (fun _ => hst) hs'
            · refine zW_iload dX2_smallestClosedPower_63 rfl ?_
              refine zW_ireturn dX2_smallestClosedPower_65 rfl rfl (by first | decide | (show _ ≤ (0 : Nat); omega)) (by first | decide | (show _ ≤ (0 : Nat); omega)) ?_
              rw [if_pos q4] at hs'
              rw [← hs'] at hQ
              exact hQ
  refine zW_aload_n dX2_smallestClosedPower_0 rfl ?_
  refine zcV0 dX2_smallestClosedPower_1 rfl eX8_coreStart b1030 ⟨by decide, by decide, by decide, by decide⟩ rfl hw.1.1 rfl (by decide) (Nat.le_of_ble_eq_true rfl) (w_coreStart hw ?_)
  refine zW_istore_n dX2_smallestClosedPower_4 (by decide) rfl rfl ?_
  refine zW_aload_n dX2_smallestClosedPower_5 rfl ?_
  refine zW_iconst dX2_smallestClosedPower_6 ?_
  refine zW_aload_n dX2_smallestClosedPower_7 rfl ?_
  refine zW_iconst dX2_smallestClosedPower_8 ?_
  refine zW_iload_n dX2_smallestClosedPower_9 rfl ?_
  refine zcV4 dX2_smallestClosedPower_10 rfl eX2_trace b1007 ⟨by decide, by decide, by decide, by decide⟩ rfl h0 rfl (by decide) (Nat.le_of_ble_eq_true rfl) (g_trace (from_ := 0) (end_ := cs l) h hw (show gin G ((0 : Nat) : Int) from ⟨by omega, by have := hG.1; omega⟩) (by omega) (by omega) ?_)
  refine zW_istore_n dX2_smallestClosedPower_13 (by decide) rfl rfl ?_
  refine zW_iload_n dX2_smallestClosedPower_14 rfl ?_
  refine zW_istore dX2_smallestClosedPower_15 (by decide) rfl rfl ?_
  refine zW_iconst dX2_smallestClosedPower_17 ?_
  refine zW_istore dX2_smallestClosedPower_18 (by decide) rfl rfl ?_
  exact loop (gV G) 1 _ (by omega) (Nat.le_refl _) hin0 (fun z => z) rfl
set_option maxRecDepth 100000 in
theorem g_putWayBack {w c cap v : Nat} {l : List Nat} (h : GD σ b G) (hw : Wd σ w c cap l) (hd : ∀ a, bp b a → a ≠ w ∧ a ≠ c) (hv : v < gV G) (hn : l.length + gde G v ≤ cap) (hQ : ∀ σ', Wd σ' w c cap (pws l (wayb G (gde G v) v)) → Md σ σ' (wp w c) → Q (.inl none) σ') : zM Γ mX2_putWayBack [vR (some b), vR (some w), vI v] σ Q := by
  obtain ⟨⟨h0, h1, h2, h3, h4, h5, h6, h7, h8⟩, hG, hV, hE, ht, hpc, hde⟩ := id h
  have hV9 := hG.2.1
  have hc7 := hw.1.2.2.2
  have hde9 := gde_le hG v hv
  refine zM_of (n := 2) (by decide +kernel) rfl rfl rfl ?_
  have loop : ∀ n u σ1 l1, gde G u = n → u < gV G → l1.length + n ≤ cap → Wd σ1 w c cap l1 → Md σ σ1 (wp w c) → pws l1 (wayb G n u) = pws l (wayb G (gde G v) v) → zW Γ mX2_putWayBack 10 [some (vR (some b)), some (vR (some w)), some (vI v), some (vI u), some (vI n)] [] σ1 0 0 Q := by
    intro n
    induction n with
    | zero =>
      intro u σ1 l1 hu huv hl hw1 m1 hp
      refine zW_iload dX2_putWayBack_10 rfl ?_
      refine zW_if_le (tgt := 40) dX2_putWayBack_12 (by decide) (by first | assumption | omega | (unfold InR; omega) | (unfold InL; omega) | (simp only [InR] at *; omega)) (fun q => ?_) (fun q => ?_)
      · refine zW_return dX2_putWayBack_40 rfl (by first | decide | (show _ ≤ (0 : Nat); omega)) (by first | decide | (show _ ≤ (0 : Nat); omega)) ?_
        rw [← hp] at hQ
        exact hQ _ hw1 m1
      · exact absurd q (by omega)
    | succ n ih =>
      intro u σ1 l1 hu huv hl hw1 m1 hp
      have hle := gde_le hG u huv
      obtain ⟨⟨h0, h1, h2, h3, h4, h5, h6, h7, h8⟩, hG, hV, hE, ht, hpc, hde⟩ := h.md m1 (fun a q q' => by have := hd a q; unfold wp at q'; omega)
      have hu1 := gde_pos hG huv (by omega)
      obtain ⟨p1, p2, p3, p4⟩ := hG.2.2.2.2.1 u hu1 huv
      obtain ⟨r1, r2⟩ := hpc u hu1 huv
      refine zW_iload dX2_putWayBack_10 rfl ?_
      refine zW_if_le (tgt := 40) dX2_putWayBack_12 (by decide) (by first | assumption | omega | (unfold InR; omega) | (unfold InL; omega) | (simp only [InR] at *; omega)) (fun q => ?_) (fun q => ?_)
      · exact absurd q (by omega)
      · refine zW_aload_n dX2_putWayBack_15 rfl ?_
        refine zW_aload_n dX2_putWayBack_16 rfl ?_
        refine zgP dX2_putWayBack_17 fX2_18 h0 rfl h3 ?_
        refine zW_iload_n dX2_putWayBack_20 rfl ?_
        refine zrI dX2_putWayBack_21 h7 (by first | assumption | omega | (unfold InR; omega) | (unfold InL; omega) | (simp only [InR] at *; omega)) (by first | assumption | omega | (unfold InR; omega) | (unfold InL; omega) | (simp only [InR] at *; omega)) (by first | assumption | omega | (unfold InR; omega) | (unfold InL; omega) | (simp only [InR] at *; omega)) r2 ?_
        refine zW_iconst dX2_putWayBack_22 ?_
        refine zW_ixor1 dX2_putWayBack_23 p2 ?_
        refine zcV1 dX2_putWayBack_24 rfl eX8_put b1220 ⟨by decide, by decide, by decide, by decide⟩ rfl hw1.1.1 rfl (by decide) (Nat.le_of_ble_eq_true rfl) (w_put hw1 (x1_lt p2) (by omega) (fun σ2 hw2 hm2 => ?_))
        obtain ⟨⟨h0, h1, h2, h3, h4, h5, h6, h7, h8⟩, hG, hV, hE, ht, hpc, hde⟩ := h.md (m1.tr hm2 (fun _ q => q)) (fun a q q' => by have := hd a q; unfold wp at q'; omega)
        obtain ⟨r1, r2⟩ := hpc u hu1 huv
        refine zW_aload_n dX2_putWayBack_27 rfl ?_
        refine zgP dX2_putWayBack_28 fX2_15 h0 rfl h2 ?_
        refine zW_iload_n dX2_putWayBack_31 rfl ?_
        refine zrI dX2_putWayBack_32 h6 (by first | assumption | omega | (unfold InR; omega) | (unfold InL; omega) | (simp only [InR] at *; omega)) (by first | assumption | omega | (unfold InR; omega) | (unfold InL; omega) | (simp only [InR] at *; omega)) (by first | assumption | omega | (unfold InR; omega) | (unfold InL; omega) | (simp only [InR] at *; omega)) r1 ?_
        refine zW_istore_n dX2_putWayBack_33 (by decide) rfl rfl ?_
        refine zW_iinc dX2_putWayBack_34 rfl (by decide) rfl rfl ?_
        refine zW_goto (tgt := 10) dX2_putWayBack_37 (by decide) ?_
        have hp9 := pw_len l1 (gpc G u ^^^ 1)
        have e9 : ((n + 1 : Nat) : Int) + -1 = (n : Int) := by omega
        rw [e9]
        exact ih (gpa G u) σ2 _ (by omega) (by omega) (by omega) hw2 (m1.tr hm2 (fun _ q => q)) hp
  refine zW_iload_n dX2_putWayBack_0 rfl ?_
  refine zW_istore_n dX2_putWayBack_1 (by decide) rfl rfl ?_
  refine zW_aload_n dX2_putWayBack_2 rfl ?_
  refine zgP dX2_putWayBack_3 fX2_21 h0 rfl h4 ?_
  refine zW_iload_n dX2_putWayBack_6 rfl ?_
  refine zrI dX2_putWayBack_7 h8 (by first | assumption | omega | (unfold InR; omega) | (unfold InL; omega) | (simp only [InR] at *; omega)) (by first | assumption | omega | (unfold InR; omega) | (unfold InL; omega) | (simp only [InR] at *; omega)) (by first | assumption | omega | (unfold InR; omega) | (unfold InL; omega) | (simp only [InR] at *; omega)) (hde v hv) ?_
  refine zW_istore dX2_putWayBack_8 (by decide) rfl rfl ?_
  exact loop (gde G v) v σ l rfl hv hn hw Md.rf rfl
set_option maxRecDepth 100000 in
theorem g_isTreeEdge {v c : Nat} (h : GD σ b G) (hv : v < gV G) (hc : c < 8) (ht0 : gt G v c ≠ -1) (hQ : Q (.inl (some (vI (if gtree G v c then 1 else 0)))) σ) : zM Γ mX2_isTreeEdge [vR (some b), vI v, vI c] σ Q := by
  obtain ⟨⟨h0, h1, h2, h3, h4, h5, h6, h7, h8⟩, hG, hV, hE, ht, hpc, hde⟩ := id h
  have hV9 := hG.2.1
  have hin := hG.2.2.1 v c hv hc
  refine zM_of (n := 3) (by decide +kernel) rfl rfl rfl ?_
  have fin : ∀ A B : Bool, (gtree G v c = (A || B)) → ∀ z, zW Γ mX2_isTreeEdge 71 [some (vR (some b)), some (vI v), some (vI c), z, some (vI (if A then 1 else 0)), some (vI (if B then 1 else 0))] [] σ 0 0 Q := by
    intro A B e z
    rw [e] at hQ
    cases A <;> cases B
    all_goals skip
    · refine zW_iload dX2_isTreeEdge_71 rfl ?_
      refine zW_if_ne (tgt := 81) dX2_isTreeEdge_73 (by decide) (by first | assumption | omega | (unfold InR; omega) | (unfold InL; omega) | (simp only [InR] at *; omega)) (fun q => ?_) (fun q => ?_)
      · exact absurd rfl q
      · refine zW_iload dX2_isTreeEdge_76 rfl ?_
        refine zW_if_eq (tgt := 85) dX2_isTreeEdge_78 (by decide) (by first | assumption | omega | (unfold InR; omega) | (unfold InL; omega) | (simp only [InR] at *; omega)) (fun q2 => ?_) (fun q2 => ?_)
        · refine zW_iconst dX2_isTreeEdge_85 ?_
          refine zW_ireturn dX2_isTreeEdge_86 rfl rfl (by first | decide | (show _ ≤ (0 : Nat); omega)) (by first | decide | (show _ ≤ (0 : Nat); omega)) ?_
          exact hQ
        · exact absurd rfl q2
    · refine zW_iload dX2_isTreeEdge_71 rfl ?_
      refine zW_if_ne (tgt := 81) dX2_isTreeEdge_73 (by decide) (by first | assumption | omega | (unfold InR; omega) | (unfold InL; omega) | (simp only [InR] at *; omega)) (fun q => ?_) (fun q => ?_)
      · exact absurd rfl q
      · refine zW_iload dX2_isTreeEdge_76 rfl ?_
        refine zW_if_eq (tgt := 85) dX2_isTreeEdge_78 (by decide) (by first | assumption | omega | (unfold InR; omega) | (unfold InL; omega) | (simp only [InR] at *; omega)) (fun q2 => ?_) (fun q2 => ?_)
        · exact absurd q2 (by decide)
        · refine zW_iconst dX2_isTreeEdge_81 ?_
          refine zW_goto (tgt := 86) dX2_isTreeEdge_82 (by decide) ?_
          refine zW_ireturn dX2_isTreeEdge_86 rfl rfl (by first | decide | (show _ ≤ (0 : Nat); omega)) (by first | decide | (show _ ≤ (0 : Nat); omega)) ?_
          exact hQ
    · refine zW_iload dX2_isTreeEdge_71 rfl ?_
      refine zW_if_ne (tgt := 81) dX2_isTreeEdge_73 (by decide) (by first | assumption | omega | (unfold InR; omega) | (unfold InL; omega) | (simp only [InR] at *; omega)) (fun q => ?_) (fun q => ?_)
      · refine zW_iconst dX2_isTreeEdge_81 ?_
        refine zW_goto (tgt := 86) dX2_isTreeEdge_82 (by decide) ?_
        refine zW_ireturn dX2_isTreeEdge_86 rfl rfl (by first | decide | (show _ ≤ (0 : Nat); omega)) (by first | decide | (show _ ≤ (0 : Nat); omega)) ?_
        exact hQ
      · exact absurd q (by decide)
    · refine zW_iload dX2_isTreeEdge_71 rfl ?_
      refine zW_if_ne (tgt := 81) dX2_isTreeEdge_73 (by decide) (by first | assumption | omega | (unfold InR; omega) | (unfold InL; omega) | (simp only [InR] at *; omega)) (fun q => ?_) (fun q => ?_)
      · refine zW_iconst dX2_isTreeEdge_81 ?_
        refine zW_goto (tgt := 86) dX2_isTreeEdge_82 (by decide) ?_
        refine zW_ireturn dX2_isTreeEdge_86 rfl rfl (by first | decide | (show _ ≤ (0 : Nat); omega)) (by first | decide | (show _ ≤ (0 : Nat); omega)) ?_
        exact hQ
      · exact absurd q (by decide)
  have second : ∀ A : Bool, A = (decide (0 < gt G v c) && decide (gpa G (gt G v c).toNat = v) && decide (gpc G (gt G v c).toNat = c)) → ∀ z, zW Γ mX2_isTreeEdge 38 [some (vR (some b)), some (vI v), some (vI c), some (vI (gt G v c)), some (vI (if A then 1 else 0)), z] [] σ 0 0 Q := by
    intro A eA z
    have no : (decide (0 < v) && decide ((gpa G v : Int) = gt G v c) && decide (gpc G v = c ^^^ 1)) = false → zW Γ mX2_isTreeEdge 68 [some (vR (some b)), some (vI v), some (vI c), some (vI (gt G v c)), some (vI (if A then 1 else 0)), z] [] σ 0 0 Q := by
      intro e
      refine zW_iconst dX2_isTreeEdge_68 ?_
      refine zW_istore dX2_isTreeEdge_69 (by decide) rfl rfl ?_
      refine fin A false ?_ _
      unfold gtree
      rw [e, ← eA]
    refine zW_iload_n dX2_isTreeEdge_38 rfl ?_
    refine zW_if_le (tgt := 68) dX2_isTreeEdge_39 (by decide) (by first | assumption | omega | (unfold InR; omega) | (unfold InL; omega) | (simp only [InR] at *; omega)) (fun q => ?_) (fun q => ?_)
    · refine no ?_
      have : decide (0 < v) = false := by rw [decide_eq_false_iff_not]; omega
      rw [this]; rfl
    · obtain ⟨p1, p2, p3, p4⟩ := hG.2.2.2.2.1 v (by omega) hv
      obtain ⟨r1, r2⟩ := hpc v (by omega) hv
      have d1 : decide (0 < v) = true := by rw [decide_eq_true_iff]; omega
      refine zW_aload_n dX2_isTreeEdge_42 rfl ?_
      refine zgP dX2_isTreeEdge_43 fX2_15 h0 rfl h2 ?_
      refine zW_iload_n dX2_isTreeEdge_46 rfl ?_
      refine zrI dX2_isTreeEdge_47 h6 (by first | assumption | omega | (unfold InR; omega) | (unfold InL; omega) | (simp only [InR] at *; omega)) (by first | assumption | omega | (unfold InR; omega) | (unfold InL; omega) | (simp only [InR] at *; omega)) (by first | assumption | omega | (unfold InR; omega) | (unfold InL; omega) | (simp only [InR] at *; omega)) r1 ?_
      refine zW_iload_n dX2_isTreeEdge_48 rfl ?_
      refine zW_icmp_ne (tgt := 68) dX2_isTreeEdge_49 (by decide) (by first | assumption | omega | (unfold InR; omega) | (unfold InL; omega) | (simp only [InR] at *; omega)) (by first | assumption | omega | (unfold InR; omega) | (unfold InL; omega) | (simp only [InR] at *; omega)) (fun q2 => ?_) (fun q2 => ?_)
      · refine no ?_
        have : decide ((gpa G v : Int) = gt G v c) = false := by rw [decide_eq_false_iff_not]; exact q2
        rw [this, d1]; rfl
      · have d2 : decide ((gpa G v : Int) = gt G v c) = true := by rw [decide_eq_true_iff]; exact q2
        have hx := x1_lt hc
        refine zW_aload_n dX2_isTreeEdge_52 rfl ?_
        refine zgP dX2_isTreeEdge_53 fX2_18 h0 rfl h3 ?_
        refine zW_iload_n dX2_isTreeEdge_56 rfl ?_
        refine zrI dX2_isTreeEdge_57 h7 (by first | assumption | omega | (unfold InR; omega) | (unfold InL; omega) | (simp only [InR] at *; omega)) (by first | assumption | omega | (unfold InR; omega) | (unfold InL; omega) | (simp only [InR] at *; omega)) (by first | assumption | omega | (unfold InR; omega) | (unfold InL; omega) | (simp only [InR] at *; omega)) r2 ?_
        refine zW_iload_n dX2_isTreeEdge_58 rfl ?_
        refine zW_iconst dX2_isTreeEdge_59 ?_
        refine zW_ixor1 dX2_isTreeEdge_60 hc ?_
        refine zW_icmp_ne (tgt := 68) dX2_isTreeEdge_61 (by decide) (by first | assumption | omega | (unfold InR; omega) | (unfold InL; omega) | (simp only [InR] at *; omega)) (by first | assumption | omega | (unfold InR; omega) | (unfold InL; omega) | (simp only [InR] at *; omega)) (fun q3 => ?_) (fun q3 => ?_)
        · refine no ?_
          have : decide (gpc G v = c ^^^ 1) = false := by rw [decide_eq_false_iff_not]; omega
          rw [this, d1, d2]; rfl
        · have d3 : decide (gpc G v = c ^^^ 1) = true := by rw [decide_eq_true_iff]; omega
          refine zW_iconst dX2_isTreeEdge_64 ?_
          refine zW_goto (tgt := 69) dX2_isTreeEdge_65 (by decide) ?_
          refine zW_istore dX2_isTreeEdge_69 (by decide) rfl rfl ?_
          refine fin A true ?_ _
          unfold gtree
          rw [d1, d2, d3, ← eA]
          rfl
  have no : (decide (0 < gt G v c) && decide (gpa G (gt G v c).toNat = v) && decide (gpc G (gt G v c).toNat = c)) = false → ∀ y z, zW Γ mX2_isTreeEdge 35 [some (vR (some b)), some (vI v), some (vI c), some (vI (gt G v c)), y, z] [] σ 0 0 Q := by
    intro e y z
    refine zW_iconst dX2_isTreeEdge_35 ?_
    refine zW_istore dX2_isTreeEdge_36 (by decide) rfl rfl ?_
    exact second false e.symm z
  refine zW_aload_n dX2_isTreeEdge_0 rfl ?_
  refine zW_iload_n dX2_isTreeEdge_1 rfl ?_
  refine zW_iload_n dX2_isTreeEdge_2 rfl ?_
  refine zcV2 dX2_isTreeEdge_3 rfl eX2_follow b495 ⟨by decide, by decide, by decide, by decide⟩ rfl h0 rfl (by decide) (Nat.le_of_ble_eq_true rfl) (g_follow h hv hc ?_)
  refine zW_istore_n dX2_isTreeEdge_6 (by decide) rfl rfl ?_
  refine zW_iload_n dX2_isTreeEdge_7 rfl ?_
  refine zW_if_le (tgt := 35) dX2_isTreeEdge_8 (by decide) (by first | assumption | omega | (unfold InR; omega) | (unfold InL; omega) | (simp only [InR] at *; omega)) (fun q => ?_) (fun q => ?_)
  · refine no ?_ _ _
    have : decide (0 < gt G v c) = false := by rw [decide_eq_false_iff_not]; omega
    rw [this]; rfl
  · have hu : 1 ≤ (gt G v c).toNat := by omega
    have hu2 : (gt G v c).toNat < gV G := by omega
    obtain ⟨p1, p2, p3, p4⟩ := hG.2.2.2.2.1 _ hu hu2
    obtain ⟨r1, r2⟩ := hpc _ hu hu2
    have d1 : decide (0 < gt G v c) = true := by rw [decide_eq_true_iff]; omega
    refine zW_aload_n dX2_isTreeEdge_11 rfl ?_
    refine zgP dX2_isTreeEdge_12 fX2_15 h0 rfl h2 ?_
    refine zW_iload_n dX2_isTreeEdge_15 rfl ?_
    refine zrI dX2_isTreeEdge_16 h6 (by first | assumption | omega | (unfold InR; omega) | (unfold InL; omega) | (simp only [InR] at *; omega)) (by first | assumption | omega | (unfold InR; omega) | (unfold InL; omega) | (simp only [InR] at *; omega)) (by first | assumption | omega | (unfold InR; omega) | (unfold InL; omega) | (simp only [InR] at *; omega)) r1 ?_
    refine zW_iload_n dX2_isTreeEdge_17 rfl ?_
    refine zW_icmp_ne (tgt := 35) dX2_isTreeEdge_18 (by decide) (by first | assumption | omega | (unfold InR; omega) | (unfold InL; omega) | (simp only [InR] at *; omega)) (by first | assumption | omega | (unfold InR; omega) | (unfold InL; omega) | (simp only [InR] at *; omega)) (fun q2 => ?_) (fun q2 => ?_)
    · refine no ?_ _ _
      have : decide (gpa G (gt G v c).toNat = v) = false := by rw [decide_eq_false_iff_not]; omega
      rw [this, d1]; rfl
    · have d2 : decide (gpa G (gt G v c).toNat = v) = true := by rw [decide_eq_true_iff]; omega
      refine zW_aload_n dX2_isTreeEdge_21 rfl ?_
      refine zgP dX2_isTreeEdge_22 fX2_18 h0 rfl h3 ?_
      refine zW_iload_n dX2_isTreeEdge_25 rfl ?_
      refine zrI dX2_isTreeEdge_26 h7 (by first | assumption | omega | (unfold InR; omega) | (unfold InL; omega) | (simp only [InR] at *; omega)) (by first | assumption | omega | (unfold InR; omega) | (unfold InL; omega) | (simp only [InR] at *; omega)) (by first | assumption | omega | (unfold InR; omega) | (unfold InL; omega) | (simp only [InR] at *; omega)) r2 ?_
      refine zW_iload_n dX2_isTreeEdge_27 rfl ?_
      refine zW_icmp_ne (tgt := 35) dX2_isTreeEdge_28 (by decide) (by first | assumption | omega | (unfold InR; omega) | (unfold InL; omega) | (simp only [InR] at *; omega)) (by first | assumption | omega | (unfold InR; omega) | (unfold InL; omega) | (simp only [InR] at *; omega)) (fun q3 => ?_) (fun q3 => ?_)
      · refine no ?_ _ _
        have : decide (gpc G (gt G v c).toNat = c) = false := by rw [decide_eq_false_iff_not]; omega
        rw [this, d1, d2]; rfl
      · have d3 : decide (gpc G (gt G v c).toNat = c) = true := by rw [decide_eq_true_iff]; omega
        refine zW_iconst dX2_isTreeEdge_31 ?_
        refine zW_goto (tgt := 36) dX2_isTreeEdge_32 (by decide) ?_
        refine zW_istore dX2_isTreeEdge_36 (by decide) rfl rfl ?_
        refine second true ?_ _
        rw [d1, d2, d3]; rfl
set_option maxRecDepth 100000 in
theorem g_remainingEdge {k : Nat} (h : GD σ b G) (hk : k ≤ 4000) (hQ : ∀ r : Nat, (∀ e, (reml G (4 * gV G))[k]? = some e → r = 8 * (e / 4) + 2 * (e % 4)) → Q (.inl (some (vI r))) σ) : zM Γ mX2_remainingEdge [vR (some b), vI k] σ Q := by
  obtain ⟨⟨h0, h1, h2, h3, h4, h5, h6, h7, h8⟩, hG, hV, hE, ht, hpc, hde⟩ := id h
  have hV9 := hG.2.1
  refine zM_of (n := 3) (by decide +kernel) rfl rfl rfl ?_
  have loop : ∀ n v, v + n = gV G → (reml G (4 * v)).length ≤ k → ∀ z, zW Γ mX2_remainingEdge 4 [some (vR (some b)), some (vI k), some (vI (reml G (4 * v)).length), some (vI v), z] [] σ 0 0 Q := by
    intro n
    induction n with
    | zero =>
      intro v hv hle z
      refine zW_iload_n dX2_remainingEdge_4 rfl ?_
      refine zW_aload_n dX2_remainingEdge_5 rfl ?_
      refine zgI dX2_remainingEdge_6 fX2_24 (by assumption) rfl (by assumption) ?_
      refine zW_icmp_ge (tgt := 71) dX2_remainingEdge_9 (by decide) (by first | assumption | omega | (unfold InR; omega) | (unfold InL; omega) | (simp only [InR] at *; omega)) (by first | assumption | omega | (unfold InR; omega) | (unfold InL; omega) | (simp only [InR] at *; omega)) (fun q => ?_) (fun q => ?_)
      · refine zW_iconst dX2_remainingEdge_71 ?_
        refine zW_ireturn dX2_remainingEdge_72 rfl rfl (by first | decide | (show _ ≤ (0 : Nat); omega)) (by first | decide | (show _ ≤ (0 : Nat); omega)) ?_
        refine hQ 0 (fun e he => ?_)
        have := (List.getElem?_eq_some_iff.mp he).1
        have e2 : v = gV G := by omega
        rw [e2] at hle
        omega
      · exact absurd q (by omega)
    | succ n ih =>
      intro v hv hle z
      refine zW_iload_n dX2_remainingEdge_4 rfl ?_
      refine zW_aload_n dX2_remainingEdge_5 rfl ?_
      refine zgI dX2_remainingEdge_6 fX2_24 (by assumption) rfl (by assumption) ?_
      refine zW_icmp_ge (tgt := 71) dX2_remainingEdge_9 (by decide) (by first | assumption | omega | (unfold InR; omega) | (unfold InL; omega) | (simp only [InR] at *; omega)) (by first | assumption | omega | (unfold InR; omega) | (unfold InL; omega) | (simp only [InR] at *; omega)) (fun q => ?_) (fun q => ?_)
      · exact absurd q (by omega)
      · refine zW_iconst dX2_remainingEdge_12 ?_
        refine zW_istore dX2_remainingEdge_13 (by decide) rfl rfl ?_
        have loop2 : ∀ n c, c + n = 4 → (reml G (4 * v + c)).length ≤ k → zW Γ mX2_remainingEdge 15 [some (vR (some b)), some (vI k), some (vI (reml G (4 * v + c)).length), some (vI v), some (vI (2 * c : Nat))] [] σ 0 0 Q := by
          intro n
          induction n with
          | zero =>
            intro c hc hle2
            have e4 : c = 4 := by omega
            subst e4
            refine zW_iload dX2_remainingEdge_15 rfl ?_
            refine zW_bipush dX2_remainingEdge_17 (by decide) ?_
            refine zW_icmp_ge (tgt := 65) dX2_remainingEdge_19 (by decide) (by first | assumption | omega | (unfold InR; omega) | (unfold InL; omega) | (simp only [InR] at *; omega)) (by first | assumption | omega | (unfold InR; omega) | (unfold InL; omega) | (simp only [InR] at *; omega)) (fun q2 => ?_) (fun q2 => ?_)
            · refine zW_iinc dX2_remainingEdge_65 rfl (by decide) rfl rfl ?_
              refine zW_goto (tgt := 4) dX2_remainingEdge_68 (by decide) ?_
              exact ih (v + 1) (by omega) hle2 _
            · exact absurd q2 (by omega)
          | succ n ih2 =>
            intro c hc hle2
            have hc8 : 2 * c < 8 := by omega
            have hin := hG.2.2.1 v (2 * c) (by omega) hc8
            have ed : (4 * v + c) / 4 = v := by omega
            have em : 2 * ((4 * v + c) % 4) = 2 * c := by omega
            have rs := reml_succ G (4 * v + c)
            rw [ed, em] at rs
            have e2 : ((2 * c : Nat) : Int) + 2 = ((2 * (c + 1) : Nat) : Int) := by omega
            have nxt : ¬ (gt G v (2 * c) ≠ -1 ∧ gtree G v (2 * c) = false) → zW Γ mX2_remainingEdge 59 [some (vR (some b)), some (vI k), some (vI (reml G (4 * v + c)).length), some (vI v), some (vI (2 * c : Nat))] [] σ 0 0 Q := by
              intro hno
              rw [if_neg hno, List.append_nil] at rs
              refine zW_iinc dX2_remainingEdge_59 rfl (by decide) rfl rfl ?_
              refine zW_goto (tgt := 15) dX2_remainingEdge_62 (by decide) ?_
              rw [e2]
              have := ih2 (c + 1) (by omega)
              rw [show 4 * v + (c + 1) = 4 * v + c + 1 from rfl, rs] at this
              exact this hle2
            refine zW_iload dX2_remainingEdge_15 rfl ?_
            refine zW_bipush dX2_remainingEdge_17 (by decide) ?_
            refine zW_icmp_ge (tgt := 65) dX2_remainingEdge_19 (by decide) (by first | assumption | omega | (unfold InR; omega) | (unfold InL; omega) | (simp only [InR] at *; omega)) (by first | assumption | omega | (unfold InR; omega) | (unfold InL; omega) | (simp only [InR] at *; omega)) (fun q2 => ?_) (fun q2 => ?_)
            · exact absurd q2 (by omega)
            · refine zW_aload_n dX2_remainingEdge_22 rfl ?_
              refine zW_iload_n dX2_remainingEdge_23 rfl ?_
              refine zW_iload dX2_remainingEdge_24 rfl ?_
              refine zcV2 dX2_remainingEdge_26 rfl eX2_follow b495 ⟨by decide, by decide, by decide, by decide⟩ rfl h0 rfl (by decide) (Nat.le_of_ble_eq_true rfl) (g_follow h (by omega) hc8 ?_)
              refine zW_iconst dX2_remainingEdge_29 ?_
              refine zW_icmp_eq (tgt := 59) dX2_remainingEdge_30 (by decide) (by first | assumption | omega | (unfold InR; omega) | (unfold InL; omega) | (simp only [InR] at *; omega)) (by first | assumption | omega | (unfold InR; omega) | (unfold InL; omega) | (simp only [InR] at *; omega)) (fun q3 => ?_) (fun q3 => ?_)
              · exact nxt (fun z => z.1 q3)
              · refine zW_aload_n dX2_remainingEdge_33 rfl ?_
                refine zW_iload_n dX2_remainingEdge_34 rfl ?_
                refine zW_iload dX2_remainingEdge_35 rfl ?_
                refine zcV2 dX2_remainingEdge_37 rfl eX2_isTreeEdge b1208 ⟨by decide, by decide, by decide, by decide⟩ rfl h0 rfl (by decide) (Nat.le_of_ble_eq_true rfl) (g_isTreeEdge h (by omega) hc8 q3 ?_)
                cases ht9 : gtree G v (2 * c)
                · rw [if_pos ⟨q3, ht9⟩] at rs
                  refine zW_if_ne (tgt := 59) dX2_remainingEdge_40 (by decide) (by first | assumption | omega | (unfold InR; omega) | (unfold InL; omega) | (simp only [InR] at *; omega)) (fun q4 => ?_) (fun q4 => ?_)
                  · exact absurd rfl q4
                  · refine zW_iload_n dX2_remainingEdge_43 rfl ?_
                    refine zW_iload_n dX2_remainingEdge_44 rfl ?_
                    refine zW_icmp_ne (tgt := 56) dX2_remainingEdge_45 (by decide) (by first | assumption | omega | (unfold InR; omega) | (unfold InL; omega) | (simp only [InR] at *; omega)) (by first | assumption | omega | (unfold InR; omega) | (unfold InL; omega) | (simp only [InR] at *; omega)) (fun q5 => ?_) (fun q5 => ?_)
                    · refine zW_iinc dX2_remainingEdge_56 rfl (by decide) rfl rfl ?_
                      refine zW_iinc dX2_remainingEdge_59 rfl (by decide) rfl rfl ?_
                      refine zW_goto (tgt := 15) dX2_remainingEdge_62 (by decide) ?_
                      rw [e2]
                      have := ih2 (c + 1) (by omega)
                      rw [show 4 * v + (c + 1) = 4 * v + c + 1 from rfl, rs, List.length_append] at this
                      exact this (by simp only [List.length_cons, List.length_nil]; omega)
                    · refine zW_iload_n dX2_remainingEdge_48 rfl ?_
                      refine zW_bipush dX2_remainingEdge_49 (by decide) ?_
                      refine zW_imul dX2_remainingEdge_51 ?_
                      refine zW_iload dX2_remainingEdge_52 rfl ?_
                      refine zW_iadd dX2_remainingEdge_54 ?_
                      refine zW_ireturn dX2_remainingEdge_55 rfl rfl (by first | decide | (show _ ≤ (0 : Nat); omega)) (by first | decide | (show _ ≤ (0 : Nat); omega)) ?_
                      have hq := hQ (8 * v + 2 * c) (fun e he => ?_)
                      · have e7 : (v : Int) * 8 + ((2 * c : Nat) : Int) = ((8 * v + 2 * c : Nat) : Int) := by omega
                        rw [e7]
                        exact hq
                      · have hpre : ∀ m, ∃ r, reml G (4 * v + c + 1 + m) = reml G (4 * v + c + 1) ++ r := by
                          intro m
                          induction m with
                          | zero => exact ⟨[], by rw [List.append_nil, Nat.add_zero]⟩
                          | succ m ihm =>
                            obtain ⟨r, hr⟩ := ihm
                            exact ⟨_, by rw [show 4 * v + c + 1 + (m + 1) = (4 * v + c + 1 + m) + 1 from rfl, reml_succ, hr, List.append_assoc]⟩
                        obtain ⟨r, hr⟩ := hpre (4 * gV G - (4 * v + c + 1))
                        rw [show 4 * v + c + 1 + (4 * gV G - (4 * v + c + 1)) = 4 * gV G by omega] at hr
                        have hk9 : k = (reml G (4 * v + c)).length := by omega
                        rw [hr, rs, List.append_assoc, hk9, List.getElem?_append_right (Nat.le_refl _), Nat.sub_self] at he
                        have : 4 * v + c = e := by simpa using he
                        omega
                · refine zW_if_ne (tgt := 59) dX2_remainingEdge_40 (by decide) (by first | assumption | omega | (unfold InR; omega) | (unfold InL; omega) | (simp only [InR] at *; omega)) (fun q4 => ?_) (fun q4 => ?_)
                  · exact nxt (fun z => by rw [ht9] at z; exact absurd z.2 (by decide))
                  · exact absurd q4 (by decide)
        exact loop2 4 0 rfl hle
  refine zW_iconst dX2_remainingEdge_0 ?_
  refine zW_istore_n dX2_remainingEdge_1 (by decide) rfl rfl ?_
  refine zW_iconst dX2_remainingEdge_2 ?_
  refine zW_istore_n dX2_remainingEdge_3 (by decide) rfl rfl ?_
  have := loop (gV G) 0 (by omega)
  exact this (Nat.zero_le _) _
end GRAPH
