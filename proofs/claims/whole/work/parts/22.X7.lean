/-! State: rank, registers, generating words -/
set_option maxRecDepth 100000 in
theorem zixP {f : Nat → Option Nat} {i j : Nat} {v : Option Nat} (e : i = j) (h : f j = v) : f i = v := by rw [e]; exact h
abbrev ST : Type := Nat × (Nat → List Nat) × (Nat → List (List Nat))
def sRk (t : ST) : Nat := t.1
def sRg (t : ST) : Nat → List Nat := t.2.1
def sGw (t : ST) : Nat → List (List Nat) := t.2.2
def sp (s : Nat) : Nat → Prop := fun a => s ≤ a ∧ a < s + 44
def SK (σ : HS) (s : Nat) : Prop := zK σ s = (7, 0) ∧ zP σ s 0 = some (s + 1) ∧ zP σ s 1 = some (s + 2) ∧ zP σ s 2 = some (s + 3) ∧ zK σ (s + 1) = (18, 8) ∧ zK σ (s + 2) = (18, 12) ∧ zK σ (s + 3) = (13, 2) ∧ (∀ i, i < 8 → zP σ (s + 1) i = some (s + 4 + 2 * i)) ∧ (∀ i, i < 12 → zP σ (s + 2) i = some (s + 20 + 2 * i)) ∧ ∀ i, i < 20 → Wk σ (s + 4 + 2 * i) (s + 5 + 2 * i) 60
def SW (σ : HS) (s i : Nat) (l : List Nat) : Prop := Wd σ (s + 4 + 2 * i) (s + 5 + 2 * i) 60 l
def SD (σ : HS) (s : Nat) (t : ST) : Prop := SK σ s ∧ zO σ s 3 = (sRk t : Int) ∧ (∀ r, r < 8 → SW σ s r (sRg t r)) ∧ ∀ g, g < 2 → zI σ (s + 3) g = ((sGw t g).length : Int) ∧ (sGw t g).length ≤ 6 ∧ ∀ k, k < (sGw t g).length → SW σ s (8 + 6 * g + k) ((sGw t g).getD k [])
set_option maxRecDepth 100000 in
theorem SK.md {σ σ' : HS} {s : Nat} {P : Nat → Prop} (m : Md σ σ' P) (h : SK σ s) : SK σ' s := by
  unfold SK Wk at *
  rw [m.K, m.P]
  exact h
set_option maxRecDepth 100000 in
theorem SW.md {σ σ' : HS} {s i : Nat} {l : List Nat} {P : Nat → Prop} (m : Md σ σ' P) (h : SW σ s i l) (h1 : ¬ P (s + 4 + 2 * i)) (h2 : ¬ P (s + 5 + 2 * i)) : SW σ' s i l := Wd.md m h h1 h2
set_option maxRecDepth 100000 in
theorem SW.keep {σ σ' : HS} {s i j : Nat} {l : List Nat} (m : Md σ σ' (wp (s + 4 + 2 * j) (s + 5 + 2 * j))) (h : SW σ s i l) (hj : i ≠ j) : SW σ' s i l :=
  SW.md m h (fun q => by unfold wp at q; omega) (fun q => by unfold wp at q; omega)
set_option maxRecDepth 100000 in
theorem wp_sp {s j a : Nat} (hj : j < 20) (h : wp (s + 4 + 2 * j) (s + 5 + 2 * j) a) : sp s a := by
  unfold wp at h
  unfold sp
  omega
set_option maxRecDepth 100000 in
theorem SD.md {σ σ' : HS} {s : Nat} {t : ST} {P : Nat → Prop} (m : Md σ σ' P) (h : SD σ s t) (hp : ∀ a, sp s a → ¬ P a) : SD σ' s t := by
  have hs : ∀ k, k < 44 → ¬ P (s + k) := fun k hk => hp _ (by unfold sp; omega)
  refine ⟨h.1.md m, ?_, fun r hr => (h.2.2.1 r hr).md m (hp _ (by unfold sp; omega)) (hp _ (by unfold sp; omega)), fun g hg => ⟨?_, (h.2.2.2 g hg).2.1, fun k hk => ((h.2.2.2 g hg).2.2 k hk).md m (hp _ ?_) (hp _ ?_)⟩⟩
  · rw [m.o (hp s (by unfold sp; omega))]; exact h.2.1
  · rw [m.i (hs 3 (by omega))]; exact (h.2.2.2 g hg).1
  · have := (h.2.2.2 g hg).2.1
    unfold sp; omega
  · have := (h.2.2.2 g hg).2.1
    unfold sp; omega
set_option maxRecDepth 100000 in
theorem SD.rg {σ : HS} {s r : Nat} {t : ST} (h : SD σ s t) (hr : r < 8) : SW σ s r (sRg t r) := h.2.2.1 r hr
set_option maxRecDepth 100000 in
theorem SD.gw {σ : HS} {s g k : Nat} {t : ST} (h : SD σ s t) (hg : g < 2) (hk : k < (sGw t g).length) : SW σ s (8 + 6 * g + k) ((sGw t g).getD k []) := (h.2.2.2 g hg).2.2 k hk
set_option maxRecDepth 100000 in
theorem SD.gn {σ : HS} {s g : Nat} {t : ST} (h : SD σ s t) (hg : g < 2) : (sGw t g).length ≤ 6 := (h.2.2.2 g hg).2.1
section STATE
variable {Γ : GG} {σ : HS} {Q : Res → HS → Prop}
set_option maxRecDepth 100000 in
theorem st_gw {s g k : Nat} (h : SK σ s) (hg : g < 2) (hk : k < 6) (hQ : Q (.inl (some (vR (some (s + 4 + 2 * (8 + 6 * g + k)))))) σ) : zM Γ mX7_generatingWord [vR (some s), vI g, vI k] σ Q := by
  obtain ⟨h0, h1, h2, h3, h4, h5, h6, h7, h8, h9⟩ := id h
  refine zM_of (n := 0) (by decide +kernel) rfl rfl rfl ?_
  have e9 : ((g : Int) * 6 + k).toNat = 6 * g + k := by omega
  have e8 : zP σ (s + 2) ((g : Int) * 6 + k).toNat = some (s + 4 + 2 * (8 + 6 * g + k)) := by
    rw [e9, h8 _ (by omega)]
    congr 1
    omega
  refine zW_aload_n dX7_generatingWord_0 rfl ?_
  refine zgP dX7_generatingWord_1 fX7_17 (by assumption) rfl (by assumption) ?_
  refine zW_iload_n dX7_generatingWord_4 rfl ?_
  refine zW_bipush dX7_generatingWord_5 (by decide) ?_
  refine zW_imul dX7_generatingWord_7 ?_
  refine zW_iload_n dX7_generatingWord_8 rfl ?_
  refine zW_iadd dX7_generatingWord_9 ?_
  refine zrP dX7_generatingWord_10 (by assumption) (by decide) (by decide) (by first | assumption | omega | (unfold InR; omega) | (unfold InL; omega) | (simp only [InR] at *; omega)) (by first | assumption | omega | (unfold InR; omega) | (unfold InL; omega) | (simp only [InR] at *; omega)) (by first | assumption | omega | (unfold InR; omega) | (unfold InL; omega) | (simp only [InR] at *; omega)) e8 ?_
  refine zW_areturn dX7_generatingWord_11 rfl (Or.inl ⟨_, rfl⟩) (by first | decide | (show _ ≤ (0 : Nat); omega)) (by first | decide | (show _ ≤ (0 : Nat); omega)) ?_
  exact hQ
set_option maxRecDepth 100000 in
theorem st_letters {s : Nat} {t : ST} (h : SD σ s t) (hQ : Q (.inl (some (vI (((List.range 8).map (fun r => (sRg t r).length)).sum : Nat)))) σ) : zM Γ mX7_lettersInRegisters [vR (some s)] σ Q := by
  obtain ⟨h0, h1, h2, h3, h4, h5, h6, h7, h8, h9⟩ := id h.1
  refine zM_of (n := 2) (by decide +kernel) rfl rfl rfl ?_
  have loop : ∀ n i, i + n = 8 → zW Γ mX7_lettersInRegisters 4 [some (vR (some s)), some (vI (((List.range i).map (fun r => (sRg t r).length)).sum : Nat)), some (vI i)] [] σ 0 0 Q := by
    intro n
    induction n with
    | zero =>
      intro i hi
      refine zW_iload_n dX7_lettersInRegisters_4 rfl ?_
      refine zW_bipush dX7_lettersInRegisters_5 (by decide) ?_
      refine zW_icmp_ge (tgt := 28) dX7_lettersInRegisters_7 (by decide) (by first | assumption | omega | (unfold InR; omega) | (unfold InL; omega) | (simp only [InR] at *; omega)) (by first | assumption | omega | (unfold InR; omega) | (unfold InL; omega) | (simp only [InR] at *; omega)) (fun g => ?_) (fun g => ?_)
      · refine zW_iload_n dX7_lettersInRegisters_28 rfl ?_
        refine zW_ireturn dX7_lettersInRegisters_29 rfl rfl (by first | decide | (show _ ≤ (0 : Nat); omega)) (by first | decide | (show _ ≤ (0 : Nat); omega)) ?_
        have : i = 8 := by omega
        rw [this]
        exact hQ
      · exact absurd g (by omega)
    | succ n ih =>
      intro i hi
      refine zW_iload_n dX7_lettersInRegisters_4 rfl ?_
      refine zW_bipush dX7_lettersInRegisters_5 (by decide) ?_
      refine zW_icmp_ge (tgt := 28) dX7_lettersInRegisters_7 (by decide) (by first | assumption | omega | (unfold InR; omega) | (unfold InL; omega) | (simp only [InR] at *; omega)) (by first | assumption | omega | (unfold InR; omega) | (unfold InL; omega) | (simp only [InR] at *; omega)) (fun g => ?_) (fun g => ?_)
      · exact absurd g (by omega)
      · have hw := h.rg (r := i) (by omega)
        refine zW_iload_n dX7_lettersInRegisters_10 rfl ?_
        refine zW_aload_n dX7_lettersInRegisters_11 rfl ?_
        refine zgP dX7_lettersInRegisters_12 fX7_11 h0 rfl h1 ?_
        refine zW_iload_n dX7_lettersInRegisters_15 rfl ?_
        refine zrP dX7_lettersInRegisters_16 (by assumption) (by decide) (by decide) (by first | assumption | omega | (unfold InR; omega) | (unfold InL; omega) | (simp only [InR] at *; omega)) (by first | assumption | omega | (unfold InR; omega) | (unfold InL; omega) | (simp only [InR] at *; omega)) (by first | assumption | omega | (unfold InR; omega) | (unfold InL; omega) | (simp only [InR] at *; omega)) (h7 i (by omega)) ?_
        refine zgI dX7_lettersInRegisters_17 fX7_42 hw.1.1 rfl hw.2.1 ?_
        refine zW_iadd dX7_lettersInRegisters_20 ?_
        refine zW_istore_n dX7_lettersInRegisters_21 (by decide) rfl rfl ?_
        refine zW_iinc dX7_lettersInRegisters_22 rfl (by decide) rfl rfl ?_
        refine zW_goto (tgt := 4) dX7_lettersInRegisters_25 (by decide) ?_
        have := ih (i + 1) (by omega)
        rw [List.range_succ, List.map_append, List.sum_append] at this
        simpa using this
  refine zW_iconst dX7_lettersInRegisters_0 ?_
  refine zW_istore_n dX7_lettersInRegisters_1 (by decide) rfl rfl ?_
  refine zW_iconst dX7_lettersInRegisters_2 ?_
  refine zW_istore_n dX7_lettersInRegisters_3 (by decide) rfl rfl ?_
  exact loop 8 0 rfl
set_option maxRecDepth 100000 in
theorem st_copyFrom {s t : Nat} {x : ST} (h : SK σ s) (h' : SD σ t x) (hd : s + 44 ≤ t ∨ t + 44 ≤ s) (hQ : ∀ σ', SD σ' s x → Md σ σ' (sp s) → Q (.inl none) σ') : zM Γ mX7_copyFrom [vR (some s), vR (some t)] σ Q := by
  obtain ⟨h0, h1, h2, h3, h4, h5, h6, h7, h8, h9⟩ := id h
  obtain ⟨k0, k1, k2, k3, k4, k5, k6, k7, k8, k9⟩ := id h'.1
  refine zM_of (n := 2) (by decide +kernel) rfl rfl rfl ?_
  have keep : ∀ {σ1}, Md σ σ1 (sp s) → SD σ1 t x := fun m => h'.md m (fun a q q' => by unfold sp at q q'; omega)
  have loop2 : ∀ n g σ1, g + n = 2 → Md σ σ1 (sp s) → zO σ1 s 3 = (sRk x : Int) → (∀ r, r < 8 → SW σ1 s r (sRg x r)) → (∀ f, f < g → zI σ1 (s + 3) f = ((sGw x f).length : Int) ∧ (sGw x f).length ≤ 6 ∧ ∀ k, k < (sGw x f).length → SW σ1 s (8 + 6 * f + k) ((sGw x f).getD k [])) → ∀ z, zW Γ mX7_copyFrom 39 [some (vR (some s)), some (vR (some t)), some (vI g), z] [] σ1 0 0 Q := by
    intro n
    induction n with
    | zero =>
      intro g σ1 hg m1 hr hre hgw z
      refine zW_iload_n dX7_copyFrom_39 rfl ?_
      refine zW_iconst dX7_copyFrom_40 ?_
      refine zW_icmp_ge (tgt := 95) dX7_copyFrom_41 (by decide) (by first | assumption | omega | (unfold InR; omega) | (unfold InL; omega) | (simp only [InR] at *; omega)) (by first | assumption | omega | (unfold InR; omega) | (unfold InL; omega) | (simp only [InR] at *; omega)) (fun q => ?_) (fun q => ?_)
      · refine zW_return dX7_copyFrom_95 rfl (by first | decide | (show _ ≤ (0 : Nat); omega)) (by first | decide | (show _ ≤ (0 : Nat); omega)) ?_
        exact hQ _ ⟨h.md m1, hr, hre, fun f hf => hgw f (by omega)⟩ m1
      · exact absurd q (by omega)
    | succ n ih =>
      intro g σ1 hg m1 hr hre hgw z
      have H1 := h.md m1
      obtain ⟨h0, h1, h2, h3, h4, h5, h6, h7, h8, h9⟩ := id H1
      have hx := keep m1
      obtain ⟨k0, k1, k2, k3, k4, k5, k6, k7, k8, k9⟩ := id hx.1
      have hlen := hx.gn (g := g) (by omega)
      have loop3 : ∀ n k σ2, k + n = (sGw x g).length → Md σ σ2 (sp s) → zO σ2 s 3 = (sRk x : Int) → (∀ r, r < 8 → SW σ2 s r (sRg x r)) → (∀ f, f < g → zI σ2 (s + 3) f = ((sGw x f).length : Int) ∧ (sGw x f).length ≤ 6 ∧ ∀ k, k < (sGw x f).length → SW σ2 s (8 + 6 * f + k) ((sGw x f).getD k [])) → zI σ2 (s + 3) g = ((sGw x g).length : Int) → (∀ j, j < k → SW σ2 s (8 + 6 * g + j) ((sGw x g).getD j [])) → zW Γ mX7_copyFrom 58 [some (vR (some s)), some (vR (some t)), some (vI g), some (vI k)] [] σ2 0 0 Q := by
        intro n'
        induction n' with
        | zero =>
          intro k σ2 hk m2 hr2 hre2 hgw2 hl2 hall2
          have H2 := h.md m2
          obtain ⟨h0, h1, h2, h3, h4, h5, h6, h7, h8, h9⟩ := id H2
          refine zW_iload_n dX7_copyFrom_58 rfl ?_
          refine zW_aload_n dX7_copyFrom_59 rfl ?_
          refine zgP dX7_copyFrom_60 fX7_20 h0 rfl h3 ?_
          refine zW_iload_n dX7_copyFrom_63 rfl ?_
          refine zrI dX7_copyFrom_64 h6 (by first | assumption | omega | (unfold InR; omega) | (unfold InL; omega) | (simp only [InR] at *; omega)) (by first | assumption | omega | (unfold InR; omega) | (unfold InL; omega) | (simp only [InR] at *; omega)) (by first | assumption | omega | (unfold InR; omega) | (unfold InL; omega) | (simp only [InR] at *; omega)) hl2 ?_
          refine zW_icmp_ge (tgt := 89) dX7_copyFrom_65 (by decide) (by first | assumption | omega | (unfold InR; omega) | (unfold InL; omega) | (simp only [InR] at *; omega)) (by first | assumption | omega | (unfold InR; omega) | (unfold InL; omega) | (simp only [InR] at *; omega)) (fun q => ?_) (fun q => ?_)
          · refine zW_iinc dX7_copyFrom_89 rfl (by decide) rfl rfl ?_
            refine zW_goto (tgt := 39) dX7_copyFrom_92 (by decide) ?_
            refine ih (g + 1) σ2 (by omega) m2 hr2 hre2 (fun f hf => ?_) _
            by_cases e : f = g
            · subst e
              exact ⟨hl2, hlen, fun j hj => hall2 j (by omega)⟩
            · exact hgw2 f (by omega)
          · exact absurd q (by omega)
        | succ n' ih' =>
          intro k σ2 hk m2 hr2 hre2 hgw2 hl2 hall2
          have H2 := h.md m2
          obtain ⟨h0, h1, h2, h3, h4, h5, h6, h7, h8, h9⟩ := id H2
          have hx2 := keep m2
          have hv := hx2.gw (g := g) (k := k) (by omega) (by omega)
          have hw := h9 (8 + 6 * g + k) (by omega)
          have hl60 := hv.cap
          refine zW_iload_n dX7_copyFrom_58 rfl ?_
          refine zW_aload_n dX7_copyFrom_59 rfl ?_
          refine zgP dX7_copyFrom_60 fX7_20 h0 rfl h3 ?_
          refine zW_iload_n dX7_copyFrom_63 rfl ?_
          refine zrI dX7_copyFrom_64 h6 (by first | assumption | omega | (unfold InR; omega) | (unfold InL; omega) | (simp only [InR] at *; omega)) (by first | assumption | omega | (unfold InR; omega) | (unfold InL; omega) | (simp only [InR] at *; omega)) (by first | assumption | omega | (unfold InR; omega) | (unfold InL; omega) | (simp only [InR] at *; omega)) hl2 ?_
          refine zW_icmp_ge (tgt := 89) dX7_copyFrom_65 (by decide) (by first | assumption | omega | (unfold InR; omega) | (unfold InL; omega) | (simp only [InR] at *; omega)) (by first | assumption | omega | (unfold InR; omega) | (unfold InL; omega) | (simp only [InR] at *; omega)) (fun q => ?_) (fun q => ?_)
          · exact absurd q (by omega)
          · refine zW_aload_n dX7_copyFrom_68 rfl ?_
            refine zW_iload_n dX7_copyFrom_69 rfl ?_
            refine zW_iload_n dX7_copyFrom_70 rfl ?_
            refine zcV2 dX7_copyFrom_71 rfl eX7_generatingWord b512 ⟨by decide, by decide, by decide, by decide⟩ rfl h0 rfl (by decide) (Nat.le_of_ble_eq_true rfl) (st_gw H2 (by omega) (by omega) ?_)
            refine zW_aload_n dX7_copyFrom_74 rfl ?_
            refine zW_iload_n dX7_copyFrom_75 rfl ?_
            refine zW_iload_n dX7_copyFrom_76 rfl ?_
            refine zcV2 dX7_copyFrom_77 rfl eX7_generatingWord b512 ⟨by decide, by decide, by decide, by decide⟩ rfl hx2.1.1 rfl (by decide) (Nat.le_of_ble_eq_true rfl) (st_gw hx2.1 (by omega) (by omega) ?_)
            refine zcV1 dX7_copyFrom_80 rfl eX8_copyFrom b504 ⟨by decide, by decide, by decide, by decide⟩ rfl hw.1 rfl (by decide) (Nat.le_of_ble_eq_true rfl) (w_copyFrom hw hv (by omega) (by omega) (by omega) (by omega) (by omega) hl60 (fun σ3 hw3 m3 => ?_))
            refine zW_iinc dX7_copyFrom_83 rfl (by decide) rfl rfl ?_
            refine zW_goto (tgt := 58) dX7_copyFrom_86 (by decide) ?_
            refine ih' (k + 1) σ3 (by omega) (m2.tr m3 (fun a q => wp_sp (by omega) q)) ?_ (fun r hr => (hre2 r hr).keep m3 (by omega)) (fun f hf => ⟨?_, (hgw2 f hf).2.1, fun j hj => ((hgw2 f hf).2.2 j hj).keep m3 ?_⟩) ?_ (fun j hj => ?_)
            · rw [m3.o (by unfold wp; omega)]; exact hr2
            · rw [m3.i (by unfold wp; omega)]; exact (hgw2 f hf).1
            · have := (hgw2 f hf).2.1
              omega
            · rw [m3.i (by unfold wp; omega)]; exact hl2
            · by_cases e : j = k
              · subst e; exact hw3
              · exact (hall2 j (by omega)).keep m3 (by omega)
      refine zW_iload_n dX7_copyFrom_39 rfl ?_
      refine zW_iconst dX7_copyFrom_40 ?_
      refine zW_icmp_ge (tgt := 95) dX7_copyFrom_41 (by decide) (by first | assumption | omega | (unfold InR; omega) | (unfold InL; omega) | (simp only [InR] at *; omega)) (by first | assumption | omega | (unfold InR; omega) | (unfold InL; omega) | (simp only [InR] at *; omega)) (fun q => ?_) (fun q => ?_)
      · exact absurd q (by omega)
      · refine zW_aload_n dX7_copyFrom_44 rfl ?_
        refine zgP dX7_copyFrom_45 fX7_20 h0 rfl h3 ?_
        refine zW_iload_n dX7_copyFrom_48 rfl ?_
        refine zW_aload_n dX7_copyFrom_49 rfl ?_
        refine zgP dX7_copyFrom_50 fX7_20 k0 rfl k3 ?_
        refine zW_iload_n dX7_copyFrom_53 rfl ?_
        refine zrI dX7_copyFrom_54 k6 (by first | assumption | omega | (unfold InR; omega) | (unfold InL; omega) | (simp only [InR] at *; omega)) (by first | assumption | omega | (unfold InR; omega) | (unfold InL; omega) | (simp only [InR] at *; omega)) (by first | assumption | omega | (unfold InR; omega) | (unfold InL; omega) | (simp only [InR] at *; omega)) ((hx.2.2.2 g (by omega)).1) ?_
        refine zW_iast dX7_copyFrom_55 h6 (by first | assumption | omega | (unfold InR; omega) | (unfold InL; omega) | (simp only [InR] at *; omega)) (by first | assumption | omega | (unfold InR; omega) | (unfold InL; omega) | (simp only [InR] at *; omega)) (by first | assumption | omega | (unfold InR; omega) | (unfold InL; omega) | (simp only [InR] at *; omega)) ?_
        refine zW_iconst dX7_copyFrom_56 ?_
        refine zW_istore_n dX7_copyFrom_57 (by decide) rfl rfl ?_
        have mw : Md σ1 (sI σ1 (s + 3) ((g : Int)).toNat ((sGw x g).length : Int)) (fun a => a = s + 3) := Md.I rfl
        refine loop3 (sGw x g).length 0 _ (by omega) (m1.tr mw (fun a q => by unfold sp; omega)) hr (fun r hr => (hre r hr).md mw (by omega) (by omega)) (fun f hf => ⟨?_, (hgw f hf).2.1, fun j hj => ((hgw f hf).2.2 j hj).md mw (by omega) (by omega)⟩) ?_ (fun j hj => absurd hj (by omega))
        · rw [zI_sIk _ _ _ _ (show f ≠ ((g : Int)).toNat by omega)]; exact (hgw f hf).1
        · exact zI_sIs _ _ _ _
  have loop1 : ∀ n i σ1, i + n = 8 → Md σ σ1 (sp s) → zO σ1 s 3 = (sRk x : Int) → (∀ r, r < i → SW σ1 s r (sRg x r)) → ∀ z, zW Γ mX7_copyFrom 10 [some (vR (some s)), some (vR (some t)), some (vI i), z] [] σ1 0 0 Q := by
    intro n
    induction n with
    | zero =>
      intro i σ1 hi m1 hr hre z
      refine zW_iload_n dX7_copyFrom_10 rfl ?_
      refine zW_bipush dX7_copyFrom_11 (by decide) ?_
      refine zW_icmp_ge (tgt := 37) dX7_copyFrom_13 (by decide) (by first | assumption | omega | (unfold InR; omega) | (unfold InL; omega) | (simp only [InR] at *; omega)) (by first | assumption | omega | (unfold InR; omega) | (unfold InL; omega) | (simp only [InR] at *; omega)) (fun q => ?_) (fun q => ?_)
      · refine zW_iconst dX7_copyFrom_37 ?_
        refine zW_istore_n dX7_copyFrom_38 (by decide) rfl rfl ?_
        exact loop2 2 0 σ1 rfl m1 hr (fun r hr => hre r (by omega)) (fun f hf => absurd hf (by omega)) _
      · exact absurd q (by omega)
    | succ n ih =>
      intro i σ1 hi m1 hr hre z
      have H1 := h.md m1
      obtain ⟨h0, h1, h2, h3, h4, h5, h6, h7, h8, h9⟩ := id H1
      have hx := keep m1
      obtain ⟨k0, k1, k2, k3, k4, k5, k6, k7, k8, k9⟩ := id hx.1
      have hv := hx.rg (r := i) (by omega)
      have hw := h9 i (by omega)
      have hl60 := hv.cap
      refine zW_iload_n dX7_copyFrom_10 rfl ?_
      refine zW_bipush dX7_copyFrom_11 (by decide) ?_
      refine zW_icmp_ge (tgt := 37) dX7_copyFrom_13 (by decide) (by first | assumption | omega | (unfold InR; omega) | (unfold InL; omega) | (simp only [InR] at *; omega)) (by first | assumption | omega | (unfold InR; omega) | (unfold InL; omega) | (simp only [InR] at *; omega)) (fun q => ?_) (fun q => ?_)
      · exact absurd q (by omega)
      · refine zW_aload_n dX7_copyFrom_16 rfl ?_
        refine zgP dX7_copyFrom_17 fX7_11 h0 rfl h1 ?_
        refine zW_iload_n dX7_copyFrom_20 rfl ?_
        refine zrP dX7_copyFrom_21 h4 (by decide) (by decide) (by first | assumption | omega | (unfold InR; omega) | (unfold InL; omega) | (simp only [InR] at *; omega)) (by first | assumption | omega | (unfold InR; omega) | (unfold InL; omega) | (simp only [InR] at *; omega)) (by first | assumption | omega | (unfold InR; omega) | (unfold InL; omega) | (simp only [InR] at *; omega)) (h7 i (by omega)) ?_
        refine zW_aload_n dX7_copyFrom_22 rfl ?_
        refine zgP dX7_copyFrom_23 fX7_11 k0 rfl k1 ?_
        refine zW_iload_n dX7_copyFrom_26 rfl ?_
        refine zrP dX7_copyFrom_27 k4 (by decide) (by decide) (by first | assumption | omega | (unfold InR; omega) | (unfold InL; omega) | (simp only [InR] at *; omega)) (by first | assumption | omega | (unfold InR; omega) | (unfold InL; omega) | (simp only [InR] at *; omega)) (by first | assumption | omega | (unfold InR; omega) | (unfold InL; omega) | (simp only [InR] at *; omega)) (k7 i (by omega)) ?_
        refine zcV1 dX7_copyFrom_28 rfl eX8_copyFrom b504 ⟨by decide, by decide, by decide, by decide⟩ rfl hw.1 rfl (by decide) (Nat.le_of_ble_eq_true rfl) (w_copyFrom hw hv (by omega) (by omega) (by omega) (by omega) (by omega) hl60 (fun σ3 hw3 m3 => ?_))
        refine zW_iinc dX7_copyFrom_31 rfl (by decide) rfl rfl ?_
        refine zW_goto (tgt := 10) dX7_copyFrom_34 (by decide) ?_
        refine ih (i + 1) σ3 (by omega) (m1.tr m3 (fun a q => wp_sp (by omega) q)) ?_ (fun r hr => ?_) _
        · rw [m3.o (by unfold wp; omega)]; exact hr
        · by_cases e : r = i
          · subst e; exact hw3
          · exact (hre r (by omega)).keep m3 e
  refine zW_aload_n dX7_copyFrom_0 rfl ?_
  refine zW_aload_n dX7_copyFrom_1 rfl ?_
  refine zgI dX7_copyFrom_2 fX7_24 k0 rfl h'.2.1 ?_
  refine zpI dX7_copyFrom_5 fX7_24 h0 rfl (Or.inl rfl) (zst_int _) ?_
  refine zW_iconst dX7_copyFrom_8 ?_
  refine zW_istore_n dX7_copyFrom_9 (by decide) rfl rfl ?_
  exact loop1 8 0 _ rfl (Md.O (by unfold sp; omega)) (zO_sOs _ _ _ _) (fun r hr => absurd hr (by omega)) _
set_option maxRecDepth 100000 in
theorem st_reset {s r : Nat} (h : SK σ s) (hQ : ∀ σ', SD σ' s (r, fun _ => [], fun _ => []) → Md σ σ' (sp s) → Q (.inl none) σ') : zM Γ mX7_reset [vR (some s), vI r] σ Q := by
  obtain ⟨h0, h1, h2, h3, h4, h5, h6, h7, h8, h9⟩ := id h
  refine zM_of (n := 1) (by decide +kernel) rfl rfl rfl ?_
  have loop2 : ∀ n g σ1, g + n = 2 → Md σ σ1 (sp s) → zO σ1 s 3 = (r : Int) → (∀ r, r < 8 → SW σ1 s r []) → (∀ f, f < g → zI σ1 (s + 3) f = 0) → zW Γ mX7_reset 30 [some (vR (some s)), some (vI r), some (vI g)] [] σ1 0 0 Q := by
    intro n
    induction n with
    | zero =>
      intro g σ1 hg m1 hr hre hgw
      refine zW_iload_n dX7_reset_30 rfl ?_
      refine zW_iconst dX7_reset_31 ?_
      refine zW_icmp_ge (tgt := 48) dX7_reset_32 (by decide) (by first | assumption | omega | (unfold InR; omega) | (unfold InL; omega) | (simp only [InR] at *; omega)) (by first | assumption | omega | (unfold InR; omega) | (unfold InL; omega) | (simp only [InR] at *; omega)) (fun q => ?_) (fun q => ?_)
      · refine zW_return dX7_reset_48 rfl (by first | decide | (show _ ≤ (0 : Nat); omega)) (by first | decide | (show _ ≤ (0 : Nat); omega)) ?_
        exact hQ _ ⟨h.md m1, hr, hre, fun f hf => ⟨hgw f (by omega), Nat.zero_le _, fun k hk => absurd hk (Nat.not_lt_zero k)⟩⟩ m1
      · exact absurd q (by omega)
    | succ n ih =>
      intro g σ1 hg m1 hr hre hgw
      obtain ⟨h0, h1, h2, h3, h4, h5, h6, h7, h8, h9⟩ := id (h.md m1)
      refine zW_iload_n dX7_reset_30 rfl ?_
      refine zW_iconst dX7_reset_31 ?_
      refine zW_icmp_ge (tgt := 48) dX7_reset_32 (by decide) (by first | assumption | omega | (unfold InR; omega) | (unfold InL; omega) | (simp only [InR] at *; omega)) (by first | assumption | omega | (unfold InR; omega) | (unfold InL; omega) | (simp only [InR] at *; omega)) (fun q => ?_) (fun q => ?_)
      · exact absurd q (by omega)
      · refine zW_aload_n dX7_reset_35 rfl ?_
        refine zgP dX7_reset_36 fX7_20 h0 rfl h3 ?_
        refine zW_iload_n dX7_reset_39 rfl ?_
        refine zW_iconst dX7_reset_40 ?_
        refine zW_iast dX7_reset_41 h6 (by first | assumption | omega | (unfold InR; omega) | (unfold InL; omega) | (simp only [InR] at *; omega)) (by first | assumption | omega | (unfold InR; omega) | (unfold InL; omega) | (simp only [InR] at *; omega)) (by first | assumption | omega | (unfold InR; omega) | (unfold InL; omega) | (simp only [InR] at *; omega)) ?_
        refine zW_iinc dX7_reset_42 rfl (by decide) rfl rfl ?_
        refine zW_goto (tgt := 30) dX7_reset_45 (by decide) ?_
        have mw : Md σ1 (sI σ1 (s + 3) ((g : Int)).toNat 0) (fun a => a = s + 3) := Md.I rfl
        refine ih (g + 1) _ (by omega) (m1.tr mw (fun a q => by unfold sp; omega)) hr (fun r hr => (hre r hr).md mw (by omega) (by omega)) (fun f hf => ?_)
        by_cases e : f = g
        · subst e; exact zI_sIs _ _ _ _
        · rw [zI_sIk _ _ _ _ (show f ≠ ((g : Int)).toNat by omega)]; exact hgw f (by omega)
  have loop1 : ∀ n i σ1, i + n = 8 → Md σ σ1 (sp s) → zO σ1 s 3 = (r : Int) → (∀ r, r < i → SW σ1 s r []) → zW Γ mX7_reset 7 [some (vR (some s)), some (vI r), some (vI i)] [] σ1 0 0 Q := by
    intro n
    induction n with
    | zero =>
      intro i σ1 hi m1 hr hre
      refine zW_iload_n dX7_reset_7 rfl ?_
      refine zW_bipush dX7_reset_8 (by decide) ?_
      refine zW_icmp_ge (tgt := 28) dX7_reset_10 (by decide) (by first | assumption | omega | (unfold InR; omega) | (unfold InL; omega) | (simp only [InR] at *; omega)) (by first | assumption | omega | (unfold InR; omega) | (unfold InL; omega) | (simp only [InR] at *; omega)) (fun q => ?_) (fun q => ?_)
      · refine zW_iconst dX7_reset_28 ?_
        refine zW_istore_n dX7_reset_29 (by decide) rfl rfl ?_
        exact loop2 2 0 σ1 rfl m1 hr (fun r hr => hre r (by omega)) (fun f hf => absurd hf (by omega))
      · exact absurd q (by omega)
    | succ n ih =>
      intro i σ1 hi m1 hr hre
      obtain ⟨h0, h1, h2, h3, h4, h5, h6, h7, h8, h9⟩ := id (h.md m1)
      have hw := h9 i (by omega)
      refine zW_iload_n dX7_reset_7 rfl ?_
      refine zW_bipush dX7_reset_8 (by decide) ?_
      refine zW_icmp_ge (tgt := 28) dX7_reset_10 (by decide) (by first | assumption | omega | (unfold InR; omega) | (unfold InL; omega) | (simp only [InR] at *; omega)) (by first | assumption | omega | (unfold InR; omega) | (unfold InL; omega) | (simp only [InR] at *; omega)) (fun q => ?_) (fun q => ?_)
      · exact absurd q (by omega)
      · refine zW_aload_n dX7_reset_13 rfl ?_
        refine zgP dX7_reset_14 fX7_11 h0 rfl h1 ?_
        refine zW_iload_n dX7_reset_17 rfl ?_
        refine zrP dX7_reset_18 h4 (by decide) (by decide) (by first | assumption | omega | (unfold InR; omega) | (unfold InL; omega) | (simp only [InR] at *; omega)) (by first | assumption | omega | (unfold InR; omega) | (unfold InL; omega) | (simp only [InR] at *; omega)) (by first | assumption | omega | (unfold InR; omega) | (unfold InL; omega) | (simp only [InR] at *; omega)) (h7 i (by omega)) ?_
        refine zcV0 dX7_reset_19 rfl eX8_clear b668 ⟨by decide, by decide, by decide, by decide⟩ rfl hw.1 rfl (by decide) (Nat.le_of_ble_eq_true rfl) (w_clear hw (fun σ3 hw3 m3 => ?_))
        refine zW_iinc dX7_reset_22 rfl (by decide) rfl rfl ?_
        refine zW_goto (tgt := 7) dX7_reset_25 (by decide) ?_
        refine ih (i + 1) σ3 (by omega) (m1.tr m3 (fun a q => wp_sp (by omega) q)) ?_ (fun r hr => ?_)
        · rw [m3.o (by unfold wp; omega)]; exact hr
        · by_cases e : r = i
          · subst e; exact hw3
          · exact (hre r (by omega)).keep m3 e
  refine zW_aload_n dX7_reset_0 rfl ?_
  refine zW_iload_n dX7_reset_1 rfl ?_
  refine zpI dX7_reset_2 fX7_24 h0 rfl (Or.inl rfl) (zst_int _) ?_
  refine zW_iconst dX7_reset_5 ?_
  refine zW_istore_n dX7_reset_6 (by decide) rfl rfl ?_
  exact loop1 8 0 _ rfl (Md.O (by unfold sp; omega)) (zO_sOs _ _ _ _) (fun r hr => absurd hr (by omega))
/-- the generating words of g are ws -/
def sSet (x : ST) (g : Nat) (ws : List (List Nat)) : ST := (sRk x, sRg x, fun f => if f = g then ws else sGw x f)
set_option maxRecDepth 100000 in
theorem st_addWord {s g v b cap : Nat} {x : ST} {l : List Nat} (h : SD σ s x) (hg : g < 2) (hv : Wd σ v b cap l) (hl : l.length ≤ 60) (hn : (sGw x g).length < 6) (hd : ∀ k, 16 ≤ k → k < 40 → v ≠ s + 4 + k ∧ b ≠ s + 4 + k) (hQ : ∀ σ', SD σ' s (sSet x g (sGw x g ++ [l])) → Md σ σ' (sp s) → Q (.inl none) σ') : zM Γ mX7_addWord [vR (some s), vI g, vR (some v)] σ Q := by
  obtain ⟨h0, h1, h2, h3, h4, h5, h6, h7, h8, h9⟩ := id h.1
  refine zM_of (n := 1) (by decide +kernel) rfl rfl rfl ?_
  have hw := h9 (8 + 6 * g + (sGw x g).length) (by omega)
  have d0 := hd (2 * (8 + 6 * g + (sGw x g).length)) (by omega) (by omega)
  have d1 := hd (2 * (8 + 6 * g + (sGw x g).length) + 1) (by omega) (by omega)
  refine zW_aload_n dX7_addWord_0 rfl ?_
  refine zgP dX7_addWord_1 fX7_20 (by assumption) rfl (by assumption) ?_
  refine zW_iload_n dX7_addWord_4 rfl ?_
  refine zrI dX7_addWord_5 (by assumption) (by first | assumption | omega | (unfold InR; omega) | (unfold InL; omega) | (simp only [InR] at *; omega)) (by first | assumption | omega | (unfold InR; omega) | (unfold InL; omega) | (simp only [InR] at *; omega)) (by first | assumption | omega | (unfold InR; omega) | (unfold InL; omega) | (simp only [InR] at *; omega)) ((h.2.2.2 g hg).1) ?_
  refine zW_istore_n dX7_addWord_6 (by decide) rfl rfl ?_
  refine zW_iload_n dX7_addWord_7 rfl ?_
  refine zW_bipush dX7_addWord_8 (by decide) ?_
  refine zW_icmp_ge (tgt := 32) dX7_addWord_10 (by decide) (by first | assumption | omega | (unfold InR; omega) | (unfold InL; omega) | (simp only [InR] at *; omega)) (by first | assumption | omega | (unfold InR; omega) | (unfold InL; omega) | (simp only [InR] at *; omega)) (fun q => ?_) (fun q => ?_)
  · exact absurd q (by omega)
  · refine zW_aload_n dX7_addWord_13 rfl ?_
    refine zW_iload_n dX7_addWord_14 rfl ?_
    refine zW_iload_n dX7_addWord_15 rfl ?_
    refine zcV2 dX7_addWord_16 rfl eX7_generatingWord b512 ⟨by decide, by decide, by decide, by decide⟩ rfl h0 rfl (by decide) (Nat.le_of_ble_eq_true rfl) (st_gw h.1 (by omega) (by omega) ?_)
    refine zW_aload_n dX7_addWord_19 rfl ?_
    refine zcV1 dX7_addWord_20 rfl eX8_copyFrom b504 ⟨by decide, by decide, by decide, by decide⟩ rfl hw.1 rfl (by decide) (Nat.le_of_ble_eq_true rfl) (w_copyFrom hw hv (by omega) (by omega) (by omega) (by omega) (by omega) hl (fun σ3 hw3 m3 => ?_))
    refine zW_aload_n dX7_addWord_23 rfl ?_
    refine zgP dX7_addWord_24 fX7_20 ((h.1.md m3).1) rfl ((h.1.md m3).2.2.2.1) ?_
    refine zW_iload_n dX7_addWord_27 rfl ?_
    refine zW_iload_n dX7_addWord_28 rfl ?_
    refine zW_iconst dX7_addWord_29 ?_
    refine zW_iadd dX7_addWord_30 ?_
    refine zW_iast dX7_addWord_31 ((h.1.md m3).2.2.2.2.2.2.1) (by first | assumption | omega | (unfold InR; omega) | (unfold InL; omega) | (simp only [InR] at *; omega)) (by first | assumption | omega | (unfold InR; omega) | (unfold InL; omega) | (simp only [InR] at *; omega)) (by first | assumption | omega | (unfold InR; omega) | (unfold InL; omega) | (simp only [InR] at *; omega)) ?_
    refine zW_return dX7_addWord_32 rfl (by first | decide | (show _ ≤ (0 : Nat); omega)) (by first | decide | (show _ ≤ (0 : Nat); omega)) ?_
    have mw : Md σ3 (sI σ3 (s + 3) ((g : Int)).toNat (((sGw x g).length : Int) + 1)) (fun a => a = s + 3) := Md.I rfl
    have ms : Md σ (sI σ3 (s + 3) ((g : Int)).toNat (((sGw x g).length : Int) + 1)) (sp s) := (m3.wk (fun a q => wp_sp (by omega) q)).tr mw (fun a q => by unfold sp; omega)
    refine hQ _ ⟨h.1.md ms, ?_, fun r hr => ((h.rg hr).keep m3 (by omega)).md mw (by omega) (by omega), fun f hf => ?_⟩ ms
    · show zO σ3 s 3 = _
      rw [m3.o (by unfold wp; omega)]; exact h.2.1
    · show _ ∧ (if f = g then _ else _ : List (List Nat)).length ≤ 6 ∧ _
      by_cases e : f = g
      · subst e
        have e7 : sGw (sSet x f (sGw x f ++ [l])) f = sGw x f ++ [l] := by show (if f = f then _ else _) = _; rw [if_pos rfl]
        rw [e7, if_pos rfl]
        refine ⟨?_, by simp; omega, fun k hk => ?_⟩
        · refine (zI_sIs _ _ _ _).trans ?_
          simp
        · by_cases ek : k = (sGw x f).length
          · subst ek
            have e6 : (sGw x f ++ [l]).getD (sGw x f).length [] = l := by simp
            rw [e6]
            exact SW.md mw hw3 (by omega) (by omega)
          · have hk' : k < (sGw x f).length := by simp at hk; omega
            have e6 : (sGw x f ++ [l]).getD k [] = (sGw x f).getD k [] := by
              rw [List.getD_eq_getElem?_getD, List.getD_eq_getElem?_getD, List.getElem?_append_left hk']
            rw [e6]
            exact ((h.gw hg hk').keep m3 (by omega)).md mw (by omega) (by omega)
      · have e7 : sGw (sSet x g (sGw x g ++ [l])) f = sGw x f := by show (if f = g then _ else _) = _; rw [if_neg e]
        have hh := h.2.2.2 f hf
        rw [e7, if_neg e]
        refine ⟨?_, hh.2.1, fun k hk => ((hh.2.2 k hk).keep m3 (by omega)).md mw (by omega) (by omega)⟩
        rw [zI_sIk _ _ _ _ (show f ≠ ((g : Int)).toNat by omega), m3.i (by unfold wp; omega)]
        exact hh.1
set_option maxRecDepth 100000 in
theorem getD_erase {α : Type} (l : List α) (d : α) (i k : Nat) : (l.eraseIdx i).getD k d = if k < i then l.getD k d else l.getD (k + 1) d := by
  rw [List.getD_eq_getElem?_getD, List.getElem?_eraseIdx]
  split <;> rw [List.getD_eq_getElem?_getD]
set_option maxRecDepth 100000 in
theorem st_removeWord {s g k : Nat} {x : ST} (h : SD σ s x) (hg : g < 2) (hk : k < (sGw x g).length) (hQ : ∀ σ', SD σ' s (sSet x g ((sGw x g).eraseIdx k)) → Md σ σ' (sp s) → Q (.inl none) σ') : zM Γ mX7_removeWord [vR (some s), vI g, vI k] σ Q := by
  obtain ⟨h0, h1, h2, h3, h4, h5, h6, h7, h8, h9⟩ := id h.1
  have hn := h.gn hg
  refine zM_of (n := 2) (by decide +kernel) rfl rfl rfl ?_
  have loop : ∀ n i σ1, i + n + 1 = (sGw x g).length → k ≤ i → Md σ σ1 (sp s) → zO σ1 s 3 = (sRk x : Int) → (∀ r, r < 8 → SW σ1 s r (sRg x r)) → (∀ f, f < 2 → zI σ1 (s + 3) f = ((sGw x f).length : Int)) → (∀ f, f < 2 → f ≠ g → ∀ j, j < (sGw x f).length → SW σ1 s (8 + 6 * f + j) ((sGw x f).getD j [])) → (∀ j, j < i → SW σ1 s (8 + 6 * g + j) (((sGw x g).eraseIdx k).getD j [])) → (∀ j, i < j → j < (sGw x g).length → SW σ1 s (8 + 6 * g + j) ((sGw x g).getD j [])) → zW Γ mX7_removeWord 12 [some (vR (some s)), some (vI g), some (vI k), some (vI (((sGw x g).length : Int) - 1)), some (vI i)] [] σ1 0 0 Q := by
    intro n
    induction n with
    | zero =>
      intro i σ1 hi hki m1 hr hre hcn hot hlo hhi
      obtain ⟨h0, h1, h2, h3, h4, h5, h6, h7, h8, h9⟩ := id (h.1.md m1)
      refine zW_iload dX7_removeWord_12 rfl ?_
      refine zW_iload_n dX7_removeWord_14 rfl ?_
      refine zW_icmp_ge (tgt := 43) dX7_removeWord_15 (by decide) (by first | assumption | omega | (unfold InR; omega) | (unfold InL; omega) | (simp only [InR] at *; omega)) (by first | assumption | omega | (unfold InR; omega) | (unfold InL; omega) | (simp only [InR] at *; omega)) (fun q => ?_) (fun q => ?_)
      · refine zW_aload_n dX7_removeWord_43 rfl ?_
        refine zgP dX7_removeWord_44 fX7_20 h0 rfl h3 ?_
        refine zW_iload_n dX7_removeWord_47 rfl ?_
        refine zW_iload_n dX7_removeWord_48 rfl ?_
        refine zW_iast dX7_removeWord_49 h6 (by first | assumption | omega | (unfold InR; omega) | (unfold InL; omega) | (simp only [InR] at *; omega)) (by first | assumption | omega | (unfold InR; omega) | (unfold InL; omega) | (simp only [InR] at *; omega)) (by first | assumption | omega | (unfold InR; omega) | (unfold InL; omega) | (simp only [InR] at *; omega)) ?_
        refine zW_return dX7_removeWord_50 rfl (by first | decide | (show _ ≤ (0 : Nat); omega)) (by first | decide | (show _ ≤ (0 : Nat); omega)) ?_
        have mw : Md σ1 (sI σ1 (s + 3) ((g : Int)).toNat (((sGw x g).length : Int) - 1)) (fun a => a = s + 3) := Md.I rfl
        have ms : Md σ (sI σ1 (s + 3) ((g : Int)).toNat (((sGw x g).length : Int) - 1)) (sp s) := m1.tr mw (fun a q => by unfold sp; omega)
        refine hQ _ ⟨h.1.md ms, hr, fun r hr => (hre r hr).md mw (by omega) (by omega), fun f hf => ?_⟩ ms
        by_cases e : f = g
        · subst e
          have e7 : sGw (sSet x f ((sGw x f).eraseIdx k)) f = (sGw x f).eraseIdx k := by show (if f = f then _ else _) = _; rw [if_pos rfl]
          have e6 : ((sGw x f).eraseIdx k).length = (sGw x f).length - 1 := by rw [List.length_eraseIdx, if_pos hk]
          rw [e7, e6]
          refine ⟨(zI_sIs _ _ _ _).trans (by omega), by omega, fun j hj => (hlo j (by omega)).md mw (by omega) (by omega)⟩
        · have e7 : sGw (sSet x g ((sGw x g).eraseIdx k)) f = sGw x f := by show (if f = g then _ else _) = _; rw [if_neg e]
          rw [e7]
          have := h.gn hf
          refine ⟨?_, h.gn hf, fun j hj => (hot f hf e j hj).md mw (by omega) (by omega)⟩
          rw [zI_sIk _ _ _ _ (show f ≠ ((g : Int)).toNat by omega)]
          exact hcn f hf
      · exact absurd q (by omega)
    | succ n ih =>
      intro i σ1 hi hki m1 hr hre hcn hot hlo hhi
      have H1 := h.1.md m1
      obtain ⟨h0, h1, h2, h3, h4, h5, h6, h7, h8, h9⟩ := id H1
      have hw := h9 (8 + 6 * g + i) (by omega)
      have hv := hhi (i + 1) (by omega) (by omega)
      have hl60 := hv.cap
      refine zW_iload dX7_removeWord_12 rfl ?_
      refine zW_iload_n dX7_removeWord_14 rfl ?_
      refine zW_icmp_ge (tgt := 43) dX7_removeWord_15 (by decide) (by first | assumption | omega | (unfold InR; omega) | (unfold InL; omega) | (simp only [InR] at *; omega)) (by first | assumption | omega | (unfold InR; omega) | (unfold InL; omega) | (simp only [InR] at *; omega)) (fun q => ?_) (fun q => ?_)
      · exact absurd q (by omega)
      · refine zW_aload_n dX7_removeWord_18 rfl ?_
        refine zW_iload_n dX7_removeWord_19 rfl ?_
        refine zW_iload dX7_removeWord_20 rfl ?_
        refine zcV2 dX7_removeWord_22 rfl eX7_generatingWord b512 ⟨by decide, by decide, by decide, by decide⟩ rfl h0 rfl (by decide) (Nat.le_of_ble_eq_true rfl) (st_gw H1 (by omega) (by omega) ?_)
        refine zW_aload_n dX7_removeWord_25 rfl ?_
        refine zW_iload_n dX7_removeWord_26 rfl ?_
        refine zW_iload dX7_removeWord_27 rfl ?_
        refine zW_iconst dX7_removeWord_29 ?_
        refine zW_iadd dX7_removeWord_30 ?_
        refine zcV2 dX7_removeWord_31 rfl eX7_generatingWord b512 ⟨by decide, by decide, by decide, by decide⟩ rfl h0 rfl (by decide) (Nat.le_of_ble_eq_true rfl) (st_gw (k := i + 1) H1 (by omega) (by omega) ?_)
        refine zcV1 dX7_removeWord_34 rfl eX8_copyFrom b504 ⟨by decide, by decide, by decide, by decide⟩ rfl hw.1 rfl (by decide) (Nat.le_of_ble_eq_true rfl) (w_copyFrom hw hv (by omega) (by omega) (by omega) (by omega) (by omega) hl60 (fun σ3 hw3 m3 => ?_))
        refine zW_iinc dX7_removeWord_37 rfl (by decide) rfl rfl ?_
        refine zW_goto (tgt := 12) dX7_removeWord_40 (by decide) ?_
        refine ih (i + 1) σ3 (by omega) (by omega) (m1.tr m3 (fun a q => wp_sp (by omega) q)) ?_ (fun r hr => (hre r hr).keep m3 (by omega)) (fun f hf => ?_) (fun f hf e j hj => (hot f hf e j hj).keep m3 ?_) (fun j hj => ?_) (fun j h1 h2 => (hhi j (by omega) h2).keep m3 (by omega))
        · rw [m3.o (by unfold wp; omega)]; exact hr
        · rw [m3.i (by unfold wp; omega)]; exact hcn f hf
        · have := h.gn hf
          omega
        · by_cases e : j = i
          · subst e
            rw [getD_erase, if_neg (by omega)]
            exact hw3
          · exact (hlo j (by omega)).keep m3 (by omega)
  refine zW_aload_n dX7_removeWord_0 rfl ?_
  refine zgP dX7_removeWord_1 fX7_20 (by assumption) rfl (by assumption) ?_
  refine zW_iload_n dX7_removeWord_4 rfl ?_
  refine zrI dX7_removeWord_5 (by assumption) (by first | assumption | omega | (unfold InR; omega) | (unfold InL; omega) | (simp only [InR] at *; omega)) (by first | assumption | omega | (unfold InR; omega) | (unfold InL; omega) | (simp only [InR] at *; omega)) (by first | assumption | omega | (unfold InR; omega) | (unfold InL; omega) | (simp only [InR] at *; omega)) ((h.2.2.2 g hg).1) ?_
  refine zW_iconst dX7_removeWord_6 ?_
  refine zW_isub dX7_removeWord_7 ?_
  refine zW_istore_n dX7_removeWord_8 (by decide) rfl rfl ?_
  refine zW_iload_n dX7_removeWord_9 rfl ?_
  refine zW_istore dX7_removeWord_10 (by decide) rfl rfl ?_
  refine loop ((sGw x g).length - 1 - k) k σ (by omega) (Nat.le_refl _) Md.rf h.2.1 h.2.2.1 (fun f hf => (h.2.2.2 f hf).1) (fun f hf _ j hj => h.gw hf hj) (fun j hj => ?_) (fun j _ hj => h.gw hg hj)
  rw [getD_erase, if_pos hj]
  exact h.gw hg (by omega)
end STATE
