/-! the calculator: texts, bytes, load -/
section CALCF
variable {Γ : GG} {σ σ' : HS} {Q : Res → HS → Prop} {x : Nat} {A : AA} {P : Nat → Prop}
set_option maxRecDepth 100000 in
theorem CI.fm {t : List Nat} (h : CI σ x A) (m : Md σ σ' P) (hp9 : ∀ a, P a → scr x a ∨ fp (x + 509) a) (H : FD σ' (x + 509) t) : CI σ' x (aWfm A t) := by
  have no : ∀ a, (a < x + 503 ∨ x + 511 ≤ a) → ¬ P a := fun a z z' => by have := hp9 a z'; unfold scr fp at this; omega
  refine h.keep ?_ rfl m (fun a z => no a (by unfold bp at z; omega))
  obtain ⟨a1, a2, a3, a4, a5, a6, a7, a8, a9⟩ := h.cj
  refine ⟨a1.md m, a2.md m (no _ (by omega)) (no _ (by omega)), a3.md m (fun a z => no a (by unfold sp at z; omega)), a4.md m (no _ (by omega)) (fun a z => no a (by unfold sp at z; omega)), a5.md m (fun a z => no a (by unfold hp at z; omega)), ?_, a7.md m (no _ (by omega)) (no _ (by omega)), H, fun g hg => ?_⟩
  · rw [m.o (no _ (by omega))]; exact a6
  · rw [m.i (no _ (by omega))]; exact a9 g hg
def o_formatWord (A : AA) (r : Int) : Out := if inR8 r then (0, ((wtx (reg A r)).length : Nat), aWfm A (wtx (reg A r))) else (1, 0, A)
set_option maxRecDepth 100000 in
theorem c_formatWord {r : Int} (h : CI σ x A) (ir : InR r) (hQ : ∀ σ', CI σ' x (o_formatWord A r).2.2 → Mx σ σ' (xr x) → Q (rs e1 (o_formatWord A r)) σ') : zM Γ mX9_formatWord [vR (some x), vI r] σ Q := by
  obtain ⟨z0, z1, z2, z3, z4, z5, z6, z7, z8, z9, z10, z11, z12, k1, k2, k3, k4⟩ := h.xk
  have hF := h.2.2.2.2.2.2.2.1
  refine zM_of (n := 0) (by decide +kernel) rfl rfl rfl ?_
  unfold o_formatWord at hQ
  refine zW_aload_n dX9_formatWord_0 rfl ?_
  refine zgP dX9_formatWord_1 fX9_79 z0 rfl z12 ?_
  refine zW_aload_n dX9_formatWord_4 rfl ?_
  refine zW_iload_n dX9_formatWord_5 rfl ?_
  refine zcV1 dX9_formatWord_6 rfl eX9_wordOf b724 ⟨by decide, by decide, by decide, by decide⟩ rfl z0 rfl (by decide) (Nat.le_of_ble_eq_true rfl) (c_wordOf h ir (fun kr => ?_) (fun kr m => ?_))
  · rw [if_pos kr] at hQ
    have wr := h.rw kr
    have cr := wr.cap
    have tr : r.toNat < 8 := by unfold inR8 at kr; omega
    refine zcV1 dX9_formatWord_9 rfl eX1_writeRuns b1179 ⟨by decide, by decide, by decide, by decide⟩ rfl hF.1.1 rfl (by decide) (Nat.le_of_ble_eq_true rfl) (f_writeRuns hF.1 wr (by omega) cr (fun σ1 h1 m1 => ?_))
    have hC := h.fm m1 (fun a z => Or.inr z) h1
    obtain ⟨z0, z1, z2, z3, z4, z5, z6, z7, z8, z9, z10, z11, z12, k1, k2, k3, k4⟩ := hC.xk
    refine zW_aload_n dX9_formatWord_12 rfl ?_
    refine zgP dX9_formatWord_13 fX9_79 z0 rfl z12 ?_
    refine zgI dX9_formatWord_16 fX9_316 h1.1.1 rfl h1.2.1 ?_
    refine zW_ireturn dX9_formatWord_19 rfl rfl (by first | decide | (show _ ≤ (1 : Nat); omega)) (by first | decide | (show _ ≤ (6 : Nat); omega)) ?_
    exact hQ σ1 hC (m1.mx (fun a z => by unfold fp at z; unfold xr; omega))
  · rw [if_neg kr] at hQ
    exact hQ _ h.sn Mx.sn
/-- the representative of a vertex, as it is worked out -/
def rpw (G : GT) (v : Nat) : List Nat := pws [] (invw (pws [] (wayb G (gde G v) v)))
set_option maxRecDepth 100000 in
theorem wayb_len (G : GT) : ∀ n v, (wayb G n v).length = n := by
  intro n
  induction n with
  | zero => exact fun v => rfl
  | succ n ih => exact fun v => by show (wayb G n (gpa G v)).length + 1 = _; rw [ih]
set_option maxRecDepth 100000 in
theorem rpw_len (G : GT) (v : Nat) : (rpw G v).length ≤ gde G v := by
  have h1 := pws_len (invw (pws [] (wayb G (gde G v) v))) []
  have h2 := pws_len (wayb G (gde G v) v) []
  rw [invw_len] at h1
  rw [wayb_len] at h2
  have e : ([] : List Nat).length = 0 := rfl
  unfold rpw
  omega
set_option maxRecDepth 100000 in
theorem c_makeRepresentative {b v : Nat} {G : GT} (h : XK σ x) (hP : Wk σ (x + 505) (x + 506) 3600) (hB : Wk σ (x + 507) (x + 508) 355) (hG : GD σ b G) (hb : ∀ a, bp b a → ¬ scr x a) (hv : v < gV G) (hQ : ∀ σ', Wd σ' (x + 505) (x + 506) 3600 (rpw G v) → Md σ σ' (scr x) → Q (.inl none) σ') : zM Γ mX9_makeRepresentative [vR (some x), vR (some b), vI v] σ Q := by
  obtain ⟨z0, -, -, -, -, -, -, -, -, -, z10, z11, -⟩ := id h
  have gd := gde_le hG.2.1 v hv
  have v9 := hG.2.1.2.1
  have kx : ∀ {σ1}, Md σ σ1 (scr x) → zK σ1 x = (9, 0) ∧ zP σ1 x 11 = some (x + 505) ∧ zP σ1 x 12 = some (x + 507) := fun m => ⟨by rw [m.K]; exact z0, by rw [m.P]; exact z10, by rw [m.P]; exact z11⟩
  refine zM_of (n := 0) (by decide +kernel) rfl rfl rfl ?_
  refine zW_aload_n dX9_makeRepresentative_0 rfl ?_
  refine zgP dX9_makeRepresentative_1 fX9_73 z0 rfl z11 ?_
  refine zcV0 dX9_makeRepresentative_4 rfl eX8_clear b802 ⟨by decide, by decide, by decide, by decide⟩ rfl hB.1 rfl (by decide) (Nat.le_of_ble_eq_true rfl) (w_clear hB (fun σ1 h1 m1 => ?_))
  have n1 : Md σ σ1 (scr x) := m1.wk (fun a z => by unfold wp at z; unfold scr; omega)
  obtain ⟨y0, y1, y2⟩ := kx n1
  have hG1 := hG.md n1 hb
  have e0 : ([] : List Nat).length = 0 := rfl
  refine zW_aload_n dX9_makeRepresentative_7 rfl ?_
  refine zW_aload_n dX9_makeRepresentative_8 rfl ?_
  refine zgP dX9_makeRepresentative_9 fX9_73 y0 rfl y2 ?_
  refine zW_iload_n dX9_makeRepresentative_12 rfl ?_
  refine zcV2 dX9_makeRepresentative_13 rfl eX2_putWayBack b1216 ⟨by decide, by decide, by decide, by decide⟩ rfl hG1.1.1 rfl (by decide) (Nat.le_of_ble_eq_true rfl) (g_putWayBack hG1 h1 (fun a z => ⟨fun e => hb a z (by unfold scr; omega), fun e => hb a z (by unfold scr; omega)⟩) hv (by omega) (fun σ2 h2 m2 => ?_))
  have n2 : Md σ σ2 (scr x) := n1.tr m2 (fun a z => by unfold wp at z; unfold scr; omega)
  obtain ⟨y0, y1, y2⟩ := kx n2
  have hP2 := hP.md n2
  refine zW_aload_n dX9_makeRepresentative_16 rfl ?_
  refine zgP dX9_makeRepresentative_17 fX9_69 y0 rfl y1 ?_
  refine zcV0 dX9_makeRepresentative_20 rfl eX8_clear b802 ⟨by decide, by decide, by decide, by decide⟩ rfl hP2.1 rfl (by decide) (Nat.le_of_ble_eq_true rfl) (w_clear hP2 (fun σ3 h3 m3 => ?_))
  have n3 : Md σ σ3 (scr x) := n2.tr m3 (fun a z => by unfold wp at z; unfold scr; omega)
  obtain ⟨y0, y1, y2⟩ := kx n3
  have h23 := h2.md m3 (by unfold wp; omega) (by unfold wp; omega)
  have L := h2.cap
  refine zW_aload_n dX9_makeRepresentative_23 rfl ?_
  refine zgP dX9_makeRepresentative_24 fX9_69 y0 rfl y1 ?_
  refine zW_aload_n dX9_makeRepresentative_27 rfl ?_
  refine zgP dX9_makeRepresentative_28 fX9_73 y0 rfl y2 ?_
  refine zcV1 dX9_makeRepresentative_31 rfl eX8_putInverse b803 ⟨by decide, by decide, by decide, by decide⟩ rfl h3.1.1 rfl (by decide) (Nat.le_of_ble_eq_true rfl) (w_putInverse h3 h23 (by omega) (by omega) (by omega) (by omega) (by omega) (fun σ4 h4 m4 => ?_))
  refine zW_return dX9_makeRepresentative_34 rfl (by first | decide | (show _ ≤ (0 : Nat); omega)) (by first | decide | (show _ ≤ (0 : Nat); omega)) ?_
  exact hQ σ4 h4 (n3.tr m4 (fun a z => by unfold wp at z; unfold scr; omega))
set_option maxRecDepth 100000 in
theorem wl60 {g : Nat} (h : CI σ x A) (hg : g < 2) : ∀ w ∈ sGw (aSt A) g, lt8 w ∧ w.length ≤ 60 := by
  intro w hw
  obtain ⟨k, k1, k2⟩ := mem_getD hw
  have := h.st.gw hg k1
  rw [k2] at this
  exact ⟨this.lt, this.cap⟩
set_option maxRecDepth 100000 in
theorem bp_scr {g : Int} (hg : inR2 g) : ∀ a, bp (gad x g) a → ¬ scr x a := fun a z z' => by
  unfold bp at z
  unfold scr at z'
  unfold gad at z
  omega
noncomputable def o_formatRepresentative (A : AA) (g v : Int) : Out := @ite Out (inR2 g) _ (@ite Out (0 ≤ v ∧ v < gV (gr A g)) _ (0, (((rpw (gr A g) v.toNat).map lco).length : Nat), aWfm A ((rpw (gr A g) v.toNat).map lco)) (1, 0, A)) (1, 0, A)
set_option maxRecDepth 100000 in
theorem c_formatRepresentative {g v : Int} (h : CI σ x A) (ig : InR g) (iv : InR v) (hQ : ∀ σ', CI σ' x (o_formatRepresentative A g v).2.2 → Mx σ σ' (xr x) → Q (rs e1 (o_formatRepresentative A g v)) σ') : zM Γ mX9_formatRepresentative [vR (some x), vI g, vI v] σ Q := by
  obtain ⟨z0, z1, z2, z3, z4, z5, z6, z7, z8, z9, z10, z11, z12, k1, k2, k3, k4⟩ := h.xk
  refine zM_of (n := 1) (by decide +kernel) rfl rfl rfl ?_
  unfold o_formatRepresentative at hQ
  refine zW_aload_n dX9_formatRepresentative_0 rfl ?_
  refine zW_iload_n dX9_formatRepresentative_1 rfl ?_
  refine zcV1 dX9_formatRepresentative_2 rfl eX9_graphOf b340 ⟨by decide, by decide, by decide, by decide⟩ rfl z0 rfl (by decide) (Nat.le_of_ble_eq_true rfl) (c_graphOf h ig (fun gk σ1 h1 hG h61 m1 hIs => ?_) (fun gk m => ?_))
  · rw [if_pos gk] at hQ
    have mx1 := m1.mx (P' := xr x) (fun a z => gq_xr gk z)
    obtain ⟨z0, z1, z2, z3, z4, z5, z6, z7, z8, z9, z10, z11, z12, k1, k2, k3, k4⟩ := h1.xk
    have oG := hG.2.1
    have v9 := oG.2.1
    have gV9 := hG.2.2.1
    have hg2 : g.toNat < 2 := by unfold inR2 at gk; omega
    refine zW_astore_n dX9_formatRepresentative_5 (by decide) rfl rfl ?_
    refine zW_iload_n dX9_formatRepresentative_6 rfl ?_
    refine zW_aload_n dX9_formatRepresentative_7 rfl ?_
    refine zgI dX9_formatRepresentative_8 fX9_213 hG.1.1 rfl gV9 ?_
    refine zcS2 dX9_formatRepresentative_11 rfl eX9_checkIndex b344 ⟨by decide, by decide, by decide, by decide⟩ rfl (Nat.le_of_ble_eq_true rfl) (c_checkIndex iv (by unfold InR; omega) (fun y1 y2 => ?_) (fun y m => ?_))
    · rw [if_pos ⟨y1, y2⟩] at hQ
      have ev : v = ((v.toNat : Nat) : Int) := by omega
      have hd := gde_60 hIs (wl60 h hg2) (m := v.toNat) (by omega)
      have hr := rpw_len (gr A g) v.toNat
      have hm : ∀ R, (∀ σ', Wd σ' (x + 505) (x + 506) 3600 (rpw (gr A g) v.toNat) → Md σ1 σ' (scr x) → R (.inl none) σ') → zM Γ mX9_makeRepresentative [vR (some x), vR (some (gad x g)), vI v] σ1 R := fun R hR => by
        have := c_makeRepresentative (Γ := Γ) (Q := R) h1.xk h1.1.2.2.2.2.2.2.1 h1.1.2.2.2.2.2.2.2.1 hG (bp_scr gk) (v := v.toNat) (by omega) hR
        rw [← ev] at this
        exact this
      refine zW_aload_n dX9_formatRepresentative_14 rfl ?_
      refine zW_aload_n dX9_formatRepresentative_15 rfl ?_
      refine zW_iload_n dX9_formatRepresentative_16 rfl ?_
      refine zcV2 dX9_formatRepresentative_17 rfl eX9_makeRepresentative b1212 ⟨by decide, by decide, by decide, by decide⟩ rfl z0 rfl (by decide) (Nat.le_of_ble_eq_true rfl) (hm _ (fun σ2 h2 m2 => ?_))
      have y0 : zK σ2 x = (9, 0) := by rw [m2.K]; exact z0
      have y1 : zP σ2 x 11 = some (x + 505) := by rw [m2.P]; exact z10
      have y2 : zP σ2 x 13 = some (x + 509) := by rw [m2.P]; exact z12
      have hF : FD σ2 (x + 509) (aFm A) := h1.2.2.2.2.2.2.2.1.md m2 (by unfold scr; omega) (by unfold scr; omega)
      refine zW_aload_n dX9_formatRepresentative_20 rfl ?_
      refine zgP dX9_formatRepresentative_21 fX9_79 y0 rfl y2 ?_
      refine zW_aload_n dX9_formatRepresentative_24 rfl ?_
      refine zgP dX9_formatRepresentative_25 fX9_69 y0 rfl y1 ?_
      refine zcV1 dX9_formatRepresentative_28 rfl eX1_writeLetters b1221 ⟨by decide, by decide, by decide, by decide⟩ rfl hF.1.1 rfl (by decide) (Nat.le_of_ble_eq_true rfl) (f_writeLetters hF.1 h2 (by omega) (by omega) (fun σ3 h3 m3 => ?_))
      have m23 : Md σ1 σ3 (fun a => scr x a ∨ fp (x + 509) a) := (m2.wk (fun a z => Or.inl z)).tr m3 (fun a z => Or.inr z)
      have hC := h1.fm m23 (fun a z => z) h3
      obtain ⟨z0, z1, z2, z3, z4, z5, z6, z7, z8, z9, z10, z11, z12, k1, k2, k3, k4⟩ := hC.xk
      refine zW_aload_n dX9_formatRepresentative_31 rfl ?_
      refine zgP dX9_formatRepresentative_32 fX9_79 z0 rfl z12 ?_
      refine zgI dX9_formatRepresentative_35 fX9_316 h3.1.1 rfl h3.2.1 ?_
      refine zW_ireturn dX9_formatRepresentative_38 rfl rfl (by first | decide | (show _ ≤ (2 : Nat); omega)) (by first | decide | (show _ ≤ (12 : Nat); omega)) ?_
      exact hQ σ3 hC (mx1.tr (m23.mx (fun a z => by unfold scr fp at z; unfold xr; omega)))
    · rw [if_neg y] at hQ
      exact hQ _ h1.sn (mx1.tr Mx.sn)
  · rw [if_neg gk] at hQ
    exact hQ _ h.sn Mx.sn
/-- the basis word of the edge e -/
def bwd (G : GT) (e : Nat) : List Nat := pws (pw (rpw G (e / 4)) (2 * (e % 4))) (wayb G (gde G (gt G (e / 4) (2 * (e % 4))).toNat) (gt G (e / 4) (2 * (e % 4))).toNat)
noncomputable def o_formatBasisWord (A : AA) (g k : Int) : Out := @ite Out (inR2 g) _ (@ite Out (0 ≤ k ∧ k < (gE (gr A g) : Int) - gV (gr A g) + 1) _ (0, (((bwd (gr A g) ((reml (gr A g) (4 * gV (gr A g))).getD k.toNat 0)).map lco).length : Nat), aWfm A ((bwd (gr A g) ((reml (gr A g) (4 * gV (gr A g))).getD k.toNat 0)).map lco)) (1, 0, A)) (1, 0, A)
set_option maxRecDepth 100000 in
theorem reml_mem {G : GT} {n e : Nat} (h : e ∈ reml G n) : e < n ∧ gt G (e / 4) (2 * (e % 4)) ≠ -1 := by
  unfold reml at h
  rw [List.mem_filter, List.mem_range, decide_eq_true_eq] at h
  exact ⟨h.1, h.2.1⟩
set_option maxRecDepth 100000 in
theorem c_formatBasisWord {g k : Int} (h : CI σ x A) (ig : InR g) (ik : InR k) (hQ : ∀ σ', CI σ' x (o_formatBasisWord A g k).2.2 → Mx σ σ' (xr x) → Q (rs e1 (o_formatBasisWord A g k)) σ') : zM Γ mX9_formatBasisWord [vR (some x), vI g, vI k] σ Q := by
  obtain ⟨z0, z1, z2, z3, z4, z5, z6, z7, z8, z9, z10, z11, z12, k1, k2, k3, k4⟩ := h.xk
  refine zM_of (n := 4) (by decide +kernel) rfl rfl rfl ?_
  unfold o_formatBasisWord at hQ
  refine zW_aload_n dX9_formatBasisWord_0 rfl ?_
  refine zW_iload_n dX9_formatBasisWord_1 rfl ?_
  refine zcV1 dX9_formatBasisWord_2 rfl eX9_graphOf b340 ⟨by decide, by decide, by decide, by decide⟩ rfl z0 rfl (by decide) (Nat.le_of_ble_eq_true rfl) (c_graphOf h ig (fun gk σ1 h1 hG h61 m1 hIs => ?_) (fun gk m => ?_))
  · rw [if_pos gk] at hQ
    have mx1 := m1.mx (P' := xr x) (fun a z => gq_xr gk z)
    obtain ⟨z0, z1, z2, z3, z4, z5, z6, z7, z8, z9, z10, z11, z12, k1, k2, k3, k4⟩ := h1.xk
    have oG := hG.2.1
    have v9 := oG.2.1
    have v8 := oG.1
    have gV9 := hG.2.2.1
    have gE9 := gE_le (gr A g)
    have hg2 : g.toNat < 2 := by unfold inR2 at gk; omega
    have hrl := reml_len oG
    refine zW_astore_n dX9_formatBasisWord_5 (by decide) rfl rfl ?_
    refine zW_iload_n dX9_formatBasisWord_6 rfl ?_
    refine zW_aload_n dX9_formatBasisWord_7 rfl ?_
    refine zcV0 dX9_formatBasisWord_8 rfl eX2_cycleRank b985 ⟨by decide, by decide, by decide, by decide⟩ rfl hG.1.1 rfl (by decide) (Nat.le_of_ble_eq_true rfl) (g_cycleRank hG ?_)
    refine zcS2 dX9_formatBasisWord_11 rfl eX9_checkIndex b344 ⟨by decide, by decide, by decide, by decide⟩ rfl (Nat.le_of_ble_eq_true rfl) (c_checkIndex ik (by unfold InR; omega) (fun y1 y2 => ?_) (fun y m => ?_))
    · rw [if_pos ⟨y1, y2⟩] at hQ
      have hkl : k.toNat < (reml (gr A g) (4 * gV (gr A g))).length := by omega
      have he : (reml (gr A g) (4 * gV (gr A g)))[k.toNat]? = some ((reml (gr A g) (4 * gV (gr A g))).getD k.toNat 0) := by
        rw [List.getD_eq_getElem?_getD, List.getElem?_eq_getElem hkl]
        rfl
      obtain ⟨b1, b2⟩ := reml_mem (List.mem_of_getElem? he)
      generalize (reml (gr A g) (4 * gV (gr A g))).getD k.toNat 0 = e at he b1 b2 hQ
      have ek : k = ((k.toNat : Nat) : Int) := by omega
      have hv : e / 4 < gV (gr A g) := by omega
      have hc : 2 * (e % 4) < 8 := by omega
      have hbt := oG.2.2.1 _ _ hv hc
      have d1 := gde_60 hIs (wl60 h hg2) hv
      have d2 := gde_60 hIs (wl60 h hg2) (m := (gt (gr A g) (e / 4) (2 * (e % 4))).toNat) (by omega)
      have hr := rpw_len (gr A g) (e / 4)
      have hre : ∀ R, R (.inl (some (vI ((8 * (e / 4) + 2 * (e % 4) : Nat) : Int)))) σ1 → zM Γ mX2_remainingEdge [vR (some (gad x g)), vI k] σ1 R := fun R hR => by
        have := g_remainingEdge (Γ := Γ) (Q := R) hG (k := k.toNat) (by omega) (fun r hr => by rw [hr e he]; exact hR)
        rw [← ek] at this
        exact this
      refine zW_aload_n dX9_formatBasisWord_14 rfl ?_
      refine zW_iload_n dX9_formatBasisWord_15 rfl ?_
      refine zcV1 dX9_formatBasisWord_16 rfl eX2_remainingEdge b1204 ⟨by decide, by decide, by decide, by decide⟩ rfl hG.1.1 rfl (by decide) (Nat.le_of_ble_eq_true rfl) (hre _ ?_)
      refine zW_istore dX9_formatBasisWord_19 (by decide) rfl rfl ?_
      refine zW_iload dX9_formatBasisWord_21 rfl ?_
      refine zW_bipush dX9_formatBasisWord_23 (by decide) ?_
      refine zW_idiv dX9_formatBasisWord_25 (by first | assumption | omega | (unfold InR; omega) | (unfold InL; omega) | (simp only [InR] at *; omega)) (by first | assumption | omega | (unfold InR; omega) | (unfold InL; omega) | (simp only [InR] at *; omega)) (by first | assumption | omega | (unfold InR; omega) | (unfold InL; omega) | (simp only [InR] at *; omega)) (by first | assumption | omega | (unfold InR; omega) | (unfold InL; omega) | (simp only [InR] at *; omega)) ?_
      refine zW_istore dX9_formatBasisWord_26 (by decide) rfl rfl ?_
      refine zW_iload dX9_formatBasisWord_28 rfl ?_
      refine zW_bipush dX9_formatBasisWord_30 (by decide) ?_
      refine zW_irem dX9_formatBasisWord_32 (by first | assumption | omega | (unfold InR; omega) | (unfold InL; omega) | (simp only [InR] at *; omega)) (by first | assumption | omega | (unfold InR; omega) | (unfold InL; omega) | (simp only [InR] at *; omega)) (by first | assumption | omega | (unfold InR; omega) | (unfold InL; omega) | (simp only [InR] at *; omega)) (by first | assumption | omega | (unfold InR; omega) | (unfold InL; omega) | (simp only [InR] at *; omega)) ?_
      refine zW_istore dX9_formatBasisWord_33 (by decide) rfl rfl ?_
      refine zW_aload_n dX9_formatBasisWord_35 rfl ?_
      refine zW_aload_n dX9_formatBasisWord_36 rfl ?_
      refine zW_iload dX9_formatBasisWord_37 rfl ?_
      have q1 : (((8 * (e / 4) + 2 * (e % 4) : Nat) : Int)) / 8 = ((e / 4 : Nat) : Int) := by omega
      have q2 : (((8 * (e / 4) + 2 * (e % 4) : Nat) : Int)) % 8 = ((2 * (e % 4) : Nat) : Int) := by omega
      rw [q1, q2]
      refine zcV2 dX9_formatBasisWord_39 rfl eX9_makeRepresentative b1212 ⟨by decide, by decide, by decide, by decide⟩ rfl z0 rfl (by decide) (Nat.le_of_ble_eq_true rfl) (c_makeRepresentative h1.xk h1.1.2.2.2.2.2.2.1 h1.1.2.2.2.2.2.2.2.1 hG (bp_scr gk) hv (fun σ2 h2 m2 => ?_))
      have y0 : zK σ2 x = (9, 0) := by rw [m2.K]; exact z0
      have y1 : zP σ2 x 11 = some (x + 505) := by rw [m2.P]; exact z10
      refine zW_aload_n dX9_formatBasisWord_42 rfl ?_
      refine zgP dX9_formatBasisWord_43 fX9_69 y0 rfl y1 ?_
      refine zW_iload dX9_formatBasisWord_46 rfl ?_
      refine zcV1 dX9_formatBasisWord_48 rfl eX8_put b1067 ⟨by decide, by decide, by decide, by decide⟩ rfl h2.1.1 rfl (by decide) (Nat.le_of_ble_eq_true rfl) (w_put h2 hc (by omega) (fun σ3 h3 m3 => ?_))
      have lp := pw_len (rpw (gr A g) (e / 4)) (2 * (e % 4))
      have n3 : Md σ1 σ3 (scr x) := m2.tr m3 (fun a z => by unfold wp at z; unfold scr; omega)
      have y0 : zK σ3 x = (9, 0) := by rw [n3.K]; exact z0
      have y1 : zP σ3 x 11 = some (x + 505) := by rw [n3.P]; exact z10
      have hG3 := hG.md n3 (bp_scr gk)
      refine zW_aload_n dX9_formatBasisWord_51 rfl ?_
      refine zW_aload_n dX9_formatBasisWord_52 rfl ?_
      refine zgP dX9_formatBasisWord_53 fX9_69 y0 rfl y1 ?_
      refine zW_aload_n dX9_formatBasisWord_56 rfl ?_
      refine zW_iload dX9_formatBasisWord_57 rfl ?_
      refine zW_iload dX9_formatBasisWord_59 rfl ?_
      refine zcV2 dX9_formatBasisWord_61 rfl eX2_follow b977 ⟨by decide, by decide, by decide, by decide⟩ rfl hG3.1.1 rfl (by decide) (Nat.le_of_ble_eq_true rfl) (g_follow hG3 hv hc ?_)
      have et : gt (gr A g) (e / 4) (2 * (e % 4)) = (((gt (gr A g) (e / 4) (2 * (e % 4))).toNat : Nat) : Int) := by omega
      rw [et]
      refine zcV2 dX9_formatBasisWord_64 rfl eX2_putWayBack b1216 ⟨by decide, by decide, by decide, by decide⟩ rfl hG3.1.1 rfl (by decide) (Nat.le_of_ble_eq_true rfl) (g_putWayBack hG3 h3 (fun a z => ⟨fun q => bp_scr gk a z (by unfold scr; omega), fun q => bp_scr gk a z (by unfold scr; omega)⟩) (by omega) (by omega) (fun σ4 h4 m4 => ?_))
      have hbw : pws (pw (rpw (gr A g) (e / 4)) (2 * (e % 4))) (wayb (gr A g) (gde (gr A g) (gt (gr A g) (e / 4) (2 * (e % 4))).toNat) (gt (gr A g) (e / 4) (2 * (e % 4))).toNat) = bwd (gr A g) e := rfl
      have lb := pws_len (wayb (gr A g) (gde (gr A g) (gt (gr A g) (e / 4) (2 * (e % 4))).toNat) (gt (gr A g) (e / 4) (2 * (e % 4))).toNat) (pw (rpw (gr A g) (e / 4)) (2 * (e % 4)))
      rw [wayb_len] at lb
      rw [hbw] at h4 lb
      have n4 : Md σ1 σ4 (scr x) := n3.tr m4 (fun a z => by unfold wp at z; unfold scr; omega)
      have y0 : zK σ4 x = (9, 0) := by rw [n4.K]; exact z0
      have y1 : zP σ4 x 11 = some (x + 505) := by rw [n4.P]; exact z10
      have y2 : zP σ4 x 13 = some (x + 509) := by rw [n4.P]; exact z12
      have hF : FD σ4 (x + 509) (aFm A) := h1.2.2.2.2.2.2.2.1.md n4 (by unfold scr; omega) (by unfold scr; omega)
      refine zW_aload_n dX9_formatBasisWord_67 rfl ?_
      refine zgP dX9_formatBasisWord_68 fX9_79 y0 rfl y2 ?_
      refine zW_aload_n dX9_formatBasisWord_71 rfl ?_
      refine zgP dX9_formatBasisWord_72 fX9_69 y0 rfl y1 ?_
      refine zcV1 dX9_formatBasisWord_75 rfl eX1_writeLetters b1221 ⟨by decide, by decide, by decide, by decide⟩ rfl hF.1.1 rfl (by decide) (Nat.le_of_ble_eq_true rfl) (f_writeLetters hF.1 h4 (by omega) (by omega) (fun σ5 h5 m5 => ?_))
      have m25 : Md σ1 σ5 (fun a => scr x a ∨ fp (x + 509) a) := (n4.wk (fun a z => Or.inl z)).tr m5 (fun a z => Or.inr z)
      have hC := h1.fm m25 (fun a z => z) h5
      obtain ⟨z0, z1, z2, z3, z4, z5, z6, z7, z8, z9, z10, z11, z12, k1, k2, k3, k4⟩ := hC.xk
      refine zW_aload_n dX9_formatBasisWord_78 rfl ?_
      refine zgP dX9_formatBasisWord_79 fX9_79 z0 rfl z12 ?_
      refine zgI dX9_formatBasisWord_82 fX9_316 h5.1.1 rfl h5.2.1 ?_
      refine zW_ireturn dX9_formatBasisWord_85 rfl rfl (by first | decide | (show _ ≤ (2 : Nat); omega)) (by first | decide | (show _ ≤ (12 : Nat); omega)) ?_
      exact hQ σ5 hC (mx1.tr (m25.mx (fun a z => by unfold scr fp at z; unfold xr; omega)))
    · rw [if_neg y] at hQ
      exact hQ _ h1.sn (mx1.tr Mx.sn)
  · rw [if_neg gk] at hQ
    exact hQ _ h.sn Mx.sn
def o_formattedCharacter (A : AA) (i : Int) : Out := if 0 ≤ i ∧ i < ((aFm A).length : Nat) then (0, ((aFm A).getD i.toNat 0 : Nat), A) else (1, 0, A)
set_option maxRecDepth 100000 in
theorem c_formattedCharacter {i : Int} (h : CI σ x A) (ii : InR i) (hQ : ∀ σ', CI σ' x (o_formattedCharacter A i).2.2 → Mx σ σ' (xr x) → Q (rs e1 (o_formattedCharacter A i)) σ') : zM Γ mX9_formattedCharacter [vR (some x), vI i] σ Q := by
  obtain ⟨z0, z1, z2, z3, z4, z5, z6, z7, z8, z9, z10, z11, z12, k1, k2, k3, k4⟩ := h.xk
  obtain ⟨⟨f0, f1, f2⟩, f3, f4, f5, f6⟩ := id h.2.2.2.2.2.2.2.1
  refine zM_of (n := 0) (by decide +kernel) rfl rfl rfl ?_
  unfold o_formattedCharacter at hQ
  refine zW_iload_n dX9_formattedCharacter_0 rfl ?_
  refine zW_aload_n dX9_formattedCharacter_1 rfl ?_
  refine zgP dX9_formattedCharacter_2 fX9_79 z0 rfl z12 ?_
  refine zgI dX9_formattedCharacter_5 fX9_316 f0 rfl f3 ?_
  refine zcS2 dX9_formattedCharacter_8 rfl eX9_checkIndex b344 ⟨by decide, by decide, by decide, by decide⟩ rfl (Nat.le_of_ble_eq_true rfl) (c_checkIndex ii (by unfold InR; omega) (fun y1 y2 => ?_) (fun y m => ?_))
  · rw [if_pos ⟨y1, y2⟩] at hQ
    have hx : (aFm A).getD i.toNat 0 < 256 := by
      apply f6
      rw [List.getD_eq_getElem?_getD, List.getElem?_eq_getElem (by omega)]
      exact List.getElem_mem _
    refine zW_aload_n dX9_formattedCharacter_11 rfl ?_
    refine zgP dX9_formattedCharacter_12 fX9_79 z0 rfl z12 ?_
    refine zgP dX9_formattedCharacter_15 fX9_331 f0 rfl f1 ?_
    refine zW_iload_n dX9_formattedCharacter_18 rfl ?_
    refine zrC dX9_formattedCharacter_19 f2 (by first | assumption | omega | (unfold InR; omega) | (unfold InL; omega) | (simp only [InR] at *; omega)) (by first | assumption | omega | (unfold InR; omega) | (unfold InL; omega) | (simp only [InR] at *; omega)) (by first | assumption | omega | (unfold InR; omega) | (unfold InL; omega) | (simp only [InR] at *; omega)) (f5 i.toNat (by omega)) ?_
    refine zW_ireturn dX9_formattedCharacter_20 rfl (znc _ hx) (by first | decide | (show _ ≤ (1 : Nat); omega)) (by first | decide | (show _ ≤ (6 : Nat); omega)) ?_
    exact hQ σ h Mx.rf
  · rw [if_neg y] at hQ
    exact hQ _ h.sn Mx.sn
/-! bytes -/
def shb (v s : Int) : Int := (((iI v).toUInt32 >>> ((iI s).toUInt32 &&& Int32.toUInt32 31)).toInt32).toInt
def byI (v s : Int) : Int := (iI (shb v s) &&& iI 255).toInt
def byt (v s : Int) : Nat := (byI v s).toNat
set_option maxRecDepth 100000 in
theorem and255 (X : Int32) : 0 ≤ (X &&& iI 255).toInt ∧ (X &&& iI 255).toInt < 256 := by
  have e : (X &&& iI 255).toBitVec = X.toBitVec &&& 255#32 := rfl
  have h : (X &&& iI 255).toBitVec.toNat ≤ 255 := by
    rw [e, BitVec.toNat_and]
    exact Nat.and_le_right
  have h2 : (X &&& iI 255).toInt = ((X &&& iI 255).toBitVec.toNat : Int) := by
    show (X &&& iI 255).toBitVec.toInt = _
    exact BitVec.toInt_eq_toNat_of_lt (by omega)
  omega
set_option maxRecDepth 100000 in
theorem byt_lt (v s : Int) : byt v s < 256 := by
  have := and255 (iI (shb v s))
  unfold byt byI
  omega
set_option maxRecDepth 100000 in
theorem byt_I (v s : Int) : byI v s = (byt v s : Nat) := by
  have := and255 (iI (shb v s))
  unfold byt
  unfold byI at *
  omega
def byts (v : Int) : List Nat := [byt v 24, byt v 16, byt v 8, byt v 0]
/-- the input buffer alone has changed -/
def Mi (σ σ' : HS) (x : Nat) : Prop := Md σ σ' (fun a => a = x ∨ a = x + 1) ∧ ∀ k, k ≠ 1 → zO σ' x k = zO σ x k
set_option maxRecDepth 100000 in
theorem Mi.rf : Mi σ σ x := ⟨Md.rf, fun _ _ => rfl⟩
set_option maxRecDepth 100000 in
theorem Mi.tr {σ'' : HS} (h : Mi σ σ' x) (h' : Mi σ' σ'' x) : Mi σ σ'' x := ⟨h.1.tr h'.1 (fun _ z => z), fun k hk => (h'.2 k hk).trans (h.2 k hk)⟩
set_option maxRecDepth 100000 in
theorem CJ.inp {l : List Nat} (h : CJ σ x A) (m : Mi σ σ' x) (H : cIn σ' x l) : CJ σ' x (aWin A l) := by
  obtain ⟨m, m1⟩ := m
  have no : ∀ a, x + 2 ≤ a → ¬ (a = x ∨ a = x + 1) := fun a z => by omega
  obtain ⟨a1, a2, a3, a4, a5, a6, a7, a8, a9⟩ := h
  refine ⟨a1.md m, H, a3.md m (fun a z => no a (by unfold sp at z; omega)), ⟨?_, fun t ht => (a4.2 t ht).md m (fun a z => no a (by unfold sp at z; omega))⟩, a5.md m (fun a z => no a (by unfold hp at z; omega)), ?_, a7.md m (no _ (by omega)) (no _ (by omega)), a8.md m (no _ (by omega)) (no _ (by omega)), fun g hg => ?_⟩
  · rw [m1 4 (by omega)]; exact a4.1
  · rw [m.o (no _ (by omega))]; exact a6
  · rw [m.i (no _ (by omega))]; exact a9 g hg
set_option maxRecDepth 100000 in
theorem CI.inp {l : List Nat} (h : CI σ x A) (m : Mi σ σ' x) (H : cIn σ' x l) : CI σ' x (aWin A l) :=
  h.keep (h.cj.inp m H) rfl m.1 (fun a z => by unfold bp at z; omega)
set_option maxRecDepth 100000 in
theorem Mi.mx (m : Mi σ σ' x) : Mx σ σ' (xr x) := m.1.mx (fun a z => by unfold xr; omega)
set_option maxRecDepth 100000 in
theorem c_putBytes {v : Int} {l : List Nat} (h0 : zK σ x = (9, 0)) (hp0 : zP σ x 0 = some (x + 1)) (hk : zK σ (x + 1) = (13, 600)) (h : cIn σ x l) (hn : l.length + 4 ≤ 600) (hQ : ∀ σ', cIn σ' x (l ++ byts v) → Mi σ σ' x → Q (.inl none) σ') : zM Γ mX9_putBytes [vR (some x), vI v] σ Q := by
  refine zM_of (n := 1) (by decide +kernel) rfl rfl rfl ?_
  have step : ∀ (s : Int) (σ1 : HS) (l1 : List Nat), cIn σ1 x l1 → l1.length < 600 → 0 ≤ s → s ≤ 24 → Mi σ σ1 x → (∀ σ2, cIn σ2 x (l1 ++ [byt v s]) → Mi σ σ2 x → zW Γ mX9_putBytes 3 [some (vR (some x)), some (vI v), some (vI (s + -8))] [] σ2 0 0 Q) → zW Γ mX9_putBytes 3 [some (vR (some x)), some (vI v), some (vI s)] [] σ1 0 0 Q := by
    intro s σ1 l1 hc hl hs hs2 m1 kk
    have y0 : zK σ1 x = (9, 0) := by rw [m1.1.K]; exact h0
    have y1 : zP σ1 x 0 = some (x + 1) := by rw [m1.1.P]; exact hp0
    have y2 : zK σ1 (x + 1) = (13, 600) := by rw [m1.1.K]; exact hk
    refine zW_iload_n dX9_putBytes_3 rfl ?_
    refine zW_if_lt (tgt := 49) dX9_putBytes_4 (by decide) (by first | assumption | omega | (unfold InR; omega) | (unfold InL; omega) | (simp only [InR] at *; omega)) (fun q => ?_) (fun q => ?_)
    · exact absurd q (by omega)
    · refine zW_aload_n dX9_putBytes_7 rfl ?_
      refine zgI dX9_putBytes_8 fX9_84 y0 rfl hc.1 ?_
      refine zW_sipush dX9_putBytes_11 (by decide) ?_
      refine zW_icmp_ge (tgt := 49) dX9_putBytes_14 (by decide) (by first | assumption | omega | (unfold InR; omega) | (unfold InL; omega) | (simp only [InR] at *; omega)) (by first | assumption | omega | (unfold InR; omega) | (unfold InL; omega) | (simp only [InR] at *; omega)) (fun q2 => ?_) (fun q2 => ?_)
      · exact absurd q2 (by omega)
      · refine zW_aload_n dX9_putBytes_17 rfl ?_
        refine zgP dX9_putBytes_18 fX9_9 y0 rfl y1 ?_
        refine zW_aload_n dX9_putBytes_21 rfl ?_
        refine zgI dX9_putBytes_22 fX9_84 y0 rfl hc.1 ?_
        refine zW_iload_n dX9_putBytes_25 rfl ?_
        refine zW_iload_n dX9_putBytes_26 rfl ?_
        refine zW_iushr dX9_putBytes_27 (iI_of _).symm ?_
        refine zW_sipush dX9_putBytes_28 (by decide) ?_
        refine zW_iand dX9_putBytes_31 ?_
        refine zW_iast dX9_putBytes_32 y2 (by first | assumption | omega | (unfold InR; omega) | (unfold InL; omega) | (simp only [InR] at *; omega)) (by first | assumption | omega | (unfold InR; omega) | (unfold InL; omega) | (simp only [InR] at *; omega)) (by first | assumption | omega | (unfold InR; omega) | (unfold InL; omega) | (simp only [InR] at *; omega)) ?_
        refine zW_aload_n dX9_putBytes_33 rfl ?_
        refine zW_dup dX9_putBytes_34 rfl ?_
        refine zgI dX9_putBytes_35 fX9_84 y0 rfl hc.1 ?_
        refine zW_iconst dX9_putBytes_38 ?_
        refine zW_iadd dX9_putBytes_39 ?_
        refine zpI dX9_putBytes_40 fX9_84 (by assumption) rfl (Or.inl rfl) (zst_int _) ?_
        refine zW_iinc dX9_putBytes_43 rfl (by decide) rfl rfl ?_
        refine zW_goto (tgt := 3) dX9_putBytes_46 (by decide) ?_
        refine kk _ ?_ ?_
        · obtain ⟨c1, c2, c3, c4⟩ := hc
          refine ⟨?_, by rw [List.length_append]; show _ + 1 ≤ _; omega, fun i hi => ?_, fun y hy => ?_⟩
          · rw [zO_sOs, List.length_append]
            rfl
          · rw [List.length_append] at hi
            change i < l1.length + 1 at hi
            rw [zI_sO, zI_sI]
            by_cases e : i = l1.length
            · rw [if_pos ⟨rfl, by omega⟩, e]
              have : ((l1 ++ [byt v s]).getD l1.length 0) = byt v s := by simp
              rw [this]
              exact byt_I v s
            · rw [if_neg (fun z => e (by omega)), c3 i (by omega)]
              simp [List.getD_eq_getElem?_getD, List.getElem?_append_left (show i < l1.length by omega)]
          · rcases List.mem_append.mp hy with z | z
            · exact c4 y z
            · rw [List.mem_singleton.mp z]; exact byt_lt v s
        · refine m1.tr ⟨(Md.I (P := fun a => a = x ∨ a = x + 1) (Or.inr rfl)).tr (Md.O (P := fun a => a = x ∨ a = x + 1) (Or.inl rfl)) (fun _ z => z), fun k hk9 => ?_⟩
          rw [zO_sOk _ _ _ _ hk9]
          rfl
  refine zW_bipush dX9_putBytes_0 (by decide) ?_
  refine zW_istore_n dX9_putBytes_2 (by decide) rfl rfl ?_
  refine step 24 σ l h (by omega) (by omega) (by omega) Mi.rf (fun σ1 h1 m1 => ?_)
  refine step 16 σ1 _ h1 (by rw [List.length_append]; show _ + 1 < _; omega) (by omega) (by omega) m1 (fun σ2 h2 m2 => ?_)
  refine step 8 σ2 _ h2 (by rw [List.length_append, List.length_append]; show _ + 1 + 1 < _; omega) (by omega) (by omega) m2 (fun σ3 h3 m3 => ?_)
  refine step 0 σ3 _ h3 (by rw [List.length_append, List.length_append, List.length_append]; show _ + 1 + 1 + 1 < _; omega) (by omega) (by omega) m3 (fun σ4 h4 m4 => ?_)
  refine zW_iload_n dX9_putBytes_3 rfl ?_
  refine zW_if_lt (tgt := 49) dX9_putBytes_4 (by decide) (by first | assumption | omega | (unfold InR; omega) | (unfold InL; omega) | (simp only [InR] at *; omega)) (fun q => ?_) (fun q => ?_)
  · refine zW_return dX9_putBytes_49 rfl (by first | decide | (show _ ≤ (0 : Nat); omega)) (by first | decide | (show _ ≤ (0 : Nat); omega)) ?_
    refine hQ σ4 ?_ m4
    have e : l ++ [byt v 24] ++ [byt v 16] ++ [byt v 8] ++ [byt v 0] = l ++ byts v := by simp [byts]
    rw [← e]
    exact h4
  · exact absurd q (by decide)
def o_append (A : AA) (v0 v1 v2 v3 v4 : Int) : Out := if (aIn A).length + 20 ≤ 600 then (0, ((aIn A).length + 20 : Nat), aWin A (aIn A ++ byts v0 ++ byts v1 ++ byts v2 ++ byts v3 ++ byts v4)) else (1, 0, A)
set_option maxRecDepth 100000 in
theorem c_append {v0 v1 v2 v3 v4 : Int} (h : CI σ x A) (hQ : ∀ σ', CI σ' x (o_append A v0 v1 v2 v3 v4).2.2 → Mx σ σ' (xr x) → Q (rs e6 (o_append A v0 v1 v2 v3 v4)) σ') : zM Γ mX9_append [vR (some x), vI v0, vI v1, vI v2, vI v3, vI v4] σ Q := by
  obtain ⟨z0, z1, z2, z3, z4, z5, z6, z7, z8, z9, z10, z11, z12, k1, k2, k3, k4⟩ := h.xk
  have hI := h.2.1
  have hI9 := hI.2.1
  refine zM_of (n := 0) (by decide +kernel) rfl rfl rfl ?_
  unfold o_append at hQ
  have yx : ∀ {σ1}, Mi σ σ1 x → zK σ1 x = (9, 0) ∧ zP σ1 x 0 = some (x + 1) ∧ zK σ1 (x + 1) = (13, 600) := fun m => ⟨by rw [m.1.K]; exact z0, by rw [m.1.P]; exact z1, by rw [m.1.K]; exact k1⟩
  have bl : ∀ v, (byts v).length = 4 := fun v => rfl
  refine zW_aload_n dX9_append_0 rfl ?_
  refine zgI dX9_append_1 fX9_84 z0 rfl hI.1 ?_
  refine zW_bipush dX9_append_4 (by decide) ?_
  refine zW_iadd dX9_append_6 ?_
  refine zW_sipush dX9_append_7 (by decide) ?_
  refine zW_icmp_le (tgt := 23) dX9_append_10 (by decide) (by first | assumption | omega | (unfold InR; omega) | (unfold InL; omega) | (simp only [InR] at *; omega)) (by first | assumption | omega | (unfold InR; omega) | (unfold InL; omega) | (simp only [InR] at *; omega)) (fun q => ?_) (fun q => ?_)
  · rw [if_pos (by omega)] at hQ
    refine zW_aload_n dX9_append_23 rfl ?_
    refine zW_iload_n dX9_append_24 rfl ?_
    refine zcV1 dX9_append_25 rfl eX9_putBytes b541 ⟨by decide, by decide, by decide, by decide⟩ rfl z0 rfl (by decide) (Nat.le_of_ble_eq_true rfl) (c_putBytes z0 z1 k1 hI (by omega) (fun σ1 h1 m1 => ?_))
    obtain ⟨y0, y1, y2⟩ := yx m1
    refine zW_aload_n dX9_append_28 rfl ?_
    refine zW_iload_n dX9_append_29 rfl ?_
    refine zcV1 dX9_append_30 rfl eX9_putBytes b541 ⟨by decide, by decide, by decide, by decide⟩ rfl y0 rfl (by decide) (Nat.le_of_ble_eq_true rfl) (c_putBytes y0 y1 y2 h1 (by rw [List.length_append, bl]; omega) (fun σ2 h2 n2 => ?_))
    have m2 := m1.tr n2
    obtain ⟨y0, y1, y2⟩ := yx m2
    refine zW_aload_n dX9_append_33 rfl ?_
    refine zW_iload_n dX9_append_34 rfl ?_
    refine zcV1 dX9_append_35 rfl eX9_putBytes b541 ⟨by decide, by decide, by decide, by decide⟩ rfl y0 rfl (by decide) (Nat.le_of_ble_eq_true rfl) (c_putBytes y0 y1 y2 h2 (by rw [List.length_append, List.length_append, bl, bl]; omega) (fun σ3 h3 n3 => ?_))
    have m3 := m2.tr n3
    obtain ⟨y0, y1, y2⟩ := yx m3
    refine zW_aload_n dX9_append_38 rfl ?_
    refine zW_iload dX9_append_39 rfl ?_
    refine zcV1 dX9_append_41 rfl eX9_putBytes b541 ⟨by decide, by decide, by decide, by decide⟩ rfl y0 rfl (by decide) (Nat.le_of_ble_eq_true rfl) (c_putBytes y0 y1 y2 h3 (by rw [List.length_append, List.length_append, List.length_append, bl, bl, bl]; omega) (fun σ4 h4 n4 => ?_))
    have m4 := m3.tr n4
    obtain ⟨y0, y1, y2⟩ := yx m4
    refine zW_aload_n dX9_append_44 rfl ?_
    refine zW_iload dX9_append_45 rfl ?_
    refine zcV1 dX9_append_47 rfl eX9_putBytes b541 ⟨by decide, by decide, by decide, by decide⟩ rfl y0 rfl (by decide) (Nat.le_of_ble_eq_true rfl) (c_putBytes y0 y1 y2 h4 (by rw [List.length_append, List.length_append, List.length_append, List.length_append, bl, bl, bl, bl]; omega) (fun σ5 h5 n5 => ?_))
    have m5 := m4.tr n5
    obtain ⟨y0, y1, y2⟩ := yx m5
    have hl : zO σ5 x 1 = (((aIn A).length + 20 : Nat) : Int) := by
      rw [h5.1, List.length_append, List.length_append, List.length_append, List.length_append, List.length_append, bl, bl, bl, bl, bl]
    refine zW_aload_n dX9_append_50 rfl ?_
    refine zgI dX9_append_51 fX9_84 y0 rfl hl ?_
    refine zW_ireturn dX9_append_54 rfl rfl (by first | decide | (show _ ≤ (1 : Nat); omega)) (by first | decide | (show _ ≤ (6 : Nat); omega)) ?_
    exact hQ σ5 (h.inp m5 h5) m5.mx
  · rw [if_neg (by omega)] at hQ
    refine zW_throw (k := 4) zTok_0 (by decide) rfl rfl rfl dX9_append_13 dX9_append_16 dX9_append_17 dX9_append_19 dX9_append_22 (by decide) (Nat.le_of_ble_eq_true rfl) (by decide) (by decide) (fun m => ?_)
    exact hQ _ h.sn Mx.sn
/-- the outcome of a call that answers nothing -/
def rsv (E : Nat → String) : Out → Res
  | (0, _, _) => .inl none
  | (k + 1, _, _) => .inr (E (k + 1))
def e7 : Nat → String := fun _ => eA
def o_truncate (A : AA) (n : Int) : Out := if 0 ≤ n ∧ n ≤ ((aIn A).length : Nat) then (0, 0, aWin A ((aIn A).take n.toNat)) else (1, 0, A)
set_option maxRecDepth 100000 in
theorem c_truncate {n : Int} (h : CI σ x A) (inn : InR n) (hQ : ∀ σ', CI σ' x (o_truncate A n).2.2 → Mx σ σ' (xr x) → Q (rsv e7 (o_truncate A n)) σ') : zM Γ mX9_truncate [vR (some x), vI n] σ Q := by
  obtain ⟨z0, z1, z2, z3, z4, z5, z6, z7, z8, z9, z10, z11, z12, k1, k2, k3, k4⟩ := h.xk
  have hI := h.2.1
  have hI9 := hI.2.1
  refine zM_of (n := 0) (by decide +kernel) rfl rfl rfl ?_
  unfold o_truncate at hQ
  have bad : ¬ (0 ≤ n ∧ n ≤ ((aIn A).length : Nat)) → zW Γ mX9_truncate 12 [some (vR (some x)), some (vI n)] [] σ 0 0 Q := by
    intro hb
    rw [if_neg hb] at hQ
    refine zW_throw (k := 5) zTok_1 (by decide) rfl rfl rfl dX9_truncate_12 dX9_truncate_15 dX9_truncate_16 dX9_truncate_18 dX9_truncate_21 (by decide) (Nat.le_of_ble_eq_true rfl) (by decide) (by decide) (fun m => ?_)
    exact hQ _ h.sn Mx.sn
  refine zW_iload_n dX9_truncate_0 rfl ?_
  refine zW_if_lt (tgt := 12) dX9_truncate_1 (by decide) (by first | assumption | omega | (unfold InR; omega) | (unfold InL; omega) | (simp only [InR] at *; omega)) (fun q => ?_) (fun q => ?_)
  · exact bad (by omega)
  · refine zW_iload_n dX9_truncate_4 rfl ?_
    refine zW_aload_n dX9_truncate_5 rfl ?_
    refine zgI dX9_truncate_6 fX9_84 z0 rfl hI.1 ?_
    refine zW_icmp_le (tgt := 22) dX9_truncate_9 (by decide) (by first | assumption | omega | (unfold InR; omega) | (unfold InL; omega) | (simp only [InR] at *; omega)) (by first | assumption | omega | (unfold InR; omega) | (unfold InL; omega) | (simp only [InR] at *; omega)) (fun q2 => ?_) (fun q2 => ?_)
    · rw [if_pos ⟨by omega, by omega⟩] at hQ
      refine zW_aload_n dX9_truncate_22 rfl ?_
      refine zW_iload_n dX9_truncate_23 rfl ?_
      refine zpI dX9_truncate_24 fX9_84 z0 rfl (Or.inl rfl) (zst_int _) ?_
      refine zW_return dX9_truncate_27 rfl (by first | decide | (show _ ≤ (1 : Nat); omega)) (by first | decide | (show _ ≤ (6 : Nat); omega)) ?_
      have hm : Mi σ (sO σ x 1 n) x := ⟨Md.O (Or.inl rfl), fun k hk => zO_sOk _ _ _ _ hk⟩
      obtain ⟨c1, c2, c3, c4⟩ := hI
      refine hQ _ (h.inp hm ⟨?_, by rw [List.length_take]; omega, fun i hi => ?_, fun y hy => c4 y (List.mem_of_mem_take hy)⟩) hm.mx
      · rw [zO_sOs, List.length_take]; omega
      · rw [List.length_take] at hi
        rw [zI_sO, c3 i (by omega), getD_take (by omega)]
    · exact bad (by omega)
def inw (A : AA) : List Nat := pws [] ((aIn A).map (fun y => (cob y (sRk (aSt A))).toNat))
def inOK (A : AA) : Prop := ∀ y ∈ aIn A, cob y (sRk (aSt A)) ≠ -1
noncomputable def o_setRegister (A : AA) (p : Int) : Out := @ite Out (inR8 p) _ (@ite Out (inOK A) (Classical.propDecidable _) (@ite Out ((inw A).length ≤ 60) _ (0, ((inw A).length : Nat), aWin (aSet A p (inw A)) []) (3, 0, A)) (2, 0, A)) (1, 0, A)
set_option maxRecDepth 100000 in
theorem c_setRegister {p : Int} (h : CI σ x A) (ip : InR p) (hr9 : sRk (aSt A) ≤ 4) (hQ : ∀ σ', CI σ' x (o_setRegister A p).2.2 → Mx σ σ' (xr x) → Q (rs e5 (o_setRegister A p)) σ') : zM Γ mX9_setRegister [vR (some x), vI p] σ Q := by
  obtain ⟨z0, z1, z2, z3, z4, z5, z6, z7, z8, z9, z10, z11, z12, k1, k2, k3, k4⟩ := h.xk
  have hI := h.2.1
  have hI9 := hI.2.1
  have hS := h.st
  have hP := h.1.2.2.2.2.2.2.1
  refine zM_of (n := 2) (by decide +kernel) rfl rfl rfl ?_
  unfold o_setRegister at hQ
  refine zW_iload_n dX9_setRegister_0 rfl ?_
  refine zW_bipush dX9_setRegister_1 (by decide) ?_
  refine zcS2 dX9_setRegister_3 rfl eX9_checkIndex b344 ⟨by decide, by decide, by decide, by decide⟩ rfl (Nat.le_of_ble_eq_true rfl) (c_checkIndex ip (by unfold InR; omega) (fun y1 y2 => ?_) (fun y m => ?_))
  · have gr9 : inR8 p := ⟨y1, y2⟩
    rw [if_pos gr9] at hQ
    have kx : ∀ {σ1}, Md σ σ1 (wp (x + 505) (x + 506)) → zK σ1 x = (9, 0) ∧ zP σ1 x 11 = some (x + 505) ∧ zP σ1 x 0 = some (x + 1) ∧ zP σ1 x 2 = some (x + 2) ∧ zK σ1 (x + 1) = (13, 600) := fun m => ⟨by rw [m.K]; exact z0, by rw [m.P]; exact z10, by rw [m.P]; exact z1, by rw [m.P]; exact z2, by rw [m.K]; exact k1⟩
    have loop : ∀ n i σ1 z, i + n = (aIn A).length → (∀ j, j < i → cob ((aIn A).getD j 0) (sRk (aSt A)) ≠ -1) → Wd σ1 (x + 505) (x + 506) 3600 (pws [] (((aIn A).take i).map (fun y => (cob y (sRk (aSt A))).toNat))) → Md σ σ1 (wp (x + 505) (x + 506)) → zW Γ mX9_setRegister 15 [some (vR (some x)), some (vI p), some (vI i), z] [] σ1 1 6 Q := by
      intro n
      induction n with
      | zero =>
        intro i σ1 z hi hall h1 m1
        obtain ⟨y0, y1, y2, y3, y4⟩ := kx m1
        have hI1 : cIn σ1 x (aIn A) := hI.md m1 (by unfold wp; omega) (by unfold wp; omega)
        have ok : inOK A := by
          intro y hy
          obtain ⟨j, hj⟩ := List.getElem?_of_mem hy
          have hjl := (List.getElem?_eq_some_iff.mp hj).1
          have := hall j (by omega)
          rw [List.getD_eq_getElem?_getD, hj] at this
          exact this
        rw [@if_pos _ (Classical.propDecidable _) ok] at hQ
        rw [List.take_of_length_le (by omega)] at h1
        have hw : pws [] ((aIn A).map (fun y => (cob y (sRk (aSt A))).toNat)) = inw A := rfl
        rw [hw] at h1
        refine zW_iload_n dX9_setRegister_15 rfl ?_
        refine zW_aload_n dX9_setRegister_16 rfl ?_
        refine zgI dX9_setRegister_17 fX9_84 y0 rfl hI1.1 ?_
        refine zW_icmp_ge (tgt := 70) dX9_setRegister_20 (by decide) (by first | assumption | omega | (unfold InR; omega) | (unfold InL; omega) | (simp only [InR] at *; omega)) (by first | assumption | omega | (unfold InR; omega) | (unfold InL; omega) | (simp only [InR] at *; omega)) (fun q => ?_) (fun q => ?_)
        · have hC : CI σ1 x A := h.md m1 (fun a z => by unfold wp at z; unfold scr; omega)
          have mx : Mx σ σ1 (xr x) := Md.mx m1 (fun a z => by unfold wp at z; unfold xr; omega)
          refine zW_aload_n dX9_setRegister_70 rfl ?_
          refine zW_iload_n dX9_setRegister_71 rfl ?_
          refine zcV1 dX9_setRegister_72 rfl eX9_storeProduct b1068 ⟨by decide, by decide, by decide, by decide⟩ rfl y0 rfl (by decide) (Nat.le_of_ble_eq_true rfl) (c_storeProduct hC h1 gr9 (fun hl σ9 h9 m9 => ?_) (fun hl m => ?_))
          · rw [if_pos hl] at hQ
            have y9 := h9.xk.1
            refine zW_istore_n dX9_setRegister_75 (by decide) rfl rfl ?_
            refine zW_aload_n dX9_setRegister_76 rfl ?_
            refine zW_iconst dX9_setRegister_77 ?_
            refine zpI dX9_setRegister_78 fX9_84 y9 rfl (Or.inl rfl) (zst_int _) ?_
            refine zW_iload_n dX9_setRegister_81 rfl ?_
            refine zW_ireturn dX9_setRegister_82 rfl rfl (by first | decide | (show _ ≤ (3 : Nat); omega)) (by first | decide | (show _ ≤ (18 : Nat); omega)) ?_
            have hm : Mi σ9 (sO σ9 x 1 0) x := ⟨Md.O (Or.inl rfl), fun k hk => zO_sOk _ _ _ _ hk⟩
            refine hQ _ (h9.inp hm ⟨zO_sOs _ _ _ _, Nat.zero_le _, fun i hi => absurd hi (Nat.not_lt_zero i), fun y hy => by cases hy⟩) ((mx.tr m9).tr hm.mx)
          · rw [if_neg hl] at hQ
            exact hQ _ hC.sn (mx.tr Mx.sn)
        · exact absurd q (by omega)
      | succ n ih =>
        intro i σ1 z hi hall h1 m1
        obtain ⟨y0, y1, y2, y3, y4⟩ := kx m1
        have hI1 : cIn σ1 x (aIn A) := hI.md m1 (by unfold wp; omega) (by unfold wp; omega)
        have hS1 : SD σ1 (x + 2) (aSt A) := hS.md m1 (fun a z => by unfold sp at z; unfold wp; omega)
        have hby : (aIn A).getD i 0 < 256 := by
          apply hI.2.2.2
          rw [List.getD_eq_getElem?_getD, List.getElem?_eq_getElem (by omega)]
          exact List.getElem_mem _
        have hcb := @cob_lt ((aIn A).getD i 0) (sRk (aSt A))
        have hlen := pws_len (((aIn A).take i).map (fun y => (cob y (sRk (aSt A))).toNat)) []
        rw [List.length_map, List.length_take] at hlen
        have e0 : ([] : List Nat).length = 0 := rfl
        refine zW_iload_n dX9_setRegister_15 rfl ?_
        refine zW_aload_n dX9_setRegister_16 rfl ?_
        refine zgI dX9_setRegister_17 fX9_84 y0 rfl hI1.1 ?_
        refine zW_icmp_ge (tgt := 70) dX9_setRegister_20 (by decide) (by first | assumption | omega | (unfold InR; omega) | (unfold InL; omega) | (simp only [InR] at *; omega)) (by first | assumption | omega | (unfold InR; omega) | (unfold InL; omega) | (simp only [InR] at *; omega)) (fun q => ?_) (fun q => ?_)
        · exact absurd q (by omega)
        · refine zW_aload_n dX9_setRegister_23 rfl ?_
          refine zgP dX9_setRegister_24 fX9_9 y0 rfl y2 ?_
          refine zW_iload_n dX9_setRegister_27 rfl ?_
          refine zrI dX9_setRegister_28 y4 (by first | assumption | omega | (unfold InR; omega) | (unfold InL; omega) | (simp only [InR] at *; omega)) (by first | assumption | omega | (unfold InR; omega) | (unfold InL; omega) | (simp only [InR] at *; omega)) (by first | assumption | omega | (unfold InR; omega) | (unfold InL; omega) | (simp only [InR] at *; omega)) (hI1.2.2.1 i (by omega)) ?_
          refine zW_aload_n dX9_setRegister_29 rfl ?_
          refine zgP dX9_setRegister_30 fX9_16 y0 rfl y3 ?_
          refine zgI dX9_setRegister_33 fX9_126 hS1.1.1 rfl hS1.2.1 ?_
          refine zcS2 dX9_setRegister_36 rfl eX9_codeOfByte b1065 ⟨by decide, by decide, by decide, by decide⟩ rfl (Nat.le_of_ble_eq_true rfl) (x_codeOfByte hby hr9 ?_)
          refine zW_istore_n dX9_setRegister_39 (by decide) rfl rfl ?_
          refine zW_iload_n dX9_setRegister_40 rfl ?_
          refine zW_iconst dX9_setRegister_41 ?_
          refine zW_icmp_ne (tgt := 56) dX9_setRegister_42 (by decide) (by first | assumption | omega | (unfold InR; omega) | (unfold InL; omega) | (simp only [InR] at *; omega)) (by first | assumption | omega | (unfold InR; omega) | (unfold InL; omega) | (simp only [InR] at *; omega)) (fun q2 => ?_) (fun q2 => ?_)
          · have ec : cob ((aIn A).getD i 0) (sRk (aSt A)) = (((cob ((aIn A).getD i 0) (sRk (aSt A))).toNat : Nat) : Int) := by omega
            rw [ec]
            refine zW_aload_n dX9_setRegister_56 rfl ?_
            refine zgP dX9_setRegister_57 fX9_69 y0 rfl y1 ?_
            refine zW_iload_n dX9_setRegister_60 rfl ?_
            refine zcV1 dX9_setRegister_61 rfl eX8_put b1067 ⟨by decide, by decide, by decide, by decide⟩ rfl h1.1.1 rfl (by decide) (Nat.le_of_ble_eq_true rfl) (w_put h1 (by omega) (by omega) (fun σ2 h2 n2 => ?_))
            refine zW_iinc dX9_setRegister_64 rfl (by decide) rfl rfl ?_
            refine zW_goto (tgt := 15) dX9_setRegister_67 (by decide) ?_
            refine ih (i + 1) σ2 _ (by omega) (fun j hj => ?_) ?_ (m1.tr n2 (fun _ z => z))
            · by_cases e : j = i
              · rw [e]; exact q2
              · exact hall j (by omega)
            · have et : (aIn A).take (i + 1) = (aIn A).take i ++ [(aIn A).getD i 0] := take_s (by omega)
              rw [et, List.map_append, pws_app]
              exact h2
          · have bad : ¬ inOK A := fun z => by
              refine z ((aIn A).getD i 0) ?_ q2
              rw [List.getD_eq_getElem?_getD, List.getElem?_eq_getElem (by omega)]
              exact List.getElem_mem _
            rw [@if_neg _ (Classical.propDecidable _) bad] at hQ
            refine zW_throwW (k := 10) zTok_1 (by decide) rfl rfl rfl dX9_setRegister_45 dX9_setRegister_48 dX9_setRegister_49 dX9_setRegister_52 dX9_setRegister_55 (by decide) (Nat.le_of_ble_eq_true rfl) (by decide) (by decide) (fun m => ?_)
            have hC : CI σ1 x A := h.md m1 (fun a z => by unfold wp at z; unfold scr; omega)
            have mx : Mx σ σ1 (xr x) := Md.mx m1 (fun a z => by unfold wp at z; unfold xr; omega)
            exact hQ _ hC.sn (mx.tr Mx.sn)
    refine zW_aload_n dX9_setRegister_6 rfl ?_
    refine zgP dX9_setRegister_7 fX9_69 z0 rfl z10 ?_
    refine zcV0 dX9_setRegister_10 rfl eX8_clear b802 ⟨by decide, by decide, by decide, by decide⟩ rfl hP.1 rfl (by decide) (Nat.le_of_ble_eq_true rfl) (w_clear hP (fun σ1 h1 m1 => ?_))
    refine zW_iconst dX9_setRegister_13 ?_
    refine zW_istore_n dX9_setRegister_14 (by decide) rfl rfl ?_
    exact loop (aIn A).length 0 σ1 none (by omega) (fun j hj => absurd hj (Nat.not_lt_zero j)) h1 m1
  · rw [if_neg y] at hQ
    exact hQ _ h.sn Mx.sn
/-! the parser's text is set: nothing else has changed -/
set_option maxRecDepth 100000 in
theorem Wk.sp {w c cap a k : Nat} {v : Option Nat} (h : Wk σ w c cap) (ha : a ≠ w) : Wk (sP σ a k v) w c cap := ⟨h.1, by rw [zP_sPa _ _ _ _ (fun z => ha z.symm)]; exact h.2.1, h.2.2.1, h.2.2.2⟩
set_option maxRecDepth 100000 in
theorem Wd.sp {w c cap a k : Nat} {v : Option Nat} {l : List Nat} (h : Wd σ w c cap l) (ha : a ≠ w) : Wd (sP σ a k v) w c cap l := ⟨h.1.sp ha, h.2⟩
set_option maxRecDepth 100000 in
theorem SK.sp {s a k : Nat} {v : Option Nat} (h : SK σ s) (ha : a < s ∨ s + 44 ≤ a) : SK (sP σ a k v) s := by
  obtain ⟨s0, s1, s2, s3, s4, s5, s6, s7, s8, s9⟩ := h
  exact ⟨s0, by rw [zP_sPa _ _ _ _ (by omega)]; exact s1, by rw [zP_sPa _ _ _ _ (by omega)]; exact s2, by rw [zP_sPa _ _ _ _ (by omega)]; exact s3, s4, s5, s6, fun i hi => by rw [zP_sPa _ _ _ _ (by omega)]; exact s7 i hi, fun i hi => by rw [zP_sPa _ _ _ _ (by omega)]; exact s8 i hi, fun i hi => (s9 i hi).sp (by omega)⟩
set_option maxRecDepth 100000 in
theorem SD.sp {s a k : Nat} {v : Option Nat} {t : ST} (h : SD σ s t) (ha : a < s ∨ s + 44 ≤ a) : SD (sP σ a k v) s t :=
  ⟨h.1.sp ha, h.2.1, fun r hr => (h.2.2.1 r hr).sp (by omega), fun g hg => ⟨(h.2.2.2 g hg).1, (h.2.2.2 g hg).2.1, fun j hj => ((h.2.2.2 g hg).2.2 j hj).sp (by have := (h.2.2.2 g hg).2.1; omega)⟩⟩
set_option maxRecDepth 100000 in
theorem HD.sp {b a k : Nat} {v : Option Nat} {hi : List ST} (h : HD σ b hi) (ha : a < b ∨ b + 354 ≤ a) : HD (sP σ a k v) b hi := by
  obtain ⟨⟨h0, h1, h2, h3, h4⟩, h5, h6, nx, h7, h8, h9⟩ := h
  exact ⟨⟨h0, by rw [zP_sPa _ _ _ _ (by omega)]; exact h1, h2, fun i hi => by rw [zP_sPa _ _ _ _ (by omega)]; exact h3 i hi, fun i hi => (h4 i hi).sp (by omega)⟩, h5, h6, nx, h7, h8, fun i t ht => (h9 i t ht).sp (by omega)⟩
set_option maxRecDepth 100000 in
theorem GK.sp {b a k : Nat} {v : Option Nat} (h : GK σ b) (ha : a ≠ b) : GK (sP σ a k v) b := by
  obtain ⟨s0, s1, s2, s3, s4, s5, s6, s7, s8⟩ := h
  have hb : b ≠ a := fun z => ha z.symm
  exact ⟨s0, by rw [zP_sPa _ _ _ _ hb]; exact s1, by rw [zP_sPa _ _ _ _ hb]; exact s2, by rw [zP_sPa _ _ _ _ hb]; exact s3, by rw [zP_sPa _ _ _ _ hb]; exact s4, s5, s6, s7, s8⟩
set_option maxRecDepth 100000 in
theorem CJ.sp {v : Option Nat} (h : CJ σ x A) : CJ (sP σ (x + 444) 4 v) x A := by
  obtain ⟨⟨a1, a2, a3, a4, a5, a6, a7, a8, a9, a10⟩, b2, b3, b4, b5, b6, b7, b8, b9⟩ := h
  obtain ⟨z0, z1, z2, z3, z4, z5, z6, z7, z8, z9, z10, z11, z12, k1, k2, k3, k4⟩ := a1
  obtain ⟨p1, p2, p3, p4, p5⟩ := a3
  obtain ⟨o0, o1, o2, o3, o4, o5, o6, o7⟩ := a4
  obtain ⟨i0, i1, i2, i3⟩ := a5
  obtain ⟨m0, m1, m2⟩ := a6
  obtain ⟨⟨f0, f1, f2⟩, f3⟩ := b8
  refine ⟨⟨⟨z0, ?_, ?_, ?_, ?_, ?_, ?_, ?_, ?_, ?_, ?_, ?_, ?_, k1, k2, ?_, ?_⟩, a2.sp (by omega), ⟨p1, by rw [zP_sPk _ _ _ _ (by omega)]; exact p2, by rw [zP_sPk _ _ _ _ (by omega)]; exact p3, p4.sp (by omega), p5.sp (by omega)⟩, ⟨o0, ?_, ?_, ?_, ?_, ?_, ?_, o7⟩, ⟨i0, ?_, ?_, i3⟩, ⟨m0, ?_, m2⟩, a7.sp (by omega), a8.sp (by omega), a9.sp (by omega), a10.sp (by omega)⟩, b2, b3.sp (by omega), ⟨b4.1, fun t ht => (b4.2 t ht).sp (by omega)⟩, b5.sp (by omega), b6, b7, ⟨⟨f0, ?_, f2⟩, f3⟩, b9⟩
  all_goals (rw [zP_sPa _ _ _ _ (by omega)]; assumption)
def tyx (A : AA) : Nat → Nat := fun i => (aIn A).getD i 0
def o_load (A : AA) : Out := match prAll (tyx A) (aIn A).length with
  | .inl e => (1, 0, (aSt A, aHi A, aSv A, [], e.1, (e.2 : Int), aFm A))
  | .inr t => (0, (sRk t : Nat), (t, [], none, [], 0, -1, aFm A))
set_option maxRecDepth 100000 in
theorem c_load (h : CI σ x A) (hQ : ∀ σ', CI σ' x (o_load A).2.2 → Mx σ σ' (xr x) → Q (rs e7 (o_load A)) σ') : zM Γ mX9_load [vR (some x)] σ Q := by
  obtain ⟨z0, z1, z2, z3, z4, z5, z6, z7, z8, z9, z10, z11, z12, k1, k2, k3, k4⟩ := h.xk
  have hI := h.2.1
  have hI9 := hI.2.1
  have hPK := h.1.2.2.1
  refine zM_of (n := 1) (by decide +kernel) rfl rfl rfl ?_
  unfold o_load at hQ
  have htx : ∀ i, i < (aIn A).length → zI σ (x + 1) i = (tyx A i : Int) ∧ tyx A i < 256 := fun i hi => ⟨hI.2.2.1 i hi, by
    apply hI.2.2.2
    unfold tyx
    rw [List.getD_eq_getElem?_getD, List.getElem?_eq_getElem hi]
    exact List.getElem_mem _⟩
  have par : ∀ {σ1} {ek : Nat} {ep : Int}, Md (sP σ (x + 444) 4 (some (x + 1))) σ1 (pp (x + 444)) → zO σ1 (x + 444) 2 = (ek : Int) → zO σ1 (x + 444) 3 = ep → CJ (sO σ1 x 1 0) x (aSt A, aHi A, aSv A, [], ek, ep, aFm A) ∧ Mx σ (sO σ1 x 1 0) (xr x) ∧ zK σ1 x = (9, 0) := by
    intro σ1 ek ep m1 e2 e3
    have hj := h.cj.sp (v := some (x + 1))
    have hm : Mi σ1 (sO σ1 x 1 0) x := ⟨Md.O (Or.inl rfl), fun k hk => zO_sOk _ _ _ _ hk⟩
    have hj1 : CJ σ1 x (aSt A, aHi A, aSv A, aIn A, ek, ep, aFm A) := by
      have no : ∀ a, (a < x + 444 ∨ x + 491 ≤ a) → ¬ pp (x + 444) a := fun a z => by unfold pp; omega
      obtain ⟨a1, a2, a3, a4, a5, a6, a7, a8, a9⟩ := hj
      refine ⟨a1.md m1, a2.md m1 (no _ (by omega)) (no _ (by omega)), a3.md m1 (fun a z => no a (by unfold sp at z; omega)), a4.md m1 (no _ (by omega)) (fun a z => no a (by unfold sp at z; omega)), a5.md m1 (fun a z => no a (by unfold hp at z; omega)), ⟨e2, e3⟩, a7.md m1 (no _ (by omega)) (no _ (by omega)), a8.md m1 (no _ (by omega)) (no _ (by omega)), fun g hg => ?_⟩
      rw [m1.i (no _ (by omega))]; exact a9 g hg
    refine ⟨hj1.inp hm ⟨zO_sOs _ _ _ _, Nat.zero_le _, fun i hi => absurd hi (Nat.not_lt_zero i), fun y hy => by cases hy⟩, ?_, by rw [m1.K]; exact z0⟩
    refine Mx.tr (σ' := σ1) (fun a ha => ?_) hm.mx
    have na : ¬ pp (x + 444) a := fun z => ha (by unfold pp at z; unfold xr; omega)
    have nb : a ≠ x + 444 := fun z => ha (by rw [z]; unfold xr; omega)
    exact ⟨by rw [m1.K]; rfl, m1.o na, m1.i na, m1.j na, by rw [m1.P]; exact funext fun k => zP_sPa _ _ _ _ nb⟩
  refine zW_aload_n dX9_load_0 rfl ?_
  refine zgP dX9_load_1 fX9_33 z0 rfl z5 ?_
  refine zW_aload_n dX9_load_4 rfl ?_
  refine zgP dX9_load_5 fX9_9 z0 rfl z1 ?_
  refine zW_aload_n dX9_load_8 rfl ?_
  refine zgI dX9_load_9 fX9_84 z0 rfl hI.1 ?_
  refine zcV2 dX9_load_12 rfl eX6_parse b576 ⟨by decide, by decide, by decide, by decide⟩ rfl hPK.1 rfl (by decide) (Nat.le_of_ble_eq_true rfl) (p_parse (tx := tyx A) hPK k1 hI9 (by omega) htx (fun e σ1 he hE m1 => ?_) (fun t σ1 ht h9 hS hD m1 => ?_))
  · rw [he] at hQ
    obtain ⟨hj, mx, y0⟩ := par m1 hE.2.1 hE.2.2
    refine zW_istore_n dX9_load_15 (by decide) rfl rfl ?_
    refine zW_aload_n dX9_load_16 rfl ?_
    refine zW_iconst dX9_load_17 ?_
    refine zpI dX9_load_18 fX9_84 y0 rfl (Or.inl rfl) (zst_int _) ?_
    refine zW_iload_n dX9_load_21 rfl ?_
    refine zW_if_ne (tgt := 35) dX9_load_22 (by decide) (by first | assumption | omega | (unfold InR; omega) | (unfold InL; omega) | (simp only [InR] at *; omega)) (fun q => ?_) (fun q => ?_)
    · exact absurd rfl q
    · refine zW_throw (k := 6) zTok_1 (by decide) rfl rfl rfl dX9_load_25 dX9_load_28 dX9_load_29 dX9_load_31 dX9_load_34 (by decide) (Nat.le_of_ble_eq_true rfl) (by decide) (by decide) (fun m => ?_)
      have hC : CI (sO σ1 x 1 0) x (aSt A, aHi A, aSv A, [], e.1, (e.2 : Int), aFm A) := by
        have hc2 : CI (sP σ (x + 444) 4 (some (x + 1))) x A := by
          obtain ⟨b1, b2, b3, b4, b5, b6, b7, b8, b9⟩ := h.cj.sp (v := some (x + 1))
          refine ⟨b1, b2, b3, b4, b5, b6, b7, b8, fun g hg => ?_, h.2.2.2.2.2.2.2.2.2⟩
          have := h.2.2.2.2.2.2.2.2.1 g hg
          exact ⟨this.1, this.2.imp id (fun z => ⟨z.1, ⟨z.2.1.1.sp (by omega), z.2.1.2⟩, z.2.2⟩)⟩
        refine hc2.keep (P := fun a => pp (x + 444) a ∨ a = x) hj rfl ((m1.wk (fun a z => Or.inl z)).tr (Md.O (P := fun a => a = x) rfl) (fun a z => Or.inr z)) (fun a z => ?_)
        unfold bp at z
        unfold pp
        omega
      exact hQ _ hC.sn (mx.tr Mx.sn)
  · rw [ht] at hQ
    obtain ⟨hj, mx, y0⟩ := par m1 (show zO σ1 (x + 444) 2 = ((0 : Nat) : Int) from h9.1) h9.2
    refine zW_istore_n dX9_load_15 (by decide) rfl rfl ?_
    refine zW_aload_n dX9_load_16 rfl ?_
    refine zW_iconst dX9_load_17 ?_
    refine zpI dX9_load_18 fX9_84 y0 rfl (Or.inl rfl) (zst_int _) ?_
    refine zW_iload_n dX9_load_21 rfl ?_
    refine zW_if_ne (tgt := 35) dX9_load_22 (by decide) (by first | assumption | omega | (unfold InR; omega) | (unfold InL; omega) | (simp only [InR] at *; omega)) (fun q => ?_) (fun q => ?_)
    · have hm1 : Md σ1 (sO σ1 x 1 0) (fun a => a = x) := Md.O rfl
      have hT : SD (sO σ1 x 1 0) (x + 445) t := hD.md hm1 (fun a z => by unfold sp at z; omega)
      obtain ⟨z0, z1, z2, z3, z4, z5, z6, z7, z8, z9, z10, z11, z12, k1, k2, k3, k4⟩ := id hj.1.1
      have hPK := hj.1.2.2.1
      have hS2 := hj.2.2.1
      refine zW_aload_n dX9_load_35 rfl ?_
      refine zgP dX9_load_36 fX9_16 z0 rfl z2 ?_
      refine zW_aload_n dX9_load_39 rfl ?_
      refine zgP dX9_load_40 fX9_33 z0 rfl z5 ?_
      refine zgP dX9_load_43 fX9_109 hPK.1 rfl hPK.2.1 ?_
      refine zcV1 dX9_load_46 rfl eX7_copyFrom b500 ⟨by decide, by decide, by decide, by decide⟩ rfl hS2.1.1 rfl (by decide) (Nat.le_of_ble_eq_true rfl) (st_copyFrom hS2.1 hT (by omega) (fun σ2 S2 m2 => ?_))
      have hj2 := hj.state m2 S2
      obtain ⟨z0, z1, z2, z3, z4, z5, z6, z7, z8, z9, z10, z11, z12, k1, k2, k3, k4⟩ := id hj2.1.1
      have hH := hj2.2.2.2.2.1
      refine zW_aload_n dX9_load_49 rfl ?_
      refine zgP dX9_load_50 fX9_26 z0 rfl z4 ?_
      refine zcV0 dX9_load_53 rfl eX3_forget b708 ⟨by decide, by decide, by decide, by decide⟩ rfl hH.1.1 rfl (by decide) (Nat.le_of_ble_eq_true rfl) (h_forget hH (fun σ3 H3 m3 => ?_))
      have hj3 := hj2.hist m3 H3
      obtain ⟨z0, z1, z2, z3, z4, z5, z6, z7, z8, z9, z10, z11, z12, k1, k2, k3, k4⟩ := id hj3.1.1
      refine zW_aload_n dX9_load_56 rfl ?_
      refine zW_iconst dX9_load_57 ?_
      refine zpI dX9_load_58 fX9_119 z0 rfl (Or.inl rfl) zst_0 ?_
      have m4 : Md σ3 (sO σ3 x 4 0) (fun a => a = x) := Md.O rfl
      have hj4 : CJ (sO σ3 x 4 0) x (t, [], none, [], 0, -1, aFm A) := by
        obtain ⟨a1, a2, a3, a4, a5, a6, a7, a8, a9⟩ := hj3
        have no : ∀ a, a ≠ x → ¬ (a = x) := fun a z => z
        refine ⟨a1.md m4, ?_, a3.md m4 (fun a z => no a (by unfold sp at z; omega)), ⟨zO_sOs _ _ _ _, fun t ht => by cases ht⟩, a5.md m4 (fun a z => no a (by unfold hp at z; omega)), ?_, a7.md m4 (no _ (by omega)) (no _ (by omega)), a8.md m4 (no _ (by omega)) (no _ (by omega)), fun g hg => ?_⟩
        · obtain ⟨b1, b2, b3, b4⟩ := a2
          exact ⟨by rw [zO_sOk _ _ _ _ (by omega)]; exact b1, b2, b3, b4⟩
        · rw [m4.o (no _ (by omega))]; exact a6
        · rw [m4.i (no _ (by omega))]; exact a9 g hg
      obtain ⟨z0, z1, z2, z3, z4, z5, z6, z7, z8, z9, z10, z11, z12, k1, k2, k3, k4⟩ := id hj4.1.1
      refine zW_aload_n dX9_load_61 rfl ?_
      refine zcV0 dX9_load_62 rfl eX9_markGraphsStale b712 ⟨by decide, by decide, by decide, by decide⟩ rfl z0 rfl (by decide) (Nat.le_of_ble_eq_true rfl) (c_markGraphsStale hj4 (fun σ5 h5 m5 => ?_))
      obtain ⟨z0, z1, z2, z3, z4, z5, z6, z7, z8, z9, z10, z11, z12, k1, k2, k3, k4⟩ := h5.xk
      have hS5 := h5.st
      refine zW_aload_n dX9_load_65 rfl ?_
      refine zgP dX9_load_66 fX9_16 z0 rfl z2 ?_
      refine zgI dX9_load_69 fX9_126 hS5.1.1 rfl hS5.2.1 ?_
      refine zW_ireturn dX9_load_72 rfl rfl (by first | decide | (show _ ≤ (1 : Nat); omega)) (by first | decide | (show _ ≤ (6 : Nat); omega)) ?_
      exact hQ σ5 h5 ((((mx.tr (m2.mx (fun a z => hps_xr (Or.inr z)))).tr (m3.mx (fun a z => hps_xr (Or.inl z)))).tr (m4.mx (fun a z => by unfold xr; omega))).tr (m5.mx (fun a z => mk3_xr z)))
    · exact absurd q (by decide)
end CALCF
