/-! the reference: representatives, basis words -/
section RREP
variable {Γ : GG} {σ σ' : HS} {Q : Res → HS → Prop} {y g : Nat} {A : AA} {t w : List Nat} {G : GT}
set_option maxRecDepth 100000 in
/-- the way back is reduced -/
theorem wayb_red (ok : GOK G) : ∀ n v, v < gV G → gde G v = n → red (wayb G n v) := by
  intro n
  induction n with
  | zero => exact fun v _ _ => red_nil
  | succ n ih =>
    intro v hv hd
    have v1 := gde_pos ok hv (by omega)
    obtain ⟨k1, k2, k3, k4⟩ := ok.2.2.2.2.1 v v1 hv
    have hr := ih (gpa G v) (by omega) (by omega)
    show red ([gpc G v ^^^ 1] ++ wayb G n (gpa G v))
    refine red_app (red_1 _) hr (fun _ h0 => ?_)
    cases n with
    | zero => exact absurd (show 0 < ([] : List Nat).length from h0) (by decide)
    | succ n =>
      have u1 := gde_pos ok (v := gpa G v) (by omega) (by omega)
      obtain ⟨j1, j2, j3, j4⟩ := ok.2.2.2.2.1 (gpa G v) u1 (by omega)
      show gpc G v ^^^ 1 ≠ (gpc G (gpa G v) ^^^ 1) ^^^ 1
      intro e
      have e2 : gpc G v = gpc G (gpa G v) ^^^ 1 := by
        have := congrArg (fun z => z ^^^ 1) e
        simp only [xx1] at this
        exact this
      have := ok.2.2.2.1 _ _ _ (by omega) j2 j3
      rw [← e2, k3] at this
      omega
set_option maxRecDepth 100000 in
theorem rpw_is (ok : GOK G) {v : Nat} (hv : v < gV G) : rpw G v = pws [] (invw (wayb G (gde G v) v)) := by
  unfold rpw
  rw [pws_r (wayb_red ok _ v hv rfl)]
def up (G : GT) : Nat → Nat → Nat
  | 0, v => v
  | n + 1, v => up G n (gpa G v)
set_option maxRecDepth 100000 in
theorem up_s (G : GT) : ∀ n v, up G (n + 1) v = gpa G (up G n v) := by
  intro n
  induction n with
  | zero => exact fun v => rfl
  | succ n ih => exact fun v => ih (gpa G v)
set_option maxRecDepth 100000 in
theorem up_v (ok : GOK G) {v : Nat} (hv : v < gV G) : ∀ n, n ≤ gde G v → up G n v < gV G ∧ gde G (up G n v) + n = gde G v := by
  intro n
  induction n with
  | zero => exact fun _ => ⟨hv, rfl⟩
  | succ n ih =>
    intro hn
    obtain ⟨h1, h2⟩ := ih (by omega)
    have v1 := gde_pos ok h1 (by omega)
    obtain ⟨k1, k2, k3, k4⟩ := ok.2.2.2.2.1 _ v1 h1
    rw [up_s]
    exact ⟨by omega, by omega⟩
set_option maxRecDepth 100000 in
theorem r_pushesRepresentative {v : Nat} (h : RK σ y) (hG : RG σ y g G) (hg : g < 2) (ok : GOK G) (hv : v < gV G) (hd : gde G v ≤ 60) (hp : RP σ y []) (hQ : ∀ σ', RP σ' y (rpw G v) → Mr σ σ' y [13] [4] → Q (.inl none) σ') : zM Γ mX10_pushesRepresentative [vR (some y), vI g, vI v] σ Q := by
  have v9 := ok.2.1
  have upv := up_v ok hv
  rw [rpw_is ok hv] at hQ
  generalize hD : gde G v = D at hd upv hQ
  refine zM_of (n := 3) (by decide +kernel) rfl rfl rfl ?_
  have outer : ∀ m k σ1 z4 z5, k + m = D → RP σ1 y (pws [] (invw (wayb G k (up G (D - k) v)))) → Mr σ σ1 y [13] [4] → zW Γ mX10_pushesRepresentative 2 [some (vR (some y)), some (vI g), some (vI v), some (vI ((k : Int) + 1)), z4, z5] [] σ1 0 0 Q := by
    intro m
    induction m with
    | zero =>
      intro k σ1 z4 z5 hk hp1 m1
      have k1 := h.mr m1
      have hG1 := hG.mr m1
      refine zW_iload_n dX10_pushesRepresentative_2 rfl ?_
      refine zW_aload_n dX10_pushesRepresentative_3 rfl ?_
      refine zW_iload_n dX10_pushesRepresentative_4 rfl ?_
      refine zW_iload_n dX10_pushesRepresentative_5 rfl ?_
      refine zcV2 dX10_pushesRepresentative_6 rfl eX10_depthOf b1772 ⟨by decide, by decide, by decide, by decide⟩ rfl k1.1 rfl (by decide) (Nat.le_of_ble_eq_true rfl) (r_depthOf k1 hG1 hg ok hv ?_)
      rw [hD]
      refine zW_icmp_gt (tgt := 73) dX10_pushesRepresentative_9 (by decide) (by first | assumption | omega | (unfold InR; omega) | (unfold InL; omega) | (simp only [InR] at *; omega)) (by first | assumption | omega | (unfold InR; omega) | (unfold InL; omega) | (simp only [InR] at *; omega)) (fun b => ?_) (fun b => ?_)
      · refine zW_return dX10_pushesRepresentative_73 rfl (by first | decide | (show _ ≤ (0 : Nat); omega)) (by first | decide | (show _ ≤ (0 : Nat); omega)) ?_
        have : k = D := by omega
        subst this
        rw [Nat.sub_self] at hp1
        exact hQ σ1 hp1 m1
      · exact absurd b (by omega)
    | succ m ih =>
      intro k σ1 z4 z5 hk hp1 m1
      have k1 := h.mr m1
      have hG1 := hG.mr m1
      have hll : (pws [] (invw (wayb G k (up G (D - k) v)))).length ≤ k := by
        have := pws_len (invw (wayb G k (up G (D - k) v))) []
        rw [invw_len, wayb_len] at this
        have e : ([] : List Nat).length = 0 := rfl
        omega
      have inner : ∀ n j, j + n = D - (k + 1) → zW Γ mX10_pushesRepresentative 23 [some (vR (some y)), some (vI g), some (vI v), some (vI ((k : Int) + 1)), some (vI (up G j v)), some (vI ((D - j : Nat) : Int))] [] σ1 0 0 Q := by
        intro n
        induction n with
        | zero =>
          intro j hj
          obtain ⟨u1, u2⟩ := upv j (by omega)
          have w1 := gde_pos ok u1 (by omega)
          obtain ⟨q1, q2, q3, q4⟩ := ok.2.2.2.2.1 _ w1 u1
          have hc := (hG1.2.2.2 (up G j v) w1 u1).2
          have hj2 : j = D - (k + 1) := by omega
          have hup : up G (D - k) v = gpa G (up G j v) := by rw [← up_s, show j + 1 = D - k by omega]
          refine zW_iload dX10_pushesRepresentative_23 rfl ?_
          refine zW_iload_n dX10_pushesRepresentative_25 rfl ?_
          refine zW_icmp_le (tgt := 50) dX10_pushesRepresentative_26 (by decide) (by first | assumption | omega | (unfold InR; omega) | (unfold InL; omega) | (simp only [InR] at *; omega)) (by first | assumption | omega | (unfold InR; omega) | (unfold InL; omega) | (simp only [InR] at *; omega)) (fun b => ?_) (fun b => ?_)
          · refine zW_aload_n dX10_pushesRepresentative_50 rfl ?_
            refine zW_aload_n dX10_pushesRepresentative_51 rfl ?_
            refine zgP dX10_pushesRepresentative_52 fX10_50 k1.1 rfl k1.p_cameBy ?_
            refine zW_sipush dX10_pushesRepresentative_55 (by decide) ?_
            refine zW_iload_n dX10_pushesRepresentative_58 rfl ?_
            refine zW_imul dX10_pushesRepresentative_59 ?_
            refine zW_iload dX10_pushesRepresentative_60 rfl ?_
            refine zW_iadd dX10_pushesRepresentative_62 ?_
            refine zrI dX10_pushesRepresentative_63 k1.k_cameBy (by first | assumption | omega | (unfold InR; omega) | (unfold InL; omega) | (simp only [InR] at *; omega)) (by first | assumption | omega | (unfold InR; omega) | (unfold InL; omega) | (simp only [InR] at *; omega)) (by first | assumption | omega | (unfold InR; omega) | (unfold InL; omega) | (simp only [InR] at *; omega)) (zix (f := zI σ1 (y + 13)) (j := 361 * g + up G j v) (by omega) hc) ?_
            refine zcV1 dX10_pushesRepresentative_64 rfl eX10_pushes b1447 ⟨by decide, by decide, by decide, by decide⟩ rfl k1.1 rfl (by decide) (Nat.le_of_ble_eq_true rfl) (r_pushes k1 hp1 q2 (by omega) (fun σ2 hp2 m2 => ?_))
            refine zW_iinc dX10_pushesRepresentative_67 rfl (by decide) rfl rfl ?_
            refine zW_goto (tgt := 2) dX10_pushesRepresentative_70 (by decide) ?_
            refine ih (k + 1) σ2 _ _ (by omega) ?_ (m1.tr m2)
            have ew : pws [] (invw (wayb G (k + 1) (up G (D - (k + 1)) v))) = pw (pws [] (invw (wayb G k (up G (D - k) v)))) (gpc G (up G j v)) := by
              show pws [] (invw ((gpc G (up G (D - (k + 1)) v) ^^^ 1) :: wayb G k (gpa G (up G (D - (k + 1)) v)))) = _
              rw [invw_cons, pws_app, xx1, ← hj2, ← hup]
              rfl
            rw [ew]
            exact hp2
          · exact absurd b (by omega)
        | succ n ih2 =>
          intro j hj
          obtain ⟨u1, u2⟩ := upv j (by omega)
          have w1 := gde_pos ok u1 (by omega)
          obtain ⟨q1, q2, q3, q4⟩ := ok.2.2.2.2.1 _ w1 u1
          have hc := (hG1.2.2.2 (up G j v) w1 u1).1
          refine zW_iload dX10_pushesRepresentative_23 rfl ?_
          refine zW_iload_n dX10_pushesRepresentative_25 rfl ?_
          refine zW_icmp_le (tgt := 50) dX10_pushesRepresentative_26 (by decide) (by first | assumption | omega | (unfold InR; omega) | (unfold InL; omega) | (simp only [InR] at *; omega)) (by first | assumption | omega | (unfold InR; omega) | (unfold InL; omega) | (simp only [InR] at *; omega)) (fun b => ?_) (fun b => ?_)
          · exact absurd b (by omega)
          · refine zW_aload_n dX10_pushesRepresentative_29 rfl ?_
            refine zgP dX10_pushesRepresentative_30 fX10_47 k1.1 rfl k1.p_cameFrom ?_
            refine zW_sipush dX10_pushesRepresentative_33 (by decide) ?_
            refine zW_iload_n dX10_pushesRepresentative_36 rfl ?_
            refine zW_imul dX10_pushesRepresentative_37 ?_
            refine zW_iload dX10_pushesRepresentative_38 rfl ?_
            refine zW_iadd dX10_pushesRepresentative_40 ?_
            refine zrI dX10_pushesRepresentative_41 k1.k_cameFrom (by first | assumption | omega | (unfold InR; omega) | (unfold InL; omega) | (simp only [InR] at *; omega)) (by first | assumption | omega | (unfold InR; omega) | (unfold InL; omega) | (simp only [InR] at *; omega)) (by first | assumption | omega | (unfold InR; omega) | (unfold InL; omega) | (simp only [InR] at *; omega)) (zix (f := zI σ1 (y + 12)) (j := 361 * g + up G j v) (by omega) hc) ?_
            refine zW_istore dX10_pushesRepresentative_42 (by decide) rfl rfl ?_
            refine zW_iinc dX10_pushesRepresentative_44 rfl (by decide) rfl rfl ?_
            refine zW_goto (tgt := 23) dX10_pushesRepresentative_47 (by decide) ?_
            have := ih2 (j + 1) (by omega)
            rw [up_s] at this
            have e9 : ((D - j : Nat) : Int) + -1 = ((D - (j + 1) : Nat) : Int) := by omega
            rw [e9]
            exact this
      refine zW_iload_n dX10_pushesRepresentative_2 rfl ?_
      refine zW_aload_n dX10_pushesRepresentative_3 rfl ?_
      refine zW_iload_n dX10_pushesRepresentative_4 rfl ?_
      refine zW_iload_n dX10_pushesRepresentative_5 rfl ?_
      refine zcV2 dX10_pushesRepresentative_6 rfl eX10_depthOf b1772 ⟨by decide, by decide, by decide, by decide⟩ rfl k1.1 rfl (by decide) (Nat.le_of_ble_eq_true rfl) (r_depthOf k1 hG1 hg ok hv ?_)
      rw [hD]
      refine zW_icmp_gt (tgt := 73) dX10_pushesRepresentative_9 (by decide) (by first | assumption | omega | (unfold InR; omega) | (unfold InL; omega) | (simp only [InR] at *; omega)) (by first | assumption | omega | (unfold InR; omega) | (unfold InL; omega) | (simp only [InR] at *; omega)) (fun b => ?_) (fun b => ?_)
      · exact absurd b (by omega)
      · refine zW_iload_n dX10_pushesRepresentative_12 rfl ?_
        refine zW_istore dX10_pushesRepresentative_13 (by decide) rfl rfl ?_
        refine zW_aload_n dX10_pushesRepresentative_15 rfl ?_
        refine zW_iload_n dX10_pushesRepresentative_16 rfl ?_
        refine zW_iload_n dX10_pushesRepresentative_17 rfl ?_
        refine zcV2 dX10_pushesRepresentative_18 rfl eX10_depthOf b1772 ⟨by decide, by decide, by decide, by decide⟩ rfl k1.1 rfl (by decide) (Nat.le_of_ble_eq_true rfl) (r_depthOf k1 hG1 hg ok hv ?_)
        rw [hD]
        refine zW_istore dX10_pushesRepresentative_21 (by decide) rfl rfl ?_
        exact inner (D - (k + 1)) 0 (by omega)
  refine zW_iconst dX10_pushesRepresentative_0 ?_
  refine zW_istore_n dX10_pushesRepresentative_1 (by decide) rfl rfl ?_
  exact outer D 0 σ _ _ (by omega) hp Mr.rf
set_option maxRecDepth 100000 in
theorem wl60r (h : RI σ y A) (hg : g < 2) : ∀ w ∈ sGw (aSt A) g, lt8 w ∧ w.length ≤ 60 := by
  intro w hw
  obtain ⟨k, k1, k2⟩ := mem_getD hw
  have := h.2.2.1.gw hg k1
  rw [k2] at this
  exact ⟨this.2.2.2, this.2.1⟩
set_option maxRecDepth 100000 in
theorem q_formatRepresentative {f v : Int} (h : RI σ y A) (if_ : InR f) (iv : InR v) (hQ : RQ σ y (o_formatRepresentative A f v) Q) : zM Γ mX10_formatRepresentative [vR (some y), vI f, vI v] σ Q := by
  refine zM_of (n := 0) (by decide +kernel) rfl rfl rfl ?_
  refine zW_aload_n dX10_formatRepresentative_0 rfl ?_
  refine zW_iconst dX10_formatRepresentative_1 ?_
  refine zpI dX10_formatRepresentative_2 fX10_75 h.1.1 rfl (Or.inl rfl) (zst_int _) ?_
  have m0 : Mr σ (sO σ y 0 0) y KS RS := Mr.O (by decide)
  have h0 := h.mr m0
  have t0 : zO (sO σ y 0 0) y 0 = 0 := zO_sOs _ _ _ _
  generalize sO σ y 0 0 = σ0 at m0 h0 t0 ⊢
  have a0 : RA σ0 y 0 := h0.ra
  refine zW_aload_n dX10_formatRepresentative_5 rfl ?_
  refine zW_iload_n dX10_formatRepresentative_6 rfl ?_
  refine zW_iload_n dX10_formatRepresentative_7 rfl ?_
  refine zcV2 dX10_formatRepresentative_8 rfl eX10_isVertex b1696 ⟨by decide, by decide, by decide, by decide⟩ rfl a0.1.1 rfl (by decide) (Nat.le_of_ble_eq_true rfl) (q_isVertex h0 if_ iv (fun fk vk σ1 hG hIs h1 m1 => ?_) (fun σ1 hno m1 => ?_))
  · have ok := hIs.ok
    have hf2 : f.toNat < 2 := by unfold inR2 at fk; omega
    have ef : f = ((f.toNat : Nat) : Int) := by unfold inR2 at fk; omega
    have k1 := h1.1
    have m01 : Mr σ σ1 y KS RS := m0.th m1 (by decide) (by decide)
    have t1 : zO σ1 y 0 = 0 := by rw [m1.o (by decide)]; exact t0
    have hv : v.toNat < gV (gr A f) := by omega
    have hd := gde_60 hIs (wl60r h hf2) hv
    have ho : o_formatRepresentative A f v = (0, ((((rpw (gr A f) v.toNat).map lco).length : Nat) : Int), aWfm A ((rpw (gr A f) v.toNat).map lco)) := by
      unfold o_formatRepresentative
      rw [if_pos fk, if_pos vk]
    have hr := rpw_len (gr A f) v.toNat
    refine zW_if_ne (tgt := 20) dX10_formatRepresentative_11 (by decide) (by first | assumption | omega | (unfold InR; omega) | (unfold InL; omega) | (simp only [InR] at *; omega)) (fun q => ?_) (fun q => ?_)
    · refine zW_aload_n dX10_formatRepresentative_20 rfl ?_
      refine zcV0 dX10_formatRepresentative_21 rfl eX10_begins b1431 ⟨by decide, by decide, by decide, by decide⟩ rfl k1.1 rfl (by decide) (Nat.le_of_ble_eq_true rfl) (r_begins k1 (fun σ2 p2 m2 => ?_))
      have k2 := k1.mr m2
      have hcall : ∀ R, (∀ σ', RP σ' y (rpw (gr A f) v.toNat) → Mr σ2 σ' y [13] [4] → R (.inl none) σ') → zM Γ mX10_pushesRepresentative [vR (some y), vI f, vI v] σ2 R := fun R hR => by
        have := r_pushesRepresentative (Γ := Γ) (Q := R) (v := v.toNat) k2 (hG.mr m2) hf2 ok hv hd p2 hR
        rw [← ef, show ((v.toNat : Nat) : Int) = v by omega] at this
        exact this
      refine zW_aload_n dX10_formatRepresentative_24 rfl ?_
      refine zW_iload_n dX10_formatRepresentative_25 rfl ?_
      refine zW_iload_n dX10_formatRepresentative_26 rfl ?_
      refine zcV2 dX10_formatRepresentative_27 rfl eX10_pushesRepresentative b1871 ⟨by decide, by decide, by decide, by decide⟩ rfl k2.1 rfl (by decide) (Nat.le_of_ble_eq_true rfl) (hcall _ (fun σ3 p3 m3 => ?_))
      have k3 := k2.mr m3
      refine zW_aload_n dX10_formatRepresentative_30 rfl ?_
      refine zcV0 dX10_formatRepresentative_31 rfl eX10_writesWork b1875 ⟨by decide, by decide, by decide, by decide⟩ rfl k3.1 rfl (by decide) (Nat.le_of_ble_eq_true rfl) (r_writesWork k3 p3 (by omega) (fun σ4 F4 m4 => ?_))
      refine zW_ireturn dX10_formatRepresentative_34 rfl rfl (by first | decide | (show _ ≤ (0 : Nat); omega)) (by first | decide | (show _ ≤ (0 : Nat); omega)) ?_
      have m14 : Mr σ σ4 y KF RSF := (((m01.wk (by decide) (by decide)).th m2 (by decide) (by decide)).th m3 (by decide) (by decide)).th m4 (by decide) (by decide)
      unfold RQ at hQ
      rw [ho] at hQ
      exact hQ σ4 _ (h.fm m14 F4) (by rw [m4.o (by decide), m3.o (by decide), m2.o (by decide)]; exact t1) (m14.md (by decide)) (fun _ => rfl)
    · exact absurd q (by decide)
  · have m01 : Mr σ σ1 y KS RS := m0.th m1 (by decide) (by decide)
    have a1 := a0.mr m1
    have ho : o_formatRepresentative A f v = (1, 0, A) := by
      unfold o_formatRepresentative
      by_cases fk : inR2 f
      · rw [if_pos fk, if_neg (fun z => hno ⟨fk, z⟩)]
      · rw [if_neg fk]
    refine zW_if_ne (tgt := 20) dX10_formatRepresentative_11 (by decide) (by first | assumption | omega | (unfold InR; omega) | (unfold InL; omega) | (simp only [InR] at *; omega)) (fun q => ?_) (fun q => ?_)
    · exact absurd rfl q
    · refine zW_aload_n dX10_formatRepresentative_14 rfl ?_
      refine zW_iconst dX10_formatRepresentative_15 ?_
      refine zcV1 dX10_formatRepresentative_16 rfl eX10_fails b1371 ⟨by decide, by decide, by decide, by decide⟩ rfl a1.1.1 rfl (by decide) (Nat.le_of_ble_eq_true rfl) (r_fails a1.1 ?_)
      refine zW_ireturn dX10_formatRepresentative_19 rfl rfl (by first | decide | (show _ ≤ (0 : Nat); omega)) (by first | decide | (show _ ≤ (0 : Nat); omega)) ?_
      exact hQ.bad (k := 0) ho h (m01.th (Mr.O (Ks := KS) (Rs := RS) (by decide)) (fun _ z => z) (fun _ z => z)) (zO_sOs _ _ _ _)
set_option maxRecDepth 100000 in
theorem q_formattedCharacter {i : Int} (h : RI σ y A) (ii : InR i) (hQ : RQ σ y (o_formattedCharacter A i) Q) : zM Γ mX10_formattedCharacter [vR (some y), vI i] σ Q := by
  refine zM_of (n := 0) (by decide +kernel) rfl rfl rfl ?_
  refine zW_aload_n dX10_formattedCharacter_0 rfl ?_
  refine zW_iconst dX10_formattedCharacter_1 ?_
  refine zpI dX10_formattedCharacter_2 fX10_75 h.1.1 rfl (Or.inl rfl) (zst_int _) ?_
  have m0 : Mr σ (sO σ y 0 0) y KS RS := Mr.O (by decide)
  have h0 := h.mr m0
  have t0 : zO (sO σ y 0 0) y 0 = 0 := zO_sOs _ _ _ _
  generalize sO σ y 0 0 = σ0 at m0 h0 t0 ⊢
  have a0 : RA σ0 y 0 := h0.ra
  have hF := h0.2.2.2.2.2.2.2
  have hF9 := hF.2.1
  have bd : ¬ (0 ≤ i ∧ i < ((aFm A).length : Nat)) → zW Γ mX10_formattedCharacter 17 [some (vR (some y)), some (vI i)] [] σ0 0 0 Q := by
    intro hno
    have ho : o_formattedCharacter A i = (1, 0, A) := if_neg hno
    refine zW_aload_n dX10_formattedCharacter_17 rfl ?_
    refine zW_iconst dX10_formattedCharacter_18 ?_
    refine zcV1 dX10_formattedCharacter_19 rfl eX10_fails b1371 ⟨by decide, by decide, by decide, by decide⟩ rfl a0.1.1 rfl (by decide) (Nat.le_of_ble_eq_true rfl) (r_fails a0.1 ?_)
    refine zW_i2cN dX10_formattedCharacter_22 (show (0 : Int) = ((0 : Nat) : Int) from rfl) (by decide) ?_
    refine zW_goto (tgt := 32) dX10_formattedCharacter_23 (by decide) ?_
    refine zW_ireturn dX10_formattedCharacter_32 rfl (znc 0 (by decide)) (by first | decide | (show _ ≤ (0 : Nat); omega)) (by first | decide | (show _ ≤ (0 : Nat); omega)) ?_
    exact hQ.bad (k := 0) ho h (m0.th (Mr.O (Ks := KS) (Rs := RS) (by decide)) (fun _ z => z) (fun _ z => z)) (zO_sOs _ _ _ _)
  refine zW_iload_n dX10_formattedCharacter_5 rfl ?_
  refine zW_if_lt (tgt := 17) dX10_formattedCharacter_6 (by decide) (by first | assumption | omega | (unfold InR; omega) | (unfold InL; omega) | (simp only [InR] at *; omega)) (fun q => ?_) (fun q => ?_)
  · exact bd (by omega)
  · refine zW_iload_n dX10_formattedCharacter_9 rfl ?_
    refine zW_aload_n dX10_formattedCharacter_10 rfl ?_
    refine zgI dX10_formattedCharacter_11 fX10_371 a0.1.1 rfl hF.1 ?_
    refine zW_icmp_lt (tgt := 26) dX10_formattedCharacter_14 (by decide) (by first | assumption | omega | (unfold InR; omega) | (unfold InL; omega) | (simp only [InR] at *; omega)) (by first | assumption | omega | (unfold InR; omega) | (unfold InL; omega) | (simp only [InR] at *; omega)) (fun q2 => ?_) (fun q2 => ?_)
    · have hx : (aFm A).getD i.toNat 0 < 256 := by
        apply hF.2.2.2
        rw [List.getD_eq_getElem?_getD, List.getElem?_eq_getElem (by omega)]
        exact List.getElem_mem _
      refine zW_aload_n dX10_formattedCharacter_26 rfl ?_
      refine zgP dX10_formattedCharacter_27 fX10_17 a0.1.1 rfl a0.1.p_formatted ?_
      refine zW_iload_n dX10_formattedCharacter_30 rfl ?_
      refine zrC dX10_formattedCharacter_31 a0.1.k_formatted (by first | assumption | omega | (unfold InR; omega) | (unfold InL; omega) | (simp only [InR] at *; omega)) (by first | assumption | omega | (unfold InR; omega) | (unfold InL; omega) | (simp only [InR] at *; omega)) (by first | assumption | omega | (unfold InR; omega) | (unfold InL; omega) | (simp only [InR] at *; omega)) (hF.2.2.1 i.toNat (by omega)) ?_
      refine zW_ireturn dX10_formattedCharacter_32 rfl (znc _ hx) (by first | decide | (show _ ≤ (0 : Nat); omega)) (by first | decide | (show _ ≤ (0 : Nat); omega)) ?_
      exact hQ.ask (if_pos ⟨by omega, by omega⟩) h m0 t0
    · exact bd (by omega)
end RREP
