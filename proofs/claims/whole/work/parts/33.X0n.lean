/-! Folding: the vertices are numbered -/
def tS (T : TB) : Nat → Nat → Option Nat := fun u c => if c < 8 ∧ T u c ≠ -1 then some (T u c).toNat else none
set_option maxRecDepth 100000 in
theorem tS_some {T : TB} {u c w : Nat} (hc : c < 8) (h : T u c = (w : Int)) : tS T u c = some w := by
  unfold tS
  rw [if_pos ⟨hc, by omega⟩, h]
  rfl
set_option maxRecDepth 100000 in
theorem tS_none {T : TB} {u c : Nat} (h : T u c = -1) : tS T u c = none := by
  unfold tS
  rw [if_neg (fun z => z.2 h)]
set_option maxRecDepth 100000 in
theorem nds_len : ∀ (n : Nat) (L : List Nat), NDs L → (∀ x ∈ L, x < n) → L.length ≤ n := by
  intro n
  induction n with
  | zero =>
    intro L _ h
    cases L with
    | nil => exact Nat.le_refl _
    | cons x L => exact absurd (h x List.mem_cons_self) (Nat.not_lt_zero x)
  | succ n ih =>
    intro L hd h
    by_cases q : n ∈ L
    · obtain ⟨i, hi⟩ := List.getElem?_of_mem q
      have hil := (List.getElem?_eq_some_iff.mp hi).1
      have hget : ∀ j (x : Nat), (L.eraseIdx i)[j]? = some x → L[if j < i then j else j + 1]? = some x := by
        intro j x hx
        rw [List.getElem?_eraseIdx] at hx
        split at hx
        · rename_i z; rw [if_pos z]; exact hx
        · rename_i z; rw [if_neg z]; exact hx
      have := ih (L.eraseIdx i) (fun a b x ha hb => ?_) (fun x hx => ?_)
      · rw [List.length_eraseIdx, if_pos hil] at this
        omega
      · have e := hd _ _ x (hget a x ha) (hget b x hb)
        split at e <;> split at e <;> omega
      · obtain ⟨j, hj⟩ := List.getElem?_of_mem hx
        have hj2 := hget j x hj
        have h1 := h x (List.mem_of_getElem? hj2)
        rcases Nat.lt_or_ge x n with z | z
        · exact z
        · have e : x = n := by omega
          rw [e] at hj2
          have := hd _ _ n hj2 hi
          split at this <;> omega
    · have := ih L hd (fun x hx => by
        have := h x hx
        rcases Nat.lt_or_ge x n with z | z
        · exact z
        · have e : x = n := by omega
          rw [e] at hx
          exact absurd hx q)
      omega
/-- how many edges, of the first m edge numbers -/
def ecn (T : TB) (L : List Nat) (m : Nat) : Nat := ((List.range m).filter (fun e => decide (T (L.getD (e / 4) 0) (2 * (e % 4)) ≠ -1))).length
set_option maxRecDepth 100000 in
theorem ecn_succ (T : TB) (L : List Nat) (m : Nat) : ecn T L (m + 1) = ecn T L m + if T (L.getD (m / 4) 0) (2 * (m % 4)) ≠ -1 then 1 else 0 := by
  unfold ecn
  rw [List.range_succ, List.filter_append, List.length_append]
  congr 1
  simp only [List.filter_cons, List.filter_nil]
  by_cases q : T (L.getD (m / 4) 0) (2 * (m % 4)) ≠ -1
  · rw [if_pos (by rw [decide_eq_true_iff]; exact q), if_pos q]; rfl
  · rw [if_neg (by rw [decide_eq_true_iff]; exact q), if_neg q]; rfl
set_option maxRecDepth 100000 in
theorem ecn_app (T : TB) (L r : List Nat) (m : Nat) (h : m ≤ 4 * L.length) : ecn T (L ++ r) m = ecn T L m := by
  induction m with
  | zero => rfl
  | succ m ih =>
    rw [ecn_succ, ecn_succ, ih (by omega)]
    have : (L ++ r).getD (m / 4) 0 = L.getD (m / 4) 0 := by
      rw [List.getD_eq_getElem?_getD, List.getD_eq_getElem?_getD, List.getElem?_append_left (by omega)]
    rw [this]
def NV (σ : HS) (o b : Nat) (T : TB) (L : List Nat) (k m : Nat) : Prop :=
  (∀ u c, u < 355 → c < 8 → zI σ (o + 1) (8 * u + c) = T u c) ∧
  (∀ (i w : Nat), L[i]? = some w → zI σ (o + 5) w = (i : Int) ∧ zI σ (o + 6) i = (w : Int)) ∧
  (∀ w, w < 355 → w ∉ L → zI σ (o + 5) w = -1) ∧
  zO σ b 4 = (L.length : Int) ∧ zO σ b 5 = (ecn T L m : Int) ∧
  (∀ (n c v : Nat), 8 * n + c < k → c < 8 → L[n]? = some v → (T v c = -1 → zI σ (b + 1) (8 * n + c) = -1) ∧ ∀ w : Nat, T v c = (w : Int) → ∃ i : Nat, L[i]? = some w ∧ zI σ (b + 1) (8 * n + c) = (i : Int)) ∧
  (∀ i, 1 ≤ i → i < L.length → ∃ p q d : Nat, zI σ (b + 2) i = (p : Int) ∧ zI σ (b + 3) i = (q : Int) ∧ q < 8 ∧ (fnd (tS T) 0 (8 * p + q)).length = i ∧ (fnd (tS T) 0 (8 * p + q + 1)).length = i + 1 ∧ p < i ∧ zI σ (b + 4) i = (d : Int) + 1 ∧ zI σ (b + 4) p = (d : Int)) ∧
  zI σ (b + 4) 0 = 0
section NUMBER
variable {Γ : GG} {σ : HS} {Q : Res → HS → Prop} {o b : Nat} {T : TB} {used : Nat}
def np (o b : Nat) : Nat → Prop := fun a => (a = o + 5 ∨ a = o + 6) ∨ bp b a
def nq (o b : Nat) : Nat → Prop := fun a => op7 o a ∨ bp b a
set_option maxRecDepth 100000 in
theorem v_reach {L : List Nat} {n c k m to v : Nat} (hO : FOK σ o) (hG : GK σ b) (hd : o + 7 ≤ b ∨ b + 5 ≤ o) (h : NV σ o b T L k m) (hL : L.length < 355) (hto : to < 355) (hnew : to ∉ L) (hc : c < 8) (hn : L[n]? = some v) (hk : fnd (tS T) 0 (8 * n + c) = L) (hk1 : fnd (tS T) 0 (8 * n + c + 1) = L ++ [to]) (hm : m ≤ 4 * L.length) (hkk : k ≤ 8 * L.length)
    (hQ : ∀ σ', NV σ' o b T (L ++ [to]) k m → Md σ σ' (np o b) → Q (.inl none) σ') : zM Γ mX0_reach [vR (some o), vR (some b), vI to, vI n, vI c] σ Q := by
  obtain ⟨h0, -, -, -, -, h5, h6, -, -, -, -, k5, k6⟩ := id hO
  obtain ⟨g0, g1, g2, g3, g4, f1, f2, f3, f4⟩ := id hG
  obtain ⟨n1, n2, n3, n4, n5, n6, n7, n8⟩ := id h
  have hnl := (List.getElem?_eq_some_iff.mp hn).1
  obtain ⟨dp, hdp⟩ : ∃ d : Nat, zI σ (b + 4) n = (d : Int) := by
    rcases Nat.eq_zero_or_pos n with e | e
    · exact ⟨0, by rw [e]; exact n8⟩
    · obtain ⟨p, q, d, -, -, -, -, -, -, e2, -⟩ := n7 n e hnl
      exact ⟨d + 1, by rw [e2]; rfl⟩
  refine zM_of (n := 1) (by decide +kernel) rfl rfl rfl ?_
  have hnd : n ≠ L.length := by omega
  refine zW_aload_n dX0_reach_0 rfl ?_
  refine zgI dX0_reach_1 fX0_99 g0 rfl n4 ?_
  refine zW_istore dX0_reach_4 (by decide) rfl rfl ?_
  refine zW_iload dX0_reach_6 rfl ?_
  refine zW_sipush dX0_reach_8 (by decide) ?_
  refine zW_icmp_ge (tgt := 70) dX0_reach_11 (by decide) (by first | assumption | omega | (unfold InR; omega) | (unfold InL; omega) | (simp only [InR] at *; omega)) (by first | assumption | omega | (unfold InR; omega) | (unfold InL; omega) | (simp only [InR] at *; omega)) (fun q => ?_) (fun q => ?_)
  · exact absurd q (by omega)
  · refine zW_aload_n dX0_reach_14 rfl ?_
    refine zgP dX0_reach_15 fX0_24 h0 rfl h5 ?_
    refine zW_iload_n dX0_reach_18 rfl ?_
    refine zW_iload dX0_reach_19 rfl ?_
    refine zW_iast dX0_reach_21 k5 (by first | assumption | omega | (unfold InR; omega) | (unfold InL; omega) | (simp only [InR] at *; omega)) (by first | assumption | omega | (unfold InR; omega) | (unfold InL; omega) | (simp only [InR] at *; omega)) (by first | assumption | omega | (unfold InR; omega) | (unfold InL; omega) | (simp only [InR] at *; omega)) ?_
    refine zW_aload_n dX0_reach_22 rfl ?_
    refine zgP dX0_reach_23 fX0_27 h0 rfl h6 ?_
    refine zW_iload dX0_reach_26 rfl ?_
    refine zW_iload_n dX0_reach_28 rfl ?_
    refine zW_iast dX0_reach_29 k6 (by first | assumption | omega | (unfold InR; omega) | (unfold InL; omega) | (simp only [InR] at *; omega)) (by first | assumption | omega | (unfold InR; omega) | (unfold InL; omega) | (simp only [InR] at *; omega)) (by first | assumption | omega | (unfold InR; omega) | (unfold InL; omega) | (simp only [InR] at *; omega)) ?_
    refine zW_aload_n dX0_reach_30 rfl ?_
    refine zgP dX0_reach_31 fX0_116 g0 rfl g2 ?_
    refine zW_iload dX0_reach_34 rfl ?_
    refine zW_iload_n dX0_reach_36 rfl ?_
    refine zW_iast dX0_reach_37 f2 (by first | assumption | omega | (unfold InR; omega) | (unfold InL; omega) | (simp only [InR] at *; omega)) (by first | assumption | omega | (unfold InR; omega) | (unfold InL; omega) | (simp only [InR] at *; omega)) (by first | assumption | omega | (unfold InR; omega) | (unfold InL; omega) | (simp only [InR] at *; omega)) ?_
    refine zW_aload_n dX0_reach_38 rfl ?_
    refine zgP dX0_reach_39 fX0_119 g0 rfl g3 ?_
    refine zW_iload dX0_reach_42 rfl ?_
    refine zW_iload dX0_reach_44 rfl ?_
    refine zW_iast dX0_reach_46 f3 (by first | assumption | omega | (unfold InR; omega) | (unfold InL; omega) | (simp only [InR] at *; omega)) (by first | assumption | omega | (unfold InR; omega) | (unfold InL; omega) | (simp only [InR] at *; omega)) (by first | assumption | omega | (unfold InR; omega) | (unfold InL; omega) | (simp only [InR] at *; omega)) ?_
    refine zW_aload_n dX0_reach_47 rfl ?_
    refine zgP dX0_reach_48 fX0_122 g0 rfl g4 ?_
    refine zW_iload dX0_reach_51 rfl ?_
    refine zW_aload_n dX0_reach_53 rfl ?_
    refine zgP dX0_reach_54 fX0_122 g0 rfl g4 ?_
    refine zW_iload_n dX0_reach_57 rfl ?_
    refine zrI dX0_reach_58 f4 (by first | assumption | omega | (unfold InR; omega) | (unfold InL; omega) | (simp only [InR] at *; omega)) (by first | assumption | omega | (unfold InR; omega) | (unfold InL; omega) | (simp only [InR] at *; omega)) (by first | assumption | omega | (unfold InR; omega) | (unfold InL; omega) | (simp only [InR] at *; omega)) ((zI_sIa _ _ _ _ (show b + 4 ≠ b + 3 by omega)).trans ((zI_sIa _ _ _ _ (show b + 4 ≠ b + 2 by omega)).trans ((zI_sIa _ _ _ _ (show b + 4 ≠ o + 6 by omega)).trans ((zI_sIa _ _ _ _ (show b + 4 ≠ o + 5 by omega)).trans hdp)))) ?_
    refine zW_iconst dX0_reach_59 ?_
    refine zW_iadd dX0_reach_60 ?_
    refine zW_iast dX0_reach_61 f4 (by first | assumption | omega | (unfold InR; omega) | (unfold InL; omega) | (simp only [InR] at *; omega)) (by first | assumption | omega | (unfold InR; omega) | (unfold InL; omega) | (simp only [InR] at *; omega)) (by first | assumption | omega | (unfold InR; omega) | (unfold InL; omega) | (simp only [InR] at *; omega)) ?_
    refine zW_aload_n dX0_reach_62 rfl ?_
    refine zW_iload dX0_reach_63 rfl ?_
    refine zW_iconst dX0_reach_65 ?_
    refine zW_iadd dX0_reach_66 ?_
    refine zpI dX0_reach_67 fX0_99 (by assumption) rfl (Or.inl rfl) (zst_int _) ?_
    refine zW_return dX0_reach_70 rfl (by first | decide | (show _ ≤ (0 : Nat); omega)) (by first | decide | (show _ ≤ (0 : Nat); omega)) ?_
    refine hQ _ ⟨?_, ?_, ?_, ?_, ?_, ?_, ?_, ?_⟩ ?_
    all_goals try simp only [Int.toNat_natCast]
    · intro u d hu hd9
      rw [zI_sO, zI_sIa _ _ _ _ (by omega), zI_sIa _ _ _ _ (by omega), zI_sIa _ _ _ _ (by omega), zI_sIa _ _ _ _ (by omega), zI_sIa _ _ _ _ (by omega)]
      exact n1 u d hu hd9
    · intro i w hw
      rw [zI_sO, zI_sIa _ _ _ _ (show o + 5 ≠ b + 4 by omega), zI_sIa _ _ _ _ (show o + 5 ≠ b + 3 by omega), zI_sIa _ _ _ _ (show o + 5 ≠ b + 2 by omega), zI_sIa _ _ _ _ (show o + 5 ≠ o + 6 by omega), zI_sIa _ _ _ _ (show o + 6 ≠ b + 4 by omega), zI_sIa _ _ _ _ (show o + 6 ≠ b + 3 by omega), zI_sIa _ _ _ _ (show o + 6 ≠ b + 2 by omega)]
      have hil := (List.getElem?_eq_some_iff.mp hw).1
      rw [List.length_append, List.length_singleton] at hil
      by_cases z : i = L.length
      · rw [z, List.getElem?_append_right (Nat.le_refl _), Nat.sub_self] at hw
        have e : to = w := by simpa using hw
        subst e
        subst z
        exact ⟨zI_sIs _ _ _ _, zI_sIs _ _ _ _⟩
      · rw [List.getElem?_append_left (by omega)] at hw
        have e : w ≠ to := fun e => hnew (e ▸ List.mem_of_getElem? hw)
        rw [zI_sIk _ _ _ _ e, zI_sIk _ _ _ _ z, zI_sIa _ _ _ _ (show o + 6 ≠ o + 5 by omega)]
        exact n2 i w hw
    · intro w hw hw2
      have e : w ≠ to := fun e => hw2 (by rw [e]; exact List.mem_append_right _ List.mem_cons_self)
      rw [zI_sO, zI_sIa _ _ _ _ (show o + 5 ≠ b + 4 by omega), zI_sIa _ _ _ _ (show o + 5 ≠ b + 3 by omega), zI_sIa _ _ _ _ (show o + 5 ≠ b + 2 by omega), zI_sIa _ _ _ _ (show o + 5 ≠ o + 6 by omega), zI_sIk _ _ _ _ e]
      exact n3 w hw (fun z => hw2 (List.mem_append_left _ z))
    · rw [zO_sOs, List.length_append, List.length_singleton]
      omega
    · rw [zO_sOk _ _ _ _ (by omega), ecn_app _ _ _ _ hm]
      exact n5
    · intro n' c' v' h1 h2 h3
      rw [zI_sO, zI_sIa _ _ _ _ (show b + 1 ≠ b + 4 by omega), zI_sIa _ _ _ _ (show b + 1 ≠ b + 3 by omega), zI_sIa _ _ _ _ (show b + 1 ≠ b + 2 by omega), zI_sIa _ _ _ _ (show b + 1 ≠ o + 6 by omega), zI_sIa _ _ _ _ (show b + 1 ≠ o + 5 by omega)]
      rw [List.getElem?_append_left (by omega)] at h3
      obtain ⟨r1, r2⟩ := n6 n' c' v' h1 h2 h3
      refine ⟨r1, fun w hw => ?_⟩
      obtain ⟨i, i1, i2⟩ := r2 w hw
      exact ⟨i, by rw [List.getElem?_append_left (List.getElem?_eq_some_iff.mp i1).1]; exact i1, i2⟩
    · intro i hi1 hi2
      rw [List.length_append, List.length_singleton] at hi2
      simp only [zI_sO, zI_sIa _ _ _ _ (show b + 2 ≠ b + 4 by omega), zI_sIa _ _ _ _ (show b + 2 ≠ b + 3 by omega), zI_sIa _ _ _ _ (show b + 3 ≠ b + 4 by omega)]
      by_cases z : i = L.length
      · subst z
        refine ⟨n, c, dp, zI_sIs _ _ _ _, zI_sIs _ _ _ _, hc, by rw [hk], by rw [hk1, List.length_append]; rfl, hnl, zI_sIs _ _ _ _, ?_⟩
        rw [zI_sIk _ _ _ _ hnd, zI_sIa _ _ _ _ (by omega), zI_sIa _ _ _ _ (by omega), zI_sIa _ _ _ _ (by omega), zI_sIa _ _ _ _ (by omega)]
        exact hdp
      · obtain ⟨p, q, d, e1, e2, e3, e4, e5, e6, e7, e8⟩ := n7 i hi1 (by omega)
        refine ⟨p, q, d, ?_, ?_, e3, e4, e5, e6, ?_, ?_⟩
        · rw [zI_sIk _ _ _ _ z, zI_sIa _ _ _ _ (by omega), zI_sIa _ _ _ _ (by omega)]; exact e1
        · rw [zI_sIk _ _ _ _ z, zI_sIa _ _ _ _ (by omega), zI_sIa _ _ _ _ (by omega), zI_sIa _ _ _ _ (by omega)]; exact e2
        · rw [zI_sIk _ _ _ _ z, zI_sIa _ _ _ _ (by omega), zI_sIa _ _ _ _ (by omega), zI_sIa _ _ _ _ (by omega), zI_sIa _ _ _ _ (by omega)]; exact e7
        · rw [zI_sIk _ _ _ _ (by omega), zI_sIa _ _ _ _ (by omega), zI_sIa _ _ _ _ (by omega), zI_sIa _ _ _ _ (by omega), zI_sIa _ _ _ _ (by omega)]; exact e8
    · rw [zI_sO, zI_sIk _ _ _ _ (show 0 ≠ L.length by omega), zI_sIa _ _ _ _ (by omega), zI_sIa _ _ _ _ (by omega), zI_sIa _ _ _ _ (by omega), zI_sIa _ _ _ _ (by omega)]
      exact n8
    · have o5 : np o b (o + 5) := Or.inl (Or.inl rfl)
      have o6 : np o b (o + 6) := Or.inl (Or.inr rfl)
      have b2 : np o b (b + 2) := Or.inr (by unfold bp; omega)
      have b3 : np o b (b + 3) := Or.inr (by unfold bp; omega)
      have b4 : np o b (b + 4) := Or.inr (by unfold bp; omega)
      have b0 : np o b b := Or.inr (by unfold bp; omega)
      exact (((((Md.I o5).tr (Md.I o6) (fun _ z => z)).tr (Md.I b2) (fun _ z => z)).tr (Md.I b3) (fun _ z => z)).tr (Md.I b4) (fun _ z => z)).tr (Md.O b0) (fun _ z => z)
set_option maxRecDepth 100000 in
theorem v_numberVertices (hO : FOK σ o) (hG : GK σ b) (hd : o + 7 ≤ b ∨ b + 5 ≤ o) (hTt : ∀ u c, u < 355 → c < 8 → zI σ (o + 1) (8 * u + c) = T u c) (hT : CT T used) (hu : used ≤ 355) (hu1 : 1 ≤ used) (h80 : zI σ (b + 4) 0 = 0)
    (hQ : ∀ σ' F, Full (tS T) 0 F → F.length ≤ 355 → NV σ' o b T F (8 * F.length) (4 * F.length) → Md σ σ' (np o b) → Q (.inl none) σ') : zM Γ mX0_numberVertices [vR (some o), vR (some b)] σ Q := by
  have hbd : ∀ k, ∀ x ∈ fnd (tS T) 0 k, x < used := by
    intro k
    induction k with
    | zero =>
      intro x hx
      rw [List.mem_singleton.mp hx]
      omega
    | succ k ih =>
      intro x hx
      change x ∈ fstep (tS T) (fnd (tS T) 0 k) k at hx
      rcases fstep_cases (tS T) (fnd (tS T) 0 k) k with e | ⟨v, w, e1, e2, e3, e4⟩
      · rw [e] at hx; exact ih x hx
      · rw [e4] at hx
        rcases List.mem_append.mp hx with z | z
        · exact ih x z
        · rw [List.mem_singleton.mp z]
          have hc8 : k % 8 < 8 := by omega
          have := hT.1 v _ hc8
          unfold tS at e2
          split at e2
          · have := Option.some.inj e2
            omega
          · cases e2
  have hlen : ∀ k, (fnd (tS T) 0 k).length ≤ used := fun k => nds_len used _ (fnd_nd _ _ k) (hbd k)
  have ob1 : np o b (b + 1) := Or.inr (by unfold bp; omega)
  have ob0 : np o b b := Or.inr (by unfold bp; omega)
  have oo5 : np o b (o + 5) := Or.inl (Or.inl rfl)
  have oo6 : np o b (o + 6) := Or.inl (Or.inr rfl)
  refine zM_of (n := 3) (by decide +kernel) rfl rfl rfl ?_
  have loop : ∀ n i σ1, i + n = 356 → i ≤ (fnd (tS T) 0 (8 * i)).length → NV σ1 o b T (fnd (tS T) 0 (8 * i)) (8 * i) (4 * i) → Md σ σ1 (np o b) → ∀ y z, zW Γ mX0_numberVertices 34 [some (vR (some o)), some (vR (some b)), some (vI i), y, z] [] σ1 0 0 Q := by
    intro n
    induction n with
    | zero =>
      intro i σ1 hi hil hN m1 y z
      have := hlen (8 * i)
      omega
    | succ n ih =>
      intro i σ1 hi hil hN m1 y z
      obtain ⟨h0, h1, -, -, -, h5, h6, k1, -, -, -, k5, k6⟩ := hO.md m1
      obtain ⟨g0, g1, g2, g3, g4, f1, f2, f3, f4⟩ := hG.md m1
      have hl9 := hlen (8 * i)
      have n4 := hN.2.2.2.1
      refine zW_iload_n dX0_numberVertices_34 rfl ?_
      refine zW_aload_n dX0_numberVertices_35 rfl ?_
      refine zgI dX0_numberVertices_36 fX0_99 g0 rfl n4 ?_
      refine zW_icmp_ge (tgt := 164) dX0_numberVertices_39 (by decide) (by first | assumption | omega | (unfold InR; omega) | (unfold InL; omega) | (simp only [InR] at *; omega)) (by first | assumption | omega | (unfold InR; omega) | (unfold InL; omega) | (simp only [InR] at *; omega)) (fun q => ?_) (fun q => ?_)
      · refine zW_return dX0_numberVertices_164 rfl (by first | decide | (show _ ≤ (0 : Nat); omega)) (by first | decide | (show _ ≤ (0 : Nat); omega)) ?_
        have e : i = (fnd (tS T) 0 (8 * i)).length := by omega
        generalize hF : fnd (tS T) 0 (8 * i) = F at *
        rw [e] at hF hN
        exact hQ _ F hF (by omega) hN m1
      · refine zW_iload_n dX0_numberVertices_42 rfl ?_
        refine zW_sipush dX0_numberVertices_43 (by decide) ?_
        refine zW_icmp_ge (tgt := 164) dX0_numberVertices_46 (by decide) (by first | assumption | omega | (unfold InR; omega) | (unfold InL; omega) | (simp only [InR] at *; omega)) (by first | assumption | omega | (unfold InR; omega) | (unfold InL; omega) | (simp only [InR] at *; omega)) (fun q2 => ?_) (fun q2 => ?_)
        · exact absurd q2 (by omega)
        · have loop2 : ∀ n c σ2, c + n = 8 → NV σ2 o b T (fnd (tS T) 0 (8 * i + c)) (8 * i + c) (4 * i + (c + 1) / 2) → Md σ σ2 (np o b) → ∀ z, zW Γ mX0_numberVertices 51 [some (vR (some o)), some (vR (some b)), some (vI i), some (vI c), z] [] σ2 0 0 Q := by
            intro n
            induction n with
            | zero =>
              intro c σ2 hc hN2 m2 z
              have e8 : c = 8 := by omega
              subst e8
              refine zW_iload_n dX0_numberVertices_51 rfl ?_
              refine zW_bipush dX0_numberVertices_52 (by decide) ?_
              refine zW_icmp_ge (tgt := 158) dX0_numberVertices_54 (by decide) (by first | assumption | omega | (unfold InR; omega) | (unfold InL; omega) | (simp only [InR] at *; omega)) (by first | assumption | omega | (unfold InR; omega) | (unfold InL; omega) | (simp only [InR] at *; omega)) (fun q3 => ?_) (fun q3 => ?_)
              · refine zW_iinc dX0_numberVertices_158 rfl (by decide) rfl rfl ?_
                refine zW_goto (tgt := 34) dX0_numberVertices_161 (by decide) ?_
                have e1 : 8 * i + 8 = 8 * (i + 1) := by omega
                have e2 : 4 * i + (8 + 1) / 2 = 4 * (i + 1) := by omega
                rw [e1, e2] at hN2
                refine ih (i + 1) σ2 (by omega) ?_ hN2 m2 _ _
                have := fnd_len (S := tS T) (r := 0) (show 8 * i ≤ 8 * (i + 1) by omega)
                omega
              · exact absurd q3 (by omega)
            | succ n ih2 =>
              intro c σ2 hc hN2 m2 z
              have hc8 : c < 8 := by omega
              have hiL : i < (fnd (tS T) 0 (8 * i + c)).length := by
                have := fnd_len (S := tS T) (r := 0) (show 8 * i ≤ 8 * i + c by omega)
                omega
              obtain ⟨v, hv⟩ : ∃ v, (fnd (tS T) 0 (8 * i + c))[i]? = some v := ⟨_, List.getElem?_eq_getElem hiL⟩
              have hvu := hbd _ v (List.mem_of_getElem? hv)
              have tb := hT.1 v c hc8
              have d1 : (8 * i + c) / 8 = i := by omega
              have d2 : (8 * i + c) % 8 = c := by omega
              obtain ⟨h0, h1, -, -, -, h5, h6, k1, -, -, -, k5, k6⟩ := hO.md m2
              have hlc := hlen (8 * i + c)
              have hlc1 := hlen (8 * i + c + 1)
              -- the row's entry is written
              have key : ∀ σ3, NV σ3 o b T (fnd (tS T) 0 (8 * i + c + 1)) (8 * i + c) (4 * i + (c + 1 + 1) / 2) → Md σ σ3 (np o b) → zW Γ mX0_numberVertices 124 [some (vR (some o)), some (vR (some b)), some (vI i), some (vI c), some (vI (T v c))] [] σ3 0 0 Q := by
                intro σ3 hN3 m3
                obtain ⟨h0, h1, -, -, -, h5, h6, k1, -, -, -, k5, k6⟩ := hO.md m3
                obtain ⟨g0, g1, g2, g3, g4, f1, f2, f3, f4⟩ := hG.md m3
                have hv3 := fnd_at (show 8 * i + c ≤ 8 * i + c + 1 by omega) hv
                have i9 : ((i : Int) * 8 + c).toNat = 8 * i + c := by omega
                have fin : ∀ x : Int, (T v c = -1 → x = -1) → (∀ w : Nat, T v c = (w : Int) → ∃ j : Nat, (fnd (tS T) 0 (8 * i + c + 1))[j]? = some w ∧ x = (j : Int)) → zW Γ mX0_numberVertices 151 [some (vR (some o)), some (vR (some b)), some (vI i), some (vI c), some (vI (T v c))] [vI x, vI ((i : Int) * 8 + c), vR (some (b + 1))] σ3 0 0 Q := by
                  intro x hx1 hx2
                  refine zW_iast dX0_numberVertices_151 f1 (by first | assumption | omega | (unfold InR; omega) | (unfold InL; omega) | (simp only [InR] at *; omega)) (by first | assumption | omega | (unfold InR; omega) | (unfold InL; omega) | (simp only [InR] at *; omega)) (by first | assumption | omega | (unfold InR; omega) | (unfold InL; omega) | (simp only [InR] at *; omega)) ?_
                  refine zW_iinc dX0_numberVertices_152 rfl (by decide) rfl rfl ?_
                  refine zW_goto (tgt := 51) dX0_numberVertices_155 (by decide) ?_
                  rw [i9]
                  obtain ⟨n1, n2, n3, n4, n5, n6, n7, n8⟩ := hN3
                  refine ih2 (c + 1) (sI σ3 (b + 1) (8 * i + c) x) (by omega) ⟨?_, ?_, ?_, n4, n5, ?_, ?_, ?_⟩ (m3.tr (Md.I ob1) (fun _ z => z)) _
                  · intro u d hu9 hd9
                    rw [zI_sIa _ _ _ _ (by omega)]; exact n1 u d hu9 hd9
                  · intro j w hw
                    rw [zI_sIa _ _ _ _ (by omega), zI_sIa _ _ _ _ (by omega)]; exact n2 j w hw
                  · intro w hw hw2
                    rw [zI_sIa _ _ _ _ (by omega)]; exact n3 w hw hw2
                  · intro n' c' v' e1 e2 e3
                    change (fnd (tS T) 0 (8 * i + c + 1))[n']? = some v' at e3
                    by_cases z9 : n' = i ∧ c' = c
                    · obtain ⟨z1, z2⟩ := z9
                      subst z1
                      subst z2
                      rw [hv3] at e3
                      rw [← Option.some.inj e3, zI_sIs]
                      exact ⟨hx1, hx2⟩
                    · rw [zI_sIk _ _ _ _ (show 8 * n' + c' ≠ 8 * i + c by omega)]
                      exact n6 n' c' v' (by omega) e2 e3
                  · intro j j1 j2
                    simp only [zI_sIa _ _ _ _ (show b + 2 ≠ b + 1 by omega), zI_sIa _ _ _ _ (show b + 3 ≠ b + 1 by omega), zI_sIa _ _ _ _ (show b + 4 ≠ b + 1 by omega)]
                    exact n7 j j1 j2
                  · rw [zI_sIa _ _ _ _ (by omega)]; exact n8
                refine zW_aload_n dX0_numberVertices_124 rfl ?_
                refine zgP dX0_numberVertices_125 fX0_115 g0 rfl g1 ?_
                refine zW_iload_n dX0_numberVertices_128 rfl ?_
                refine zW_bipush dX0_numberVertices_129 (by decide) ?_
                refine zW_imul dX0_numberVertices_131 ?_
                refine zW_iload_n dX0_numberVertices_132 rfl ?_
                refine zW_iadd dX0_numberVertices_133 ?_
                refine zW_iload dX0_numberVertices_134 rfl ?_
                refine zW_iconst dX0_numberVertices_136 ?_
                refine zW_icmp_ne (tgt := 144) dX0_numberVertices_137 (by decide) (by first | assumption | omega | (unfold InR; omega) | (unfold InL; omega) | (simp only [InR] at *; omega)) (by first | assumption | omega | (unfold InR; omega) | (unfold InL; omega) | (simp only [InR] at *; omega)) (fun q4 => ?_) (fun q4 => ?_)
                · obtain ⟨to, et⟩ : ∃ to : Nat, T v c = (to : Int) := ⟨(T v c).toNat, by omega⟩
                  have hmem : ∃ j : Nat, (fnd (tS T) 0 (8 * i + c + 1))[j]? = some to := by
                    apply List.getElem?_of_mem
                    show to ∈ fstep (tS T) (fnd (tS T) 0 (8 * i + c)) (8 * i + c)
                    rw [fstep_some (v := v) (w := to) (by rw [d1]; exact hv) (by rw [d2]; exact tS_some hc8 et)]
                    split
                    · assumption
                    · exact List.mem_append_right _ List.mem_cons_self
                  obtain ⟨j, hj⟩ := hmem
                  have hnum := (hN3.2.1 j to hj).1
                  refine zW_aload_n dX0_numberVertices_144 rfl ?_
                  refine zgP dX0_numberVertices_145 fX0_24 h0 rfl h5 ?_
                  refine zW_iload dX0_numberVertices_148 rfl ?_
                  refine zrI dX0_numberVertices_150 k5 (by first | assumption | omega | (unfold InR; omega) | (unfold InL; omega) | (simp only [InR] at *; omega)) (by first | assumption | omega | (unfold InR; omega) | (unfold InL; omega) | (simp only [InR] at *; omega)) (by first | assumption | omega | (unfold InR; omega) | (unfold InL; omega) | (simp only [InR] at *; omega)) (zix (f := zI σ3 (o + 5)) (j := to) (by omega) hnum) ?_
                  refine fin _ (fun z => by omega) (fun w hw => ⟨j, ?_, rfl⟩)
                  have : w = to := by omega
                  rw [this]; exact hj
                · refine zW_iconst dX0_numberVertices_140 ?_
                  refine zW_goto (tgt := 151) dX0_numberVertices_141 (by decide) ?_
                  exact fin _ (fun _ => rfl) (fun w hw => by omega)
              -- the edge is counted
              have key2 : ∀ σ3, NV σ3 o b T (fnd (tS T) 0 (8 * i + c + 1)) (8 * i + c) (4 * i + (c + 1) / 2) → Md σ σ3 (np o b) → zW Γ mX0_numberVertices 101 [some (vR (some o)), some (vR (some b)), some (vI i), some (vI c), some (vI (T v c))] [] σ3 0 0 Q := by
                intro σ3 hN3 m3
                obtain ⟨g0, g1, g2, g3, g4, f1, f2, f3, f4⟩ := hG.md m3
                have hv3 := fnd_at (show 8 * i + c ≤ 8 * i + c + 1 by omega) hv
                have hs := ecn_succ T (fnd (tS T) 0 (8 * i + c + 1)) (4 * i + (c + 1) / 2)
                have heq : ∀ x, ecn T (fnd (tS T) 0 (8 * i + c + 1)) (4 * i + (c + 1) / 2) = ecn T (fnd (tS T) 0 (8 * i + c + 1)) (4 * i + (c + 1 + 1) / 2) → zO σ3 b 5 = x → NV σ3 o b T (fnd (tS T) 0 (8 * i + c + 1)) (8 * i + c) (4 * i + (c + 1 + 1) / 2) := fun x e _ => by
                  refine ⟨hN3.1, hN3.2.1, hN3.2.2.1, hN3.2.2.2.1, ?_, hN3.2.2.2.2.2⟩
                  rw [← e]; exact hN3.2.2.2.2.1
                refine zW_iload dX0_numberVertices_101 rfl ?_
                refine zW_iconst dX0_numberVertices_103 ?_
                refine zW_icmp_eq (tgt := 124) dX0_numberVertices_104 (by decide) (by first | assumption | omega | (unfold InR; omega) | (unfold InL; omega) | (simp only [InR] at *; omega)) (by first | assumption | omega | (unfold InR; omega) | (unfold InL; omega) | (simp only [InR] at *; omega)) (fun q4 => ?_) (fun q4 => ?_)
                · refine key σ3 (heq _ ?_ rfl) m3
                  rcases Nat.mod_two_eq_zero_or_one c with e | e
                  · have e1 : (4 * i + (c + 1) / 2) / 4 = i := by omega
                    have e2 : 2 * ((4 * i + (c + 1) / 2) % 4) = c := by omega
                    have e3 : 4 * i + (c + 1 + 1) / 2 = 4 * i + (c + 1) / 2 + 1 := by omega
                    rw [e1, e2, List.getD_eq_getElem?_getD, hv3] at hs
                    rw [e3, hs]
                    show _ = _ + if T v c ≠ -1 then 1 else 0
                    rw [if_neg (fun z => z q4)]
                    rfl
                  · rw [show (c + 1 + 1) / 2 = (c + 1) / 2 by omega]
                · refine zW_iload_n dX0_numberVertices_107 rfl ?_
                  refine zcSN1 dX0_numberVertices_108 rfl eX9_isInverse (host := RX9) (by decide +kernel) ⟨by decide, by decide, by decide, by decide⟩ rfl (Nat.le_of_ble_eq_true rfl) (x_isInverse (by omega) ?_)
                  refine zW_if_ne (tgt := 124) dX0_numberVertices_111 (by decide) (by first | assumption | omega | (unfold InR; omega) | (unfold InL; omega) | (simp only [InR] at *; omega)) (fun q5 => ?_) (fun q5 => ?_)
                  · refine key σ3 (heq _ ?_ rfl) m3
                    rw [show (c + 1 + 1) / 2 = (c + 1) / 2 by omega]
                  · have hE := hN3.2.2.2.2.1
                    refine zW_aload_n dX0_numberVertices_114 rfl ?_
                    refine zW_dup dX0_numberVertices_115 rfl ?_
                    refine zgI dX0_numberVertices_116 fX0_104 g0 rfl hE ?_
                    refine zW_iconst dX0_numberVertices_119 ?_
                    refine zW_iadd dX0_numberVertices_120 ?_
                    refine zpI dX0_numberVertices_121 fX0_104 (by assumption) rfl (Or.inl rfl) (zst_int _) ?_
                    have e1 : (4 * i + (c + 1) / 2) / 4 = i := by omega
                    have e2 : 2 * ((4 * i + (c + 1) / 2) % 4) = c := by omega
                    have e3 : 4 * i + (c + 1 + 1) / 2 = 4 * i + (c + 1) / 2 + 1 := by omega
                    rw [e1, e2, List.getD_eq_getElem?_getD, hv3] at hs
                    change _ = _ + (if T v c ≠ -1 then 1 else 0) at hs
                    rw [if_pos q4] at hs
                    refine key _ ⟨hN3.1, hN3.2.1, hN3.2.2.1, ?_, ?_, hN3.2.2.2.2.2⟩ (m3.tr (Md.O ob0) (fun _ z => z))
                    · rw [zO_sOk _ _ _ _ (by omega)]; exact hN3.2.2.2.1
                    · rw [zO_sOs, e3, hs]; rfl
              have n1 := hN2.1
              have n2 := hN2.2.1
              have g := n1 v c (by omega) hc8
              have gf := (n2 i v hv).2
              refine zW_iload_n dX0_numberVertices_51 rfl ?_
              refine zW_bipush dX0_numberVertices_52 (by decide) ?_
              refine zW_icmp_ge (tgt := 158) dX0_numberVertices_54 (by decide) (by first | assumption | omega | (unfold InR; omega) | (unfold InL; omega) | (simp only [InR] at *; omega)) (by first | assumption | omega | (unfold InR; omega) | (unfold InL; omega) | (simp only [InR] at *; omega)) (fun q3 => ?_) (fun q3 => ?_)
              · exact absurd q3 (by omega)
              · refine zW_aload_n dX0_numberVertices_57 rfl ?_
                refine zgP dX0_numberVertices_58 fX0_9 h0 rfl h1 ?_
                refine zW_aload_n dX0_numberVertices_61 rfl ?_
                refine zgP dX0_numberVertices_62 fX0_27 h0 rfl h6 ?_
                refine zW_iload_n dX0_numberVertices_65 rfl ?_
                refine zrI dX0_numberVertices_66 k6 (by first | assumption | omega | (unfold InR; omega) | (unfold InL; omega) | (simp only [InR] at *; omega)) (by first | assumption | omega | (unfold InR; omega) | (unfold InL; omega) | (simp only [InR] at *; omega)) (by first | assumption | omega | (unfold InR; omega) | (unfold InL; omega) | (simp only [InR] at *; omega)) gf ?_
                refine zW_bipush dX0_numberVertices_67 (by decide) ?_
                refine zW_imul dX0_numberVertices_69 ?_
                refine zW_iload_n dX0_numberVertices_70 rfl ?_
                refine zW_iadd dX0_numberVertices_71 ?_
                refine zrI dX0_numberVertices_72 k1 (by first | assumption | omega | (unfold InR; omega) | (unfold InL; omega) | (simp only [InR] at *; omega)) (by first | assumption | omega | (unfold InR; omega) | (unfold InL; omega) | (simp only [InR] at *; omega)) (by first | assumption | omega | (unfold InR; omega) | (unfold InL; omega) | (simp only [InR] at *; omega)) (zix (f := zI σ2 (o + 1)) (j := 8 * v + c) (by omega) g) ?_
                refine zW_istore dX0_numberVertices_73 (by decide) rfl rfl ?_
                refine zW_iload dX0_numberVertices_75 rfl ?_
                refine zW_iconst dX0_numberVertices_77 ?_
                refine zW_icmp_eq (tgt := 101) dX0_numberVertices_78 (by decide) (by first | assumption | omega | (unfold InR; omega) | (unfold InL; omega) | (simp only [InR] at *; omega)) (by first | assumption | omega | (unfold InR; omega) | (unfold InL; omega) | (simp only [InR] at *; omega)) (fun q4 => ?_) (fun q4 => ?_)
                · refine key2 σ2 ?_ m2
                  have e : fnd (tS T) 0 (8 * i + c + 1) = fnd (tS T) 0 (8 * i + c) := fstep_none (v := v) (by rw [d1]; exact hv) (by rw [d2]; exact tS_none q4)
                  rw [e]
                  exact hN2
                · obtain ⟨to, et⟩ : ∃ to : Nat, T v c = (to : Int) := ⟨(T v c).toNat, by omega⟩
                  have hst : fnd (tS T) 0 (8 * i + c + 1) = if to ∈ fnd (tS T) 0 (8 * i + c) then fnd (tS T) 0 (8 * i + c) else fnd (tS T) 0 (8 * i + c) ++ [to] := fstep_some (v := v) (w := to) (by rw [d1]; exact hv) (by rw [d2]; exact tS_some hc8 et)
                  by_cases hmem : to ∈ fnd (tS T) 0 (8 * i + c)
                  · rw [if_pos hmem] at hst
                    obtain ⟨j, hj⟩ := List.getElem?_of_mem hmem
                    have hnum := (n2 j to hj).1
                    refine zW_aload_n dX0_numberVertices_81 rfl ?_
                    refine zgP dX0_numberVertices_82 fX0_24 h0 rfl h5 ?_
                    refine zW_iload dX0_numberVertices_85 rfl ?_
                    refine zrI dX0_numberVertices_87 k5 (by first | assumption | omega | (unfold InR; omega) | (unfold InL; omega) | (simp only [InR] at *; omega)) (by first | assumption | omega | (unfold InR; omega) | (unfold InL; omega) | (simp only [InR] at *; omega)) (by first | assumption | omega | (unfold InR; omega) | (unfold InL; omega) | (simp only [InR] at *; omega)) (zix (f := zI σ2 (o + 5)) (j := to) (by omega) hnum) ?_
                    refine zW_iconst dX0_numberVertices_88 ?_
                    have hjl := (List.getElem?_eq_some_iff.mp hj).1
                    refine zW_icmp_ne (tgt := 101) dX0_numberVertices_89 (by decide) (by first | assumption | omega | (unfold InR; omega) | (unfold InL; omega) | (simp only [InR] at *; omega)) (by first | assumption | omega | (unfold InR; omega) | (unfold InL; omega) | (simp only [InR] at *; omega)) (fun q5 => ?_) (fun q5 => ?_)
                    · refine key2 σ2 ?_ m2
                      rw [hst]
                      exact hN2
                    · exact absurd q5 (by omega)
                  · rw [if_neg hmem] at hst
                    have hnum := hN2.2.2.1 to (by omega) hmem
                    refine zW_aload_n dX0_numberVertices_81 rfl ?_
                    refine zgP dX0_numberVertices_82 fX0_24 h0 rfl h5 ?_
                    refine zW_iload dX0_numberVertices_85 rfl ?_
                    refine zrI dX0_numberVertices_87 k5 (by first | assumption | omega | (unfold InR; omega) | (unfold InL; omega) | (simp only [InR] at *; omega)) (by first | assumption | omega | (unfold InR; omega) | (unfold InL; omega) | (simp only [InR] at *; omega)) (by first | assumption | omega | (unfold InR; omega) | (unfold InL; omega) | (simp only [InR] at *; omega)) (zix (f := zI σ2 (o + 5)) (j := to) (by omega) hnum) ?_
                    refine zW_iconst dX0_numberVertices_88 ?_
                    refine zW_icmp_ne (tgt := 101) dX0_numberVertices_89 (by decide) (by first | assumption | omega | (unfold InR; omega) | (unfold InL; omega) | (simp only [InR] at *; omega)) (by first | assumption | omega | (unfold InR; omega) | (unfold InL; omega) | (simp only [InR] at *; omega)) (fun q5 => ?_) (fun q5 => ?_)
                    · exact absurd rfl q5
                    · rw [hst, List.length_append, List.length_singleton] at hlc1
                      rw [et]
                      refine zW_aload_n dX0_numberVertices_92 rfl ?_
                      refine zW_aload_n dX0_numberVertices_93 rfl ?_
                      refine zW_iload dX0_numberVertices_94 rfl ?_
                      refine zW_iload_n dX0_numberVertices_96 rfl ?_
                      refine zW_iload_n dX0_numberVertices_97 rfl ?_
                      refine zcV4 dX0_numberVertices_98 rfl eX0_reach b463 ⟨by decide, by decide, by decide, by decide⟩ rfl h0 rfl (by decide) (Nat.le_of_ble_eq_true rfl) (v_reach (hO.md m2) (hG.md m2) hd hN2 (by omega) (by omega) hmem hc8 hv rfl hst (by omega) (by omega) (fun σ4 hN4 m4 => ?_))
                      rw [← et]
                      refine key2 σ4 ?_ (m2.tr m4 (fun _ z => z))
                      rw [hst]
                      exact hN4
          refine zW_iconst dX0_numberVertices_49 ?_
          refine zW_istore_n dX0_numberVertices_50 (by decide) rfl rfl ?_
          exact loop2 8 0 σ1 rfl hN m1 _
  obtain ⟨h0, h1, -, -, -, h5, h6, k1, -, -, -, k5, k6⟩ := id hO
  refine zW_aload_n dX0_numberVertices_0 rfl ?_
  refine zgP dX0_numberVertices_1 fX0_24 h0 rfl h5 ?_
  refine zW_iconst dX0_numberVertices_4 ?_
  refine zcS2 dX0_numberVertices_5 rfl eJ7_fill_53178 b420 ⟨by decide, by decide, by decide, by decide⟩ rfl (Nat.le_of_ble_eq_true rfl) (j_fillI k5 (by omega) (by unfold InR; omega) (fun σ2 hv2 m2 => ?_))
  obtain ⟨h0, h1, -, -, -, h5, h6, k1, -, -, -, k5, k6⟩ := hO.md m2
  obtain ⟨g0, g1, g2, g3, g4, f1, f2, f3, f4⟩ := hG.md m2
  refine zW_aload_n dX0_numberVertices_8 rfl ?_
  refine zgP dX0_numberVertices_9 fX0_24 h0 rfl h5 ?_
  refine zW_iconst dX0_numberVertices_12 ?_
  refine zW_iconst dX0_numberVertices_13 ?_
  refine zW_iast dX0_numberVertices_14 k5 (by first | assumption | omega | (unfold InR; omega) | (unfold InL; omega) | (simp only [InR] at *; omega)) (by first | assumption | omega | (unfold InR; omega) | (unfold InL; omega) | (simp only [InR] at *; omega)) (by first | assumption | omega | (unfold InR; omega) | (unfold InL; omega) | (simp only [InR] at *; omega)) ?_
  refine zW_aload_n dX0_numberVertices_15 rfl ?_
  refine zgP dX0_numberVertices_16 fX0_27 h0 rfl h6 ?_
  refine zW_iconst dX0_numberVertices_19 ?_
  refine zW_iconst dX0_numberVertices_20 ?_
  refine zW_iast dX0_numberVertices_21 k6 (by first | assumption | omega | (unfold InR; omega) | (unfold InL; omega) | (simp only [InR] at *; omega)) (by first | assumption | omega | (unfold InR; omega) | (unfold InL; omega) | (simp only [InR] at *; omega)) (by first | assumption | omega | (unfold InR; omega) | (unfold InL; omega) | (simp only [InR] at *; omega)) ?_
  refine zW_aload_n dX0_numberVertices_22 rfl ?_
  refine zW_iconst dX0_numberVertices_23 ?_
  refine zpI dX0_numberVertices_24 fX0_99 g0 rfl (Or.inl rfl) (zst_int _) ?_
  refine zW_aload_n dX0_numberVertices_27 rfl ?_
  refine zW_iconst dX0_numberVertices_28 ?_
  refine zpI dX0_numberVertices_29 fX0_104 g0 rfl (Or.inl rfl) (zst_int _) ?_
  refine zW_iconst dX0_numberVertices_32 ?_
  refine zW_istore_n dX0_numberVertices_33 (by decide) rfl rfl ?_
  refine loop 356 0 _ rfl (Nat.zero_le _) ⟨?_, ?_, ?_, ?_, ?_, ?_, ?_, ?_⟩ ((((m2.wk (P' := np o b) (fun a z => by rw [z]; exact oo5)).tr (Md.I oo5) (fun _ z => z)).tr (Md.I oo6) (fun _ z => z)).tr ((Md.O ob0).tr (Md.O ob0) (fun _ z => z)) (fun _ z => z)) _ _
  · intro u c hu9 hc9
    rw [zI_sO, zI_sO, zI_sIa _ _ _ _ (by omega), zI_sIa _ _ _ _ (by omega), m2.i (by omega)]
    exact hTt u c hu9 hc9
  · intro i w hw
    have hi := (List.getElem?_eq_some_iff.mp hw).1
    change i < 1 at hi
    have e : i = 0 := by omega
    subst e
    have e2 : (0 : Nat) = w := Option.some.inj hw
    subst e2
    rw [zI_sO, zI_sO, zI_sIa _ _ _ _ (show o + 5 ≠ o + 6 by omega)]
    exact ⟨zI_sIs _ _ _ _, zI_sIs _ _ _ _⟩
  · intro w hw hw2
    have e : w ≠ 0 := fun e => hw2 (by rw [e]; exact List.mem_cons_self)
    rw [zI_sO, zI_sO, zI_sIa _ _ _ _ (by omega), zI_sIk _ _ _ _ (show w ≠ (0 : Int).toNat from e)]
    exact hv2 w hw
  · rw [zO_sOk _ _ _ _ (by omega), zO_sOs]; rfl
  · rw [zO_sOs]; rfl
  · intro n c v h1; omega
  · intro i h1 h2
    change i < 1 at h2
    omega
  · rw [zI_sO, zI_sO, zI_sIa _ _ _ _ (by omega), zI_sIa _ _ _ _ (by omega), m2.i (by omega)]
    exact h80
set_option maxRecDepth 100000 in
theorem gE_eq {G G' : GT} (e : GEq G G') : gE G = gE G' := by
  unfold gE
  rw [← e.1]
  congr 1
  refine List.filter_congr (fun x hx => ?_)
  have := List.mem_range.mp hx
  rw [e.2.1 (x / 4) (2 * (x % 4)) (by omega) (by omega)]
set_option maxRecDepth 100000 in
theorem GD.congr {G G' : GT} (h : GD σ b G) (e : GEq G G') (ok : GOK G') : GD σ b G' := by
  obtain ⟨h1, h2, h3, h4, h5, h6, h7⟩ := h
  refine ⟨h1, ok, by rw [← e.1]; exact h3, by rw [← gE_eq e]; exact h4, fun v c hv hc => ?_, fun v h1 hv => ?_, fun v hv => ?_⟩
  · rw [← e.1] at hv
    rw [← e.2.1 v c hv hc]; exact h5 v c hv hc
  · rw [← e.1] at hv
    rw [← (e.2.2.1 v h1 hv).1, ← (e.2.2.1 v h1 hv).2]; exact h6 v h1 hv
  · rw [← e.1] at hv
    rw [← e.2.2.2 v hv]; exact h7 v hv
set_option maxRecDepth 100000 in
theorem tS_iff {T : TB} {ρ : Nat → Nat} (hT : CT T used) (hL : Live T ρ) : ∀ u c v, tS T u c = some v ↔ ∃ v', CE T u c v' ∧ ρ v' = v := by
  have live : ∀ u c (v : Nat), c < 8 → T u c = (v : Int) → ρ v = v := fun u c v hc h => by
    apply Classical.byContradiction
    intro z
    have := hL v _ (x1_lt hc) z
    have := hT.2.2 u c v hc h
    omega
  intro u c v
  constructor
  · intro h
    unfold tS at h
    split at h
    · rename_i q
      have b := hT.1 u c q.1
      have e := Option.some.inj h
      have e2 : T u c = (v : Int) := by omega
      exact ⟨v, ⟨q.1, e2⟩, live u c v q.1 e2⟩
    · cases h
  · intro ⟨v', h1, h2⟩
    rw [← h2, live u c v' h1.1 h1.2]
    exact tS_some h1.1 h1.2
set_option maxRecDepth 100000 in
/-- what the arrays hold is the subgroup's graph -/
theorem NV.gd {F : List Nat} {ws : List (List Nat)} (hG : GK σ b) (h : NV σ o b T F (8 * F.length) (4 * F.length)) (hF : Full (tS T) 0 F) (hl : F.length ≤ 355) (hT : CT T used) (hA : Aut ws (tS T) 0) : GD σ b (grf ws) ∧ IsGr ws (grf ws) := by
  obtain ⟨n1, n2, n3, n4, n5, n6, n7, n8⟩ := h
  have hF1 : 1 ≤ F.length := by have := fnd_pos (tS T) 0 (8 * F.length); rw [hF] at this; exact this
  have dep : ∀ m, m < F.length → ∃ d : Nat, zI σ (b + 4) m = (d : Int) := fun m hm => by
    rcases Nat.eq_zero_or_pos m with e | e
    · exact ⟨0, by rw [e]; exact n8⟩
    · obtain ⟨p, q, d, -, -, -, -, -, -, e2, -⟩ := n7 m e hm
      exact ⟨d + 1, by rw [e2]; rfl⟩
  let G : GT := (F.length, fun n c => zI σ (b + 1) (8 * n + c), fun m => (zI σ (b + 2) m).toNat, fun m => (zI σ (b + 3) m).toNat, fun m => (zI σ (b + 4) m).toNat)
  have hI : IsG (tS T) 0 F G := by
    refine ⟨hF, rfl, fun n c v hv hc => ⟨fun hs => ?_, fun w m hs hm => ?_⟩, fun m h1 h2 => ?_, ?_, fun m h1 h2 => ?_⟩
    · refine (n6 n c v (by have := (List.getElem?_eq_some_iff.mp hv).1; omega) hc hv).1 ?_
      apply Classical.byContradiction
      intro z
      unfold tS at hs
      rw [if_pos ⟨hc, z⟩] at hs
      cases hs
    · have hb := hT.1 v c hc
      have e2 : T v c = (w : Int) := by
        unfold tS at hs
        split at hs
        · rename_i q
          have := Option.some.inj hs
          omega
        · cases hs
      obtain ⟨i, i1, i2⟩ := (n6 n c v (by have := (List.getElem?_eq_some_iff.mp hv).1; omega) hc hv).2 w e2
      have : i = m := hF.nd i m w i1 hm
      rw [← this]
      exact i2
    · obtain ⟨p, q, d, e1, e2, e3, e4, e5, e6, e7, e8⟩ := n7 m h1 h2
      show (zI σ (b + 3) m).toNat < 8 ∧ (fnd (tS T) 0 (8 * (zI σ (b + 2) m).toNat + (zI σ (b + 3) m).toNat)).length = m ∧ (fnd (tS T) 0 (8 * (zI σ (b + 2) m).toNat + (zI σ (b + 3) m).toNat + 1)).length = m + 1
      rw [e1, e2]
      exact ⟨e3, e4, e5⟩
    · show (zI σ (b + 4) 0).toNat = 0
      rw [n8]; rfl
    · obtain ⟨p, q, d, e1, e2, e3, e4, e5, e6, e7, e8⟩ := n7 m h1 h2
      show (zI σ (b + 4) m).toNat = (zI σ (b + 4) (zI σ (b + 2) m).toNat).toNat + 1
      rw [e1, e7]
      show _ = (zI σ (b + 4) p).toNat + 1
      rw [e8]
      omega
  have hgr : IsGr ws G := ⟨tS T, 0, F, hA, hI, hl⟩
  have hok := hgr.ok
  have hgd : GD σ b G := by
    refine ⟨hG, hok, n4, ?_, fun v c _ _ => rfl, fun v h1 h2 => ?_, fun v hv => ?_⟩
    · rw [n5]
      congr 1
      unfold ecn gE
      congr 1
      refine List.filter_congr (fun x hx => ?_)
      have hx4 : x / 4 < F.length := by have := List.mem_range.mp hx; omega
      have hv : F[x / 4]? = some F[x / 4] := List.getElem?_eq_getElem hx4
      rw [List.getD_eq_getElem?_getD, hv]
      have := n6 (x / 4) (2 * (x % 4)) _ (by omega) (by omega) hv
      show decide (T F[x / 4] (2 * (x % 4)) ≠ -1) = decide (zI σ (b + 1) (8 * (x / 4) + 2 * (x % 4)) ≠ -1)
      have hb := hT.1 F[x / 4] (2 * (x % 4)) (by omega)
      by_cases q : T F[x / 4] (2 * (x % 4)) = -1
      · rw [this.1 q, q]
      · obtain ⟨w, hw⟩ : ∃ w : Nat, T F[x / 4] (2 * (x % 4)) = (w : Int) := ⟨(T F[x / 4] (2 * (x % 4))).toNat, by omega⟩
        obtain ⟨i, -, i2⟩ := this.2 w hw
        rw [i2, hw]
        have a1 : ¬ ((w : Int) = -1) := by omega
        have a2 : ¬ ((i : Int) = -1) := by omega
        simp [a1, a2]
    · obtain ⟨p, q, d, e1, e2, e3, e4, e5, e6, e7, e8⟩ := n7 v h1 h2
      show zI σ (b + 2) v = ((zI σ (b + 2) v).toNat : Int) ∧ zI σ (b + 3) v = ((zI σ (b + 3) v).toNat : Int)
      rw [e1, e2]
      exact ⟨rfl, rfl⟩
    · obtain ⟨d, e⟩ := dep v hv
      show zI σ (b + 4) v = ((zI σ (b + 4) v).toNat : Int)
      rw [e]; rfl
  exact ⟨hgd.congr (grf_eq hgr) (grf_is hgr).ok, grf_is hgr⟩
set_option maxRecDepth 100000 in
theorem v_fold {s g : Nat} {x : ST} (hO : FOK σ o) (h5 : zO σ o 5 = 0) (hG : GK σ b) (h80 : zI σ (b + 4) 0 = 0) (S : SD σ s x) (hg : g < 2) (hl : ∀ w ∈ sGw x g, w.length ≤ 60) (hd : o + 7 ≤ b ∨ b + 5 ≤ o) (hd2 : s + 44 ≤ o ∨ o + 7 ≤ s) (hd3 : s + 44 ≤ b ∨ b + 5 ≤ s)
    (hQ : ∀ σ', GD σ' b (grf (sGw x g)) → zO σ' o 5 = 0 → zI σ' (b + 4) 0 = 0 → Md σ σ' (nq o b) → IsGr (sGw x g) (grf (sGw x g)) → Q (.inl none) σ') : zM Γ mX0_fold [vR (some o), vR (some s), vI g, vR (some b)] σ Q := by
  obtain ⟨h0, h1, h2, h3, h4, h5', h6, k1, k2, k3, k4, k5, k6⟩ := id hO
  have hgn := S.gn hg
  refine zM_of (n := 1) (by decide +kernel) rfl rfl rfl ?_
  have sne : ∀ a, sp s a → ¬ op7 o a := fun a q q' => by unfold sp at q; unfold op7 at q'; omega
  have loop : ∀ n i σ1 T mg ρ used, i + n = (sGw x g).length → FH σ1 o T mg used [] → FInv ((sGw x g).take i) (CE T) ρ [] → CT T used → Live T ρ → RtOf mg ρ → (∀ y, used ≤ y → mg y = y) → 1 ≤ used → used ≤ 1 + 59 * i → Md σ σ1 (op7 o) → zW Γ mX0_fold 21 [some (vR (some o)), some (vR (some s)), some (vI g), some (vR (some b)), some (vI i)] [] σ1 0 0 Q := by
    intro n
    induction n with
    | zero =>
      intro i σ1 T mg ρ used hi h1 hF hT hL hR hid hu1 hu m1
      have S1 := S.md m1 sne
      obtain ⟨s0, s1, s2, s3, s4, s5, s6, s7, s8, s9⟩ := id S1.1
      obtain ⟨h0, -, -, -, -, -, -, -, -, -, -, -, -⟩ := id h1.1
      refine zW_iload dX0_fold_21 rfl ?_
      refine zW_aload_n dX0_fold_23 rfl ?_
      refine zgP dX0_fold_24 fX0_44 s0 rfl s3 ?_
      refine zW_iload_n dX0_fold_27 rfl ?_
      refine zrI dX0_fold_28 s6 (by first | assumption | omega | (unfold InR; omega) | (unfold InL; omega) | (simp only [InR] at *; omega)) (by first | assumption | omega | (unfold InR; omega) | (unfold InL; omega) | (simp only [InR] at *; omega)) (by first | assumption | omega | (unfold InR; omega) | (unfold InL; omega) | (simp only [InR] at *; omega)) ((S1.2.2.2 g hg).1) ?_
      refine zW_icmp_ge (tgt := 53) dX0_fold_29 (by decide) (by first | assumption | omega | (unfold InR; omega) | (unfold InL; omega) | (simp only [InR] at *; omega)) (by first | assumption | omega | (unfold InR; omega) | (unfold InL; omega) | (simp only [InR] at *; omega)) (fun q => ?_) (fun q => ?_)
      · rw [List.take_of_length_le (by omega)] at hF
        refine zW_aload_n dX0_fold_53 rfl ?_
        refine zW_aload_n dX0_fold_54 rfl ?_
        refine zcV1 dX0_fold_55 rfl eX0_numberVertices b459 ⟨by decide, by decide, by decide, by decide⟩ rfl h0 rfl (by decide) (Nat.le_of_ble_eq_true rfl) (v_numberVertices h1.1 (hG.md m1) hd h1.2.2.2.2.1 hT (by omega) hu1 (by rw [m1.i (by unfold op7; omega)]; exact h80) (fun σ2 F hF2 hl2 hN m2 => ?_))
        refine zW_return dX0_fold_58 rfl (by first | decide | (show _ ≤ (0 : Nat); omega)) (by first | decide | (show _ ≤ (0 : Nat); omega)) ?_
        have hA := hF.aut hR.idem (by have := hR.2.2.2.2 0; omega) (tS_iff hT hL) (fun u c v q => by
          apply Classical.byContradiction
          intro z
          have := hL u c q.1 z
          have := q.2
          omega)
        have hgd9 := hN.gd ((hG.md m1).md m2) hF2 hl2 hT hA
        refine hQ σ2 hgd9.1 ?_ hN.2.2.2.2.2.2.2 ((m1.wk (P' := nq o b) (fun a q => Or.inl q)).tr m2 (fun a z => by unfold np at z; unfold nq op7; rcases z with z | z; exact Or.inl (by omega); exact Or.inr z)) hgd9.2
        rw [m2.o (by unfold np bp; omega)]
        exact h1.2.2.1
      · exact absurd q (by omega)
    | succ n ih =>
      intro i σ1 T mg ρ used hi h1 hF hT hL hR hid hu1 hu m1
      have S1 := S.md m1 sne
      obtain ⟨s0, s1, s2, s3, s4, s5, s6, s7, s8, s9⟩ := id S1.1
      obtain ⟨h0, -, -, -, -, -, -, -, -, -, -, -, -⟩ := id h1.1
      have hw := S1.gw (g := g) (k := i) hg (by omega)
      have hmem : (sGw x g).getD i [] ∈ sGw x g := by
        rw [List.getD_eq_getElem?_getD, List.getElem?_eq_getElem (by omega)]
        exact List.getElem_mem _
      have hl60 := hl _ hmem
      have htake : (sGw x g).take (i + 1) = (sGw x g).take i ++ [(sGw x g).getD i []] := by
        rw [List.take_add_one, List.getD_eq_getElem?_getD, List.getElem?_eq_getElem (by omega)]
        rfl
      refine zW_iload dX0_fold_21 rfl ?_
      refine zW_aload_n dX0_fold_23 rfl ?_
      refine zgP dX0_fold_24 fX0_44 s0 rfl s3 ?_
      refine zW_iload_n dX0_fold_27 rfl ?_
      refine zrI dX0_fold_28 s6 (by first | assumption | omega | (unfold InR; omega) | (unfold InL; omega) | (simp only [InR] at *; omega)) (by first | assumption | omega | (unfold InR; omega) | (unfold InL; omega) | (simp only [InR] at *; omega)) (by first | assumption | omega | (unfold InR; omega) | (unfold InL; omega) | (simp only [InR] at *; omega)) ((S1.2.2.2 g hg).1) ?_
      refine zW_icmp_ge (tgt := 53) dX0_fold_29 (by decide) (by first | assumption | omega | (unfold InR; omega) | (unfold InL; omega) | (simp only [InR] at *; omega)) (by first | assumption | omega | (unfold InR; omega) | (unfold InL; omega) | (simp only [InR] at *; omega)) (fun q => ?_) (fun q => ?_)
      · exact absurd q (by omega)
      · refine zW_aload_n dX0_fold_32 rfl ?_
        refine zW_aload_n dX0_fold_33 rfl ?_
        refine zW_iload_n dX0_fold_34 rfl ?_
        refine zW_iload dX0_fold_35 rfl ?_
        refine zcV2 dX0_fold_37 rfl eX7_generatingWord b427 ⟨by decide, by decide, by decide, by decide⟩ rfl s0 rfl (by decide) (Nat.le_of_ble_eq_true rfl) (st_gw S1.1 hg (by omega) ?_)
        refine zcV1 dX0_fold_40 rfl eX0_addClosedPath b431 ⟨by decide, by decide, by decide, by decide⟩ rfl h0 rfl (by decide) (Nat.le_of_ble_eq_true rfl) (v_addClosedPath h1 hF hT hL hR hid hu1 hw (fun a q => ⟨fun e => sne _ (by unfold sp; omega) (e ▸ q), fun e => sne _ (by unfold sp; omega) (e ▸ q)⟩) (by omega) (fun σ2 T2 mg2 used2 E2 h2 hF2 hT2 hL2 hR2 hid2 u1 u2 hE2 hE3 m2 => ?_))
        obtain ⟨h0, -, -, -, -, -, -, -, -, -, -, -, -⟩ := id h2.1
        refine zW_aload_n dX0_fold_43 rfl ?_
        refine zcV0 dX0_fold_44 rfl eX0_mergeCoincidences b443 ⟨by decide, by decide, by decide, by decide⟩ rfl h0 rfl (by decide) (Nat.le_of_ble_eq_true rfl) (v_mergeCoincidences h2 hF2 hT2 hL2 hR2 hid2 (by omega) (by omega) hE2 hE3 (fun σ3 T3 mg3 ρ3 h3 hF3 hT3 hL3 hR3 hid3 m3 => ?_))
        refine zW_iinc dX0_fold_47 rfl (by decide) rfl rfl ?_
        refine zW_goto (tgt := 21) dX0_fold_50 (by decide) ?_
        rw [← htake] at hF3
        exact ih (i + 1) σ3 T3 mg3 ρ3 used2 (by omega) h3 hF3 hT3 hL3 hR3 hid3 (by omega) (by omega) ((m1.tr m2 (fun _ z => z)).tr m3 (fun _ z => z))
  refine zW_aload_n dX0_fold_0 rfl ?_
  refine zgP dX0_fold_1 fX0_9 (by assumption) rfl (by assumption) ?_
  refine zW_iconst dX0_fold_4 ?_
  refine zcS2 dX0_fold_5 rfl eJ7_fill_53178 b420 ⟨by decide, by decide, by decide, by decide⟩ rfl (Nat.le_of_ble_eq_true rfl) (j_fillI k1 (by omega) (by unfold InR; omega) (fun σ2 hv2 m2 => ?_))
  have m2' : Md σ σ2 (op7 o) := m2.wk (fun a z => by rw [z]; unfold op7; omega)
  obtain ⟨h0, -, -, -, -, -, -, -, -, -, -, -, -⟩ := hO.md m2
  have m3 : Md σ2 (sO σ2 o 2 0) (op7 o) := Md.O (by unfold op7; omega)
  have hFH : FH (sO σ2 o 2 0) o (fun _ _ => -1) (fun y => y) 0 [] := by
    refine ⟨(show FOK σ2 o from hO.md m2), zO_sOs _ _ _ _, ?_, Nat.zero_le _, fun u c hu hc => hv2 _ (by omega), fun u hu => absurd hu (Nat.not_lt_zero u), fun i p hp => by simp at hp⟩
    rw [zO_sOk _ _ _ _ (by omega), m2.o (by omega)]
    exact h5
  refine zW_aload_n dX0_fold_8 rfl ?_
  refine zW_iconst dX0_fold_9 ?_
  refine zpI dX0_fold_10 fX0_36 (by assumption) rfl (Or.inl rfl) (zst_int _) ?_
  refine zW_aload_n dX0_fold_13 rfl ?_
  refine zcV0 dX0_fold_14 rfl eX0_makeVertex b423 ⟨by decide, by decide, by decide, by decide⟩ rfl h0 rfl (by decide) (Nat.le_of_ble_eq_true rfl) (v_makeVertex hFH (by omega) rfl (fun σ4 h4 m4 => ?_))
  refine zW_pop dX0_fold_17 rfl ?_
  refine zW_iconst dX0_fold_18 ?_
  refine zW_istore dX0_fold_19 (by decide) rfl rfl ?_
  refine loop (sGw x g).length 0 σ4 (fun _ _ => -1) (fun y => y) (fun y => y) 1 (by omega) h4 ?_ ?_ (fun u d _ _ => rfl) RtOf.id (fun y _ => rfl) (Nat.le_refl _) (by omega) ((m2'.tr m3 (fun _ z => z)).tr m4 (fun _ z => z))
  · refine ⟨fun u c v q => absurd (show (-1 : Int) = (v : Int) from q.2) (by omega), fun w hw => (by rw [List.take_zero] at hw; cases hw), fun H h9 hH hw => ⟨fun _ => h9, rfl, fun _ => rfl, fun p hp => (by cases hp), fun u c v q => absurd (show (-1 : Int) = (v : Int) from q.2) (by omega)⟩⟩
  · exact ⟨fun u c hc => ⟨show (-1 : Int) ≤ -1 by omega, show (-1 : Int) < ((1 : Nat) : Int) by omega⟩, fun u c hc hu => rfl, fun u c v hc hv => absurd (show (-1 : Int) = (v : Int) from hv) (by omega)⟩
end NUMBER
