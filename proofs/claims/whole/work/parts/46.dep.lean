/-! how far a vertex is from the base; how many edges are left -/
set_option maxRecDepth 100000 in
theorem Full.mem {S : Nat → Nat → Option Nat} {r : Nat} {F : List Nat} (h : Full S r F) {n c v w : Nat} (hv : F[n]? = some v) (hc : c < 8) (hw : S v c = some w) : w ∈ fnd S r (8 * n + c + 1) := by
  have hn := (List.getElem?_eq_some_iff.mp hv).1
  have hv' : (fnd S r (8 * n + c))[n]? = some v := by
    by_cases q : n < (fnd S r (8 * n + c)).length
    · obtain ⟨t, ht⟩ := fnd_pre S r (show 8 * n + c ≤ 8 * F.length by omega)
      rw [h] at ht
      rw [ht, List.getElem?_append_left q] at hv
      exact hv
    · exfalso
      have hst : ∀ k, 8 * n + c ≤ k → fnd S r k = fnd S r (8 * n + c) := by
        intro k
        induction k with
        | zero => intro hk; rw [show 8 * n + c = 0 by omega]
        | succ k ih =>
          intro hk
          by_cases q2 : 8 * n + c = k + 1
          · rw [q2]
          · have := ih (by omega)
            show fstep S (fnd S r k) k = _
            rw [this]
            exact fstep_end (by omega)
      have := hst (8 * F.length) (by omega)
      rw [h] at this
      rw [← this] at q
      exact q hn
  show w ∈ fstep S (fnd S r (8 * n + c)) (8 * n + c)
  have e1 : (8 * n + c) / 8 = n := by omega
  have e2 : (8 * n + c) % 8 = c := by omega
  rw [fstep_some (v := v) (w := w) (by rw [e1]; exact hv') (by rw [e2]; exact hw)]
  by_cases q : w ∈ fnd S r (8 * n + c)
  · rw [if_pos q]; exact q
  · rw [if_neg q]; exact List.mem_append_right _ List.mem_cons_self
section DEPTH
variable {S : Nat → Nat → Option Nat} {r : Nat} {F : List Nat} {G : GT}
set_option maxRecDepth 100000 in
theorem IsG.kmono (h : IsG S r F G) {m m' : Nat} (h1 : 1 ≤ m) (h2 : m < m') (h3 : m' < F.length) : gpa G m ≤ gpa G m' := by
  obtain ⟨k1, k2, k3⟩ := h.2.2.2.1 m h1 (by omega)
  obtain ⟨l1, l2, l3⟩ := h.2.2.2.1 m' (by omega) h3
  rcases Nat.lt_or_ge (8 * gpa G m + gpc G m) (8 * gpa G m' + gpc G m') with q | q
  · omega
  · have := fnd_len (S := S) (r := r) q
    omega
set_option maxRecDepth 100000 in
theorem IsG.mono (h : IsG S r F G) : ∀ m' m, m ≤ m' → m' < F.length → gde G m ≤ gde G m' := by
  intro m'
  induction m' using Nat.strongRecOn with
  | ind m' ih =>
    intro m hm hF
    rcases Nat.eq_zero_or_pos m with e | e
    · rw [e, h.2.2.2.2.1]; exact Nat.zero_le _
    · by_cases q : m = m'
      · rw [q]; exact Nat.le_refl _
      · obtain ⟨-, -, -, -, -, k4⟩ := h.disc (m := m') (by omega) hF
        rw [h.2.2.2.2.2 m e (by omega), h.2.2.2.2.2 m' (by omega) hF]
        have := ih (gpa G m') k4 (gpa G m) (h.kmono e (by omega) hF) (by omega)
        omega
set_option maxRecDepth 100000 in
theorem IsG.edge (h : IsG S r F G) {u c v w m : Nat} (hu : F[u]? = some v) (hc : c < 8) (hw : S v c = some w) (hm : F[m]? = some w) : gde G m ≤ gde G u + 1 := by
  have hul := (List.getElem?_eq_some_iff.mp hu).1
  have hml := (List.getElem?_eq_some_iff.mp hm).1
  rcases Nat.eq_zero_or_pos m with e | e
  · rw [e, h.2.2.2.2.1]; exact Nat.zero_le _
  · obtain ⟨k1, k2, k3⟩ := h.2.2.2.1 m e hml
    have hk : 8 * gpa G m + gpc G m ≤ 8 * u + c := by
      apply Classical.byContradiction
      intro z
      have hmem := Full.mem h.1 hu hc hw
      obtain ⟨i, hi⟩ := List.getElem?_of_mem hmem
      have hi2 := fnd_at (show 8 * u + c + 1 ≤ 8 * gpa G m + gpc G m by omega) hi
      have hil := (List.getElem?_eq_some_iff.mp hi2).1
      have hi3 := fnd_at (show 8 * u + c + 1 ≤ 8 * F.length by omega) hi
      rw [h.1] at hi3
      have := Full.nd h.1 i m w hi3 hm
      omega
    rw [h.2.2.2.2.2 m e hml]
    have := h.mono u (gpa G m) (by omega) hul
    omega
set_option maxRecDepth 100000 in
theorem IsG.path (h : IsG S r F G) : ∀ (p : List Nat) (n v v' : Nat), lt8 p → F[n]? = some v → run S v p = some v' → ∃ m : Nat, F[m]? = some v' ∧ gde G m ≤ gde G n + p.length := by
  intro p
  induction p with
  | nil => exact fun n v v' _ hn hr => ⟨n, by rw [hn]; exact hr, Nat.le_refl _⟩
  | cons c p ih =>
    intro n v v' hl hn hr
    have hc := hl c List.mem_cons_self
    have hr' : (match S v c with | none => none | some y => run S y p) = some v' := hr
    cases hs : S v c with
    | none => rw [hs] at hr'; cases hr'
    | some y =>
      rw [hs] at hr'
      obtain ⟨m, hm⟩ := Full.cl h.1 hn hc hs
      obtain ⟨m', h1, h2⟩ := ih m y v' (fun z hz => hl z (List.mem_cons_of_mem _ hz)) hm hr'
      have := h.edge hn hc hs hm
      refine ⟨m', h1, ?_⟩
      rw [List.length_cons]
      omega
set_option maxRecDepth 100000 in
theorem take_s {w : List Nat} {i : Nat} (hi : i < w.length) : w.take (i + 1) = w.take i ++ [w.getD i 0] := by
  rw [List.take_add_one, List.getD_eq_getElem?_getD, List.getElem?_eq_getElem hi]
  rfl
set_option maxRecDepth 100000 in
theorem run_s {w : List Nat} {i x : Nat} (hi : i < w.length) (hx : run S r (w.take i) = some x) : run S r (w.take (i + 1)) = S x (w.getD i 0) := by
  rw [take_s hi, run_app, hx]
  show (match S x (w.getD i 0) with | none => none | some y => run S y []) = _
  cases S x (w.getD i 0) <;> rfl
set_option maxRecDepth 100000 in
theorem run_p {w : List Nat} {i y : Nat} (hi : i < w.length) (hy : run S r (w.take (i + 1)) = some y) : ∃ x, run S r (w.take i) = some x ∧ S x (w.getD i 0) = some y := by
  cases hx : run S r (w.take i) with
  | none =>
    rw [take_s hi, run_app, hx] at hy
    cases hy
  | some x => exact ⟨x, rfl, by rw [← run_s hi hx]; exact hy⟩
/-- an edge that a word uses -/
def Usd (ws : List (List Nat)) (S : Nat → Nat → Option Nat) (r u c : Nat) : Prop := ∃ w ∈ ws, ∃ i, i < w.length ∧ ((run S r (w.take i) = some u ∧ w.getD i 0 = c) ∨ (run S r (w.take (i + 1)) = some u ∧ c = w.getD i 0 ^^^ 1))
noncomputable def usS (ws : List (List Nat)) (S : Nat → Nat → Option Nat) (r : Nat) : Nat → Nat → Option Nat := fun u c => @ite _ (Usd ws S r u c) (Classical.propDecidable _) (S u c) none
set_option maxRecDepth 100000 in
theorem usS_t {ws : List (List Nat)} {u c : Nat} (h : Usd ws S r u c) : usS ws S r u c = S u c := @if_pos _ (Classical.propDecidable _) h _ _ _
set_option maxRecDepth 100000 in
theorem usS_f {ws : List (List Nat)} {u c : Nat} (h : ¬ Usd ws S r u c) : usS ws S r u c = none := @if_neg _ (Classical.propDecidable _) h _ _ _
set_option maxRecDepth 100000 in
theorem usS_s {ws : List (List Nat)} {u c v : Nat} (h : usS ws S r u c = some v) : Usd ws S r u c ∧ S u c = some v := by
  by_cases q : Usd ws S r u c
  · rw [usS_t q] at h; exact ⟨q, h⟩
  · rw [usS_f q] at h; cases h
set_option maxRecDepth 100000 in
theorem Usd.inv {ws : List (List Nat)} (hS : HOK S) (hl : ∀ w ∈ ws, lt8 w) {u c v : Nat} (h : Usd ws S r u c) (hv : S u c = some v) : Usd ws S r v (c ^^^ 1) ∧ ∃ w ∈ ws, ∃ i, i ≤ w.length ∧ run S r (w.take i) = some v := by
  obtain ⟨w, hw, i, hi, k⟩ := h
  have hc8 := getD_lt (hl w hw) hi
  rcases k with ⟨k1, k2⟩ | ⟨k1, k2⟩
  · have e := run_s hi k1
    rw [k2, hv] at e
    exact ⟨⟨w, hw, i, hi, Or.inr ⟨e, by rw [k2]⟩⟩, w, hw, i + 1, by omega, e⟩
  · obtain ⟨x, x1, x2⟩ := run_p hi k1
    have e := hS _ _ _ hc8 x2
    rw [← k2, hv] at e
    rw [Option.some.inj e]
    exact ⟨⟨w, hw, i, hi, Or.inl ⟨x1, by rw [k2, x1x1 hc8]⟩⟩, w, hw, i, by omega, x1⟩
set_option maxRecDepth 100000 in
theorem IsG.onw {ws : List (List Nat)} (a : Aut ws S r) (hl : ∀ w ∈ ws, lt8 w) (h : IsG S r F G) {m v : Nat} (h1 : 1 ≤ m) (hm : F[m]? = some v) : ∃ w ∈ ws, ∃ i, i ≤ w.length ∧ run S r (w.take i) = some v := by
  have hS := a.1
  have hK : HOK (usS ws S r) := by
    intro u c v hc hv
    obtain ⟨k1, k2⟩ := usS_s hv
    rw [usS_t (k1.inv hS hl k2).1]
    exact hS _ _ _ hc k2
  have hp : ∀ w ∈ ws, ∀ i x, i ≤ w.length → run S r (w.take i) = some x → run (usS ws S r) r (w.take i) = some x := by
    intro w hw i
    induction i with
    | zero => intro x _ hx; rw [List.take_zero] at hx ⊢; exact hx
    | succ i ih =>
      intro y hi hy
      obtain ⟨x, x1, x2⟩ := run_p (by omega) hy
      rw [run_s (by omega) (ih x (by omega) x1), usS_t ⟨w, hw, i, by omega, Or.inl ⟨x1, rfl⟩⟩]
      exact x2
  obtain ⟨φ, p1, p2⟩ := a.2.2 (usS ws S r) r hK (fun w hw => by
    have := hp w hw w.length r (Nat.le_refl _) (by rw [List.take_length]; exact a.2.1 w hw)
    rw [List.take_length] at this
    exact this)
  have hfix : ∀ (n v : Nat), F[n]? = some v → φ v = v := by
    intro n
    induction n using Nat.strongRecOn with
    | ind n ih =>
      intro v hv
      rcases Nat.eq_zero_or_pos n with e | e
      · have h0 := fnd_0 S r (8 * F.length)
        rw [h.1] at h0
        rw [e, h0] at hv
        rw [← Option.some.inj hv]
        exact p1
      · obtain ⟨u, w, k1, k2, k3, k4⟩ := h.disc e (List.getElem?_eq_some_iff.mp hv).1
        have hw : w = v := Option.some.inj (k3.symm.trans hv)
        subst hw
        have e2 := p2 _ _ _ k2
        rw [ih _ k4 u k1] at e2
        have := (usS_s e2).2
        rw [k2] at this
        exact (Option.some.inj this).symm
  obtain ⟨u, w, k1, k2, k3, k4⟩ := h.disc h1 (List.getElem?_eq_some_iff.mp hm).1
  have hw : w = v := Option.some.inj (k3.symm.trans hm)
  subst hw
  have e2 := p2 _ _ _ k2
  rw [hfix _ _ k1] at e2
  exact ((usS_s e2).1.inv hS hl k2).2
end DEPTH
set_option maxRecDepth 100000 in
theorem gde_60 {ws : List (List Nat)} {G : GT} (h : IsGr ws G) (hl : ∀ w ∈ ws, lt8 w ∧ w.length ≤ 60) {m : Nat} (hm : m < gV G) : gde G m ≤ 60 := by
  obtain ⟨S, r, F, h1, h2, -⟩ := h
  rcases Nat.eq_zero_or_pos m with e | e
  · rw [e, h2.2.2.2.2.1]; exact Nat.zero_le _
  · rw [h2.2.1] at hm
    have hv : F[m]? = some F[m] := List.getElem?_eq_getElem hm
    generalize F[m] = v at hv
    obtain ⟨w, hw, i, hi, hr⟩ := h2.onw h1 (fun w hw => (hl w hw).1) e hv
    have h0 := fnd_0 S r (8 * F.length)
    rw [h2.1] at h0
    obtain ⟨m', k1, k2⟩ := h2.path (w.take i) 0 r v (fun y hy => (hl w hw).1 y (List.mem_of_mem_take hy)) h0 hr
    have : m' = m := Full.nd h2.1 m' m v k1 hv
    subst this
    rw [h2.2.2.2.2.1, List.length_take] at k2
    have := (hl w hw).2
    omega
set_option maxRecDepth 100000 in
theorem filter_two {α : Type} (p q : α → Bool) : ∀ L : List α, (L.filter p).length = (L.filter (fun x => p x && !q x)).length + (L.filter (fun x => p x && q x)).length := by
  intro L
  induction L with
  | nil => rfl
  | cons x L ih =>
    simp only [List.filter_cons]
    cases p x <;> cases q x <;> simp [ih] <;> omega
set_option maxRecDepth 100000 in
theorem x1e : ∀ c, c < 8 → c % 2 = 0 → c ^^^ 1 = c + 1 := by decide
set_option maxRecDepth 100000 in
theorem x1o : ∀ c, c < 8 → c % 2 = 1 → c ^^^ 1 = c - 1 := by decide
/-- the edge number by which a vertex was reached -/
def eNm (G : GT) (m : Nat) : Nat := if gpc G m % 2 = 0 then 4 * gpa G m + gpc G m / 2 else 4 * m + gpc G m / 2
set_option maxRecDepth 100000 in
theorem eNm_inj {G : GT} (h : GOK G) {m m' : Nat} (h1 : 1 ≤ m) (h2 : m < gV G) (h1' : 1 ≤ m') (h2' : m' < gV G) (e : eNm G m = eNm G m') : m = m' := by
  obtain ⟨a1, a2, a3, -⟩ := h.2.2.2.2.1 m h1 h2
  obtain ⟨b1, b2, b3, -⟩ := h.2.2.2.2.1 m' h1' h2'
  have x1 := fun z => x1e _ a2 z
  have x2 := fun z => x1o _ a2 z
  have y1 := fun z => x1e _ b2 z
  have y2 := fun z => x1o _ b2 z
  unfold eNm at e
  by_cases p : gpc G m % 2 = 0
  · rw [if_pos p] at e
    by_cases q : gpc G m' % 2 = 0
    · rw [if_pos q] at e
      have e1 : gpa G m = gpa G m' := by omega
      have e2 : gpc G m = gpc G m' := by omega
      rw [e1, e2, b3] at a3
      omega
    · rw [if_neg q] at e
      have e1 : gpa G m = m' := by omega
      have e2 : gpc G m = gpc G m' ^^^ 1 := by rw [y2 (by omega)]; omega
      have := h.2.2.2.1 _ _ _ (by omega) b2 b3
      rw [e1, e2] at a3
      have := this.symm.trans a3
      omega
  · rw [if_neg p] at e
    by_cases q : gpc G m' % 2 = 0
    · rw [if_pos q] at e
      have e1 : gpa G m' = m := by omega
      have e2 : gpc G m' = gpc G m ^^^ 1 := by rw [x2 (by omega)]; omega
      have := h.2.2.2.1 _ _ _ (by omega) a2 a3
      rw [e1, e2] at b3
      have := this.symm.trans b3
      omega
    · rw [if_neg q] at e
      omega
set_option maxRecDepth 100000 in
theorem eNm_mem {G : GT} (h : GOK G) (e : Nat) : e ∈ (List.range (4 * gV G)).filter (fun e => decide (gt G (e / 4) (2 * (e % 4)) ≠ -1) && gtree G (e / 4) (2 * (e % 4))) ↔ e ∈ (List.range' 1 (gV G - 1)).map (eNm G) := by
  have h0 := h.1
  simp only [List.mem_filter, List.mem_range, Bool.and_eq_true, decide_eq_true_eq, List.mem_map, List.mem_range'_1]
  constructor
  · rintro ⟨k1, k2, k3⟩
    have hv : e / 4 < gV G := by omega
    have hc : 2 * (e % 4) < 8 := by omega
    have hb := h.2.2.1 _ _ hv hc
    rcases gtree_iff.mp k3 with ⟨q1, q2, q3⟩ | ⟨q1, q2, q3⟩
    · refine ⟨(gt G (e / 4) (2 * (e % 4))).toNat, by omega, ?_⟩
      unfold eNm
      rw [q3, if_pos (by omega), q2]
      omega
    · refine ⟨e / 4, by omega, ?_⟩
      have := x1e _ hc (by omega)
      unfold eNm
      rw [q3, this, if_neg (by omega)]
      omega
  · rintro ⟨m, hm, k⟩
    obtain ⟨a1, a2, a3, -⟩ := h.2.2.2.2.1 m (by omega) (by omega)
    unfold eNm at k
    by_cases p : gpc G m % 2 = 0
    · rw [if_pos p] at k
      have e1 : e / 4 = gpa G m := by omega
      have e2 : 2 * (e % 4) = gpc G m := by omega
      rw [e1, e2]
      refine ⟨by omega, by rw [a3]; omega, gtree_iff.mpr (Or.inl ?_)⟩
      rw [a3]
      exact ⟨by omega, rfl, rfl⟩
    · rw [if_neg p] at k
      have e1 : e / 4 = m := by omega
      have e2 : 2 * (e % 4) = gpc G m ^^^ 1 := by rw [x1o _ a2 (by omega)]; omega
      have := h.2.2.2.1 _ _ _ (by omega) a2 a3
      rw [e1, e2, this]
      refine ⟨by omega, by omega, gtree_iff.mpr (Or.inr ⟨by omega, by rw [this], ?_⟩)⟩
      rw [x1x1 a2]
set_option maxRecDepth 100000 in
/-- as many edges are left as the rank says -/
theorem reml_len {G : GT} (h : GOK G) : (reml G (4 * gV G)).length + (gV G - 1) = gE G := by
  have h1 := filter_two (fun e => decide (gt G (e / 4) (2 * (e % 4)) ≠ -1)) (fun e => gtree G (e / 4) (2 * (e % 4))) (List.range (4 * gV G))
  have h2 : (reml G (4 * gV G)).length = ((List.range (4 * gV G)).filter (fun e => decide (gt G (e / 4) (2 * (e % 4)) ≠ -1) && !gtree G (e / 4) (2 * (e % 4)))).length := by
    unfold reml
    congr 2
    funext e
    by_cases a : gt G (e / 4) (2 * (e % 4)) = -1 <;> cases b : gtree G (e / 4) (2 * (e % 4)) <;> simp [a]
  have h3 : ((List.range (4 * gV G)).filter (fun e => decide (gt G (e / 4) (2 * (e % 4)) ≠ -1) && gtree G (e / 4) (2 * (e % 4)))).length = gV G - 1 := by
    have hp := (List.perm_ext_iff_of_nodup (List.filter_sublist.nodup List.nodup_range) ?_).mpr (eNm_mem h)
    · rw [hp.length_eq, List.length_map, List.length_range']
    · refine List.pairwise_map.mpr (List.Pairwise.imp_of_mem (fun ha hb hab => ?_) (List.nodup_range' (s := 1) (n := gV G - 1)))
      rw [List.mem_range'_1] at ha hb
      exact fun z => hab (eNm_inj h (by omega) (by omega) (by omega) (by omega) z)
  unfold gE
  omega
