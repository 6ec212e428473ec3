/-! graphs: the letters of edges, full graphs, pairs numbered otherwise -/
set_option maxRecDepth 100000 in
theorem IsG.usd {ws : List (List Nat)} {S : Nat → Nat → Option Nat} {r : Nat} {F : List Nat} {G : GT} (a : Aut ws S r) (hl : ∀ w ∈ ws, lt8 w) (h : IsG S r F G) {m u c v : Nat} (hm : F[m]? = some u) (hv : S u c = some v) : Usd ws S r u c := by
  have hS := a.1
  have hK : HOK (usS ws S r) := by
    intro u c v hc hv
    obtain ⟨k1, k2⟩ := usS_s hv
    rw [usS_t (k1.inv hS hl k2).1]
    exact hS _ _ _ hc k2
  have hp : ∀ w ∈ ws, ∀ i x, i ≤ w.length → run S r (w.take i) = some x → run (usS ws S r) r (w.take i) = some x := by
    intro w hw i
    induction i with
    | zero => intro x _ hx; rw [List.take_zero] at hx ⊢; exact hx
    | succ i ih =>
      intro y hi hy
      obtain ⟨x, x1, x2⟩ := run_p (by omega) hy
      rw [run_s (by omega) (ih x (by omega) x1), usS_t ⟨w, hw, i, by omega, Or.inl ⟨x1, rfl⟩⟩]
      exact x2
  obtain ⟨φ, p1, p2⟩ := a.2.2 (usS ws S r) r hK (fun w hw => by
    have := hp w hw w.length r (Nat.le_refl _) (by rw [List.take_length]; exact a.2.1 w hw)
    rw [List.take_length] at this
    exact this)
  have hfix : ∀ (n v : Nat), F[n]? = some v → φ v = v := by
    intro n
    induction n using Nat.strongRecOn with
    | ind n ih =>
      intro v hv
      rcases Nat.eq_zero_or_pos n with e | e
      · have h0 := fnd_0 S r (8 * F.length)
        rw [h.1] at h0
        rw [e, h0] at hv
        rw [← Option.some.inj hv]
        exact p1
      · obtain ⟨u, w, k1, k2, k3, k4⟩ := h.disc e (List.getElem?_eq_some_iff.mp hv).1
        have hw : w = v := Option.some.inj (k3.symm.trans hv)
        subst hw
        have e2 := p2 _ _ _ k2
        rw [ih _ k4 u k1] at e2
        have := (usS_s e2).2
        rw [k2] at this
        exact (Option.some.inj this).symm
  have e2 := p2 _ _ _ hv
  rw [hfix _ _ hm] at e2
  exact (usS_s e2).1
set_option maxRecDepth 100000 in
theorem gr_let {ws : List (List Nat)} {G : GT} {k : Nat} (h : IsGr ws G) (hk : k ≤ 4) (hl : ∀ w ∈ ws, ∀ c ∈ w, c < 2 * k) {v c : Nat} (hv : v < gV G) (hc : c < 8) (hc2 : 2 * k ≤ c) : gt G v c = -1 := by
  obtain ⟨S, r, F, h1, h2, -⟩ := h
  have h8 : ∀ w ∈ ws, lt8 w := fun w hw c hc => by have := hl w hw c hc; omega
  rw [h2.2.1] at hv
  have hu : F[v]? = some F[v] := List.getElem?_eq_getElem hv
  generalize F[v] = u at hu
  cases q : S u c with
  | none => exact (h2.2.2.1 v c u hu hc).1 q
  | some t =>
    obtain ⟨w, hw, i, hi, z⟩ := h2.usd h1 h8 hu q
    have hm : w.getD i 0 ∈ w := by
      rw [List.getD_eq_getElem?_getD, List.getElem?_eq_getElem hi]
      exact List.getElem_mem _
    have := hl w hw _ hm
    rcases z with ⟨-, z⟩ | ⟨-, z⟩
    · omega
    · have := x1k (w.getD i 0) (by omega) k (by omega) this
      omega
/-- how many edges begin at the first m vertices -/
def gEc (G : GT) (m : Nat) : Nat := ((List.range m).filter (fun e => decide (gt G (e / 4) (2 * (e % 4)) ≠ -1))).length
set_option maxRecDepth 100000 in
theorem gEc_s (G : GT) (m : Nat) : gEc G (m + 1) = gEc G m + if gt G (m / 4) (2 * (m % 4)) ≠ -1 then 1 else 0 := by
  unfold gEc
  rw [List.range_succ, List.filter_append, List.length_append]
  congr 1
  simp only [List.filter_cons, List.filter_nil]
  by_cases h : gt G (m / 4) (2 * (m % 4)) ≠ -1
  · rw [if_pos h, if_pos (by rw [decide_eq_true_iff]; exact h)]; rfl
  · rw [if_neg h, if_neg (by rw [decide_eq_true_iff]; exact h)]; rfl
set_option maxRecDepth 100000 in
theorem gEc_4 (G : GT) (m : Nat) : gEc G (4 * (m + 1)) = gEc G (4 * m) + (if gt G m 0 ≠ -1 then 1 else 0) + (if gt G m 2 ≠ -1 then 1 else 0) + (if gt G m 4 ≠ -1 then 1 else 0) + (if gt G m 6 ≠ -1 then 1 else 0) := by
  rw [show 4 * (m + 1) = 4 * m + 1 + 1 + 1 + 1 by omega, gEc_s, gEc_s, gEc_s, gEc_s]
  rw [show (4 * m) / 4 = m by omega, show (4 * m) % 4 = 0 by omega, show (4 * m + 1) / 4 = m by omega, show (4 * m + 1) % 4 = 1 by omega, show (4 * m + 1 + 1) / 4 = m by omega, show (4 * m + 1 + 1) % 4 = 2 by omega, show (4 * m + 1 + 1 + 1) / 4 = m by omega, show (4 * m + 1 + 1 + 1) % 4 = 3 by omega]
set_option maxRecDepth 100000 in
/-- as many edges as generators at each vertex: then every letter leads on -/
theorem gE_full {G : GT} {k : Nat} (h : GOK G) (hk1 : 1 ≤ k) (hk : k ≤ 4) (hl : ∀ v c, v < gV G → c < 8 → 2 * k ≤ c → gt G v c = -1) : gE G = k * gV G ↔ gcomp G k := by
  have key : ∀ m, m ≤ gV G → gEc G (4 * m) ≤ k * m ∧ (gEc G (4 * m) = k * m ↔ ∀ v, v < m → ∀ j, j < k → gt G v (2 * j) ≠ -1) := by
    intro m
    induction m with
    | zero => exact fun _ => ⟨Nat.zero_le _, fun _ v hv => absurd hv (Nat.not_lt_zero v), fun _ => rfl⟩
    | succ m ih =>
      intro hm
      obtain ⟨a1, a2⟩ := ih (by omega)
      have l1 : 2 * k ≤ 2 → gt G m 2 = -1 := fun z => hl m 2 (by omega) (by omega) z
      have l2 : 2 * k ≤ 4 → gt G m 4 = -1 := fun z => hl m 4 (by omega) (by omega) z
      have l3 : 2 * k ≤ 6 → gt G m 6 = -1 := fun z => hl m 6 (by omega) (by omega) z
      have hb : (if gt G m 0 ≠ -1 then 1 else 0) + (if gt G m 2 ≠ -1 then 1 else 0) + (if gt G m 4 ≠ -1 then 1 else 0) + (if gt G m 6 ≠ -1 then 1 else 0) ≤ k ∧ ((if gt G m 0 ≠ -1 then 1 else 0) + (if gt G m 2 ≠ -1 then 1 else 0) + (if gt G m 4 ≠ -1 then 1 else 0) + (if gt G m 6 ≠ -1 then 1 else 0) = k ↔ (gt G m 0 ≠ -1 ∧ (1 < k → gt G m 2 ≠ -1) ∧ (2 < k → gt G m 4 ≠ -1) ∧ (3 < k → gt G m 6 ≠ -1))) := by
        have B : ∀ c, (gt G m c = -1 ∧ (if gt G m c ≠ -1 then 1 else 0) = 0) ∨ (gt G m c ≠ -1 ∧ (if gt G m c ≠ -1 then 1 else 0) = 1) := by
          intro c
          by_cases e : gt G m c = -1
          · exact Or.inl ⟨e, if_neg (fun z => z e)⟩
          · exact Or.inr ⟨e, if_pos e⟩
        have B0 := B 0
        have B1 := B 2
        have B2 := B 4
        have B3 := B 6
        generalize (if gt G m 0 ≠ -1 then 1 else 0) = b0 at B0 ⊢
        generalize (if gt G m 2 ≠ -1 then 1 else 0) = b1 at B1 ⊢
        generalize (if gt G m 4 ≠ -1 then 1 else 0) = b2 at B2 ⊢
        generalize (if gt G m 6 ≠ -1 then 1 else 0) = b3 at B3 ⊢
        generalize gt G m 0 = g0 at B0 ⊢
        generalize gt G m 2 = g1 at B1 l1 ⊢
        generalize gt G m 4 = g2 at B2 l2 ⊢
        generalize gt G m 6 = g3 at B3 l3 ⊢
        clear B a1 a2 ih
        rcases (by omega : k = 1 ∨ k = 2 ∨ k = 3 ∨ k = 4) with e | e | e | e <;> subst e <;> omega
      have hj : (∀ j, j < k → gt G m (2 * j) ≠ -1) ↔ (gt G m 0 ≠ -1 ∧ (1 < k → gt G m 2 ≠ -1) ∧ (2 < k → gt G m 4 ≠ -1) ∧ (3 < k → gt G m 6 ≠ -1)) := by
        constructor
        · intro z
          exact ⟨z 0 (by omega), fun y => z 1 y, fun y => z 2 y, fun y => z 3 y⟩
        · rintro ⟨z0, z1, z2, z3⟩ j hjk
          rcases (by omega : j = 0 ∨ j = 1 ∨ j = 2 ∨ j = 3) with e | e | e | e
          · rw [e]; exact z0
          · rw [e]; exact z1 (by omega)
          · rw [e]; exact z2 (by omega)
          · rw [e]; exact z3 (by omega)
      rw [gEc_4, Nat.mul_succ]
      generalize (if gt G m 0 ≠ -1 then 1 else 0) = b0 at hb ⊢
      generalize (if gt G m 2 ≠ -1 then 1 else 0) = b1 at hb ⊢
      generalize (if gt G m 4 ≠ -1 then 1 else 0) = b2 at hb ⊢
      generalize (if gt G m 6 ≠ -1 then 1 else 0) = b3 at hb ⊢
      obtain ⟨b4, b5⟩ := hb
      refine ⟨by omega, ?_⟩
      constructor
      · intro z v hv j hjk
        have z1 : gEc G (4 * m) = k * m := by omega
        have z2 : b0 + b1 + b2 + b3 = k := by omega
        by_cases e : v = m
        · rw [e]; exact (hj.mpr (b5.mp z2)) j hjk
        · exact a2.mp z1 v (by omega) j hjk
      · intro z
        have z1 := a2.mpr (fun v hv => z v (by omega))
        have z2 := b5.mpr (hj.mp (z m (by omega)))
        omega
  have hE : gE G = gEc G (4 * gV G) := rfl
  rw [hE, (key (gV G) (Nat.le_refl _)).2]
  constructor
  · intro z v c hv hc
    rcases Nat.mod_two_eq_zero_or_one c with e | e
    · have := z v hv (c / 2) (by omega)
      rw [show 2 * (c / 2) = c by omega] at this
      exact this
    · -- the letter's inverse leads from every vertex, hence to every vertex
      have c8 : c - 1 < 8 := by omega
      have hf : ∀ u, u < gV G → gt G u (c - 1) = (((gt G u (c - 1)).toNat : Nat) : Int) ∧ (gt G u (c - 1)).toNat < gV G := by
        intro u hu
        have h1 := z u hu (c / 2) (by omega)
        rw [show 2 * (c / 2) = c - 1 by omega] at h1
        have h2 := h.2.2.1 u (c - 1) hu c8
        omega
      have hcx : (c - 1) ^^^ 1 = c := by rw [x1e _ c8 (by omega)]; omega
      have hmem : v ∈ (List.range (gV G)).map (fun u => (gt G u (c - 1)).toNat) := by
        apply Classical.byContradiction
        intro hno
        have nd : (v :: (List.range (gV G)).map (fun u => (gt G u (c - 1)).toNat)).Nodup := by
          refine List.nodup_cons.mpr ⟨hno, List.pairwise_map.mpr (List.Pairwise.imp_of_mem (fun {a b} ha hb hab q => ?_) List.nodup_range)⟩
          rw [List.mem_range] at ha hb
          have fa := hf a ha
          have fb := hf b hb
          have ga := h.2.2.2.1 a (c - 1) _ ha c8 fa.1
          have gb := h.2.2.2.1 b (c - 1) _ hb c8 fb.1
          rw [q] at ga
          rw [ga] at gb
          exact hab (by omega)
        have hs := nd.length_le_of_subset (l₂ := List.range (gV G)) (fun x hx => by
          rcases List.mem_cons.mp hx with e | e
          · rw [e]; exact List.mem_range.mpr hv
          · obtain ⟨u, hu, hue⟩ := List.mem_map.mp e
            rw [← hue]
            exact List.mem_range.mpr (hf u (List.mem_range.mp hu)).2)
        rw [List.length_cons, List.length_map, List.length_range] at hs
        omega
      obtain ⟨u, hu, hue⟩ := List.mem_map.mp hmem
      have fu := hf u (List.mem_range.mp hu)
      have := h.2.2.2.1 u (c - 1) _ (List.mem_range.mp hu) c8 fu.1
      rw [hcx, hue] at this
      omega
  · intro z v hv j hj
    exact z v (2 * j) hv (by omega)
/-- pairs numbered by another width -/
def wph (p : Nat) : Nat := (p / 355) * 361 + p % 355
set_option maxRecDepth 100000 in
theorem wph_d (p : Nat) : wph p / 361 = p / 355 ∧ wph p % 361 = p % 355 := by
  unfold wph
  omega
set_option maxRecDepth 100000 in
theorem wph_inj {p q : Nat} (h : wph p = wph q) : p = q := by
  have h1 := wph_d p
  have h2 := wph_d q
  rw [h] at h1
  omega
set_option maxRecDepth 100000 in
theorem pS_w {G H : GT} (hG : GOK G) (hH : GOK H) {p c : Nat} (hp : p / 355 < gV G) (hp2 : p % 355 < gV H) : pS 361 G H (wph p) c = (pS 355 G H p c).map wph := by
  obtain ⟨w1, w2⟩ := wph_d p
  unfold pS
  rw [w1, w2]
  by_cases q : c < 8 ∧ gt G (p / 355) c ≠ -1 ∧ gt H (p % 355) c ≠ -1
  · rw [if_pos q, if_pos q]
    have h1 := hG.2.2.1 _ c hp q.1
    have h2 := hH.2.2.1 _ c hp2 q.1
    have v1 := hG.2.1
    have v2 := hH.2.1
    generalize (gt G (p / 355) c).toNat = a at *
    have hb : (gt H (p % 355) c).toNat < 355 := by omega
    generalize (gt H (p % 355) c).toNat = b at *
    show some (a * 361 + b) = some (wph (a * 355 + b))
    unfold wph
    congr 1
    omega
  · rw [if_neg q, if_neg q]
    rfl
set_option maxRecDepth 100000 in
theorem fnd_w {G H : GT} (hG : GOK G) (hH : GOK H) : ∀ k, fnd (pS 361 G H) 0 k = (fnd (pS 355 G H) 0 k).map wph := by
  intro k
  induction k with
  | zero => rfl
  | succ k ih =>
    show fstep (pS 361 G H) (fnd (pS 361 G H) 0 k) k = (fstep (pS 355 G H) (fnd (pS 355 G H) 0 k) k).map wph
    rw [ih]
    have hin := pS_in hG hH hH.2.1 k
    cases hv : (fnd (pS 355 G H) 0 k)[k / 8]? with
    | none =>
      have e1 := List.getElem?_eq_none_iff.mp hv
      rw [fstep_end e1, fstep_end (by rw [List.length_map]; exact e1)]
    | some v =>
      have hv' : ((fnd (pS 355 G H) 0 k).map wph)[k / 8]? = some (wph v) := by rw [List.getElem?_map, hv]; rfl
      obtain ⟨i1, i2⟩ := hin v (List.mem_of_getElem? hv)
      have hw := pS_w hG hH (c := k % 8) i1 i2
      cases hs : pS 355 G H v (k % 8) with
      | none =>
        rw [hs] at hw
        rw [fstep_none hv hs, fstep_none hv' hw]
      | some w =>
        rw [hs] at hw
        rw [fstep_some hv hs, fstep_some hv' hw]
        by_cases q : w ∈ fnd (pS 355 G H) 0 k
        · rw [if_pos q, if_pos (List.mem_map_of_mem q)]
        · rw [if_neg q, if_neg (fun z => ?_), List.map_append]
          · rfl
          · obtain ⟨x, hx, hxe⟩ := List.mem_map.mp z
            exact q (wph_inj hxe ▸ hx)
set_option maxRecDepth 100000 in
theorem pecn_w {G H : GT} (hG : GOK G) (hH : GOK H) {F : List Nat} (hF : Full (pS 355 G H) 0 F) : ∀ m, m ≤ 4 * F.length → pecn (pS 361 G H) (F.map wph) m = pecn (pS 355 G H) F m := by
  intro m
  induction m with
  | zero => exact fun _ => rfl
  | succ m ih =>
    intro hm
    rw [pecn_succ, pecn_succ, ih (by omega)]
    congr 1
    have hv : F[m / 4]? = some F[m / 4] := List.getElem?_eq_getElem (by omega)
    generalize F[m / 4] = v at hv
    have h1 : F.getD (m / 4) 0 = v := by rw [List.getD_eq_getElem?_getD, hv]; rfl
    have h2 : (F.map wph).getD (m / 4) 0 = wph v := by rw [List.getD_eq_getElem?_getD, List.getElem?_map, hv]; rfl
    have hin := pS_in hG hH hH.2.1 (8 * F.length) v (by rw [hF]; exact List.mem_of_getElem? hv)
    rw [h1, h2, pS_w hG hH hin.1 hin.2]
    cases pS 355 G H v (2 * (m % 4)) <;> rfl
set_option maxRecDepth 100000 in
/-- what the reference counts of pairs is what the class counts -/
theorem full_w {G H : GT} (hG : GOK G) (hH : GOK H) {F : List Nat} (h : Full (pS 361 G H) 0 F) : F.length = (ixF G H).length ∧ pecn (pS 361 G H) F (4 * F.length) = ixE G H := by
  unfold Full at h
  rw [fnd_w hG hH] at h
  have e : (fnd (pS 355 G H) 0 (8 * F.length)).length = F.length := by
    have := congrArg List.length h
    rw [List.length_map] at this
    exact this
  have hF : Full (pS 355 G H) 0 (fnd (pS 355 G H) 0 (8 * F.length)) := by
    unfold Full
    rw [e]
  have hx := ixF_eq hF
  refine ⟨by rw [← hx, e], ?_⟩
  have := pecn_w hG hH hF (4 * F.length) (by rw [e]; exact Nat.le_refl _)
  rw [h] at this
  rw [this]
  unfold ixE
  rw [← hx, e]
