/-! the numbering of vertices as they are first reached -/
def fstep (S : Nat → Nat → Option Nat) (L : List Nat) (k : Nat) : List Nat := match L[k / 8]? with
  | none => L
  | some v => match S v (k % 8) with
    | none => L
    | some w => if w ∈ L then L else L ++ [w]
def fnd (S : Nat → Nat → Option Nat) (r : Nat) : Nat → List Nat
  | 0 => [r]
  | k + 1 => fstep S (fnd S r k) k
set_option maxRecDepth 100000 in
theorem fstep_cases (S : Nat → Nat → Option Nat) (L : List Nat) (k : Nat) : fstep S L k = L ∨ ∃ v w, L[k / 8]? = some v ∧ S v (k % 8) = some w ∧ w ∉ L ∧ fstep S L k = L ++ [w] := by
  unfold fstep
  cases h : L[k / 8]? with
  | none => exact Or.inl rfl
  | some v =>
    cases h2 : S v (k % 8) with
    | none => exact Or.inl (by simp [h2])
    | some w =>
      by_cases q : w ∈ L
      · exact Or.inl (by simp [h2, q])
      · exact Or.inr ⟨v, w, rfl, h2, q, by simp [h2, q]⟩
set_option maxRecDepth 100000 in
theorem fstep_some {S : Nat → Nat → Option Nat} {L : List Nat} {k v w : Nat} (h : L[k / 8]? = some v) (h2 : S v (k % 8) = some w) : fstep S L k = if w ∈ L then L else L ++ [w] := by
  unfold fstep
  rw [h]
  show (match S v (k % 8) with | none => L | some w => if w ∈ L then L else L ++ [w]) = _
  rw [h2]
set_option maxRecDepth 100000 in
theorem fstep_none {S : Nat → Nat → Option Nat} {L : List Nat} {k v : Nat} (h : L[k / 8]? = some v) (h2 : S v (k % 8) = none) : fstep S L k = L := by
  unfold fstep
  rw [h]
  show (match S v (k % 8) with | none => L | some w => if w ∈ L then L else L ++ [w]) = _
  rw [h2]
set_option maxRecDepth 100000 in
theorem fstep_end {S : Nat → Nat → Option Nat} {L : List Nat} {k : Nat} (h : L.length ≤ k / 8) : fstep S L k = L := by
  unfold fstep
  rw [List.getElem?_eq_none h]
def NDs (L : List Nat) : Prop := ∀ (i j x : Nat), L[i]? = some x → L[j]? = some x → i = j
set_option maxRecDepth 100000 in
theorem fstep_pre (S : Nat → Nat → Option Nat) (L : List Nat) (k : Nat) : ∃ r, fstep S L k = L ++ r := by
  rcases fstep_cases S L k with h | ⟨v, w, -, -, -, h⟩
  · exact ⟨[], by rw [h, List.append_nil]⟩
  · exact ⟨[w], h⟩
set_option maxRecDepth 100000 in
theorem fnd_pre (S : Nat → Nat → Option Nat) (r : Nat) {k k' : Nat} (h : k ≤ k') : ∃ t, fnd S r k' = fnd S r k ++ t := by
  induction k' with
  | zero => exact ⟨[], by rw [List.append_nil, show k = 0 by omega]⟩
  | succ n ih =>
    by_cases q : k = n + 1
    · exact ⟨[], by rw [List.append_nil, q]⟩
    · obtain ⟨t, ht⟩ := ih (by omega)
      obtain ⟨t', ht'⟩ := fstep_pre S (fnd S r n) n
      refine ⟨t ++ t', ?_⟩
      show fstep S (fnd S r n) n = _
      rw [ht', ht, List.append_assoc]
set_option maxRecDepth 100000 in
theorem fnd_at {S : Nat → Nat → Option Nat} {r k k' i x : Nat} (h : k ≤ k') (hx : (fnd S r k)[i]? = some x) : (fnd S r k')[i]? = some x := by
  obtain ⟨t, ht⟩ := fnd_pre S r h
  rw [ht, List.getElem?_append_left (List.getElem?_eq_some_iff.mp hx).1]
  exact hx
set_option maxRecDepth 100000 in
theorem fnd_len {S : Nat → Nat → Option Nat} {r k k' : Nat} (h : k ≤ k') : (fnd S r k).length ≤ (fnd S r k').length := by
  obtain ⟨t, ht⟩ := fnd_pre S r h
  rw [ht, List.length_append]
  omega
set_option maxRecDepth 100000 in
theorem fnd_pos (S : Nat → Nat → Option Nat) (r k : Nat) : 1 ≤ (fnd S r k).length := fnd_len (k := 0) (Nat.zero_le _)
set_option maxRecDepth 100000 in
theorem fnd_0 (S : Nat → Nat → Option Nat) (r k : Nat) : (fnd S r k)[0]? = some r := fnd_at (k := 0) (Nat.zero_le _) rfl
set_option maxRecDepth 100000 in
theorem fnd_nd (S : Nat → Nat → Option Nat) (r : Nat) : ∀ k, NDs (fnd S r k) := by
  intro k
  induction k with
  | zero =>
    intro i j x h1 h2
    have e1 := (List.getElem?_eq_some_iff.mp h1).1
    have e2 := (List.getElem?_eq_some_iff.mp h2).1
    change i < 1 at e1
    change j < 1 at e2
    omega
  | succ n ih =>
    rcases fstep_cases S (fnd S r n) n with h | ⟨v, w, -, -, hw, h⟩
    · show NDs (fstep S (fnd S r n) n)
      rw [h]; exact ih
    · show NDs (fstep S (fnd S r n) n)
      rw [h]
      intro i j x h1 h2
      have b1 := (List.getElem?_eq_some_iff.mp h1).1
      have b2 := (List.getElem?_eq_some_iff.mp h2).1
      rw [List.length_append, List.length_singleton] at b1 b2
      by_cases q1 : i < (fnd S r n).length
      · rw [List.getElem?_append_left q1] at h1
        by_cases q2 : j < (fnd S r n).length
        · rw [List.getElem?_append_left q2] at h2
          exact ih i j x h1 h2
        · have : j = (fnd S r n).length := by omega
          rw [this, List.getElem?_append_right (Nat.le_refl _), Nat.sub_self] at h2
          have e : w = x := by simpa using h2
          exact absurd (e ▸ List.mem_of_getElem? h1) hw
      · have hi : i = (fnd S r n).length := by omega
        rw [hi, List.getElem?_append_right (Nat.le_refl _), Nat.sub_self] at h1
        have e : w = x := by simpa using h1
        by_cases q2 : j < (fnd S r n).length
        · rw [List.getElem?_append_left q2] at h2
          exact absurd (e ▸ List.mem_of_getElem? h2) hw
        · omega
/-- all is found -/
def Full (S : Nat → Nat → Option Nat) (r : Nat) (F : List Nat) : Prop := fnd S r (8 * F.length) = F
set_option maxRecDepth 100000 in
theorem fnd_stay {S : Nat → Nat → Option Nat} {r : Nat} {F : List Nat} (h : Full S r F) : ∀ k, 8 * F.length ≤ k → fnd S r k = F := by
  intro k
  induction k with
  | zero =>
    intro hk
    have := fnd_pos S r (8 * F.length)
    rw [h] at this
    omega
  | succ n ih =>
    intro hk
    by_cases q : 8 * F.length = n + 1
    · rw [← q]; exact h
    · have hn := ih (by omega)
      show fstep S (fnd S r n) n = F
      rw [hn]
      exact fstep_end (by omega)
set_option maxRecDepth 100000 in
theorem Full.uniq {S : Nat → Nat → Option Nat} {r : Nat} {F F' : List Nat} (h : Full S r F) (h' : Full S r F') : F = F' := by
  rcases Nat.le_total F.length F'.length with q | q
  · rw [← fnd_stay h (8 * F'.length) (by omega)]; exact h'
  · rw [← fnd_stay h' (8 * F.length) (by omega)]; exact h.symm
set_option maxRecDepth 100000 in
theorem Full.nd {S : Nat → Nat → Option Nat} {r : Nat} {F : List Nat} (h : Full S r F) : NDs F := by rw [← h]; exact fnd_nd S r _
set_option maxRecDepth 100000 in
/-- what a found vertex leads to is found -/
theorem Full.cl {S : Nat → Nat → Option Nat} {r : Nat} {F : List Nat} (h : Full S r F) {n c v w : Nat} (hv : F[n]? = some v) (hc : c < 8) (hw : S v c = some w) : ∃ m : Nat, F[m]? = some w := by
  have hn := (List.getElem?_eq_some_iff.mp hv).1
  have hmem : w ∈ fnd S r (8 * n + c + 1) := by
    have hv' : (fnd S r (8 * n + c))[n]? = some v := by
      by_cases q : n < (fnd S r (8 * n + c)).length
      · obtain ⟨t, ht⟩ := fnd_pre S r (show 8 * n + c ≤ 8 * F.length by omega)
        rw [h] at ht
        rw [ht, List.getElem?_append_left q] at hv
        exact hv
      · exfalso
        have hst : ∀ k, 8 * n + c ≤ k → fnd S r k = fnd S r (8 * n + c) := by
          intro k
          induction k with
          | zero => intro hk; rw [show 8 * n + c = 0 by omega]
          | succ k ih =>
            intro hk
            by_cases q2 : 8 * n + c = k + 1
            · rw [q2]
            · have := ih (by omega)
              show fstep S (fnd S r k) k = _
              rw [this]
              exact fstep_end (by omega)
        have := hst (8 * F.length) (by omega)
        rw [h] at this
        rw [← this] at q
        exact q hn
    show w ∈ fstep S (fnd S r (8 * n + c)) (8 * n + c)
    have e1 : (8 * n + c) / 8 = n := by omega
    have e2 : (8 * n + c) % 8 = c := by omega
    rw [fstep_some (v := v) (w := w) (by rw [e1]; exact hv') (by rw [e2]; exact hw)]
    by_cases q : w ∈ fnd S r (8 * n + c)
    · rw [if_pos q]; exact q
    · rw [if_neg q]; exact List.mem_append_right _ List.mem_cons_self
  obtain ⟨t, ht⟩ := fnd_pre S r (show 8 * n + c + 1 ≤ 8 * F.length by omega)
  rw [h] at ht
  rw [ht]
  obtain ⟨m, hm⟩ := List.getElem?_of_mem hmem
  exact ⟨m, by rw [List.getElem?_append_left (List.getElem?_eq_some_iff.mp hm).1]; exact hm⟩
/-- G is the graph of S, numbered from r on -/
def IsG (S : Nat → Nat → Option Nat) (r : Nat) (F : List Nat) (G : GT) : Prop := Full S r F ∧ gV G = F.length ∧ (∀ n c v, F[n]? = some v → c < 8 → (S v c = none → gt G n c = -1) ∧ ∀ (w m : Nat), S v c = some w → F[m]? = some w → gt G n c = (m : Int)) ∧ (∀ m, 1 ≤ m → m < F.length → gpc G m < 8 ∧ (fnd S r (8 * gpa G m + gpc G m)).length = m ∧ (fnd S r (8 * gpa G m + gpc G m + 1)).length = m + 1) ∧ gde G 0 = 0 ∧ ∀ m, 1 ≤ m → m < F.length → gde G m = gde G (gpa G m) + 1
def GEq (G G' : GT) : Prop := gV G = gV G' ∧ (∀ n c, n < gV G → c < 8 → gt G n c = gt G' n c) ∧ (∀ m, 1 ≤ m → m < gV G → gpa G m = gpa G' m ∧ gpc G m = gpc G' m) ∧ ∀ m, m < gV G → gde G m = gde G' m
set_option maxRecDepth 100000 in
theorem IsG.disc {S : Nat → Nat → Option Nat} {r : Nat} {F : List Nat} {G : GT} (h : IsG S r F G) {m : Nat} (h1 : 1 ≤ m) (h2 : m < F.length) : ∃ v w, F[gpa G m]? = some v ∧ S v (gpc G m) = some w ∧ F[m]? = some w ∧ gpa G m < m := by
  obtain ⟨k1, k2, k3⟩ := h.2.2.2.1 m h1 h2
  have e1 : (8 * gpa G m + gpc G m) / 8 = gpa G m := by omega
  have e2 : (8 * gpa G m + gpc G m) % 8 = gpc G m := by omega
  have hk : 8 * gpa G m + gpc G m + 1 ≤ 8 * F.length := by
    rcases Nat.lt_or_ge (8 * gpa G m + gpc G m) (8 * F.length) with q | q
    · exact q
    · rw [fnd_stay h.1 _ q] at k2
      omega
  rcases fstep_cases S (fnd S r (8 * gpa G m + gpc G m)) (8 * gpa G m + gpc G m) with q | ⟨v, w, q1, q2, q3, q4⟩
  · change (fstep S (fnd S r (8 * gpa G m + gpc G m)) (8 * gpa G m + gpc G m)).length = m + 1 at k3
    rw [q] at k3
    omega
  · rw [e1] at q1
    rw [e2] at q2
    have hl := (List.getElem?_eq_some_iff.mp q1).1
    have a1 := fnd_at (show 8 * gpa G m + gpc G m ≤ 8 * F.length by omega) q1
    rw [h.1] at a1
    have q5 : (fnd S r (8 * gpa G m + gpc G m + 1))[m]? = some w := by
      show (fstep S (fnd S r (8 * gpa G m + gpc G m)) (8 * gpa G m + gpc G m))[m]? = some w
      rw [q4, List.getElem?_append_right (by omega), k2, Nat.sub_self]
      rfl
    have a2 := fnd_at hk q5
    rw [h.1] at a2
    exact ⟨v, w, a1, q2, a2, by omega⟩
set_option maxRecDepth 100000 in
theorem IsG.ok {S : Nat → Nat → Option Nat} {r : Nat} {F : List Nat} {G : GT} (h : IsG S r F G) (hS : HOK S) (hF : F.length ≤ 355) : GOK G := by
  have hpos : 1 ≤ F.length := by have := fnd_pos S r (8 * F.length); rw [h.1] at this; exact this
  have hat : ∀ n, n < F.length → ∃ v, F[n]? = some v := fun n hn => ⟨_, List.getElem?_eq_getElem hn⟩
  refine ⟨by rw [h.2.1]; exact hpos, by rw [h.2.1]; exact hF, fun n c hn hc => ?_, fun n c m hn hc hm => ?_, fun m h1 h2 => ?_, h.2.2.2.2.1⟩
  · rw [h.2.1] at hn ⊢
    obtain ⟨v, hv⟩ := hat n hn
    have k := h.2.2.1 n c v hv hc
    cases q : S v c with
    | none => rw [k.1 q]; omega
    | some w =>
      obtain ⟨m, hm⟩ := Full.cl h.1 hv hc q
      rw [k.2 w m q hm]
      have := (List.getElem?_eq_some_iff.mp hm).1
      omega
  · rw [h.2.1] at hn
    obtain ⟨v, hv⟩ := hat n hn
    have k := h.2.2.1 n c v hv hc
    cases q : S v c with
    | none => rw [k.1 q] at hm; omega
    | some w =>
      obtain ⟨m', hm'⟩ := Full.cl h.1 hv hc q
      rw [k.2 w m' q hm'] at hm
      have e : m' = m := by omega
      subst e
      exact (h.2.2.1 m' (c ^^^ 1) w hm' (x1_lt hc)).2 v n (hS v c w hc q) hv
  · rw [h.2.1] at h2
    obtain ⟨v, w, k1, k2, k3, k4⟩ := h.disc h1 h2
    have k5 := (h.2.2.2.1 m h1 h2).1
    exact ⟨k4, k5, (h.2.2.1 _ _ v k1 k5).2 w m k2 k3, h.2.2.2.2.2 m h1 h2⟩
set_option maxRecDepth 100000 in
/-- two foldings of the same words are numbered alike -/
theorem IsG.uniq {ws : List (List Nat)} {S S' : Nat → Nat → Option Nat} {r r' : Nat} {F F' : List Nat} {G G' : GT} (a : Aut ws S r) (a' : Aut ws S' r') (h : IsG S r F G) (h' : IsG S' r' F' G') : GEq G G' := by
  obtain ⟨φ, p1, p2⟩ := a.2.2 S' r' a'.1 a'.2.1
  obtain ⟨ψ, q1, q2⟩ := a'.2.2 S r a.1 a.2.1
  have key : ∀ k, fnd S' r' k = (fnd S r k).map φ ∧ ∀ x ∈ fnd S r k, ψ (φ x) = x := by
    intro k
    induction k with
    | zero =>
      refine ⟨by show [r'] = [φ r]; rw [p1], fun x hx => ?_⟩
      have : x = r := List.mem_singleton.mp hx
      rw [this, p1, q1]
    | succ k ih =>
      obtain ⟨ih1, ih2⟩ := ih
      show fstep S' (fnd S' r' k) k = (fstep S (fnd S r k) k).map φ ∧ ∀ x ∈ fstep S (fnd S r k) k, ψ (φ x) = x
      rw [ih1]
      cases hv : (fnd S r k)[k / 8]? with
      | none =>
        have e1 := List.getElem?_eq_none_iff.mp hv
        rw [fstep_end e1, fstep_end (by rw [List.length_map]; exact e1)]
        exact ⟨rfl, ih2⟩
      | some v =>
        have hv' : ((fnd S r k).map φ)[k / 8]? = some (φ v) := by rw [List.getElem?_map, hv]; rfl
        have hψ := ih2 v (List.mem_of_getElem? hv)
        cases hw : S v (k % 8) with
        | none =>
          have hw' : S' (φ v) (k % 8) = none := by
            cases q : S' (φ v) (k % 8) with
            | none => rfl
            | some w' =>
              have := q2 _ _ _ q
              rw [hψ, hw] at this
              cases this
          rw [fstep_none hv hw, fstep_none hv' hw']
          exact ⟨rfl, ih2⟩
        | some w =>
          have hw' := p2 _ _ _ hw
          have hψw : ψ (φ w) = w := by
            have := q2 _ _ _ hw'
            rw [hψ, hw] at this
            exact (Option.some.inj this).symm
          rw [fstep_some hv hw, fstep_some hv' hw']
          by_cases q : w ∈ fnd S r k
          · rw [if_pos q, if_pos (List.mem_map_of_mem q)]
            exact ⟨rfl, ih2⟩
          · have q' : φ w ∉ (fnd S r k).map φ := by
              intro z
              obtain ⟨x, hx, hxe⟩ := List.mem_map.mp z
              have := ih2 x hx
              rw [hxe, hψw] at this
              exact q (this ▸ hx)
            rw [if_neg q, if_neg q', List.map_append]
            refine ⟨rfl, fun x hx => ?_⟩
            rcases List.mem_append.mp hx with z | z
            · exact ih2 x z
            · rw [List.mem_singleton.mp z]; exact hψw
  have hF' : F' = F.map φ := by
    refine Full.uniq h'.1 ?_
    unfold Full
    rw [List.length_map, (key _).1, h.1]
  have hback : ∀ x ∈ F, ψ (φ x) = x := by
    have := (key (8 * F.length)).2
    rw [h.1] at this
    exact this
  have hV : gV G = gV G' := by rw [h.2.1, h'.2.1, hF', List.length_map]
  have hpp : ∀ m, 1 ≤ m → m < gV G → gpa G m = gpa G' m ∧ gpc G m = gpc G' m := by
    intro m h1 h2
    rw [h.2.1] at h2
    obtain ⟨k1, k2, k3⟩ := h.2.2.2.1 m h1 h2
    obtain ⟨l1, l2, l3⟩ := h'.2.2.2.1 m h1 (by rw [hF', List.length_map]; exact h2)
    rw [(key _).1, List.length_map] at l2 l3
    have : 8 * gpa G m + gpc G m = 8 * gpa G' m + gpc G' m := by
      rcases Nat.lt_trichotomy (8 * gpa G m + gpc G m) (8 * gpa G' m + gpc G' m) with q | q | q
      · have := fnd_len (S := S) (r := r) q
        rw [k3, l2] at this
        omega
      · exact q
      · have := fnd_len (S := S) (r := r) q
        rw [l3, k2] at this
        omega
    omega
  refine ⟨hV, fun n c hn hc => ?_, hpp, ?_⟩
  · rw [h.2.1] at hn
    have hv : F[n]? = some F[n] := List.getElem?_eq_getElem hn
    generalize F[n] = v at hv
    have hv' : F'[n]? = some (φ v) := by rw [hF', List.getElem?_map, hv]; rfl
    have k := h.2.2.1 n c v hv hc
    have k' := h'.2.2.1 n c _ hv' hc
    cases hw : S v c with
    | none =>
      have hw' : S' (φ v) c = none := by
        cases q : S' (φ v) c with
        | none => rfl
        | some w' =>
          have := q2 _ _ _ q
          rw [hback v (List.mem_of_getElem? hv), hw] at this
          cases this
      rw [k.1 hw, k'.1 hw']
    | some w =>
      obtain ⟨m, hm⟩ := Full.cl h.1 hv hc hw
      rw [k.2 w m hw hm, k'.2 (φ w) m (p2 _ _ _ hw) (by rw [hF', List.getElem?_map, hm]; rfl)]
  · intro m
    induction m using Nat.strongRecOn with
    | ind m ih =>
      intro hm
      rcases Nat.eq_zero_or_pos m with q | q
      · rw [q, h.2.2.2.2.1, h'.2.2.2.2.1]
      · obtain ⟨v, w, -, -, -, k4⟩ := h.disc q (by rw [← h.2.1]; exact hm)
        rw [h.2.2.2.2.2 m q (by rw [← h.2.1]; exact hm), h'.2.2.2.2.2 m q (by rw [← h'.2.1, ← hV]; exact hm), ← (hpp m q hm).1, ih _ k4 (by omega)]
/-- the graph of a subgroup -/
def IsGr (ws : List (List Nat)) (G : GT) : Prop := ∃ S r F, Aut ws S r ∧ IsG S r F G ∧ F.length ≤ 355
noncomputable def grf (ws : List (List Nat)) : GT := @dite GT (∃ G, IsGr ws G) (Classical.propDecidable _) (fun h => Classical.choose h) (fun _ => (0, fun _ _ => 0, fun _ => 0, fun _ => 0, fun _ => 0))
set_option maxRecDepth 100000 in
theorem grf_is {ws : List (List Nat)} {G : GT} (h : IsGr ws G) : IsGr ws (grf ws) := by
  unfold grf
  rw [dif_pos ⟨G, h⟩]
  exact Classical.choose_spec (⟨G, h⟩ : ∃ G, IsGr ws G)
set_option maxRecDepth 100000 in
theorem grf_eq {ws : List (List Nat)} {G : GT} (h : IsGr ws G) : GEq G (grf ws) := by
  obtain ⟨S', r', F', h1', h2', -⟩ := grf_is h
  obtain ⟨S, r, F, h1, h2, -⟩ := h
  exact IsG.uniq h1 h1' h2 h2'
set_option maxRecDepth 100000 in
theorem IsGr.ok {ws : List (List Nat)} {G : GT} (h : IsGr ws G) : GOK G := by
  obtain ⟨S, r, F, h1, h2, h3⟩ := h
  exact h2.ok h1.1 h3
