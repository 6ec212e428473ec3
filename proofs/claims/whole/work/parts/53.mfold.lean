/-! the reference's folding, the mathematics: edges of rows that stand for themselves -/
def ME (T : TB) (ρ : Nat → Nat) : ED := fun u c v => c < 8 ∧ ρ u = u ∧ T u c = (v : Int)
def MTb (T : TB) (n : Nat) : Prop := (∀ u c, c < 8 → -1 ≤ T u c ∧ T u c < n) ∧ ∀ u c, c < 8 → n ≤ u → T u c = -1
def mgT (T : TB) (a b : Nat) : TB := fun u c => if u = a ∧ T a c = -1 then T b c else T u c
def mgP (T : TB) (a b : Nat) : Nat → List (Nat × Nat)
  | 0 => []
  | k + 1 => mgP T a b k ++ if T b k ≠ -1 ∧ T a k ≠ -1 then [((T a k).toNat, (T b k).toNat)] else []
set_option maxRecDepth 100000 in
theorem mgP_mem {T : TB} {a b : Nat} (p : Nat × Nat) : ∀ k, p ∈ mgP T a b k ↔ ∃ c, c < k ∧ (T b c ≠ -1 ∧ T a c ≠ -1) ∧ p = ((T a c).toNat, (T b c).toNat) := by
  intro k
  induction k with
  | zero => exact ⟨fun h => (by cases h), fun ⟨c, h, _⟩ => absurd h (Nat.not_lt_zero c)⟩
  | succ k ih =>
    show p ∈ mgP T a b k ++ _ ↔ _
    rw [List.mem_append, ih]
    constructor
    · rintro (⟨c, h1, h2, h3⟩ | h)
      · exact ⟨c, by omega, h2, h3⟩
      · by_cases q : T b k ≠ -1 ∧ T a k ≠ -1
        · rw [if_pos q] at h
          exact ⟨k, by omega, q, List.mem_singleton.mp h⟩
        · rw [if_neg q] at h; cases h
    · rintro ⟨c, h1, h2, h3⟩
      by_cases e : c = k
      · subst e
        right
        rw [if_pos h2, h3]
        exact List.mem_cons_self
      · exact Or.inl ⟨c, by omega, h2, h3⟩
set_option maxRecDepth 100000 in
theorem mgP_len {T : TB} {a b : Nat} : ∀ k, (mgP T a b k).length ≤ k := by
  intro k
  induction k with
  | zero => exact Nat.le_refl _
  | succ k ih =>
    show (mgP T a b k ++ _).length ≤ _
    rw [List.length_append]
    split
    · show _ + 1 ≤ _; omega
    · show _ + 0 ≤ _; omega
set_option maxRecDepth 100000 in
theorem mgT_MT {T : TB} {n a b : Nat} (h : MTb T n) (ha : a < n) : MTb (mgT T a b) n := by
  refine ⟨fun u c hc => ?_, fun u c hc hu => ?_⟩
  · unfold mgT
    split
    · exact h.1 b c hc
    · exact h.1 u c hc
  · unfold mgT
    rw [if_neg (fun z => by omega)]
    exact h.2 u c hc hu
section MM
variable {T : TB} {ρ : Nat → Nat} {E : List (Nat × Nat)} {p : Nat × Nat} {a b : Nat}
set_option maxRecDepth 100000 in
theorem mm_pair (hp : (ρ p.1 = a ∧ ρ p.2 = b) ∨ (ρ p.1 = b ∧ ρ p.2 = a)) (ha : ρ a = a) (hb : ρ b = b) {E' : List (Nat × Nat)} : Rl (rput ρ a b) E' p.1 p.2 := by
  have h1 : ∀ x, ρ x = a ∨ ρ x = b → Rl (rput ρ a b) E' a x := by
    intro x hx
    have := Rl.root (ρ := rput ρ a b) (E := E') (u := x)
    unfold rput at this ⊢
    by_cases q : ρ x = b
    · rw [if_pos q] at this; exact this
    · rw [if_neg q, hx.resolve_right q] at this; exact this
  rcases hp with ⟨q1, q2⟩ | ⟨q1, q2⟩
  · exact (h1 _ (Or.inl q1)).sy.tr (h1 _ (Or.inr q2))
  · exact (h1 _ (Or.inr q1)).sy.tr (h1 _ (Or.inl q2))
set_option maxRecDepth 100000 in
theorem mm_edge {n : Nat} (hT : MTb T n) (ha : ρ a = a) (hb : ρ b = b) (hab : a ≠ b) {u c v : Nat} (h : ME T ρ u c v) : ∃ u' v', ME (mgT T a b) (rput ρ a b) u' c v' ∧ Rl (rput ρ a b) (E ++ mgP T a b 8) u u' ∧ Rl (rput ρ a b) (E ++ mgP T a b 8) v v' := by
  obtain ⟨h1, h2, h3⟩ := h
  have ra : rput ρ a b a = a := by unfold rput; rw [ha, if_neg hab]
  by_cases q : u = b
  · subst q
    by_cases z : T a c = -1
    · refine ⟨a, v, ⟨h1, ra, ?_⟩, (Rl.ab hb).sy, Rl.rf⟩
      unfold mgT
      rw [if_pos ⟨rfl, z⟩]
      exact h3
    · refine ⟨a, (T a c).toNat, ⟨h1, ra, ?_⟩, (Rl.ab hb).sy, ?_⟩
      · unfold mgT
        rw [if_neg (fun y => z y.2)]
        have := (hT.1 a c h1).1
        omega
      · refine (Rl.pair (List.mem_append_right _ ((mgP_mem _ 8).mpr ⟨c, h1, ⟨by rw [h3]; omega, z⟩, ?_⟩))).sy
        rw [h3]
        rfl
  · refine ⟨u, v, ⟨h1, ?_, ?_⟩, Rl.rf, Rl.rf⟩
    · unfold rput
      rw [h2, if_neg q]
    · unfold mgT
      rw [if_neg (fun y => by rw [← y.1, h3] at y; omega)]
      exact h3
set_option maxRecDepth 100000 in
theorem mm_sim {n : Nat} (hT : MTb T n) (hρ : ∀ x, ρ (ρ x) = ρ x) (ha : ρ a = a) (hb : ρ b = b) (hab : a ≠ b) (hp : (ρ p.1 = a ∧ ρ p.2 = b) ∨ (ρ p.1 = b ∧ ρ p.2 = a)) : Sim (ME T ρ) (Rl ρ (E ++ [p])) (ME (mgT T a b) (rput ρ a b)) (Rl (rput ρ a b) (E ++ mgP T a b 8)) := by
  refine ⟨fun u v h => Rl.put hρ ha hb hab h (fun q hq => ?_), fun u c v h => mm_edge hT ha hb hab h⟩
  rcases List.mem_append.mp hq with z | z
  · exact Rl.pair (List.mem_append_left _ z)
  · rw [List.mem_singleton.mp z]
    exact mm_pair hp ha hb
set_option maxRecDepth 100000 in
theorem mm_back (hb : ρ b = b) (hab : a ≠ b) {u c v : Nat} (h : ME (mgT T a b) (rput ρ a b) u c v) : ∃ u0, (ME T ρ u0 c v ∨ (u0 = a ∧ ρ a ≠ a)) ∧ (u0 = u ∨ (u = a ∧ u0 = b)) := by
  obtain ⟨h1, h2, h3⟩ := h
  have hub : u ≠ b := fun e => by
    rw [e] at h2
    unfold rput at h2
    rw [hb, if_pos rfl] at h2
    exact hab h2
  have hu : u = a ∨ ρ u = u := by
    unfold rput at h2
    by_cases q : ρ u = b
    · rw [if_pos q] at h2; exact Or.inl h2.symm
    · rw [if_neg q] at h2; exact Or.inr h2
  unfold mgT at h3
  by_cases z : u = a ∧ T a c = -1
  · rw [if_pos z] at h3
    exact ⟨b, Or.inl ⟨h1, hb, h3⟩, Or.inr ⟨z.1, rfl⟩⟩
  · rw [if_neg z] at h3
    by_cases q : ρ u = u
    · exact ⟨u, Or.inl ⟨h1, q, h3⟩, Or.inl rfl⟩
    · have e := hu.resolve_right q
      subst e
      exact ⟨u, Or.inr ⟨rfl, q⟩, Or.inl rfl⟩
set_option maxRecDepth 100000 in
theorem FPar.merge {ws : List (List Nat)} {w : List Nat} {i v n : Nat} (h : FPar ws w i v (ME T ρ) ρ (E ++ [p])) (hT : MTb T n) (hρ : ∀ x, ρ (ρ x) = ρ x) (ha : ρ a = a) (hb : ρ b = b) (hab : a ≠ b) (hp : (ρ p.1 = a ∧ ρ p.2 = b) ∨ (ρ p.1 = b ∧ ρ p.2 = a)) : FPar ws w i v (ME (mgT T a b) (rput ρ a b)) (rput ρ a b) (E ++ mgP T a b 8) := by
  have hS := mm_sim (E := E) (p := p) hT hρ ha hb hab hp
  refine h.sim hS (fun u c t q => ?_) (fun H φ hH hr h0 _ _ _ => ?_)
  · obtain ⟨u0, k1, k2⟩ := mm_back hb hab q
    have k1 : ME T ρ u0 c t := k1.resolve_right (fun z => z.2 ha)
    obtain ⟨c8, u', v', m1, m2, m3⟩ := h.1 _ _ _ k1
    obtain ⟨v'', u'', n1, n2, n3⟩ := hS.2 _ _ _ m1
    refine ⟨c8, u'', v'', n1, ?_, (hS.1 _ _ m3).tr n2⟩
    refine Rl.tr ?_ ((hS.1 _ _ m2).tr n3)
    rcases k2 with e | ⟨e, e2⟩
    · rw [e]; exact Rl.rf
    · rw [e, e2]; exact Rl.ab hb
  · have hab' : φ a = φ b := by
      have e := hr.2.1 p (List.mem_append_right _ List.mem_cons_self)
      rw [← hr.1 p.1, ← hr.1 p.2] at e
      rcases hp with ⟨q1, q2⟩ | ⟨q1, q2⟩
      · rw [q1, q2] at e; exact e
      · rw [q1, q2] at e; exact e.symm
    refine ⟨fun x => ?_, fun q hq => ?_, fun u c t q => ?_⟩
    · unfold rput
      by_cases z : ρ x = b
      · rw [if_pos z, hab', ← z]; exact hr.1 x
      · rw [if_neg z]; exact hr.1 x
    · rcases List.mem_append.mp hq with z | z
      · exact hr.2.1 q (List.mem_append_left _ z)
      · obtain ⟨c, c8, ⟨z1, z2⟩, e⟩ := (mgP_mem _ 8).mp z
        rw [e]
        have e1 := hr.2.2 a c (T a c).toNat ⟨c8, ha, by have := (hT.1 a c c8).1; omega⟩
        have e2 := hr.2.2 b c (T b c).toNat ⟨c8, hb, by have := (hT.1 b c c8).1; omega⟩
        rw [hab', e2] at e1
        exact (Option.some.inj e1).symm
    · obtain ⟨u0, k1, k2⟩ := mm_back hb hab q
      have k1 : ME T ρ u0 c t := k1.resolve_right (fun z => z.2 ha)
      have e := hr.2.2 _ _ _ k1
      rcases k2 with z | ⟨z, z2⟩
      · rw [z] at e; exact e
      · rw [z2, ← hab', ← z] at e; exact e
set_option maxRecDepth 100000 in
theorem FPar.pop {ws : List (List Nat)} {w : List Nat} {i v : Nat} {Ed : ED} (h : FPar ws w i v Ed ρ (E ++ [p])) (hp : ρ p.1 = ρ p.2) : FPar ws w i v Ed ρ E := by
  have hm : ∀ {u t}, Rl ρ (E ++ [p]) u t → Rl ρ E u t := fun q => q.mono (fun z hz => by
    rcases List.mem_append.mp hz with y | y
    · exact Rl.pair y
    · rw [List.mem_singleton.mp y]
      refine Rl.root.sy.tr ?_
      rw [hp]
      exact Rl.root)
  refine h.sim ⟨fun u t q => hm q, fun u c t q => ⟨u, t, q, Rl.rf, Rl.rf⟩⟩ (fun u c t q => ?_) (fun H φ hH hr h0 _ _ _ => ⟨hr.1, fun q hq => hr.2.1 q (List.mem_append_left _ hq), hr.2.2⟩)
  obtain ⟨c8, u', v', m1, m2, m3⟩ := h.1 _ _ _ q
  exact ⟨c8, u', v', m1, hm m2, hm m3⟩
/-- an edge and its way back more -/
def Edp (Ed : ED) (a c b : Nat) : ED := fun u d v => Ed u d v ∨ (u = a ∧ d = c ∧ v = b) ∨ (u = b ∧ d = c ^^^ 1 ∧ v = a)
set_option maxRecDepth 100000 in
theorem Edp.sym {Ed : ED} {c : Nat} (hc : c < 8) (h : ESym Ed (Rl ρ [])) : ESym (Edp Ed a c b) (Rl ρ []) := by
  intro u d v q
  rcases q with q | ⟨q1, q2, q3⟩ | ⟨q1, q2, q3⟩
  · obtain ⟨c8, u', v', m1, m2, m3⟩ := h _ _ _ q
    exact ⟨c8, u', v', Or.inl m1, m2, m3⟩
  · exact ⟨by omega, a, b, Or.inr (Or.inr ⟨rfl, by rw [q2], rfl⟩), by rw [q1]; exact Rl.rf, by rw [q3]; exact Rl.rf⟩
  · exact ⟨by rw [q2]; exact x1_lt hc, b, a, Or.inr (Or.inl ⟨rfl, by rw [q2, x1x1 hc], rfl⟩), by rw [q1]; exact Rl.rf, by rw [q3]; exact Rl.rf⟩
set_option maxRecDepth 100000 in
theorem FPar.addN {ws : List (List Nat)} {w : List Nat} {i v n : Nat} {Ed : ED} (h : FPar ws w i v Ed ρ []) (hi : i < w.length) (hc : w.getD i 0 < 8) (hEd : ∀ u c t, Ed u c t → u ≠ n ∧ t ≠ n) (hρn : ∀ x, ρ x = n ↔ x = n) (hv : v ≠ n) (hn : 0 ≠ n) : FPar ws w (i + 1) n (Edp Ed (ρ v) (w.getD i 0) n) ρ [] := by
  have hS : Sim Ed (Rl ρ []) (Edp Ed (ρ v) (w.getD i 0) n) (Rl ρ []) := ⟨fun _ _ q => q, fun u c t q => ⟨u, t, Or.inl q, Rl.rf, Rl.rf⟩⟩
  refine ⟨Edp.sym hc h.1, fun w' q => Pth.sim hS (h.2.1 w' q), ?_, fun H h0 hH hw => ?_⟩
  · rw [take_s hi]
    exact Pth.app (Pth.sim hS h.2.2.1) ⟨ρ v, n, Rl.root.sy, Or.inr (Or.inl ⟨rfl, rfl, rfl⟩), Rl.rf⟩
  · obtain ⟨φ, p1, p2, p3⟩ := h.2.2.2 H h0 hH hw
    obtain ⟨z, z1, -⟩ := run_next (hw w (List.mem_append_right _ List.mem_cons_self)) hi p3
    have hvn : ρ v ≠ n := fun e => hv ((hρn v).mp e)
    refine ⟨fun x => if x = n then z else φ x, ?_, ⟨fun x => ?_, fun q hq => (by cases hq), fun u d t q => ?_⟩, ?_⟩
    · show (if 0 = n then z else φ 0) = h0
      rw [if_neg hn]; exact p1
    · show (if ρ x = n then z else φ (ρ x)) = if x = n then z else φ x
      by_cases e : x = n
      · rw [if_pos ((hρn x).mpr e), if_pos e]
      · rw [if_neg (fun y => e ((hρn x).mp y)), if_neg e]; exact p2.1 x
    · show H (if u = n then z else φ u) d = some (if t = n then z else φ t)
      rcases q with q | ⟨q1, q2, q3⟩ | ⟨q1, q2, q3⟩
      · obtain ⟨e1, e2⟩ := hEd _ _ _ q
        rw [if_neg e1, if_neg e2]; exact p2.2.2 _ _ _ q
      · rw [q1, q2, q3, if_neg hvn, if_pos rfl, p2.1 v]; exact z1
      · rw [q1, q2, q3, if_neg hvn, if_pos rfl, p2.1 v]; exact hH _ _ _ hc z1
    · show run H h0 (w.take (i + 1)) = some (if n = n then z else φ n)
      rw [if_pos rfl, run_s hi p3]; exact z1
set_option maxRecDepth 100000 in
theorem FPar.add0 {ws : List (List Nat)} {w : List Nat} {i v : Nat} {Ed : ED} (h : FPar ws w i v Ed ρ []) (hi : i + 1 = w.length) (hc : w.getD i 0 < 8) : FPar ws w (i + 1) 0 (Edp Ed (ρ v) (w.getD i 0) 0) ρ [] := by
  have hS : Sim Ed (Rl ρ []) (Edp Ed (ρ v) (w.getD i 0) 0) (Rl ρ []) := ⟨fun _ _ q => q, fun u c t q => ⟨u, t, Or.inl q, Rl.rf, Rl.rf⟩⟩
  refine ⟨Edp.sym hc h.1, fun w' q => Pth.sim hS (h.2.1 w' q), ?_, fun H h0 hH hw => ?_⟩
  · rw [take_s (by omega)]
    exact Pth.app (Pth.sim hS h.2.2.1) ⟨ρ v, 0, Rl.root.sy, Or.inr (Or.inl ⟨rfl, rfl, rfl⟩), Rl.rf⟩
  · obtain ⟨φ, p1, p2, p3⟩ := h.2.2.2 H h0 hH hw
    obtain ⟨z, z1, z2⟩ := run_next (hw w (List.mem_append_right _ List.mem_cons_self)) (show i < w.length by omega) p3
    have e := z2 hi
    subst e
    refine ⟨φ, p1, ⟨p2.1, fun q hq => (by cases hq), fun u d t q => ?_⟩, ?_⟩
    · rcases q with q | ⟨q1, q2, q3⟩ | ⟨q1, q2, q3⟩
      · exact p2.2.2 _ _ _ q
      · rw [q1, q2, q3, p2.1 v, p1]; exact z1
      · rw [q1, q2, q3, p2.1 v, p1]; exact hH _ _ _ hc z1
    · rw [run_s (by omega) p3, p1]; exact z1
set_option maxRecDepth 100000 in
/-- the edge's place is taken: its vertex and the edge's are to be made one -/
theorem FPar.ahead {ws : List (List Nat)} {w : List Nat} {i x c t : Nat} (h : FPar ws w i x (Edp (ME T ρ) a c b) ρ []) (hs : ESym (ME T ρ) (Rl ρ [])) (hc : c < 8) (ha : ρ a = a) (ht : T a c = (t : Int)) : FPar ws w i x (ME T ρ) ρ [(t, b)] := by
  have hp : Rl ρ [(t, b)] t b := Rl.pair List.mem_cons_self
  have hm : ∀ {u v}, Rl ρ [] u v → Rl ρ [(t, b)] u v := fun q => q.mono (fun z hz => by cases hz)
  refine h.sim ⟨fun u v q => hm q, fun u d v q => ?_⟩ (fun u d v q => ?_) (fun H φ hH hr h0 _ _ _ => ⟨hr.1, fun q hq => ?_, fun u d v q => hr.2.2 _ _ _ (Or.inl q)⟩)
  · rcases q with q | ⟨q1, q2, q3⟩ | ⟨q1, q2, q3⟩
    · exact ⟨u, v, q, Rl.rf, Rl.rf⟩
    · exact ⟨a, t, ⟨by omega, ha, by rw [q2]; exact ht⟩, by rw [q1]; exact Rl.rf, by rw [q3]; exact hp.sy⟩
    · obtain ⟨-, u', v', m1, m2, m3⟩ := hs a c t ⟨hc, ha, ht⟩
      rw [q1, q2, q3]
      exact ⟨v', u', m1, hp.sy.tr (hm m3), hm m2⟩
  · obtain ⟨c8, u', v', m1, m2, m3⟩ := hs _ _ _ q
    exact ⟨c8, u', v', m1, hm m2, hm m3⟩
  · rw [List.mem_singleton.mp hq]
    have e1 := hr.2.2 a c t (Or.inl ⟨hc, ha, ht⟩)
    have e2 := hr.2.2 a c b (Or.inr (Or.inl ⟨rfl, rfl, rfl⟩))
    rw [e1] at e2
    exact Option.some.inj e2
set_option maxRecDepth 100000 in
theorem FPar.behind {ws : List (List Nat)} {w : List Nat} {i x c t : Nat} (h : FPar ws w i x (Edp (ME T ρ) a c b) ρ []) (hs : ESym (ME T ρ) (Rl ρ [])) (hc : c < 8) (hb : ρ b = b) (ht : T b (c ^^^ 1) = (t : Int)) : FPar ws w i x (ME T ρ) ρ [(t, a)] := by
  have hp : Rl ρ [(t, a)] t a := Rl.pair List.mem_cons_self
  have hm : ∀ {u v}, Rl ρ [] u v → Rl ρ [(t, a)] u v := fun q => q.mono (fun z hz => by cases hz)
  have hc1 := x1_lt hc
  refine h.sim ⟨fun u v q => hm q, fun u d v q => ?_⟩ (fun u d v q => ?_) (fun H φ hH hr h0 _ _ _ => ⟨hr.1, fun q hq => ?_, fun u d v q => hr.2.2 _ _ _ (Or.inl q)⟩)
  · rcases q with q | ⟨q1, q2, q3⟩ | ⟨q1, q2, q3⟩
    · exact ⟨u, v, q, Rl.rf, Rl.rf⟩
    · obtain ⟨-, u', v', m1, m2, m3⟩ := hs b (c ^^^ 1) t ⟨hc1, hb, ht⟩
      rw [x1x1 hc] at m1
      rw [q1, q2, q3]
      exact ⟨v', u', m1, hp.sy.tr (hm m3), hm m2⟩
    · exact ⟨b, t, ⟨by omega, hb, by rw [q2]; exact ht⟩, by rw [q1]; exact Rl.rf, by rw [q3]; exact hp.sy⟩
  · obtain ⟨c8, u', v', m1, m2, m3⟩ := hs _ _ _ q
    exact ⟨c8, u', v', m1, hm m2, hm m3⟩
  · rw [List.mem_singleton.mp hq]
    have e1 := hr.2.2 b (c ^^^ 1) t (Or.inl ⟨hc1, hb, ht⟩)
    have e2 := hr.2.2 b (c ^^^ 1) a (Or.inr (Or.inr ⟨rfl, rfl, rfl⟩))
    rw [e1] at e2
    exact Option.some.inj e2
/-- both places are free: the edge is laid -/
def jnT (T : TB) (a c b : Nat) : TB := tset (tset T a c b) b (c ^^^ 1) a
set_option maxRecDepth 100000 in
theorem jnT_MT {n c : Nat} (h : MTb T n) (hc : c < 8) (ha : a < n) (hb : b < n) : MTb (jnT T a c b) n := by
  have k : ∀ u d, jnT T a c b u d = T u d ∨ (jnT T a c b u d = (b : Int) ∧ u = a) ∨ (jnT T a c b u d = (a : Int) ∧ u = b) := by
    intro u d
    unfold jnT
    by_cases q : u = b ∧ d = c ^^^ 1
    · right; right
      rw [q.1, q.2, tset_s]
      exact ⟨rfl, rfl⟩
    · rw [tset_o q]
      by_cases q2 : u = a ∧ d = c
      · right; left
        rw [q2.1, q2.2, tset_s]
        exact ⟨rfl, rfl⟩
      · left
        exact tset_o q2
  refine ⟨fun u d hd => ?_, fun u d hd hu => ?_⟩
  · rcases k u d with e | ⟨e, e2⟩ | ⟨e, e2⟩
    · rw [e]; exact h.1 u d hd
    · rw [e]; omega
    · rw [e]; omega
  · rcases k u d with e | ⟨e, e2⟩ | ⟨e, e2⟩
    · rw [e]; exact h.2 u d hd hu
    · omega
    · omega
set_option maxRecDepth 100000 in
theorem FPar.join {ws : List (List Nat)} {w : List Nat} {i x c : Nat} (h : FPar ws w i x (Edp (ME T ρ) a c b) ρ []) (hc : c < 8) (ha : ρ a = a) (hb : ρ b = b) (h1 : T a c = -1) (h2 : T b (c ^^^ 1) = -1) : FPar ws w i x (ME (jnT T a c b) ρ) ρ [] := by
  have hc1 := x1_lt hc
  have hne := x1ne hc
  have e1 : jnT T a c b a c = (b : Int) := by
    unfold jnT
    rw [tset_o (fun z => hne z.2.symm), tset_s]
  have e2 : jnT T a c b b (c ^^^ 1) = (a : Int) := tset_s _ _ _ _
  have keep : ∀ u d (v : Nat), T u d = (v : Int) → jnT T a c b u d = (v : Int) := by
    intro u d v e
    unfold jnT
    rw [tset_o (fun z => by rw [z.1, z.2, h2] at e; omega), tset_o (fun z => by rw [z.1, z.2, h1] at e; omega)]
    exact e
  have fw : ∀ u d v, Edp (ME T ρ) a c b u d v → ME (jnT T a c b) ρ u d v := by
    intro u d v q
    rcases q with ⟨q1, q2, q3⟩ | ⟨q1, q2, q3⟩ | ⟨q1, q2, q3⟩
    · exact ⟨q1, q2, keep _ _ _ q3⟩
    · rw [q1, q2, q3]; exact ⟨hc, ha, e1⟩
    · rw [q1, q2, q3]; exact ⟨hc1, hb, e2⟩
  have bw : ∀ u d v, ME (jnT T a c b) ρ u d v → Edp (ME T ρ) a c b u d v := by
    rintro u d v ⟨q1, q2, q3⟩
    by_cases z : u = b ∧ d = c ^^^ 1
    · rw [z.1, z.2, e2] at q3
      exact Or.inr (Or.inr ⟨z.1, z.2, by omega⟩)
    · by_cases z2 : u = a ∧ d = c
      · rw [z2.1, z2.2, e1] at q3
        exact Or.inr (Or.inl ⟨z2.1, z2.2, by omega⟩)
      · unfold jnT at q3
        rw [tset_o z, tset_o z2] at q3
        exact Or.inl ⟨q1, q2, q3⟩
  refine h.sim ⟨fun _ _ q => q, fun u d v q => ⟨u, v, fw _ _ _ q, Rl.rf, Rl.rf⟩⟩ (fun u d v q => ?_) (fun H φ hH hr h0 _ _ _ => ⟨hr.1, hr.2.1, fun u d v q => hr.2.2 _ _ _ (bw _ _ _ q)⟩)
  obtain ⟨c8, u', v', m1, m2, m3⟩ := h.1 _ _ _ (bw _ _ _ q)
  exact ⟨c8, u', v', fw _ _ _ m1, m2, m3⟩
end MM
/-- the folded graph -/
def mSt (T : TB) (ρ : Nat → Nat) : Nat → Nat → Option Nat := fun u c => if c < 8 ∧ ρ u = u ∧ T u c ≠ -1 then some (ρ (T u c).toNat) else none
set_option maxRecDepth 100000 in
theorem mS_iff {T : TB} {ρ : Nat → Nat} {n : Nat} (hT : MTb T n) (u c v : Nat) : mSt T ρ u c = some v ↔ ∃ v', ME T ρ u c v' ∧ ρ v' = v := by
  unfold mSt
  constructor
  · intro h
    by_cases q : c < 8 ∧ ρ u = u ∧ T u c ≠ -1
    · rw [if_pos q] at h
      exact ⟨(T u c).toNat, ⟨q.1, q.2.1, by have := (hT.1 u c q.1).1; omega⟩, Option.some.inj h⟩
    · rw [if_neg q] at h; cases h
  · rintro ⟨v', ⟨h1, h2, h3⟩, h4⟩
    rw [if_pos ⟨h1, h2, by omega⟩, h3]
    exact congrArg some h4
set_option maxRecDepth 100000 in
theorem mS_aut {ws : List (List Nat)} {T : TB} {ρ : Nat → Nat} {n : Nat} (hT : MTb T n) (h : FInv ws (ME T ρ) ρ []) (hρ : ∀ x, ρ (ρ x) = ρ x) (h0 : ρ 0 = 0) : Aut ws (mSt T ρ) 0 := h.aut hρ h0 (mS_iff hT) (fun u c v q => q.2.1)
