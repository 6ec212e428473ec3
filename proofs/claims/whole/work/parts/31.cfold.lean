/-! folding with a table kept symmetric: the steps -/
set_option maxRecDepth 100000 in
theorem x1x1 {c : Nat} (h : c < 8) : (c ^^^ 1) ^^^ 1 = c := by
  have : ∀ c, c < 8 → (c ^^^ 1) ^^^ 1 = c := by decide
  exact this c h
set_option maxRecDepth 100000 in
theorem x1ne {c : Nat} (h : c < 8) : c ^^^ 1 ≠ c := by
  have : ∀ c, c < 8 → c ^^^ 1 ≠ c := by decide
  exact this c h
abbrev TB : Type := Nat → Nat → Int
def tset (T : TB) (a c : Nat) (x : Int) : TB := fun u d => if u = a ∧ d = c then x else T u d
set_option maxRecDepth 100000 in
theorem tset_s (T : TB) (a c : Nat) (x : Int) : tset T a c x a c = x := if_pos ⟨rfl, rfl⟩
set_option maxRecDepth 100000 in
theorem tset_o {T : TB} {a c u d : Nat} {x : Int} (h : ¬ (u = a ∧ d = c)) : tset T a c x u d = T u d := if_neg h
def CE (T : TB) : ED := fun u c v => c < 8 ∧ T u c = (v : Int)
def CT (T : TB) (used : Nat) : Prop := (∀ u c, c < 8 → -1 ≤ T u c ∧ T u c < used) ∧ (∀ u c, c < 8 → used ≤ u → T u c = -1) ∧ ∀ u c (v : Nat), c < 8 → T u c = (v : Int) → T v (c ^^^ 1) = (u : Int)
set_option maxRecDepth 100000 in
theorem CT.sym {T : TB} {used : Nat} (h : CT T used) (ρ : Nat → Nat) (E : List (Nat × Nat)) : ESym (CE T) (Rl ρ E) := fun u c v q => ⟨q.1, u, v, ⟨x1_lt q.1, h.2.2 u c v q.1 q.2⟩, Rl.rf, Rl.rf⟩
def cnT (T : TB) (a c b : Nat) : TB := if T a c = -1 ∧ T b (c ^^^ 1) = -1 then tset (tset T a c b) b (c ^^^ 1) a else T
def cnP (T : TB) (a c b : Nat) : List (Nat × Nat) := if T a c ≠ -1 then [((T a c).toNat, b)] else if T b (c ^^^ 1) ≠ -1 then [((T b (c ^^^ 1)).toNat, a)] else []
set_option maxRecDepth 100000 in
theorem cnP_len (T : TB) (a c b : Nat) : (cnP T a c b).length ≤ 1 := by
  unfold cnP
  split
  · exact Nat.le_refl _
  · split
    · exact Nat.le_refl _
    · exact Nat.zero_le _
section CN
variable {T : TB} {used a b c : Nat}
set_option maxRecDepth 100000 in
theorem cnT_keep (h : CT T used) (hc : c < 8) {u d : Nat} (hd : T u d ≠ -1) : cnT T a c b u d = T u d := by
  unfold cnT
  split
  · rename_i q
    rw [tset_o (fun z => hd (by rw [z.1, z.2]; exact q.2)), tset_o (fun z => hd (by rw [z.1, z.2]; exact q.1))]
  · rfl
set_option maxRecDepth 100000 in
theorem cnT_off {u d : Nat} (h1 : ¬ (u = a ∧ d = c)) (h2 : ¬ (u = b ∧ d = c ^^^ 1)) : cnT T a c b u d = T u d := by
  unfold cnT
  split
  · rw [tset_o h2, tset_o h1]
  · rfl
set_option maxRecDepth 100000 in
theorem cnT_ct (h : CT T used) (hc : c < 8) (ha : a < used) (hb : b < used) : CT (cnT T a c b) used := by
  have hx := x1_lt hc
  have hxx := x1x1 hc
  have hxn := x1ne hc
  unfold cnT
  split
  · rename_i q
    refine ⟨fun u d hd => ?_, fun u d hd hu => ?_, fun u d v hd hv => ?_⟩
    · unfold tset
      split
      · omega
      · split
        · omega
        · exact h.1 u d hd
    · rw [tset_o (fun z => by omega), tset_o (fun z => by omega)]
      exact h.2.1 u d hd hu
    · by_cases q1 : u = b ∧ d = c ^^^ 1
      · rw [q1.1, q1.2, tset_s] at hv
        have e : a = v := by omega
        subst e
        rw [q1.1, q1.2, hxx, tset_o (fun z => hxn z.2.symm), tset_s]
      · rw [tset_o q1] at hv
        by_cases q2 : u = a ∧ d = c
        · rw [q2.1, q2.2, tset_s] at hv
          have e : b = v := by omega
          subst e
          rw [q2.1, q2.2, tset_s]
        · rw [tset_o q2] at hv
          have k := h.2.2 u d v hd hv
          rw [tset_o (fun z => ?_), tset_o (fun z => ?_)]
          · exact k
          · rw [z.1, z.2] at k
            have := q.2
            omega
          · rw [z.1, z.2] at k
            have := q.1
            omega
  · exact h
set_option maxRecDepth 100000 in
theorem cn_sim (h : CT T used) (hc : c < 8) (ρ : Nat → Nat) (E : List (Nat × Nat)) : Sim (CE T) (Rl ρ E) (CE (cnT T a c b)) (Rl ρ (E ++ cnP T a c b)) := by
  refine ⟨fun u v q => q.mono (fun p hp => Rl.pair (List.mem_append_left _ hp)), fun u d v q => ⟨u, v, ⟨q.1, ?_⟩, Rl.rf, Rl.rf⟩⟩
  rw [cnT_keep h hc (by rw [q.2]; omega)]
  exact q.2
set_option maxRecDepth 100000 in
theorem cn_edge (h : CT T used) (hc : c < 8) (ρ : Nat → Nat) (E : List (Nat × Nat)) : ∃ u v, CE (cnT T a c b) u c v ∧ CE (cnT T a c b) v (c ^^^ 1) u ∧ Rl ρ (E ++ cnP T a c b) a u ∧ Rl ρ (E ++ cnP T a c b) b v := by
  have hx := x1_lt hc
  have hxx := x1x1 hc
  have hxn := x1ne hc
  by_cases q1 : T a c = -1
  · by_cases q2 : T b (c ^^^ 1) = -1
    · refine ⟨a, b, ⟨hc, ?_⟩, ⟨hx, ?_⟩, Rl.rf, Rl.rf⟩
      · unfold cnT
        rw [if_pos ⟨q1, q2⟩, tset_o (fun z => hxn z.2.symm), tset_s]
      · unfold cnT
        rw [if_pos ⟨q1, q2⟩, tset_s]
    · have e : T b (c ^^^ 1) = ((T b (c ^^^ 1)).toNat : Int) := by have := (h.1 b _ hx).1; omega
      have k := h.2.2 _ _ _ hx e
      rw [hxx] at k
      have hP : cnP T a c b = [((T b (c ^^^ 1)).toNat, a)] := by unfold cnP; rw [if_neg (fun z => z q1), if_pos q2]
      have hT : cnT T a c b = T := by unfold cnT; rw [if_neg (fun z => q2 z.2)]
      rw [hP, hT]
      exact ⟨_, b, ⟨hc, k⟩, ⟨hx, e⟩, (Rl.pair (List.mem_append_right _ List.mem_cons_self)).sy, Rl.rf⟩
  · have e : T a c = ((T a c).toNat : Int) := by have := (h.1 a _ hc).1; omega
    have k := h.2.2 _ _ _ hc e
    have hP : cnP T a c b = [((T a c).toNat, b)] := by unfold cnP; rw [if_pos q1]
    have hT : cnT T a c b = T := by unfold cnT; rw [if_neg (fun z => q1 z.1)]
    rw [hP, hT]
    exact ⟨a, _, ⟨hc, e⟩, ⟨hx, k⟩, Rl.rf, (Rl.pair (List.mem_append_right _ List.mem_cons_self)).sy⟩
set_option maxRecDepth 100000 in
theorem cn_resp {H : Nat → Nat → Option Nat} {φ : Nat → Nat} {ρ : Nat → Nat} {E : List (Nat × Nat)} (h : CT T used) (hc : c < 8) (hH : HOK H) (hr : Resp H φ (CE T) ρ E) (he : H (φ a) c = some (φ b)) : Resp H φ (CE (cnT T a c b)) ρ (E ++ cnP T a c b) := by
  have hx := x1_lt hc
  refine ⟨hr.1, fun p hp => ?_, fun u d v q => ?_⟩
  · rcases List.mem_append.mp hp with z | z
    · exact hr.2.1 p z
    · unfold cnP at z
      split at z
      · rename_i q
        rw [List.mem_singleton.mp z]
        have e : T a c = ((T a c).toNat : Int) := by have := (h.1 a _ hc).1; omega
        have := hr.2.2 a c _ ⟨hc, e⟩
        rw [he] at this
        exact (Option.some.inj this).symm
      · split at z
        · rename_i q
          rw [List.mem_singleton.mp z]
          have e : T b (c ^^^ 1) = ((T b (c ^^^ 1)).toNat : Int) := by have := (h.1 b _ hx).1; omega
          have := hr.2.2 b _ _ ⟨hx, e⟩
          rw [hH _ _ _ hc he] at this
          exact (Option.some.inj this).symm
        · cases z
  · have q2 := q.2
    unfold cnT at q2
    split at q2
    · by_cases z1 : u = b ∧ d = c ^^^ 1
      · rw [z1.1, z1.2, tset_s] at q2
        have e : a = v := by omega
        rw [z1.1, z1.2, ← e]
        exact hH _ _ _ hc he
      · rw [tset_o z1] at q2
        by_cases z2 : u = a ∧ d = c
        · rw [z2.1, z2.2, tset_s] at q2
          have e : b = v := by omega
          rw [z2.1, z2.2, ← e]
          exact he
        · rw [tset_o z2] at q2
          exact hr.2.2 u d v ⟨q.1, q2⟩
    · exact hr.2.2 u d v ⟨q.1, q2⟩
end CN
set_option maxRecDepth 100000 in
theorem cnP_in {T : TB} {used a b c : Nat} (h : CT T used) (hc : c < 8) (ha : a < used) (hb : b < used) : ∀ p ∈ cnP T a c b, p.1 < used ∧ p.2 < used := by
  intro p hp
  have h1 := h.1 a c hc
  have h2 := h.1 b _ (x1_lt hc)
  unfold cnP at hp
  split at hp
  · rw [List.mem_singleton.mp hp]; exact ⟨by show (T a c).toNat < used; omega, hb⟩
  · split at hp
    · rw [List.mem_singleton.mp hp]; exact ⟨by show (T b (c ^^^ 1)).toNat < used; omega, ha⟩
    · cases hp
/-- an edge and its way back are taken away -/
def tcl (T : TB) (b c to : Nat) : TB := tset (tset T b c (-1)) to (c ^^^ 1) (-1)
set_option maxRecDepth 100000 in
theorem tcl_ct {T : TB} {used b c to : Nat} (h : CT T used) (hc : c < 8) (ht : T b c = (to : Int)) : CT (tcl T b c to) used := by
  have hx := x1_lt hc
  have hxx := x1x1 hc
  unfold tcl
  refine ⟨fun u d hd => ?_, fun u d hd hu => ?_, fun u d v hd hv => ?_⟩
  · unfold tset
    split
    · omega
    · split
      · omega
      · exact h.1 u d hd
  · unfold tset
    split
    · rfl
    · split
      · rfl
      · exact h.2.1 u d hd hu
  · by_cases q1 : u = to ∧ d = c ^^^ 1
    · rw [q1.1, q1.2, tset_s] at hv; omega
    · rw [tset_o q1] at hv
      by_cases q2 : u = b ∧ d = c
      · rw [q2.1, q2.2, tset_s] at hv; omega
      · rw [tset_o q2] at hv
        have k := h.2.2 u d v hd hv
        rw [tset_o (fun z => ?_), tset_o (fun z => ?_)]
        · exact k
        · rw [z.1, z.2, ht] at k
          have e1 : to = u := by omega
          have e2 : d = c ^^^ 1 := by rw [← z.2, x1x1 hd]
          exact q1 ⟨e1.symm, e2⟩
        · have e2 : d = c := by have := x1x1 hd; rw [z.2, hxx] at this; exact this.symm
          rw [z.1, e2] at k
          have k2 := h.2.2 b c to hc ht
          rw [k2] at k
          exact q2 ⟨by omega, e2⟩
section MERGE
variable {T : TB} {used a b c to : Nat} {ρ : Nat → Nat} {E : List (Nat × Nat)}
set_option maxRecDepth 100000 in
/-- the step of one letter when b is put into a -/
theorem mg_step (h : CT T used) (hc : c < 8) (ha : a < used) (hab : a ≠ b) (hb : ρ b = b) (ht : T b c = (to : Int)) :
    Sim (CE T) (Rl (rput ρ a b) E) (CE (cnT (tcl T b c to) a c (if to = b then a else to))) (Rl (rput ρ a b) (E ++ cnP (tcl T b c to) a c (if to = b then a else to))) ∧ (∀ H φ, HOK H → Resp H φ (CE T) (rput ρ a b) E → Resp H φ (CE (cnT (tcl T b c to) a c (if to = b then a else to))) (rput ρ a b) (E ++ cnP (tcl T b c to) a c (if to = b then a else to))) := by
  have h1 := tcl_ct h hc ht
  have hx := x1_lt hc
  have hRt : ∀ E', Rl (rput ρ a b) E' to (if to = b then a else to) := fun E' => by
    split
    · rename_i q; rw [q]; exact (Rl.ab hb).sy
    · exact Rl.rf
  have hsub : ∀ u d v, CE (tcl T b c to) u d v → CE T u d v := fun u d v q => by
    refine ⟨q.1, ?_⟩
    have q2 := q.2
    unfold tcl tset at q2
    split at q2
    · omega
    · split at q2
      · omega
      · exact q2
  refine ⟨⟨fun u v q => q.mono (fun p hp => Rl.pair (List.mem_append_left _ hp)), fun u d v q => ?_⟩, fun H φ hH hr => ?_⟩
  · obtain ⟨x, y, e1, e2, e3, e4⟩ := cn_edge (a := a) (b := if to = b then a else to) h1 hc (rput ρ a b) E
    by_cases z1 : u = b ∧ d = c
    · have : v = to := by have := q.2; rw [z1.1, z1.2, ht] at this; omega
      rw [z1.1, z1.2, this]
      exact ⟨x, y, e1, (Rl.ab hb).sy.tr e3, (hRt _).tr e4⟩
    · by_cases z2 : u = to ∧ d = c ^^^ 1
      · have : v = b := by
          have q2 := q.2
          rw [z2.1, z2.2, h.2.2 b c to hc ht] at q2
          omega
        rw [z2.1, z2.2, this]
        exact ⟨y, x, e2, (hRt _).tr e4, (Rl.ab hb).sy.tr e3⟩
      · refine (cn_sim (a := a) (b := if to = b then a else to) h1 hc (rput ρ a b) E).2 u d v ⟨q.1, ?_⟩
        unfold tcl
        rw [tset_o z2, tset_o z1]
        exact q.2
  · have hφ : φ a = φ b := hr.rl (Rl.ab hb)
    refine cn_resp h1 hc hH ⟨hr.1, hr.2.1, fun u d v q => hr.2.2 u d v (hsub u d v q)⟩ ?_
    rw [hφ, hr.2.2 b c to ⟨hc, ht⟩, hr.rl (hRt E)]
end MERGE
/-- how many of the first n stand for themselves -/
def cntr (ρ : Nat → Nat) : Nat → Nat
  | 0 => 0
  | n + 1 => cntr ρ n + if ρ n = n then 1 else 0
set_option maxRecDepth 100000 in
theorem cntr_le (ρ : Nat → Nat) : ∀ n, cntr ρ n ≤ n := by
  intro n
  induction n with
  | zero => exact Nat.le_refl _
  | succ n ih => show cntr ρ n + (if _ then 1 else 0) ≤ n + 1; split <;> omega
set_option maxRecDepth 100000 in
theorem cntr_pos {ρ : Nat → Nat} (h : ρ 0 = 0) : ∀ n, 1 ≤ n → 1 ≤ cntr ρ n := by
  intro n
  induction n with
  | zero => intro q; omega
  | succ n ih =>
    intro _
    show 1 ≤ cntr ρ n + (if ρ n = n then 1 else 0)
    rcases Nat.eq_zero_or_pos n with q | q
    · rw [q, if_pos h]; omega
    · have := ih q; omega
set_option maxRecDepth 100000 in
theorem cntr_put {ρ : Nat → Nat} {a b : Nat} (ha : ρ a = a) (hb : ρ b = b) (hab : a ≠ b) : ∀ n, cntr (rput ρ a b) n + (if b < n then 1 else 0) = cntr ρ n := by
  intro n
  induction n with
  | zero => rfl
  | succ n ih =>
    show cntr (rput ρ a b) n + (if rput ρ a b n = n then 1 else 0) + _ = cntr ρ n + (if ρ n = n then 1 else 0)
    have e : rput ρ a b n = n ↔ ρ n = n ∧ n ≠ b := by
      unfold rput
      by_cases q : ρ n = b
      · rw [if_pos q]
        constructor
        · intro z; rw [← z, ha] at q; exact absurd q hab
        · intro z; rw [q] at z; exact absurd z.1.symm z.2
      · rw [if_neg q]
        constructor
        · intro z; exact ⟨z, fun y => q (by rw [y]; exact hb)⟩
        · exact fun z => z.1
    by_cases q : n = b
    · rw [if_neg (fun z => (e.mp z).2 q), if_pos (show b < n + 1 by omega), if_pos (show ρ n = n by rw [q]; exact hb)]
      rw [if_neg (show ¬ b < n by omega)] at ih
      omega
    · by_cases q2 : ρ n = n
      · rw [if_pos (e.mpr ⟨q2, q⟩), if_pos q2]
        by_cases q3 : b < n
        · rw [if_pos q3] at ih; rw [if_pos (show b < n + 1 by omega)]; omega
        · rw [if_neg q3] at ih; rw [if_neg (show ¬ b < n + 1 by omega)]; omega
      · rw [if_neg (fun z => q2 (e.mp z).1), if_neg q2]
        by_cases q3 : b < n
        · rw [if_pos q3] at ih; rw [if_pos (show b < n + 1 by omega)]; omega
        · rw [if_neg q3] at ih; rw [if_neg (show ¬ b < n + 1 by omega)]; omega
/-! who stands for a vertex: mg leads there step by step -/
def RtOf (mg ρ : Nat → Nat) : Prop := (∀ x, mg x ≤ x) ∧ (∀ x, ρ (mg x) = ρ x) ∧ (∀ x, mg x = x → ρ x = x) ∧ (∀ x, mg (ρ x) = ρ x) ∧ ∀ x, ρ x ≤ x
set_option maxRecDepth 100000 in
theorem RtOf.idem {mg ρ : Nat → Nat} (h : RtOf mg ρ) : ∀ x, ρ (ρ x) = ρ x := fun x => h.2.2.1 _ (h.2.2.2.1 x)
set_option maxRecDepth 100000 in
theorem RtOf.id : RtOf (fun x => x) (fun x => x) := ⟨fun _ => Nat.le_refl _, fun _ => rfl, fun _ _ => rfl, fun _ => rfl, fun _ => Nat.le_refl _⟩
set_option maxRecDepth 100000 in
theorem RtOf.comp {mg ρ : Nat → Nat} (h : RtOf mg ρ) (a : Nat) : RtOf (fun x => if x = a then mg (mg a) else mg x) ρ := by
  refine ⟨fun x => ?_, fun x => ?_, fun x hx => ?_, fun x => ?_, h.2.2.2.2⟩
  · show (if _ then _ else _) ≤ x
    split
    · rename_i q
      have := h.1 a
      have := h.1 (mg a)
      omega
    · exact h.1 x
  · show ρ (if _ then _ else _) = _
    split
    · rename_i q
      rw [h.2.1, h.2.1, q]
    · exact h.2.1 x
  · change (if x = a then mg (mg a) else mg x) = x at hx
    split at hx
    · rename_i q
      have k1 := h.1 a
      have k2 := h.1 (mg a)
      have : mg a = a := by omega
      rw [q]
      exact h.2.2.1 a this
    · exact h.2.2.1 x hx
  · show (if _ then _ else _) = _
    split
    · rename_i q
      have := h.2.2.2.1 x
      rw [q] at this ⊢
      rw [this, this]
    · exact h.2.2.2.1 x
set_option maxRecDepth 100000 in
theorem RtOf.put {mg ρ : Nat → Nat} {a b : Nat} (h : RtOf mg ρ) (ha : ρ a = a) (hb : ρ b = b) (hab : a < b) : RtOf (fun x => if x = b then a else mg x) (rput ρ a b) := by
  have ha' : mg a = a := by have := h.2.2.2.1 a; rw [ha] at this; exact this
  refine ⟨fun x => ?_, fun x => ?_, fun x hx => ?_, fun x => ?_, fun x => ?_⟩
  · show (if _ then _ else _) ≤ x
    split
    · omega
    · exact h.1 x
  · show rput ρ a b (if _ then _ else _) = _
    unfold rput
    split
    · rename_i q
      rw [q, ha, if_neg (by omega), if_pos hb]
    · rw [h.2.1]
  · change (if x = b then a else mg x) = x at hx
    split at hx
    · omega
    · rename_i q
      have := h.2.2.1 x hx
      unfold rput
      rw [this, if_neg q]
  · show (if _ then _ else _) = _
    unfold rput
    by_cases q : ρ x = b
    · rw [if_pos q, if_neg (by omega)]; exact ha'
    · rw [if_neg q, if_neg q]; exact h.2.2.2.1 x
  · unfold rput
    have := h.2.2.2.2 x
    split
    · rename_i q; omega
    · exact this
