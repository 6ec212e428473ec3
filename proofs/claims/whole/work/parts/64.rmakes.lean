/-! the reference: numbered graphs -/
def RG (σ : HS) (y g : Nat) (G : GT) : Prop := zI σ (y + 11) g = (gV G : Int) ∧ (∀ n c, n < gV G → c < 8 → zI σ (y + 10) (8 * (361 * g + n) + c) = gt G n c) ∧ zI σ (y + 12) (361 * g) = -1 ∧ ∀ m, 1 ≤ m → m < gV G → zI σ (y + 12) (361 * g + m) = (gpa G m : Int) ∧ zI σ (y + 13) (361 * g + m) = (gpc G m : Int)
/-- while it is numbered -/
def NR (σ : HS) (y g n : Nat) (S : Nat → Nat → Option Nat) (L : List Nat) (k : Nat) : Prop :=
  (∀ (i w : Nat), L[i]? = some w → zI σ (y + 14) w = (i : Int) ∧ zI σ (y + 15) i = (w : Int)) ∧
  (∀ w, w < n → w ∉ L → zI σ (y + 14) w = -1) ∧
  (∀ (m c v : Nat), 8 * m + c < k → c < 8 → L[m]? = some v → (S v c = none → zI σ (y + 10) (8 * (361 * g + m) + c) = -1) ∧ ∀ w : Nat, S v c = some w → ∃ i : Nat, L[i]? = some w ∧ zI σ (y + 10) (8 * (361 * g + m) + c) = (i : Int)) ∧
  (∀ i, 1 ≤ i → i < L.length → ∃ p q : Nat, zI σ (y + 12) (361 * g + i) = (p : Int) ∧ zI σ (y + 13) (361 * g + i) = (q : Int) ∧ q < 8 ∧ (fnd S 0 (8 * p + q)).length = i ∧ (fnd S 0 (8 * p + q + 1)).length = i + 1) ∧
  zI σ (y + 12) (361 * g) = -1
/-- how far m is from 0, by its fathers -/
def dpF (p : Nat → Nat) : Nat → Nat → Nat
  | 0, _ => 0
  | f + 1, m => if m = 0 then 0 else dpF p f (p m) + 1
set_option maxRecDepth 100000 in
theorem dpF_0 (p : Nat → Nat) : ∀ f, dpF p f 0 = 0 := by
  intro f
  cases f with
  | zero => rfl
  | succ f => exact if_pos rfl
set_option maxRecDepth 100000 in
theorem dpF_st {p : Nat → Nat} {V : Nat} (hp : ∀ m, 1 ≤ m → m < V → p m < m) : ∀ f m, m ≤ f → m < V → dpF p f m = dpF p m m := by
  intro f
  induction f using Nat.strongRecOn with
  | ind f ih =>
    intro m hm hV
    rcases Nat.eq_zero_or_pos m with e | e
    · rw [e, dpF_0, dpF_0]
    · obtain ⟨m', rfl⟩ : ∃ m', m = m' + 1 := ⟨m - 1, by omega⟩
      obtain ⟨f', rfl⟩ : ∃ f', f = f' + 1 := ⟨f - 1, by omega⟩
      have h1 := hp (m' + 1) e hV
      show (if m' + 1 = 0 then 0 else dpF p f' (p (m' + 1)) + 1) = (if m' + 1 = 0 then 0 else dpF p m' (p (m' + 1)) + 1)
      rw [if_neg (by omega), if_neg (by omega), ih f' (by omega) _ (by omega) (by omega)]
      by_cases q : m' < f' + 1
      · rw [ih m' q _ (by omega) (by omega)]
      · omega
set_option maxRecDepth 100000 in
theorem dpF_s {p : Nat → Nat} {V m : Nat} (hp : ∀ m, 1 ≤ m → m < V → p m < m) (h1 : 1 ≤ m) (h2 : m < V) : dpF p m m = dpF p (p m) (p m) + 1 := by
  obtain ⟨m', rfl⟩ : ∃ m', m = m' + 1 := ⟨m - 1, by omega⟩
  have h3 := hp (m' + 1) h1 h2
  show (if m' + 1 = 0 then 0 else dpF p m' (p (m' + 1)) + 1) = _
  rw [if_neg (by omega), dpF_st hp m' _ (by omega) (by omega)]
section RMAKES
variable {Γ : GG} {σ σ' : HS} {Q : Res → HS → Prop} {y n g : Nat} {T : TB} {mg ρ : Nat → Nat} {Ks Rs : List Nat} {A : AA}
set_option maxRecDepth 100000 in
theorem RG.mr {G : GT} (h : RG σ y g G) (m : Mr σ σ' y Ks Rs) (h10 : 10 ∉ Rs := by decide) (h11 : 11 ∉ Rs := by decide) (h12 : 12 ∉ Rs := by decide) (h13 : 13 ∉ Rs := by decide) : RG σ' y g G := by
  unfold RG
  rw [m.i h10, m.i h11, m.i h12, m.i h13]
  exact h
set_option maxRecDepth 100000 in
theorem RG.congr {G G' : GT} (h : RG σ y g G) (e : GEq G G') : RG σ y g G' := by
  obtain ⟨e1, e2, e3, e4⟩ := e
  refine ⟨by rw [← e1]; exact h.1, fun m c hm hc => by rw [← e2 m c (by omega) hc]; exact h.2.1 m c (by omega) hc, h.2.2.1, fun m h1 h2 => ?_⟩
  rw [← (e3 m h1 (by omega)).1, ← (e3 m h1 (by omega)).2]
  exact h.2.2.2 m h1 (by omega)
set_option maxRecDepth 100000 in
/-- what was numbered is the subgroup's graph -/
theorem NR.rg {ws : List (List Nat)} {S : Nat → Nat → Option Nat} {F : List Nat} (h : NR σ y g n S F (8 * F.length)) (hF : Full S 0 F) (hl : F.length ≤ 355) (hA : Aut ws S 0) (hs : zI σ (y + 11) g = (F.length : Int)) : RG σ y g (grf ws) ∧ IsGr ws (grf ws) := by
  obtain ⟨n1, n2, n3, n4, n5⟩ := h
  let pa : Nat → Nat := fun m => (zI σ (y + 12) (361 * g + m)).toNat
  let G : GT := (F.length, fun m c => zI σ (y + 10) (8 * (361 * g + m) + c), pa, fun m => (zI σ (y + 13) (361 * g + m)).toNat, fun m => dpF pa m m)
  have hpa : ∀ m, 1 ≤ m → m < F.length → pa m < m := by
    intro m h1 h2
    obtain ⟨p, q, e1, e2, e3, e4, e5⟩ := n4 m h1 h2
    show (zI σ (y + 12) (361 * g + m)).toNat < m
    rw [e1]
    show p < m
    apply Classical.byContradiction
    intro z
    have hk : 8 * p + q < 8 * F.length := by
      rcases Nat.lt_or_ge (8 * p + q) (8 * F.length) with a | a
      · exact a
      · rw [fnd_stay hF _ a] at e4
        omega
    have he : (fnd S 0 (8 * p + q)).length ≤ (8 * p + q) / 8 := by omega
    have : fnd S 0 (8 * p + q + 1) = fnd S 0 (8 * p + q) := fstep_end he
    rw [this] at e5
    omega
  have hI : IsG S 0 F G := by
    refine ⟨hF, rfl, fun m c v hv hc => ⟨fun hs => ?_, fun w j hs hj => ?_⟩, fun m h1 h2 => ?_, dpF_0 _ _, fun m h1 h2 => dpF_s hpa h1 h2⟩
    · exact (n3 m c v (by have := (List.getElem?_eq_some_iff.mp hv).1; omega) hc hv).1 hs
    · obtain ⟨i, i1, i2⟩ := (n3 m c v (by have := (List.getElem?_eq_some_iff.mp hv).1; omega) hc hv).2 w hs
      have : i = j := hF.nd i j w i1 hj
      rw [← this]
      exact i2
    · obtain ⟨p, q, e1, e2, e3, e4, e5⟩ := n4 m h1 h2
      show (zI σ (y + 13) (361 * g + m)).toNat < 8 ∧ (fnd S 0 (8 * (zI σ (y + 12) (361 * g + m)).toNat + (zI σ (y + 13) (361 * g + m)).toNat)).length = m ∧ (fnd S 0 (8 * (zI σ (y + 12) (361 * g + m)).toNat + (zI σ (y + 13) (361 * g + m)).toNat + 1)).length = m + 1
      rw [e1, e2]
      exact ⟨e3, e4, e5⟩
  have hgr : IsGr ws G := ⟨S, 0, F, hA, hI, hl⟩
  have hrg : RG σ y g G := by
    refine ⟨hs, fun m c hm hc => rfl, n5, fun m h1 h2 => ?_⟩
    obtain ⟨p, q, e1, e2, e3, e4, e5⟩ := n4 m h1 h2
    show zI σ (y + 12) (361 * g + m) = (((zI σ (y + 12) (361 * g + m)).toNat : Nat) : Int) ∧ zI σ (y + 13) (361 * g + m) = (((zI σ (y + 13) (361 * g + m)).toNat : Nat) : Int)
    rw [e1, e2]
    exact ⟨rfl, rfl⟩
  exact ⟨hrg.congr (grf_eq hgr), grf_is hgr⟩
set_option maxRecDepth 100000 in
theorem r_wordsOfN (hg : g < 2) (hQ : Q (.inl (some (vI ((489 + 367 * g : Nat) : Int)))) σ) : zM Γ mX10_wordsOf [vI g] σ Q :=
  r_wordsOf (g := (g : Int)) ⟨by omega, by omega⟩ (by rw [Int.toNat_natCast]; exact hQ)
set_option maxRecDepth 100000 in
theorem r_generatingN {k : Nat} (hg : g < 2) (hQ : Q (.inl (some (vI ((490 + 367 * g + 61 * k : Nat) : Int)))) σ) : zM Γ mX10_generating [vI g, vI k] σ Q :=
  r_generating (g := (g : Int)) ⟨by omega, by omega⟩ (by rw [Int.toNat_natCast]; exact hQ)
set_option maxRecDepth 100000 in
theorem r_edgePlace {m c : Nat} (hQ : Q (.inl (some (vI ((8 * (361 * g + m) + c : Nat) : Int)))) σ) : zM Γ mX10_edgePlace [vI g, vI m, vI c] σ Q := by
  have e9 : (8 : Int) * (361 * (g : Int) + (m : Int)) + (c : Int) = ((8 * (361 * g + m) + c : Nat) : Int) := by omega
  refine zM_of (n := 0) (by decide +kernel) rfl rfl rfl ?_
  refine zW_bipush dX10_edgePlace_0 (by decide) ?_
  refine zW_sipush dX10_edgePlace_2 (by decide) ?_
  refine zW_iload_n dX10_edgePlace_5 rfl ?_
  refine zW_imul dX10_edgePlace_6 ?_
  refine zW_iload_n dX10_edgePlace_7 rfl ?_
  refine zW_iadd dX10_edgePlace_8 ?_
  refine zW_imul dX10_edgePlace_9 ?_
  refine zW_iload_n dX10_edgePlace_10 rfl ?_
  refine zW_iadd dX10_edgePlace_11 ?_
  refine zW_ireturn dX10_edgePlace_12 rfl rfl (by first | decide | (show _ ≤ (0 : Nat); omega)) (by first | decide | (show _ ≤ (0 : Nat); omega)) ?_
  rw [e9]
  exact hQ
set_option maxRecDepth 100000 in
theorem SR.gw {t : ST} (h : SR σ y 0 t) (hg : g < 2) {k : Nat} (hk : k < (sGw t g).length) : Rw σ y (0 + (490 + 367 * g + 61 * k)) ((sGw t g).getD k []) := by
  have := (h.2.2 g hg).2.2 k hk
  rw [show 0 + 490 + 367 * g + 61 * k = 0 + (490 + 367 * g + 61 * k) by omega] at this
  exact this
set_option maxRecDepth 100000 in
theorem SR.gc {t : ST} (h : SR σ y 0 t) (hg : g < 2) : zI σ (y + 1) (0 + (489 + 367 * g)) = ((sGw t g).length : Int) := by
  have := (h.2.2 g hg).1
  rw [show 0 + 489 + 367 * g = 0 + (489 + 367 * g) by omega] at this
  exact this
set_option maxRecDepth 100000 in
theorem r_makes {t : ST} (h : RA σ y 0) (hS : SR σ y 0 t) (hg : g < 2) (hQ : ∀ σ', RG σ' y g (grf (sGw t g)) → IsGr (sGw t g) (grf (sGw t g)) → (∀ f, f < 2 → f ≠ g → ∀ G, gV G ≤ 361 → RG σ y f G → RG σ' y f G) → Mr σ σ' y [20, 21] [7, 8, 9, 10, 11, 12, 13, 14, 15] → Q (.inl none) σ') : zM Γ mX10_makes [vR (some y), vI g] σ Q := by
  have hgc := hS.gc hg
  have hg6 := (hS.2.2 g hg).2.1
  refine zM_of (n := 4) (by decide +kernel) rfl rfl rfl ?_
  -- the folded graph is numbered
  have number : ∀ σ1 T mg ρ n z3 z4 z5, FB σ1 y T mg ρ n → 1 ≤ n → n ≤ 355 → FInv (sGw t g) (ME T ρ) ρ [] → Mr σ σ1 y [20, 21] [7, 8, 9] → zW Γ mX10_makes 39 [some (vR (some y)), some (vI g), z3, z4, z5, none] [] σ1 0 0 Q := by
    intro σ1 T mg ρ n z3 z4 z5 hB hn1 hn hI m1
    obtain ⟨hF, hR, hid, hT⟩ := id hB
    have hρ := hR.idem
    have hρ0 : ρ 0 = 0 := by have := hR.2.2.2.2 0; omega
    have hA := mS_aut hT hI hρ hρ0
    have hbd : ∀ k, ∀ x ∈ fnd (mSt T ρ) 0 k, x < n ∧ ρ x = x := by
      intro k
      induction k with
      | zero =>
        intro x hx
        rw [List.mem_singleton.mp hx]
        exact ⟨by omega, hρ0⟩
      | succ k ih =>
        intro x hx
        change x ∈ fstep (mSt T ρ) (fnd (mSt T ρ) 0 k) k at hx
        rcases fstep_cases (mSt T ρ) (fnd (mSt T ρ) 0 k) k with e | ⟨v, w, e1, e2, e3, e4⟩
        · rw [e] at hx; exact ih x hx
        · rw [e4] at hx
          rcases List.mem_append.mp hx with z | z
          · exact ih x z
          · rw [List.mem_singleton.mp z]
            obtain ⟨v', k1, k2⟩ := (mS_iff hT _ _ _).mp e2
            have := (hT.1 v _ k1.1).2
            have k3 := k1.2.2
            have := hR.2.2.2.2 v'
            rw [← k2]
            exact ⟨by omega, hρ v'⟩
    have hlen : ∀ k, (fnd (mSt T ρ) 0 k).length ≤ n := fun k => nds_len n _ (fnd_nd _ _ k) (fun x hx => (hbd k x hx).1)
    have hMK : ∀ {σ2}, Mr σ1 σ2 y [] [10, 11, 12, 13, 14, 15] → RK σ2 y ∧ RF σ2 y T mg n := fun m2 => ⟨(h.1.mr m1).mr m2, hF.mr m2⟩
    have loop : ∀ N i σ2 z4 z5, i + N = 356 → i ≤ (fnd (mSt T ρ) 0 (8 * i)).length → NR σ2 y g n (mSt T ρ) (fnd (mSt T ρ) 0 (8 * i)) (8 * i) → Mr σ1 σ2 y [] [10, 12, 13, 14, 15] → (∀ j, (j < 361 * g ∨ 361 * g + 361 ≤ j) → zI σ2 (y + 12) j = zI σ1 (y + 12) j ∧ zI σ2 (y + 13) j = zI σ1 (y + 13) j) → (∀ j, (j < 8 * (361 * g) ∨ 8 * (361 * g) + 2888 ≤ j) → zI σ2 (y + 10) j = zI σ1 (y + 10) j) → zW Γ mX10_makes 100 [some (vR (some y)), some (vI g), some (vI (fnd (mSt T ρ) 0 (8 * i)).length), some (vI i), z4, z5] [] σ2 0 0 Q := by
      intro N
      induction N with
      | zero =>
        intro i σ2 z4 z5 hi hil hN m2 ho1 ho2
        have := hlen (8 * i)
        omega
      | succ N ih =>
        intro i σ2 z4 z5 hi hil hN m2 ho1 ho2
        have hl9 := hlen (8 * i)
        have k2 := (hMK (m2.wk (by decide) (by decide))).1
        refine zW_iload_n dX10_makes_100 rfl ?_
        refine zW_iload_n dX10_makes_101 rfl ?_
        refine zW_icmp_ge (tgt := 246) dX10_makes_102 (by decide) (by first | assumption | omega | (unfold InR; omega) | (unfold InL; omega) | (simp only [InR] at *; omega)) (by first | assumption | omega | (unfold InR; omega) | (unfold InL; omega) | (simp only [InR] at *; omega)) (fun q => ?_) (fun q => ?_)
        · refine zW_aload_n dX10_makes_246 rfl ?_
          refine zgP dX10_makes_247 fX10_44 k2.1 rfl k2.p_sizes ?_
          refine zW_iload_n dX10_makes_250 rfl ?_
          refine zW_iload_n dX10_makes_251 rfl ?_
          refine zW_iast dX10_makes_252 k2.k_sizes (by first | assumption | omega | (unfold InR; omega) | (unfold InL; omega) | (simp only [InR] at *; omega)) (by first | assumption | omega | (unfold InR; omega) | (unfold InL; omega) | (simp only [InR] at *; omega)) (by first | assumption | omega | (unfold InR; omega) | (unfold InL; omega) | (simp only [InR] at *; omega)) ?_
          refine zW_return dX10_makes_253 rfl (by first | decide | (show _ ≤ (0 : Nat); omega)) (by first | decide | (show _ ≤ (0 : Nat); omega)) ?_
          have e : i = (fnd (mSt T ρ) 0 (8 * i)).length := by omega
          generalize hFF : fnd (mSt T ρ) 0 (8 * i) = F at *
          rw [e] at hFF hN
          rw [show ((g : Int)).toNat = g by omega]
          have m3 : Mr σ2 (sI σ2 (y + 11) g F.length) y [] [11] := Mr.I (by decide)
          have hN3 : NR (sI σ2 (y + 11) g F.length) y g n (mSt T ρ) F (8 * F.length) := by
            unfold NR
            rw [m3.i (i := 10) (by decide), m3.i (i := 12) (by decide), m3.i (i := 13) (by decide), m3.i (i := 14) (by decide), m3.i (i := 15) (by decide)]
            exact hN
          obtain ⟨r1, r2⟩ := hN3.rg hFF (by omega) hA (zI_sIs _ _ _ _)
          refine hQ _ r1 r2 (fun f hf hfg G hG hr => ?_) (((m1.wk (Ks' := [20, 21]) (Rs' := [7, 8, 9, 10, 11, 12, 13, 14, 15]) (by decide) (by decide)).th m2 (by decide) (by decide)).th m3 (by decide) (by decide))
          obtain ⟨q1, q2, q3, q4⟩ := hr
          have w10 := m1.i (i := 10) (by decide)
          have w11 := m1.i (i := 11) (by decide)
          have w12 := m1.i (i := 12) (by decide)
          have w13 := m1.i (i := 13) (by decide)
          have x11 := m2.i (i := 11) (by decide)
          refine ⟨?_, fun m c hm hc => ?_, ?_, fun m h1 h2 => ?_⟩
          · rw [zI_sIk _ _ _ _ hfg, x11, w11]; exact q1
          · rw [zI_sIa _ _ _ _ (by omega), ho2 _ (by omega), w10]; exact q2 m c hm hc
          · rw [zI_sIa _ _ _ _ (by omega), (ho1 _ (by omega)).1, w12]; exact q3
          · rw [zI_sIa _ _ _ _ (by omega), zI_sIa _ _ _ _ (by omega), (ho1 _ (by omega)).1, (ho1 _ (by omega)).2, w12, w13]; exact q4 m h1 h2
        · have loop2 : ∀ M c σ3 z5, c + M = 8 → NR σ3 y g n (mSt T ρ) (fnd (mSt T ρ) 0 (8 * i + c)) (8 * i + c) → Mr σ1 σ3 y [] [10, 12, 13, 14, 15] → (∀ j, (j < 361 * g ∨ 361 * g + 361 ≤ j) → zI σ3 (y + 12) j = zI σ1 (y + 12) j ∧ zI σ3 (y + 13) j = zI σ1 (y + 13) j) → (∀ j, (j < 8 * (361 * g) ∨ 8 * (361 * g) + 2888 ≤ j) → zI σ3 (y + 10) j = zI σ1 (y + 10) j) → zW Γ mX10_makes 108 [some (vR (some y)), some (vI g), some (vI (fnd (mSt T ρ) 0 (8 * i + c)).length), some (vI i), some (vI c), z5] [] σ3 0 0 Q := by
            intro M
            induction M with
            | zero =>
              intro c σ3 z5 hc hN3 m3 ho3 ho4
              have e8 : c = 8 := by omega
              subst e8
              refine zW_iload dX10_makes_108 rfl ?_
              refine zW_bipush dX10_makes_110 (by decide) ?_
              refine zW_icmp_ge (tgt := 240) dX10_makes_112 (by decide) (by first | assumption | omega | (unfold InR; omega) | (unfold InL; omega) | (simp only [InR] at *; omega)) (by first | assumption | omega | (unfold InR; omega) | (unfold InL; omega) | (simp only [InR] at *; omega)) (fun q3 => ?_) (fun q3 => ?_)
              · refine zW_iinc dX10_makes_240 rfl (by decide) rfl rfl ?_
                refine zW_goto (tgt := 100) dX10_makes_243 (by decide) ?_
                have e1 : 8 * i + 8 = 8 * (i + 1) := by omega
                rw [e1] at hN3 ⊢
                refine ih (i + 1) σ3 _ _ (by omega) ?_ hN3 m3 ho3 ho4
                have := fnd_len (S := mSt T ρ) (r := 0) (show 8 * i ≤ 8 * (i + 1) by omega)
                omega
              · exact absurd q3 (by omega)
            | succ M ih2 =>
              intro c σ3 z5 hc hN3 m3 ho3 ho4
              have hc8 : c < 8 := by omega
              have hiL : i < (fnd (mSt T ρ) 0 (8 * i + c)).length := by
                have := fnd_len (S := mSt T ρ) (r := 0) (show 8 * i ≤ 8 * i + c by omega)
                omega
              obtain ⟨v, hv⟩ : ∃ v, (fnd (mSt T ρ) 0 (8 * i + c))[i]? = some v := ⟨_, List.getElem?_eq_getElem hiL⟩
              obtain ⟨hvu, hvr⟩ := hbd _ v (List.mem_of_getElem? hv)
              have tb := hT.1 v c hc8
              have d1 : (8 * i + c) / 8 = i := by omega
              have d2 : (8 * i + c) % 8 = c := by omega
              obtain ⟨k3, hF3⟩ := hMK (m3.wk (by decide) (by decide))
              have hlc := hlen (8 * i + c)
              have hlc1 := hlen (8 * i + c + 1)
              -- the row's entry is written
              have key : ∀ σ4 (x : Int), (mSt T ρ v c = none ∧ x = -1 ∨ ∃ to : Nat, mSt T ρ v c = some to ∧ x = (to : Int)) → NR σ4 y g n (mSt T ρ) (fnd (mSt T ρ) 0 (8 * i + c + 1)) (8 * i + c) → Mr σ1 σ4 y [] [10, 12, 13, 14, 15] → (∀ j, (j < 361 * g ∨ 361 * g + 361 ≤ j) → zI σ4 (y + 12) j = zI σ1 (y + 12) j ∧ zI σ4 (y + 13) j = zI σ1 (y + 13) j) → (∀ j, (j < 8 * (361 * g) ∨ 8 * (361 * g) + 2888 ≤ j) → zI σ4 (y + 10) j = zI σ1 (y + 10) j) → zW Γ mX10_makes 205 [some (vR (some y)), some (vI g), some (vI (fnd (mSt T ρ) 0 (8 * i + c + 1)).length), some (vI i), some (vI c), some (vI x)] [] σ4 0 0 Q := by
                intro σ4 x hx hN4 m4 ho5 ho6
                obtain ⟨k4, hF4⟩ := hMK (m4.wk (by decide) (by decide))
                have hv4 := fnd_at (show 8 * i + c ≤ 8 * i + c + 1 by omega) hv
                have fin : ∀ x2 : Int, (mSt T ρ v c = none → x2 = -1) → (∀ w : Nat, mSt T ρ v c = some w → ∃ j : Nat, (fnd (mSt T ρ) 0 (8 * i + c + 1))[j]? = some w ∧ x2 = (j : Int)) → zW Γ mX10_makes 233 [some (vR (some y)), some (vI g), some (vI (fnd (mSt T ρ) 0 (8 * i + c + 1)).length), some (vI i), some (vI c), some (vI x)] [vI x2, vI ((8 * (361 * g + i) + c : Nat) : Int), vR (some (y + 10))] σ4 0 0 Q := by
                  intro x2 hx1 hx2
                  refine zW_iast dX10_makes_233 k4.k_graphs (by first | assumption | omega | (unfold InR; omega) | (unfold InL; omega) | (simp only [InR] at *; omega)) (by first | assumption | omega | (unfold InR; omega) | (unfold InL; omega) | (simp only [InR] at *; omega)) (by first | assumption | omega | (unfold InR; omega) | (unfold InL; omega) | (simp only [InR] at *; omega)) ?_
                  refine zW_iinc dX10_makes_234 rfl (by decide) rfl rfl ?_
                  refine zW_goto (tgt := 108) dX10_makes_237 (by decide) ?_
                  rw [show (((8 * (361 * g + i) + c : Nat) : Int)).toNat = 8 * (361 * g + i) + c by omega]
                  obtain ⟨n1, n2, n3, n4, n5⟩ := hN4
                  have m5 : Mr σ4 (sI σ4 (y + 10) (8 * (361 * g + i) + c) x2) y [] [10] := Mr.I (by decide)
                  refine ih2 (c + 1) _ _ (by omega) ⟨?_, ?_, ?_, ?_, ?_⟩ (m4.th m5 (by decide) (by decide)) (fun j hj => ?_) (fun j hj => ?_)
                  · rw [m5.i (i := 14) (by decide), m5.i (i := 15) (by decide)]; exact n1
                  · rw [m5.i (i := 14) (by decide)]; exact n2
                  · intro m' c' v' e1 e2 e3
                    change (fnd (mSt T ρ) 0 (8 * i + c + 1))[m']? = some v' at e3
                    by_cases z9 : m' = i ∧ c' = c
                    · obtain ⟨z1, z2⟩ := z9
                      subst z1
                      subst z2
                      rw [hv4] at e3
                      rw [← Option.some.inj e3, zI_sIs]
                      exact ⟨hx1, hx2⟩
                    · rw [zI_sIk _ _ _ _ (show 8 * (361 * g + m') + c' ≠ 8 * (361 * g + i) + c by omega)]
                      exact n3 m' c' v' (by omega) e2 e3
                  · rw [m5.i (i := 12) (by decide), m5.i (i := 13) (by decide)]; exact n4
                  · rw [m5.i (i := 12) (by decide)]; exact n5
                  · rw [m5.i (i := 12) (by decide), m5.i (i := 13) (by decide)]; exact ho5 j hj
                  · rw [zI_sIk _ _ _ _ (by omega)]; exact ho6 j hj
                have xr9 : InR x := by
                  rcases hx with ⟨_, e⟩ | ⟨to, e1, e⟩
                  · rw [e]; unfold InR; omega
                  · obtain ⟨v', w1, w2⟩ := (mS_iff hT _ _ _).mp e1
                    have := (hT.1 v c hc8).2
                    have := w1.2.2
                    have := hR.2.2.2.2 v'
                    unfold InR
                    omega
                refine zW_aload_n dX10_makes_205 rfl ?_
                refine zgP dX10_makes_206 fX10_41 k4.1 rfl k4.p_graphs ?_
                refine zW_iload_n dX10_makes_209 rfl ?_
                refine zW_iload_n dX10_makes_210 rfl ?_
                refine zW_iload dX10_makes_211 rfl ?_
                refine zcS3 dX10_makes_213 rfl eX10_edgePlace b1677 ⟨by decide, by decide, by decide, by decide⟩ rfl (Nat.le_of_ble_eq_true rfl) (r_edgePlace ?_)
                refine zW_iload dX10_makes_216 rfl ?_
                refine zW_iconst dX10_makes_218 ?_
                refine zW_icmp_ne (tgt := 226) dX10_makes_219 (by decide) (by first | assumption | omega | (unfold InR; omega) | (unfold InL; omega) | (simp only [InR] at *; omega)) (by first | assumption | omega | (unfold InR; omega) | (unfold InL; omega) | (simp only [InR] at *; omega)) (fun q4 => ?_) (fun q4 => ?_)
                · rcases hx with ⟨e0, e⟩ | ⟨to, e1, e⟩
                  · exact absurd e q4
                  · have hmem : ∃ j : Nat, (fnd (mSt T ρ) 0 (8 * i + c + 1))[j]? = some to := by
                      apply List.getElem?_of_mem
                      show to ∈ fstep (mSt T ρ) (fnd (mSt T ρ) 0 (8 * i + c)) (8 * i + c)
                      rw [fstep_some (v := v) (w := to) (by rw [d1]; exact hv) (by rw [d2]; exact e1)]
                      split
                      · assumption
                      · exact List.mem_append_right _ List.mem_cons_self
                    obtain ⟨j, hj⟩ := hmem
                    have hnum := (hN4.1 j to hj).1
                    have hto := (hbd _ to (List.mem_of_getElem? hj)).1
                    subst e
                    refine zW_aload_n dX10_makes_226 rfl ?_
                    refine zgP dX10_makes_227 fX10_53 k4.1 rfl k4.p_numbers ?_
                    refine zW_iload dX10_makes_230 rfl ?_
                    refine zrI dX10_makes_232 k4.k_numbers (by first | assumption | omega | (unfold InR; omega) | (unfold InL; omega) | (simp only [InR] at *; omega)) (by first | assumption | omega | (unfold InR; omega) | (unfold InL; omega) | (simp only [InR] at *; omega)) (by first | assumption | omega | (unfold InR; omega) | (unfold InL; omega) | (simp only [InR] at *; omega)) hnum ?_
                    refine fin _ (fun z => by rw [e1] at z; cases z) (fun w hw => ⟨j, ?_, rfl⟩)
                    rw [e1] at hw
                    rw [← Option.some.inj hw]
                    exact hj
                · rcases hx with ⟨e0, e⟩ | ⟨to, e1, e⟩
                  · refine zW_iconst dX10_makes_222 ?_
                    refine zW_goto (tgt := 233) dX10_makes_223 (by decide) ?_
                    exact fin _ (fun _ => rfl) (fun w hw => by rw [e0] at hw; cases hw)
                  · omega
              obtain ⟨n1, n2, n3, n4, n5⟩ := id hN3
              have gv := hF3.2.2.1 v c hvu hc8
              have gr := (n1 i v hv).2
              refine zW_iload dX10_makes_108 rfl ?_
              refine zW_bipush dX10_makes_110 (by decide) ?_
              refine zW_icmp_ge (tgt := 240) dX10_makes_112 (by decide) (by first | assumption | omega | (unfold InR; omega) | (unfold InL; omega) | (simp only [InR] at *; omega)) (by first | assumption | omega | (unfold InR; omega) | (unfold InL; omega) | (simp only [InR] at *; omega)) (fun q3 => ?_) (fun q3 => ?_)
              · exact absurd q3 (by omega)
              · refine zW_aload_n dX10_makes_115 rfl ?_
                refine zgP dX10_makes_116 fX10_31 k3.1 rfl k3.p_edges ?_
                refine zW_bipush dX10_makes_119 (by decide) ?_
                refine zW_aload_n dX10_makes_121 rfl ?_
                refine zgP dX10_makes_122 fX10_56 k3.1 rfl k3.p_reached ?_
                refine zW_iload_n dX10_makes_125 rfl ?_
                refine zrI dX10_makes_126 k3.k_reached (by first | assumption | omega | (unfold InR; omega) | (unfold InL; omega) | (simp only [InR] at *; omega)) (by first | assumption | omega | (unfold InR; omega) | (unfold InL; omega) | (simp only [InR] at *; omega)) (by first | assumption | omega | (unfold InR; omega) | (unfold InL; omega) | (simp only [InR] at *; omega)) gr ?_
                refine zW_imul dX10_makes_127 ?_
                refine zW_iload dX10_makes_128 rfl ?_
                refine zW_iadd dX10_makes_130 ?_
                refine zrI dX10_makes_131 k3.k_edges (by first | assumption | omega | (unfold InR; omega) | (unfold InL; omega) | (simp only [InR] at *; omega)) (by first | assumption | omega | (unfold InR; omega) | (unfold InL; omega) | (simp only [InR] at *; omega)) (by first | assumption | omega | (unfold InR; omega) | (unfold InL; omega) | (simp only [InR] at *; omega)) (zix (f := zI σ3 (y + 7)) (j := 8 * v + c) (by omega) gv) ?_
                refine zW_istore dX10_makes_132 (by decide) rfl rfl ?_
                refine zW_iload dX10_makes_134 rfl ?_
                refine zW_iconst dX10_makes_136 ?_
                refine zW_icmp_eq (tgt := 205) dX10_makes_137 (by decide) (by first | assumption | omega | (unfold InR; omega) | (unfold InL; omega) | (simp only [InR] at *; omega)) (by first | assumption | omega | (unfold InR; omega) | (unfold InL; omega) | (simp only [InR] at *; omega)) (fun q4 => ?_) (fun q4 => ?_)
                · have hno : mSt T ρ v c = none := if_neg (fun z => z.2.2 q4)
                  have e : fnd (mSt T ρ) 0 (8 * i + c + 1) = fnd (mSt T ρ) 0 (8 * i + c) := fstep_none (v := v) (by rw [d1]; exact hv) (by rw [d2]; exact hno)
                  have := key σ3 (T v c) (Or.inl ⟨hno, q4⟩) (by rw [e]; exact hN3) m3 ho3 ho4
                  rw [e] at this
                  exact this
                · obtain ⟨t0, et⟩ : ∃ t0 : Nat, T v c = (t0 : Int) := ⟨(T v c).toNat, by omega⟩
                  have hso : mSt T ρ v c = some (ρ t0) := (mS_iff hT _ _ _).mpr ⟨t0, ⟨hc8, hvr, et⟩, rfl⟩
                  have hst : fnd (mSt T ρ) 0 (8 * i + c + 1) = if ρ t0 ∈ fnd (mSt T ρ) 0 (8 * i + c) then fnd (mSt T ρ) 0 (8 * i + c) else fnd (mSt T ρ) 0 (8 * i + c) ++ [ρ t0] := fstep_some (v := v) (w := ρ t0) (by rw [d1]; exact hv) (by rw [d2]; exact hso)
                  have ht0 : t0 < n := by omega
                  have hrt := hR.2.2.2.2 t0
                  rw [et]
                  refine zW_aload_n dX10_makes_140 rfl ?_
                  refine zW_iload dX10_makes_141 rfl ?_
                  refine zcV1 dX10_makes_143 rfl eX10_rootOf b1660 ⟨by decide, by decide, by decide, by decide⟩ rfl k3.1 rfl (by decide) (Nat.le_of_ble_eq_true rfl) (r_rootOf k3 hF3 hR ht0 ?_)
                  by_cases hmem : ρ t0 ∈ fnd (mSt T ρ) 0 (8 * i + c)
                  · rw [if_pos hmem] at hst
                    obtain ⟨j, hj⟩ := List.getElem?_of_mem hmem
                    have hnum := (n1 j _ hj).1
                    refine zW_istore dX10_makes_146 (by decide) rfl rfl ?_
                    refine zW_aload_n dX10_makes_148 rfl ?_
                    refine zgP dX10_makes_149 fX10_53 k3.1 rfl k3.p_numbers ?_
                    refine zW_iload dX10_makes_152 rfl ?_
                    refine zrI dX10_makes_154 k3.k_numbers (by first | assumption | omega | (unfold InR; omega) | (unfold InL; omega) | (simp only [InR] at *; omega)) (by first | assumption | omega | (unfold InR; omega) | (unfold InL; omega) | (simp only [InR] at *; omega)) (by first | assumption | omega | (unfold InR; omega) | (unfold InL; omega) | (simp only [InR] at *; omega)) hnum ?_
                    refine zW_iconst dX10_makes_155 ?_
                    have hjl := (List.getElem?_eq_some_iff.mp hj).1
                    refine zW_icmp_ne (tgt := 205) dX10_makes_156 (by decide) (by first | assumption | omega | (unfold InR; omega) | (unfold InL; omega) | (simp only [InR] at *; omega)) (by first | assumption | omega | (unfold InR; omega) | (unfold InL; omega) | (simp only [InR] at *; omega)) (fun q5 => ?_) (fun q5 => ?_)
                    · have := key σ3 (ρ t0 : Nat) (Or.inr ⟨ρ t0, hso, rfl⟩) (by rw [hst]; exact hN3) m3 ho3 ho4
                      rw [hst] at this
                      exact this
                    · exact absurd q5 (by omega)
                  · rw [if_neg hmem] at hst
                    have hnum := n2 (ρ t0) (by omega) hmem
                    rw [hst, List.length_append, List.length_singleton] at hlc1
                    refine zW_istore dX10_makes_146 (by decide) rfl rfl ?_
                    refine zW_aload_n dX10_makes_148 rfl ?_
                    refine zgP dX10_makes_149 fX10_53 k3.1 rfl k3.p_numbers ?_
                    refine zW_iload dX10_makes_152 rfl ?_
                    refine zrI dX10_makes_154 k3.k_numbers (by first | assumption | omega | (unfold InR; omega) | (unfold InL; omega) | (simp only [InR] at *; omega)) (by first | assumption | omega | (unfold InR; omega) | (unfold InL; omega) | (simp only [InR] at *; omega)) (by first | assumption | omega | (unfold InR; omega) | (unfold InL; omega) | (simp only [InR] at *; omega)) hnum ?_
                    refine zW_iconst dX10_makes_155 ?_
                    refine zW_icmp_ne (tgt := 205) dX10_makes_156 (by decide) (by first | assumption | omega | (unfold InR; omega) | (unfold InL; omega) | (simp only [InR] at *; omega)) (by first | assumption | omega | (unfold InR; omega) | (unfold InL; omega) | (simp only [InR] at *; omega)) (fun q5 => ?_) (fun q5 => ?_)
                    · exact absurd rfl q5
                    · generalize hL : fnd (mSt T ρ) 0 (8 * i + c) = L at *
                      refine zW_aload_n dX10_makes_159 rfl ?_
                      refine zgP dX10_makes_160 fX10_53 k3.1 rfl k3.p_numbers ?_
                      refine zW_iload dX10_makes_163 rfl ?_
                      refine zW_iload_n dX10_makes_165 rfl ?_
                      refine zW_iast dX10_makes_166 k3.k_numbers (by first | assumption | omega | (unfold InR; omega) | (unfold InL; omega) | (simp only [InR] at *; omega)) (by first | assumption | omega | (unfold InR; omega) | (unfold InL; omega) | (simp only [InR] at *; omega)) (by first | assumption | omega | (unfold InR; omega) | (unfold InL; omega) | (simp only [InR] at *; omega)) ?_
                      refine zW_aload_n dX10_makes_167 rfl ?_
                      refine zgP dX10_makes_168 fX10_56 k3.1 rfl k3.p_reached ?_
                      refine zW_iload_n dX10_makes_171 rfl ?_
                      refine zW_iload dX10_makes_172 rfl ?_
                      refine zW_iast dX10_makes_174 k3.k_reached (by first | assumption | omega | (unfold InR; omega) | (unfold InL; omega) | (simp only [InR] at *; omega)) (by first | assumption | omega | (unfold InR; omega) | (unfold InL; omega) | (simp only [InR] at *; omega)) (by first | assumption | omega | (unfold InR; omega) | (unfold InL; omega) | (simp only [InR] at *; omega)) ?_
                      refine zW_aload_n dX10_makes_175 rfl ?_
                      refine zgP dX10_makes_176 fX10_47 k3.1 rfl k3.p_cameFrom ?_
                      refine zW_sipush dX10_makes_179 (by decide) ?_
                      refine zW_iload_n dX10_makes_182 rfl ?_
                      refine zW_imul dX10_makes_183 ?_
                      refine zW_iload_n dX10_makes_184 rfl ?_
                      refine zW_iadd dX10_makes_185 ?_
                      refine zW_iload_n dX10_makes_186 rfl ?_
                      refine zW_iast dX10_makes_187 k3.k_cameFrom (by first | assumption | omega | (unfold InR; omega) | (unfold InL; omega) | (simp only [InR] at *; omega)) (by first | assumption | omega | (unfold InR; omega) | (unfold InL; omega) | (simp only [InR] at *; omega)) (by first | assumption | omega | (unfold InR; omega) | (unfold InL; omega) | (simp only [InR] at *; omega)) ?_
                      refine zW_aload_n dX10_makes_188 rfl ?_
                      refine zgP dX10_makes_189 fX10_50 k3.1 rfl k3.p_cameBy ?_
                      refine zW_sipush dX10_makes_192 (by decide) ?_
                      refine zW_iload_n dX10_makes_195 rfl ?_
                      refine zW_imul dX10_makes_196 ?_
                      refine zW_iload_n dX10_makes_197 rfl ?_
                      refine zW_iadd dX10_makes_198 ?_
                      refine zW_iload dX10_makes_199 rfl ?_
                      refine zW_iast dX10_makes_201 k3.k_cameBy (by first | assumption | omega | (unfold InR; omega) | (unfold InL; omega) | (simp only [InR] at *; omega)) (by first | assumption | omega | (unfold InR; omega) | (unfold InL; omega) | (simp only [InR] at *; omega)) (by first | assumption | omega | (unfold InR; omega) | (unfold InL; omega) | (simp only [InR] at *; omega)) ?_
                      refine zW_iinc dX10_makes_202 rfl (by decide) rfl rfl ?_
                      have i1 : ((ρ t0 : Nat) : Int).toNat = ρ t0 := by omega
                      have i2 : ((L.length : Nat) : Int).toNat = L.length := by omega
                      have i3 : ((361 : Int) * (g : Int) + (L.length : Int)).toNat = 361 * g + L.length := by omega
                      rw [i1, i2, i3]
                      have hm5 : Mr σ3 (sI (sI (sI (sI σ3 (y + 14) (ρ t0) L.length) (y + 15) L.length (ρ t0 : Nat)) (y + 12) (361 * g + L.length) i) (y + 13) (361 * g + L.length) c) y [] [10, 12, 13, 14, 15] := (((Mr.I (by decide)).tr (Mr.I (by decide))).tr (Mr.I (by decide))).tr (Mr.I (by decide))
                      have := key (sI (sI (sI (sI σ3 (y + 14) (ρ t0) L.length) (y + 15) L.length (ρ t0 : Nat)) (y + 12) (361 * g + L.length) i) (y + 13) (361 * g + L.length) c) (ρ t0 : Nat) (Or.inr ⟨ρ t0, hso, rfl⟩) ?_ (m3.tr hm5) ?_ ?_
                      · rw [hst, List.length_append, List.length_singleton] at this
                        exact this
                      · rw [hst]
                        refine ⟨fun j w hw => ?_, fun w hw hw2 => ?_, fun m' c' v' e1 e2 e3 => ?_, fun j j1 j2 => ?_, ?_⟩
                        · have hjl := (List.getElem?_eq_some_iff.mp hw).1
                          rw [List.length_append, List.length_singleton] at hjl
                          rw [zI_sIa _ _ _ _ (show y + 14 ≠ y + 13 by omega), zI_sIa _ _ _ _ (show y + 14 ≠ y + 12 by omega), zI_sIa _ _ _ _ (show y + 14 ≠ y + 15 by omega), zI_sIa _ _ _ _ (show y + 15 ≠ y + 13 by omega), zI_sIa _ _ _ _ (show y + 15 ≠ y + 12 by omega)]
                          by_cases z : j = L.length
                          · rw [z, List.getElem?_append_right (Nat.le_refl _), Nat.sub_self] at hw
                            have e : ρ t0 = w := by simpa using hw
                            subst e
                            rw [z]
                            exact ⟨zI_sIs _ _ _ _, zI_sIs _ _ _ _⟩
                          · rw [List.getElem?_append_left (by omega)] at hw
                            have e : w ≠ ρ t0 := fun e => hmem (e ▸ List.mem_of_getElem? hw)
                            rw [zI_sIk _ _ _ _ e, zI_sIk _ _ _ _ z, zI_sIa _ _ _ _ (show y + 15 ≠ y + 14 by omega)]
                            exact n1 j w hw
                        · have e : w ≠ ρ t0 := fun e => hw2 (by rw [e]; exact List.mem_append_right _ List.mem_cons_self)
                          rw [zI_sIa _ _ _ _ (show y + 14 ≠ y + 13 by omega), zI_sIa _ _ _ _ (show y + 14 ≠ y + 12 by omega), zI_sIa _ _ _ _ (show y + 14 ≠ y + 15 by omega), zI_sIk _ _ _ _ e]
                          exact n2 w hw (fun z => hw2 (List.mem_append_left _ z))
                        · simp only [zI_sIa _ _ _ _ (show y + 10 ≠ y + 13 by omega), zI_sIa _ _ _ _ (show y + 10 ≠ y + 12 by omega), zI_sIa _ _ _ _ (show y + 10 ≠ y + 15 by omega), zI_sIa _ _ _ _ (show y + 10 ≠ y + 14 by omega)]
                          have hmL : m' < L.length := by omega
                          rw [List.getElem?_append_left hmL] at e3
                          obtain ⟨r1, r2⟩ := n3 m' c' v' e1 e2 e3
                          refine ⟨r1, fun w hw => ?_⟩
                          obtain ⟨j, j1, j2⟩ := r2 w hw
                          exact ⟨j, by rw [List.getElem?_append_left (List.getElem?_eq_some_iff.mp j1).1]; exact j1, j2⟩
                        · rw [List.length_append, List.length_singleton] at j2
                          simp only [zI_sIa _ _ _ _ (show y + 12 ≠ y + 13 by omega)]
                          by_cases z : j = L.length
                          · rw [z]
                            exact ⟨i, c, zI_sIs _ _ _ _, zI_sIs _ _ _ _, hc8, by rw [hL], by rw [hst, List.length_append]; rfl⟩
                          · obtain ⟨p, q, e1, e2, e3⟩ := n4 j j1 (by omega)
                            refine ⟨p, q, ?_, ?_, e3⟩
                            · rw [zI_sIk _ _ _ _ (by omega), zI_sIa _ _ _ _ (by omega), zI_sIa _ _ _ _ (by omega)]; exact e1
                            · rw [zI_sIk _ _ _ _ (by omega), zI_sIa _ _ _ _ (by omega), zI_sIa _ _ _ _ (by omega), zI_sIa _ _ _ _ (by omega)]; exact e2
                        · rw [zI_sIa _ _ _ _ (show y + 12 ≠ y + 13 by omega), zI_sIk _ _ _ _ (by omega), zI_sIa _ _ _ _ (by omega), zI_sIa _ _ _ _ (by omega)]
                          exact n5
                      · intro j hj
                        rw [zI_sIa _ _ _ _ (show y + 12 ≠ y + 13 by omega), zI_sIk _ _ _ _ (by omega), zI_sIa _ _ _ _ (by omega), zI_sIa _ _ _ _ (by omega), zI_sIk _ _ _ _ (by omega), zI_sIa _ _ _ _ (by omega), zI_sIa _ _ _ _ (by omega), zI_sIa _ _ _ _ (by omega)]
                        exact ho3 j hj
                      · intro j hj
                        rw [zI_sIa _ _ _ _ (by omega), zI_sIa _ _ _ _ (by omega), zI_sIa _ _ _ _ (by omega), zI_sIa _ _ _ _ (by omega)]
                        exact ho4 j hj
          refine zW_iconst dX10_makes_105 ?_
          refine zW_istore dX10_makes_106 (by decide) rfl rfl ?_
          exact loop2 8 0 σ2 _ rfl hN m2 ho1 ho2
    have init : ∀ M v σ2 z, v + M = n → (∀ w, w < v → zI σ2 (y + 14) w = -1) → Mr σ1 σ2 y [] [14] → zW Γ mX10_makes 41 [some (vR (some y)), some (vI g), some (vI v), z, z5, none] [] σ2 0 0 Q := by
      intro M
      induction M with
      | zero =>
        intro v σ2 z hv hall m2
        obtain ⟨k2, hF2⟩ := hMK (m2.wk (by decide) (by decide))
        refine zW_iload_n dX10_makes_41 rfl ?_
        refine zW_aload_n dX10_makes_42 rfl ?_
        refine zgI dX10_makes_43 fX10_140 k2.1 rfl hF2.1 ?_
        refine zW_icmp_ge (tgt := 62) dX10_makes_46 (by decide) (by first | assumption | omega | (unfold InR; omega) | (unfold InL; omega) | (simp only [InR] at *; omega)) (by first | assumption | omega | (unfold InR; omega) | (unfold InL; omega) | (simp only [InR] at *; omega)) (fun q => ?_) (fun q => ?_)
        · refine zW_iconst dX10_makes_62 ?_
          refine zW_istore_n dX10_makes_63 (by decide) rfl rfl ?_
          refine zW_aload_n dX10_makes_64 rfl ?_
          refine zgP dX10_makes_65 fX10_56 k2.1 rfl k2.p_reached ?_
          refine zW_iconst dX10_makes_68 ?_
          refine zW_aload_n dX10_makes_69 rfl ?_
          refine zW_iconst dX10_makes_70 ?_
          refine zcV1 dX10_makes_71 rfl eX10_rootOf b1660 ⟨by decide, by decide, by decide, by decide⟩ rfl k2.1 rfl (by decide) (Nat.le_of_ble_eq_true rfl) (r_rootOf (v := 0) k2 hF2 hR (by omega) ?_)
          rw [hρ0]
          refine zW_iast dX10_makes_74 k2.k_reached (by first | assumption | omega | (unfold InR; omega) | (unfold InL; omega) | (simp only [InR] at *; omega)) (by first | assumption | omega | (unfold InR; omega) | (unfold InL; omega) | (simp only [InR] at *; omega)) (by first | assumption | omega | (unfold InR; omega) | (unfold InL; omega) | (simp only [InR] at *; omega)) ?_
          refine zW_aload_n dX10_makes_75 rfl ?_
          refine zgP dX10_makes_76 fX10_53 k2.1 rfl k2.p_numbers ?_
          refine zW_aload_n dX10_makes_79 rfl ?_
          refine zgP dX10_makes_80 fX10_56 k2.1 rfl k2.p_reached ?_
          refine zW_iconst dX10_makes_83 ?_
          refine zrI dX10_makes_84 k2.k_reached (by first | assumption | omega | (unfold InR; omega) | (unfold InL; omega) | (simp only [InR] at *; omega)) (by first | assumption | omega | (unfold InR; omega) | (unfold InL; omega) | (simp only [InR] at *; omega)) (by first | assumption | omega | (unfold InR; omega) | (unfold InL; omega) | (simp only [InR] at *; omega)) (zI_sIs _ _ _ _) ?_
          refine zW_iconst dX10_makes_85 ?_
          refine zW_iast dX10_makes_86 k2.k_numbers (by first | assumption | omega | (unfold InR; omega) | (unfold InL; omega) | (simp only [InR] at *; omega)) (by first | assumption | omega | (unfold InR; omega) | (unfold InL; omega) | (simp only [InR] at *; omega)) (by first | assumption | omega | (unfold InR; omega) | (unfold InL; omega) | (simp only [InR] at *; omega)) ?_
          refine zW_aload_n dX10_makes_87 rfl ?_
          refine zgP dX10_makes_88 fX10_47 k2.1 rfl k2.p_cameFrom ?_
          refine zW_sipush dX10_makes_91 (by decide) ?_
          refine zW_iload_n dX10_makes_94 rfl ?_
          refine zW_imul dX10_makes_95 ?_
          refine zW_iconst dX10_makes_96 ?_
          refine zW_iast dX10_makes_97 k2.k_cameFrom (by first | assumption | omega | (unfold InR; omega) | (unfold InL; omega) | (simp only [InR] at *; omega)) (by first | assumption | omega | (unfold InR; omega) | (unfold InL; omega) | (simp only [InR] at *; omega)) (by first | assumption | omega | (unfold InR; omega) | (unfold InL; omega) | (simp only [InR] at *; omega)) ?_
          refine zW_iconst dX10_makes_98 ?_
          refine zW_istore_n dX10_makes_99 (by decide) rfl rfl ?_
          have i3 : ((361 : Int) * (g : Int)).toNat = 361 * g := by omega
          have i4 : Int.toNat 0 = 0 := rfl
          rw [i3, i4, Int.toNat_natCast]
          have hm5 : Mr σ2 (sI (sI (sI σ2 (y + 15) 0 ((0 : Nat) : Int)) (y + 14) 0 0) (y + 12) (361 * g) (-1)) y [] [10, 12, 13, 14, 15] := ((Mr.I (by decide)).tr (Mr.I (by decide))).tr (Mr.I (by decide))
          refine loop 356 0 _ _ _ rfl (Nat.zero_le _) ⟨fun j w hw => ?_, fun w hw hw2 => ?_, fun m' c' v' e1 => absurd e1 (by omega), fun j j1 j2 => ?_, zI_sIs _ _ _ _⟩ ((m2.wk (Ks' := []) (Rs' := [10, 12, 13, 14, 15]) (by decide) (by decide)).tr hm5) (fun j hj => ?_) (fun j hj => ?_)
          · have hj := (List.getElem?_eq_some_iff.mp hw).1
            change j < 1 at hj
            have e : j = 0 := by omega
            subst e
            have e2 : (0 : Nat) = w := Option.some.inj hw
            subst e2
            rw [zI_sIa _ _ _ _ (show y + 14 ≠ y + 12 by omega), zI_sIs, zI_sIa _ _ _ _ (show y + 15 ≠ y + 12 by omega), zI_sIa _ _ _ _ (show y + 15 ≠ y + 14 by omega), zI_sIs]
            exact ⟨rfl, rfl⟩
          · have e : w ≠ 0 := fun e => hw2 (by rw [e]; exact List.mem_cons_self)
            rw [zI_sIa _ _ _ _ (show y + 14 ≠ y + 12 by omega), zI_sIk _ _ _ _ e, zI_sIa _ _ _ _ (show y + 14 ≠ y + 15 by omega)]
            exact hall w (by omega)
          · change j < 1 at j2
            omega
          · rw [zI_sIk _ _ _ _ (by omega), zI_sIa _ _ _ _ (by omega), zI_sIa _ _ _ _ (by omega), zI_sIa _ _ _ _ (by omega), zI_sIa _ _ _ _ (by omega), zI_sIa _ _ _ _ (by omega), m2.i (by decide), m2.i (by decide)]
            exact ⟨rfl, rfl⟩
          · rw [zI_sIa _ _ _ _ (by omega), zI_sIa _ _ _ _ (by omega), zI_sIa _ _ _ _ (by omega), m2.i (by decide)]
        · exact absurd q (by omega)
      | succ M ih =>
        intro v σ2 z hv hall m2
        obtain ⟨k2, hF2⟩ := hMK (m2.wk (by decide) (by decide))
        refine zW_iload_n dX10_makes_41 rfl ?_
        refine zW_aload_n dX10_makes_42 rfl ?_
        refine zgI dX10_makes_43 fX10_140 k2.1 rfl hF2.1 ?_
        refine zW_icmp_ge (tgt := 62) dX10_makes_46 (by decide) (by first | assumption | omega | (unfold InR; omega) | (unfold InL; omega) | (simp only [InR] at *; omega)) (by first | assumption | omega | (unfold InR; omega) | (unfold InL; omega) | (simp only [InR] at *; omega)) (fun q => ?_) (fun q => ?_)
        · exact absurd q (by omega)
        · refine zW_aload_n dX10_makes_49 rfl ?_
          refine zgP dX10_makes_50 fX10_53 k2.1 rfl k2.p_numbers ?_
          refine zW_iload_n dX10_makes_53 rfl ?_
          refine zW_iconst dX10_makes_54 ?_
          refine zW_iast dX10_makes_55 k2.k_numbers (by first | assumption | omega | (unfold InR; omega) | (unfold InL; omega) | (simp only [InR] at *; omega)) (by first | assumption | omega | (unfold InR; omega) | (unfold InL; omega) | (simp only [InR] at *; omega)) (by first | assumption | omega | (unfold InR; omega) | (unfold InL; omega) | (simp only [InR] at *; omega)) ?_
          refine zW_iinc dX10_makes_56 rfl (by decide) rfl rfl ?_
          refine zW_goto (tgt := 41) dX10_makes_59 (by decide) ?_
          rw [show ((v : Int)).toNat = v by omega]
          refine ih (v + 1) _ _ (by omega) (fun w hw => ?_) (m2.tr (Mr.I (by decide)))
          by_cases e : w = v
          · rw [e, zI_sIs]
          · rw [zI_sIk _ _ _ _ e]; exact hall w (by omega)
    refine zW_iconst dX10_makes_39 ?_
    refine zW_istore_n dX10_makes_40 (by decide) rfl rfl ?_
    exact init n 0 σ1 z4 (by omega) (fun w hw => absurd hw (Nat.not_lt_zero w)) Mr.rf
  -- the words are folded
  have words : ∀ N k σ1 T mg ρ n, k + N = (sGw t g).length → FB σ1 y T mg ρ n → 1 ≤ n → n ≤ 1 + 59 * k → FInv ((sGw t g).take k) (ME T ρ) ρ [] → Mr σ σ1 y [20, 21] [7, 8, 9] → zW Γ mX10_makes 12 [some (vR (some y)), some (vI g), some (vI k), none, none, none] [] σ1 0 0 Q := by
    intro N
    induction N with
    | zero =>
      intro k σ1 T mg ρ n hk hB hn1 hn hI m1
      have a1 := h.mr m1
      have hS1 := hS.mr m1
      rw [List.take_of_length_le (by omega)] at hI
      refine zW_iload_n dX10_makes_12 rfl ?_
      refine zW_aload_n dX10_makes_13 rfl ?_
      refine zW_iload_n dX10_makes_14 rfl ?_
      refine zcS1 dX10_makes_15 rfl eX10_wordsOf b1462 ⟨by decide, by decide, by decide, by decide⟩ rfl (Nat.le_of_ble_eq_true rfl) (r_wordsOfN hg ?_)
      refine zcV1 dX10_makes_18 rfl eX10_get b1443 ⟨by decide, by decide, by decide, by decide⟩ rfl a1.1.1 rfl (by decide) (Nat.le_of_ble_eq_true rfl) (r_get a1 (by omega) (hS1.gc hg) ?_)
      refine zW_icmp_ge (tgt := 39) dX10_makes_21 (by decide) (by first | assumption | omega | (unfold InR; omega) | (unfold InL; omega) | (simp only [InR] at *; omega)) (by first | assumption | omega | (unfold InR; omega) | (unfold InL; omega) | (simp only [InR] at *; omega)) (fun q => ?_) (fun q => ?_)
      · exact number σ1 T mg ρ n _ _ _ hB hn1 (by omega) hI m1
      · exact absurd q (by omega)
    | succ N ih =>
      intro k σ1 T mg ρ n hk hB hn1 hn hI m1
      have a1 := h.mr m1
      have hS1 := hS.mr m1
      have hw := hS1.gw hg (k := k) (by omega)
      have hwl := hw.2.1
      refine zW_iload_n dX10_makes_12 rfl ?_
      refine zW_aload_n dX10_makes_13 rfl ?_
      refine zW_iload_n dX10_makes_14 rfl ?_
      refine zcS1 dX10_makes_15 rfl eX10_wordsOf b1462 ⟨by decide, by decide, by decide, by decide⟩ rfl (Nat.le_of_ble_eq_true rfl) (r_wordsOfN hg ?_)
      refine zcV1 dX10_makes_18 rfl eX10_get b1443 ⟨by decide, by decide, by decide, by decide⟩ rfl a1.1.1 rfl (by decide) (Nat.le_of_ble_eq_true rfl) (r_get a1 (by omega) (hS1.gc hg) ?_)
      refine zW_icmp_ge (tgt := 39) dX10_makes_21 (by decide) (by first | assumption | omega | (unfold InR; omega) | (unfold InL; omega) | (simp only [InR] at *; omega)) (by first | assumption | omega | (unfold InR; omega) | (unfold InL; omega) | (simp only [InR] at *; omega)) (fun q => ?_) (fun q => ?_)
      · exact absurd q (by omega)
      · refine zW_aload_n dX10_makes_24 rfl ?_
        refine zW_iload_n dX10_makes_25 rfl ?_
        refine zW_iload_n dX10_makes_26 rfl ?_
        refine zcS2 dX10_makes_27 rfl eX10_generating b1469 ⟨by decide, by decide, by decide, by decide⟩ rfl (Nat.le_of_ble_eq_true rfl) (r_generatingN hg ?_)
        refine zcV1 dX10_makes_30 rfl eX10_addsPath b1652 ⟨by decide, by decide, by decide, by decide⟩ rfl a1.1.1 rfl (by decide) (Nat.le_of_ble_eq_true rfl) (r_addsPath a1 hw (by omega) hB hn1 (by omega) hI (fun σ2 T2 mg2 ρ2 n2 hB2 hI2 u1 u2 m2 => ?_))
        refine zW_iinc dX10_makes_33 rfl (by decide) rfl rfl ?_
        refine zW_goto (tgt := 12) dX10_makes_36 (by decide) ?_
        refine ih (k + 1) σ2 T2 mg2 ρ2 n2 (by omega) hB2 (by omega) (by omega) ?_ (m1.tr m2)
        rw [List.take_add_one, List.getElem?_eq_getElem (by omega)]
        rw [List.getD_eq_getElem?_getD, List.getElem?_eq_getElem (by omega)] at hI2
        exact hI2
  refine zW_aload_n dX10_makes_0 rfl ?_
  refine zW_iconst dX10_makes_1 ?_
  refine zpI dX10_makes_2 fX10_140 h.1.1 rfl (Or.inl rfl) (zst_int _) ?_
  have m0 : Mr σ (sO σ y 20 0) y [20, 21] [7, 8, 9] := Mr.O (by decide)
  have a0 := h.mr m0
  have hF0 : RF (sO σ y 20 0) y (fun _ _ => -1) (fun x => x) 0 := ⟨zO_sOs _ _ _ _, by omega, fun u c hu => absurd hu (Nat.not_lt_zero u), fun u hu => absurd hu (Nat.not_lt_zero u)⟩
  generalize sO σ y 20 0 = σ0 at m0 a0 hF0 ⊢
  refine zW_aload_n dX10_makes_5 rfl ?_
  refine zcV0 dX10_makes_6 rfl eX10_newVertex b1648 ⟨by decide, by decide, by decide, by decide⟩ rfl a0.1.1 rfl (by decide) (Nat.le_of_ble_eq_true rfl) (r_newVertex a0.1 hF0 (by omega) (fun _ _ => rfl) rfl (fun σ1 hF1 m1 => ?_))
  refine zW_pop dX10_makes_9 rfl ?_
  refine zW_iconst dX10_makes_10 ?_
  refine zW_istore_n dX10_makes_11 (by decide) rfl rfl ?_
  refine words (sGw t g).length 0 σ1 (fun _ _ => -1) (fun x => x) (fun x => x) 1 (by omega) ⟨hF1, RtOf.id, fun _ _ => rfl, ⟨fun u c hc => ⟨show (-1 : Int) ≤ -1 by omega, show (-1 : Int) < ((1 : Nat) : Int) by omega⟩, fun _ _ _ _ => rfl⟩⟩ (Nat.le_refl _) (by omega) ?_ (m0.th m1 (by decide) (by decide))
  refine ⟨fun u c v q => absurd (show (-1 : Int) = (v : Int) from q.2.2) (by omega), fun w hw => (by rw [List.take_zero] at hw; cases hw), fun H h9 hH hw => ⟨fun _ => h9, rfl, fun _ => rfl, fun p hp => (by cases hp), fun u c v q => absurd (show (-1 : Int) = (v : Int) from q.2.2) (by omega)⟩⟩
end RMAKES
