/-! Intersection: pairs of vertices -/
def pS (B : Nat) (G H : GT) : Nat → Nat → Option Nat := fun p c => if c < 8 ∧ gt G (p / B) c ≠ -1 ∧ gt H (p % B) c ≠ -1 then some ((gt G (p / B) c).toNat * B + (gt H (p % B) c).toNat) else none
def pecn (S : Nat → Nat → Option Nat) (L : List Nat) (m : Nat) : Nat := ((List.range m).filter (fun e => (S (L.getD (e / 4) 0) (2 * (e % 4))).isSome)).length
set_option maxRecDepth 100000 in
theorem pecn_succ (S : Nat → Nat → Option Nat) (L : List Nat) (m : Nat) : pecn S L (m + 1) = pecn S L m + if (S (L.getD (m / 4) 0) (2 * (m % 4))).isSome then 1 else 0 := by
  unfold pecn
  rw [List.range_succ, List.filter_append, List.length_append]
  congr 1
  simp only [List.filter_cons, List.filter_nil]
  split <;> rfl
set_option maxRecDepth 100000 in
theorem pecn_app (S : Nat → Nat → Option Nat) (L r : List Nat) (m : Nat) (h : m ≤ 4 * L.length) : pecn S (L ++ r) m = pecn S L m := by
  induction m with
  | zero => rfl
  | succ m ih =>
    rw [pecn_succ, pecn_succ, ih (by omega)]
    have : (L ++ r).getD (m / 4) 0 = L.getD (m / 4) 0 := by
      rw [List.getD_eq_getElem?_getD, List.getD_eq_getElem?_getD, List.getElem?_append_left (by omega)]
    rw [this]
noncomputable def ixF (G H : GT) : List Nat := @dite (List Nat) (∃ F, Full (pS 355 G H) 0 F) (Classical.propDecidable _) (fun h => Classical.choose h) (fun _ => [])
set_option maxRecDepth 100000 in
theorem ixF_eq {G H : GT} {F : List Nat} (h : Full (pS 355 G H) 0 F) : F = ixF G H := by
  have e : Full (pS 355 G H) 0 (ixF G H) := by
    unfold ixF
    rw [dif_pos ⟨F, h⟩]
    exact Classical.choose_spec (⟨F, h⟩ : ∃ F, Full (pS 355 G H) 0 F)
  exact h.uniq e
noncomputable def ixE (G H : GT) : Nat := pecn (pS 355 G H) (ixF G H) (4 * (ixF G H).length)
set_option maxRecDepth 100000 in
theorem pS_in {B : Nat} {G H : GT} (hG : GOK G) (hH : GOK H) (hB : gV H ≤ B) : ∀ k, ∀ p ∈ fnd (pS B G H) 0 k, p / B < gV G ∧ p % B < gV H := by
  have hB1 : 1 ≤ B := by have := hH.1; omega
  intro k
  induction k with
  | zero =>
    intro x hx
    rw [List.mem_singleton.mp hx, Nat.zero_div, Nat.zero_mod]
    exact ⟨hG.1, hH.1⟩
  | succ k ih =>
    intro x hx
    change x ∈ fstep (pS B G H) (fnd (pS B G H) 0 k) k at hx
    rcases fstep_cases (pS B G H) (fnd (pS B G H) 0 k) k with e | ⟨v, w, e1, e2, e3, e4⟩
    · rw [e] at hx; exact ih x hx
    · rw [e4] at hx
      rcases List.mem_append.mp hx with z | z
      · exact ih x z
      · rw [List.mem_singleton.mp z]
        obtain ⟨v1, v2⟩ := ih v (List.mem_of_getElem? e1)
        unfold pS at e2
        split at e2
        · rename_i q
          have b1 := hG.2.2.1 (v / B) (k % 8) v1 q.1
          have b2 := hH.2.2.1 (v % B) (k % 8) v2 q.1
          have e := Option.some.inj e2
          have hY : (gt H (v % B) (k % 8)).toNat < B := by omega
          have f1 : ((gt G (v / B) (k % 8)).toNat * B + (gt H (v % B) (k % 8)).toNat) / B = (gt G (v / B) (k % 8)).toNat := by
            rw [Nat.mul_comm, Nat.mul_add_div (by omega), Nat.div_eq_of_lt hY, Nat.add_zero]
          have f2 : ((gt G (v / B) (k % 8)).toNat * B + (gt H (v % B) (k % 8)).toNat) % B = (gt H (v % B) (k % 8)).toNat := by
            rw [Nat.mul_comm, Nat.mul_add_mod, Nat.mod_eq_of_lt hY]
          rw [← e, f1, f2]
          have q2 := q.2
          omega
        · cases e2
def IK (σ : HS) (t : Nat) : Prop := zK σ t = (4, 0) ∧ zP σ t 0 = some (t + 1) ∧ zP σ t 1 = some (t + 2) ∧ zK σ (t + 1) = (15, 126025) ∧ zK σ (t + 2) = (13, 126025)
def tp3 (t : Nat) : Nat → Prop := fun a => t ≤ a ∧ a < t + 3
set_option maxRecDepth 100000 in
theorem IK.md {σ σ' : HS} {t : Nat} {P : Nat → Prop} (m : Md σ σ' P) (h : IK σ t) : IK σ' t := by
  unfold IK at *
  rw [m.K, m.P]
  exact h
def IV (σ : HS) (t : Nat) (S : Nat → Nat → Option Nat) (L : List Nat) (m : Nat) : Prop := (∀ p, p < 126025 → zI σ (t + 1) p = if p ∈ L then 1 else 0) ∧ (∀ (i p : Nat), L[i]? = some p → zI σ (t + 2) i = (p : Int)) ∧ zO σ t 2 = (L.length : Int) ∧ zO σ t 3 = (pecn S L m : Int)
section INTERSECTION
variable {Γ : GG} {σ : HS} {Q : Res → HS → Prop} {t a b : Nat} {G H : GT} {S : Nat → Nat → Option Nat}
set_option maxRecDepth 100000 in
theorem i_reach {L : List Nat} {p m : Nat} (hI : IK σ t) (h : IV σ t S L m) (hp : p < 126025) (hl : L.length < 126025) (hm : m ≤ 4 * L.length) (hQ : ∀ σ', IV σ' t S (if p ∈ L then L else L ++ [p]) m → Md σ σ' (tp3 t) → Q (.inl none) σ') : zM Γ mX4_reach [vR (some t), vI p] σ Q := by
  obtain ⟨h0, h1, h2, k1, k2⟩ := id hI
  obtain ⟨n1, n2, n3, n4⟩ := id h
  refine zM_of (n := 0) (by decide +kernel) rfl rfl rfl ?_
  have g := n1 p hp
  by_cases q : p ∈ L
  · rw [if_pos q] at hQ g
    refine zW_aload_n dX4_reach_0 rfl ?_
    refine zgP dX4_reach_1 fX4_10 (by assumption) rfl (by assumption) ?_
    refine zW_iload_n dX4_reach_4 rfl ?_
    refine zrZ dX4_reach_5 k1 (by first | assumption | omega | (unfold InR; omega) | (unfold InL; omega) | (simp only [InR] at *; omega)) (by first | assumption | omega | (unfold InR; omega) | (unfold InL; omega) | (simp only [InR] at *; omega)) (by first | assumption | omega | (unfold InR; omega) | (unfold InL; omega) | (simp only [InR] at *; omega)) g ?_
    refine zW_if_ne (tgt := 45) dX4_reach_6 (by decide) (by first | assumption | omega | (unfold InR; omega) | (unfold InL; omega) | (simp only [InR] at *; omega)) (fun q2 => ?_) (fun q2 => ?_)
    · refine zW_return dX4_reach_45 rfl (by first | decide | (show _ ≤ (0 : Nat); omega)) (by first | decide | (show _ ≤ (0 : Nat); omega)) ?_
      exact hQ σ h Md.rf
    · exact absurd q2 (by decide)
  · rw [if_neg q] at hQ g
    refine zW_aload_n dX4_reach_0 rfl ?_
    refine zgP dX4_reach_1 fX4_10 (by assumption) rfl (by assumption) ?_
    refine zW_iload_n dX4_reach_4 rfl ?_
    refine zrZ dX4_reach_5 k1 (by first | assumption | omega | (unfold InR; omega) | (unfold InL; omega) | (simp only [InR] at *; omega)) (by first | assumption | omega | (unfold InR; omega) | (unfold InL; omega) | (simp only [InR] at *; omega)) (by first | assumption | omega | (unfold InR; omega) | (unfold InL; omega) | (simp only [InR] at *; omega)) g ?_
    refine zW_if_ne (tgt := 45) dX4_reach_6 (by decide) (by first | assumption | omega | (unfold InR; omega) | (unfold InL; omega) | (simp only [InR] at *; omega)) (fun q2 => ?_) (fun q2 => ?_)
    · exact absurd rfl q2
    · refine zW_aload_n dX4_reach_9 rfl ?_
      refine zgI dX4_reach_10 fX4_24 h0 rfl n3 ?_
      refine zW_ldc (z := 126025) dX4_reach_13 b190 ?_
      refine zW_icmp_ge (tgt := 45) dX4_reach_15 (by decide) (by first | assumption | omega | (unfold InR; omega) | (unfold InL; omega) | (simp only [InR] at *; omega)) (by first | assumption | omega | (unfold InR; omega) | (unfold InL; omega) | (simp only [InR] at *; omega)) (fun q3 => ?_) (fun q3 => ?_)
      · exact absurd q3 (by omega)
      · refine zW_aload_n dX4_reach_18 rfl ?_
        refine zgP dX4_reach_19 fX4_10 h0 rfl h1 ?_
        refine zW_iload_n dX4_reach_22 rfl ?_
        refine zW_iconst dX4_reach_23 ?_
        refine zW_zast dX4_reach_24 k1 (by first | assumption | omega | (unfold InR; omega) | (unfold InL; omega) | (simp only [InR] at *; omega)) (by first | assumption | omega | (unfold InR; omega) | (unfold InL; omega) | (simp only [InR] at *; omega)) (by first | assumption | omega | (unfold InR; omega) | (unfold InL; omega) | (simp only [InR] at *; omega)) rfl ?_
        refine zW_aload_n dX4_reach_25 rfl ?_
        refine zgP dX4_reach_26 fX4_16 h0 rfl h2 ?_
        refine zW_aload_n dX4_reach_29 rfl ?_
        refine zgI dX4_reach_30 fX4_24 h0 rfl n3 ?_
        refine zW_iload_n dX4_reach_33 rfl ?_
        refine zW_iast dX4_reach_34 k2 (by first | assumption | omega | (unfold InR; omega) | (unfold InL; omega) | (simp only [InR] at *; omega)) (by first | assumption | omega | (unfold InR; omega) | (unfold InL; omega) | (simp only [InR] at *; omega)) (by first | assumption | omega | (unfold InR; omega) | (unfold InL; omega) | (simp only [InR] at *; omega)) ?_
        refine zW_aload_n dX4_reach_35 rfl ?_
        refine zW_dup dX4_reach_36 rfl ?_
        refine zgI dX4_reach_37 fX4_24 h0 rfl n3 ?_
        refine zW_iconst dX4_reach_40 ?_
        refine zW_iadd dX4_reach_41 ?_
        refine zpI dX4_reach_42 fX4_24 (by assumption) rfl (Or.inl rfl) (zst_int _) ?_
        refine zW_return dX4_reach_45 rfl (by first | decide | (show _ ≤ (0 : Nat); omega)) (by first | decide | (show _ ≤ (0 : Nat); omega)) ?_
        refine hQ _ ⟨fun x hx => ?_, fun i x hx => ?_, ?_, ?_⟩ (((Md.I (P := tp3 t) (by unfold tp3; omega)).tr (Md.I (P := tp3 t) (by unfold tp3; omega)) (fun _ z => z)).tr (Md.O (P := tp3 t) (by unfold tp3; omega)) (fun _ z => z))
        · rw [zI_sO, zI_sIa _ _ _ _ (by omega)]
          by_cases e : x = p
          · rw [if_pos (by rw [e]; exact List.mem_append_right _ List.mem_cons_self), e]
            exact zI_sIs _ _ _ _
          · rw [zI_sIk _ _ _ _ (show x ≠ (p : Int).toNat by omega), n1 x hx]
            by_cases e2 : x ∈ L
            · rw [if_pos e2, if_pos (List.mem_append_left _ e2)]
            · rw [if_neg e2, if_neg (fun z => (List.mem_append.mp z).elim e2 (fun y => e (List.mem_singleton.mp y)))]
        · rw [zI_sO]
          have hi := (List.getElem?_eq_some_iff.mp hx).1
          rw [List.length_append, List.length_singleton] at hi
          by_cases e : i = L.length
          · subst e
            rw [List.getElem?_append_right (Nat.le_refl _), Nat.sub_self] at hx
            have e2 : p = x := by simpa using hx
            rw [← e2]
            exact zI_sIs _ _ _ _
          · rw [List.getElem?_append_left (by omega)] at hx
            rw [zI_sIk _ _ _ _ (show i ≠ (L.length : Int).toNat by omega), zI_sIa _ _ _ _ (by omega)]
            exact n2 i x hx
        · rw [zO_sOs]; simp
        · rw [zO_sOk _ _ _ _ (by omega), pecn_app _ _ _ _ hm]
          exact n4
set_option maxRecDepth 100000 in
theorem i_reachNeighbours {i p : Nat} (hI : IK σ t) (hG : GD σ a G) (hH : GD σ b H) (hda : t + 3 ≤ a ∨ a + 5 ≤ t) (hdb : t + 3 ≤ b ∨ b + 5 ≤ t) (h : IV σ t (pS 355 G H) (fnd (pS 355 G H) 0 (8 * i)) (4 * i)) (hp : (fnd (pS 355 G H) 0 (8 * i))[i]? = some p)
    (hQ : ∀ σ', IV σ' t (pS 355 G H) (fnd (pS 355 G H) 0 (8 * (i + 1))) (4 * (i + 1)) → Md σ σ' (tp3 t) → Q (.inl none) σ') : zM Γ mX4_reachNeighbours [vR (some t), vR (some a), vR (some b), vI p] σ Q := by
  have oG := hG.2.1
  have oH := hH.2.1
  have hin := pS_in (B := 355) oG oH oH.2.1
  have hb9 := fun k p hp => hin k p hp
  have hlen : ∀ k, (fnd (pS 355 G H) 0 k).length ≤ 126025 := fun k => nds_len 126025 _ (fnd_nd _ _ k) (fun x hx => by
    have := hin k x hx
    have := oG.2.1
    have := oH.2.1
    omega)
  obtain ⟨p1, p2⟩ := hin _ p (List.mem_of_getElem? hp)
  have v1 := oG.2.1
  have v2 := oH.2.1
  have hil0 := (List.getElem?_eq_some_iff.mp hp).1
  refine zM_of (n := 3) (by decide +kernel) rfl rfl rfl ?_
  have ga : ∀ {σ1}, Md σ σ1 (tp3 t) → GD σ1 a G := fun m => hG.md m (fun x q q' => by unfold bp at q; unfold tp3 at q'; omega)
  have gb : ∀ {σ1}, Md σ σ1 (tp3 t) → GD σ1 b H := fun m => hH.md m (fun x q q' => by unfold bp at q; unfold tp3 at q'; omega)
  have loop : ∀ n c σ1, c + n = 8 → IV σ1 t (pS 355 G H) (fnd (pS 355 G H) 0 (8 * i + c)) (4 * i + (c + 1) / 2) → Md σ σ1 (tp3 t) → ∀ y z, zW Γ mX4_reachNeighbours 3 [some (vR (some t)), some (vR (some a)), some (vR (some b)), some (vI p), some (vI c), y, z] [] σ1 0 0 Q := by
    intro n
    induction n with
    | zero =>
      intro c σ1 hc hN m1 y z
      have e : c = 8 := by omega
      subst e
      refine zW_iload dX4_reachNeighbours_3 rfl ?_
      refine zW_bipush dX4_reachNeighbours_5 (by decide) ?_
      refine zW_icmp_ge (tgt := 89) dX4_reachNeighbours_7 (by decide) (by first | assumption | omega | (unfold InR; omega) | (unfold InL; omega) | (simp only [InR] at *; omega)) (by first | assumption | omega | (unfold InR; omega) | (unfold InL; omega) | (simp only [InR] at *; omega)) (fun q => ?_) (fun q => ?_)
      · refine zW_return dX4_reachNeighbours_89 rfl (by first | decide | (show _ ≤ (0 : Nat); omega)) (by first | decide | (show _ ≤ (0 : Nat); omega)) ?_
        refine hQ σ1 ?_ m1
        have e1 : 8 * (i + 1) = 8 * i + 8 := by omega
        have e2 : 4 * (i + 1) = 4 * i + (8 + 1) / 2 := by omega
        rw [e1, e2]
        exact hN
      · exact absurd q (by omega)
    | succ n ih =>
      intro c σ1 hc hN m1 y z
      have hc8 : c < 8 := by omega
      have hA := ga m1
      have hB := gb m1
      have t1 := oG.2.2.1 (p / 355) c p1 hc8
      have t2 := oH.2.2.1 (p % 355) c p2 hc8
      have hpc := fnd_at (show 8 * i ≤ 8 * i + c by omega) hp
      have d1 : (8 * i + c) / 8 = i := by omega
      have d2 : (8 * i + c) % 8 = c := by omega
      have hlc1 := hlen (8 * i + c + 1)
      have hlc := hlen (8 * i + c)
      have hil := fnd_len (S := pS 355 G H) (r := 0) (show 8 * i ≤ 8 * i + c by omega)
      have hs := pecn_succ (pS 355 G H) (fnd (pS 355 G H) 0 (8 * i + c)) (4 * i + (c + 1) / 2)
      have skip : pS 355 G H p c = none → zW Γ mX4_reachNeighbours 83 [some (vR (some t)), some (vR (some a)), some (vR (some b)), some (vI p), some (vI c), some (vI (gt G (p / 355) c)), some (vI (gt H (p % 355) c))] [] σ1 0 0 Q := by
        intro hno
        have e : fnd (pS 355 G H) 0 (8 * i + c + 1) = fnd (pS 355 G H) 0 (8 * i + c) := fstep_none (v := p) (by rw [d1]; exact hpc) (by rw [d2]; exact hno)
        refine zW_iinc dX4_reachNeighbours_83 rfl (by decide) rfl rfl ?_
        refine zW_goto (tgt := 3) dX4_reachNeighbours_86 (by decide) ?_
        refine ih (c + 1) σ1 (by omega) ?_ m1 _ _
        show IV σ1 t (pS 355 G H) (fnd (pS 355 G H) 0 (8 * i + c + 1)) (4 * i + (c + 1 + 1) / 2)
        rw [e]
        refine ⟨hN.1, hN.2.1, hN.2.2.1, ?_⟩
        rcases Nat.mod_two_eq_zero_or_one c with z | z
        · have e1 : (4 * i + (c + 1) / 2) / 4 = i := by omega
          have e2 : 2 * ((4 * i + (c + 1) / 2) % 4) = c := by omega
          have e3 : 4 * i + (c + 1 + 1) / 2 = 4 * i + (c + 1) / 2 + 1 := by omega
          rw [e1, e2, List.getD_eq_getElem?_getD, hpc] at hs
          change _ = _ + (if (pS 355 G H p c).isSome then 1 else 0) at hs
          rw [hno] at hs
          rw [e3, hs]
          exact hN.2.2.2
        · rw [show (c + 1 + 1) / 2 = (c + 1) / 2 by omega]
          exact hN.2.2.2
      obtain ⟨h0, h1, h2, k1, k2⟩ := hI.md m1
      refine zW_iload dX4_reachNeighbours_3 rfl ?_
      refine zW_bipush dX4_reachNeighbours_5 (by decide) ?_
      refine zW_icmp_ge (tgt := 89) dX4_reachNeighbours_7 (by decide) (by first | assumption | omega | (unfold InR; omega) | (unfold InL; omega) | (simp only [InR] at *; omega)) (by first | assumption | omega | (unfold InR; omega) | (unfold InL; omega) | (simp only [InR] at *; omega)) (fun q => ?_) (fun q => ?_)
      · exact absurd q (by omega)
      · refine zW_aload_n dX4_reachNeighbours_10 rfl ?_
        refine zW_iload_n dX4_reachNeighbours_11 rfl ?_
        refine zW_sipush dX4_reachNeighbours_12 (by decide) ?_
        refine zW_idiv dX4_reachNeighbours_15 (by first | assumption | omega | (unfold InR; omega) | (unfold InL; omega) | (simp only [InR] at *; omega)) (by first | assumption | omega | (unfold InR; omega) | (unfold InL; omega) | (simp only [InR] at *; omega)) (by first | assumption | omega | (unfold InR; omega) | (unfold InL; omega) | (simp only [InR] at *; omega)) (by first | assumption | omega | (unfold InR; omega) | (unfold InL; omega) | (simp only [InR] at *; omega)) ?_
        refine zW_iload dX4_reachNeighbours_16 rfl ?_
        refine zcV2 dX4_reachNeighbours_18 rfl eX2_follow b482 ⟨by decide, by decide, by decide, by decide⟩ rfl hA.1.1 rfl (by decide) (Nat.le_of_ble_eq_true rfl) (g_follow (v := p / 355) hA p1 hc8 ?_)
        refine zW_istore dX4_reachNeighbours_21 (by decide) rfl rfl ?_
        refine zW_aload_n dX4_reachNeighbours_23 rfl ?_
        refine zW_iload_n dX4_reachNeighbours_24 rfl ?_
        refine zW_sipush dX4_reachNeighbours_25 (by decide) ?_
        refine zW_irem dX4_reachNeighbours_28 (by first | assumption | omega | (unfold InR; omega) | (unfold InL; omega) | (simp only [InR] at *; omega)) (by first | assumption | omega | (unfold InR; omega) | (unfold InL; omega) | (simp only [InR] at *; omega)) (by first | assumption | omega | (unfold InR; omega) | (unfold InL; omega) | (simp only [InR] at *; omega)) (by first | assumption | omega | (unfold InR; omega) | (unfold InL; omega) | (simp only [InR] at *; omega)) ?_
        refine zW_iload dX4_reachNeighbours_29 rfl ?_
        refine zcV2 dX4_reachNeighbours_31 rfl eX2_follow b482 ⟨by decide, by decide, by decide, by decide⟩ rfl hB.1.1 rfl (by decide) (Nat.le_of_ble_eq_true rfl) (g_follow (v := p % 355) hB p2 hc8 ?_)
        refine zW_istore dX4_reachNeighbours_34 (by decide) rfl rfl ?_
        refine zW_iload dX4_reachNeighbours_36 rfl ?_
        refine zW_iconst dX4_reachNeighbours_38 ?_
        refine zW_icmp_eq (tgt := 83) dX4_reachNeighbours_39 (by decide) (by first | assumption | omega | (unfold InR; omega) | (unfold InL; omega) | (simp only [InR] at *; omega)) (by first | assumption | omega | (unfold InR; omega) | (unfold InL; omega) | (simp only [InR] at *; omega)) (fun q2 => ?_) (fun q2 => ?_)
        · refine skip ?_
          unfold pS
          rw [if_neg (fun z => z.2.1 q2)]
        · refine zW_iload dX4_reachNeighbours_42 rfl ?_
          refine zW_iconst dX4_reachNeighbours_44 ?_
          refine zW_icmp_eq (tgt := 83) dX4_reachNeighbours_45 (by decide) (by first | assumption | omega | (unfold InR; omega) | (unfold InL; omega) | (simp only [InR] at *; omega)) (by first | assumption | omega | (unfold InR; omega) | (unfold InL; omega) | (simp only [InR] at *; omega)) (fun q3 => ?_) (fun q3 => ?_)
          · refine skip ?_
            unfold pS
            rw [if_neg (fun z => z.2.2 q3)]
          · have hsome : pS 355 G H p c = some ((gt G (p / 355) c).toNat * 355 + (gt H (p % 355) c).toNat) := by
              unfold pS
              rw [if_pos ⟨hc8, q2, q3⟩]
            have hw : (gt G (p / 355) c) * 355 + gt H (p % 355) c = (((gt G (p / 355) c).toNat * 355 + (gt H (p % 355) c).toNat : Nat) : Int) := by omega
            generalize hwd : (gt G (p / 355) c).toNat * 355 + (gt H (p % 355) c).toNat = w at *
            have hw9 : w < 126025 := by omega
            have hst : fnd (pS 355 G H) 0 (8 * i + c + 1) = if w ∈ fnd (pS 355 G H) 0 (8 * i + c) then fnd (pS 355 G H) 0 (8 * i + c) else fnd (pS 355 G H) 0 (8 * i + c) ++ [w] := fstep_some (v := p) (w := w) (by rw [d1]; exact hpc) (by rw [d2]; exact hsome)
            have go : ∀ σ2, IV σ2 t (pS 355 G H) (fnd (pS 355 G H) 0 (8 * i + c)) (4 * i + (c + 1 + 1) / 2) → Md σ σ2 (tp3 t) → (4 * i + (c + 1 + 1) / 2) ≤ 4 * (fnd (pS 355 G H) 0 (8 * i + c)).length → zW Γ mX4_reachNeighbours 70 [some (vR (some t)), some (vR (some a)), some (vR (some b)), some (vI p), some (vI c), some (vI (gt G (p / 355) c)), some (vI (gt H (p % 355) c))] [] σ2 0 0 Q := by
              intro σ2 hN2 m2 hm9
              obtain ⟨h0, h1, h2, k1, k2⟩ := hI.md m2
              have fin : ∀ σ3, IV σ3 t (pS 355 G H) (fnd (pS 355 G H) 0 (8 * i + c + 1)) (4 * i + (c + 1 + 1) / 2) → Md σ σ3 (tp3 t) → zW Γ mX4_reachNeighbours 83 [some (vR (some t)), some (vR (some a)), some (vR (some b)), some (vI p), some (vI c), some (vI (gt G (p / 355) c)), some (vI (gt H (p % 355) c))] [] σ3 0 0 Q := by
                intro σ3 hN3 m3
                refine zW_iinc dX4_reachNeighbours_83 rfl (by decide) rfl rfl ?_
                refine zW_goto (tgt := 3) dX4_reachNeighbours_86 (by decide) ?_
                exact ih (c + 1) σ3 (by omega) hN3 m3 _ _
              refine zW_aload_n dX4_reachNeighbours_70 rfl ?_
              refine zW_iload dX4_reachNeighbours_71 rfl ?_
              refine zW_sipush dX4_reachNeighbours_73 (by decide) ?_
              refine zW_imul dX4_reachNeighbours_76 ?_
              refine zW_iload dX4_reachNeighbours_77 rfl ?_
              refine zW_iadd dX4_reachNeighbours_79 ?_
              rw [hw]
              by_cases hm : w ∈ fnd (pS 355 G H) 0 (8 * i + c)
              · rw [if_pos hm] at hst
                rcases Nat.lt_or_ge (fnd (pS 355 G H) 0 (8 * i + c)).length 126025 with z | z
                · refine zcV1 dX4_reachNeighbours_80 rfl eX4_reach b474 ⟨by decide, by decide, by decide, by decide⟩ rfl h0 rfl (by decide) (Nat.le_of_ble_eq_true rfl) (i_reach (hI.md m2) hN2 hw9 z hm9 (fun σ3 h3 m3 => ?_))
                  rw [if_pos hm, ← hst] at h3
                  exact fin σ3 h3 (m2.tr m3 (fun _ z => z))
                · -- all pairs are reached
                  have g9 := hN2.1 w hw9
                  rw [if_pos hm] at g9
                  refine zcV1 dX4_reachNeighbours_80 rfl eX4_reach b474 ⟨by decide, by decide, by decide, by decide⟩ rfl h0 rfl (by decide) (Nat.le_of_ble_eq_true rfl) (zM_of (n := 0) (by decide +kernel) rfl rfl rfl ?_)
                  refine zW_aload_n dX4_reach_0 rfl ?_
                  refine zgP dX4_reach_1 fX4_10 (by assumption) rfl (by assumption) ?_
                  refine zW_iload_n dX4_reach_4 rfl ?_
                  refine zrZ dX4_reach_5 k1 (by first | assumption | omega | (unfold InR; omega) | (unfold InL; omega) | (simp only [InR] at *; omega)) (by first | assumption | omega | (unfold InR; omega) | (unfold InL; omega) | (simp only [InR] at *; omega)) (by first | assumption | omega | (unfold InR; omega) | (unfold InL; omega) | (simp only [InR] at *; omega)) g9 ?_
                  refine zW_if_ne (tgt := 45) dX4_reach_6 (by decide) (by first | assumption | omega | (unfold InR; omega) | (unfold InL; omega) | (simp only [InR] at *; omega)) (fun q5 => ?_) (fun q5 => ?_)
                  · refine zW_return dX4_reach_45 rfl (by first | decide | (show _ ≤ (0 : Nat); omega)) (by first | decide | (show _ ≤ (0 : Nat); omega)) ?_
                    rw [← hst] at hN2
                    exact fin σ2 hN2 m2
                  · exact absurd q5 (by decide)
              · rw [if_neg hm] at hst
                rw [hst, List.length_append, List.length_singleton] at hlc1
                refine zcV1 dX4_reachNeighbours_80 rfl eX4_reach b474 ⟨by decide, by decide, by decide, by decide⟩ rfl h0 rfl (by decide) (Nat.le_of_ble_eq_true rfl) (i_reach (hI.md m2) hN2 hw9 (by omega) hm9 (fun σ3 h3 m3 => ?_))
                rw [if_neg hm, ← hst] at h3
                exact fin σ3 h3 (m2.tr m3 (fun _ z => z))
            have hE := hN.2.2.2
            refine zW_aload_n dX4_reachNeighbours_48 rfl ?_
            refine zW_dup dX4_reachNeighbours_49 rfl ?_
            refine zgI dX4_reachNeighbours_50 fX4_28 h0 rfl hE ?_
            refine zW_iload dX4_reachNeighbours_53 rfl ?_
            refine zcSN1 dX4_reachNeighbours_55 rfl eX9_isInverse (host := RX9) (by decide +kernel) ⟨by decide, by decide, by decide, by decide⟩ rfl (Nat.le_of_ble_eq_true rfl) (x_isInverse (by omega) ?_)
            refine zW_if_eq (tgt := 65) dX4_reachNeighbours_58 (by decide) (by first | assumption | omega | (unfold InR; omega) | (unfold InL; omega) | (simp only [InR] at *; omega)) (fun q4 => ?_) (fun q4 => ?_)
            · refine zW_iconst dX4_reachNeighbours_65 ?_
              refine zW_iadd dX4_reachNeighbours_66 ?_
              refine zpI dX4_reachNeighbours_67 fX4_28 (by assumption) rfl (Or.inl rfl) (zst_int _) ?_
              have e1 : (4 * i + (c + 1) / 2) / 4 = i := by omega
              have e2 : 2 * ((4 * i + (c + 1) / 2) % 4) = c := by omega
              have e3 : 4 * i + (c + 1 + 1) / 2 = 4 * i + (c + 1) / 2 + 1 := by omega
              rw [e1, e2, List.getD_eq_getElem?_getD, hpc] at hs
              change _ = _ + (if (pS 355 G H p c).isSome then 1 else 0) at hs
              rw [hsome] at hs
              change _ = _ + 1 at hs
              refine go _ ⟨hN.1, hN.2.1, ?_, ?_⟩ (m1.tr (Md.O (P := tp3 t) (by unfold tp3; omega)) (fun _ z => z)) (by omega)
              · rw [zO_sOk _ _ _ _ (by omega)]; exact hN.2.2.1
              · rw [zO_sOs, e3, hs]; rfl
            · refine zW_iconst dX4_reachNeighbours_61 ?_
              refine zW_goto (tgt := 66) dX4_reachNeighbours_62 (by decide) ?_
              refine zW_iadd dX4_reachNeighbours_66 ?_
              refine zpI dX4_reachNeighbours_67 fX4_28 (by assumption) rfl (Or.inl rfl) (zst_int _) ?_
              have e3 : (c + 1 + 1) / 2 = (c + 1) / 2 := by omega
              refine go _ ⟨hN.1, hN.2.1, ?_, ?_⟩ (m1.tr (Md.O (P := tp3 t) (by unfold tp3; omega)) (fun _ z => z)) (by omega)
              · rw [zO_sOk _ _ _ _ (by omega)]; exact hN.2.2.1
              · rw [zO_sOs, e3]; omega
  refine zW_iconst dX4_reachNeighbours_0 ?_
  refine zW_istore dX4_reachNeighbours_1 (by decide) rfl rfl ?_
  exact loop 8 0 σ rfl h Md.rf _ _
set_option maxRecDepth 100000 in
theorem i_search (hI : IK σ t) (hG : GD σ a G) (hH : GD σ b H) (hda : t + 3 ≤ a ∨ a + 5 ≤ t) (hdb : t + 3 ≤ b ∨ b + 5 ≤ t) (hz : ∀ p, p < 126025 → zI σ (t + 1) p = 0)
    (hQ : ∀ σ', zO σ' t 2 = ((ixF G H).length : Int) → zO σ' t 3 = (ixE G H : Int) → (∀ p, p < 126025 → zI σ' (t + 1) p = 0) → Md σ σ' (tp3 t) → Q (.inl none) σ') : zM Γ mX4_search [vR (some t), vR (some a), vR (some b)] σ Q := by
  have oG := hG.2.1
  have oH := hH.2.1
  have v1 := oG.2.1
  have v2 := oH.2.1
  have hin := pS_in (B := 355) oG oH oH.2.1
  have hbd : ∀ k, ∀ x ∈ fnd (pS 355 G H) 0 k, x < 126025 := fun k x hx => by
    have := hin k x hx
    omega
  have hlen : ∀ k, (fnd (pS 355 G H) 0 k).length ≤ 126025 := fun k => nds_len 126025 _ (fnd_nd _ _ k) (hbd k)
  have ga : ∀ {σ1}, Md σ σ1 (tp3 t) → GD σ1 a G := fun m => hG.md m (fun x q q' => by unfold bp at q; unfold tp3 at q'; omega)
  have gb : ∀ {σ1}, Md σ σ1 (tp3 t) → GD σ1 b H := fun m => hH.md m (fun x q q' => by unfold bp at q; unfold tp3 at q'; omega)
  refine zM_of (n := 1) (by decide +kernel) rfl rfl rfl ?_
  have loop2 : ∀ F, F = ixF G H → F.length ≤ 126025 → (∀ x ∈ F, x < 126025) → ∀ n i σ1, i + n = F.length → (∀ p, p < 126025 → zI σ1 (t + 1) p = if p ∈ F.drop i then 1 else 0) → (∀ (j p : Nat), F[j]? = some p → zI σ1 (t + 2) j = (p : Int)) → zO σ1 t 2 = (F.length : Int) → zO σ1 t 3 = (ixE G H : Int) → NDs F → Md σ σ1 (tp3 t) → zW Γ mX4_search 51 [some (vR (some t)), some (vR (some a)), some (vR (some b)), some (vI i)] [] σ1 0 0 Q := by
    intro F hF9 hl9 hx9 n
    induction n with
    | zero =>
      intro i σ1 hi n1 n2 n3 n4 hnd m1
      obtain ⟨h0, h1, h2, k1, k2⟩ := hI.md m1
      refine zW_iload_n dX4_search_51 rfl ?_
      refine zW_aload_n dX4_search_52 rfl ?_
      refine zgI dX4_search_53 fX4_24 h0 rfl n3 ?_
      refine zW_icmp_ge (tgt := 77) dX4_search_56 (by decide) (by first | assumption | omega | (unfold InR; omega) | (unfold InL; omega) | (simp only [InR] at *; omega)) (by first | assumption | omega | (unfold InR; omega) | (unfold InL; omega) | (simp only [InR] at *; omega)) (fun q => ?_) (fun q => ?_)
      · refine zW_return dX4_search_77 rfl (by first | decide | (show _ ≤ (0 : Nat); omega)) (by first | decide | (show _ ≤ (0 : Nat); omega)) ?_
        rw [hF9] at n3
        refine hQ σ1 n3 n4 (fun p hp => ?_) m1
        rw [n1 p hp, List.drop_eq_nil_of_le (by omega)]
        rfl
      · exact absurd q (by omega)
    | succ n ih =>
      intro i σ1 hi n1 n2 n3 n4 hnd m1
      obtain ⟨h0, h1, h2, k1, k2⟩ := hI.md m1
      have hv : F[i]? = some F[i] := List.getElem?_eq_getElem (by omega)
      generalize F[i] = w at hv
      have hw := hx9 w (List.mem_of_getElem? hv)
      have hdr : F.drop i = w :: F.drop (i + 1) := by
        rw [List.drop_eq_getElem_cons (by omega)]
        congr 1
        exact Option.some.inj ((List.getElem?_eq_getElem (by omega)).symm.trans hv)
      have hnw : w ∉ F.drop (i + 1) := fun z => by
        obtain ⟨j, hj⟩ := List.getElem?_of_mem z
        rw [List.getElem?_drop] at hj
        have := hnd _ _ w hv hj
        omega
      refine zW_iload_n dX4_search_51 rfl ?_
      refine zW_aload_n dX4_search_52 rfl ?_
      refine zgI dX4_search_53 fX4_24 h0 rfl n3 ?_
      refine zW_icmp_ge (tgt := 77) dX4_search_56 (by decide) (by first | assumption | omega | (unfold InR; omega) | (unfold InL; omega) | (simp only [InR] at *; omega)) (by first | assumption | omega | (unfold InR; omega) | (unfold InL; omega) | (simp only [InR] at *; omega)) (fun q => ?_) (fun q => ?_)
      · exact absurd q (by omega)
      · refine zW_aload_n dX4_search_59 rfl ?_
        refine zgP dX4_search_60 fX4_10 h0 rfl h1 ?_
        refine zW_aload_n dX4_search_63 rfl ?_
        refine zgP dX4_search_64 fX4_16 h0 rfl h2 ?_
        refine zW_iload_n dX4_search_67 rfl ?_
        refine zrI dX4_search_68 k2 (by first | assumption | omega | (unfold InR; omega) | (unfold InL; omega) | (simp only [InR] at *; omega)) (by first | assumption | omega | (unfold InR; omega) | (unfold InL; omega) | (simp only [InR] at *; omega)) (by first | assumption | omega | (unfold InR; omega) | (unfold InL; omega) | (simp only [InR] at *; omega)) (n2 i w hv) ?_
        refine zW_iconst dX4_search_69 ?_
        refine zW_zast dX4_search_70 k1 (by first | assumption | omega | (unfold InR; omega) | (unfold InL; omega) | (simp only [InR] at *; omega)) (by first | assumption | omega | (unfold InR; omega) | (unfold InL; omega) | (simp only [InR] at *; omega)) (by first | assumption | omega | (unfold InR; omega) | (unfold InL; omega) | (simp only [InR] at *; omega)) rfl ?_
        refine zW_iinc dX4_search_71 rfl (by decide) rfl rfl ?_
        refine zW_goto (tgt := 51) dX4_search_74 (by decide) ?_
        refine ih (i + 1) _ (by omega) (fun p hp => ?_) (fun j p hj => ?_) n3 n4 hnd (m1.tr (Md.I (P := tp3 t) (by unfold tp3; omega)) (fun _ z => z))
        · by_cases e : p = w
          · rw [if_neg (by rw [e]; exact hnw), e]
            exact zI_sIs _ _ _ _
          · rw [zI_sIk _ _ _ _ (show p ≠ (w : Int).toNat by omega), n1 p hp, hdr]
            by_cases z : p ∈ F.drop (i + 1)
            · rw [if_pos z, if_pos (List.mem_cons_of_mem _ z)]
            · rw [if_neg z, if_neg (fun y => (List.mem_cons.mp y).elim e z)]
        · rw [zI_sIa _ _ _ _ (by omega)]; exact n2 j p hj
  have loop1 : ∀ n i σ1, i + n = 126026 → i ≤ (fnd (pS 355 G H) 0 (8 * i)).length → IV σ1 t (pS 355 G H) (fnd (pS 355 G H) 0 (8 * i)) (4 * i) → Md σ σ1 (tp3 t) → zW Γ mX4_search 17 [some (vR (some t)), some (vR (some a)), some (vR (some b)), some (vI i)] [] σ1 0 0 Q := by
    intro n
    induction n with
    | zero =>
      intro i σ1 hi hil hN m1
      have := hlen (8 * i)
      omega
    | succ n ih =>
      intro i σ1 hi hil hN m1
      obtain ⟨h0, h1, h2, k1, k2⟩ := hI.md m1
      have hl9 := hlen (8 * i)
      have n3 := hN.2.2.1
      refine zW_iload_n dX4_search_17 rfl ?_
      refine zW_aload_n dX4_search_18 rfl ?_
      refine zgI dX4_search_19 fX4_24 h0 rfl n3 ?_
      refine zW_icmp_ge (tgt := 49) dX4_search_22 (by decide) (by first | assumption | omega | (unfold InR; omega) | (unfold InL; omega) | (simp only [InR] at *; omega)) (by first | assumption | omega | (unfold InR; omega) | (unfold InL; omega) | (simp only [InR] at *; omega)) (fun q => ?_) (fun q => ?_)
      · refine zW_iconst dX4_search_49 ?_
        refine zW_istore_n dX4_search_50 (by decide) rfl rfl ?_
        have e : i = (fnd (pS 355 G H) 0 (8 * i)).length := by omega
        have hnd := fnd_nd (pS 355 G H) 0 (8 * i)
        have hb := hbd (8 * i)
        generalize hF : fnd (pS 355 G H) 0 (8 * i) = F at *
        have hfull : Full (pS 355 G H) 0 F := by unfold Full; rw [← e]; exact hF
        have hF9 := ixF_eq hfull
        refine loop2 F hF9 hl9 hb F.length 0 σ1 (by omega) hN.1 hN.2.1 hN.2.2.1 ?_ hnd m1
        rw [hN.2.2.2, e]
        unfold ixE
        rw [← hF9]
      · refine zW_iload_n dX4_search_25 rfl ?_
        refine zW_ldc (z := 126025) dX4_search_26 b190 ?_
        refine zW_icmp_ge (tgt := 49) dX4_search_28 (by decide) (by first | assumption | omega | (unfold InR; omega) | (unfold InL; omega) | (simp only [InR] at *; omega)) (by first | assumption | omega | (unfold InR; omega) | (unfold InL; omega) | (simp only [InR] at *; omega)) (fun q2 => ?_) (fun q2 => ?_)
        · exact absurd q2 (by omega)
        · have hv : (fnd (pS 355 G H) 0 (8 * i))[i]? = some (fnd (pS 355 G H) 0 (8 * i))[i] := List.getElem?_eq_getElem (by omega)
          generalize (fnd (pS 355 G H) 0 (8 * i))[i] = w at hv
          refine zW_aload_n dX4_search_31 rfl ?_
          refine zW_aload_n dX4_search_32 rfl ?_
          refine zW_aload_n dX4_search_33 rfl ?_
          refine zW_aload_n dX4_search_34 rfl ?_
          refine zgP dX4_search_35 fX4_16 h0 rfl h2 ?_
          refine zW_iload_n dX4_search_38 rfl ?_
          refine zrI dX4_search_39 k2 (by first | assumption | omega | (unfold InR; omega) | (unfold InL; omega) | (simp only [InR] at *; omega)) (by first | assumption | omega | (unfold InR; omega) | (unfold InL; omega) | (simp only [InR] at *; omega)) (by first | assumption | omega | (unfold InR; omega) | (unfold InL; omega) | (simp only [InR] at *; omega)) (hN.2.1 i w hv) ?_
          refine zcV3 dX4_search_40 rfl eX4_reachNeighbours b478 ⟨by decide, by decide, by decide, by decide⟩ rfl h0 rfl (by decide) (Nat.le_of_ble_eq_true rfl) (i_reachNeighbours (hI.md m1) (ga m1) (gb m1) hda hdb hN hv (fun σ2 h2 m2 => ?_))
          refine zW_iinc dX4_search_43 rfl (by decide) rfl rfl ?_
          refine zW_goto (tgt := 17) dX4_search_46 (by decide) ?_
          refine ih (i + 1) σ2 (by omega) ?_ h2 (m1.tr m2 (fun _ z => z))
          have := fnd_len (S := pS 355 G H) (r := 0) (show 8 * i ≤ 8 * (i + 1) by omega)
          omega
  obtain ⟨h0, h1, h2, k1, k2⟩ := id hI
  have m0 : Md σ (sO (sO σ t 2 0) t 3 0) (tp3 t) := (Md.O (P := tp3 t) (by unfold tp3; omega)).tr (Md.O (P := tp3 t) (by unfold tp3; omega)) (fun _ z => z)
  have hN0 : IV (sO (sO σ t 2 0) t 3 0) t (pS 355 G H) [] 0 := by
    refine ⟨fun p hp => ?_, fun i p hp => by simp at hp, ?_, zO_sOs _ _ _ _⟩
    · rw [zI_sO, zI_sO, hz p hp]; rfl
    · rw [zO_sOk _ _ _ _ (by omega), zO_sOs]; rfl
  refine zW_aload_n dX4_search_0 rfl ?_
  refine zW_iconst dX4_search_1 ?_
  refine zpI dX4_search_2 fX4_24 h0 rfl (Or.inl rfl) (zst_int _) ?_
  refine zW_aload_n dX4_search_5 rfl ?_
  refine zW_iconst dX4_search_6 ?_
  refine zpI dX4_search_7 fX4_28 h0 rfl (Or.inl rfl) (zst_int _) ?_
  refine zW_aload_n dX4_search_10 rfl ?_
  refine zW_iconst dX4_search_11 ?_
  refine zcV1 dX4_search_12 rfl eX4_reach b474 ⟨by decide, by decide, by decide, by decide⟩ rfl h0 rfl (by decide) (Nat.le_of_ble_eq_true rfl) (i_reach (p := 0) (hI.md m0) hN0 (by omega) (by decide) (Nat.le_refl _) (fun σ2 h2 m2 => ?_))
  refine zW_iconst dX4_search_15 ?_
  refine zW_istore_n dX4_search_16 (by decide) rfl rfl ?_
  exact loop1 126026 0 σ2 rfl (Nat.zero_le _) h2 (m0.tr m2 (fun _ z => z))
end INTERSECTION
