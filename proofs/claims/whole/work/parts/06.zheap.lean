/-! fields and rows -/
def zcl (ci : Nat) : String × u_T × Nat × (Nat → FieldType) := match ci with
  | 0 => (RX0, TX0, 8, tyX0)
  | 1 => (RX1, TX1, 2, tyX1)
  | 2 => (RX2, TX2, 7, tyX2)
  | 3 => (RX3, TX3, 3, tyX3)
  | 4 => (RX4, TX4, 5, tyX4)
  | 5 => (RX5, TX5, 1, tyX5)
  | 6 => (RX6, TX6, 9, tyX6)
  | 7 => (RX7, TX7, 4, tyX7)
  | 8 => (RX8, TX8, 2, tyX8)
  | 9 => (RX9, TX9, 14, tyX9)
  | _ => (RX10, TX10, 37, tyX10)
abbrev zcN (ci : Nat) : String := (zcl ci).1
abbrev zcT (ci : Nat) : u_T := (zcl ci).2.1
abbrev zcn (ci : Nat) : Nat := (zcl ci).2.2.1
abbrev zct (ci : Nat) : Nat → FieldType := (zcl ci).2.2.2
theorem zcl_vw : ∀ ci, ci < 11 → vwCl[ci]? = some (zcN ci, zcT ci, zcn ci) := fun ci h => by
  match ci, h with
  | 0, _ | 1, _ | 2, _ | 3, _ | 4, _ | 5, _ | 6, _ | 7, _ | 8, _ | 9, _ | 10, _ => rfl
  | n + 11, h => omega
theorem zcl_n : ∀ ci, ci < 11 → zNF ci = zcn ci := by decide +kernel
theorem zcl_own : ∀ ci, ci < 11 → ∀ k, k < zcn ci → (zcT ci k).1 = zcN ci := by decide +kernel
theorem zcl_ty : ∀ ci, ci < 11 → ∀ k, k < zcn ci → parseFieldDescriptor (zcT ci k).2.2.1 = some (zct ci k) := by decide +kernel
theorem zcl_nm : ∀ ci, ci < 11 → ∀ a, a < zcn ci → ∀ b, b < zcn ci → a ≠ b → (zcT ci a).2.1 ≠ (zcT ci b).2.1 := by decide +kernel
theorem zcl_ws : ∀ ci, ci < 11 → ∀ w ∈ u_ws (zcN ci) (zcT ci) (zcn ci), w ∈ BIG := by
  have h0 : ∀ ci, ci < 11 → (u_ws (zcN ci) (zcT ci) (zcn ci)).all goodWord = true := by decide +kernel
  have h1 : ∀ ci, ci < 11 → ∀ w ∈ u_ws (zcN ci) (zcT ci) (zcn ci), w ∈ tables_1 := by decide +kernel
  intro ci h w hw
  exact List.mem_filter.mpr ⟨List.mem_append_right _ (h1 ci h w hw), List.all_eq_true.mp (h0 ci h) w hw⟩
/-- a field: the pool's place, the kind, the slot -/
def zFl (own : String) (idx ci k : Nat) : Prop := ci < 11 ∧ k < zcn ci ∧ Cond.fieldLink own idx (zcN ci) (zcT ci k).2.1 (zcT ci k).2.2.1 ∈ BIG
section ZHEAP
variable {Γ : GG}
theorem zCell_keep {σ σ' : HS} {H H' : Heap} {b : Nat} (hK : zK σ' b = zK σ b) (hO : ∀ k, zO σ' b k = zO σ b k) (hI : ∀ k, zI σ' b k = zI σ b k) (hJ : ∀ k, zJ σ' b k = zJ σ b k) (hP : ∀ k, zP σ' b k = zP σ b k) (hq : H'[b]? = H[b]?) (h : zCell Γ σ H b) : zCell Γ σ' H' b := by
  obtain ⟨h1, h2, h3, h4⟩ := h
  unfold zCell
  rw [hK]
  refine ⟨fun g => ((h1 g).kept hq).to (fun k _ => ?_), fun g => ?_, fun g => ?_, fun g g' => ?_⟩
  · unfold zV
    rw [hO, hP]
  · rw [hq, h2 g]
    simp only [hJ]
  · rw [hq, h3 g]
    simp only [hI]
  · rw [hq, h4 g g']
    simp only [hP]
theorem zH_put {σ σ' : HS} {H H' : Heap} {a : Nat} (h : zH Γ σ H) (hK : zK σ' = zK σ) (hN : zN σ' = zN σ) (ho : ∀ b, b ≠ a → ∀ k, zO σ' b k = zO σ b k ∧ zI σ' b k = zI σ b k ∧ zJ σ' b k = zJ σ b k ∧ zP σ' b k = zP σ b k) (hz : H'.size = H.size) (hq : ∀ q : Nat, q ≠ a → H'[q]? = H[q]?) (ha : zCell Γ σ' H' a) : zH Γ σ' H' := by
  refine ⟨fun b => ?_, by rw [hz, hN]; exact h.2.1, by rw [hK]; exact h.2.2⟩
  by_cases hb : b = a
  · rw [hb]; exact ha
  · exact zCell_keep (by rw [hK]) (fun k => (ho b hb k).1) (fun k => (ho b hb k).2.1) (fun k => (ho b hb k).2.2.1) (fun k => (ho b hb k).2.2.2) (hq b hb) (h.1 b)
theorem up2_ne {α : Type} {f : Nat → Nat → α} {a b k j : Nat} {x : α} (h : b ≠ a) : up2 f a k x b j = f b j := by
  unfold up2
  rw [if_neg (fun q => h q.1)]
theorem up2_row {α : Type} {f : Nat → Nat → α} {a k j : Nat} {x : α} : up2 f a k x a j = if j = k then x else f a j := by
  unfold up2
  by_cases h : j = k <;> simp [h]
theorem zin {i : Int} {n : Nat} (hn : n ≤ 2147483647) (h0 : 0 ≤ i) (h1 : i < n) : ¬ (iI i < 0 ∨ n ≤ (iI i).toNatClampNeg) ∧ (iI i).toNatClampNeg = i.toNat := by
  have hr : InR i := ⟨by omega, by omega⟩
  have e : (iI i).toNatClampNeg = i.toNat := by
    show (iI i).toInt.toNat = i.toNat
    rw [iI_toInt hr]
  refine ⟨?_, e⟩
  rw [e]
  rintro (h | h)
  · have := (iI_lt hr InR_0).mp h
    omega
  · omega
end ZHEAP
section ZROWS2
variable {Γ : GG} {M : MT} {pc : Nat} {lo : List (Option AV)} {st : List AV} {σ : HS} {cu su : Nat} {Q : Res → HS → Prop}
theorem zW_getI {idx ci k a : Nat} (d : decode (mB M) pc = .ok (.getfield idx, 3)) (L : zFl (mY M).cls idx ci k) (hk : (zK σ a).1 = ci) (hr : zR ci k = false) (kk : zW Γ M (pc + 3) lo (vI (zO σ a k) :: st) σ cu su Q) : zW Γ M pc lo (vR (some a) :: st) σ cu su Q := by
  intro l p e s m args below meth c H locs ls hl C hS hH hL
  obtain ⟨h11, hkn, hlink⟩ := L
  obtain ⟨⟨hx, hb, hml, hown, hts⟩, hret, hlk, htab, hnam, hKK, hBs⟩ := id C
  subst hk
  obtain ⟨cell, q1, q2, q3, q4⟩ := (hH.1 a).1 h11
  obtain ⟨hSl, hfc, kC, hkC, hkind⟩ := hKK.1 _ _ (zcl_vw _ h11)
  obtain ⟨cf, kf, fi, f, hi, hsl⟩ := hSl k hkn
  have hi2 : s.fieldFound? (zcN (zK σ a).1) (zcT (zK σ a).1 k).2.1 (zcT (zK σ a).1 k).2.2.1 = some (cf, kf, fi, f) := by
    rw [← zcl_own _ h11 k hkn]; exact hi
  refine W.getf hx hb hown (hts _ hlink) hi2 (u_facts hfc hkC (u_lays hts (zcl_ws _ h11) hkn) hi).1 q1 (by rw [q3]; exact fun h => by cases h) (v := .int (iI (zO σ a k))) ?_ rfl rfl d (kk l p e s m args below meth c H locs ls hl C hS hH hL)
  rw [hsl]
  have := q4 k (by rw [zcl_n _ h11]; exact hkn)
  rw [zV, hr] at this
  exact this
theorem zW_getP {idx ci k a : Nat} (d : decode (mB M) pc = .ok (.getfield idx, 3)) (L : zFl (mY M).cls idx ci k) (hk : (zK σ a).1 = ci) (hr : zR ci k = true) (kk : zW Γ M (pc + 3) lo (vR (zP σ a k) :: st) σ cu su Q) : zW Γ M pc lo (vR (some a) :: st) σ cu su Q := by
  intro l p e s m args below meth c H locs ls hl C hS hH hL
  obtain ⟨h11, hkn, hlink⟩ := L
  obtain ⟨⟨hx, hb, hml, hown, hts⟩, hret, hlk, htab, hnam, hKK, hBs⟩ := id C
  subst hk
  obtain ⟨cell, q1, q2, q3, q4⟩ := (hH.1 a).1 h11
  obtain ⟨hSl, hfc, kC, hkC, hkind⟩ := hKK.1 _ _ (zcl_vw _ h11)
  obtain ⟨cf, kf, fi, f, hi, hsl⟩ := hSl k hkn
  have hi2 : s.fieldFound? (zcN (zK σ a).1) (zcT (zK σ a).1 k).2.1 (zcT (zK σ a).1 k).2.2.1 = some (cf, kf, fi, f) := by
    rw [← zcl_own _ h11 k hkn]; exact hi
  refine W.getf hx hb hown (hts _ hlink) hi2 (u_facts hfc hkC (u_lays hts (zcl_ws _ h11) hkn) hi).1 q1 (by rw [q3]; exact fun h => by cases h) (v := va_rf (zP σ a k)) ?_ rfl rfl d (kk l p e s m args below meth c H locs ls hl C hS hH hL)
  rw [hsl]
  have := q4 k (by rw [zcl_n _ h11]; exact hkn)
  rw [zV, hr] at this
  exact this
/-- the one proof of the four puts: v goes into the slot k of a; σ' is what the heap is then -/
theorem zW_putX {idx ci k a : Nat} {v : AV} {σ' : HS} (d : decode (mB M) pc = .ok (.putfield idx, 3)) (L : zFl (mY M).cls idx ci k) (hk : (zK σ a).1 = ci) (hfin : (zcT ci k).2.2.2 = false ∨ ((mY M).name = "<init>" ∧ (mY M).cls = zcN ci)) (hn : narrow (zct ci k) (toV v) = toV v) (hfit : fits (zct ci k) (toV v) = true)
    (hK' : zK σ' = zK σ) (hN' : zN σ' = zN σ) (ho : ∀ b, b ≠ a → ∀ k, zO σ' b k = zO σ b k ∧ zI σ' b k = zI σ b k ∧ zJ σ' b k = zJ σ b k ∧ zP σ' b k = zP σ b k) (hv : zV σ' a ci k = toV v) (hvo : ∀ j, j < zcn ci → j ≠ k → zV σ' a ci j = zV σ a ci j)
    (kk : zW Γ M (pc + 3) lo st σ' cu su Q) : zW Γ M pc lo (v :: vR (some a) :: st) σ cu su Q := by
  intro l p e s m args below meth c H locs ls hl C hS hH hL
  obtain ⟨h11, hkn, hlink⟩ := L
  obtain ⟨⟨hx, hb, hml, hown, hts⟩, hret, hlk, htab, hnam, hKK, hBs⟩ := id C
  subst hk
  obtain ⟨cell, q1, q2, q3, q4⟩ := (hH.1 a).1 h11
  have hc := zcl_vw _ h11
  have hap := va_apart (own := (mY M).cls) hts (zcl_ws _ h11) (zct _) (zcl_ty _ h11) (zcl_nm _ h11) hKK hc
  obtain ⟨hSl, hfc, kC, hkC, hkind⟩ := hKK.1 _ _ hc
  obtain ⟨cf, kf, fi, f, hi, hsl⟩ := hSl k hkn
  have hi2 : s.fieldFound? (zcN (zK σ a).1) (zcT (zK σ a).1 k).2.1 (zcT (zK σ a).1 k).2.2.1 = some (cf, kf, fi, f) := by
    rw [← zcl_own _ h11 k hkn]; exact hi
  have hst := (u_facts hfc hkC (u_lays hts (zcl_ws _ h11) hkn) hi).1
  have hd := zcl_ty _ h11 k hkn
  have hslot : f.slot < cell.slots.size := by rw [hsl]; exact k2_hasslot (q4 k (by rw [zcl_n _ h11]; exact hkn))
  have h6 := u_fits hfc hkC hkind (u_lays hts (zcl_ws _ h11) hkn) hi hd hn hfit
  have hA : zA Γ a := hH.2.2 a (by omega)
  have key : ∀ H' : Heap, H'[a]? = some (cell.setSlot f.slot (toV v)) → H'.size = H.size → (∀ q, q ≠ a → H'[q]? = H[q]?) → zH Γ σ' H' := by
    intro H' e1 e2 e3
    rw [hsl] at e1
    refine zH_put hH hK' hN' ho e2 e3 ⟨fun g => ?_, fun g => ?_, fun g => ?_, fun g g' => ?_⟩
    · rw [hK']
      refine t_OB.to (V := updV (zV σ a (zK σ a).1) k (toV v)) ⟨_, e1, q2, q3, t_set q4 (fun x y hx hy => hap x y (by rw [← zcl_n _ h11]; exact hx) (by rw [← zcl_n _ h11]; exact hy)) (by rw [zcl_n _ h11]; exact hkn) (toV v)⟩ (fun j hj => ?_)
      by_cases hjk : j = k
      · subst hjk
        rw [hv]; simp [updV]
      · rw [hvo j (by rw [← zcl_n _ h11]; exact hj) hjk]; simp [updV, hjk]
    · rw [hK'] at g; omega
    · rw [hK'] at g; unfold zInt at g; omega
    · rw [hK'] at g; omega
  rcases hfin with hfin | ⟨hin2, hdecl⟩
  · have hlay := hts _ (zcl_ws _ h11 _ (u_in_lay hkn))
    unfold u_lay at hlay
    rw [if_neg (by rw [hfin]; decide)] at hlay
    have h7 := u_store hfc hkC hkind hlay hi hd hn hfit
    exact W.putK hx hb (f := f) ⟨hown, hts _ hlink, ⟨_, _, _, hi2⟩, hst⟩ (by rw [q2]; exact h7) q1 q3 hslot rfl rfl d fun H' e1 e2 e3 => kk l p e s m args below meth c H' _ ls hl C (hS.put e2 e3 hA) (key H' e1 e2 e3) hL
  · by_cases hfin2 : (zcT (zK σ a).1 k).2.2.2 = true
    · have hlay := hts _ (zcl_ws _ h11 _ (u_in_lay hkn))
      unfold u_lay at hlay
      rw [if_pos hfin2] at hlay
      have hcf : m.cls = cf := by
        obtain ⟨_, _, c', _, _, _, -, -, hf', -, -, -, hown2, -⟩ := Cond.laysFinal_spec hlay
        have e1 : c' = cf := by have := hi.symm.trans hf'; simp at this; exact this.1.symm
        rw [zcl_own _ h11 k hkn, ← hdecl] at hown2
        rw [← e1]; exact Option.some.inj (hown.symm.trans hown2)
      exact W.putFinK hx hb hown (hts _ hlink) hi2 hst hcf (hnam.trans hin2) (by rw [q2]; exact h6) q1 q3 hslot rfl rfl d fun H' e1 e2 e3 => kk l p e s m args below meth c H' _ ls hl C (hS.put e2 e3 hA) (key H' e1 e2 e3) hL
    · have hlay := hts _ (zcl_ws _ h11 _ (u_in_lay hkn))
      unfold u_lay at hlay
      rw [if_neg hfin2] at hlay
      have h7 := u_store hfc hkC hkind hlay hi hd hn hfit
      exact W.putK hx hb (f := f) ⟨hown, hts _ hlink, ⟨_, _, _, hi2⟩, hst⟩ (by rw [q2]; exact h7) q1 q3 hslot rfl rfl d fun H' e1 e2 e3 => kk l p e s m args below meth c H' _ ls hl C (hS.put e2 e3 hA) (key H' e1 e2 e3) hL
/-- what a slot of a small type takes -/
def zst (ty : FieldType) (x : Int) : Prop := narrow ty (.int (iI x)) = .int (iI x) ∧ fits ty (.int (iI x)) = true
theorem zst_int (x : Int) : zst .int x := ⟨rfl, rfl⟩
theorem zst_0 : zst .boolean 0 := ⟨rfl, rfl⟩
theorem zst_1 : zst .boolean 1 := ⟨rfl, rfl⟩
theorem zW_putI {idx ci k a : Nat} {x : Int} (d : decode (mB M) pc = .ok (.putfield idx, 3)) (L : zFl (mY M).cls idx ci k) (hk : (zK σ a).1 = ci) (hr : zR ci k = false) (hfin : (zcT ci k).2.2.2 = false ∨ ((mY M).name = "<init>" ∧ (mY M).cls = zcN ci)) (hn : zst (zct ci k) x) (kk : zW Γ M (pc + 3) lo st (sO σ a k x) cu su Q) : zW Γ M pc lo (vI x :: vR (some a) :: st) σ cu su Q := by
  refine zW_putX (σ' := sO σ a k x) d L hk hfin hn.1 hn.2 rfl rfl (fun b hb j => ⟨up2_ne hb, rfl, rfl, rfl⟩) ?_ (fun j hj hjk => ?_) kk
  · unfold zV
    rw [hr, zO_sOs]; rfl
  · unfold zV
    rw [zO_sOk _ _ _ _ hjk, zP_sO]
theorem zW_putP {idx ci k a : Nat} {r : Option Nat} {t : FieldType} (d : decode (mB M) pc = .ok (.putfield idx, 3)) (L : zFl (mY M).cls idx ci k) (hk : (zK σ a).1 = ci) (hr : zR ci k = true) (hfin : (zcT ci k).2.2.2 = false ∨ ((mY M).name = "<init>" ∧ (mY M).cls = zcN ci)) (hn : zct ci k = .array t ∨ ∃ C : String, zct ci k = .object C) (kk : zW Γ M (pc + 3) lo st (sP σ a k r) cu su Q) : zW Γ M pc lo (vR r :: vR (some a) :: st) σ cu su Q := by
  have h9 : narrow (zct ci k) (toV (vR r)) = toV (vR r) ∧ fits (zct ci k) (toV (vR r)) = true := by
    rcases hn with hn | ⟨C, hn⟩ <;> rw [hn] <;> cases r <;> exact ⟨rfl, rfl⟩
  refine zW_putX (σ' := sP σ a k r) d L hk hfin h9.1 h9.2 rfl rfl (fun b hb j => ⟨rfl, rfl, rfl, up2_ne hb⟩) ?_ (fun j hj hjk => ?_) kk
  · unfold zV
    rw [hr, zP_sPs]; rfl
  · unfold zV
    rw [zP_sPk _ _ _ _ hjk, zO_sP]
end ZROWS2
