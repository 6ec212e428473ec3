/-! rows of the heap: reading, writing, lengths, new ones -/
section ZROWS3
def zrefB : FieldType → Bool
  | .array _ => true
  | .object _ => true
  | _ => false
theorem zborn : ∀ ci, ci < 11 → ∀ j, j < zcn ci → defaultValue (zct ci j) = (if zR ci j = true then va_rf none else .int (iI 0)) := by
  have h : ∀ ci, ci < 11 → ∀ j, j < zcn ci → (zR ci j = true ∧ zrefB (zct ci j) = true) ∨ (zR ci j = false ∧ (zct ci j = .int ∨ zct ci j = .boolean)) := by decide +kernel
  intro ci hci j hj
  rcases h ci hci j hj with ⟨h1, h2⟩ | ⟨h1, h2 | h2⟩
  · rw [if_pos h1]
    cases ht : zct ci j <;> rw [ht] at h2 <;> first | rfl | exact absurd h2 (by decide)
  · rw [h1, h2]; rfl
  · rw [h1, h2]; rfl
variable {Γ : GG} {M : MT} {pc : Nat} {lo : List (Option AV)} {st : List AV} {σ : HS} {cu su : Nat} {Q : Res → HS → Prop}
theorem zW_iald {a n : Nat} {i : Int} (d : decode (mB M) pc = .ok (.iaload, 1)) (hk : zK σ a = (13, n)) (hn : n ≤ 2147483647) (h0 : 0 ≤ i) (h1 : i < n) (k : zW Γ M (pc + 1) lo (vI (zI σ a i.toNat) :: st) σ cu su Q) : zW Γ M pc lo (vI i :: vR (some a) :: st) σ cu su Q := by
  intro l p e s m args below meth c H locs ls hl C hS hH hL
  obtain ⟨⟨hx, hb, hml, hown, hts⟩, hret, hlk, htab, hnam, hKK, hBs⟩ := id C
  have hc := (hH.1 a).2.2.1 (by rw [hk]; unfold zInt; simp)
  rw [hk] at hc
  obtain ⟨hin, hcl⟩ := zin hn h0 h1
  refine W.iald (v := .int (iI (zI σ a i.toNat))) hx hb hc ((hKK.arr (K := 13) (by decide) (by decide)).1 n _) (fun q => by cases q) (by rw [arrV_size]; exact hin) ?_ rfl rfl d (k l p e s m args below meth c H locs ls hl C hS hH hL)
  rw [hcl]
  exact arrV_read _ _ (by omega)
theorem zW_bald {a n : Nat} {i : Int} (d : decode (mB M) pc = .ok (.baload, 1)) (hk : zK σ a = (11, n)) (hn : n ≤ 2147483647) (h0 : 0 ≤ i) (h1 : i < n) (k : zW Γ M (pc + 1) lo (vI (zI σ a i.toNat) :: st) σ cu su Q) : zW Γ M pc lo (vI i :: vR (some a) :: st) σ cu su Q := by
  intro l p e s m args below meth c H locs ls hl C hS hH hL
  obtain ⟨⟨hx, hb, hml, hown, hts⟩, hret, hlk, htab, hnam, hKK, hBs⟩ := id C
  have hc := (hH.1 a).2.2.1 (by rw [hk]; unfold zInt; simp)
  rw [hk] at hc
  obtain ⟨hin, hcl⟩ := zin hn h0 h1
  refine W.bald (v := .int (iI (zI σ a i.toNat))) hx hb hc ((hKK.arr (K := 11) (by decide) (by decide)).1 n _) (fun q => by cases q) (by rw [arrV_size]; exact hin) ?_ rfl rfl d (k l p e s m args below meth c H locs ls hl C hS hH hL)
  rw [hcl]
  exact arrV_read _ _ (by omega)
theorem zW_cald {a n : Nat} {i : Int} (d : decode (mB M) pc = .ok (.caload, 1)) (hk : zK σ a = (12, n)) (hn : n ≤ 2147483647) (h0 : 0 ≤ i) (h1 : i < n) (k : zW Γ M (pc + 1) lo (vI (zI σ a i.toNat) :: st) σ cu su Q) : zW Γ M pc lo (vI i :: vR (some a) :: st) σ cu su Q := by
  intro l p e s m args below meth c H locs ls hl C hS hH hL
  obtain ⟨⟨hx, hb, hml, hown, hts⟩, hret, hlk, htab, hnam, hKK, hBs⟩ := id C
  have hc := (hH.1 a).2.2.1 (by rw [hk]; unfold zInt; simp)
  rw [hk] at hc
  obtain ⟨hin, hcl⟩ := zin hn h0 h1
  refine W.cald (v := .int (iI (zI σ a i.toNat))) hx hb hc ((hKK.arr (K := 12) (by decide) (by decide)).1 n _) (fun q => by cases q) (by rw [arrV_size]; exact hin) ?_ rfl rfl d (k l p e s m args below meth c H locs ls hl C hS hH hL)
  rw [hcl]
  exact arrV_read _ _ (by omega)
theorem zW_zald {a n : Nat} {i : Int} (d : decode (mB M) pc = .ok (.baload, 1)) (hk : zK σ a = (15, n)) (hn : n ≤ 2147483647) (h0 : 0 ≤ i) (h1 : i < n) (k : zW Γ M (pc + 1) lo (vI (zI σ a i.toNat) :: st) σ cu su Q) : zW Γ M pc lo (vI i :: vR (some a) :: st) σ cu su Q := by
  intro l p e s m args below meth c H locs ls hl C hS hH hL
  obtain ⟨⟨hx, hb, hml, hown, hts⟩, hret, hlk, htab, hnam, hKK, hBs⟩ := id C
  have hc := (hH.1 a).2.2.1 (by rw [hk]; unfold zInt; simp)
  rw [hk] at hc
  obtain ⟨hin, hcl⟩ := zin hn h0 h1
  refine W.zald (v := .int (iI (zI σ a i.toNat))) hx hb hc ((hKK.arr (K := 15) (by decide) (by decide)).1 n _) (fun q => by cases q) (by rw [arrV_size]; exact hin) ?_ rfl rfl d (k l p e s m args below meth c H locs ls hl C hS hH hL)
  rw [hcl]
  exact arrV_read _ _ (by omega)
theorem zW_lald {a n : Nat} {i : Int} (d : decode (mB M) pc = .ok (.laload, 1)) (hk : zK σ a = (14, n)) (hn : n ≤ 2147483647) (h0 : 0 ≤ i) (h1 : i < n) (k : zW Γ M (pc + 1) lo (vJ (zJ σ a i.toNat) :: st) σ cu su Q) : zW Γ M pc lo (vI i :: vR (some a) :: st) σ cu su Q := by
  intro l p e s m args below meth c H locs ls hl C hS hH hL
  obtain ⟨⟨hx, hb, hml, hown, hts⟩, hret, hlk, htab, hnam, hKK, hBs⟩ := id C
  have hc := (hH.1 a).2.1 (by rw [hk])
  rw [hk] at hc
  obtain ⟨hin, hcl⟩ := zin hn h0 h1
  refine W.lald (v := .long (jJ (zJ σ a i.toNat))) hx hb hc ((hKK.arr (K := 14) (by decide) (by decide)).1 n _) (fun q => by cases q) (by rw [arrV_size]; exact hin) ?_ rfl rfl d (k l p e s m args below meth c H locs ls hl C hS hH hL)
  rw [hcl]
  exact arrV_read _ _ (by omega)
theorem zW_aald {a K n : Nat} {i : Int} (d : decode (mB M) pc = .ok (.aaload, 1)) (hk : zK σ a = (K, n)) (hK1 : 16 ≤ K) (hK2 : K < 19) (hn : n ≤ 2147483647) (h0 : 0 ≤ i) (h1 : i < n) (k : zW Γ M (pc + 1) lo (vR (zP σ a i.toNat) :: st) σ cu su Q) : zW Γ M pc lo (vI i :: vR (some a) :: st) σ cu su Q := by
  intro l p e s m args below meth c H locs ls hl C hS hH hL
  obtain ⟨⟨hx, hb, hml, hown, hts⟩, hret, hlk, htab, hnam, hKK, hBs⟩ := id C
  have hc := (hH.1 a).2.2.2 (by rw [hk]; exact hK1) (by rw [hk]; exact hK2)
  rw [hk] at hc
  obtain ⟨hin, hcl⟩ := zin hn h0 h1
  refine W.aald (v := va_rf (zP σ a i.toNat)) (ty := zTy K) hx hb hc ((hKK.arr (K := K) (by omega) hK2).1 n _) ?_ (fun q => by cases q) (by rw [arrV_size]; exact hin) ?_ rfl rfl d (k l p e s m args below meth c H locs ls hl C hS hH hL)
  · rcases (by omega : K = 16 ∨ K = 17 ∨ K = 18) with r | r | r <;> subst r <;> rfl
  · rw [hcl]
    exact arrV_read _ _ (by omega)
theorem zW_iast {a n : Nat} {i x : Int} (d : decode (mB M) pc = .ok (.iastore, 1)) (hk : zK σ a = (13, n)) (hn : n ≤ 2147483647) (h0 : 0 ≤ i) (h1 : i < n) (k : zW Γ M (pc + 1) lo st (sI σ a i.toNat x) cu su Q) : zW Γ M pc lo (vI x :: vI i :: vR (some a) :: st) σ cu su Q := by
  intro l p e s m args below meth c H locs ls hl C hS hH hL
  obtain ⟨⟨hx, hb, hml, hown, hts⟩, hret, hlk, htab, hnam, hKK, hBs⟩ := id C
  have hc := (hH.1 a).2.2.1 (by rw [hk]; unfold zInt; simp)
  rw [hk] at hc
  obtain ⟨hin, hcl⟩ := zin hn h0 h1
  have hA : zA Γ a := hH.2.2 a (by rw [hk]; show 13 < 19; decide)
  refine W.iast hx hb hc ((hKK.arr (K := 13) (by decide) (by decide)).1 n _) (fun q => by cases q) (by rw [arrV_size]; exact hin) rfl rfl d (fun H' e1 e2 e3 => k l p e s m args below meth c H' _ ls hl C (hS.put e2 e3 hA) (zH_put hH rfl rfl (fun b hb j => ⟨rfl, up2_ne hb, rfl, rfl⟩) e2 e3 ⟨fun g => ?_, fun g => ?_, fun _ => ?_, fun g => ?_⟩) hL)
  · rw [zK_sI, hk] at g; dsimp only at g; omega
  · rw [zK_sI, hk] at g; dsimp only at g; omega
  · rw [e1]
    rw [arrV_store, hcl, zK_sI, hk]
    congr 2
    funext j
    show _ = Value.int (iI (up2 σ.2.2.1 a i.toNat x a j))
    rw [up2_row]
    by_cases hj : j = i.toNat <;> simp [updV, hj, zI]
  · rw [zK_sI, hk] at g; dsimp only at g; omega
theorem zW_bast {a n : Nat} {i x : Int} (d : decode (mB M) pc = .ok (.bastore, 1)) (hk : zK σ a = (11, n)) (hn : n ≤ 2147483647) (h0 : 0 ≤ i) (h1 : i < n) (hx9 : narrow .byte (.int (iI x)) = .int (iI x)) (k : zW Γ M (pc + 1) lo st (sI σ a i.toNat x) cu su Q) : zW Γ M pc lo (vI x :: vI i :: vR (some a) :: st) σ cu su Q := by
  intro l p e s m args below meth c H locs ls hl C hS hH hL
  obtain ⟨⟨hx, hb, hml, hown, hts⟩, hret, hlk, htab, hnam, hKK, hBs⟩ := id C
  have hc := (hH.1 a).2.2.1 (by rw [hk]; unfold zInt; simp)
  rw [hk] at hc
  obtain ⟨hin, hcl⟩ := zin hn h0 h1
  have hA : zA Γ a := hH.2.2 a (by rw [hk]; show 11 < 19; decide)
  refine W.bast hx hb hc ((hKK.arr (K := 11) (by decide) (by decide)).1 n _) (fun q => by cases q) (by rw [arrV_size]; exact hin) rfl rfl d (fun H' e1 e2 e3 => k l p e s m args below meth c H' _ ls hl C (hS.put e2 e3 hA) (zH_put hH rfl rfl (fun b hb j => ⟨rfl, up2_ne hb, rfl, rfl⟩) e2 e3 ⟨fun g => ?_, fun g => ?_, fun _ => ?_, fun g => ?_⟩) hL)
  · rw [zK_sI, hk] at g; dsimp only at g; omega
  · rw [zK_sI, hk] at g; dsimp only at g; omega
  · rw [e1, hx9]
    rw [arrV_store, hcl, zK_sI, hk]
    congr 2
    funext j
    show _ = Value.int (iI (up2 σ.2.2.1 a i.toNat x a j))
    rw [up2_row]
    by_cases hj : j = i.toNat <;> simp [updV, hj, zI]
  · rw [zK_sI, hk] at g; dsimp only at g; omega
theorem zW_cast {a n : Nat} {i x : Int} (d : decode (mB M) pc = .ok (.castore, 1)) (hk : zK σ a = (12, n)) (hn : n ≤ 2147483647) (h0 : 0 ≤ i) (h1 : i < n) (hx9 : narrow .char (.int (iI x)) = .int (iI x)) (k : zW Γ M (pc + 1) lo st (sI σ a i.toNat x) cu su Q) : zW Γ M pc lo (vI x :: vI i :: vR (some a) :: st) σ cu su Q := by
  intro l p e s m args below meth c H locs ls hl C hS hH hL
  obtain ⟨⟨hx, hb, hml, hown, hts⟩, hret, hlk, htab, hnam, hKK, hBs⟩ := id C
  have hc := (hH.1 a).2.2.1 (by rw [hk]; unfold zInt; simp)
  rw [hk] at hc
  obtain ⟨hin, hcl⟩ := zin hn h0 h1
  have hA : zA Γ a := hH.2.2 a (by rw [hk]; show 12 < 19; decide)
  refine W.cast hx hb hc ((hKK.arr (K := 12) (by decide) (by decide)).1 n _) (fun q => by cases q) (by rw [arrV_size]; exact hin) rfl rfl d (fun H' e1 e2 e3 => k l p e s m args below meth c H' _ ls hl C (hS.put e2 e3 hA) (zH_put hH rfl rfl (fun b hb j => ⟨rfl, up2_ne hb, rfl, rfl⟩) e2 e3 ⟨fun g => ?_, fun g => ?_, fun _ => ?_, fun g => ?_⟩) hL)
  · rw [zK_sI, hk] at g; dsimp only at g; omega
  · rw [zK_sI, hk] at g; dsimp only at g; omega
  · rw [e1, hx9]
    rw [arrV_store, hcl, zK_sI, hk]
    congr 2
    funext j
    show _ = Value.int (iI (up2 σ.2.2.1 a i.toNat x a j))
    rw [up2_row]
    by_cases hj : j = i.toNat <;> simp [updV, hj, zI]
  · rw [zK_sI, hk] at g; dsimp only at g; omega
theorem zW_zast {a n : Nat} {i x : Int} (d : decode (mB M) pc = .ok (.bastore, 1)) (hk : zK σ a = (15, n)) (hn : n ≤ 2147483647) (h0 : 0 ≤ i) (h1 : i < n) (hx9 : narrow .boolean (.int (iI x)) = .int (iI x)) (k : zW Γ M (pc + 1) lo st (sI σ a i.toNat x) cu su Q) : zW Γ M pc lo (vI x :: vI i :: vR (some a) :: st) σ cu su Q := by
  intro l p e s m args below meth c H locs ls hl C hS hH hL
  obtain ⟨⟨hx, hb, hml, hown, hts⟩, hret, hlk, htab, hnam, hKK, hBs⟩ := id C
  have hc := (hH.1 a).2.2.1 (by rw [hk]; unfold zInt; simp)
  rw [hk] at hc
  obtain ⟨hin, hcl⟩ := zin hn h0 h1
  have hA : zA Γ a := hH.2.2 a (by rw [hk]; show 15 < 19; decide)
  refine W.zast hx hb hc ((hKK.arr (K := 15) (by decide) (by decide)).1 n _) (fun q => by cases q) (by rw [arrV_size]; exact hin) rfl rfl d (fun H' e1 e2 e3 => k l p e s m args below meth c H' _ ls hl C (hS.put e2 e3 hA) (zH_put hH rfl rfl (fun b hb j => ⟨rfl, up2_ne hb, rfl, rfl⟩) e2 e3 ⟨fun g => ?_, fun g => ?_, fun _ => ?_, fun g => ?_⟩) hL)
  · rw [zK_sI, hk] at g; dsimp only at g; omega
  · rw [zK_sI, hk] at g; dsimp only at g; omega
  · rw [e1, hx9]
    rw [arrV_store, hcl, zK_sI, hk]
    congr 2
    funext j
    show _ = Value.int (iI (up2 σ.2.2.1 a i.toNat x a j))
    rw [up2_row]
    by_cases hj : j = i.toNat <;> simp [updV, hj, zI]
  · rw [zK_sI, hk] at g; dsimp only at g; omega
theorem zW_last {a n : Nat} {i x : Int} (d : decode (mB M) pc = .ok (.lastore, 1)) (hk : zK σ a = (14, n)) (hn : n ≤ 2147483647) (h0 : 0 ≤ i) (h1 : i < n) (k : zW Γ M (pc + 1) lo st (sJ σ a i.toNat x) cu su Q) : zW Γ M pc lo (vJ x :: vI i :: vR (some a) :: st) σ cu su Q := by
  intro l p e s m args below meth c H locs ls hl C hS hH hL
  obtain ⟨⟨hx, hb, hml, hown, hts⟩, hret, hlk, htab, hnam, hKK, hBs⟩ := id C
  have hc := (hH.1 a).2.1 (by rw [hk])
  rw [hk] at hc
  obtain ⟨hin, hcl⟩ := zin hn h0 h1
  have hA : zA Γ a := hH.2.2 a (by rw [hk]; show 14 < 19; decide)
  refine W.last hx hb hc ((hKK.arr (K := 14) (by decide) (by decide)).1 n _) (fun q => by cases q) (by rw [arrV_size]; exact hin) rfl rfl d (fun H' e1 e2 e3 => k l p e s m args below meth c H' _ ls hl C (hS.put e2 e3 hA) (zH_put hH rfl rfl (fun b hb j => ⟨rfl, rfl, up2_ne hb, rfl⟩) e2 e3 ⟨fun g => ?_, fun _ => ?_, fun g => ?_, fun g => ?_⟩) hL)
  · rw [zK_sJ, hk] at g; dsimp only at g; omega
  · rw [e1, arrV_store, hcl, zK_sJ, hk]
    congr 2
    funext j
    show _ = Value.long (jJ (up2 σ.2.2.2.1 a i.toNat x a j))
    rw [up2_row]
    by_cases hj : j = i.toNat <;> simp [updV, hj, zJ]
  · rw [zK_sJ, hk] at g; unfold zInt at g; dsimp only at g; omega
  · rw [zK_sJ, hk] at g; dsimp only at g; omega
theorem zTy_cl : zTy 16 = .object (zcN 2) ∧ zTy 17 = .object (zcN 7) ∧ zTy 18 = .object (zcN 8) := ⟨rfl, rfl, rfl⟩
theorem zW_aast {a K n v ci : Nat} {i : Int} (d : decode (mB M) pc = .ok (.aastore, 1)) (hk : zK σ a = (K, n)) (hK1 : 16 ≤ K) (hK2 : K < 19) (hn : n ≤ 2147483647) (h0 : 0 ≤ i) (h1 : i < n) (hv : (zK σ v).1 = ci) (hci : ci < 11) (hty : zTy K = .object (zcN ci)) (k : zW Γ M (pc + 1) lo st (sP σ a i.toNat (some v)) cu su Q) : zW Γ M pc lo (vR (some v) :: vI i :: vR (some a) :: st) σ cu su Q := by
  intro l p e s m args below meth c H locs ls hl C hS hH hL
  obtain ⟨⟨hx, hb, hml, hown, hts⟩, hret, hlk, htab, hnam, hKK, hBs⟩ := id C
  have hc := (hH.1 a).2.2.2 (by rw [hk]; exact hK1) (by rw [hk]; exact hK2)
  rw [hk] at hc
  obtain ⟨hin, hcl⟩ := zin hn h0 h1
  have hA : zA Γ a := hH.2.2 a (by rw [hk]; show K < 19; exact hK2)
  subst hv
  obtain ⟨cellV, g1, g2, g3, -⟩ := (hH.1 v).1 hci
  have hcls := (hKK.1 _ _ (zcl_vw _ hci)).2
  have hra := (hKK.arr (K := K) (by omega) hK2).2
  rw [hty] at hra
  obtain ⟨kA, comp, k1, k2, k3, -⟩ := hra
  have hcomp : comp = gC Γ (zK σ v).1 := Option.some.inj (k3.symm.trans hcls.1)
  subst hcomp
  obtain ⟨kC, hkC, -⟩ := hcls.2
  refine W.aast hx hb hc (fun q h => by cases h) (fun h => by cases h) k1 k2 rfl hkC ⟨fun q => hin (Or.inl q), by rw [arrV_size]; exact Nat.not_le.mp fun q => hin (Or.inr q)⟩ g1 (fun q h => by rw [g3] at h; cases h) (by rw [g2]; exact hkC) (by rw [g2]; exact va_assign hcls) rfl rfl d (fun H' e1 e2 e3 => k l p e s m args below meth c H' _ ls hl C (hS.put e2 e3 hA) (zH_put hH rfl rfl (fun b hb j => ⟨rfl, rfl, rfl, up2_ne hb⟩) e2 e3 ⟨fun g => ?_, fun g => ?_, fun g => ?_, fun _ _ => ?_⟩) hL)
  · rw [zK_sP, hk] at g; exact absurd g (by show ¬ K < 11; omega)
  · rw [zK_sP, hk] at g; exact absurd g (by show ¬ K = 14; omega)
  · rw [zK_sP, hk] at g; exact absurd g (by unfold zInt; show ¬ (K = 11 ∨ K = 12 ∨ K = 13 ∨ K = 15); omega)
  · rw [e1, arrV_store, hcl, zK_sP, hk]
    congr 2
    funext j
    show _ = va_rf (up2 σ.2.2.2.2.1 a i.toNat (some v) a j)
    rw [up2_row]
    by_cases hj : j = i.toNat <;> simp [updV, hj, zP, va_rf]
theorem zW_alen {a K n : Nat} (d : decode (mB M) pc = .ok (.arraylength, 1)) (hk : zK σ a = (K, n)) (hK1 : 11 ≤ K) (hK2 : K < 19) (k : zW Γ M (pc + 1) lo (vI n :: st) σ cu su Q) : zW Γ M pc lo (vR (some a) :: st) σ cu su Q := by
  intro l p e s m args below meth c H locs ls hl C hS hH hL
  obtain ⟨⟨hx, hb, hml, hown, hts⟩, hret, hlk, htab, hnam, hKK, hBs⟩ := id C
  obtain ⟨f, hc⟩ : ∃ f, H[a]? = some (arrV (gD Γ K) n f) := by
    rcases (by omega : (K = 11 ∨ K = 12 ∨ K = 13 ∨ K = 15) ∨ K = 14 ∨ 16 ≤ K) with r | r | r
    · have := (hH.1 a).2.2.1 (by rw [hk]; exact r)
      rw [hk] at this; exact ⟨_, this⟩
    · have := (hH.1 a).2.1 (by rw [hk]; exact r)
      rw [hk, ← r] at this; exact ⟨_, this⟩
    · have := (hH.1 a).2.2.2 (by rw [hk]; exact r) (by rw [hk]; exact hK2)
      rw [hk] at this; exact ⟨_, this⟩
  exact W.alen (n := iI n) hx hb hc ((hKK.arr (K := K) hK1 hK2).1 n _) (by rw [arrV_size]; rfl) rfl rfl d (k l p e s m args below meth c H locs ls hl C hS hH hL)
/-- the script's own places -/
theorem zW_sld {i : Int} (d : decode (mB M) pc = .ok (.iaload, 1)) (hn : gL Γ ≤ 2147483647) (h0 : 0 ≤ i) (h1 : i < gL Γ) (k : zW Γ M (pc + 1) lo (vI (gx Γ i.toNat).toInt :: st) σ cu su Q) : zW Γ M pc lo (vI i :: vR (some (gb Γ)) :: st) σ cu su Q := by
  intro l p e s m args below meth c H locs ls hl C hS hH hL
  obtain ⟨⟨hx, hb, hml, hown, hts⟩, hret, hlk, htab, hnam, hKK, hBs⟩ := id C
  obtain ⟨-, -, -, -, -, -, hX, hbB, hBz, -⟩ := hBs
  obtain ⟨hin, hcl⟩ := zin hn h0 h1
  have h9 := (k l p e s m args below meth c H locs ls hl C hS hH hL)
  rw [List.map_cons, toV_I, iI_of, ← hcl] at h9
  exact va_sld hx hb hX (by omega) (by unfold zA; omega) hS hin d h9
theorem zW_slen (d : decode (mB M) pc = .ok (.arraylength, 1)) (k : zW Γ M (pc + 1) lo (vI (gL Γ) :: st) σ cu su Q) : zW Γ M pc lo (vR (some (gb Γ)) :: st) σ cu su Q := by
  intro l p e s m args below meth c H locs ls hl C hS hH hL
  obtain ⟨⟨hx, hb, hml, hown, hts⟩, hret, hlk, htab, hnam, hKK, hBs⟩ := id C
  obtain ⟨-, -, -, -, -, -, hX, hbB, hBz, -⟩ := hBs
  exact va_slen hx hb hX (by omega) (by unfold zA; omega) hS d (k l p e s m args below meth c H locs ls hl C hS hH hL)
theorem zH_new {H H' : Heap} {K : Nat × Nat} (h : zH Γ σ H) (hBz : gB Γ ≤ H.size) (hz : H'.size = H.size + 1) (hq : ∀ q : Nat, q < H.size → H'[q]? = H[q]?) (ha : zCell Γ (sNew σ K) H' H.size) : zH Γ (sNew σ K) H' := by
  have hn : zN σ = H.size := h.2.1.symm
  have key : ∀ b : Nat, b ≠ H.size → zK (sNew σ K) b = zK σ b := fun b hb => by
    show (if b = zN σ then K else σ.1 b) = σ.1 b
    rw [if_neg (by rw [hn]; exact hb)]
  refine ⟨fun b => ?_, by rw [hz, h.2.1]; rfl, fun a ha => ?_⟩
  · by_cases hb : b = H.size
    · rw [hb]; exact ha
    · have hcell := h.1 b
      by_cases hlt : b < H.size
      · refine zCell_keep (key b hb) (fun k => ?_) (fun k => ?_) (fun k => ?_) (fun k => ?_) (hq b hlt) hcell
        · rw [zO_sNew, if_neg (by rw [hn]; exact hb)]
        · rw [zI_sNew, if_neg (by rw [hn]; exact hb)]
        · rw [zJ_sNew, if_neg (by rw [hn]; exact hb)]
        · rw [zP_sNew, if_neg (by rw [hn]; exact hb)]
      · have h9 : H[b]? = none := by simp; omega
        unfold zCell
        rw [key b hb]
        obtain ⟨c1, c2, c3, c4⟩ := hcell
        refine ⟨fun g => ?_, fun g => ?_, fun g => ?_, fun g g' => ?_⟩
        · obtain ⟨cell, q1, -⟩ := c1 g
          rw [h9] at q1; cases q1
        · have := c2 g
          rw [h9] at this; cases this
        · have := c3 g
          rw [h9] at this; cases this
        · have := c4 g g'
          rw [h9] at this; cases this
  · by_cases hb : a = H.size
    · rw [hb]; exact hBz
    · rw [key a hb] at ha
      exact h.2.2 a ha
theorem va_S_new {A : Nat → Prop} {H0 H H' : Heap} {locs : List Loc} (h : va_S A H0 H locs) (hz : H'.size = H.size + 1) (hq : ∀ q : Nat, q < H.size → H'[q]? = H[q]?) : va_S A H0 H' locs :=
  ⟨Nat.le_trans h.1 (by omega), fun q h1 h2 => (hq q (Nat.lt_of_lt_of_le h1 h.1)).trans (h.2.1 q h1 h2), h.2.2⟩
theorem zW_new {idx ci : Nat} (d : decode (mB M) pc = .ok (.new idx, 3)) (hci : ci < 11) (hcl : Cond.classLink (mY M).cls idx (zcN ci) ∈ BIG) (hins : Cond.instantiable (zcN ci) (zcn ci) ∈ BIG) (hini : Cond.initialized (zcN ci) ∈ BIG) (hcu : cu + 1 ≤ mC M) (hsu : su + zcn ci ≤ mS M) (k : zW Γ M (pc + 3) lo (vR (some (zN σ)) :: st) (sNew σ (ci, 0)) (cu + 1) (su + zcn ci) Q) : zW Γ M pc lo st σ cu su Q := by
  intro l p e s m args below meth c H locs ls hl C hS hH hL
  obtain ⟨⟨hx, hb, hml, hown, hts⟩, hret, hlk, htab, hnam, hKK, hBs⟩ := id C
  have hKn := hKK.1 _ _ (zcl_vw _ hci)
  have hBz : gB Γ ≤ H.size := Nat.le_trans hBs.2.2.2.2.2.2.2.2.1 hS.1
  have hn : zN σ = H.size := hH.2.1.symm
  refine W.newcK hx hb hown (hts _ hcl) (hts _ hins) (hts _ hini) rfl d hcu hsu hKn.2.1 rfl fun H1 kC hkC e1 z1 o1 => ?_
  have h9 := k l p e s m args below meth c H1 locs ls hl C (va_S_new hS z1 o1) (zH_new hH hBz z1 o1 ⟨fun g => ?_, fun g => ?_, fun g => ?_, fun g => ?_⟩) hL
  · rw [List.map_cons, toV_R, hn] at h9
    exact h9
  all_goals have hk : zK (sNew σ (ci, 0)) H.size = (ci, 0) := (show (if H.size = zN σ then (ci, 0) else σ.1 H.size) = (ci, 0) by rw [if_pos hn.symm])
  · rw [hk]
    have hb2 := u_born (zct ci) hts (zcl_ws _ hci) hKn hkC e1 (zcl_ty _ hci)
    show t_OB H.size (gC Γ ci) (zNF ci) (gS Γ ci) H1 (zV (sNew σ (ci, 0)) H.size ci)
    rw [zcl_n _ hci]
    refine hb2.to fun j hj => ?_
    have hz0 : zO (sNew σ (ci, 0)) H.size j = 0 := by rw [zO_sNew, if_pos hn.symm]
    have hp0 : zP (sNew σ (ci, 0)) H.size j = none := (by rw [zP_sNew, if_pos hn.symm])
    unfold zV
    rw [hz0, hp0]
    exact zborn ci hci j hj
  · rw [hk] at g; exact absurd g (by show ¬ ci = 14; omega)
  · rw [hk] at g; exact absurd g (by unfold zInt; show ¬ (ci = 11 ∨ ci = 12 ∨ ci = 13 ∨ ci = 15); omega)
  · rw [hk] at g; exact absurd g (by show ¬ 16 ≤ ci; omega)
theorem zW_newa {K : Nat} {n : Int} {at9 : ArrayType} (d : decode (mB M) pc = .ok (.newarray at9, 2)) (hK : (at9 = .byte ∧ K = 11) ∨ (at9 = .char ∧ K = 12) ∨ (at9 = .int ∧ K = 13) ∨ (at9 = .long ∧ K = 14) ∨ (at9 = .boolean ∧ K = 15)) (harr : Cond.arrayClass (newarray.typeOf at9) ∈ BIG) (h0 : 0 ≤ n) (h1 : n ≤ 1000000) (hcu : cu + 1 ≤ mC M) (hsu : su + n.toNat ≤ mS M) (k : zW Γ M (pc + 2) lo (vR (some (zN σ)) :: st) (sNew σ (K, n.toNat)) (cu + 1) (su + n.toNat) Q) : zW Γ M pc lo (vI n :: st) σ cu su Q := by
  intro l p e s m args below meth c H locs ls hl C hS hH hL
  obtain ⟨⟨hx, hb, hml, hown, hts⟩, hret, hlk, htab, hnam, hKK, hBs⟩ := id C
  have hBz : gB Γ ≤ H.size := Nat.le_trans hBs.2.2.2.2.2.2.2.2.1 hS.1
  have hn : zN σ = H.size := hH.2.1.symm
  have hty : newarray.typeOf at9 = zTy K := by
    rcases hK with ⟨rfl, rfl⟩ | ⟨rfl, rfl⟩ | ⟨rfl, rfl⟩ | ⟨rfl, rfl⟩ | ⟨rfl, rfl⟩ <;> rfl
  have hK1 : 11 ≤ K := by omega
  have hK2 : K < 16 := by omega
  have hcb : componentBytes (newarray.typeOf at9) ≤ 8 := by
    rcases hK with ⟨rfl, rfl⟩ | ⟨rfl, rfl⟩ | ⟨rfl, rfl⟩ | ⟨rfl, rfl⟩ | ⟨rfl, rfl⟩ <;> decide
  have hr : InR n := ⟨by omega, by omega⟩
  have hnn : (iI n).toNatClampNeg = n.toNat := by
    show (iI n).toInt.toNat = _
    rw [iI_toInt hr]
  refine va_newaK hx hb (hts _ harr) rfl d rfl (fun q => by have := (iI_lt hr InR_0).mp q; omega) hnn (by have := Nat.mul_le_mul (show n.toNat ≤ 1000000 by omega) hcb; omega) hcu hsu rfl fun H1 cA e1 z1 o1 hAr hNm => ?_
  have hcA : cA = gD Γ K := by
    have h8 := (hKK.arr (K := K) hK1 (by omega)).2
    rw [hty] at hNm
    have h7 : s.vm.findClass ("[" ++ (zTy K).toString) = some (gD Γ K) := by
      rcases hK with ⟨rfl, rfl⟩ | ⟨rfl, rfl⟩ | ⟨rfl, rfl⟩ | ⟨rfl, rfl⟩ | ⟨rfl, rfl⟩ <;> exact h8
    exact Option.some.inj (hNm.symm.trans h7)
  subst hcA
  have h9 := k l p e s m args below meth c H1 locs ls hl C (va_S_new hS z1 o1) (zH_new hH hBz z1 o1 ⟨fun g => ?_, fun g => ?_, fun g => ?_, fun g => ?_⟩) hL
  · rw [List.map_cons, toV_R, hn] at h9
    exact h9
  all_goals have hk : zK (sNew σ (K, n.toNat)) H.size = (K, n.toNat) := (show (if H.size = zN σ then (K, n.toNat) else σ.1 H.size) = (K, n.toNat) by rw [if_pos hn.symm])
  · rw [hk] at g; exact absurd g (by show ¬ K < 11; omega)
  · rw [hk] at g ⊢
    have g' : K = 14 := g
    subst g'
    rw [e1]
    congr 2
    funext j
    have hz0 : zJ (sNew σ (14, n.toNat)) H.size j = 0 := (by rw [zJ_sNew, if_pos hn.symm])
    rw [hz0, hty]
    rfl
  · rw [hk] at g ⊢
    rw [e1]
    congr 2
    funext j
    have hz0 : zI (sNew σ (K, n.toNat)) H.size j = 0 := (by rw [zI_sNew, if_pos hn.symm])
    rw [hz0, hty]
    rcases g with g | g | g | g <;> (have g' : K = _ := g; subst g'; rfl)
  · rw [hk] at g; exact absurd g (by show ¬ 16 ≤ K; omega)
theorem zW_newq {idx ci K : Nat} {n : Int} (d : decode (mB M) pc = .ok (.anewarray idx, 3)) (hci : ci < 11) (hK1 : 16 ≤ K) (hK2 : K < 19) (hty : zTy K = .object (zcN ci)) (hcl : Cond.classLink (mY M).cls idx (zcN ci) ∈ BIG) (hov : zcN ci ∈ zAO) (h0 : 0 ≤ n) (h1 : n ≤ 1000000) (hcu : cu + 1 ≤ mC M) (hsu : su + n.toNat ≤ mS M) (k : zW Γ M (pc + 3) lo (vR (some (zN σ)) :: st) (sNew σ (K, n.toNat)) (cu + 1) (su + n.toNat) Q) : zW Γ M pc lo (vI n :: st) σ cu su Q := by
  intro l p e s m args below meth c H locs ls hl C hS hH hL
  obtain ⟨⟨hx, hb, hml, hown, hts⟩, hret, hlk, htab, hnam, hKK, hBs⟩ := id C
  have hBz : gB Γ ≤ H.size := Nat.le_trans hBs.2.2.2.2.2.2.2.2.1 hS.1
  have hn : zN σ = H.size := hH.2.1.symm
  have hr : InR n := ⟨by omega, by omega⟩
  have hnn : (iI n).toNatClampNeg = n.toNat := by
    show (iI n).toInt.toNat = _
    rw [iI_toInt hr]
  refine W.anew hx hb hown (hts _ hcl) (va_AO.use (hBs.2.2.2.2.2.2.2.2.2.1 _ hov)) rfl d rfl (fun q => by have := (iI_lt hr InR_0).mp q; omega) (by rw [hnn]; omega) hcu (by rw [hnn]; exact hsu) fun cA kA comp f1 f2 f3 f4 => ?_
  rw [hnn]
  generalize hH1 : H.push ({ cls := cA, slots := Array.replicate n.toNat .null, vm := .none } : Cell) = H1
  have z1 : H1.size = H.size + 1 := by rw [← hH1, Array.size_push]
  have e1 : H1[H.size]? = some (arrV cA n.toNat (fun _ => .null)) := by rw [← hH1, Array.getElem?_push_size, ← arrV_new]
  have o1 : ∀ q : Nat, q < H.size → H1[q]? = H[q]? := fun q hq => by rw [← hH1, Array.getElem?_push, if_neg (Nat.ne_of_lt hq)]
  have hcA : cA = gD Γ K := by
    have h8 := (hKK.arr (K := K) (by omega) hK2).2
    rw [hty] at h8
    obtain ⟨kA2, comp2, k1, k2, k3, k4⟩ := h8
    exact Option.some.inj (f1.symm.trans k4)
  subst hcA
  have h9 := k l p e s m args below meth c H1 locs ls hl C (va_S_new hS z1 o1) (zH_new hH hBz z1 o1 ⟨fun g => ?_, fun g => ?_, fun g => ?_, fun g g' => ?_⟩) hL
  · rw [List.map_cons, toV_R, hn] at h9
    exact h9
  all_goals have hk : zK (sNew σ (K, n.toNat)) H.size = (K, n.toNat) := (show (if H.size = zN σ then (K, n.toNat) else σ.1 H.size) = (K, n.toNat) by rw [if_pos hn.symm])
  · rw [hk] at g; exact absurd g (by show ¬ K < 11; omega)
  · rw [hk] at g; exact absurd g (by show ¬ K = 14; omega)
  · rw [hk] at g; exact absurd g (by unfold zInt; show ¬ (K = 11 ∨ K = 12 ∨ K = 13 ∨ K = 15); omega)
  · rw [hk, e1]
    congr 2
    funext j
    have hp0 : zP (sNew σ (K, n.toNat)) H.size j = none := (by rw [zP_sNew, if_pos hn.symm])
    rw [hp0]
    rfl
end ZROWS3
