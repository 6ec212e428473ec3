/-! the law's wrappers -/
def nrm (v : Int) : Int := (iI v).toInt
def nrmL (v : Int) : Int := (jJ v).toInt
def bln (v : Int) : Int := if nrm v = 0 then 0 else 1
set_option maxRecDepth 100000 in
theorem nrm_in (v : Int) : InR (nrm v) := InR_of _
set_option maxRecDepth 100000 in
theorem nrmL_in (v : Int) : InL (nrmL v) := InL_of _
def lzz (x z : Nat) : Nat → Prop := fun a => xr x a ∨ a = z
section LROWS
variable {Γ : GG} {M M' : MT} {pc : Nat} {lo : List (Option AV)} {st : List AV} {σ σ' : HS} {cu su : Nat} {Q : Res → HS → Prop} {x z : Nat} {A : AA} {v : Int}
set_option maxRecDepth 100000 in
theorem zW_nrm (k : zW Γ M pc lo (vI (nrm v) :: st) σ cu su Q) : zW Γ M pc lo (vI v :: st) σ cu su Q := by
  intro l p e s m args below meth c H locs ls hl C hS hH hL
  have h := k l p e s m args below meth c H locs ls hl C hS hH hL
  have e9 : toV (vI (nrm v)) = toV (vI v) := congrArg Value.int (iI_of (iI v))
  rw [List.map_cons, e9, ← List.map_cons] at h
  exact h
set_option maxRecDepth 100000 in
theorem zW_nrmL (k : zW Γ M pc lo (vJ (nrmL v) :: st) σ cu su Q) : zW Γ M pc lo (vJ v :: st) σ cu su Q := by
  intro l p e s m args below meth c H locs ls hl C hS hH hL
  have h := k l p e s m args below meth c H locs ls hl C hS hH hL
  have e9 : toV (vJ (nrmL v)) = toV (vJ v) := congrArg Value.long (jJ_of (jJ v))
  rw [List.map_cons, e9, ← List.map_cons] at h
  exact h
set_option maxRecDepth 100000 in
theorem CI.lz (h : CI σ x A) (hz : z < x ∨ x + 521 ≤ z) : CI (sJ σ z 0 v) x A := h.out (Md.J (P := fun a => a = z) rfl) (fun a a1 a2 e => by omega)
set_option maxRecDepth 100000 in
theorem Mx.lz (m : Mx σ σ' (xr x)) : Mx σ (sJ σ' z 0 v) (lzz x z) := Mx.tr (fun a ha => m a (fun q => ha (Or.inl q))) (fun a ha => ⟨rfl, rfl, rfl, funext fun j => zJ_sJa σ' 0 j v (fun q => ha (Or.inr q)), rfl⟩)
set_option maxRecDepth 100000 in
theorem Mx.lz0 (m : Mx σ σ' (xr x)) : Mx σ σ' (lzz x z) := fun a ha => m a (fun q => ha (Or.inl q))
set_option maxRecDepth 100000 in
theorem zhV0 {idx a ci m9 : Nat} (d : decode (mB M) pc = .ok (.invokevirtual idx, 3)) (hh : mH M' = []) (he : zCeV M' 0) (hlk : Cond.methodLink (mY M).cls idx (mY M') ∈ BIG) (hrm : zRm M M' cu su) (_ : True = True) (hk : zK σ a = (ci, m9)) (hC : (mY M').cls = zcN ci) (hci : ci < 11) (hcat : zcat st ≤ 8) (k : zM Γ M' (vR (some a) :: []) σ (zc Γ M pc lo st (cu + mC M') (su + mS M') Q)) : zW Γ M pc lo (vR (some a) :: st) σ cu su Q :=
  zW_callV (av := []) d hh he hlk hrm rfl rfl hcat (by rw [hk]) hci hC k
set_option maxRecDepth 100000 in
theorem zhV1 {idx a ci m9 : Nat} {x0 : AV} (d : decode (mB M) pc = .ok (.invokevirtual idx, 3)) (hh : mH M' = []) (he : zCeV M' 1) (hlk : Cond.methodLink (mY M).cls idx (mY M') ∈ BIG) (hrm : zRm M M' cu su) (_ : True = True) (hk : zK σ a = (ci, m9)) (hC : (mY M').cls = zcN ci) (hci : ci < 11) (hcat : zcat st ≤ 8) (k : zM Γ M' (vR (some a) :: [x0]) σ (zc Γ M pc lo st (cu + mC M') (su + mS M') Q)) : zW Γ M pc lo (x0 :: vR (some a) :: st) σ cu su Q :=
  zW_callV (av := [x0]) d hh he hlk hrm rfl rfl hcat (by rw [hk]) hci hC k
set_option maxRecDepth 100000 in
theorem zhV2 {idx a ci m9 : Nat} {x0 x1 : AV} (d : decode (mB M) pc = .ok (.invokevirtual idx, 3)) (hh : mH M' = []) (he : zCeV M' 2) (hlk : Cond.methodLink (mY M).cls idx (mY M') ∈ BIG) (hrm : zRm M M' cu su) (_ : True = True) (hk : zK σ a = (ci, m9)) (hC : (mY M').cls = zcN ci) (hci : ci < 11) (hcat : zcat st ≤ 8) (k : zM Γ M' (vR (some a) :: [x0, x1]) σ (zc Γ M pc lo st (cu + mC M') (su + mS M') Q)) : zW Γ M pc lo (x1 :: x0 :: vR (some a) :: st) σ cu su Q :=
  zW_callV (av := [x0, x1]) d hh he hlk hrm rfl rfl hcat (by rw [hk]) hci hC k
set_option maxRecDepth 100000 in
theorem zhV3 {idx a ci m9 : Nat} {x0 x1 x2 : AV} (d : decode (mB M) pc = .ok (.invokevirtual idx, 3)) (hh : mH M' = []) (he : zCeV M' 3) (hlk : Cond.methodLink (mY M).cls idx (mY M') ∈ BIG) (hrm : zRm M M' cu su) (_ : True = True) (hk : zK σ a = (ci, m9)) (hC : (mY M').cls = zcN ci) (hci : ci < 11) (hcat : zcat st ≤ 8) (k : zM Γ M' (vR (some a) :: [x0, x1, x2]) σ (zc Γ M pc lo st (cu + mC M') (su + mS M') Q)) : zW Γ M pc lo (x2 :: x1 :: x0 :: vR (some a) :: st) σ cu su Q :=
  zW_callV (av := [x0, x1, x2]) d hh he hlk hrm rfl rfl hcat (by rw [hk]) hci hC k
set_option maxRecDepth 100000 in
theorem zhV4 {idx a ci m9 : Nat} {x0 x1 x2 x3 : AV} (d : decode (mB M) pc = .ok (.invokevirtual idx, 3)) (hh : mH M' = []) (he : zCeV M' 4) (hlk : Cond.methodLink (mY M).cls idx (mY M') ∈ BIG) (hrm : zRm M M' cu su) (_ : True = True) (hk : zK σ a = (ci, m9)) (hC : (mY M').cls = zcN ci) (hci : ci < 11) (hcat : zcat st ≤ 8) (k : zM Γ M' (vR (some a) :: [x0, x1, x2, x3]) σ (zc Γ M pc lo st (cu + mC M') (su + mS M') Q)) : zW Γ M pc lo (x3 :: x2 :: x1 :: x0 :: vR (some a) :: st) σ cu su Q :=
  zW_callV (av := [x0, x1, x2, x3]) d hh he hlk hrm rfl rfl hcat (by rw [hk]) hci hC k
set_option maxRecDepth 100000 in
theorem zhV5 {idx a ci m9 : Nat} {x0 x1 x2 x3 x4 : AV} (d : decode (mB M) pc = .ok (.invokevirtual idx, 3)) (hh : mH M' = []) (he : zCeV M' 5) (hlk : Cond.methodLink (mY M).cls idx (mY M') ∈ BIG) (hrm : zRm M M' cu su) (_ : True = True) (hk : zK σ a = (ci, m9)) (hC : (mY M').cls = zcN ci) (hci : ci < 11) (hcat : zcat st ≤ 8) (k : zM Γ M' (vR (some a) :: [x0, x1, x2, x3, x4]) σ (zc Γ M pc lo st (cu + mC M') (su + mS M') Q)) : zW Γ M pc lo (x4 :: x3 :: x2 :: x1 :: x0 :: vR (some a) :: st) σ cu su Q :=
  zW_callV (av := [x0, x1, x2, x3, x4]) d hh he hlk hrm rfl rfl hcat (by rw [hk]) hci hC k
set_option maxRecDepth 100000 in
theorem on_append {v0 v1 v2 v3 v4 : Int} : (o_append A v0 v1 v2 v3 v4).1 ≤ 1 := by
  unfold o_append
  try unfold g2
  try unfold g1
  try unfold gg2
  try unfold gg1
  try unfold o_store
  repeat' split
  all_goals first | exact Nat.zero_le _ | decide | (show (1 : Nat) ≤ _; decide) | (show (2 : Nat) ≤ _; decide) | (show (3 : Nat) ≤ _; decide)
set_option maxRecDepth 100000 in
theorem l_append {v0 v1 v2 v3 v4 : Int} (h : CI σ x A) (hz : zK σ z = (14, 1)) (hzx : z < x ∨ x + 521 ≤ z) (hQ : ∀ σ', CI σ' x (o_append A v0 v1 v2 v3 v4).2.2 → Mx σ σ' (lzz x z) → zK σ' z = (14, 1) → ((o_append A v0 v1 v2 v3 v4).1 = 0 → zJ σ' z 0 = nrm (o_append A v0 v1 v2 v3 v4).2.1) → Q (.inl (some (vI ((o_append A v0 v1 v2 v3 v4).1 : Nat)))) σ') : zM Γ mL_append [vR (some x), vI v0, vI v1, vI v2, vI v3, vI v4, vR (some z)] σ Q := by
  have on := on_append (A := A) (v0 := v0) (v1 := v1) (v2 := v2) (v3 := v3) (v4 := v4)
  refine zM_ofH (n := 1) (by decide +kernel) rfl rfl rfl ?_
  refine zW_aload dL_append_0 rfl ?_
  refine zW_iconst dL_append_2 ?_
  refine zW_aload_n dL_append_3 rfl ?_
  refine zW_iload_n dL_append_4 rfl ?_
  refine zW_iload_n dL_append_5 rfl ?_
  refine zW_iload_n dL_append_6 rfl ?_
  refine zW_iload dL_append_7 rfl ?_
  refine zW_iload dL_append_9 rfl ?_
  refine zhV5 dL_append_11 rfl eX9_append b521 ⟨by decide, by decide, by decide, by decide⟩ rfl h.xk.1 rfl (by decide) (Nat.le_of_ble_eq_true rfl) (c_append h (fun σ1 h1 m1 => ?_))
  have hz1 : zK σ1 z = (14, 1) := by rw [(m1 z (fun q => by unfold xr at q; omega)).1]; exact hz
  generalize o_append A v0 v1 v2 v3 v4 = o at h1 hQ on ⊢
  obtain ⟨n9, v9, A9⟩ := o
  match n9, on with
  | 0, _ =>
    show zW Γ mL_append 14 _ _ _ _ _ Q
    refine zW_nrm ?_
    have hv := nrm_in v9
    refine zW_i2l dL_append_14 (by first | assumption | omega | (unfold InR; omega) | (unfold InL; omega) | (simp only [InR] at *; omega)) ?_
    refine zW_last dL_append_15 hz1 (by first | assumption | omega | (unfold InR; omega) | (unfold InL; omega) | (simp only [InR] at *; omega)) (by first | assumption | omega | (unfold InR; omega) | (unfold InL; omega) | (simp only [InR] at *; omega)) (by first | assumption | omega | (unfold InR; omega) | (unfold InL; omega) | (simp only [InR] at *; omega)) ?_
    refine zW_goto (tgt := 23) dL_append_16 (by decide) ?_
    refine zW_iconst dL_append_23 ?_
    refine zW_ireturn dL_append_24 rfl rfl (by first | decide | (show _ ≤ (1 : Nat); omega)) (by first | decide | (show _ ≤ (6 : Nat); omega)) ?_
    exact hQ _ (h1.lz hzx) m1.lz hz1 (fun _ => zJ_sJs _ _ _ _)
  | 1, _ =>
    refine zWx_catch (E := eS) (pre := []) (suf := []) (x := (0, 16, 19, 13)) rfl (fun z9 q9 => by cases q9) (by decide) (by decide) (by decide) b520 (by decide) (fun q => ?_)
    refine zW_astore dL_append_19 (by decide) rfl rfl ?_
    refine zW_iconst dL_append_21 ?_
    refine zW_ireturn dL_append_22 rfl rfl (by first | decide | (show _ ≤ (1 : Nat); omega)) (by first | decide | (show _ ≤ (6 : Nat); omega)) ?_
    exact hQ σ1 h1 m1.lz0 hz1 (fun e9 => absurd (show (1 : Nat) = 0 from e9) (by decide))
  | j9 + 2, on => exact absurd on (by show ¬ (j9 + 2 ≤ 1); omega)
set_option maxRecDepth 100000 in
theorem on_truncate {n : Int} : (o_truncate A n).1 ≤ 1 := by
  unfold o_truncate
  try unfold g2
  try unfold g1
  try unfold gg2
  try unfold gg1
  try unfold o_store
  repeat' split
  all_goals first | exact Nat.zero_le _ | decide | (show (1 : Nat) ≤ _; decide) | (show (2 : Nat) ≤ _; decide) | (show (3 : Nat) ≤ _; decide)
set_option maxRecDepth 100000 in
theorem l_truncate {n : Int} (h : CI σ x A) (inn : InR n) (hQ : ∀ σ', CI σ' x (o_truncate A n).2.2 → Mx σ σ' (xr x) → Q (.inl (some (vI ((o_truncate A n).1 : Nat)))) σ') : zM Γ mL_truncate [vR (some x), vI n] σ Q := by
  have on := on_truncate (A := A) (n := n)
  refine zM_ofH (n := 1) (by decide +kernel) rfl rfl rfl ?_
  refine zW_aload_n dL_truncate_0 rfl ?_
  refine zW_iload_n dL_truncate_1 rfl ?_
  refine zhV1 dL_truncate_2 rfl eX9_truncate b549 ⟨by decide, by decide, by decide, by decide⟩ rfl h.xk.1 rfl (by decide) (Nat.le_of_ble_eq_true rfl) (c_truncate h inn (fun σ1 h1 m1 => ?_))
  generalize o_truncate A n = o at h1 hQ on ⊢
  obtain ⟨n9, v9, A9⟩ := o
  match n9, on with
  | 0, _ =>
    show zW Γ mL_truncate 5 _ _ _ _ _ Q
    refine zW_goto (tgt := 11) dL_truncate_5 (by decide) ?_
    refine zW_iconst dL_truncate_11 ?_
    refine zW_ireturn dL_truncate_12 rfl rfl (by first | decide | (show _ ≤ (1 : Nat); omega)) (by first | decide | (show _ ≤ (6 : Nat); omega)) ?_
    exact hQ σ1 h1 m1
  | 1, _ =>
    refine zWx_catch (E := eA) (pre := []) (suf := []) (x := (0, 5, 8, 19)) rfl (fun z9 q9 => by cases q9) (by decide) (by decide) (by decide) b548 (by decide) (fun q => ?_)
    refine zW_astore_n dL_truncate_8 (by decide) rfl rfl ?_
    refine zW_iconst dL_truncate_9 ?_
    refine zW_ireturn dL_truncate_10 rfl rfl (by first | decide | (show _ ≤ (1 : Nat); omega)) (by first | decide | (show _ ≤ (6 : Nat); omega)) ?_
    exact hQ σ1 h1 m1
  | j9 + 2, on => exact absurd on (by show ¬ (j9 + 2 ≤ 1); omega)
set_option maxRecDepth 100000 in
theorem on_load : (o_load A).1 ≤ 1 := by
  unfold o_load
  try unfold g2
  try unfold g1
  try unfold gg2
  try unfold gg1
  try unfold o_store
  repeat' split
  all_goals first | exact Nat.zero_le _ | decide | (show (1 : Nat) ≤ _; decide) | (show (2 : Nat) ≤ _; decide) | (show (3 : Nat) ≤ _; decide)
set_option maxRecDepth 100000 in
theorem l_load (h : CI σ x A) (hz : zK σ z = (14, 1)) (hzx : z < x ∨ x + 521 ≤ z) (hQ : ∀ σ', CI σ' x (o_load A).2.2 → Mx σ σ' (lzz x z) → zK σ' z = (14, 1) → ((o_load A).1 = 0 → zJ σ' z 0 = nrm (o_load A).2.1) → Q (.inl (some (vI ((o_load A).1 : Nat)))) σ') : zM Γ mL_load [vR (some x), vR (some z)] σ Q := by
  have on := on_load (A := A)
  refine zM_ofH (n := 1) (by decide +kernel) rfl rfl rfl ?_
  refine zW_aload_n dL_load_0 rfl ?_
  refine zW_iconst dL_load_1 ?_
  refine zW_aload_n dL_load_2 rfl ?_
  refine zhV0 dL_load_3 rfl eX9_load b572 ⟨by decide, by decide, by decide, by decide⟩ rfl h.xk.1 rfl (by decide) (Nat.le_of_ble_eq_true rfl) (c_load h (fun σ1 h1 m1 => ?_))
  have hz1 : zK σ1 z = (14, 1) := by rw [(m1 z (fun q => by unfold xr at q; omega)).1]; exact hz
  generalize o_load A = o at h1 hQ on ⊢
  obtain ⟨n9, v9, A9⟩ := o
  match n9, on with
  | 0, _ =>
    show zW Γ mL_load 6 _ _ _ _ _ Q
    refine zW_nrm ?_
    have hv := nrm_in v9
    refine zW_i2l dL_load_6 (by first | assumption | omega | (unfold InR; omega) | (unfold InL; omega) | (simp only [InR] at *; omega)) ?_
    refine zW_last dL_load_7 hz1 (by first | assumption | omega | (unfold InR; omega) | (unfold InL; omega) | (simp only [InR] at *; omega)) (by first | assumption | omega | (unfold InR; omega) | (unfold InL; omega) | (simp only [InR] at *; omega)) (by first | assumption | omega | (unfold InR; omega) | (unfold InL; omega) | (simp only [InR] at *; omega)) ?_
    refine zW_goto (tgt := 14) dL_load_8 (by decide) ?_
    refine zW_iconst dL_load_14 ?_
    refine zW_ireturn dL_load_15 rfl rfl (by first | decide | (show _ ≤ (1 : Nat); omega)) (by first | decide | (show _ ≤ (6 : Nat); omega)) ?_
    exact hQ _ (h1.lz hzx) m1.lz hz1 (fun _ => zJ_sJs _ _ _ _)
  | 1, _ =>
    refine zWx_catch (E := eA) (pre := []) (suf := []) (x := (0, 8, 11, 19)) rfl (fun z9 q9 => by cases q9) (by decide) (by decide) (by decide) b548 (by decide) (fun q => ?_)
    refine zW_astore_n dL_load_11 (by decide) rfl rfl ?_
    refine zW_iconst dL_load_12 ?_
    refine zW_ireturn dL_load_13 rfl rfl (by first | decide | (show _ ≤ (1 : Nat); omega)) (by first | decide | (show _ ≤ (6 : Nat); omega)) ?_
    exact hQ σ1 h1 m1.lz0 hz1 (fun e9 => absurd (show (1 : Nat) = 0 from e9) (by decide))
  | j9 + 2, on => exact absurd on (by show ¬ (j9 + 2 ≤ 1); omega)
set_option maxRecDepth 100000 in
theorem on_wordLength {r : Int} : (o_wordLength A r).1 ≤ 1 := by
  unfold o_wordLength
  try unfold g2
  try unfold g1
  try unfold gg2
  try unfold gg1
  try unfold o_store
  repeat' split
  all_goals first | exact Nat.zero_le _ | decide | (show (1 : Nat) ≤ _; decide) | (show (2 : Nat) ≤ _; decide) | (show (3 : Nat) ≤ _; decide)
set_option maxRecDepth 100000 in
theorem l_wordLength {r : Int} (h : CI σ x A) (hz : zK σ z = (14, 1)) (hzx : z < x ∨ x + 521 ≤ z) (ir : InR r) (hQ : ∀ σ', CI σ' x (o_wordLength A r).2.2 → Mx σ σ' (lzz x z) → zK σ' z = (14, 1) → ((o_wordLength A r).1 = 0 → zJ σ' z 0 = nrm (o_wordLength A r).2.1) → Q (.inl (some (vI ((o_wordLength A r).1 : Nat)))) σ') : zM Γ mL_wordLength [vR (some x), vI r, vR (some z)] σ Q := by
  have on := on_wordLength (A := A) (r := r)
  refine zM_ofH (n := 1) (by decide +kernel) rfl rfl rfl ?_
  refine zW_aload_n dL_wordLength_0 rfl ?_
  refine zW_iconst dL_wordLength_1 ?_
  refine zW_aload_n dL_wordLength_2 rfl ?_
  refine zW_iload_n dL_wordLength_3 rfl ?_
  refine zhV1 dL_wordLength_4 rfl eX9_wordLength b720 ⟨by decide, by decide, by decide, by decide⟩ rfl h.xk.1 rfl (by decide) (Nat.le_of_ble_eq_true rfl) (c_wordLength h ir (fun σ1 h1 m1 => ?_))
  have hz1 : zK σ1 z = (14, 1) := by rw [(m1 z (fun q => by unfold xr at q; omega)).1]; exact hz
  generalize o_wordLength A r = o at h1 hQ on ⊢
  obtain ⟨n9, v9, A9⟩ := o
  match n9, on with
  | 0, _ =>
    show zW Γ mL_wordLength 7 _ _ _ _ _ Q
    refine zW_nrm ?_
    have hv := nrm_in v9
    refine zW_i2l dL_wordLength_7 (by first | assumption | omega | (unfold InR; omega) | (unfold InL; omega) | (simp only [InR] at *; omega)) ?_
    refine zW_last dL_wordLength_8 hz1 (by first | assumption | omega | (unfold InR; omega) | (unfold InL; omega) | (simp only [InR] at *; omega)) (by first | assumption | omega | (unfold InR; omega) | (unfold InL; omega) | (simp only [InR] at *; omega)) (by first | assumption | omega | (unfold InR; omega) | (unfold InL; omega) | (simp only [InR] at *; omega)) ?_
    refine zW_goto (tgt := 15) dL_wordLength_9 (by decide) ?_
    refine zW_iconst dL_wordLength_15 ?_
    refine zW_ireturn dL_wordLength_16 rfl rfl (by first | decide | (show _ ≤ (1 : Nat); omega)) (by first | decide | (show _ ≤ (6 : Nat); omega)) ?_
    exact hQ _ (h1.lz hzx) m1.lz hz1 (fun _ => zJ_sJs _ _ _ _)
  | 1, _ =>
    refine zWx_catch (E := eI) (pre := []) (suf := []) (x := (0, 9, 12, 29)) rfl (fun z9 q9 => by cases q9) (by decide) (by decide) (by decide) b719 (by decide) (fun q => ?_)
    refine zW_astore_n dL_wordLength_12 (by decide) rfl rfl ?_
    refine zW_iconst dL_wordLength_13 ?_
    refine zW_ireturn dL_wordLength_14 rfl rfl (by first | decide | (show _ ≤ (1 : Nat); omega)) (by first | decide | (show _ ≤ (6 : Nat); omega)) ?_
    exact hQ σ1 h1 m1.lz0 hz1 (fun e9 => absurd (show (1 : Nat) = 0 from e9) (by decide))
  | j9 + 2, on => exact absurd on (by show ¬ (j9 + 2 ≤ 1); omega)
set_option maxRecDepth 100000 in
theorem on_letter {r i : Int} : (o_letter A r i).1 ≤ 1 := by
  unfold o_letter
  try unfold g2
  try unfold g1
  try unfold gg2
  try unfold gg1
  try unfold o_store
  repeat' split
  all_goals first | exact Nat.zero_le _ | decide | (show (1 : Nat) ≤ _; decide) | (show (2 : Nat) ≤ _; decide) | (show (3 : Nat) ≤ _; decide)
set_option maxRecDepth 100000 in
theorem l_letter {r i : Int} (h : CI σ x A) (hz : zK σ z = (14, 1)) (hzx : z < x ∨ x + 521 ≤ z) (ir : InR r) (ii : InR i) (hQ : ∀ σ', CI σ' x (o_letter A r i).2.2 → Mx σ σ' (lzz x z) → zK σ' z = (14, 1) → ((o_letter A r i).1 = 0 → zJ σ' z 0 = nrm (o_letter A r i).2.1) → Q (.inl (some (vI ((o_letter A r i).1 : Nat)))) σ') : zM Γ mL_letter [vR (some x), vI r, vI i, vR (some z)] σ Q := by
  have on := on_letter (A := A) (r := r) (i := i)
  refine zM_ofH (n := 1) (by decide +kernel) rfl rfl rfl ?_
  refine zW_aload_n dL_letter_0 rfl ?_
  refine zW_iconst dL_letter_1 ?_
  refine zW_aload_n dL_letter_2 rfl ?_
  refine zW_iload_n dL_letter_3 rfl ?_
  refine zW_iload_n dL_letter_4 rfl ?_
  refine zhV2 dL_letter_5 rfl eX9_letter b731 ⟨by decide, by decide, by decide, by decide⟩ rfl h.xk.1 rfl (by decide) (Nat.le_of_ble_eq_true rfl) (c_letter h ir ii (fun σ1 h1 m1 => ?_))
  have hz1 : zK σ1 z = (14, 1) := by rw [(m1 z (fun q => by unfold xr at q; omega)).1]; exact hz
  generalize o_letter A r i = o at h1 hQ on ⊢
  obtain ⟨n9, v9, A9⟩ := o
  match n9, on with
  | 0, _ =>
    show zW Γ mL_letter 8 _ _ _ _ _ Q
    refine zW_nrm ?_
    have hv := nrm_in v9
    refine zW_i2l dL_letter_8 (by first | assumption | omega | (unfold InR; omega) | (unfold InL; omega) | (simp only [InR] at *; omega)) ?_
    refine zW_last dL_letter_9 hz1 (by first | assumption | omega | (unfold InR; omega) | (unfold InL; omega) | (simp only [InR] at *; omega)) (by first | assumption | omega | (unfold InR; omega) | (unfold InL; omega) | (simp only [InR] at *; omega)) (by first | assumption | omega | (unfold InR; omega) | (unfold InL; omega) | (simp only [InR] at *; omega)) ?_
    refine zW_goto (tgt := 17) dL_letter_10 (by decide) ?_
    refine zW_iconst dL_letter_17 ?_
    refine zW_ireturn dL_letter_18 rfl rfl (by first | decide | (show _ ≤ (2 : Nat); omega)) (by first | decide | (show _ ≤ (12 : Nat); omega)) ?_
    exact hQ _ (h1.lz hzx) m1.lz hz1 (fun _ => zJ_sJs _ _ _ _)
  | 1, _ =>
    refine zWx_catch (E := eI) (pre := []) (suf := []) (x := (0, 10, 13, 29)) rfl (fun z9 q9 => by cases q9) (by decide) (by decide) (by decide) b719 (by decide) (fun q => ?_)
    refine zW_astore dL_letter_13 (by decide) rfl rfl ?_
    refine zW_iconst dL_letter_15 ?_
    refine zW_ireturn dL_letter_16 rfl rfl (by first | decide | (show _ ≤ (2 : Nat); omega)) (by first | decide | (show _ ≤ (12 : Nat); omega)) ?_
    exact hQ σ1 h1 m1.lz0 hz1 (fun e9 => absurd (show (1 : Nat) = 0 from e9) (by decide))
  | j9 + 2, on => exact absurd on (by show ¬ (j9 + 2 ≤ 1); omega)
set_option maxRecDepth 100000 in
theorem on_areEqual {r s : Int} : (o_areEqual A r s).1 ≤ 1 := by
  unfold o_areEqual
  try unfold g2
  try unfold g1
  try unfold gg2
  try unfold gg1
  try unfold o_store
  repeat' split
  all_goals first | exact Nat.zero_le _ | decide | (show (1 : Nat) ≤ _; decide) | (show (2 : Nat) ≤ _; decide) | (show (3 : Nat) ≤ _; decide)
set_option maxRecDepth 100000 in
theorem l_areEqual {r s : Int} (h : CI σ x A) (hz : zK σ z = (14, 1)) (hzx : z < x ∨ x + 521 ≤ z) (ir : InR r) (is : InR s) (hQ : ∀ σ', CI σ' x (o_areEqual A r s).2.2 → Mx σ σ' (lzz x z) → zK σ' z = (14, 1) → ((o_areEqual A r s).1 = 0 → zJ σ' z 0 = bln (o_areEqual A r s).2.1) → Q (.inl (some (vI ((o_areEqual A r s).1 : Nat)))) σ') : zM Γ mL_areEqual [vR (some x), vI r, vI s, vR (some z)] σ Q := by
  have on := on_areEqual (A := A) (r := r) (s := s)
  refine zM_ofH (n := 1) (by decide +kernel) rfl rfl rfl ?_
  refine zW_aload_n dL_areEqual_0 rfl ?_
  refine zW_iconst dL_areEqual_1 ?_
  refine zW_aload_n dL_areEqual_2 rfl ?_
  refine zW_iload_n dL_areEqual_3 rfl ?_
  refine zW_iload_n dL_areEqual_4 rfl ?_
  refine zhV2 dL_areEqual_5 rfl eX9_areEqual b742 ⟨by decide, by decide, by decide, by decide⟩ rfl h.xk.1 rfl (by decide) (Nat.le_of_ble_eq_true rfl) (c_areEqual h ir is (fun σ1 h1 m1 => ?_))
  have hz1 : zK σ1 z = (14, 1) := by rw [(m1 z (fun q => by unfold xr at q; omega)).1]; exact hz
  generalize o_areEqual A r s = o at h1 hQ on ⊢
  obtain ⟨n9, v9, A9⟩ := o
  match n9, on with
  | 0, _ =>
    show zW Γ mL_areEqual 8 _ _ _ _ _ Q
    refine zW_nrm ?_
    have hv := nrm_in v9
    refine zW_if_eq (tgt := 15) dL_areEqual_8 (by decide) (by first | assumption | omega | (unfold InR; omega) | (unfold InL; omega) | (simp only [InR] at *; omega)) (fun b => ?_) (fun b => ?_)
    · refine zW_lconst dL_areEqual_15 (z := 0) (by decide) ?_
      refine zW_last dL_areEqual_16 hz1 (by first | assumption | omega | (unfold InR; omega) | (unfold InL; omega) | (simp only [InR] at *; omega)) (by first | assumption | omega | (unfold InR; omega) | (unfold InL; omega) | (simp only [InR] at *; omega)) (by first | assumption | omega | (unfold InR; omega) | (unfold InL; omega) | (simp only [InR] at *; omega)) ?_
      refine zW_goto (tgt := 24) dL_areEqual_17 (by decide) ?_
      refine zW_iconst dL_areEqual_24 ?_
      refine zW_ireturn dL_areEqual_25 rfl rfl (by first | decide | (show _ ≤ (2 : Nat); omega)) (by first | decide | (show _ ≤ (12 : Nat); omega)) ?_
      exact hQ _ (h1.lz hzx) m1.lz hz1 (fun _ => (zJ_sJs σ1 z 0 _).trans (if_pos b).symm)
    · refine zW_lconst dL_areEqual_11 (z := 1) (by decide) ?_
      refine zW_goto (tgt := 16) dL_areEqual_12 (by decide) ?_
      refine zW_last dL_areEqual_16 hz1 (by first | assumption | omega | (unfold InR; omega) | (unfold InL; omega) | (simp only [InR] at *; omega)) (by first | assumption | omega | (unfold InR; omega) | (unfold InL; omega) | (simp only [InR] at *; omega)) (by first | assumption | omega | (unfold InR; omega) | (unfold InL; omega) | (simp only [InR] at *; omega)) ?_
      refine zW_goto (tgt := 24) dL_areEqual_17 (by decide) ?_
      refine zW_iconst dL_areEqual_24 ?_
      refine zW_ireturn dL_areEqual_25 rfl rfl (by first | decide | (show _ ≤ (2 : Nat); omega)) (by first | decide | (show _ ≤ (12 : Nat); omega)) ?_
      exact hQ _ (h1.lz hzx) m1.lz hz1 (fun _ => (zJ_sJs σ1 z 0 _).trans (if_neg b).symm)
  | 1, _ =>
    refine zWx_catch (E := eI) (pre := []) (suf := []) (x := (0, 17, 20, 29)) rfl (fun z9 q9 => by cases q9) (by decide) (by decide) (by decide) b719 (by decide) (fun q => ?_)
    refine zW_astore dL_areEqual_20 (by decide) rfl rfl ?_
    refine zW_iconst dL_areEqual_22 ?_
    refine zW_ireturn dL_areEqual_23 rfl rfl (by first | decide | (show _ ≤ (2 : Nat); omega)) (by first | decide | (show _ ≤ (12 : Nat); omega)) ?_
    exact hQ σ1 h1 m1.lz0 hz1 (fun e9 => absurd (show (1 : Nat) = 0 from e9) (by decide))
  | j9 + 2, on => exact absurd on (by show ¬ (j9 + 2 ≤ 1); omega)
set_option maxRecDepth 100000 in
theorem on_areInverse {r s : Int} : (o_areInverse A r s).1 ≤ 1 := by
  unfold o_areInverse
  try unfold g2
  try unfold g1
  try unfold gg2
  try unfold gg1
  try unfold o_store
  repeat' split
  all_goals first | exact Nat.zero_le _ | decide | (show (1 : Nat) ≤ _; decide) | (show (2 : Nat) ≤ _; decide) | (show (3 : Nat) ≤ _; decide)
set_option maxRecDepth 100000 in
theorem l_areInverse {r s : Int} (h : CI σ x A) (hz : zK σ z = (14, 1)) (hzx : z < x ∨ x + 521 ≤ z) (ir : InR r) (is : InR s) (hQ : ∀ σ', CI σ' x (o_areInverse A r s).2.2 → Mx σ σ' (lzz x z) → zK σ' z = (14, 1) → ((o_areInverse A r s).1 = 0 → zJ σ' z 0 = bln (o_areInverse A r s).2.1) → Q (.inl (some (vI ((o_areInverse A r s).1 : Nat)))) σ') : zM Γ mL_areInverse [vR (some x), vI r, vI s, vR (some z)] σ Q := by
  have on := on_areInverse (A := A) (r := r) (s := s)
  refine zM_ofH (n := 1) (by decide +kernel) rfl rfl rfl ?_
  refine zW_aload_n dL_areInverse_0 rfl ?_
  refine zW_iconst dL_areInverse_1 ?_
  refine zW_aload_n dL_areInverse_2 rfl ?_
  refine zW_iload_n dL_areInverse_3 rfl ?_
  refine zW_iload_n dL_areInverse_4 rfl ?_
  refine zhV2 dL_areInverse_5 rfl eX9_areInverse b756 ⟨by decide, by decide, by decide, by decide⟩ rfl h.xk.1 rfl (by decide) (Nat.le_of_ble_eq_true rfl) (c_areInverse h ir is (fun σ1 h1 m1 => ?_))
  have hz1 : zK σ1 z = (14, 1) := by rw [(m1 z (fun q => by unfold xr at q; omega)).1]; exact hz
  generalize o_areInverse A r s = o at h1 hQ on ⊢
  obtain ⟨n9, v9, A9⟩ := o
  match n9, on with
  | 0, _ =>
    show zW Γ mL_areInverse 8 _ _ _ _ _ Q
    refine zW_nrm ?_
    have hv := nrm_in v9
    refine zW_if_eq (tgt := 15) dL_areInverse_8 (by decide) (by first | assumption | omega | (unfold InR; omega) | (unfold InL; omega) | (simp only [InR] at *; omega)) (fun b => ?_) (fun b => ?_)
    · refine zW_lconst dL_areInverse_15 (z := 0) (by decide) ?_
      refine zW_last dL_areInverse_16 hz1 (by first | assumption | omega | (unfold InR; omega) | (unfold InL; omega) | (simp only [InR] at *; omega)) (by first | assumption | omega | (unfold InR; omega) | (unfold InL; omega) | (simp only [InR] at *; omega)) (by first | assumption | omega | (unfold InR; omega) | (unfold InL; omega) | (simp only [InR] at *; omega)) ?_
      refine zW_goto (tgt := 24) dL_areInverse_17 (by decide) ?_
      refine zW_iconst dL_areInverse_24 ?_
      refine zW_ireturn dL_areInverse_25 rfl rfl (by first | decide | (show _ ≤ (2 : Nat); omega)) (by first | decide | (show _ ≤ (12 : Nat); omega)) ?_
      exact hQ _ (h1.lz hzx) m1.lz hz1 (fun _ => (zJ_sJs σ1 z 0 _).trans (if_pos b).symm)
    · refine zW_lconst dL_areInverse_11 (z := 1) (by decide) ?_
      refine zW_goto (tgt := 16) dL_areInverse_12 (by decide) ?_
      refine zW_last dL_areInverse_16 hz1 (by first | assumption | omega | (unfold InR; omega) | (unfold InL; omega) | (simp only [InR] at *; omega)) (by first | assumption | omega | (unfold InR; omega) | (unfold InL; omega) | (simp only [InR] at *; omega)) (by first | assumption | omega | (unfold InR; omega) | (unfold InL; omega) | (simp only [InR] at *; omega)) ?_
      refine zW_goto (tgt := 24) dL_areInverse_17 (by decide) ?_
      refine zW_iconst dL_areInverse_24 ?_
      refine zW_ireturn dL_areInverse_25 rfl rfl (by first | decide | (show _ ≤ (2 : Nat); omega)) (by first | decide | (show _ ≤ (12 : Nat); omega)) ?_
      exact hQ _ (h1.lz hzx) m1.lz hz1 (fun _ => (zJ_sJs σ1 z 0 _).trans (if_neg b).symm)
  | 1, _ =>
    refine zWx_catch (E := eI) (pre := []) (suf := []) (x := (0, 17, 20, 29)) rfl (fun z9 q9 => by cases q9) (by decide) (by decide) (by decide) b719 (by decide) (fun q => ?_)
    refine zW_astore dL_areInverse_20 (by decide) rfl rfl ?_
    refine zW_iconst dL_areInverse_22 ?_
    refine zW_ireturn dL_areInverse_23 rfl rfl (by first | decide | (show _ ≤ (2 : Nat); omega)) (by first | decide | (show _ ≤ (12 : Nat); omega)) ?_
    exact hQ σ1 h1 m1.lz0 hz1 (fun e9 => absurd (show (1 : Nat) = 0 from e9) (by decide))
  | j9 + 2, on => exact absurd on (by show ¬ (j9 + 2 ≤ 1); omega)
set_option maxRecDepth 100000 in
theorem on_compare {r s : Int} : (o_compare A r s).1 ≤ 1 := by
  unfold o_compare
  try unfold g2
  try unfold g1
  try unfold gg2
  try unfold gg1
  try unfold o_store
  repeat' split
  all_goals first | exact Nat.zero_le _ | decide | (show (1 : Nat) ≤ _; decide) | (show (2 : Nat) ≤ _; decide) | (show (3 : Nat) ≤ _; decide)
set_option maxRecDepth 100000 in
theorem l_compare {r s : Int} (h : CI σ x A) (hz : zK σ z = (14, 1)) (hzx : z < x ∨ x + 521 ≤ z) (ir : InR r) (is : InR s) (hQ : ∀ σ', CI σ' x (o_compare A r s).2.2 → Mx σ σ' (lzz x z) → zK σ' z = (14, 1) → ((o_compare A r s).1 = 0 → zJ σ' z 0 = nrm (o_compare A r s).2.1) → Q (.inl (some (vI ((o_compare A r s).1 : Nat)))) σ') : zM Γ mL_compare [vR (some x), vI r, vI s, vR (some z)] σ Q := by
  have on := on_compare (A := A) (r := r) (s := s)
  refine zM_ofH (n := 1) (by decide +kernel) rfl rfl rfl ?_
  refine zW_aload_n dL_compare_0 rfl ?_
  refine zW_iconst dL_compare_1 ?_
  refine zW_aload_n dL_compare_2 rfl ?_
  refine zW_iload_n dL_compare_3 rfl ?_
  refine zW_iload_n dL_compare_4 rfl ?_
  refine zhV2 dL_compare_5 rfl eX9_compare b766 ⟨by decide, by decide, by decide, by decide⟩ rfl h.xk.1 rfl (by decide) (Nat.le_of_ble_eq_true rfl) (c_compare h ir is (fun σ1 h1 m1 => ?_))
  have hz1 : zK σ1 z = (14, 1) := by rw [(m1 z (fun q => by unfold xr at q; omega)).1]; exact hz
  generalize o_compare A r s = o at h1 hQ on ⊢
  obtain ⟨n9, v9, A9⟩ := o
  match n9, on with
  | 0, _ =>
    show zW Γ mL_compare 8 _ _ _ _ _ Q
    refine zW_nrm ?_
    have hv := nrm_in v9
    refine zW_i2l dL_compare_8 (by first | assumption | omega | (unfold InR; omega) | (unfold InL; omega) | (simp only [InR] at *; omega)) ?_
    refine zW_last dL_compare_9 hz1 (by first | assumption | omega | (unfold InR; omega) | (unfold InL; omega) | (simp only [InR] at *; omega)) (by first | assumption | omega | (unfold InR; omega) | (unfold InL; omega) | (simp only [InR] at *; omega)) (by first | assumption | omega | (unfold InR; omega) | (unfold InL; omega) | (simp only [InR] at *; omega)) ?_
    refine zW_goto (tgt := 17) dL_compare_10 (by decide) ?_
    refine zW_iconst dL_compare_17 ?_
    refine zW_ireturn dL_compare_18 rfl rfl (by first | decide | (show _ ≤ (2 : Nat); omega)) (by first | decide | (show _ ≤ (12 : Nat); omega)) ?_
    exact hQ _ (h1.lz hzx) m1.lz hz1 (fun _ => zJ_sJs _ _ _ _)
  | 1, _ =>
    refine zWx_catch (E := eI) (pre := []) (suf := []) (x := (0, 10, 13, 29)) rfl (fun z9 q9 => by cases q9) (by decide) (by decide) (by decide) b719 (by decide) (fun q => ?_)
    refine zW_astore dL_compare_13 (by decide) rfl rfl ?_
    refine zW_iconst dL_compare_15 ?_
    refine zW_ireturn dL_compare_16 rfl rfl (by first | decide | (show _ ≤ (2 : Nat); omega)) (by first | decide | (show _ ≤ (12 : Nat); omega)) ?_
    exact hQ σ1 h1 m1.lz0 hz1 (fun e9 => absurd (show (1 : Nat) = 0 from e9) (by decide))
  | j9 + 2, on => exact absurd on (by show ¬ (j9 + 2 ≤ 1); omega)
set_option maxRecDepth 100000 in
theorem on_exponentSum {r i : Int} : (o_exponentSum A r i).1 ≤ 1 := by
  unfold o_exponentSum
  try unfold g2
  try unfold g1
  try unfold gg2
  try unfold gg1
  try unfold o_store
  repeat' split
  all_goals first | exact Nat.zero_le _ | decide | (show (1 : Nat) ≤ _; decide) | (show (2 : Nat) ≤ _; decide) | (show (3 : Nat) ≤ _; decide)
set_option maxRecDepth 100000 in
theorem l_exponentSum {r i : Int} (h : CI σ x A) (hz : zK σ z = (14, 1)) (hzx : z < x ∨ x + 521 ≤ z) (ir : InR r) (ii : InR i) (hr9 : sRk (aSt A) ≤ 4) (hQ : ∀ σ', CI σ' x (o_exponentSum A r i).2.2 → Mx σ σ' (lzz x z) → zK σ' z = (14, 1) → ((o_exponentSum A r i).1 = 0 → zJ σ' z 0 = nrm (o_exponentSum A r i).2.1) → Q (.inl (some (vI ((o_exponentSum A r i).1 : Nat)))) σ') : zM Γ mL_exponentSum [vR (some x), vI r, vI i, vR (some z)] σ Q := by
  have on := on_exponentSum (A := A) (r := r) (i := i)
  refine zM_ofH (n := 1) (by decide +kernel) rfl rfl rfl ?_
  refine zW_aload_n dL_exponentSum_0 rfl ?_
  refine zW_iconst dL_exponentSum_1 ?_
  refine zW_aload_n dL_exponentSum_2 rfl ?_
  refine zW_iload_n dL_exponentSum_3 rfl ?_
  refine zW_iload_n dL_exponentSum_4 rfl ?_
  refine zhV2 dL_exponentSum_5 rfl eX9_exponentSum b773 ⟨by decide, by decide, by decide, by decide⟩ rfl h.xk.1 rfl (by decide) (Nat.le_of_ble_eq_true rfl) (c_exponentSum h ir ii hr9 (fun σ1 h1 m1 => ?_))
  have hz1 : zK σ1 z = (14, 1) := by rw [(m1 z (fun q => by unfold xr at q; omega)).1]; exact hz
  generalize o_exponentSum A r i = o at h1 hQ on ⊢
  obtain ⟨n9, v9, A9⟩ := o
  match n9, on with
  | 0, _ =>
    show zW Γ mL_exponentSum 8 _ _ _ _ _ Q
    refine zW_nrm ?_
    have hv := nrm_in v9
    refine zW_i2l dL_exponentSum_8 (by first | assumption | omega | (unfold InR; omega) | (unfold InL; omega) | (simp only [InR] at *; omega)) ?_
    refine zW_last dL_exponentSum_9 hz1 (by first | assumption | omega | (unfold InR; omega) | (unfold InL; omega) | (simp only [InR] at *; omega)) (by first | assumption | omega | (unfold InR; omega) | (unfold InL; omega) | (simp only [InR] at *; omega)) (by first | assumption | omega | (unfold InR; omega) | (unfold InL; omega) | (simp only [InR] at *; omega)) ?_
    refine zW_goto (tgt := 17) dL_exponentSum_10 (by decide) ?_
    refine zW_iconst dL_exponentSum_17 ?_
    refine zW_ireturn dL_exponentSum_18 rfl rfl (by first | decide | (show _ ≤ (2 : Nat); omega)) (by first | decide | (show _ ≤ (12 : Nat); omega)) ?_
    exact hQ _ (h1.lz hzx) m1.lz hz1 (fun _ => zJ_sJs _ _ _ _)
  | 1, _ =>
    refine zWx_catch (E := eI) (pre := []) (suf := []) (x := (0, 10, 13, 29)) rfl (fun z9 q9 => by cases q9) (by decide) (by decide) (by decide) b719 (by decide) (fun q => ?_)
    refine zW_astore dL_exponentSum_13 (by decide) rfl rfl ?_
    refine zW_iconst dL_exponentSum_15 ?_
    refine zW_ireturn dL_exponentSum_16 rfl rfl (by first | decide | (show _ ≤ (2 : Nat); omega)) (by first | decide | (show _ ≤ (12 : Nat); omega)) ?_
    exact hQ σ1 h1 m1.lz0 hz1 (fun e9 => absurd (show (1 : Nat) = 0 from e9) (by decide))
  | j9 + 2, on => exact absurd on (by show ¬ (j9 + 2 ≤ 1); omega)
set_option maxRecDepth 100000 in
theorem on_commonPrefix {r s : Int} : (o_commonPrefix A r s).1 ≤ 1 := by
  unfold o_commonPrefix
  try unfold g2
  try unfold g1
  try unfold gg2
  try unfold gg1
  try unfold o_store
  repeat' split
  all_goals first | exact Nat.zero_le _ | decide | (show (1 : Nat) ≤ _; decide) | (show (2 : Nat) ≤ _; decide) | (show (3 : Nat) ≤ _; decide)
set_option maxRecDepth 100000 in
theorem l_commonPrefix {r s : Int} (h : CI σ x A) (hz : zK σ z = (14, 1)) (hzx : z < x ∨ x + 521 ≤ z) (ir : InR r) (is : InR s) (hQ : ∀ σ', CI σ' x (o_commonPrefix A r s).2.2 → Mx σ σ' (lzz x z) → zK σ' z = (14, 1) → ((o_commonPrefix A r s).1 = 0 → zJ σ' z 0 = nrm (o_commonPrefix A r s).2.1) → Q (.inl (some (vI ((o_commonPrefix A r s).1 : Nat)))) σ') : zM Γ mL_commonPrefix [vR (some x), vI r, vI s, vR (some z)] σ Q := by
  have on := on_commonPrefix (A := A) (r := r) (s := s)
  refine zM_ofH (n := 1) (by decide +kernel) rfl rfl rfl ?_
  refine zW_aload_n dL_commonPrefix_0 rfl ?_
  refine zW_iconst dL_commonPrefix_1 ?_
  refine zW_aload_n dL_commonPrefix_2 rfl ?_
  refine zW_iload_n dL_commonPrefix_3 rfl ?_
  refine zW_iload_n dL_commonPrefix_4 rfl ?_
  refine zhV2 dL_commonPrefix_5 rfl eX9_commonPrefix b780 ⟨by decide, by decide, by decide, by decide⟩ rfl h.xk.1 rfl (by decide) (Nat.le_of_ble_eq_true rfl) (c_commonPrefix h ir is (fun σ1 h1 m1 => ?_))
  have hz1 : zK σ1 z = (14, 1) := by rw [(m1 z (fun q => by unfold xr at q; omega)).1]; exact hz
  generalize o_commonPrefix A r s = o at h1 hQ on ⊢
  obtain ⟨n9, v9, A9⟩ := o
  match n9, on with
  | 0, _ =>
    show zW Γ mL_commonPrefix 8 _ _ _ _ _ Q
    refine zW_nrm ?_
    have hv := nrm_in v9
    refine zW_i2l dL_commonPrefix_8 (by first | assumption | omega | (unfold InR; omega) | (unfold InL; omega) | (simp only [InR] at *; omega)) ?_
    refine zW_last dL_commonPrefix_9 hz1 (by first | assumption | omega | (unfold InR; omega) | (unfold InL; omega) | (simp only [InR] at *; omega)) (by first | assumption | omega | (unfold InR; omega) | (unfold InL; omega) | (simp only [InR] at *; omega)) (by first | assumption | omega | (unfold InR; omega) | (unfold InL; omega) | (simp only [InR] at *; omega)) ?_
    refine zW_goto (tgt := 17) dL_commonPrefix_10 (by decide) ?_
    refine zW_iconst dL_commonPrefix_17 ?_
    refine zW_ireturn dL_commonPrefix_18 rfl rfl (by first | decide | (show _ ≤ (2 : Nat); omega)) (by first | decide | (show _ ≤ (12 : Nat); omega)) ?_
    exact hQ _ (h1.lz hzx) m1.lz hz1 (fun _ => zJ_sJs _ _ _ _)
  | 1, _ =>
    refine zWx_catch (E := eI) (pre := []) (suf := []) (x := (0, 10, 13, 29)) rfl (fun z9 q9 => by cases q9) (by decide) (by decide) (by decide) b719 (by decide) (fun q => ?_)
    refine zW_astore dL_commonPrefix_13 (by decide) rfl rfl ?_
    refine zW_iconst dL_commonPrefix_15 ?_
    refine zW_ireturn dL_commonPrefix_16 rfl rfl (by first | decide | (show _ ≤ (2 : Nat); omega)) (by first | decide | (show _ ≤ (12 : Nat); omega)) ?_
    exact hQ σ1 h1 m1.lz0 hz1 (fun e9 => absurd (show (1 : Nat) = 0 from e9) (by decide))
  | j9 + 2, on => exact absurd on (by show ¬ (j9 + 2 ≤ 1); omega)
set_option maxRecDepth 100000 in
theorem on_cancellation {r s : Int} : (o_cancellation A r s).1 ≤ 1 := by
  unfold o_cancellation
  try unfold g2
  try unfold g1
  try unfold gg2
  try unfold gg1
  try unfold o_store
  repeat' split
  all_goals first | exact Nat.zero_le _ | decide | (show (1 : Nat) ≤ _; decide) | (show (2 : Nat) ≤ _; decide) | (show (3 : Nat) ≤ _; decide)
set_option maxRecDepth 100000 in
theorem l_cancellation {r s : Int} (h : CI σ x A) (hz : zK σ z = (14, 1)) (hzx : z < x ∨ x + 521 ≤ z) (ir : InR r) (is : InR s) (hQ : ∀ σ', CI σ' x (o_cancellation A r s).2.2 → Mx σ σ' (lzz x z) → zK σ' z = (14, 1) → ((o_cancellation A r s).1 = 0 → zJ σ' z 0 = nrm (o_cancellation A r s).2.1) → Q (.inl (some (vI ((o_cancellation A r s).1 : Nat)))) σ') : zM Γ mL_cancellation [vR (some x), vI r, vI s, vR (some z)] σ Q := by
  have on := on_cancellation (A := A) (r := r) (s := s)
  refine zM_ofH (n := 1) (by decide +kernel) rfl rfl rfl ?_
  refine zW_aload_n dL_cancellation_0 rfl ?_
  refine zW_iconst dL_cancellation_1 ?_
  refine zW_aload_n dL_cancellation_2 rfl ?_
  refine zW_iload_n dL_cancellation_3 rfl ?_
  refine zW_iload_n dL_cancellation_4 rfl ?_
  refine zhV2 dL_cancellation_5 rfl eX9_cancellation b787 ⟨by decide, by decide, by decide, by decide⟩ rfl h.xk.1 rfl (by decide) (Nat.le_of_ble_eq_true rfl) (c_cancellation h ir is (fun σ1 h1 m1 => ?_))
  have hz1 : zK σ1 z = (14, 1) := by rw [(m1 z (fun q => by unfold xr at q; omega)).1]; exact hz
  generalize o_cancellation A r s = o at h1 hQ on ⊢
  obtain ⟨n9, v9, A9⟩ := o
  match n9, on with
  | 0, _ =>
    show zW Γ mL_cancellation 8 _ _ _ _ _ Q
    refine zW_nrm ?_
    have hv := nrm_in v9
    refine zW_i2l dL_cancellation_8 (by first | assumption | omega | (unfold InR; omega) | (unfold InL; omega) | (simp only [InR] at *; omega)) ?_
    refine zW_last dL_cancellation_9 hz1 (by first | assumption | omega | (unfold InR; omega) | (unfold InL; omega) | (simp only [InR] at *; omega)) (by first | assumption | omega | (unfold InR; omega) | (unfold InL; omega) | (simp only [InR] at *; omega)) (by first | assumption | omega | (unfold InR; omega) | (unfold InL; omega) | (simp only [InR] at *; omega)) ?_
    refine zW_goto (tgt := 17) dL_cancellation_10 (by decide) ?_
    refine zW_iconst dL_cancellation_17 ?_
    refine zW_ireturn dL_cancellation_18 rfl rfl (by first | decide | (show _ ≤ (2 : Nat); omega)) (by first | decide | (show _ ≤ (12 : Nat); omega)) ?_
    exact hQ _ (h1.lz hzx) m1.lz hz1 (fun _ => zJ_sJs _ _ _ _)
  | 1, _ =>
    refine zWx_catch (E := eI) (pre := []) (suf := []) (x := (0, 10, 13, 29)) rfl (fun z9 q9 => by cases q9) (by decide) (by decide) (by decide) b719 (by decide) (fun q => ?_)
    refine zW_astore dL_cancellation_13 (by decide) rfl rfl ?_
    refine zW_iconst dL_cancellation_15 ?_
    refine zW_ireturn dL_cancellation_16 rfl rfl (by first | decide | (show _ ≤ (2 : Nat); omega)) (by first | decide | (show _ ≤ (12 : Nat); omega)) ?_
    exact hQ σ1 h1 m1.lz0 hz1 (fun e9 => absurd (show (1 : Nat) = 0 from e9) (by decide))
  | j9 + 2, on => exact absurd on (by show ¬ (j9 + 2 ≤ 1); omega)
set_option maxRecDepth 100000 in
theorem on_doCommute {r s : Int} : (o_doCommute A r s).1 ≤ 1 := by
  unfold o_doCommute
  try unfold g2
  try unfold g1
  try unfold gg2
  try unfold gg1
  try unfold o_store
  repeat' split
  all_goals first | exact Nat.zero_le _ | decide | (show (1 : Nat) ≤ _; decide) | (show (2 : Nat) ≤ _; decide) | (show (3 : Nat) ≤ _; decide)
set_option maxRecDepth 100000 in
theorem l_doCommute {r s : Int} (h : CI σ x A) (hz : zK σ z = (14, 1)) (hzx : z < x ∨ x + 521 ≤ z) (ir : InR r) (is : InR s) (hQ : ∀ σ', CI σ' x (o_doCommute A r s).2.2 → Mx σ σ' (lzz x z) → zK σ' z = (14, 1) → ((o_doCommute A r s).1 = 0 → zJ σ' z 0 = bln (o_doCommute A r s).2.1) → Q (.inl (some (vI ((o_doCommute A r s).1 : Nat)))) σ') : zM Γ mL_doCommute [vR (some x), vI r, vI s, vR (some z)] σ Q := by
  have on := on_doCommute (A := A) (r := r) (s := s)
  refine zM_ofH (n := 1) (by decide +kernel) rfl rfl rfl ?_
  refine zW_aload_n dL_doCommute_0 rfl ?_
  refine zW_iconst dL_doCommute_1 ?_
  refine zW_aload_n dL_doCommute_2 rfl ?_
  refine zW_iload_n dL_doCommute_3 rfl ?_
  refine zW_iload_n dL_doCommute_4 rfl ?_
  refine zhV2 dL_doCommute_5 rfl eX9_doCommute b794 ⟨by decide, by decide, by decide, by decide⟩ rfl h.xk.1 rfl (by decide) (Nat.le_of_ble_eq_true rfl) (c_doCommute h ir is (fun σ1 h1 m1 => ?_))
  have hz1 : zK σ1 z = (14, 1) := by rw [(m1 z (fun q => by unfold xr at q; omega)).1]; exact hz
  generalize o_doCommute A r s = o at h1 hQ on ⊢
  obtain ⟨n9, v9, A9⟩ := o
  match n9, on with
  | 0, _ =>
    show zW Γ mL_doCommute 8 _ _ _ _ _ Q
    refine zW_nrm ?_
    have hv := nrm_in v9
    refine zW_if_eq (tgt := 15) dL_doCommute_8 (by decide) (by first | assumption | omega | (unfold InR; omega) | (unfold InL; omega) | (simp only [InR] at *; omega)) (fun b => ?_) (fun b => ?_)
    · refine zW_lconst dL_doCommute_15 (z := 0) (by decide) ?_
      refine zW_last dL_doCommute_16 hz1 (by first | assumption | omega | (unfold InR; omega) | (unfold InL; omega) | (simp only [InR] at *; omega)) (by first | assumption | omega | (unfold InR; omega) | (unfold InL; omega) | (simp only [InR] at *; omega)) (by first | assumption | omega | (unfold InR; omega) | (unfold InL; omega) | (simp only [InR] at *; omega)) ?_
      refine zW_goto (tgt := 24) dL_doCommute_17 (by decide) ?_
      refine zW_iconst dL_doCommute_24 ?_
      refine zW_ireturn dL_doCommute_25 rfl rfl (by first | decide | (show _ ≤ (2 : Nat); omega)) (by first | decide | (show _ ≤ (12 : Nat); omega)) ?_
      exact hQ _ (h1.lz hzx) m1.lz hz1 (fun _ => (zJ_sJs σ1 z 0 _).trans (if_pos b).symm)
    · refine zW_lconst dL_doCommute_11 (z := 1) (by decide) ?_
      refine zW_goto (tgt := 16) dL_doCommute_12 (by decide) ?_
      refine zW_last dL_doCommute_16 hz1 (by first | assumption | omega | (unfold InR; omega) | (unfold InL; omega) | (simp only [InR] at *; omega)) (by first | assumption | omega | (unfold InR; omega) | (unfold InL; omega) | (simp only [InR] at *; omega)) (by first | assumption | omega | (unfold InR; omega) | (unfold InL; omega) | (simp only [InR] at *; omega)) ?_
      refine zW_goto (tgt := 24) dL_doCommute_17 (by decide) ?_
      refine zW_iconst dL_doCommute_24 ?_
      refine zW_ireturn dL_doCommute_25 rfl rfl (by first | decide | (show _ ≤ (2 : Nat); omega)) (by first | decide | (show _ ≤ (12 : Nat); omega)) ?_
      exact hQ _ (h1.lz hzx) m1.lz hz1 (fun _ => (zJ_sJs σ1 z 0 _).trans (if_neg b).symm)
  | 1, _ =>
    refine zWx_catch (E := eI) (pre := []) (suf := []) (x := (0, 17, 20, 29)) rfl (fun z9 q9 => by cases q9) (by decide) (by decide) (by decide) b719 (by decide) (fun q => ?_)
    refine zW_astore dL_doCommute_20 (by decide) rfl rfl ?_
    refine zW_iconst dL_doCommute_22 ?_
    refine zW_ireturn dL_doCommute_23 rfl rfl (by first | decide | (show _ ≤ (2 : Nat); omega)) (by first | decide | (show _ ≤ (12 : Nat); omega)) ?_
    exact hQ σ1 h1 m1.lz0 hz1 (fun e9 => absurd (show (1 : Nat) = 0 from e9) (by decide))
  | j9 + 2, on => exact absurd on (by show ¬ (j9 + 2 ≤ 1); omega)
set_option maxRecDepth 100000 in
theorem on_coreLength {r : Int} : (o_coreLength A r).1 ≤ 1 := by
  unfold o_coreLength
  try unfold g2
  try unfold g1
  try unfold gg2
  try unfold gg1
  try unfold o_store
  repeat' split
  all_goals first | exact Nat.zero_le _ | decide | (show (1 : Nat) ≤ _; decide) | (show (2 : Nat) ≤ _; decide) | (show (3 : Nat) ≤ _; decide)
set_option maxRecDepth 100000 in
theorem l_coreLength {r : Int} (h : CI σ x A) (hz : zK σ z = (14, 1)) (hzx : z < x ∨ x + 521 ≤ z) (ir : InR r) (hQ : ∀ σ', CI σ' x (o_coreLength A r).2.2 → Mx σ σ' (lzz x z) → zK σ' z = (14, 1) → ((o_coreLength A r).1 = 0 → zJ σ' z 0 = nrm (o_coreLength A r).2.1) → Q (.inl (some (vI ((o_coreLength A r).1 : Nat)))) σ') : zM Γ mL_coreLength [vR (some x), vI r, vR (some z)] σ Q := by
  have on := on_coreLength (A := A) (r := r)
  refine zM_ofH (n := 1) (by decide +kernel) rfl rfl rfl ?_
  refine zW_aload_n dL_coreLength_0 rfl ?_
  refine zW_iconst dL_coreLength_1 ?_
  refine zW_aload_n dL_coreLength_2 rfl ?_
  refine zW_iload_n dL_coreLength_3 rfl ?_
  refine zhV1 dL_coreLength_4 rfl eX9_coreLength b819 ⟨by decide, by decide, by decide, by decide⟩ rfl h.xk.1 rfl (by decide) (Nat.le_of_ble_eq_true rfl) (c_coreLength h ir (fun σ1 h1 m1 => ?_))
  have hz1 : zK σ1 z = (14, 1) := by rw [(m1 z (fun q => by unfold xr at q; omega)).1]; exact hz
  generalize o_coreLength A r = o at h1 hQ on ⊢
  obtain ⟨n9, v9, A9⟩ := o
  match n9, on with
  | 0, _ =>
    show zW Γ mL_coreLength 7 _ _ _ _ _ Q
    refine zW_nrm ?_
    have hv := nrm_in v9
    refine zW_i2l dL_coreLength_7 (by first | assumption | omega | (unfold InR; omega) | (unfold InL; omega) | (simp only [InR] at *; omega)) ?_
    refine zW_last dL_coreLength_8 hz1 (by first | assumption | omega | (unfold InR; omega) | (unfold InL; omega) | (simp only [InR] at *; omega)) (by first | assumption | omega | (unfold InR; omega) | (unfold InL; omega) | (simp only [InR] at *; omega)) (by first | assumption | omega | (unfold InR; omega) | (unfold InL; omega) | (simp only [InR] at *; omega)) ?_
    refine zW_goto (tgt := 15) dL_coreLength_9 (by decide) ?_
    refine zW_iconst dL_coreLength_15 ?_
    refine zW_ireturn dL_coreLength_16 rfl rfl (by first | decide | (show _ ≤ (1 : Nat); omega)) (by first | decide | (show _ ≤ (6 : Nat); omega)) ?_
    exact hQ _ (h1.lz hzx) m1.lz hz1 (fun _ => zJ_sJs _ _ _ _)
  | 1, _ =>
    refine zWx_catch (E := eI) (pre := []) (suf := []) (x := (0, 9, 12, 29)) rfl (fun z9 q9 => by cases q9) (by decide) (by decide) (by decide) b719 (by decide) (fun q => ?_)
    refine zW_astore_n dL_coreLength_12 (by decide) rfl rfl ?_
    refine zW_iconst dL_coreLength_13 ?_
    refine zW_ireturn dL_coreLength_14 rfl rfl (by first | decide | (show _ ≤ (1 : Nat); omega)) (by first | decide | (show _ ≤ (6 : Nat); omega)) ?_
    exact hQ σ1 h1 m1.lz0 hz1 (fun e9 => absurd (show (1 : Nat) = 0 from e9) (by decide))
  | j9 + 2, on => exact absurd on (by show ¬ (j9 + 2 ≤ 1); omega)
set_option maxRecDepth 100000 in
theorem on_coreLetter {r i : Int} : (o_coreLetter A r i).1 ≤ 1 := by
  unfold o_coreLetter
  try unfold g2
  try unfold g1
  try unfold gg2
  try unfold gg1
  try unfold o_store
  repeat' split
  all_goals first | exact Nat.zero_le _ | decide | (show (1 : Nat) ≤ _; decide) | (show (2 : Nat) ≤ _; decide) | (show (3 : Nat) ≤ _; decide)
set_option maxRecDepth 100000 in
theorem l_coreLetter {r i : Int} (h : CI σ x A) (hz : zK σ z = (14, 1)) (hzx : z < x ∨ x + 521 ≤ z) (ir : InR r) (ii : InR i) (hQ : ∀ σ', CI σ' x (o_coreLetter A r i).2.2 → Mx σ σ' (lzz x z) → zK σ' z = (14, 1) → ((o_coreLetter A r i).1 = 0 → zJ σ' z 0 = nrm (o_coreLetter A r i).2.1) → Q (.inl (some (vI ((o_coreLetter A r i).1 : Nat)))) σ') : zM Γ mL_coreLetter [vR (some x), vI r, vI i, vR (some z)] σ Q := by
  have on := on_coreLetter (A := A) (r := r) (i := i)
  refine zM_ofH (n := 1) (by decide +kernel) rfl rfl rfl ?_
  refine zW_aload_n dL_coreLetter_0 rfl ?_
  refine zW_iconst dL_coreLetter_1 ?_
  refine zW_aload_n dL_coreLetter_2 rfl ?_
  refine zW_iload_n dL_coreLetter_3 rfl ?_
  refine zW_iload_n dL_coreLetter_4 rfl ?_
  refine zhV2 dL_coreLetter_5 rfl eX9_coreLetter b834 ⟨by decide, by decide, by decide, by decide⟩ rfl h.xk.1 rfl (by decide) (Nat.le_of_ble_eq_true rfl) (c_coreLetter h ir ii (fun σ1 h1 m1 => ?_))
  have hz1 : zK σ1 z = (14, 1) := by rw [(m1 z (fun q => by unfold xr at q; omega)).1]; exact hz
  generalize o_coreLetter A r i = o at h1 hQ on ⊢
  obtain ⟨n9, v9, A9⟩ := o
  match n9, on with
  | 0, _ =>
    show zW Γ mL_coreLetter 8 _ _ _ _ _ Q
    refine zW_nrm ?_
    have hv := nrm_in v9
    refine zW_i2l dL_coreLetter_8 (by first | assumption | omega | (unfold InR; omega) | (unfold InL; omega) | (simp only [InR] at *; omega)) ?_
    refine zW_last dL_coreLetter_9 hz1 (by first | assumption | omega | (unfold InR; omega) | (unfold InL; omega) | (simp only [InR] at *; omega)) (by first | assumption | omega | (unfold InR; omega) | (unfold InL; omega) | (simp only [InR] at *; omega)) (by first | assumption | omega | (unfold InR; omega) | (unfold InL; omega) | (simp only [InR] at *; omega)) ?_
    refine zW_goto (tgt := 17) dL_coreLetter_10 (by decide) ?_
    refine zW_iconst dL_coreLetter_17 ?_
    refine zW_ireturn dL_coreLetter_18 rfl rfl (by first | decide | (show _ ≤ (2 : Nat); omega)) (by first | decide | (show _ ≤ (12 : Nat); omega)) ?_
    exact hQ _ (h1.lz hzx) m1.lz hz1 (fun _ => zJ_sJs _ _ _ _)
  | 1, _ =>
    refine zWx_catch (E := eI) (pre := []) (suf := []) (x := (0, 10, 13, 29)) rfl (fun z9 q9 => by cases q9) (by decide) (by decide) (by decide) b719 (by decide) (fun q => ?_)
    refine zW_astore dL_coreLetter_13 (by decide) rfl rfl ?_
    refine zW_iconst dL_coreLetter_15 ?_
    refine zW_ireturn dL_coreLetter_16 rfl rfl (by first | decide | (show _ ≤ (2 : Nat); omega)) (by first | decide | (show _ ≤ (12 : Nat); omega)) ?_
    exact hQ σ1 h1 m1.lz0 hz1 (fun e9 => absurd (show (1 : Nat) = 0 from e9) (by decide))
  | j9 + 2, on => exact absurd on (by show ¬ (j9 + 2 ≤ 1); omega)
set_option maxRecDepth 100000 in
theorem on_areConjugate {r s : Int} : (o_areConjugate A r s).1 ≤ 1 := by
  unfold o_areConjugate
  try unfold g2
  try unfold g1
  try unfold gg2
  try unfold gg1
  try unfold o_store
  repeat' split
  all_goals first | exact Nat.zero_le _ | decide | (show (1 : Nat) ≤ _; decide) | (show (2 : Nat) ≤ _; decide) | (show (3 : Nat) ≤ _; decide)
set_option maxRecDepth 100000 in
theorem l_areConjugate {r s : Int} (h : CI σ x A) (hz : zK σ z = (14, 1)) (hzx : z < x ∨ x + 521 ≤ z) (ir : InR r) (is : InR s) (hQ : ∀ σ', CI σ' x (o_areConjugate A r s).2.2 → Mx σ σ' (lzz x z) → zK σ' z = (14, 1) → ((o_areConjugate A r s).1 = 0 → zJ σ' z 0 = bln (o_areConjugate A r s).2.1) → Q (.inl (some (vI ((o_areConjugate A r s).1 : Nat)))) σ') : zM Γ mL_areConjugate [vR (some x), vI r, vI s, vR (some z)] σ Q := by
  have on := on_areConjugate (A := A) (r := r) (s := s)
  refine zM_ofH (n := 1) (by decide +kernel) rfl rfl rfl ?_
  refine zW_aload_n dL_areConjugate_0 rfl ?_
  refine zW_iconst dL_areConjugate_1 ?_
  refine zW_aload_n dL_areConjugate_2 rfl ?_
  refine zW_iload_n dL_areConjugate_3 rfl ?_
  refine zW_iload_n dL_areConjugate_4 rfl ?_
  refine zhV2 dL_areConjugate_5 rfl eX9_areConjugate b842 ⟨by decide, by decide, by decide, by decide⟩ rfl h.xk.1 rfl (by decide) (Nat.le_of_ble_eq_true rfl) (c_areConjugate h ir is (fun σ1 h1 m1 => ?_))
  have hz1 : zK σ1 z = (14, 1) := by rw [(m1 z (fun q => by unfold xr at q; omega)).1]; exact hz
  generalize o_areConjugate A r s = o at h1 hQ on ⊢
  obtain ⟨n9, v9, A9⟩ := o
  match n9, on with
  | 0, _ =>
    show zW Γ mL_areConjugate 8 _ _ _ _ _ Q
    refine zW_nrm ?_
    have hv := nrm_in v9
    refine zW_if_eq (tgt := 15) dL_areConjugate_8 (by decide) (by first | assumption | omega | (unfold InR; omega) | (unfold InL; omega) | (simp only [InR] at *; omega)) (fun b => ?_) (fun b => ?_)
    · refine zW_lconst dL_areConjugate_15 (z := 0) (by decide) ?_
      refine zW_last dL_areConjugate_16 hz1 (by first | assumption | omega | (unfold InR; omega) | (unfold InL; omega) | (simp only [InR] at *; omega)) (by first | assumption | omega | (unfold InR; omega) | (unfold InL; omega) | (simp only [InR] at *; omega)) (by first | assumption | omega | (unfold InR; omega) | (unfold InL; omega) | (simp only [InR] at *; omega)) ?_
      refine zW_goto (tgt := 24) dL_areConjugate_17 (by decide) ?_
      refine zW_iconst dL_areConjugate_24 ?_
      refine zW_ireturn dL_areConjugate_25 rfl rfl (by first | decide | (show _ ≤ (2 : Nat); omega)) (by first | decide | (show _ ≤ (12 : Nat); omega)) ?_
      exact hQ _ (h1.lz hzx) m1.lz hz1 (fun _ => (zJ_sJs σ1 z 0 _).trans (if_pos b).symm)
    · refine zW_lconst dL_areConjugate_11 (z := 1) (by decide) ?_
      refine zW_goto (tgt := 16) dL_areConjugate_12 (by decide) ?_
      refine zW_last dL_areConjugate_16 hz1 (by first | assumption | omega | (unfold InR; omega) | (unfold InL; omega) | (simp only [InR] at *; omega)) (by first | assumption | omega | (unfold InR; omega) | (unfold InL; omega) | (simp only [InR] at *; omega)) (by first | assumption | omega | (unfold InR; omega) | (unfold InL; omega) | (simp only [InR] at *; omega)) ?_
      refine zW_goto (tgt := 24) dL_areConjugate_17 (by decide) ?_
      refine zW_iconst dL_areConjugate_24 ?_
      refine zW_ireturn dL_areConjugate_25 rfl rfl (by first | decide | (show _ ≤ (2 : Nat); omega)) (by first | decide | (show _ ≤ (12 : Nat); omega)) ?_
      exact hQ _ (h1.lz hzx) m1.lz hz1 (fun _ => (zJ_sJs σ1 z 0 _).trans (if_neg b).symm)
  | 1, _ =>
    refine zWx_catch (E := eI) (pre := []) (suf := []) (x := (0, 17, 20, 29)) rfl (fun z9 q9 => by cases q9) (by decide) (by decide) (by decide) b719 (by decide) (fun q => ?_)
    refine zW_astore dL_areConjugate_20 (by decide) rfl rfl ?_
    refine zW_iconst dL_areConjugate_22 ?_
    refine zW_ireturn dL_areConjugate_23 rfl rfl (by first | decide | (show _ ≤ (2 : Nat); omega)) (by first | decide | (show _ ≤ (12 : Nat); omega)) ?_
    exact hQ σ1 h1 m1.lz0 hz1 (fun e9 => absurd (show (1 : Nat) = 0 from e9) (by decide))
  | j9 + 2, on => exact absurd on (by show ¬ (j9 + 2 ≤ 1); omega)
set_option maxRecDepth 100000 in
theorem on_rotation {r s : Int} : (o_rotation A r s).1 ≤ 2 := by
  unfold o_rotation
  try unfold g2
  try unfold g1
  try unfold gg2
  try unfold gg1
  try unfold o_store
  repeat' split
  all_goals first | exact Nat.zero_le _ | decide | (show (1 : Nat) ≤ _; decide) | (show (2 : Nat) ≤ _; decide) | (show (3 : Nat) ≤ _; decide)
set_option maxRecDepth 100000 in
theorem l_rotation {r s : Int} (h : CI σ x A) (hz : zK σ z = (14, 1)) (hzx : z < x ∨ x + 521 ≤ z) (ir : InR r) (is : InR s) (hQ : ∀ σ', CI σ' x (o_rotation A r s).2.2 → Mx σ σ' (lzz x z) → zK σ' z = (14, 1) → ((o_rotation A r s).1 = 0 → zJ σ' z 0 = nrm (o_rotation A r s).2.1) → Q (.inl (some (vI ((o_rotation A r s).1 : Nat)))) σ') : zM Γ mL_rotation [vR (some x), vI r, vI s, vR (some z)] σ Q := by
  have on := on_rotation (A := A) (r := r) (s := s)
  refine zM_ofH (n := 1) (by decide +kernel) rfl rfl rfl ?_
  refine zW_aload_n dL_rotation_0 rfl ?_
  refine zW_iconst dL_rotation_1 ?_
  refine zW_aload_n dL_rotation_2 rfl ?_
  refine zW_iload_n dL_rotation_3 rfl ?_
  refine zW_iload_n dL_rotation_4 rfl ?_
  refine zhV2 dL_rotation_5 rfl eX9_rotation b856 ⟨by decide, by decide, by decide, by decide⟩ rfl h.xk.1 rfl (by decide) (Nat.le_of_ble_eq_true rfl) (c_rotation h ir is (fun σ1 h1 m1 => ?_))
  have hz1 : zK σ1 z = (14, 1) := by rw [(m1 z (fun q => by unfold xr at q; omega)).1]; exact hz
  generalize o_rotation A r s = o at h1 hQ on ⊢
  obtain ⟨n9, v9, A9⟩ := o
  match n9, on with
  | 0, _ =>
    show zW Γ mL_rotation 8 _ _ _ _ _ Q
    refine zW_nrm ?_
    have hv := nrm_in v9
    refine zW_i2l dL_rotation_8 (by first | assumption | omega | (unfold InR; omega) | (unfold InL; omega) | (simp only [InR] at *; omega)) ?_
    refine zW_last dL_rotation_9 hz1 (by first | assumption | omega | (unfold InR; omega) | (unfold InL; omega) | (simp only [InR] at *; omega)) (by first | assumption | omega | (unfold InR; omega) | (unfold InL; omega) | (simp only [InR] at *; omega)) (by first | assumption | omega | (unfold InR; omega) | (unfold InL; omega) | (simp only [InR] at *; omega)) ?_
    refine zW_goto (tgt := 21) dL_rotation_10 (by decide) ?_
    refine zW_iconst dL_rotation_21 ?_
    refine zW_ireturn dL_rotation_22 rfl rfl (by first | decide | (show _ ≤ (3 : Nat); omega)) (by first | decide | (show _ ≤ (18 : Nat); omega)) ?_
    exact hQ _ (h1.lz hzx) m1.lz hz1 (fun _ => zJ_sJs _ _ _ _)
  | 1, _ =>
    refine zWx_catch (E := eI) (pre := []) (suf := [(0, 10, 17, 70)]) (x := (0, 10, 13, 29)) rfl (fun z9 q9 => by cases q9) (by decide) (by decide) (by decide) b719 (by decide) (fun q => ?_)
    refine zW_astore dL_rotation_13 (by decide) rfl rfl ?_
    refine zW_iconst dL_rotation_15 ?_
    refine zW_ireturn dL_rotation_16 rfl rfl (by first | decide | (show _ ≤ (3 : Nat); omega)) (by first | decide | (show _ ≤ (18 : Nat); omega)) ?_
    exact hQ σ1 h1 m1.lz0 hz1 (fun e9 => absurd (show (1 : Nat) = 0 from e9) (by decide))
  | 2, _ =>
    refine zWx_catch (E := eN) (pre := [(0, 10, 13, 29)]) (suf := []) (x := (0, 10, 17, 70)) rfl (fun z9 q9 => by rw [List.mem_singleton.mp q9]; exact ⟨by decide, eI, b719, by decide⟩) (by decide) (by decide) (by decide) b855 (by decide) (fun q => ?_)
    refine zW_astore dL_rotation_17 (by decide) rfl rfl ?_
    refine zW_iconst dL_rotation_19 ?_
    refine zW_ireturn dL_rotation_20 rfl rfl (by first | decide | (show _ ≤ (3 : Nat); omega)) (by first | decide | (show _ ≤ (18 : Nat); omega)) ?_
    exact hQ σ1 h1 m1.lz0 hz1 (fun e9 => absurd (show (2 : Nat) = 0 from e9) (by decide))
  | j9 + 3, on => exact absurd on (by show ¬ (j9 + 3 ≤ 2); omega)
set_option maxRecDepth 100000 in
theorem on_rootExponent {r : Int} : (o_rootExponent A r).1 ≤ 2 := by
  unfold o_rootExponent
  try unfold g2
  try unfold g1
  try unfold gg2
  try unfold gg1
  try unfold o_store
  repeat' split
  all_goals first | exact Nat.zero_le _ | decide | (show (1 : Nat) ≤ _; decide) | (show (2 : Nat) ≤ _; decide) | (show (3 : Nat) ≤ _; decide)
set_option maxRecDepth 100000 in
theorem l_rootExponent {r : Int} (h : CI σ x A) (hz : zK σ z = (14, 1)) (hzx : z < x ∨ x + 521 ≤ z) (ir : InR r) (hQ : ∀ σ', CI σ' x (o_rootExponent A r).2.2 → Mx σ σ' (lzz x z) → zK σ' z = (14, 1) → ((o_rootExponent A r).1 = 0 → zJ σ' z 0 = nrm (o_rootExponent A r).2.1) → Q (.inl (some (vI ((o_rootExponent A r).1 : Nat)))) σ') : zM Γ mL_rootExponent [vR (some x), vI r, vR (some z)] σ Q := by
  have on := on_rootExponent (A := A) (r := r)
  refine zM_ofH (n := 1) (by decide +kernel) rfl rfl rfl ?_
  refine zW_aload_n dL_rootExponent_0 rfl ?_
  refine zW_iconst dL_rootExponent_1 ?_
  refine zW_aload_n dL_rootExponent_2 rfl ?_
  refine zW_iload_n dL_rootExponent_3 rfl ?_
  refine zhV1 dL_rootExponent_4 rfl eX9_rootExponent b879 ⟨by decide, by decide, by decide, by decide⟩ rfl h.xk.1 rfl (by decide) (Nat.le_of_ble_eq_true rfl) (c_rootExponent h ir (fun σ1 h1 m1 => ?_))
  have hz1 : zK σ1 z = (14, 1) := by rw [(m1 z (fun q => by unfold xr at q; omega)).1]; exact hz
  generalize o_rootExponent A r = o at h1 hQ on ⊢
  obtain ⟨n9, v9, A9⟩ := o
  match n9, on with
  | 0, _ =>
    show zW Γ mL_rootExponent 7 _ _ _ _ _ Q
    refine zW_nrm ?_
    have hv := nrm_in v9
    refine zW_i2l dL_rootExponent_7 (by first | assumption | omega | (unfold InR; omega) | (unfold InL; omega) | (simp only [InR] at *; omega)) ?_
    refine zW_last dL_rootExponent_8 hz1 (by first | assumption | omega | (unfold InR; omega) | (unfold InL; omega) | (simp only [InR] at *; omega)) (by first | assumption | omega | (unfold InR; omega) | (unfold InL; omega) | (simp only [InR] at *; omega)) (by first | assumption | omega | (unfold InR; omega) | (unfold InL; omega) | (simp only [InR] at *; omega)) ?_
    refine zW_goto (tgt := 18) dL_rootExponent_9 (by decide) ?_
    refine zW_iconst dL_rootExponent_18 ?_
    refine zW_ireturn dL_rootExponent_19 rfl rfl (by first | decide | (show _ ≤ (2 : Nat); omega)) (by first | decide | (show _ ≤ (12 : Nat); omega)) ?_
    exact hQ _ (h1.lz hzx) m1.lz hz1 (fun _ => zJ_sJs _ _ _ _)
  | 1, _ =>
    refine zWx_catch (E := eI) (pre := []) (suf := [(0, 9, 15, 70)]) (x := (0, 9, 12, 29)) rfl (fun z9 q9 => by cases q9) (by decide) (by decide) (by decide) b719 (by decide) (fun q => ?_)
    refine zW_astore_n dL_rootExponent_12 (by decide) rfl rfl ?_
    refine zW_iconst dL_rootExponent_13 ?_
    refine zW_ireturn dL_rootExponent_14 rfl rfl (by first | decide | (show _ ≤ (2 : Nat); omega)) (by first | decide | (show _ ≤ (12 : Nat); omega)) ?_
    exact hQ σ1 h1 m1.lz0 hz1 (fun e9 => absurd (show (1 : Nat) = 0 from e9) (by decide))
  | 2, _ =>
    refine zWx_catch (E := eN) (pre := [(0, 9, 12, 29)]) (suf := []) (x := (0, 9, 15, 70)) rfl (fun z9 q9 => by rw [List.mem_singleton.mp q9]; exact ⟨by decide, eI, b719, by decide⟩) (by decide) (by decide) (by decide) b855 (by decide) (fun q => ?_)
    refine zW_astore_n dL_rootExponent_15 (by decide) rfl rfl ?_
    refine zW_iconst dL_rootExponent_16 ?_
    refine zW_ireturn dL_rootExponent_17 rfl rfl (by first | decide | (show _ ≤ (2 : Nat); omega)) (by first | decide | (show _ ≤ (12 : Nat); omega)) ?_
    exact hQ σ1 h1 m1.lz0 hz1 (fun e9 => absurd (show (2 : Nat) = 0 from e9) (by decide))
  | j9 + 3, on => exact absurd on (by show ¬ (j9 + 3 ≤ 2); omega)
set_option maxRecDepth 100000 in
theorem on_magnusDegree {r : Int} : (o_magnusDegree A r).1 ≤ 1 := by
  unfold o_magnusDegree
  try unfold g2
  try unfold g1
  try unfold gg2
  try unfold gg1
  try unfold o_store
  repeat' split
  all_goals first | exact Nat.zero_le _ | decide | (show (1 : Nat) ≤ _; decide) | (show (2 : Nat) ≤ _; decide) | (show (3 : Nat) ≤ _; decide)
set_option maxRecDepth 100000 in
theorem l_magnusDegree {r : Int} (h : CI σ x A) (hz : zK σ z = (14, 1)) (hzx : z < x ∨ x + 521 ≤ z) (ir : InR r) (hQ : ∀ σ', CI σ' x (o_magnusDegree A r).2.2 → Mx σ σ' (lzz x z) → zK σ' z = (14, 1) → ((o_magnusDegree A r).1 = 0 → zJ σ' z 0 = nrm (o_magnusDegree A r).2.1) → Q (.inl (some (vI ((o_magnusDegree A r).1 : Nat)))) σ') : zM Γ mL_magnusDegree [vR (some x), vI r, vR (some z)] σ Q := by
  have on := on_magnusDegree (A := A) (r := r)
  refine zM_ofH (n := 1) (by decide +kernel) rfl rfl rfl ?_
  refine zW_aload_n dL_magnusDegree_0 rfl ?_
  refine zW_iconst dL_magnusDegree_1 ?_
  refine zW_aload_n dL_magnusDegree_2 rfl ?_
  refine zW_iload_n dL_magnusDegree_3 rfl ?_
  refine zhV1 dL_magnusDegree_4 rfl eX9_magnusDegree b903 ⟨by decide, by decide, by decide, by decide⟩ rfl h.xk.1 rfl (by decide) (Nat.le_of_ble_eq_true rfl) (c_magnusDegree h ir (fun σ1 h1 m1 => ?_))
  have hz1 : zK σ1 z = (14, 1) := by rw [(m1 z (fun q => by unfold xr at q; omega)).1]; exact hz
  generalize o_magnusDegree A r = o at h1 hQ on ⊢
  obtain ⟨n9, v9, A9⟩ := o
  match n9, on with
  | 0, _ =>
    show zW Γ mL_magnusDegree 7 _ _ _ _ _ Q
    refine zW_nrm ?_
    have hv := nrm_in v9
    refine zW_i2l dL_magnusDegree_7 (by first | assumption | omega | (unfold InR; omega) | (unfold InL; omega) | (simp only [InR] at *; omega)) ?_
    refine zW_last dL_magnusDegree_8 hz1 (by first | assumption | omega | (unfold InR; omega) | (unfold InL; omega) | (simp only [InR] at *; omega)) (by first | assumption | omega | (unfold InR; omega) | (unfold InL; omega) | (simp only [InR] at *; omega)) (by first | assumption | omega | (unfold InR; omega) | (unfold InL; omega) | (simp only [InR] at *; omega)) ?_
    refine zW_goto (tgt := 15) dL_magnusDegree_9 (by decide) ?_
    refine zW_iconst dL_magnusDegree_15 ?_
    refine zW_ireturn dL_magnusDegree_16 rfl rfl (by first | decide | (show _ ≤ (1 : Nat); omega)) (by first | decide | (show _ ≤ (6 : Nat); omega)) ?_
    exact hQ _ (h1.lz hzx) m1.lz hz1 (fun _ => zJ_sJs _ _ _ _)
  | 1, _ =>
    refine zWx_catch (E := eI) (pre := []) (suf := []) (x := (0, 9, 12, 29)) rfl (fun z9 q9 => by cases q9) (by decide) (by decide) (by decide) b719 (by decide) (fun q => ?_)
    refine zW_astore_n dL_magnusDegree_12 (by decide) rfl rfl ?_
    refine zW_iconst dL_magnusDegree_13 ?_
    refine zW_ireturn dL_magnusDegree_14 rfl rfl (by first | decide | (show _ ≤ (1 : Nat); omega)) (by first | decide | (show _ ≤ (6 : Nat); omega)) ?_
    exact hQ σ1 h1 m1.lz0 hz1 (fun e9 => absurd (show (1 : Nat) = 0 from e9) (by decide))
  | j9 + 2, on => exact absurd on (by show ¬ (j9 + 2 ≤ 1); omega)
set_option maxRecDepth 100000 in
theorem on_magnusCoefficient {r a b : Int} : (o_magnusCoefficient A r a b).1 ≤ 1 := by
  unfold o_magnusCoefficient
  try unfold g2
  try unfold g1
  try unfold gg2
  try unfold gg1
  try unfold o_store
  repeat' split
  all_goals first | exact Nat.zero_le _ | decide | (show (1 : Nat) ≤ _; decide) | (show (2 : Nat) ≤ _; decide) | (show (3 : Nat) ≤ _; decide)
set_option maxRecDepth 100000 in
theorem l_magnusCoefficient {r a b : Int} (h : CI σ x A) (hz : zK σ z = (14, 1)) (hzx : z < x ∨ x + 521 ≤ z) (ir : InR r) (ia : InR a) (ib : InR b) (hr9 : sRk (aSt A) ≤ 4) (hQ : ∀ σ', CI σ' x (o_magnusCoefficient A r a b).2.2 → Mx σ σ' (lzz x z) → zK σ' z = (14, 1) → ((o_magnusCoefficient A r a b).1 = 0 → zJ σ' z 0 = nrm (o_magnusCoefficient A r a b).2.1) → Q (.inl (some (vI ((o_magnusCoefficient A r a b).1 : Nat)))) σ') : zM Γ mL_magnusCoefficient [vR (some x), vI r, vI a, vI b, vR (some z)] σ Q := by
  have on := on_magnusCoefficient (A := A) (r := r) (a := a) (b := b)
  refine zM_ofH (n := 1) (by decide +kernel) rfl rfl rfl ?_
  refine zW_aload dL_magnusCoefficient_0 rfl ?_
  refine zW_iconst dL_magnusCoefficient_2 ?_
  refine zW_aload_n dL_magnusCoefficient_3 rfl ?_
  refine zW_iload_n dL_magnusCoefficient_4 rfl ?_
  refine zW_iload_n dL_magnusCoefficient_5 rfl ?_
  refine zW_iload_n dL_magnusCoefficient_6 rfl ?_
  refine zhV3 dL_magnusCoefficient_7 rfl eX9_magnusCoefficient b933 ⟨by decide, by decide, by decide, by decide⟩ rfl h.xk.1 rfl (by decide) (Nat.le_of_ble_eq_true rfl) (c_magnusCoefficient h ir ia ib hr9 (fun σ1 h1 m1 => ?_))
  have hz1 : zK σ1 z = (14, 1) := by rw [(m1 z (fun q => by unfold xr at q; omega)).1]; exact hz
  generalize o_magnusCoefficient A r a b = o at h1 hQ on ⊢
  obtain ⟨n9, v9, A9⟩ := o
  match n9, on with
  | 0, _ =>
    show zW Γ mL_magnusCoefficient 10 _ _ _ _ _ Q
    refine zW_nrm ?_
    have hv := nrm_in v9
    refine zW_i2l dL_magnusCoefficient_10 (by first | assumption | omega | (unfold InR; omega) | (unfold InL; omega) | (simp only [InR] at *; omega)) ?_
    refine zW_last dL_magnusCoefficient_11 hz1 (by first | assumption | omega | (unfold InR; omega) | (unfold InL; omega) | (simp only [InR] at *; omega)) (by first | assumption | omega | (unfold InR; omega) | (unfold InL; omega) | (simp only [InR] at *; omega)) (by first | assumption | omega | (unfold InR; omega) | (unfold InL; omega) | (simp only [InR] at *; omega)) ?_
    refine zW_goto (tgt := 19) dL_magnusCoefficient_12 (by decide) ?_
    refine zW_iconst dL_magnusCoefficient_19 ?_
    refine zW_ireturn dL_magnusCoefficient_20 rfl rfl (by first | decide | (show _ ≤ (3 : Nat); omega)) (by first | decide | (show _ ≤ (18 : Nat); omega)) ?_
    exact hQ _ (h1.lz hzx) m1.lz hz1 (fun _ => zJ_sJs _ _ _ _)
  | 1, _ =>
    refine zWx_catch (E := eI) (pre := []) (suf := []) (x := (0, 12, 15, 29)) rfl (fun z9 q9 => by cases q9) (by decide) (by decide) (by decide) b719 (by decide) (fun q => ?_)
    refine zW_astore dL_magnusCoefficient_15 (by decide) rfl rfl ?_
    refine zW_iconst dL_magnusCoefficient_17 ?_
    refine zW_ireturn dL_magnusCoefficient_18 rfl rfl (by first | decide | (show _ ≤ (3 : Nat); omega)) (by first | decide | (show _ ≤ (18 : Nat); omega)) ?_
    exact hQ σ1 h1 m1.lz0 hz1 (fun e9 => absurd (show (1 : Nat) = 0 from e9) (by decide))
  | j9 + 2, on => exact absurd on (by show ¬ (j9 + 2 ≤ 1); omega)
set_option maxRecDepth 100000 in
theorem on_magnusNorm {r d : Int} : (o_magnusNorm A r d).1 ≤ 2 := by
  unfold o_magnusNorm
  try unfold g2
  try unfold g1
  try unfold gg2
  try unfold gg1
  try unfold o_store
  repeat' split
  all_goals first | exact Nat.zero_le _ | decide | (show (1 : Nat) ≤ _; decide) | (show (2 : Nat) ≤ _; decide) | (show (3 : Nat) ≤ _; decide)
set_option maxRecDepth 100000 in
theorem l_magnusNorm {r d : Int} (h : CI σ x A) (hz : zK σ z = (14, 1)) (hzx : z < x ∨ x + 521 ≤ z) (ir : InR r) (id : InR d) (hQ : ∀ σ', CI σ' x (o_magnusNorm A r d).2.2 → Mx σ σ' (lzz x z) → zK σ' z = (14, 1) → ((o_magnusNorm A r d).1 = 0 → zJ σ' z 0 = nrmL (o_magnusNorm A r d).2.1) → Q (.inl (some (vI ((o_magnusNorm A r d).1 : Nat)))) σ') : zM Γ mL_magnusNorm [vR (some x), vI r, vI d, vR (some z)] σ Q := by
  have on := on_magnusNorm (A := A) (r := r) (d := d)
  refine zM_ofH (n := 1) (by decide +kernel) rfl rfl rfl ?_
  refine zW_aload_n dL_magnusNorm_0 rfl ?_
  refine zW_iconst dL_magnusNorm_1 ?_
  refine zW_aload_n dL_magnusNorm_2 rfl ?_
  refine zW_iload_n dL_magnusNorm_3 rfl ?_
  refine zW_iload_n dL_magnusNorm_4 rfl ?_
  refine zhV2 dL_magnusNorm_5 rfl eX9_magnusNorm b944 ⟨by decide, by decide, by decide, by decide⟩ rfl h.xk.1 rfl (by decide) (Nat.le_of_ble_eq_true rfl) (c_magnusNorm h ir id (fun σ1 h1 m1 => ?_))
  have hz1 : zK σ1 z = (14, 1) := by rw [(m1 z (fun q => by unfold xr at q; omega)).1]; exact hz
  generalize o_magnusNorm A r d = o at h1 hQ on ⊢
  obtain ⟨n9, v9, A9⟩ := o
  match n9, on with
  | 0, _ =>
    show zW Γ mL_magnusNorm 8 _ _ _ _ _ Q
    refine zW_nrmL ?_
    have hv := nrmL_in v9
    refine zW_last dL_magnusNorm_8 hz1 (by first | assumption | omega | (unfold InR; omega) | (unfold InL; omega) | (simp only [InR] at *; omega)) (by first | assumption | omega | (unfold InR; omega) | (unfold InL; omega) | (simp only [InR] at *; omega)) (by first | assumption | omega | (unfold InR; omega) | (unfold InL; omega) | (simp only [InR] at *; omega)) ?_
    refine zW_goto (tgt := 20) dL_magnusNorm_9 (by decide) ?_
    refine zW_iconst dL_magnusNorm_20 ?_
    refine zW_ireturn dL_magnusNorm_21 rfl rfl (by first | decide | (show _ ≤ (2 : Nat); omega)) (by first | decide | (show _ ≤ (12 : Nat); omega)) ?_
    exact hQ _ (h1.lz hzx) m1.lz hz1 (fun _ => zJ_sJs _ _ _ _)
  | 1, _ =>
    refine zWx_catch (E := eI) (pre := []) (suf := [(0, 9, 16, 19)]) (x := (0, 9, 12, 29)) rfl (fun z9 q9 => by cases q9) (by decide) (by decide) (by decide) b719 (by decide) (fun q => ?_)
    refine zW_astore dL_magnusNorm_12 (by decide) rfl rfl ?_
    refine zW_iconst dL_magnusNorm_14 ?_
    refine zW_ireturn dL_magnusNorm_15 rfl rfl (by first | decide | (show _ ≤ (2 : Nat); omega)) (by first | decide | (show _ ≤ (12 : Nat); omega)) ?_
    exact hQ σ1 h1 m1.lz0 hz1 (fun e9 => absurd (show (1 : Nat) = 0 from e9) (by decide))
  | 2, _ =>
    refine zWx_catch (E := eA) (pre := [(0, 9, 12, 29)]) (suf := []) (x := (0, 9, 16, 19)) rfl (fun z9 q9 => by rw [List.mem_singleton.mp q9]; exact ⟨by decide, eI, b719, by decide⟩) (by decide) (by decide) (by decide) b548 (by decide) (fun q => ?_)
    refine zW_astore dL_magnusNorm_16 (by decide) rfl rfl ?_
    refine zW_iconst dL_magnusNorm_18 ?_
    refine zW_ireturn dL_magnusNorm_19 rfl rfl (by first | decide | (show _ ≤ (2 : Nat); omega)) (by first | decide | (show _ ≤ (12 : Nat); omega)) ?_
    exact hQ σ1 h1 m1.lz0 hz1 (fun e9 => absurd (show (2 : Nat) = 0 from e9) (by decide))
  | j9 + 3, on => exact absurd on (by show ¬ (j9 + 3 ≤ 2); omega)
set_option maxRecDepth 100000 in
theorem on_generatingWordCount {g : Int} : (o_generatingWordCount A g).1 ≤ 1 := by
  unfold o_generatingWordCount
  try unfold g2
  try unfold g1
  try unfold gg2
  try unfold gg1
  try unfold o_store
  repeat' split
  all_goals first | exact Nat.zero_le _ | decide | (show (1 : Nat) ≤ _; decide) | (show (2 : Nat) ≤ _; decide) | (show (3 : Nat) ≤ _; decide)
set_option maxRecDepth 100000 in
theorem l_generatingWordCount {g : Int} (h : CI σ x A) (hz : zK σ z = (14, 1)) (hzx : z < x ∨ x + 521 ≤ z) (ig : InR g) (hQ : ∀ σ', CI σ' x (o_generatingWordCount A g).2.2 → Mx σ σ' (lzz x z) → zK σ' z = (14, 1) → ((o_generatingWordCount A g).1 = 0 → zJ σ' z 0 = nrm (o_generatingWordCount A g).2.1) → Q (.inl (some (vI ((o_generatingWordCount A g).1 : Nat)))) σ') : zM Γ mL_generatingWordCount [vR (some x), vI g, vR (some z)] σ Q := by
  have on := on_generatingWordCount (A := A) (g := g)
  refine zM_ofH (n := 1) (by decide +kernel) rfl rfl rfl ?_
  refine zW_aload_n dL_generatingWordCount_0 rfl ?_
  refine zW_iconst dL_generatingWordCount_1 ?_
  refine zW_aload_n dL_generatingWordCount_2 rfl ?_
  refine zW_iload_n dL_generatingWordCount_3 rfl ?_
  refine zhV1 dL_generatingWordCount_4 rfl eX9_generatingWordCount b952 ⟨by decide, by decide, by decide, by decide⟩ rfl h.xk.1 rfl (by decide) (Nat.le_of_ble_eq_true rfl) (c_generatingWordCount h ig (fun σ1 h1 m1 => ?_))
  have hz1 : zK σ1 z = (14, 1) := by rw [(m1 z (fun q => by unfold xr at q; omega)).1]; exact hz
  generalize o_generatingWordCount A g = o at h1 hQ on ⊢
  obtain ⟨n9, v9, A9⟩ := o
  match n9, on with
  | 0, _ =>
    show zW Γ mL_generatingWordCount 7 _ _ _ _ _ Q
    refine zW_nrm ?_
    have hv := nrm_in v9
    refine zW_i2l dL_generatingWordCount_7 (by first | assumption | omega | (unfold InR; omega) | (unfold InL; omega) | (simp only [InR] at *; omega)) ?_
    refine zW_last dL_generatingWordCount_8 hz1 (by first | assumption | omega | (unfold InR; omega) | (unfold InL; omega) | (simp only [InR] at *; omega)) (by first | assumption | omega | (unfold InR; omega) | (unfold InL; omega) | (simp only [InR] at *; omega)) (by first | assumption | omega | (unfold InR; omega) | (unfold InL; omega) | (simp only [InR] at *; omega)) ?_
    refine zW_goto (tgt := 15) dL_generatingWordCount_9 (by decide) ?_
    refine zW_iconst dL_generatingWordCount_15 ?_
    refine zW_ireturn dL_generatingWordCount_16 rfl rfl (by first | decide | (show _ ≤ (1 : Nat); omega)) (by first | decide | (show _ ≤ (6 : Nat); omega)) ?_
    exact hQ _ (h1.lz hzx) m1.lz hz1 (fun _ => zJ_sJs _ _ _ _)
  | 1, _ =>
    refine zWx_catch (E := eI) (pre := []) (suf := []) (x := (0, 9, 12, 29)) rfl (fun z9 q9 => by cases q9) (by decide) (by decide) (by decide) b719 (by decide) (fun q => ?_)
    refine zW_astore_n dL_generatingWordCount_12 (by decide) rfl rfl ?_
    refine zW_iconst dL_generatingWordCount_13 ?_
    refine zW_ireturn dL_generatingWordCount_14 rfl rfl (by first | decide | (show _ ≤ (1 : Nat); omega)) (by first | decide | (show _ ≤ (6 : Nat); omega)) ?_
    exact hQ σ1 h1 m1.lz0 hz1 (fun e9 => absurd (show (1 : Nat) = 0 from e9) (by decide))
  | j9 + 2, on => exact absurd on (by show ¬ (j9 + 2 ≤ 1); omega)
set_option maxRecDepth 100000 in
theorem on_vertexCount {g : Int} : (o_vertexCount A g).1 ≤ 1 := by
  unfold o_vertexCount
  try unfold g2
  try unfold g1
  try unfold gg2
  try unfold gg1
  try unfold o_store
  repeat' split
  all_goals first | exact Nat.zero_le _ | decide | (show (1 : Nat) ≤ _; decide) | (show (2 : Nat) ≤ _; decide) | (show (3 : Nat) ≤ _; decide)
set_option maxRecDepth 100000 in
theorem l_vertexCount {g : Int} (h : CI σ x A) (hz : zK σ z = (14, 1)) (hzx : z < x ∨ x + 521 ≤ z) (ig : InR g) (hQ : ∀ σ', CI σ' x (o_vertexCount A g).2.2 → Mx σ σ' (lzz x z) → zK σ' z = (14, 1) → ((o_vertexCount A g).1 = 0 → zJ σ' z 0 = nrm (o_vertexCount A g).2.1) → Q (.inl (some (vI ((o_vertexCount A g).1 : Nat)))) σ') : zM Γ mL_vertexCount [vR (some x), vI g, vR (some z)] σ Q := by
  have on := on_vertexCount (A := A) (g := g)
  refine zM_ofH (n := 1) (by decide +kernel) rfl rfl rfl ?_
  refine zW_aload_n dL_vertexCount_0 rfl ?_
  refine zW_iconst dL_vertexCount_1 ?_
  refine zW_aload_n dL_vertexCount_2 rfl ?_
  refine zW_iload_n dL_vertexCount_3 rfl ?_
  refine zhV1 dL_vertexCount_4 rfl eX9_vertexCount b959 ⟨by decide, by decide, by decide, by decide⟩ rfl h.xk.1 rfl (by decide) (Nat.le_of_ble_eq_true rfl) (c_vertexCount h ig (fun σ1 h1 m1 => ?_))
  have hz1 : zK σ1 z = (14, 1) := by rw [(m1 z (fun q => by unfold xr at q; omega)).1]; exact hz
  generalize o_vertexCount A g = o at h1 hQ on ⊢
  obtain ⟨n9, v9, A9⟩ := o
  match n9, on with
  | 0, _ =>
    show zW Γ mL_vertexCount 7 _ _ _ _ _ Q
    refine zW_nrm ?_
    have hv := nrm_in v9
    refine zW_i2l dL_vertexCount_7 (by first | assumption | omega | (unfold InR; omega) | (unfold InL; omega) | (simp only [InR] at *; omega)) ?_
    refine zW_last dL_vertexCount_8 hz1 (by first | assumption | omega | (unfold InR; omega) | (unfold InL; omega) | (simp only [InR] at *; omega)) (by first | assumption | omega | (unfold InR; omega) | (unfold InL; omega) | (simp only [InR] at *; omega)) (by first | assumption | omega | (unfold InR; omega) | (unfold InL; omega) | (simp only [InR] at *; omega)) ?_
    refine zW_goto (tgt := 15) dL_vertexCount_9 (by decide) ?_
    refine zW_iconst dL_vertexCount_15 ?_
    refine zW_ireturn dL_vertexCount_16 rfl rfl (by first | decide | (show _ ≤ (1 : Nat); omega)) (by first | decide | (show _ ≤ (6 : Nat); omega)) ?_
    exact hQ _ (h1.lz hzx) m1.lz hz1 (fun _ => zJ_sJs _ _ _ _)
  | 1, _ =>
    refine zWx_catch (E := eI) (pre := []) (suf := []) (x := (0, 9, 12, 29)) rfl (fun z9 q9 => by cases q9) (by decide) (by decide) (by decide) b719 (by decide) (fun q => ?_)
    refine zW_astore_n dL_vertexCount_12 (by decide) rfl rfl ?_
    refine zW_iconst dL_vertexCount_13 ?_
    refine zW_ireturn dL_vertexCount_14 rfl rfl (by first | decide | (show _ ≤ (1 : Nat); omega)) (by first | decide | (show _ ≤ (6 : Nat); omega)) ?_
    exact hQ σ1 h1 m1.lz0 hz1 (fun e9 => absurd (show (1 : Nat) = 0 from e9) (by decide))
  | j9 + 2, on => exact absurd on (by show ¬ (j9 + 2 ≤ 1); omega)
set_option maxRecDepth 100000 in
theorem on_edgeCount {g : Int} : (o_edgeCount A g).1 ≤ 1 := by
  unfold o_edgeCount
  try unfold g2
  try unfold g1
  try unfold gg2
  try unfold gg1
  try unfold o_store
  repeat' split
  all_goals first | exact Nat.zero_le _ | decide | (show (1 : Nat) ≤ _; decide) | (show (2 : Nat) ≤ _; decide) | (show (3 : Nat) ≤ _; decide)
set_option maxRecDepth 100000 in
theorem l_edgeCount {g : Int} (h : CI σ x A) (hz : zK σ z = (14, 1)) (hzx : z < x ∨ x + 521 ≤ z) (ig : InR g) (hQ : ∀ σ', CI σ' x (o_edgeCount A g).2.2 → Mx σ σ' (lzz x z) → zK σ' z = (14, 1) → ((o_edgeCount A g).1 = 0 → zJ σ' z 0 = nrm (o_edgeCount A g).2.1) → Q (.inl (some (vI ((o_edgeCount A g).1 : Nat)))) σ') : zM Γ mL_edgeCount [vR (some x), vI g, vR (some z)] σ Q := by
  have on := on_edgeCount (A := A) (g := g)
  refine zM_ofH (n := 1) (by decide +kernel) rfl rfl rfl ?_
  refine zW_aload_n dL_edgeCount_0 rfl ?_
  refine zW_iconst dL_edgeCount_1 ?_
  refine zW_aload_n dL_edgeCount_2 rfl ?_
  refine zW_iload_n dL_edgeCount_3 rfl ?_
  refine zhV1 dL_edgeCount_4 rfl eX9_edgeCount b966 ⟨by decide, by decide, by decide, by decide⟩ rfl h.xk.1 rfl (by decide) (Nat.le_of_ble_eq_true rfl) (c_edgeCount h ig (fun σ1 h1 m1 => ?_))
  have hz1 : zK σ1 z = (14, 1) := by rw [(m1 z (fun q => by unfold xr at q; omega)).1]; exact hz
  generalize o_edgeCount A g = o at h1 hQ on ⊢
  obtain ⟨n9, v9, A9⟩ := o
  match n9, on with
  | 0, _ =>
    show zW Γ mL_edgeCount 7 _ _ _ _ _ Q
    refine zW_nrm ?_
    have hv := nrm_in v9
    refine zW_i2l dL_edgeCount_7 (by first | assumption | omega | (unfold InR; omega) | (unfold InL; omega) | (simp only [InR] at *; omega)) ?_
    refine zW_last dL_edgeCount_8 hz1 (by first | assumption | omega | (unfold InR; omega) | (unfold InL; omega) | (simp only [InR] at *; omega)) (by first | assumption | omega | (unfold InR; omega) | (unfold InL; omega) | (simp only [InR] at *; omega)) (by first | assumption | omega | (unfold InR; omega) | (unfold InL; omega) | (simp only [InR] at *; omega)) ?_
    refine zW_goto (tgt := 15) dL_edgeCount_9 (by decide) ?_
    refine zW_iconst dL_edgeCount_15 ?_
    refine zW_ireturn dL_edgeCount_16 rfl rfl (by first | decide | (show _ ≤ (1 : Nat); omega)) (by first | decide | (show _ ≤ (6 : Nat); omega)) ?_
    exact hQ _ (h1.lz hzx) m1.lz hz1 (fun _ => zJ_sJs _ _ _ _)
  | 1, _ =>
    refine zWx_catch (E := eI) (pre := []) (suf := []) (x := (0, 9, 12, 29)) rfl (fun z9 q9 => by cases q9) (by decide) (by decide) (by decide) b719 (by decide) (fun q => ?_)
    refine zW_astore_n dL_edgeCount_12 (by decide) rfl rfl ?_
    refine zW_iconst dL_edgeCount_13 ?_
    refine zW_ireturn dL_edgeCount_14 rfl rfl (by first | decide | (show _ ≤ (1 : Nat); omega)) (by first | decide | (show _ ≤ (6 : Nat); omega)) ?_
    exact hQ σ1 h1 m1.lz0 hz1 (fun e9 => absurd (show (1 : Nat) = 0 from e9) (by decide))
  | j9 + 2, on => exact absurd on (by show ¬ (j9 + 2 ≤ 1); omega)
set_option maxRecDepth 100000 in
theorem on_neighbour {g v c : Int} : (o_neighbour A g v c).1 ≤ 1 := by
  unfold o_neighbour
  try unfold g2
  try unfold g1
  try unfold gg2
  try unfold gg1
  try unfold o_store
  repeat' split
  all_goals first | exact Nat.zero_le _ | decide | (show (1 : Nat) ≤ _; decide) | (show (2 : Nat) ≤ _; decide) | (show (3 : Nat) ≤ _; decide)
set_option maxRecDepth 100000 in
theorem l_neighbour {g v c : Int} (h : CI σ x A) (hz : zK σ z = (14, 1)) (hzx : z < x ∨ x + 521 ≤ z) (ig : InR g) (iv : InR v) (ic : InR c) (hr9 : sRk (aSt A) ≤ 4) (hQ : ∀ σ', CI σ' x (o_neighbour A g v c).2.2 → Mx σ σ' (lzz x z) → zK σ' z = (14, 1) → ((o_neighbour A g v c).1 = 0 → zJ σ' z 0 = nrm (o_neighbour A g v c).2.1) → Q (.inl (some (vI ((o_neighbour A g v c).1 : Nat)))) σ') : zM Γ mL_neighbour [vR (some x), vI g, vI v, vI c, vR (some z)] σ Q := by
  have on := on_neighbour (A := A) (g := g) (v := v) (c := c)
  refine zM_ofH (n := 1) (by decide +kernel) rfl rfl rfl ?_
  refine zW_aload dL_neighbour_0 rfl ?_
  refine zW_iconst dL_neighbour_2 ?_
  refine zW_aload_n dL_neighbour_3 rfl ?_
  refine zW_iload_n dL_neighbour_4 rfl ?_
  refine zW_iload_n dL_neighbour_5 rfl ?_
  refine zW_iload_n dL_neighbour_6 rfl ?_
  refine zhV3 dL_neighbour_7 rfl eX9_neighbour b973 ⟨by decide, by decide, by decide, by decide⟩ rfl h.xk.1 rfl (by decide) (Nat.le_of_ble_eq_true rfl) (c_neighbour h ig iv ic hr9 (fun σ1 h1 m1 => ?_))
  have hz1 : zK σ1 z = (14, 1) := by rw [(m1 z (fun q => by unfold xr at q; omega)).1]; exact hz
  generalize o_neighbour A g v c = o at h1 hQ on ⊢
  obtain ⟨n9, v9, A9⟩ := o
  match n9, on with
  | 0, _ =>
    show zW Γ mL_neighbour 10 _ _ _ _ _ Q
    refine zW_nrm ?_
    have hv := nrm_in v9
    refine zW_i2l dL_neighbour_10 (by first | assumption | omega | (unfold InR; omega) | (unfold InL; omega) | (simp only [InR] at *; omega)) ?_
    refine zW_last dL_neighbour_11 hz1 (by first | assumption | omega | (unfold InR; omega) | (unfold InL; omega) | (simp only [InR] at *; omega)) (by first | assumption | omega | (unfold InR; omega) | (unfold InL; omega) | (simp only [InR] at *; omega)) (by first | assumption | omega | (unfold InR; omega) | (unfold InL; omega) | (simp only [InR] at *; omega)) ?_
    refine zW_goto (tgt := 19) dL_neighbour_12 (by decide) ?_
    refine zW_iconst dL_neighbour_19 ?_
    refine zW_ireturn dL_neighbour_20 rfl rfl (by first | decide | (show _ ≤ (3 : Nat); omega)) (by first | decide | (show _ ≤ (18 : Nat); omega)) ?_
    exact hQ _ (h1.lz hzx) m1.lz hz1 (fun _ => zJ_sJs _ _ _ _)
  | 1, _ =>
    refine zWx_catch (E := eI) (pre := []) (suf := []) (x := (0, 12, 15, 29)) rfl (fun z9 q9 => by cases q9) (by decide) (by decide) (by decide) b719 (by decide) (fun q => ?_)
    refine zW_astore dL_neighbour_15 (by decide) rfl rfl ?_
    refine zW_iconst dL_neighbour_17 ?_
    refine zW_ireturn dL_neighbour_18 rfl rfl (by first | decide | (show _ ≤ (3 : Nat); omega)) (by first | decide | (show _ ≤ (18 : Nat); omega)) ?_
    exact hQ σ1 h1 m1.lz0 hz1 (fun e9 => absurd (show (1 : Nat) = 0 from e9) (by decide))
  | j9 + 2, on => exact absurd on (by show ¬ (j9 + 2 ≤ 1); omega)
set_option maxRecDepth 100000 in
theorem on_subgroupRank {g : Int} : (o_subgroupRank A g).1 ≤ 1 := by
  unfold o_subgroupRank
  try unfold g2
  try unfold g1
  try unfold gg2
  try unfold gg1
  try unfold o_store
  repeat' split
  all_goals first | exact Nat.zero_le _ | decide | (show (1 : Nat) ≤ _; decide) | (show (2 : Nat) ≤ _; decide) | (show (3 : Nat) ≤ _; decide)
set_option maxRecDepth 100000 in
theorem l_subgroupRank {g : Int} (h : CI σ x A) (hz : zK σ z = (14, 1)) (hzx : z < x ∨ x + 521 ≤ z) (ig : InR g) (hQ : ∀ σ', CI σ' x (o_subgroupRank A g).2.2 → Mx σ σ' (lzz x z) → zK σ' z = (14, 1) → ((o_subgroupRank A g).1 = 0 → zJ σ' z 0 = nrm (o_subgroupRank A g).2.1) → Q (.inl (some (vI ((o_subgroupRank A g).1 : Nat)))) σ') : zM Γ mL_subgroupRank [vR (some x), vI g, vR (some z)] σ Q := by
  have on := on_subgroupRank (A := A) (g := g)
  refine zM_ofH (n := 1) (by decide +kernel) rfl rfl rfl ?_
  refine zW_aload_n dL_subgroupRank_0 rfl ?_
  refine zW_iconst dL_subgroupRank_1 ?_
  refine zW_aload_n dL_subgroupRank_2 rfl ?_
  refine zW_iload_n dL_subgroupRank_3 rfl ?_
  refine zhV1 dL_subgroupRank_4 rfl eX9_subgroupRank b981 ⟨by decide, by decide, by decide, by decide⟩ rfl h.xk.1 rfl (by decide) (Nat.le_of_ble_eq_true rfl) (c_subgroupRank h ig (fun σ1 h1 m1 => ?_))
  have hz1 : zK σ1 z = (14, 1) := by rw [(m1 z (fun q => by unfold xr at q; omega)).1]; exact hz
  generalize o_subgroupRank A g = o at h1 hQ on ⊢
  obtain ⟨n9, v9, A9⟩ := o
  match n9, on with
  | 0, _ =>
    show zW Γ mL_subgroupRank 7 _ _ _ _ _ Q
    refine zW_nrm ?_
    have hv := nrm_in v9
    refine zW_i2l dL_subgroupRank_7 (by first | assumption | omega | (unfold InR; omega) | (unfold InL; omega) | (simp only [InR] at *; omega)) ?_
    refine zW_last dL_subgroupRank_8 hz1 (by first | assumption | omega | (unfold InR; omega) | (unfold InL; omega) | (simp only [InR] at *; omega)) (by first | assumption | omega | (unfold InR; omega) | (unfold InL; omega) | (simp only [InR] at *; omega)) (by first | assumption | omega | (unfold InR; omega) | (unfold InL; omega) | (simp only [InR] at *; omega)) ?_
    refine zW_goto (tgt := 15) dL_subgroupRank_9 (by decide) ?_
    refine zW_iconst dL_subgroupRank_15 ?_
    refine zW_ireturn dL_subgroupRank_16 rfl rfl (by first | decide | (show _ ≤ (1 : Nat); omega)) (by first | decide | (show _ ≤ (6 : Nat); omega)) ?_
    exact hQ _ (h1.lz hzx) m1.lz hz1 (fun _ => zJ_sJs _ _ _ _)
  | 1, _ =>
    refine zWx_catch (E := eI) (pre := []) (suf := []) (x := (0, 9, 12, 29)) rfl (fun z9 q9 => by cases q9) (by decide) (by decide) (by decide) b719 (by decide) (fun q => ?_)
    refine zW_astore_n dL_subgroupRank_12 (by decide) rfl rfl ?_
    refine zW_iconst dL_subgroupRank_13 ?_
    refine zW_ireturn dL_subgroupRank_14 rfl rfl (by first | decide | (show _ ≤ (1 : Nat); omega)) (by first | decide | (show _ ≤ (6 : Nat); omega)) ?_
    exact hQ σ1 h1 m1.lz0 hz1 (fun e9 => absurd (show (1 : Nat) = 0 from e9) (by decide))
  | j9 + 2, on => exact absurd on (by show ¬ (j9 + 2 ≤ 1); omega)
set_option maxRecDepth 100000 in
theorem on_index {g : Int} : (o_index A g).1 ≤ 1 := by
  unfold o_index
  try unfold g2
  try unfold g1
  try unfold gg2
  try unfold gg1
  try unfold o_store
  repeat' split
  all_goals first | exact Nat.zero_le _ | decide | (show (1 : Nat) ≤ _; decide) | (show (2 : Nat) ≤ _; decide) | (show (3 : Nat) ≤ _; decide)
set_option maxRecDepth 100000 in
theorem l_index {g : Int} (h : CI σ x A) (hz : zK σ z = (14, 1)) (hzx : z < x ∨ x + 521 ≤ z) (ig : InR g) (hr9 : sRk (aSt A) ≤ 4) (hQ : ∀ σ', CI σ' x (o_index A g).2.2 → Mx σ σ' (lzz x z) → zK σ' z = (14, 1) → ((o_index A g).1 = 0 → zJ σ' z 0 = nrm (o_index A g).2.1) → Q (.inl (some (vI ((o_index A g).1 : Nat)))) σ') : zM Γ mL_index [vR (some x), vI g, vR (some z)] σ Q := by
  have on := on_index (A := A) (g := g)
  refine zM_ofH (n := 1) (by decide +kernel) rfl rfl rfl ?_
  refine zW_aload_n dL_index_0 rfl ?_
  refine zW_iconst dL_index_1 ?_
  refine zW_aload_n dL_index_2 rfl ?_
  refine zW_iload_n dL_index_3 rfl ?_
  refine zhV1 dL_index_4 rfl eX9_index b992 ⟨by decide, by decide, by decide, by decide⟩ rfl h.xk.1 rfl (by decide) (Nat.le_of_ble_eq_true rfl) (c_index h ig hr9 (fun σ1 h1 m1 => ?_))
  have hz1 : zK σ1 z = (14, 1) := by rw [(m1 z (fun q => by unfold xr at q; omega)).1]; exact hz
  generalize o_index A g = o at h1 hQ on ⊢
  obtain ⟨n9, v9, A9⟩ := o
  match n9, on with
  | 0, _ =>
    show zW Γ mL_index 7 _ _ _ _ _ Q
    refine zW_nrm ?_
    have hv := nrm_in v9
    refine zW_i2l dL_index_7 (by first | assumption | omega | (unfold InR; omega) | (unfold InL; omega) | (simp only [InR] at *; omega)) ?_
    refine zW_last dL_index_8 hz1 (by first | assumption | omega | (unfold InR; omega) | (unfold InL; omega) | (simp only [InR] at *; omega)) (by first | assumption | omega | (unfold InR; omega) | (unfold InL; omega) | (simp only [InR] at *; omega)) (by first | assumption | omega | (unfold InR; omega) | (unfold InL; omega) | (simp only [InR] at *; omega)) ?_
    refine zW_goto (tgt := 15) dL_index_9 (by decide) ?_
    refine zW_iconst dL_index_15 ?_
    refine zW_ireturn dL_index_16 rfl rfl (by first | decide | (show _ ≤ (1 : Nat); omega)) (by first | decide | (show _ ≤ (6 : Nat); omega)) ?_
    exact hQ _ (h1.lz hzx) m1.lz hz1 (fun _ => zJ_sJs _ _ _ _)
  | 1, _ =>
    refine zWx_catch (E := eI) (pre := []) (suf := []) (x := (0, 9, 12, 29)) rfl (fun z9 q9 => by cases q9) (by decide) (by decide) (by decide) b719 (by decide) (fun q => ?_)
    refine zW_astore_n dL_index_12 (by decide) rfl rfl ?_
    refine zW_iconst dL_index_13 ?_
    refine zW_ireturn dL_index_14 rfl rfl (by first | decide | (show _ ≤ (1 : Nat); omega)) (by first | decide | (show _ ≤ (6 : Nat); omega)) ?_
    exact hQ σ1 h1 m1.lz0 hz1 (fun e9 => absurd (show (1 : Nat) = 0 from e9) (by decide))
  | j9 + 2, on => exact absurd on (by show ¬ (j9 + 2 ≤ 1); omega)
set_option maxRecDepth 100000 in
theorem on_contains {g r : Int} : (o_contains A g r).1 ≤ 1 := by
  unfold o_contains
  try unfold g2
  try unfold g1
  try unfold gg2
  try unfold gg1
  try unfold o_store
  repeat' split
  all_goals first | exact Nat.zero_le _ | decide | (show (1 : Nat) ≤ _; decide) | (show (2 : Nat) ≤ _; decide) | (show (3 : Nat) ≤ _; decide)
set_option maxRecDepth 100000 in
theorem l_contains {g r : Int} (h : CI σ x A) (hz : zK σ z = (14, 1)) (hzx : z < x ∨ x + 521 ≤ z) (ig : InR g) (ir : InR r) (hQ : ∀ σ', CI σ' x (o_contains A g r).2.2 → Mx σ σ' (lzz x z) → zK σ' z = (14, 1) → ((o_contains A g r).1 = 0 → zJ σ' z 0 = bln (o_contains A g r).2.1) → Q (.inl (some (vI ((o_contains A g r).1 : Nat)))) σ') : zM Γ mL_contains [vR (some x), vI g, vI r, vR (some z)] σ Q := by
  have on := on_contains (A := A) (g := g) (r := r)
  refine zM_ofH (n := 1) (by decide +kernel) rfl rfl rfl ?_
  refine zW_aload_n dL_contains_0 rfl ?_
  refine zW_iconst dL_contains_1 ?_
  refine zW_aload_n dL_contains_2 rfl ?_
  refine zW_iload_n dL_contains_3 rfl ?_
  refine zW_iload_n dL_contains_4 rfl ?_
  refine zhV2 dL_contains_5 rfl eX9_contains b999 ⟨by decide, by decide, by decide, by decide⟩ rfl h.xk.1 rfl (by decide) (Nat.le_of_ble_eq_true rfl) (c_contains h ig ir (fun σ1 h1 m1 => ?_))
  have hz1 : zK σ1 z = (14, 1) := by rw [(m1 z (fun q => by unfold xr at q; omega)).1]; exact hz
  generalize o_contains A g r = o at h1 hQ on ⊢
  obtain ⟨n9, v9, A9⟩ := o
  match n9, on with
  | 0, _ =>
    show zW Γ mL_contains 8 _ _ _ _ _ Q
    refine zW_nrm ?_
    have hv := nrm_in v9
    refine zW_if_eq (tgt := 15) dL_contains_8 (by decide) (by first | assumption | omega | (unfold InR; omega) | (unfold InL; omega) | (simp only [InR] at *; omega)) (fun b => ?_) (fun b => ?_)
    · refine zW_lconst dL_contains_15 (z := 0) (by decide) ?_
      refine zW_last dL_contains_16 hz1 (by first | assumption | omega | (unfold InR; omega) | (unfold InL; omega) | (simp only [InR] at *; omega)) (by first | assumption | omega | (unfold InR; omega) | (unfold InL; omega) | (simp only [InR] at *; omega)) (by first | assumption | omega | (unfold InR; omega) | (unfold InL; omega) | (simp only [InR] at *; omega)) ?_
      refine zW_goto (tgt := 24) dL_contains_17 (by decide) ?_
      refine zW_iconst dL_contains_24 ?_
      refine zW_ireturn dL_contains_25 rfl rfl (by first | decide | (show _ ≤ (2 : Nat); omega)) (by first | decide | (show _ ≤ (12 : Nat); omega)) ?_
      exact hQ _ (h1.lz hzx) m1.lz hz1 (fun _ => (zJ_sJs σ1 z 0 _).trans (if_pos b).symm)
    · refine zW_lconst dL_contains_11 (z := 1) (by decide) ?_
      refine zW_goto (tgt := 16) dL_contains_12 (by decide) ?_
      refine zW_last dL_contains_16 hz1 (by first | assumption | omega | (unfold InR; omega) | (unfold InL; omega) | (simp only [InR] at *; omega)) (by first | assumption | omega | (unfold InR; omega) | (unfold InL; omega) | (simp only [InR] at *; omega)) (by first | assumption | omega | (unfold InR; omega) | (unfold InL; omega) | (simp only [InR] at *; omega)) ?_
      refine zW_goto (tgt := 24) dL_contains_17 (by decide) ?_
      refine zW_iconst dL_contains_24 ?_
      refine zW_ireturn dL_contains_25 rfl rfl (by first | decide | (show _ ≤ (2 : Nat); omega)) (by first | decide | (show _ ≤ (12 : Nat); omega)) ?_
      exact hQ _ (h1.lz hzx) m1.lz hz1 (fun _ => (zJ_sJs σ1 z 0 _).trans (if_neg b).symm)
  | 1, _ =>
    refine zWx_catch (E := eI) (pre := []) (suf := []) (x := (0, 17, 20, 29)) rfl (fun z9 q9 => by cases q9) (by decide) (by decide) (by decide) b719 (by decide) (fun q => ?_)
    refine zW_astore dL_contains_20 (by decide) rfl rfl ?_
    refine zW_iconst dL_contains_22 ?_
    refine zW_ireturn dL_contains_23 rfl rfl (by first | decide | (show _ ≤ (2 : Nat); omega)) (by first | decide | (show _ ≤ (12 : Nat); omega)) ?_
    exact hQ σ1 h1 m1.lz0 hz1 (fun e9 => absurd (show (1 : Nat) = 0 from e9) (by decide))
  | j9 + 2, on => exact absurd on (by show ¬ (j9 + 2 ≤ 1); omega)
set_option maxRecDepth 100000 in
theorem on_reachedVertex {g r : Int} : (o_reachedVertex A g r).1 ≤ 1 := by
  unfold o_reachedVertex
  try unfold g2
  try unfold g1
  try unfold gg2
  try unfold gg1
  try unfold o_store
  repeat' split
  all_goals first | exact Nat.zero_le _ | decide | (show (1 : Nat) ≤ _; decide) | (show (2 : Nat) ≤ _; decide) | (show (3 : Nat) ≤ _; decide)
set_option maxRecDepth 100000 in
theorem l_reachedVertex {g r : Int} (h : CI σ x A) (hz : zK σ z = (14, 1)) (hzx : z < x ∨ x + 521 ≤ z) (ig : InR g) (ir : InR r) (hQ : ∀ σ', CI σ' x (o_reachedVertex A g r).2.2 → Mx σ σ' (lzz x z) → zK σ' z = (14, 1) → ((o_reachedVertex A g r).1 = 0 → zJ σ' z 0 = nrm (o_reachedVertex A g r).2.1) → Q (.inl (some (vI ((o_reachedVertex A g r).1 : Nat)))) σ') : zM Γ mL_reachedVertex [vR (some x), vI g, vI r, vR (some z)] σ Q := by
  have on := on_reachedVertex (A := A) (g := g) (r := r)
  refine zM_ofH (n := 1) (by decide +kernel) rfl rfl rfl ?_
  refine zW_aload_n dL_reachedVertex_0 rfl ?_
  refine zW_iconst dL_reachedVertex_1 ?_
  refine zW_aload_n dL_reachedVertex_2 rfl ?_
  refine zW_iload_n dL_reachedVertex_3 rfl ?_
  refine zW_iload_n dL_reachedVertex_4 rfl ?_
  refine zhV2 dL_reachedVertex_5 rfl eX9_reachedVertex b1014 ⟨by decide, by decide, by decide, by decide⟩ rfl h.xk.1 rfl (by decide) (Nat.le_of_ble_eq_true rfl) (c_reachedVertex h ig ir (fun σ1 h1 m1 => ?_))
  have hz1 : zK σ1 z = (14, 1) := by rw [(m1 z (fun q => by unfold xr at q; omega)).1]; exact hz
  generalize o_reachedVertex A g r = o at h1 hQ on ⊢
  obtain ⟨n9, v9, A9⟩ := o
  match n9, on with
  | 0, _ =>
    show zW Γ mL_reachedVertex 8 _ _ _ _ _ Q
    refine zW_nrm ?_
    have hv := nrm_in v9
    refine zW_i2l dL_reachedVertex_8 (by first | assumption | omega | (unfold InR; omega) | (unfold InL; omega) | (simp only [InR] at *; omega)) ?_
    refine zW_last dL_reachedVertex_9 hz1 (by first | assumption | omega | (unfold InR; omega) | (unfold InL; omega) | (simp only [InR] at *; omega)) (by first | assumption | omega | (unfold InR; omega) | (unfold InL; omega) | (simp only [InR] at *; omega)) (by first | assumption | omega | (unfold InR; omega) | (unfold InL; omega) | (simp only [InR] at *; omega)) ?_
    refine zW_goto (tgt := 17) dL_reachedVertex_10 (by decide) ?_
    refine zW_iconst dL_reachedVertex_17 ?_
    refine zW_ireturn dL_reachedVertex_18 rfl rfl (by first | decide | (show _ ≤ (2 : Nat); omega)) (by first | decide | (show _ ≤ (12 : Nat); omega)) ?_
    exact hQ _ (h1.lz hzx) m1.lz hz1 (fun _ => zJ_sJs _ _ _ _)
  | 1, _ =>
    refine zWx_catch (E := eI) (pre := []) (suf := []) (x := (0, 10, 13, 29)) rfl (fun z9 q9 => by cases q9) (by decide) (by decide) (by decide) b719 (by decide) (fun q => ?_)
    refine zW_astore dL_reachedVertex_13 (by decide) rfl rfl ?_
    refine zW_iconst dL_reachedVertex_15 ?_
    refine zW_ireturn dL_reachedVertex_16 rfl rfl (by first | decide | (show _ ≤ (2 : Nat); omega)) (by first | decide | (show _ ≤ (12 : Nat); omega)) ?_
    exact hQ σ1 h1 m1.lz0 hz1 (fun e9 => absurd (show (1 : Nat) = 0 from e9) (by decide))
  | j9 + 2, on => exact absurd on (by show ¬ (j9 + 2 ≤ 1); omega)
set_option maxRecDepth 100000 in
theorem on_smallestPower {g r : Int} : (o_smallestPower A g r).1 ≤ 1 := by
  unfold o_smallestPower
  try unfold g2
  try unfold g1
  try unfold gg2
  try unfold gg1
  try unfold o_store
  repeat' split
  all_goals first | exact Nat.zero_le _ | decide | (show (1 : Nat) ≤ _; decide) | (show (2 : Nat) ≤ _; decide) | (show (3 : Nat) ≤ _; decide)
set_option maxRecDepth 100000 in
theorem l_smallestPower {g r : Int} (h : CI σ x A) (hz : zK σ z = (14, 1)) (hzx : z < x ∨ x + 521 ≤ z) (ig : InR g) (ir : InR r) (hQ : ∀ σ', CI σ' x (o_smallestPower A g r).2.2 → Mx σ σ' (lzz x z) → zK σ' z = (14, 1) → ((o_smallestPower A g r).1 = 0 → zJ σ' z 0 = nrm (o_smallestPower A g r).2.1) → Q (.inl (some (vI ((o_smallestPower A g r).1 : Nat)))) σ') : zM Γ mL_smallestPower [vR (some x), vI g, vI r, vR (some z)] σ Q := by
  have on := on_smallestPower (A := A) (g := g) (r := r)
  refine zM_ofH (n := 1) (by decide +kernel) rfl rfl rfl ?_
  refine zW_aload_n dL_smallestPower_0 rfl ?_
  refine zW_iconst dL_smallestPower_1 ?_
  refine zW_aload_n dL_smallestPower_2 rfl ?_
  refine zW_iload_n dL_smallestPower_3 rfl ?_
  refine zW_iload_n dL_smallestPower_4 rfl ?_
  refine zhV2 dL_smallestPower_5 rfl eX9_smallestPower b1022 ⟨by decide, by decide, by decide, by decide⟩ rfl h.xk.1 rfl (by decide) (Nat.le_of_ble_eq_true rfl) (c_smallestPower h ig ir (fun σ1 h1 m1 => ?_))
  have hz1 : zK σ1 z = (14, 1) := by rw [(m1 z (fun q => by unfold xr at q; omega)).1]; exact hz
  generalize o_smallestPower A g r = o at h1 hQ on ⊢
  obtain ⟨n9, v9, A9⟩ := o
  match n9, on with
  | 0, _ =>
    show zW Γ mL_smallestPower 8 _ _ _ _ _ Q
    refine zW_nrm ?_
    have hv := nrm_in v9
    refine zW_i2l dL_smallestPower_8 (by first | assumption | omega | (unfold InR; omega) | (unfold InL; omega) | (simp only [InR] at *; omega)) ?_
    refine zW_last dL_smallestPower_9 hz1 (by first | assumption | omega | (unfold InR; omega) | (unfold InL; omega) | (simp only [InR] at *; omega)) (by first | assumption | omega | (unfold InR; omega) | (unfold InL; omega) | (simp only [InR] at *; omega)) (by first | assumption | omega | (unfold InR; omega) | (unfold InL; omega) | (simp only [InR] at *; omega)) ?_
    refine zW_goto (tgt := 17) dL_smallestPower_10 (by decide) ?_
    refine zW_iconst dL_smallestPower_17 ?_
    refine zW_ireturn dL_smallestPower_18 rfl rfl (by first | decide | (show _ ≤ (2 : Nat); omega)) (by first | decide | (show _ ≤ (12 : Nat); omega)) ?_
    exact hQ _ (h1.lz hzx) m1.lz hz1 (fun _ => zJ_sJs _ _ _ _)
  | 1, _ =>
    refine zWx_catch (E := eI) (pre := []) (suf := []) (x := (0, 10, 13, 29)) rfl (fun z9 q9 => by cases q9) (by decide) (by decide) (by decide) b719 (by decide) (fun q => ?_)
    refine zW_astore dL_smallestPower_13 (by decide) rfl rfl ?_
    refine zW_iconst dL_smallestPower_15 ?_
    refine zW_ireturn dL_smallestPower_16 rfl rfl (by first | decide | (show _ ≤ (2 : Nat); omega)) (by first | decide | (show _ ≤ (12 : Nat); omega)) ?_
    exact hQ σ1 h1 m1.lz0 hz1 (fun e9 => absurd (show (1 : Nat) = 0 from e9) (by decide))
  | j9 + 2, on => exact absurd on (by show ¬ (j9 + 2 ≤ 1); omega)
set_option maxRecDepth 100000 in
theorem on_isNormal {g : Int} : (o_isNormal A g).1 ≤ 1 := by
  unfold o_isNormal
  try unfold g2
  try unfold g1
  try unfold gg2
  try unfold gg1
  try unfold o_store
  repeat' split
  all_goals first | exact Nat.zero_le _ | decide | (show (1 : Nat) ≤ _; decide) | (show (2 : Nat) ≤ _; decide) | (show (3 : Nat) ≤ _; decide)
set_option maxRecDepth 100000 in
theorem l_isNormal {g : Int} (h : CI σ x A) (hz : zK σ z = (14, 1)) (hzx : z < x ∨ x + 521 ≤ z) (ig : InR g) (hr9 : sRk (aSt A) ≤ 4) (hQ : ∀ σ', CI σ' x (o_isNormal A g).2.2 → Mx σ σ' (lzz x z) → zK σ' z = (14, 1) → ((o_isNormal A g).1 = 0 → zJ σ' z 0 = bln (o_isNormal A g).2.1) → Q (.inl (some (vI ((o_isNormal A g).1 : Nat)))) σ') : zM Γ mL_isNormal [vR (some x), vI g, vR (some z)] σ Q := by
  have on := on_isNormal (A := A) (g := g)
  refine zM_ofH (n := 1) (by decide +kernel) rfl rfl rfl ?_
  refine zW_aload_n dL_isNormal_0 rfl ?_
  refine zW_iconst dL_isNormal_1 ?_
  refine zW_aload_n dL_isNormal_2 rfl ?_
  refine zW_iload_n dL_isNormal_3 rfl ?_
  refine zhV1 dL_isNormal_4 rfl eX9_isNormal b1034 ⟨by decide, by decide, by decide, by decide⟩ rfl h.xk.1 rfl (by decide) (Nat.le_of_ble_eq_true rfl) (c_isNormal h ig hr9 (fun σ1 h1 m1 => ?_))
  have hz1 : zK σ1 z = (14, 1) := by rw [(m1 z (fun q => by unfold xr at q; omega)).1]; exact hz
  generalize o_isNormal A g = o at h1 hQ on ⊢
  obtain ⟨n9, v9, A9⟩ := o
  match n9, on with
  | 0, _ =>
    show zW Γ mL_isNormal 7 _ _ _ _ _ Q
    refine zW_nrm ?_
    have hv := nrm_in v9
    refine zW_if_eq (tgt := 14) dL_isNormal_7 (by decide) (by first | assumption | omega | (unfold InR; omega) | (unfold InL; omega) | (simp only [InR] at *; omega)) (fun b => ?_) (fun b => ?_)
    · refine zW_lconst dL_isNormal_14 (z := 0) (by decide) ?_
      refine zW_last dL_isNormal_15 hz1 (by first | assumption | omega | (unfold InR; omega) | (unfold InL; omega) | (simp only [InR] at *; omega)) (by first | assumption | omega | (unfold InR; omega) | (unfold InL; omega) | (simp only [InR] at *; omega)) (by first | assumption | omega | (unfold InR; omega) | (unfold InL; omega) | (simp only [InR] at *; omega)) ?_
      refine zW_goto (tgt := 22) dL_isNormal_16 (by decide) ?_
      refine zW_iconst dL_isNormal_22 ?_
      refine zW_ireturn dL_isNormal_23 rfl rfl (by first | decide | (show _ ≤ (1 : Nat); omega)) (by first | decide | (show _ ≤ (6 : Nat); omega)) ?_
      exact hQ _ (h1.lz hzx) m1.lz hz1 (fun _ => (zJ_sJs σ1 z 0 _).trans (if_pos b).symm)
    · refine zW_lconst dL_isNormal_10 (z := 1) (by decide) ?_
      refine zW_goto (tgt := 15) dL_isNormal_11 (by decide) ?_
      refine zW_last dL_isNormal_15 hz1 (by first | assumption | omega | (unfold InR; omega) | (unfold InL; omega) | (simp only [InR] at *; omega)) (by first | assumption | omega | (unfold InR; omega) | (unfold InL; omega) | (simp only [InR] at *; omega)) (by first | assumption | omega | (unfold InR; omega) | (unfold InL; omega) | (simp only [InR] at *; omega)) ?_
      refine zW_goto (tgt := 22) dL_isNormal_16 (by decide) ?_
      refine zW_iconst dL_isNormal_22 ?_
      refine zW_ireturn dL_isNormal_23 rfl rfl (by first | decide | (show _ ≤ (1 : Nat); omega)) (by first | decide | (show _ ≤ (6 : Nat); omega)) ?_
      exact hQ _ (h1.lz hzx) m1.lz hz1 (fun _ => (zJ_sJs σ1 z 0 _).trans (if_neg b).symm)
  | 1, _ =>
    refine zWx_catch (E := eI) (pre := []) (suf := []) (x := (0, 16, 19, 29)) rfl (fun z9 q9 => by cases q9) (by decide) (by decide) (by decide) b719 (by decide) (fun q => ?_)
    refine zW_astore_n dL_isNormal_19 (by decide) rfl rfl ?_
    refine zW_iconst dL_isNormal_20 ?_
    refine zW_ireturn dL_isNormal_21 rfl rfl (by first | decide | (show _ ≤ (1 : Nat); omega)) (by first | decide | (show _ ≤ (6 : Nat); omega)) ?_
    exact hQ σ1 h1 m1.lz0 hz1 (fun e9 => absurd (show (1 : Nat) = 0 from e9) (by decide))
  | j9 + 2, on => exact absurd on (by show ¬ (j9 + 2 ≤ 1); omega)
set_option maxRecDepth 100000 in
theorem on_containsSubgroup {g f : Int} : (o_containsSubgroup A g f).1 ≤ 1 := by
  unfold o_containsSubgroup
  try unfold g2
  try unfold g1
  try unfold gg2
  try unfold gg1
  try unfold o_store
  repeat' split
  all_goals first | exact Nat.zero_le _ | decide | (show (1 : Nat) ≤ _; decide) | (show (2 : Nat) ≤ _; decide) | (show (3 : Nat) ≤ _; decide)
set_option maxRecDepth 100000 in
theorem l_containsSubgroup {g f : Int} (h : CI σ x A) (hz : zK σ z = (14, 1)) (hzx : z < x ∨ x + 521 ≤ z) (ig : InR g) (if_ : InR f) (hQ : ∀ σ', CI σ' x (o_containsSubgroup A g f).2.2 → Mx σ σ' (lzz x z) → zK σ' z = (14, 1) → ((o_containsSubgroup A g f).1 = 0 → zJ σ' z 0 = bln (o_containsSubgroup A g f).2.1) → Q (.inl (some (vI ((o_containsSubgroup A g f).1 : Nat)))) σ') : zM Γ mL_containsSubgroup [vR (some x), vI g, vI f, vR (some z)] σ Q := by
  have on := on_containsSubgroup (A := A) (g := g) (f := f)
  refine zM_ofH (n := 1) (by decide +kernel) rfl rfl rfl ?_
  refine zW_aload_n dL_containsSubgroup_0 rfl ?_
  refine zW_iconst dL_containsSubgroup_1 ?_
  refine zW_aload_n dL_containsSubgroup_2 rfl ?_
  refine zW_iload_n dL_containsSubgroup_3 rfl ?_
  refine zW_iload_n dL_containsSubgroup_4 rfl ?_
  refine zhV2 dL_containsSubgroup_5 rfl eX9_containsSubgroup b1047 ⟨by decide, by decide, by decide, by decide⟩ rfl h.xk.1 rfl (by decide) (Nat.le_of_ble_eq_true rfl) (c_containsSubgroup h ig if_ (fun σ1 h1 m1 => ?_))
  have hz1 : zK σ1 z = (14, 1) := by rw [(m1 z (fun q => by unfold xr at q; omega)).1]; exact hz
  generalize o_containsSubgroup A g f = o at h1 hQ on ⊢
  obtain ⟨n9, v9, A9⟩ := o
  match n9, on with
  | 0, _ =>
    show zW Γ mL_containsSubgroup 8 _ _ _ _ _ Q
    refine zW_nrm ?_
    have hv := nrm_in v9
    refine zW_if_eq (tgt := 15) dL_containsSubgroup_8 (by decide) (by first | assumption | omega | (unfold InR; omega) | (unfold InL; omega) | (simp only [InR] at *; omega)) (fun b => ?_) (fun b => ?_)
    · refine zW_lconst dL_containsSubgroup_15 (z := 0) (by decide) ?_
      refine zW_last dL_containsSubgroup_16 hz1 (by first | assumption | omega | (unfold InR; omega) | (unfold InL; omega) | (simp only [InR] at *; omega)) (by first | assumption | omega | (unfold InR; omega) | (unfold InL; omega) | (simp only [InR] at *; omega)) (by first | assumption | omega | (unfold InR; omega) | (unfold InL; omega) | (simp only [InR] at *; omega)) ?_
      refine zW_goto (tgt := 24) dL_containsSubgroup_17 (by decide) ?_
      refine zW_iconst dL_containsSubgroup_24 ?_
      refine zW_ireturn dL_containsSubgroup_25 rfl rfl (by first | decide | (show _ ≤ (2 : Nat); omega)) (by first | decide | (show _ ≤ (12 : Nat); omega)) ?_
      exact hQ _ (h1.lz hzx) m1.lz hz1 (fun _ => (zJ_sJs σ1 z 0 _).trans (if_pos b).symm)
    · refine zW_lconst dL_containsSubgroup_11 (z := 1) (by decide) ?_
      refine zW_goto (tgt := 16) dL_containsSubgroup_12 (by decide) ?_
      refine zW_last dL_containsSubgroup_16 hz1 (by first | assumption | omega | (unfold InR; omega) | (unfold InL; omega) | (simp only [InR] at *; omega)) (by first | assumption | omega | (unfold InR; omega) | (unfold InL; omega) | (simp only [InR] at *; omega)) (by first | assumption | omega | (unfold InR; omega) | (unfold InL; omega) | (simp only [InR] at *; omega)) ?_
      refine zW_goto (tgt := 24) dL_containsSubgroup_17 (by decide) ?_
      refine zW_iconst dL_containsSubgroup_24 ?_
      refine zW_ireturn dL_containsSubgroup_25 rfl rfl (by first | decide | (show _ ≤ (2 : Nat); omega)) (by first | decide | (show _ ≤ (12 : Nat); omega)) ?_
      exact hQ _ (h1.lz hzx) m1.lz hz1 (fun _ => (zJ_sJs σ1 z 0 _).trans (if_neg b).symm)
  | 1, _ =>
    refine zWx_catch (E := eI) (pre := []) (suf := []) (x := (0, 17, 20, 29)) rfl (fun z9 q9 => by cases q9) (by decide) (by decide) (by decide) b719 (by decide) (fun q => ?_)
    refine zW_astore dL_containsSubgroup_20 (by decide) rfl rfl ?_
    refine zW_iconst dL_containsSubgroup_22 ?_
    refine zW_ireturn dL_containsSubgroup_23 rfl rfl (by first | decide | (show _ ≤ (2 : Nat); omega)) (by first | decide | (show _ ≤ (12 : Nat); omega)) ?_
    exact hQ σ1 h1 m1.lz0 hz1 (fun e9 => absurd (show (1 : Nat) = 0 from e9) (by decide))
  | j9 + 2, on => exact absurd on (by show ¬ (j9 + 2 ≤ 1); omega)
set_option maxRecDepth 100000 in
theorem on_representativeLength {g v : Int} : (o_representativeLength A g v).1 ≤ 1 := by
  unfold o_representativeLength
  try unfold g2
  try unfold g1
  try unfold gg2
  try unfold gg1
  try unfold o_store
  repeat' split
  all_goals first | exact Nat.zero_le _ | decide | (show (1 : Nat) ≤ _; decide) | (show (2 : Nat) ≤ _; decide) | (show (3 : Nat) ≤ _; decide)
set_option maxRecDepth 100000 in
theorem l_representativeLength {g v : Int} (h : CI σ x A) (hz : zK σ z = (14, 1)) (hzx : z < x ∨ x + 521 ≤ z) (ig : InR g) (iv : InR v) (hQ : ∀ σ', CI σ' x (o_representativeLength A g v).2.2 → Mx σ σ' (lzz x z) → zK σ' z = (14, 1) → ((o_representativeLength A g v).1 = 0 → zJ σ' z 0 = nrm (o_representativeLength A g v).2.1) → Q (.inl (some (vI ((o_representativeLength A g v).1 : Nat)))) σ') : zM Γ mL_representativeLength [vR (some x), vI g, vI v, vR (some z)] σ Q := by
  have on := on_representativeLength (A := A) (g := g) (v := v)
  refine zM_ofH (n := 1) (by decide +kernel) rfl rfl rfl ?_
  refine zW_aload_n dL_representativeLength_0 rfl ?_
  refine zW_iconst dL_representativeLength_1 ?_
  refine zW_aload_n dL_representativeLength_2 rfl ?_
  refine zW_iload_n dL_representativeLength_3 rfl ?_
  refine zW_iload_n dL_representativeLength_4 rfl ?_
  refine zhV2 dL_representativeLength_5 rfl eX9_representativeLength b1054 ⟨by decide, by decide, by decide, by decide⟩ rfl h.xk.1 rfl (by decide) (Nat.le_of_ble_eq_true rfl) (c_representativeLength h ig iv (fun σ1 h1 m1 => ?_))
  have hz1 : zK σ1 z = (14, 1) := by rw [(m1 z (fun q => by unfold xr at q; omega)).1]; exact hz
  generalize o_representativeLength A g v = o at h1 hQ on ⊢
  obtain ⟨n9, v9, A9⟩ := o
  match n9, on with
  | 0, _ =>
    show zW Γ mL_representativeLength 8 _ _ _ _ _ Q
    refine zW_nrm ?_
    have hv := nrm_in v9
    refine zW_i2l dL_representativeLength_8 (by first | assumption | omega | (unfold InR; omega) | (unfold InL; omega) | (simp only [InR] at *; omega)) ?_
    refine zW_last dL_representativeLength_9 hz1 (by first | assumption | omega | (unfold InR; omega) | (unfold InL; omega) | (simp only [InR] at *; omega)) (by first | assumption | omega | (unfold InR; omega) | (unfold InL; omega) | (simp only [InR] at *; omega)) (by first | assumption | omega | (unfold InR; omega) | (unfold InL; omega) | (simp only [InR] at *; omega)) ?_
    refine zW_goto (tgt := 17) dL_representativeLength_10 (by decide) ?_
    refine zW_iconst dL_representativeLength_17 ?_
    refine zW_ireturn dL_representativeLength_18 rfl rfl (by first | decide | (show _ ≤ (2 : Nat); omega)) (by first | decide | (show _ ≤ (12 : Nat); omega)) ?_
    exact hQ _ (h1.lz hzx) m1.lz hz1 (fun _ => zJ_sJs _ _ _ _)
  | 1, _ =>
    refine zWx_catch (E := eI) (pre := []) (suf := []) (x := (0, 10, 13, 29)) rfl (fun z9 q9 => by cases q9) (by decide) (by decide) (by decide) b719 (by decide) (fun q => ?_)
    refine zW_astore dL_representativeLength_13 (by decide) rfl rfl ?_
    refine zW_iconst dL_representativeLength_15 ?_
    refine zW_ireturn dL_representativeLength_16 rfl rfl (by first | decide | (show _ ≤ (2 : Nat); omega)) (by first | decide | (show _ ≤ (12 : Nat); omega)) ?_
    exact hQ σ1 h1 m1.lz0 hz1 (fun e9 => absurd (show (1 : Nat) = 0 from e9) (by decide))
  | j9 + 2, on => exact absurd on (by show ¬ (j9 + 2 ≤ 1); omega)
set_option maxRecDepth 100000 in
theorem on_setRegister {p : Int} : (o_setRegister A p).1 ≤ 3 := by
  unfold o_setRegister
  try unfold g2
  try unfold g1
  try unfold gg2
  try unfold gg1
  try unfold o_store
  repeat' split
  all_goals first | exact Nat.zero_le _ | decide | (show (1 : Nat) ≤ _; decide) | (show (2 : Nat) ≤ _; decide) | (show (3 : Nat) ≤ _; decide)
set_option maxRecDepth 100000 in
theorem l_setRegister {p : Int} (h : CI σ x A) (hz : zK σ z = (14, 1)) (hzx : z < x ∨ x + 521 ≤ z) (ip : InR p) (hr9 : sRk (aSt A) ≤ 4) (hQ : ∀ σ', CI σ' x (o_setRegister A p).2.2 → Mx σ σ' (lzz x z) → zK σ' z = (14, 1) → ((o_setRegister A p).1 = 0 → zJ σ' z 0 = nrm (o_setRegister A p).2.1) → Q (.inl (some (vI ((o_setRegister A p).1 : Nat)))) σ') : zM Γ mL_setRegister [vR (some x), vI p, vR (some z)] σ Q := by
  have on := on_setRegister (A := A) (p := p)
  refine zM_ofH (n := 1) (by decide +kernel) rfl rfl rfl ?_
  refine zW_aload_n dL_setRegister_0 rfl ?_
  refine zW_iconst dL_setRegister_1 ?_
  refine zW_aload_n dL_setRegister_2 rfl ?_
  refine zW_iload_n dL_setRegister_3 rfl ?_
  refine zhV1 dL_setRegister_4 rfl eX9_setRegister b1061 ⟨by decide, by decide, by decide, by decide⟩ rfl h.xk.1 rfl (by decide) (Nat.le_of_ble_eq_true rfl) (c_setRegister h ip hr9 (fun σ1 h1 m1 => ?_))
  have hz1 : zK σ1 z = (14, 1) := by rw [(m1 z (fun q => by unfold xr at q; omega)).1]; exact hz
  generalize o_setRegister A p = o at h1 hQ on ⊢
  obtain ⟨n9, v9, A9⟩ := o
  match n9, on with
  | 0, _ =>
    show zW Γ mL_setRegister 7 _ _ _ _ _ Q
    refine zW_nrm ?_
    have hv := nrm_in v9
    refine zW_i2l dL_setRegister_7 (by first | assumption | omega | (unfold InR; omega) | (unfold InL; omega) | (simp only [InR] at *; omega)) ?_
    refine zW_last dL_setRegister_8 hz1 (by first | assumption | omega | (unfold InR; omega) | (unfold InL; omega) | (simp only [InR] at *; omega)) (by first | assumption | omega | (unfold InR; omega) | (unfold InL; omega) | (simp only [InR] at *; omega)) (by first | assumption | omega | (unfold InR; omega) | (unfold InL; omega) | (simp only [InR] at *; omega)) ?_
    refine zW_goto (tgt := 21) dL_setRegister_9 (by decide) ?_
    refine zW_iconst dL_setRegister_21 ?_
    refine zW_ireturn dL_setRegister_22 rfl rfl (by first | decide | (show _ ≤ (3 : Nat); omega)) (by first | decide | (show _ ≤ (18 : Nat); omega)) ?_
    exact hQ _ (h1.lz hzx) m1.lz hz1 (fun _ => zJ_sJs _ _ _ _)
  | 1, _ =>
    refine zWx_catch (E := eI) (pre := []) (suf := [(0, 9, 15, 19), (0, 9, 18, 13)]) (x := (0, 9, 12, 29)) rfl (fun z9 q9 => by cases q9) (by decide) (by decide) (by decide) b719 (by decide) (fun q => ?_)
    refine zW_astore_n dL_setRegister_12 (by decide) rfl rfl ?_
    refine zW_iconst dL_setRegister_13 ?_
    refine zW_ireturn dL_setRegister_14 rfl rfl (by first | decide | (show _ ≤ (3 : Nat); omega)) (by first | decide | (show _ ≤ (18 : Nat); omega)) ?_
    exact hQ σ1 h1 m1.lz0 hz1 (fun e9 => absurd (show (1 : Nat) = 0 from e9) (by decide))
  | 2, _ =>
    refine zWx_catch (E := eA) (pre := [(0, 9, 12, 29)]) (suf := [(0, 9, 18, 13)]) (x := (0, 9, 15, 19)) rfl (fun z9 q9 => by rw [List.mem_singleton.mp q9]; exact ⟨by decide, eI, b719, by decide⟩) (by decide) (by decide) (by decide) b548 (by decide) (fun q => ?_)
    refine zW_astore_n dL_setRegister_15 (by decide) rfl rfl ?_
    refine zW_iconst dL_setRegister_16 ?_
    refine zW_ireturn dL_setRegister_17 rfl rfl (by first | decide | (show _ ≤ (3 : Nat); omega)) (by first | decide | (show _ ≤ (18 : Nat); omega)) ?_
    exact hQ σ1 h1 m1.lz0 hz1 (fun e9 => absurd (show (2 : Nat) = 0 from e9) (by decide))
  | 3, _ =>
    refine zWx_catch (E := eS) (pre := [(0, 9, 12, 29), (0, 9, 15, 19)]) (suf := []) (x := (0, 9, 18, 13)) rfl (fun z9 q9 => (List.mem_cons.mp q9).elim (fun e9 => by rw [e9]; exact ⟨by decide, eI, b719, by decide⟩) (fun e9 => by rw [List.mem_singleton.mp e9]; exact ⟨by decide, eA, b548, by decide⟩)) (by decide) (by decide) (by decide) b520 (by decide) (fun q => ?_)
    refine zW_astore_n dL_setRegister_18 (by decide) rfl rfl ?_
    refine zW_iconst dL_setRegister_19 ?_
    refine zW_ireturn dL_setRegister_20 rfl rfl (by first | decide | (show _ ≤ (3 : Nat); omega)) (by first | decide | (show _ ≤ (18 : Nat); omega)) ?_
    exact hQ σ1 h1 m1.lz0 hz1 (fun e9 => absurd (show (3 : Nat) = 0 from e9) (by decide))
  | j9 + 4, on => exact absurd on (by show ¬ (j9 + 4 ≤ 3); omega)
set_option maxRecDepth 100000 in
theorem on_setProduct {p r s : Int} : (o_setProduct A p r s).1 ≤ 2 := by
  unfold o_setProduct
  try unfold g2
  try unfold g1
  try unfold gg2
  try unfold gg1
  try unfold o_store
  repeat' split
  all_goals first | exact Nat.zero_le _ | decide | (show (1 : Nat) ≤ _; decide) | (show (2 : Nat) ≤ _; decide) | (show (3 : Nat) ≤ _; decide)
set_option maxRecDepth 100000 in
theorem l_setProduct {p r s : Int} (h : CI σ x A) (hz : zK σ z = (14, 1)) (hzx : z < x ∨ x + 521 ≤ z) (ip : InR p) (ir : InR r) (is : InR s) (hQ : ∀ σ', CI σ' x (o_setProduct A p r s).2.2 → Mx σ σ' (lzz x z) → zK σ' z = (14, 1) → ((o_setProduct A p r s).1 = 0 → zJ σ' z 0 = nrm (o_setProduct A p r s).2.1) → Q (.inl (some (vI ((o_setProduct A p r s).1 : Nat)))) σ') : zM Γ mL_setProduct [vR (some x), vI p, vI r, vI s, vR (some z)] σ Q := by
  have on := on_setProduct (A := A) (p := p) (r := r) (s := s)
  refine zM_ofH (n := 1) (by decide +kernel) rfl rfl rfl ?_
  refine zW_aload dL_setProduct_0 rfl ?_
  refine zW_iconst dL_setProduct_2 ?_
  refine zW_aload_n dL_setProduct_3 rfl ?_
  refine zW_iload_n dL_setProduct_4 rfl ?_
  refine zW_iload_n dL_setProduct_5 rfl ?_
  refine zW_iload_n dL_setProduct_6 rfl ?_
  refine zhV3 dL_setProduct_7 rfl eX9_setProduct b1083 ⟨by decide, by decide, by decide, by decide⟩ rfl h.xk.1 rfl (by decide) (Nat.le_of_ble_eq_true rfl) (c_setProduct h ip ir is (fun σ1 h1 m1 => ?_))
  have hz1 : zK σ1 z = (14, 1) := by rw [(m1 z (fun q => by unfold xr at q; omega)).1]; exact hz
  generalize o_setProduct A p r s = o at h1 hQ on ⊢
  obtain ⟨n9, v9, A9⟩ := o
  match n9, on with
  | 0, _ =>
    show zW Γ mL_setProduct 10 _ _ _ _ _ Q
    refine zW_nrm ?_
    have hv := nrm_in v9
    refine zW_i2l dL_setProduct_10 (by first | assumption | omega | (unfold InR; omega) | (unfold InL; omega) | (simp only [InR] at *; omega)) ?_
    refine zW_last dL_setProduct_11 hz1 (by first | assumption | omega | (unfold InR; omega) | (unfold InL; omega) | (simp only [InR] at *; omega)) (by first | assumption | omega | (unfold InR; omega) | (unfold InL; omega) | (simp only [InR] at *; omega)) (by first | assumption | omega | (unfold InR; omega) | (unfold InL; omega) | (simp only [InR] at *; omega)) ?_
    refine zW_goto (tgt := 23) dL_setProduct_12 (by decide) ?_
    refine zW_iconst dL_setProduct_23 ?_
    refine zW_ireturn dL_setProduct_24 rfl rfl (by first | decide | (show _ ≤ (4 : Nat); omega)) (by first | decide | (show _ ≤ (24 : Nat); omega)) ?_
    exact hQ _ (h1.lz hzx) m1.lz hz1 (fun _ => zJ_sJs _ _ _ _)
  | 1, _ =>
    refine zWx_catch (E := eI) (pre := []) (suf := [(0, 12, 19, 13)]) (x := (0, 12, 15, 29)) rfl (fun z9 q9 => by cases q9) (by decide) (by decide) (by decide) b719 (by decide) (fun q => ?_)
    refine zW_astore dL_setProduct_15 (by decide) rfl rfl ?_
    refine zW_iconst dL_setProduct_17 ?_
    refine zW_ireturn dL_setProduct_18 rfl rfl (by first | decide | (show _ ≤ (4 : Nat); omega)) (by first | decide | (show _ ≤ (24 : Nat); omega)) ?_
    exact hQ σ1 h1 m1.lz0 hz1 (fun e9 => absurd (show (1 : Nat) = 0 from e9) (by decide))
  | 2, _ =>
    refine zWx_catch (E := eS) (pre := [(0, 12, 15, 29)]) (suf := []) (x := (0, 12, 19, 13)) rfl (fun z9 q9 => by rw [List.mem_singleton.mp q9]; exact ⟨by decide, eI, b719, by decide⟩) (by decide) (by decide) (by decide) b520 (by decide) (fun q => ?_)
    refine zW_astore dL_setProduct_19 (by decide) rfl rfl ?_
    refine zW_iconst dL_setProduct_21 ?_
    refine zW_ireturn dL_setProduct_22 rfl rfl (by first | decide | (show _ ≤ (4 : Nat); omega)) (by first | decide | (show _ ≤ (24 : Nat); omega)) ?_
    exact hQ σ1 h1 m1.lz0 hz1 (fun e9 => absurd (show (2 : Nat) = 0 from e9) (by decide))
  | j9 + 3, on => exact absurd on (by show ¬ (j9 + 3 ≤ 2); omega)
set_option maxRecDepth 100000 in
theorem on_setInverse {p r : Int} (hl : inR8 r → (reg A r).length ≤ 60) : (o_setInverse A p r).1 ≤ 1 := by
  unfold o_setInverse
  split
  · split
    · rename_i h1 h2
      have a1 := hl h2
      have a2 := pws_len (invw (reg A r)) []
      rw [invw_len] at a2
      have e : ([] : List Nat).length = 0 := rfl
      unfold o_store
      rw [if_pos (by omega)]
      exact Nat.zero_le _
    · exact Nat.le_refl 1
  · exact Nat.le_refl 1
set_option maxRecDepth 100000 in
theorem l_setInverse {p r : Int} (h : CI σ x A) (hz : zK σ z = (14, 1)) (hzx : z < x ∨ x + 521 ≤ z) (ip : InR p) (ir : InR r) (hQ : ∀ σ', CI σ' x (o_setInverse A p r).2.2 → Mx σ σ' (lzz x z) → zK σ' z = (14, 1) → ((o_setInverse A p r).1 = 0 → zJ σ' z 0 = nrm (o_setInverse A p r).2.1) → Q (.inl (some (vI ((o_setInverse A p r).1 : Nat)))) σ') : zM Γ mL_setInverse [vR (some x), vI p, vI r, vR (some z)] σ Q := by
  have on := on_setInverse (A := A) (p := p) (r := r) (fun kr => (h.rw kr).cap)
  refine zM_ofH (n := 1) (by decide +kernel) rfl rfl rfl ?_
  refine zW_aload_n dL_setInverse_0 rfl ?_
  refine zW_iconst dL_setInverse_1 ?_
  refine zW_aload_n dL_setInverse_2 rfl ?_
  refine zW_iload_n dL_setInverse_3 rfl ?_
  refine zW_iload_n dL_setInverse_4 rfl ?_
  refine zhV2 dL_setInverse_5 rfl eX9_setInverse b1090 ⟨by decide, by decide, by decide, by decide⟩ rfl h.xk.1 rfl (by decide) (Nat.le_of_ble_eq_true rfl) (c_setInverse h ip ir (fun σ1 h1 m1 => ?_))
  have hz1 : zK σ1 z = (14, 1) := by rw [(m1 z (fun q => by unfold xr at q; omega)).1]; exact hz
  generalize o_setInverse A p r = o at h1 hQ on ⊢
  obtain ⟨n9, v9, A9⟩ := o
  match n9, on with
  | 0, _ =>
    show zW Γ mL_setInverse 8 _ _ _ _ _ Q
    refine zW_nrm ?_
    have hv := nrm_in v9
    refine zW_i2l dL_setInverse_8 (by first | assumption | omega | (unfold InR; omega) | (unfold InL; omega) | (simp only [InR] at *; omega)) ?_
    refine zW_last dL_setInverse_9 hz1 (by first | assumption | omega | (unfold InR; omega) | (unfold InL; omega) | (simp only [InR] at *; omega)) (by first | assumption | omega | (unfold InR; omega) | (unfold InL; omega) | (simp only [InR] at *; omega)) (by first | assumption | omega | (unfold InR; omega) | (unfold InL; omega) | (simp only [InR] at *; omega)) ?_
    refine zW_goto (tgt := 17) dL_setInverse_10 (by decide) ?_
    refine zW_iconst dL_setInverse_17 ?_
    refine zW_ireturn dL_setInverse_18 rfl rfl (by first | decide | (show _ ≤ (3 : Nat); omega)) (by first | decide | (show _ ≤ (18 : Nat); omega)) ?_
    exact hQ _ (h1.lz hzx) m1.lz hz1 (fun _ => zJ_sJs _ _ _ _)
  | 1, _ =>
    refine zWx_catch (E := eI) (pre := []) (suf := []) (x := (0, 10, 13, 29)) rfl (fun z9 q9 => by cases q9) (by decide) (by decide) (by decide) b719 (by decide) (fun q => ?_)
    refine zW_astore dL_setInverse_13 (by decide) rfl rfl ?_
    refine zW_iconst dL_setInverse_15 ?_
    refine zW_ireturn dL_setInverse_16 rfl rfl (by first | decide | (show _ ≤ (3 : Nat); omega)) (by first | decide | (show _ ≤ (18 : Nat); omega)) ?_
    exact hQ σ1 h1 m1.lz0 hz1 (fun e9 => absurd (show (1 : Nat) = 0 from e9) (by decide))
  | j9 + 2, on => exact absurd on (by show ¬ (j9 + 2 ≤ 1); omega)
set_option maxRecDepth 100000 in
theorem on_setConjugate {p r s : Int} : (o_setConjugate A p r s).1 ≤ 2 := by
  unfold o_setConjugate
  try unfold g2
  try unfold g1
  try unfold gg2
  try unfold gg1
  try unfold o_store
  repeat' split
  all_goals first | exact Nat.zero_le _ | decide | (show (1 : Nat) ≤ _; decide) | (show (2 : Nat) ≤ _; decide) | (show (3 : Nat) ≤ _; decide)
set_option maxRecDepth 100000 in
theorem l_setConjugate {p r s : Int} (h : CI σ x A) (hz : zK σ z = (14, 1)) (hzx : z < x ∨ x + 521 ≤ z) (ip : InR p) (ir : InR r) (is : InR s) (hQ : ∀ σ', CI σ' x (o_setConjugate A p r s).2.2 → Mx σ σ' (lzz x z) → zK σ' z = (14, 1) → ((o_setConjugate A p r s).1 = 0 → zJ σ' z 0 = nrm (o_setConjugate A p r s).2.1) → Q (.inl (some (vI ((o_setConjugate A p r s).1 : Nat)))) σ') : zM Γ mL_setConjugate [vR (some x), vI p, vI r, vI s, vR (some z)] σ Q := by
  have on := on_setConjugate (A := A) (p := p) (r := r) (s := s)
  refine zM_ofH (n := 1) (by decide +kernel) rfl rfl rfl ?_
  refine zW_aload dL_setConjugate_0 rfl ?_
  refine zW_iconst dL_setConjugate_2 ?_
  refine zW_aload_n dL_setConjugate_3 rfl ?_
  refine zW_iload_n dL_setConjugate_4 rfl ?_
  refine zW_iload_n dL_setConjugate_5 rfl ?_
  refine zW_iload_n dL_setConjugate_6 rfl ?_
  refine zhV3 dL_setConjugate_7 rfl eX9_setConjugate b1097 ⟨by decide, by decide, by decide, by decide⟩ rfl h.xk.1 rfl (by decide) (Nat.le_of_ble_eq_true rfl) (c_setConjugate h ip ir is (fun σ1 h1 m1 => ?_))
  have hz1 : zK σ1 z = (14, 1) := by rw [(m1 z (fun q => by unfold xr at q; omega)).1]; exact hz
  generalize o_setConjugate A p r s = o at h1 hQ on ⊢
  obtain ⟨n9, v9, A9⟩ := o
  match n9, on with
  | 0, _ =>
    show zW Γ mL_setConjugate 10 _ _ _ _ _ Q
    refine zW_nrm ?_
    have hv := nrm_in v9
    refine zW_i2l dL_setConjugate_10 (by first | assumption | omega | (unfold InR; omega) | (unfold InL; omega) | (simp only [InR] at *; omega)) ?_
    refine zW_last dL_setConjugate_11 hz1 (by first | assumption | omega | (unfold InR; omega) | (unfold InL; omega) | (simp only [InR] at *; omega)) (by first | assumption | omega | (unfold InR; omega) | (unfold InL; omega) | (simp only [InR] at *; omega)) (by first | assumption | omega | (unfold InR; omega) | (unfold InL; omega) | (simp only [InR] at *; omega)) ?_
    refine zW_goto (tgt := 23) dL_setConjugate_12 (by decide) ?_
    refine zW_iconst dL_setConjugate_23 ?_
    refine zW_ireturn dL_setConjugate_24 rfl rfl (by first | decide | (show _ ≤ (4 : Nat); omega)) (by first | decide | (show _ ≤ (24 : Nat); omega)) ?_
    exact hQ _ (h1.lz hzx) m1.lz hz1 (fun _ => zJ_sJs _ _ _ _)
  | 1, _ =>
    refine zWx_catch (E := eI) (pre := []) (suf := [(0, 12, 19, 13)]) (x := (0, 12, 15, 29)) rfl (fun z9 q9 => by cases q9) (by decide) (by decide) (by decide) b719 (by decide) (fun q => ?_)
    refine zW_astore dL_setConjugate_15 (by decide) rfl rfl ?_
    refine zW_iconst dL_setConjugate_17 ?_
    refine zW_ireturn dL_setConjugate_18 rfl rfl (by first | decide | (show _ ≤ (4 : Nat); omega)) (by first | decide | (show _ ≤ (24 : Nat); omega)) ?_
    exact hQ σ1 h1 m1.lz0 hz1 (fun e9 => absurd (show (1 : Nat) = 0 from e9) (by decide))
  | 2, _ =>
    refine zWx_catch (E := eS) (pre := [(0, 12, 15, 29)]) (suf := []) (x := (0, 12, 19, 13)) rfl (fun z9 q9 => by rw [List.mem_singleton.mp q9]; exact ⟨by decide, eI, b719, by decide⟩) (by decide) (by decide) (by decide) b520 (by decide) (fun q => ?_)
    refine zW_astore dL_setConjugate_19 (by decide) rfl rfl ?_
    refine zW_iconst dL_setConjugate_21 ?_
    refine zW_ireturn dL_setConjugate_22 rfl rfl (by first | decide | (show _ ≤ (4 : Nat); omega)) (by first | decide | (show _ ≤ (24 : Nat); omega)) ?_
    exact hQ σ1 h1 m1.lz0 hz1 (fun e9 => absurd (show (2 : Nat) = 0 from e9) (by decide))
  | j9 + 3, on => exact absurd on (by show ¬ (j9 + 3 ≤ 2); omega)
set_option maxRecDepth 100000 in
theorem on_setCommutator {p r s : Int} : (o_setCommutator A p r s).1 ≤ 2 := by
  unfold o_setCommutator
  try unfold g2
  try unfold g1
  try unfold gg2
  try unfold gg1
  try unfold o_store
  repeat' split
  all_goals first | exact Nat.zero_le _ | decide | (show (1 : Nat) ≤ _; decide) | (show (2 : Nat) ≤ _; decide) | (show (3 : Nat) ≤ _; decide)
set_option maxRecDepth 100000 in
theorem l_setCommutator {p r s : Int} (h : CI σ x A) (hz : zK σ z = (14, 1)) (hzx : z < x ∨ x + 521 ≤ z) (ip : InR p) (ir : InR r) (is : InR s) (hQ : ∀ σ', CI σ' x (o_setCommutator A p r s).2.2 → Mx σ σ' (lzz x z) → zK σ' z = (14, 1) → ((o_setCommutator A p r s).1 = 0 → zJ σ' z 0 = nrm (o_setCommutator A p r s).2.1) → Q (.inl (some (vI ((o_setCommutator A p r s).1 : Nat)))) σ') : zM Γ mL_setCommutator [vR (some x), vI p, vI r, vI s, vR (some z)] σ Q := by
  have on := on_setCommutator (A := A) (p := p) (r := r) (s := s)
  refine zM_ofH (n := 1) (by decide +kernel) rfl rfl rfl ?_
  refine zW_aload dL_setCommutator_0 rfl ?_
  refine zW_iconst dL_setCommutator_2 ?_
  refine zW_aload_n dL_setCommutator_3 rfl ?_
  refine zW_iload_n dL_setCommutator_4 rfl ?_
  refine zW_iload_n dL_setCommutator_5 rfl ?_
  refine zW_iload_n dL_setCommutator_6 rfl ?_
  refine zhV3 dL_setCommutator_7 rfl eX9_setCommutator b1104 ⟨by decide, by decide, by decide, by decide⟩ rfl h.xk.1 rfl (by decide) (Nat.le_of_ble_eq_true rfl) (c_setCommutator h ip ir is (fun σ1 h1 m1 => ?_))
  have hz1 : zK σ1 z = (14, 1) := by rw [(m1 z (fun q => by unfold xr at q; omega)).1]; exact hz
  generalize o_setCommutator A p r s = o at h1 hQ on ⊢
  obtain ⟨n9, v9, A9⟩ := o
  match n9, on with
  | 0, _ =>
    show zW Γ mL_setCommutator 10 _ _ _ _ _ Q
    refine zW_nrm ?_
    have hv := nrm_in v9
    refine zW_i2l dL_setCommutator_10 (by first | assumption | omega | (unfold InR; omega) | (unfold InL; omega) | (simp only [InR] at *; omega)) ?_
    refine zW_last dL_setCommutator_11 hz1 (by first | assumption | omega | (unfold InR; omega) | (unfold InL; omega) | (simp only [InR] at *; omega)) (by first | assumption | omega | (unfold InR; omega) | (unfold InL; omega) | (simp only [InR] at *; omega)) (by first | assumption | omega | (unfold InR; omega) | (unfold InL; omega) | (simp only [InR] at *; omega)) ?_
    refine zW_goto (tgt := 23) dL_setCommutator_12 (by decide) ?_
    refine zW_iconst dL_setCommutator_23 ?_
    refine zW_ireturn dL_setCommutator_24 rfl rfl (by first | decide | (show _ ≤ (4 : Nat); omega)) (by first | decide | (show _ ≤ (24 : Nat); omega)) ?_
    exact hQ _ (h1.lz hzx) m1.lz hz1 (fun _ => zJ_sJs _ _ _ _)
  | 1, _ =>
    refine zWx_catch (E := eI) (pre := []) (suf := [(0, 12, 19, 13)]) (x := (0, 12, 15, 29)) rfl (fun z9 q9 => by cases q9) (by decide) (by decide) (by decide) b719 (by decide) (fun q => ?_)
    refine zW_astore dL_setCommutator_15 (by decide) rfl rfl ?_
    refine zW_iconst dL_setCommutator_17 ?_
    refine zW_ireturn dL_setCommutator_18 rfl rfl (by first | decide | (show _ ≤ (4 : Nat); omega)) (by first | decide | (show _ ≤ (24 : Nat); omega)) ?_
    exact hQ σ1 h1 m1.lz0 hz1 (fun e9 => absurd (show (1 : Nat) = 0 from e9) (by decide))
  | 2, _ =>
    refine zWx_catch (E := eS) (pre := [(0, 12, 15, 29)]) (suf := []) (x := (0, 12, 19, 13)) rfl (fun z9 q9 => by rw [List.mem_singleton.mp q9]; exact ⟨by decide, eI, b719, by decide⟩) (by decide) (by decide) (by decide) b520 (by decide) (fun q => ?_)
    refine zW_astore dL_setCommutator_19 (by decide) rfl rfl ?_
    refine zW_iconst dL_setCommutator_21 ?_
    refine zW_ireturn dL_setCommutator_22 rfl rfl (by first | decide | (show _ ≤ (4 : Nat); omega)) (by first | decide | (show _ ≤ (24 : Nat); omega)) ?_
    exact hQ σ1 h1 m1.lz0 hz1 (fun e9 => absurd (show (2 : Nat) = 0 from e9) (by decide))
  | j9 + 3, on => exact absurd on (by show ¬ (j9 + 3 ≤ 2); omega)
set_option maxRecDepth 100000 in
theorem on_setPower {p r e : Int} : (o_setPower A p r e).1 ≤ 3 := by
  unfold o_setPower
  try unfold g2
  try unfold g1
  try unfold gg2
  try unfold gg1
  try unfold o_store
  repeat' split
  all_goals first | exact Nat.zero_le _ | decide | (show (1 : Nat) ≤ _; decide) | (show (2 : Nat) ≤ _; decide) | (show (3 : Nat) ≤ _; decide)
set_option maxRecDepth 100000 in
theorem l_setPower {p r e : Int} (h : CI σ x A) (hz : zK σ z = (14, 1)) (hzx : z < x ∨ x + 521 ≤ z) (ip : InR p) (ir : InR r) (ie : InR e) (hQ : ∀ σ', CI σ' x (o_setPower A p r e).2.2 → Mx σ σ' (lzz x z) → zK σ' z = (14, 1) → ((o_setPower A p r e).1 = 0 → zJ σ' z 0 = nrm (o_setPower A p r e).2.1) → Q (.inl (some (vI ((o_setPower A p r e).1 : Nat)))) σ') : zM Γ mL_setPower [vR (some x), vI p, vI r, vI e, vR (some z)] σ Q := by
  have on := on_setPower (A := A) (p := p) (r := r) (e := e)
  refine zM_ofH (n := 1) (by decide +kernel) rfl rfl rfl ?_
  refine zW_aload dL_setPower_0 rfl ?_
  refine zW_iconst dL_setPower_2 ?_
  refine zW_aload_n dL_setPower_3 rfl ?_
  refine zW_iload_n dL_setPower_4 rfl ?_
  refine zW_iload_n dL_setPower_5 rfl ?_
  refine zW_iload_n dL_setPower_6 rfl ?_
  refine zhV3 dL_setPower_7 rfl eX9_setPower b1111 ⟨by decide, by decide, by decide, by decide⟩ rfl h.xk.1 rfl (by decide) (Nat.le_of_ble_eq_true rfl) (c_setPower h ip ir ie (fun σ1 h1 m1 => ?_))
  have hz1 : zK σ1 z = (14, 1) := by rw [(m1 z (fun q => by unfold xr at q; omega)).1]; exact hz
  generalize o_setPower A p r e = o at h1 hQ on ⊢
  obtain ⟨n9, v9, A9⟩ := o
  match n9, on with
  | 0, _ =>
    show zW Γ mL_setPower 10 _ _ _ _ _ Q
    refine zW_nrm ?_
    have hv := nrm_in v9
    refine zW_i2l dL_setPower_10 (by first | assumption | omega | (unfold InR; omega) | (unfold InL; omega) | (simp only [InR] at *; omega)) ?_
    refine zW_last dL_setPower_11 hz1 (by first | assumption | omega | (unfold InR; omega) | (unfold InL; omega) | (simp only [InR] at *; omega)) (by first | assumption | omega | (unfold InR; omega) | (unfold InL; omega) | (simp only [InR] at *; omega)) (by first | assumption | omega | (unfold InR; omega) | (unfold InL; omega) | (simp only [InR] at *; omega)) ?_
    refine zW_goto (tgt := 27) dL_setPower_12 (by decide) ?_
    refine zW_iconst dL_setPower_27 ?_
    refine zW_ireturn dL_setPower_28 rfl rfl (by first | decide | (show _ ≤ (4 : Nat); omega)) (by first | decide | (show _ ≤ (24 : Nat); omega)) ?_
    exact hQ _ (h1.lz hzx) m1.lz hz1 (fun _ => zJ_sJs _ _ _ _)
  | 1, _ =>
    refine zWx_catch (E := eI) (pre := []) (suf := [(0, 12, 19, 19), (0, 12, 23, 13)]) (x := (0, 12, 15, 29)) rfl (fun z9 q9 => by cases q9) (by decide) (by decide) (by decide) b719 (by decide) (fun q => ?_)
    refine zW_astore dL_setPower_15 (by decide) rfl rfl ?_
    refine zW_iconst dL_setPower_17 ?_
    refine zW_ireturn dL_setPower_18 rfl rfl (by first | decide | (show _ ≤ (4 : Nat); omega)) (by first | decide | (show _ ≤ (24 : Nat); omega)) ?_
    exact hQ σ1 h1 m1.lz0 hz1 (fun e9 => absurd (show (1 : Nat) = 0 from e9) (by decide))
  | 2, _ =>
    refine zWx_catch (E := eA) (pre := [(0, 12, 15, 29)]) (suf := [(0, 12, 23, 13)]) (x := (0, 12, 19, 19)) rfl (fun z9 q9 => by rw [List.mem_singleton.mp q9]; exact ⟨by decide, eI, b719, by decide⟩) (by decide) (by decide) (by decide) b548 (by decide) (fun q => ?_)
    refine zW_astore dL_setPower_19 (by decide) rfl rfl ?_
    refine zW_iconst dL_setPower_21 ?_
    refine zW_ireturn dL_setPower_22 rfl rfl (by first | decide | (show _ ≤ (4 : Nat); omega)) (by first | decide | (show _ ≤ (24 : Nat); omega)) ?_
    exact hQ σ1 h1 m1.lz0 hz1 (fun e9 => absurd (show (2 : Nat) = 0 from e9) (by decide))
  | 3, _ =>
    refine zWx_catch (E := eS) (pre := [(0, 12, 15, 29), (0, 12, 19, 19)]) (suf := []) (x := (0, 12, 23, 13)) rfl (fun z9 q9 => (List.mem_cons.mp q9).elim (fun e9 => by rw [e9]; exact ⟨by decide, eI, b719, by decide⟩) (fun e9 => by rw [List.mem_singleton.mp e9]; exact ⟨by decide, eA, b548, by decide⟩)) (by decide) (by decide) (by decide) b520 (by decide) (fun q => ?_)
    refine zW_astore dL_setPower_23 (by decide) rfl rfl ?_
    refine zW_iconst dL_setPower_25 ?_
    refine zW_ireturn dL_setPower_26 rfl rfl (by first | decide | (show _ ≤ (4 : Nat); omega)) (by first | decide | (show _ ≤ (24 : Nat); omega)) ?_
    exact hQ σ1 h1 m1.lz0 hz1 (fun e9 => absurd (show (3 : Nat) = 0 from e9) (by decide))
  | j9 + 4, on => exact absurd on (by show ¬ (j9 + 4 ≤ 3); omega)
set_option maxRecDepth 100000 in
theorem on_setRoot {p r : Int} : (o_setRoot A p r).1 ≤ 2 := by
  unfold o_setRoot
  try unfold g2
  try unfold g1
  try unfold gg2
  try unfold gg1
  try unfold o_store
  repeat' split
  all_goals first | exact Nat.zero_le _ | decide | (show (1 : Nat) ≤ _; decide) | (show (2 : Nat) ≤ _; decide) | (show (3 : Nat) ≤ _; decide)
set_option maxRecDepth 100000 in
theorem l_setRoot {p r : Int} (h : CI σ x A) (hz : zK σ z = (14, 1)) (hzx : z < x ∨ x + 521 ≤ z) (ip : InR p) (ir : InR r) (hQ : ∀ σ', CI σ' x (o_setRoot A p r).2.2 → Mx σ σ' (lzz x z) → zK σ' z = (14, 1) → ((o_setRoot A p r).1 = 0 → zJ σ' z 0 = nrm (o_setRoot A p r).2.1) → Q (.inl (some (vI ((o_setRoot A p r).1 : Nat)))) σ') : zM Γ mL_setRoot [vR (some x), vI p, vI r, vR (some z)] σ Q := by
  have on := on_setRoot (A := A) (p := p) (r := r)
  refine zM_ofH (n := 1) (by decide +kernel) rfl rfl rfl ?_
  refine zW_aload_n dL_setRoot_0 rfl ?_
  refine zW_iconst dL_setRoot_1 ?_
  refine zW_aload_n dL_setRoot_2 rfl ?_
  refine zW_iload_n dL_setRoot_3 rfl ?_
  refine zW_iload_n dL_setRoot_4 rfl ?_
  refine zhV2 dL_setRoot_5 rfl eX9_setRoot b1119 ⟨by decide, by decide, by decide, by decide⟩ rfl h.xk.1 rfl (by decide) (Nat.le_of_ble_eq_true rfl) (c_setRoot h ip ir (fun σ1 h1 m1 => ?_))
  have hz1 : zK σ1 z = (14, 1) := by rw [(m1 z (fun q => by unfold xr at q; omega)).1]; exact hz
  generalize o_setRoot A p r = o at h1 hQ on ⊢
  obtain ⟨n9, v9, A9⟩ := o
  match n9, on with
  | 0, _ =>
    show zW Γ mL_setRoot 8 _ _ _ _ _ Q
    refine zW_nrm ?_
    have hv := nrm_in v9
    refine zW_i2l dL_setRoot_8 (by first | assumption | omega | (unfold InR; omega) | (unfold InL; omega) | (simp only [InR] at *; omega)) ?_
    refine zW_last dL_setRoot_9 hz1 (by first | assumption | omega | (unfold InR; omega) | (unfold InL; omega) | (simp only [InR] at *; omega)) (by first | assumption | omega | (unfold InR; omega) | (unfold InL; omega) | (simp only [InR] at *; omega)) (by first | assumption | omega | (unfold InR; omega) | (unfold InL; omega) | (simp only [InR] at *; omega)) ?_
    refine zW_goto (tgt := 21) dL_setRoot_10 (by decide) ?_
    refine zW_iconst dL_setRoot_21 ?_
    refine zW_ireturn dL_setRoot_22 rfl rfl (by first | decide | (show _ ≤ (4 : Nat); omega)) (by first | decide | (show _ ≤ (24 : Nat); omega)) ?_
    exact hQ _ (h1.lz hzx) m1.lz hz1 (fun _ => zJ_sJs _ _ _ _)
  | 1, _ =>
    refine zWx_catch (E := eI) (pre := []) (suf := [(0, 10, 17, 70)]) (x := (0, 10, 13, 29)) rfl (fun z9 q9 => by cases q9) (by decide) (by decide) (by decide) b719 (by decide) (fun q => ?_)
    refine zW_astore dL_setRoot_13 (by decide) rfl rfl ?_
    refine zW_iconst dL_setRoot_15 ?_
    refine zW_ireturn dL_setRoot_16 rfl rfl (by first | decide | (show _ ≤ (4 : Nat); omega)) (by first | decide | (show _ ≤ (24 : Nat); omega)) ?_
    exact hQ σ1 h1 m1.lz0 hz1 (fun e9 => absurd (show (1 : Nat) = 0 from e9) (by decide))
  | 2, _ =>
    refine zWx_catch (E := eN) (pre := [(0, 10, 13, 29)]) (suf := []) (x := (0, 10, 17, 70)) rfl (fun z9 q9 => by rw [List.mem_singleton.mp q9]; exact ⟨by decide, eI, b719, by decide⟩) (by decide) (by decide) (by decide) b855 (by decide) (fun q => ?_)
    refine zW_astore dL_setRoot_17 (by decide) rfl rfl ?_
    refine zW_iconst dL_setRoot_19 ?_
    refine zW_ireturn dL_setRoot_20 rfl rfl (by first | decide | (show _ ≤ (4 : Nat); omega)) (by first | decide | (show _ ≤ (24 : Nat); omega)) ?_
    exact hQ σ1 h1 m1.lz0 hz1 (fun e9 => absurd (show (2 : Nat) = 0 from e9) (by decide))
  | j9 + 3, on => exact absurd on (by show ¬ (j9 + 3 ≤ 2); omega)
set_option maxRecDepth 100000 in
theorem on_substitute {p r t s : Int} : (o_substitute A p r t s).1 ≤ 2 := by
  unfold o_substitute
  try unfold g2
  try unfold g1
  try unfold gg2
  try unfold gg1
  try unfold o_store
  repeat' split
  all_goals first | exact Nat.zero_le _ | decide | (show (1 : Nat) ≤ _; decide) | (show (2 : Nat) ≤ _; decide) | (show (3 : Nat) ≤ _; decide)
set_option maxRecDepth 100000 in
theorem l_substitute {p r t s : Int} (h : CI σ x A) (hz : zK σ z = (14, 1)) (hzx : z < x ∨ x + 521 ≤ z) (ip : InR p) (ir : InR r) (it : InR t) (is : InR s) (hr9 : sRk (aSt A) ≤ 4) (hQ : ∀ σ', CI σ' x (o_substitute A p r t s).2.2 → Mx σ σ' (lzz x z) → zK σ' z = (14, 1) → ((o_substitute A p r t s).1 = 0 → zJ σ' z 0 = nrm (o_substitute A p r t s).2.1) → Q (.inl (some (vI ((o_substitute A p r t s).1 : Nat)))) σ') : zM Γ mL_substitute [vR (some x), vI p, vI r, vI t, vI s, vR (some z)] σ Q := by
  have on := on_substitute (A := A) (p := p) (r := r) (t := t) (s := s)
  refine zM_ofH (n := 1) (by decide +kernel) rfl rfl rfl ?_
  refine zW_aload dL_substitute_0 rfl ?_
  refine zW_iconst dL_substitute_2 ?_
  refine zW_aload_n dL_substitute_3 rfl ?_
  refine zW_iload_n dL_substitute_4 rfl ?_
  refine zW_iload_n dL_substitute_5 rfl ?_
  refine zW_iload_n dL_substitute_6 rfl ?_
  refine zW_iload dL_substitute_7 rfl ?_
  refine zhV4 dL_substitute_9 rfl eX9_substitute b1128 ⟨by decide, by decide, by decide, by decide⟩ rfl h.xk.1 rfl (by decide) (Nat.le_of_ble_eq_true rfl) (c_substitute h ip ir it is hr9 (fun σ1 h1 m1 => ?_))
  have hz1 : zK σ1 z = (14, 1) := by rw [(m1 z (fun q => by unfold xr at q; omega)).1]; exact hz
  generalize o_substitute A p r t s = o at h1 hQ on ⊢
  obtain ⟨n9, v9, A9⟩ := o
  match n9, on with
  | 0, _ =>
    show zW Γ mL_substitute 12 _ _ _ _ _ Q
    refine zW_nrm ?_
    have hv := nrm_in v9
    refine zW_i2l dL_substitute_12 (by first | assumption | omega | (unfold InR; omega) | (unfold InL; omega) | (simp only [InR] at *; omega)) ?_
    refine zW_last dL_substitute_13 hz1 (by first | assumption | omega | (unfold InR; omega) | (unfold InL; omega) | (simp only [InR] at *; omega)) (by first | assumption | omega | (unfold InR; omega) | (unfold InL; omega) | (simp only [InR] at *; omega)) (by first | assumption | omega | (unfold InR; omega) | (unfold InL; omega) | (simp only [InR] at *; omega)) ?_
    refine zW_goto (tgt := 25) dL_substitute_14 (by decide) ?_
    refine zW_iconst dL_substitute_25 ?_
    refine zW_ireturn dL_substitute_26 rfl rfl (by first | decide | (show _ ≤ (5 : Nat); omega)) (by first | decide | (show _ ≤ (30 : Nat); omega)) ?_
    exact hQ _ (h1.lz hzx) m1.lz hz1 (fun _ => zJ_sJs _ _ _ _)
  | 1, _ =>
    refine zWx_catch (E := eI) (pre := []) (suf := [(0, 14, 21, 13)]) (x := (0, 14, 17, 29)) rfl (fun z9 q9 => by cases q9) (by decide) (by decide) (by decide) b719 (by decide) (fun q => ?_)
    refine zW_astore dL_substitute_17 (by decide) rfl rfl ?_
    refine zW_iconst dL_substitute_19 ?_
    refine zW_ireturn dL_substitute_20 rfl rfl (by first | decide | (show _ ≤ (5 : Nat); omega)) (by first | decide | (show _ ≤ (30 : Nat); omega)) ?_
    exact hQ σ1 h1 m1.lz0 hz1 (fun e9 => absurd (show (1 : Nat) = 0 from e9) (by decide))
  | 2, _ =>
    refine zWx_catch (E := eS) (pre := [(0, 14, 17, 29)]) (suf := []) (x := (0, 14, 21, 13)) rfl (fun z9 q9 => by rw [List.mem_singleton.mp q9]; exact ⟨by decide, eI, b719, by decide⟩) (by decide) (by decide) (by decide) b520 (by decide) (fun q => ?_)
    refine zW_astore dL_substitute_21 (by decide) rfl rfl ?_
    refine zW_iconst dL_substitute_23 ?_
    refine zW_ireturn dL_substitute_24 rfl rfl (by first | decide | (show _ ≤ (5 : Nat); omega)) (by first | decide | (show _ ≤ (30 : Nat); omega)) ?_
    exact hQ σ1 h1 m1.lz0 hz1 (fun e9 => absurd (show (2 : Nat) = 0 from e9) (by decide))
  | j9 + 3, on => exact absurd on (by show ¬ (j9 + 3 ≤ 2); omega)
set_option maxRecDepth 100000 in
theorem on_addGeneratingWord {g r : Int} : (o_addGeneratingWord A g r).1 ≤ 2 := by
  unfold o_addGeneratingWord
  try unfold g2
  try unfold g1
  try unfold gg2
  try unfold gg1
  try unfold o_store
  repeat' split
  all_goals first | exact Nat.zero_le _ | decide | (show (1 : Nat) ≤ _; decide) | (show (2 : Nat) ≤ _; decide) | (show (3 : Nat) ≤ _; decide)
set_option maxRecDepth 100000 in
theorem l_addGeneratingWord {g r : Int} (h : CI σ x A) (hz : zK σ z = (14, 1)) (hzx : z < x ∨ x + 521 ≤ z) (ig : InR g) (ir : InR r) (hQ : ∀ σ', CI σ' x (o_addGeneratingWord A g r).2.2 → Mx σ σ' (lzz x z) → zK σ' z = (14, 1) → ((o_addGeneratingWord A g r).1 = 0 → zJ σ' z 0 = nrm (o_addGeneratingWord A g r).2.1) → Q (.inl (some (vI ((o_addGeneratingWord A g r).1 : Nat)))) σ') : zM Γ mL_addGeneratingWord [vR (some x), vI g, vI r, vR (some z)] σ Q := by
  have on := on_addGeneratingWord (A := A) (g := g) (r := r)
  refine zM_ofH (n := 1) (by decide +kernel) rfl rfl rfl ?_
  refine zW_aload_n dL_addGeneratingWord_0 rfl ?_
  refine zW_iconst dL_addGeneratingWord_1 ?_
  refine zW_aload_n dL_addGeneratingWord_2 rfl ?_
  refine zW_iload_n dL_addGeneratingWord_3 rfl ?_
  refine zW_iload_n dL_addGeneratingWord_4 rfl ?_
  refine zhV2 dL_addGeneratingWord_5 rfl eX9_addGeneratingWord b1135 ⟨by decide, by decide, by decide, by decide⟩ rfl h.xk.1 rfl (by decide) (Nat.le_of_ble_eq_true rfl) (c_addGeneratingWord h ig ir (fun σ1 h1 m1 => ?_))
  have hz1 : zK σ1 z = (14, 1) := by rw [(m1 z (fun q => by unfold xr at q; omega)).1]; exact hz
  generalize o_addGeneratingWord A g r = o at h1 hQ on ⊢
  obtain ⟨n9, v9, A9⟩ := o
  match n9, on with
  | 0, _ =>
    show zW Γ mL_addGeneratingWord 8 _ _ _ _ _ Q
    refine zW_nrm ?_
    have hv := nrm_in v9
    refine zW_i2l dL_addGeneratingWord_8 (by first | assumption | omega | (unfold InR; omega) | (unfold InL; omega) | (simp only [InR] at *; omega)) ?_
    refine zW_last dL_addGeneratingWord_9 hz1 (by first | assumption | omega | (unfold InR; omega) | (unfold InL; omega) | (simp only [InR] at *; omega)) (by first | assumption | omega | (unfold InR; omega) | (unfold InL; omega) | (simp only [InR] at *; omega)) (by first | assumption | omega | (unfold InR; omega) | (unfold InL; omega) | (simp only [InR] at *; omega)) ?_
    refine zW_goto (tgt := 21) dL_addGeneratingWord_10 (by decide) ?_
    refine zW_iconst dL_addGeneratingWord_21 ?_
    refine zW_ireturn dL_addGeneratingWord_22 rfl rfl (by first | decide | (show _ ≤ (3 : Nat); omega)) (by first | decide | (show _ ≤ (18 : Nat); omega)) ?_
    exact hQ _ (h1.lz hzx) m1.lz hz1 (fun _ => zJ_sJs _ _ _ _)
  | 1, _ =>
    refine zWx_catch (E := eI) (pre := []) (suf := [(0, 10, 17, 13)]) (x := (0, 10, 13, 29)) rfl (fun z9 q9 => by cases q9) (by decide) (by decide) (by decide) b719 (by decide) (fun q => ?_)
    refine zW_astore dL_addGeneratingWord_13 (by decide) rfl rfl ?_
    refine zW_iconst dL_addGeneratingWord_15 ?_
    refine zW_ireturn dL_addGeneratingWord_16 rfl rfl (by first | decide | (show _ ≤ (3 : Nat); omega)) (by first | decide | (show _ ≤ (18 : Nat); omega)) ?_
    exact hQ σ1 h1 m1.lz0 hz1 (fun e9 => absurd (show (1 : Nat) = 0 from e9) (by decide))
  | 2, _ =>
    refine zWx_catch (E := eS) (pre := [(0, 10, 13, 29)]) (suf := []) (x := (0, 10, 17, 13)) rfl (fun z9 q9 => by rw [List.mem_singleton.mp q9]; exact ⟨by decide, eI, b719, by decide⟩) (by decide) (by decide) (by decide) b520 (by decide) (fun q => ?_)
    refine zW_astore dL_addGeneratingWord_17 (by decide) rfl rfl ?_
    refine zW_iconst dL_addGeneratingWord_19 ?_
    refine zW_ireturn dL_addGeneratingWord_20 rfl rfl (by first | decide | (show _ ≤ (3 : Nat); omega)) (by first | decide | (show _ ≤ (18 : Nat); omega)) ?_
    exact hQ σ1 h1 m1.lz0 hz1 (fun e9 => absurd (show (2 : Nat) = 0 from e9) (by decide))
  | j9 + 3, on => exact absurd on (by show ¬ (j9 + 3 ≤ 2); omega)
set_option maxRecDepth 100000 in
theorem on_removeGeneratingWord {g k : Int} : (o_removeGeneratingWord A g k).1 ≤ 1 := by
  unfold o_removeGeneratingWord
  try unfold g2
  try unfold g1
  try unfold gg2
  try unfold gg1
  try unfold o_store
  repeat' split
  all_goals first | exact Nat.zero_le _ | decide | (show (1 : Nat) ≤ _; decide) | (show (2 : Nat) ≤ _; decide) | (show (3 : Nat) ≤ _; decide)
set_option maxRecDepth 100000 in
theorem l_removeGeneratingWord {g k : Int} (h : CI σ x A) (hz : zK σ z = (14, 1)) (hzx : z < x ∨ x + 521 ≤ z) (ig : InR g) (ik : InR k) (hQ : ∀ σ', CI σ' x (o_removeGeneratingWord A g k).2.2 → Mx σ σ' (lzz x z) → zK σ' z = (14, 1) → ((o_removeGeneratingWord A g k).1 = 0 → zJ σ' z 0 = nrm (o_removeGeneratingWord A g k).2.1) → Q (.inl (some (vI ((o_removeGeneratingWord A g k).1 : Nat)))) σ') : zM Γ mL_removeGeneratingWord [vR (some x), vI g, vI k, vR (some z)] σ Q := by
  have on := on_removeGeneratingWord (A := A) (g := g) (k := k)
  refine zM_ofH (n := 1) (by decide +kernel) rfl rfl rfl ?_
  refine zW_aload_n dL_removeGeneratingWord_0 rfl ?_
  refine zW_iconst dL_removeGeneratingWord_1 ?_
  refine zW_aload_n dL_removeGeneratingWord_2 rfl ?_
  refine zW_iload_n dL_removeGeneratingWord_3 rfl ?_
  refine zW_iload_n dL_removeGeneratingWord_4 rfl ?_
  refine zhV2 dL_removeGeneratingWord_5 rfl eX9_removeGeneratingWord b1144 ⟨by decide, by decide, by decide, by decide⟩ rfl h.xk.1 rfl (by decide) (Nat.le_of_ble_eq_true rfl) (c_removeGeneratingWord h ig ik (fun σ1 h1 m1 => ?_))
  have hz1 : zK σ1 z = (14, 1) := by rw [(m1 z (fun q => by unfold xr at q; omega)).1]; exact hz
  generalize o_removeGeneratingWord A g k = o at h1 hQ on ⊢
  obtain ⟨n9, v9, A9⟩ := o
  match n9, on with
  | 0, _ =>
    show zW Γ mL_removeGeneratingWord 8 _ _ _ _ _ Q
    refine zW_nrm ?_
    have hv := nrm_in v9
    refine zW_i2l dL_removeGeneratingWord_8 (by first | assumption | omega | (unfold InR; omega) | (unfold InL; omega) | (simp only [InR] at *; omega)) ?_
    refine zW_last dL_removeGeneratingWord_9 hz1 (by first | assumption | omega | (unfold InR; omega) | (unfold InL; omega) | (simp only [InR] at *; omega)) (by first | assumption | omega | (unfold InR; omega) | (unfold InL; omega) | (simp only [InR] at *; omega)) (by first | assumption | omega | (unfold InR; omega) | (unfold InL; omega) | (simp only [InR] at *; omega)) ?_
    refine zW_goto (tgt := 17) dL_removeGeneratingWord_10 (by decide) ?_
    refine zW_iconst dL_removeGeneratingWord_17 ?_
    refine zW_ireturn dL_removeGeneratingWord_18 rfl rfl (by first | decide | (show _ ≤ (2 : Nat); omega)) (by first | decide | (show _ ≤ (12 : Nat); omega)) ?_
    exact hQ _ (h1.lz hzx) m1.lz hz1 (fun _ => zJ_sJs _ _ _ _)
  | 1, _ =>
    refine zWx_catch (E := eI) (pre := []) (suf := []) (x := (0, 10, 13, 29)) rfl (fun z9 q9 => by cases q9) (by decide) (by decide) (by decide) b719 (by decide) (fun q => ?_)
    refine zW_astore dL_removeGeneratingWord_13 (by decide) rfl rfl ?_
    refine zW_iconst dL_removeGeneratingWord_15 ?_
    refine zW_ireturn dL_removeGeneratingWord_16 rfl rfl (by first | decide | (show _ ≤ (2 : Nat); omega)) (by first | decide | (show _ ≤ (12 : Nat); omega)) ?_
    exact hQ σ1 h1 m1.lz0 hz1 (fun e9 => absurd (show (1 : Nat) = 0 from e9) (by decide))
  | j9 + 2, on => exact absurd on (by show ¬ (j9 + 2 ≤ 1); omega)
set_option maxRecDepth 100000 in
theorem on_undo : (o_undo A).1 ≤ 1 := by
  unfold o_undo
  try unfold g2
  try unfold g1
  try unfold gg2
  try unfold gg1
  try unfold o_store
  repeat' split
  all_goals first | exact Nat.zero_le _ | decide | (show (1 : Nat) ≤ _; decide) | (show (2 : Nat) ≤ _; decide) | (show (3 : Nat) ≤ _; decide)
set_option maxRecDepth 100000 in
theorem l_undo (h : CI σ x A) (hz : zK σ z = (14, 1)) (hzx : z < x ∨ x + 521 ≤ z) (hQ : ∀ σ', CI σ' x (o_undo A).2.2 → Mx σ σ' (lzz x z) → zK σ' z = (14, 1) → ((o_undo A).1 = 0 → zJ σ' z 0 = nrm (o_undo A).2.1) → Q (.inl (some (vI ((o_undo A).1 : Nat)))) σ') : zM Γ mL_undo [vR (some x), vR (some z)] σ Q := by
  have on := on_undo (A := A)
  refine zM_ofH (n := 1) (by decide +kernel) rfl rfl rfl ?_
  refine zW_aload_n dL_undo_0 rfl ?_
  refine zW_iconst dL_undo_1 ?_
  refine zW_aload_n dL_undo_2 rfl ?_
  refine zhV0 dL_undo_3 rfl eX9_undo b1155 ⟨by decide, by decide, by decide, by decide⟩ rfl h.xk.1 rfl (by decide) (Nat.le_of_ble_eq_true rfl) (c_undo h (fun σ1 h1 m1 => ?_))
  have hz1 : zK σ1 z = (14, 1) := by rw [(m1 z (fun q => by unfold xr at q; omega)).1]; exact hz
  generalize o_undo A = o at h1 hQ on ⊢
  obtain ⟨n9, v9, A9⟩ := o
  match n9, on with
  | 0, _ =>
    show zW Γ mL_undo 6 _ _ _ _ _ Q
    refine zW_nrm ?_
    have hv := nrm_in v9
    refine zW_i2l dL_undo_6 (by first | assumption | omega | (unfold InR; omega) | (unfold InL; omega) | (simp only [InR] at *; omega)) ?_
    refine zW_last dL_undo_7 hz1 (by first | assumption | omega | (unfold InR; omega) | (unfold InL; omega) | (simp only [InR] at *; omega)) (by first | assumption | omega | (unfold InR; omega) | (unfold InL; omega) | (simp only [InR] at *; omega)) (by first | assumption | omega | (unfold InR; omega) | (unfold InL; omega) | (simp only [InR] at *; omega)) ?_
    refine zW_goto (tgt := 14) dL_undo_8 (by decide) ?_
    refine zW_iconst dL_undo_14 ?_
    refine zW_ireturn dL_undo_15 rfl rfl (by first | decide | (show _ ≤ (1 : Nat); omega)) (by first | decide | (show _ ≤ (6 : Nat); omega)) ?_
    exact hQ _ (h1.lz hzx) m1.lz hz1 (fun _ => zJ_sJs _ _ _ _)
  | 1, _ =>
    refine zWx_catch (E := eS) (pre := []) (suf := []) (x := (0, 8, 11, 13)) rfl (fun z9 q9 => by cases q9) (by decide) (by decide) (by decide) b520 (by decide) (fun q => ?_)
    refine zW_astore_n dL_undo_11 (by decide) rfl rfl ?_
    refine zW_iconst dL_undo_12 ?_
    refine zW_ireturn dL_undo_13 rfl rfl (by first | decide | (show _ ≤ (1 : Nat); omega)) (by first | decide | (show _ ≤ (6 : Nat); omega)) ?_
    exact hQ σ1 h1 m1.lz0 hz1 (fun e9 => absurd (show (1 : Nat) = 0 from e9) (by decide))
  | j9 + 2, on => exact absurd on (by show ¬ (j9 + 2 ≤ 1); omega)
set_option maxRecDepth 100000 in
theorem on_restore : (o_restore A).1 ≤ 1 := by
  unfold o_restore
  try unfold g2
  try unfold g1
  try unfold gg2
  try unfold gg1
  try unfold o_store
  repeat' split
  all_goals first | exact Nat.zero_le _ | decide | (show (1 : Nat) ≤ _; decide) | (show (2 : Nat) ≤ _; decide) | (show (3 : Nat) ≤ _; decide)
set_option maxRecDepth 100000 in
theorem l_restore (h : CI σ x A) (hz : zK σ z = (14, 1)) (hzx : z < x ∨ x + 521 ≤ z) (hQ : ∀ σ', CI σ' x (o_restore A).2.2 → Mx σ σ' (lzz x z) → zK σ' z = (14, 1) → ((o_restore A).1 = 0 → zJ σ' z 0 = nrm (o_restore A).2.1) → Q (.inl (some (vI ((o_restore A).1 : Nat)))) σ') : zM Γ mL_restore [vR (some x), vR (some z)] σ Q := by
  have on := on_restore (A := A)
  refine zM_ofH (n := 1) (by decide +kernel) rfl rfl rfl ?_
  refine zW_aload_n dL_restore_0 rfl ?_
  refine zW_iconst dL_restore_1 ?_
  refine zW_aload_n dL_restore_2 rfl ?_
  refine zhV0 dL_restore_3 rfl eX9_restore b1167 ⟨by decide, by decide, by decide, by decide⟩ rfl h.xk.1 rfl (by decide) (Nat.le_of_ble_eq_true rfl) (c_restore h (fun σ1 h1 m1 => ?_))
  have hz1 : zK σ1 z = (14, 1) := by rw [(m1 z (fun q => by unfold xr at q; omega)).1]; exact hz
  generalize o_restore A = o at h1 hQ on ⊢
  obtain ⟨n9, v9, A9⟩ := o
  match n9, on with
  | 0, _ =>
    show zW Γ mL_restore 6 _ _ _ _ _ Q
    refine zW_nrm ?_
    have hv := nrm_in v9
    refine zW_i2l dL_restore_6 (by first | assumption | omega | (unfold InR; omega) | (unfold InL; omega) | (simp only [InR] at *; omega)) ?_
    refine zW_last dL_restore_7 hz1 (by first | assumption | omega | (unfold InR; omega) | (unfold InL; omega) | (simp only [InR] at *; omega)) (by first | assumption | omega | (unfold InR; omega) | (unfold InL; omega) | (simp only [InR] at *; omega)) (by first | assumption | omega | (unfold InR; omega) | (unfold InL; omega) | (simp only [InR] at *; omega)) ?_
    refine zW_goto (tgt := 14) dL_restore_8 (by decide) ?_
    refine zW_iconst dL_restore_14 ?_
    refine zW_ireturn dL_restore_15 rfl rfl (by first | decide | (show _ ≤ (1 : Nat); omega)) (by first | decide | (show _ ≤ (6 : Nat); omega)) ?_
    exact hQ _ (h1.lz hzx) m1.lz hz1 (fun _ => zJ_sJs _ _ _ _)
  | 1, _ =>
    refine zWx_catch (E := eS) (pre := []) (suf := []) (x := (0, 8, 11, 13)) rfl (fun z9 q9 => by cases q9) (by decide) (by decide) (by decide) b520 (by decide) (fun q => ?_)
    refine zW_astore_n dL_restore_11 (by decide) rfl rfl ?_
    refine zW_iconst dL_restore_12 ?_
    refine zW_ireturn dL_restore_13 rfl rfl (by first | decide | (show _ ≤ (1 : Nat); omega)) (by first | decide | (show _ ≤ (6 : Nat); omega)) ?_
    exact hQ σ1 h1 m1.lz0 hz1 (fun e9 => absurd (show (1 : Nat) = 0 from e9) (by decide))
  | j9 + 2, on => exact absurd on (by show ¬ (j9 + 2 ≤ 1); omega)
set_option maxRecDepth 100000 in
theorem on_formatWord {r : Int} : (o_formatWord A r).1 ≤ 1 := by
  unfold o_formatWord
  try unfold g2
  try unfold g1
  try unfold gg2
  try unfold gg1
  try unfold o_store
  repeat' split
  all_goals first | exact Nat.zero_le _ | decide | (show (1 : Nat) ≤ _; decide) | (show (2 : Nat) ≤ _; decide) | (show (3 : Nat) ≤ _; decide)
set_option maxRecDepth 100000 in
theorem l_formatWord {r : Int} (h : CI σ x A) (hz : zK σ z = (14, 1)) (hzx : z < x ∨ x + 521 ≤ z) (ir : InR r) (hQ : ∀ σ', CI σ' x (o_formatWord A r).2.2 → Mx σ σ' (lzz x z) → zK σ' z = (14, 1) → ((o_formatWord A r).1 = 0 → zJ σ' z 0 = nrm (o_formatWord A r).2.1) → Q (.inl (some (vI ((o_formatWord A r).1 : Nat)))) σ') : zM Γ mL_formatWord [vR (some x), vI r, vR (some z)] σ Q := by
  have on := on_formatWord (A := A) (r := r)
  refine zM_ofH (n := 1) (by decide +kernel) rfl rfl rfl ?_
  refine zW_aload_n dL_formatWord_0 rfl ?_
  refine zW_iconst dL_formatWord_1 ?_
  refine zW_aload_n dL_formatWord_2 rfl ?_
  refine zW_iload_n dL_formatWord_3 rfl ?_
  refine zhV1 dL_formatWord_4 rfl eX9_formatWord b1175 ⟨by decide, by decide, by decide, by decide⟩ rfl h.xk.1 rfl (by decide) (Nat.le_of_ble_eq_true rfl) (c_formatWord h ir (fun σ1 h1 m1 => ?_))
  have hz1 : zK σ1 z = (14, 1) := by rw [(m1 z (fun q => by unfold xr at q; omega)).1]; exact hz
  generalize o_formatWord A r = o at h1 hQ on ⊢
  obtain ⟨n9, v9, A9⟩ := o
  match n9, on with
  | 0, _ =>
    show zW Γ mL_formatWord 7 _ _ _ _ _ Q
    refine zW_nrm ?_
    have hv := nrm_in v9
    refine zW_i2l dL_formatWord_7 (by first | assumption | omega | (unfold InR; omega) | (unfold InL; omega) | (simp only [InR] at *; omega)) ?_
    refine zW_last dL_formatWord_8 hz1 (by first | assumption | omega | (unfold InR; omega) | (unfold InL; omega) | (simp only [InR] at *; omega)) (by first | assumption | omega | (unfold InR; omega) | (unfold InL; omega) | (simp only [InR] at *; omega)) (by first | assumption | omega | (unfold InR; omega) | (unfold InL; omega) | (simp only [InR] at *; omega)) ?_
    refine zW_goto (tgt := 15) dL_formatWord_9 (by decide) ?_
    refine zW_iconst dL_formatWord_15 ?_
    refine zW_ireturn dL_formatWord_16 rfl rfl (by first | decide | (show _ ≤ (1 : Nat); omega)) (by first | decide | (show _ ≤ (6 : Nat); omega)) ?_
    exact hQ _ (h1.lz hzx) m1.lz hz1 (fun _ => zJ_sJs _ _ _ _)
  | 1, _ =>
    refine zWx_catch (E := eI) (pre := []) (suf := []) (x := (0, 9, 12, 29)) rfl (fun z9 q9 => by cases q9) (by decide) (by decide) (by decide) b719 (by decide) (fun q => ?_)
    refine zW_astore_n dL_formatWord_12 (by decide) rfl rfl ?_
    refine zW_iconst dL_formatWord_13 ?_
    refine zW_ireturn dL_formatWord_14 rfl rfl (by first | decide | (show _ ≤ (1 : Nat); omega)) (by first | decide | (show _ ≤ (6 : Nat); omega)) ?_
    exact hQ σ1 h1 m1.lz0 hz1 (fun e9 => absurd (show (1 : Nat) = 0 from e9) (by decide))
  | j9 + 2, on => exact absurd on (by show ¬ (j9 + 2 ≤ 1); omega)
set_option maxRecDepth 100000 in
theorem on_formatBasisWord {g k : Int} : (o_formatBasisWord A g k).1 ≤ 1 := by
  unfold o_formatBasisWord
  try unfold g2
  try unfold g1
  try unfold gg2
  try unfold gg1
  try unfold o_store
  repeat' split
  all_goals first | exact Nat.zero_le _ | decide | (show (1 : Nat) ≤ _; decide) | (show (2 : Nat) ≤ _; decide) | (show (3 : Nat) ≤ _; decide)
set_option maxRecDepth 100000 in
theorem l_formatBasisWord {g k : Int} (h : CI σ x A) (hz : zK σ z = (14, 1)) (hzx : z < x ∨ x + 521 ≤ z) (ig : InR g) (ik : InR k) (hQ : ∀ σ', CI σ' x (o_formatBasisWord A g k).2.2 → Mx σ σ' (lzz x z) → zK σ' z = (14, 1) → ((o_formatBasisWord A g k).1 = 0 → zJ σ' z 0 = nrm (o_formatBasisWord A g k).2.1) → Q (.inl (some (vI ((o_formatBasisWord A g k).1 : Nat)))) σ') : zM Γ mL_formatBasisWord [vR (some x), vI g, vI k, vR (some z)] σ Q := by
  have on := on_formatBasisWord (A := A) (g := g) (k := k)
  refine zM_ofH (n := 1) (by decide +kernel) rfl rfl rfl ?_
  refine zW_aload_n dL_formatBasisWord_0 rfl ?_
  refine zW_iconst dL_formatBasisWord_1 ?_
  refine zW_aload_n dL_formatBasisWord_2 rfl ?_
  refine zW_iload_n dL_formatBasisWord_3 rfl ?_
  refine zW_iload_n dL_formatBasisWord_4 rfl ?_
  refine zhV2 dL_formatBasisWord_5 rfl eX9_formatBasisWord b1200 ⟨by decide, by decide, by decide, by decide⟩ rfl h.xk.1 rfl (by decide) (Nat.le_of_ble_eq_true rfl) (c_formatBasisWord h ig ik (fun σ1 h1 m1 => ?_))
  have hz1 : zK σ1 z = (14, 1) := by rw [(m1 z (fun q => by unfold xr at q; omega)).1]; exact hz
  generalize o_formatBasisWord A g k = o at h1 hQ on ⊢
  obtain ⟨n9, v9, A9⟩ := o
  match n9, on with
  | 0, _ =>
    show zW Γ mL_formatBasisWord 8 _ _ _ _ _ Q
    refine zW_nrm ?_
    have hv := nrm_in v9
    refine zW_i2l dL_formatBasisWord_8 (by first | assumption | omega | (unfold InR; omega) | (unfold InL; omega) | (simp only [InR] at *; omega)) ?_
    refine zW_last dL_formatBasisWord_9 hz1 (by first | assumption | omega | (unfold InR; omega) | (unfold InL; omega) | (simp only [InR] at *; omega)) (by first | assumption | omega | (unfold InR; omega) | (unfold InL; omega) | (simp only [InR] at *; omega)) (by first | assumption | omega | (unfold InR; omega) | (unfold InL; omega) | (simp only [InR] at *; omega)) ?_
    refine zW_goto (tgt := 17) dL_formatBasisWord_10 (by decide) ?_
    refine zW_iconst dL_formatBasisWord_17 ?_
    refine zW_ireturn dL_formatBasisWord_18 rfl rfl (by first | decide | (show _ ≤ (2 : Nat); omega)) (by first | decide | (show _ ≤ (12 : Nat); omega)) ?_
    exact hQ _ (h1.lz hzx) m1.lz hz1 (fun _ => zJ_sJs _ _ _ _)
  | 1, _ =>
    refine zWx_catch (E := eI) (pre := []) (suf := []) (x := (0, 10, 13, 29)) rfl (fun z9 q9 => by cases q9) (by decide) (by decide) (by decide) b719 (by decide) (fun q => ?_)
    refine zW_astore dL_formatBasisWord_13 (by decide) rfl rfl ?_
    refine zW_iconst dL_formatBasisWord_15 ?_
    refine zW_ireturn dL_formatBasisWord_16 rfl rfl (by first | decide | (show _ ≤ (2 : Nat); omega)) (by first | decide | (show _ ≤ (12 : Nat); omega)) ?_
    exact hQ σ1 h1 m1.lz0 hz1 (fun e9 => absurd (show (1 : Nat) = 0 from e9) (by decide))
  | j9 + 2, on => exact absurd on (by show ¬ (j9 + 2 ≤ 1); omega)
set_option maxRecDepth 100000 in
theorem on_formatRepresentative {g v : Int} : (o_formatRepresentative A g v).1 ≤ 1 := by
  unfold o_formatRepresentative
  try unfold g2
  try unfold g1
  try unfold gg2
  try unfold gg1
  try unfold o_store
  repeat' split
  all_goals first | exact Nat.zero_le _ | decide | (show (1 : Nat) ≤ _; decide) | (show (2 : Nat) ≤ _; decide) | (show (3 : Nat) ≤ _; decide)
set_option maxRecDepth 100000 in
theorem l_formatRepresentative {g v : Int} (h : CI σ x A) (hz : zK σ z = (14, 1)) (hzx : z < x ∨ x + 521 ≤ z) (ig : InR g) (iv : InR v) (hQ : ∀ σ', CI σ' x (o_formatRepresentative A g v).2.2 → Mx σ σ' (lzz x z) → zK σ' z = (14, 1) → ((o_formatRepresentative A g v).1 = 0 → zJ σ' z 0 = nrm (o_formatRepresentative A g v).2.1) → Q (.inl (some (vI ((o_formatRepresentative A g v).1 : Nat)))) σ') : zM Γ mL_formatRepresentative [vR (some x), vI g, vI v, vR (some z)] σ Q := by
  have on := on_formatRepresentative (A := A) (g := g) (v := v)
  refine zM_ofH (n := 1) (by decide +kernel) rfl rfl rfl ?_
  refine zW_aload_n dL_formatRepresentative_0 rfl ?_
  refine zW_iconst dL_formatRepresentative_1 ?_
  refine zW_aload_n dL_formatRepresentative_2 rfl ?_
  refine zW_iload_n dL_formatRepresentative_3 rfl ?_
  refine zW_iload_n dL_formatRepresentative_4 rfl ?_
  refine zhV2 dL_formatRepresentative_5 rfl eX9_formatRepresentative b1228 ⟨by decide, by decide, by decide, by decide⟩ rfl h.xk.1 rfl (by decide) (Nat.le_of_ble_eq_true rfl) (c_formatRepresentative h ig iv (fun σ1 h1 m1 => ?_))
  have hz1 : zK σ1 z = (14, 1) := by rw [(m1 z (fun q => by unfold xr at q; omega)).1]; exact hz
  generalize o_formatRepresentative A g v = o at h1 hQ on ⊢
  obtain ⟨n9, v9, A9⟩ := o
  match n9, on with
  | 0, _ =>
    show zW Γ mL_formatRepresentative 8 _ _ _ _ _ Q
    refine zW_nrm ?_
    have hv := nrm_in v9
    refine zW_i2l dL_formatRepresentative_8 (by first | assumption | omega | (unfold InR; omega) | (unfold InL; omega) | (simp only [InR] at *; omega)) ?_
    refine zW_last dL_formatRepresentative_9 hz1 (by first | assumption | omega | (unfold InR; omega) | (unfold InL; omega) | (simp only [InR] at *; omega)) (by first | assumption | omega | (unfold InR; omega) | (unfold InL; omega) | (simp only [InR] at *; omega)) (by first | assumption | omega | (unfold InR; omega) | (unfold InL; omega) | (simp only [InR] at *; omega)) ?_
    refine zW_goto (tgt := 17) dL_formatRepresentative_10 (by decide) ?_
    refine zW_iconst dL_formatRepresentative_17 ?_
    refine zW_ireturn dL_formatRepresentative_18 rfl rfl (by first | decide | (show _ ≤ (2 : Nat); omega)) (by first | decide | (show _ ≤ (12 : Nat); omega)) ?_
    exact hQ _ (h1.lz hzx) m1.lz hz1 (fun _ => zJ_sJs _ _ _ _)
  | 1, _ =>
    refine zWx_catch (E := eI) (pre := []) (suf := []) (x := (0, 10, 13, 29)) rfl (fun z9 q9 => by cases q9) (by decide) (by decide) (by decide) b719 (by decide) (fun q => ?_)
    refine zW_astore dL_formatRepresentative_13 (by decide) rfl rfl ?_
    refine zW_iconst dL_formatRepresentative_15 ?_
    refine zW_ireturn dL_formatRepresentative_16 rfl rfl (by first | decide | (show _ ≤ (2 : Nat); omega)) (by first | decide | (show _ ≤ (12 : Nat); omega)) ?_
    exact hQ σ1 h1 m1.lz0 hz1 (fun e9 => absurd (show (1 : Nat) = 0 from e9) (by decide))
  | j9 + 2, on => exact absurd on (by show ¬ (j9 + 2 ≤ 1); omega)
set_option maxRecDepth 100000 in
theorem on_formattedCharacter {i : Int} : (o_formattedCharacter A i).1 ≤ 1 := by
  unfold o_formattedCharacter
  try unfold g2
  try unfold g1
  try unfold gg2
  try unfold gg1
  try unfold o_store
  repeat' split
  all_goals first | exact Nat.zero_le _ | decide | (show (1 : Nat) ≤ _; decide) | (show (2 : Nat) ≤ _; decide) | (show (3 : Nat) ≤ _; decide)
set_option maxRecDepth 100000 in
theorem l_formattedCharacter {i : Int} (h : CI σ x A) (hz : zK σ z = (14, 1)) (hzx : z < x ∨ x + 521 ≤ z) (ii : InR i) (hQ : ∀ σ', CI σ' x (o_formattedCharacter A i).2.2 → Mx σ σ' (lzz x z) → zK σ' z = (14, 1) → ((o_formattedCharacter A i).1 = 0 → zJ σ' z 0 = nrm (o_formattedCharacter A i).2.1) → Q (.inl (some (vI ((o_formattedCharacter A i).1 : Nat)))) σ') : zM Γ mL_formattedCharacter [vR (some x), vI i, vR (some z)] σ Q := by
  have on := on_formattedCharacter (A := A) (i := i)
  refine zM_ofH (n := 1) (by decide +kernel) rfl rfl rfl ?_
  refine zW_aload_n dL_formattedCharacter_0 rfl ?_
  refine zW_iconst dL_formattedCharacter_1 ?_
  refine zW_aload_n dL_formattedCharacter_2 rfl ?_
  refine zW_iload_n dL_formattedCharacter_3 rfl ?_
  refine zhV1 dL_formattedCharacter_4 rfl eX9_formattedCharacter b1235 ⟨by decide, by decide, by decide, by decide⟩ rfl h.xk.1 rfl (by decide) (Nat.le_of_ble_eq_true rfl) (c_formattedCharacter h ii (fun σ1 h1 m1 => ?_))
  have hz1 : zK σ1 z = (14, 1) := by rw [(m1 z (fun q => by unfold xr at q; omega)).1]; exact hz
  generalize o_formattedCharacter A i = o at h1 hQ on ⊢
  obtain ⟨n9, v9, A9⟩ := o
  match n9, on with
  | 0, _ =>
    show zW Γ mL_formattedCharacter 7 _ _ _ _ _ Q
    refine zW_nrm ?_
    have hv := nrm_in v9
    refine zW_i2l dL_formattedCharacter_7 (by first | assumption | omega | (unfold InR; omega) | (unfold InL; omega) | (simp only [InR] at *; omega)) ?_
    refine zW_last dL_formattedCharacter_8 hz1 (by first | assumption | omega | (unfold InR; omega) | (unfold InL; omega) | (simp only [InR] at *; omega)) (by first | assumption | omega | (unfold InR; omega) | (unfold InL; omega) | (simp only [InR] at *; omega)) (by first | assumption | omega | (unfold InR; omega) | (unfold InL; omega) | (simp only [InR] at *; omega)) ?_
    refine zW_goto (tgt := 15) dL_formattedCharacter_9 (by decide) ?_
    refine zW_iconst dL_formattedCharacter_15 ?_
    refine zW_ireturn dL_formattedCharacter_16 rfl rfl (by first | decide | (show _ ≤ (1 : Nat); omega)) (by first | decide | (show _ ≤ (6 : Nat); omega)) ?_
    exact hQ _ (h1.lz hzx) m1.lz hz1 (fun _ => zJ_sJs _ _ _ _)
  | 1, _ =>
    refine zWx_catch (E := eI) (pre := []) (suf := []) (x := (0, 9, 12, 29)) rfl (fun z9 q9 => by cases q9) (by decide) (by decide) (by decide) b719 (by decide) (fun q => ?_)
    refine zW_astore_n dL_formattedCharacter_12 (by decide) rfl rfl ?_
    refine zW_iconst dL_formattedCharacter_13 ?_
    refine zW_ireturn dL_formattedCharacter_14 rfl rfl (by first | decide | (show _ ≤ (1 : Nat); omega)) (by first | decide | (show _ ≤ (6 : Nat); omega)) ?_
    exact hQ σ1 h1 m1.lz0 hz1 (fun e9 => absurd (show (1 : Nat) = 0 from e9) (by decide))
  | j9 + 2, on => exact absurd on (by show ¬ (j9 + 2 ≤ 1); omega)
end LROWS
